/-! THE LAW'S START: both constructors and the long array; the heap is then the layout -/
abbrev mL_law : ec_M := (yL_law, cL_law, 7, some .boolean)
abbrev mL_share : ec_M := (yL_share, cL_share, 4, some .int)
/-- new cells alone, from B on -/
def ec_l (B : Nat) (cs : List ec_C) : ec_H := (B + cs.length, fun b => if B ≤ b then cs[b - B]? else none)
section STA
variable {l : Launch} {D : va_G} {kA : FieldType → ClassId} {B : Nat} {X : State → Prop} {R : Room} {Z : Array Value → State → List Frame → State → Prop} {M : ec_M} {uc us pc : Nat} {L : List (Option Value)} {st : List Value}
theorem ec_l_add (cs : List ec_C) (c : ec_C) : ec_add (ec_l B cs) c = ec_l B (cs ++ [c]) := by
  unfold ec_add ec_l
  refine Prod.ext (by simp; omega) (funext fun b => ?_)
  dsimp only
  by_cases e : b = B + cs.length
  · rw [if_pos e, if_pos (by omega), e, Nat.add_sub_cancel_left]
    simp
  · rw [if_neg e]
    by_cases e2 : B ≤ b
    · rw [if_pos e2, if_pos e2]
      by_cases e3 : b - B < cs.length
      · rw [List.getElem?_append_left e3]
      · rw [List.getElem?_eq_none (by omega), List.getElem?_eq_none (by simp; omega)]
    · rw [if_neg e2, if_neg e2]
theorem ec_l_at {cs : List ec_C} {k : Nat} : (ec_l B cs).2 (B + k) = cs[k]? := by
  show (if B ≤ B + k then cs[B + k - B]? else none) = _
  rw [if_pos (Nat.le_add_right _ _), Nat.add_sub_cancel_left]
theorem ec_l_x (cs cs1 : List ec_C) (c0 c1 : ec_C) {q : Nat} (hq : cs.length = q) : ec_x (ec_l B (cs ++ [c0])) cs1 (B + q) c1 = ec_l B (cs ++ c1 :: cs1) := by
  unfold ec_x ec_l
  refine Prod.ext (by simp; omega) (funext fun b => ?_)
  dsimp only
  by_cases e : b = B + q
  · rw [if_pos e, if_pos (by omega), e, Nat.add_sub_cancel_left, List.getElem?_append_right (by omega), hq, Nat.sub_self]
    rfl
  · rw [if_neg e]
    by_cases e2 : B ≤ b
    · rw [if_pos e2]
      by_cases e3 : b - B < q
      · rw [if_pos (by simp; omega), if_pos e2, List.getElem?_append_left (by omega), List.getElem?_append_left (by omega)]
      · rw [if_neg (by simp; omega)]
        rw [List.getElem?_append_right (by omega)]
        obtain ⟨d, hd⟩ : ∃ d, b - B - cs.length = d + 1 := ⟨b - B - cs.length - 1, by omega⟩
        rw [hd, List.getElem?_cons_succ]
        rw [show b - (B + (cs ++ [c0]).length) = d by simp only [List.length_append, List.length_cons, List.length_nil]; omega, if_pos e2]
    · rw [if_neg e2, if_pos (by simp; omega), if_neg e2]
theorem l_new {idx ci N q : Nat} {fs : List Value} {cs : List ec_C} (hf : ec_cn M.1.cls idx ci N fs) (hd : decode M.2.1 pc = .ok (.new idx, 3)) (hc : uc + 1 ≤ R.cells) (hs : us + N ≤ R.slots) (hq : cs.length = q)
    (kk : ec_W l D kA B X R Z M (uc + 1) (us + N) (pc + 3) L (.ref (B + q) :: st) (ec_l B (cs ++ [.inr (ci, fs)]))) : ec_W l D kA B X R Z M uc us pc L st (ec_l B cs) := by
  subst hq
  refine e_new hf hd hc hs (Nat.le_add_right _ _) ?_
  rw [ec_l_add]
  exact kk
theorem l_call {idx : Nat} {M' : ec_M} {n q f lo mc ms : Nat} {As rest : List Value} {cs cs1 : List ec_C} {c0 c1 : ec_C} (hc : ec_cI M.1.cls idx M' n) (hd : decode M.2.1 pc = .ok (.invokespecial idx, 3)) (hq : cs.length = q) (hst : st = As.reverse ++ .ref (B + q) :: rest) (hn : As.length = n) (hca : ∀ v ∈ As, v.category = 1) (hle : As.length + 1 ≤ M'.2.2.1) (hcat : (rest.map fun v => v.category).sum ≤ 8)
    (hR : f + 1 ≤ R.frames ∧ 8 + (M'.2.2.1 + 11) + lo ≤ R.locals) (hR2 : uc + mc ≤ R.cells ∧ us + ms ≤ R.slots) (hF : ∀ h9 : ec_H, h9.1 = B + (q + 1) → h9.2 (B + q) = some c0 → ec_FI l D kA B f lo mc ms M' As h9 (B + q) cs1 c1)
    (kk : ec_W l D kA B X R Z M (uc + mc) (us + ms) (pc + 3) L rest (ec_l B (cs ++ c1 :: cs1))) : ec_W l D kA B X R Z M uc us pc L st (ec_l B (cs ++ [c0])) := by
  refine e_callI hc hd hst hn hca hle hcat hR hR2 (hF _ ?_ (ec_l_at.trans ?_)) (fun v h1 hp => ?_)
  · show B + (cs ++ [c0]).length = _
    rw [List.length_append, hq]
    rfl
  · rw [List.getElem?_append_right (by omega), hq, Nat.sub_self]
    rfl
  · obtain ⟨rfl, rfl⟩ := hp
    rw [ec_l_x cs cs1 c0 c1 hq]
    exact kk
end STA
abbrev nul9 : List Value := [.null, .null, .null, .null, .null, .null, .null, .null]
abbrev sugC (z : Nat) : ec_C := .inr (9, [.ref (z + 0), .ref (z + 2), .ref (z + 31), .ref (z + 156), .ref (z + 170), .ref (z + 191), .ref (z + 195), .ref (z + 202)])
def st1 (B : Nat) : List ec_C := sugC (B + 1) :: sa8 (B + 1)
def st2 (B : Nat) : List ec_C := st1 B ++ modC (B + 227) :: modc
def st3 (B : Nat) : List ec_C := st2 B ++ [.inl (.long, 1, .inr (.inl (fun _ => 0)))]
theorem st1_len (B : Nat) : (st1 B).length = 226 := by
  show (sa8 (B + 1)).length + 1 = 226
  rw [sa8_len]
theorem st2_len (B : Nat) : (st2 B).length = 244 := by
  unfold st2
  rw [List.length_append, st1_len]
  rfl
theorem st3_len (B : Nat) : (st3 B).length = 245 := by
  unfold st3
  rw [List.length_append, st2_len]
  rfl
/-- the numbers at the start -/
def m00 (k : Nat) : Nat → Int32 := if k = 4 then p6 else if k = 231 then p6 else if k = 196 then (fun j => if j = 2 then 1000000 else 0) else fun _ => 0
def m0 (k : Nat) : Nat → Int32 := if 6 ≤ k ∧ k < 32 then (fun j => if j < 26 then -1 else 0) else m00 k
theorem m0_own {k : Nat} (h1 : 6 ≤ k) (h2 : k < 32) : m0 k = fun j => if j < 26 then -1 else 0 := if_pos ⟨h1, h2⟩
theorem m0_else {k : Nat} (h : ¬ (6 ≤ k ∧ k < 32)) : m0 k = m00 k := if_neg h
theorem oc_eq {B z k N : Nat} (h : z + 1 = B + k) : ec_oc z N = .inl (.array .int, N, .inr (.inr (.inr (.inr (fun i => if i < N then some (B + (k + i)) else none))))) := by
  have : (fun i => if i < N then some (z + 1 + i) else none) = (fun i => if i < N then some (B + (k + i)) else none) := by
    funext i
    rw [h, Nat.add_assoc]
  unfold ec_oc
  rw [this]
theorem rf_eq {B z k N : Nat} (h : z = B + k) : rfC z N N = .inl (.object "SuggestSpell$Row", N, .inr (.inr (.inr (.inr (fun i => if i < N then some (B + (k + 2 * i)) else none))))) := by
  have : (fun j => if j < N then some (z + 2 * j) else none) = (fun i => if i < N then some (B + (k + 2 * i)) else none) := by
    funext i
    rw [h, Nat.add_assoc]
  unfold rfC
  rw [this]
theorem rws_at (z : Nat) : ∀ (n i : Nat), i < n → (rws z n)[2 * i]? = some (rowC (z + (2 * i + 1))) ∧ (rws z n)[2 * i + 1]? = some (ec_ic 12)
  | 0, i, h => absurd h (by omega)
  | n + 1, i, h => by
    show (rws z n ++ [rowC (z + (2 * n + 1)), ec_ic 12])[2 * i]? = _ ∧ (rws z n ++ [rowC (z + (2 * n + 1)), ec_ic 12])[2 * i + 1]? = _
    by_cases e : i < n
    · rw [List.getElem?_append_left (by rw [rws_len]; omega), List.getElem?_append_left (by rw [rws_len]; omega)]
      exact rws_at z n i e
    · have : i = n := by omega
      subst this
      rw [List.getElem?_append_right (by rw [rws_len]; omega), List.getElem?_append_right (by rw [rws_len]; omega), rws_len, Nat.sub_self, Nat.add_sub_cancel_left]
      exact ⟨rfl, rfl⟩

theorem sg1 (z : Nat) {k : Nat} (h : k < 2) : (sa8 z)[0 + k]? = (sb1 z)[k]? := by
  show (sa7 z ++ sb8 z)[0 + k]? = _
  rw [List.getElem?_append_left (by rw [sa7_len]; omega)]
  show (sa6 z ++ sb7 z)[0 + k]? = _
  rw [List.getElem?_append_left (by rw [sa6_len]; omega)]
  show (sa5 z ++ sb6 z)[0 + k]? = _
  rw [List.getElem?_append_left (by rw [sa5_len]; omega)]
  show (sa4 z ++ sb5 z)[0 + k]? = _
  rw [List.getElem?_append_left (by rw [sa4_len]; omega)]
  show (sa3 z ++ sb4 z)[0 + k]? = _
  rw [List.getElem?_append_left (by rw [sa3_len]; omega)]
  show (sa2 z ++ sb3 z)[0 + k]? = _
  rw [List.getElem?_append_left (by rw [sa2_len]; omega)]
  show (sa1 z ++ sb2 z)[0 + k]? = _
  rw [List.getElem?_append_left (by rw [sa1_len]; omega)]
  show ([] ++ sb1 z)[0 + k]? = _
  rw [List.nil_append, Nat.zero_add]
theorem sg2 (z : Nat) {k : Nat} (h : k < 29) : (sa8 z)[2 + k]? = (sb2 z)[k]? := by
  show (sa7 z ++ sb8 z)[2 + k]? = _
  rw [List.getElem?_append_left (by rw [sa7_len]; omega)]
  show (sa6 z ++ sb7 z)[2 + k]? = _
  rw [List.getElem?_append_left (by rw [sa6_len]; omega)]
  show (sa5 z ++ sb6 z)[2 + k]? = _
  rw [List.getElem?_append_left (by rw [sa5_len]; omega)]
  show (sa4 z ++ sb5 z)[2 + k]? = _
  rw [List.getElem?_append_left (by rw [sa4_len]; omega)]
  show (sa3 z ++ sb4 z)[2 + k]? = _
  rw [List.getElem?_append_left (by rw [sa3_len]; omega)]
  show (sa2 z ++ sb3 z)[2 + k]? = _
  rw [List.getElem?_append_left (by rw [sa2_len]; omega)]
  show (sa1 z ++ sb2 z)[2 + k]? = _
  rw [List.getElem?_append_right (by rw [sa1_len]; omega), sa1_len, Nat.add_sub_cancel_left]
theorem sg3 (z : Nat) {k : Nat} (h : k < 125) : (sa8 z)[31 + k]? = (sb3 z)[k]? := by
  show (sa7 z ++ sb8 z)[31 + k]? = _
  rw [List.getElem?_append_left (by rw [sa7_len]; omega)]
  show (sa6 z ++ sb7 z)[31 + k]? = _
  rw [List.getElem?_append_left (by rw [sa6_len]; omega)]
  show (sa5 z ++ sb6 z)[31 + k]? = _
  rw [List.getElem?_append_left (by rw [sa5_len]; omega)]
  show (sa4 z ++ sb5 z)[31 + k]? = _
  rw [List.getElem?_append_left (by rw [sa4_len]; omega)]
  show (sa3 z ++ sb4 z)[31 + k]? = _
  rw [List.getElem?_append_left (by rw [sa3_len]; omega)]
  show (sa2 z ++ sb3 z)[31 + k]? = _
  rw [List.getElem?_append_right (by rw [sa2_len]; omega), sa2_len, Nat.add_sub_cancel_left]
theorem sg4 (z : Nat) {k : Nat} (h : k < 14) : (sa8 z)[156 + k]? = (sb4 z)[k]? := by
  show (sa7 z ++ sb8 z)[156 + k]? = _
  rw [List.getElem?_append_left (by rw [sa7_len]; omega)]
  show (sa6 z ++ sb7 z)[156 + k]? = _
  rw [List.getElem?_append_left (by rw [sa6_len]; omega)]
  show (sa5 z ++ sb6 z)[156 + k]? = _
  rw [List.getElem?_append_left (by rw [sa5_len]; omega)]
  show (sa4 z ++ sb5 z)[156 + k]? = _
  rw [List.getElem?_append_left (by rw [sa4_len]; omega)]
  show (sa3 z ++ sb4 z)[156 + k]? = _
  rw [List.getElem?_append_right (by rw [sa3_len]; omega), sa3_len, Nat.add_sub_cancel_left]
theorem sg5 (z : Nat) {k : Nat} (h : k < 21) : (sa8 z)[170 + k]? = (sb5 z)[k]? := by
  show (sa7 z ++ sb8 z)[170 + k]? = _
  rw [List.getElem?_append_left (by rw [sa7_len]; omega)]
  show (sa6 z ++ sb7 z)[170 + k]? = _
  rw [List.getElem?_append_left (by rw [sa6_len]; omega)]
  show (sa5 z ++ sb6 z)[170 + k]? = _
  rw [List.getElem?_append_left (by rw [sa5_len]; omega)]
  show (sa4 z ++ sb5 z)[170 + k]? = _
  rw [List.getElem?_append_right (by rw [sa4_len]; omega), sa4_len, Nat.add_sub_cancel_left]
theorem sg6 (z : Nat) {k : Nat} (h : k < 4) : (sa8 z)[191 + k]? = (sb6 z)[k]? := by
  show (sa7 z ++ sb8 z)[191 + k]? = _
  rw [List.getElem?_append_left (by rw [sa7_len]; omega)]
  show (sa6 z ++ sb7 z)[191 + k]? = _
  rw [List.getElem?_append_left (by rw [sa6_len]; omega)]
  show (sa5 z ++ sb6 z)[191 + k]? = _
  rw [List.getElem?_append_right (by rw [sa5_len]; omega), sa5_len, Nat.add_sub_cancel_left]
theorem sg7 (z : Nat) {k : Nat} (h : k < 7) : (sa8 z)[195 + k]? = (sb7 z)[k]? := by
  show (sa7 z ++ sb8 z)[195 + k]? = _
  rw [List.getElem?_append_left (by rw [sa7_len]; omega)]
  show (sa6 z ++ sb7 z)[195 + k]? = _
  rw [List.getElem?_append_right (by rw [sa6_len]; omega), sa6_len, Nat.add_sub_cancel_left]
theorem sg8 (z : Nat) {k : Nat} (h : k < 23) : (sa8 z)[202 + k]? = (sb8 z)[k]? := by
  show (sa7 z ++ sb8 z)[202 + k]? = _
  rw [List.getElem?_append_right (by rw [sa7_len]; omega), sa7_len, Nat.add_sub_cancel_left]
/-- a cell of the start is the layout's -/
def lk (B k : Nat) : Prop := (st3 B)[k]? = ly B (m0 k) 0 k
theorem lk_a {B k : Nat} (h : k < 225) (e : (sa8 (B + 1))[k]? = ly B (m0 (k + 1)) 0 (k + 1)) : lk B (k + 1) := by
  unfold lk st3 st2
  rw [List.getElem?_append_left (by rw [List.length_append, st1_len]; omega), List.getElem?_append_left (by rw [st1_len]; omega)]
  exact e
theorem lk_b {B k : Nat} (h : k < 18) (e : (modC (B + 227) :: modc)[k]? = ly B (m0 (226 + k)) 0 (226 + k)) : lk B (226 + k) := by
  unfold lk st3 st2
  rw [List.getElem?_append_left (by rw [List.length_append, st1_len]; show 226 + k < 226 + 18; omega), List.getElem?_append_right (by rw [st1_len]; omega), st1_len, Nat.add_sub_cancel_left]
  exact e
theorem lk_0 (B : Nat) : lk B 0 := rfl
theorem lk_1 (B : Nat) : lk B 1 := lk_a (k := 0) (by decide) ((sg1 (B + 1) (k := 0) (by decide)).trans rfl)
theorem lk_2 (B : Nat) : lk B 2 := lk_a (k := 1) (by decide) ((sg1 (B + 1) (k := 1) (by decide)).trans rfl)
theorem lk_3 (B : Nat) : lk B 3 := lk_a (k := 2) (by decide) ((sg2 (B + 1) (k := 0) (by decide)).trans rfl)
theorem lk_4 (B : Nat) : lk B 4 := lk_a (k := 3) (by decide) ((sg2 (B + 1) (k := 1) (by decide)).trans rfl)
theorem lk_5 (B : Nat) : lk B 5 := lk_a (k := 4) (by decide) ((sg2 (B + 1) (k := 2) (by decide)).trans (congrArg some (oc_eq (B := B) (k := 6) (by omega))))
theorem lk_32 (B : Nat) : lk B 32 := lk_a (k := 31) (by decide) ((sg3 (B + 1) (k := 0) (by decide)).trans rfl)
theorem lk_33 (B : Nat) : lk B 33 := lk_a (k := 32) (by decide) ((sg3 (B + 1) (k := 1) (by decide)).trans (congrArg some (rf_eq (B := B) (k := 37) (by omega))))
theorem lk_34 (B : Nat) : lk B 34 := lk_a (k := 33) (by decide) ((sg3 (B + 1) (k := 2) (by decide)).trans rfl)
theorem lk_35 (B : Nat) : lk B 35 := lk_a (k := 34) (by decide) ((sg3 (B + 1) (k := 3) (by decide)).trans rfl)
theorem lk_36 (B : Nat) : lk B 36 := lk_a (k := 35) (by decide) ((sg3 (B + 1) (k := 4) (by decide)).trans rfl)
theorem lk_157 (B : Nat) : lk B 157 := lk_a (k := 156) (by decide) ((sg4 (B + 1) (k := 0) (by decide)).trans rfl)
theorem lk_158 (B : Nat) : lk B 158 := lk_a (k := 157) (by decide) ((sg4 (B + 1) (k := 1) (by decide)).trans (congrArg some (rf_eq (B := B) (k := 159) (by omega))))
theorem lk_171 (B : Nat) : lk B 171 := lk_a (k := 170) (by decide) ((sg5 (B + 1) (k := 0) (by decide)).trans rfl)
theorem lk_172 (B : Nat) : lk B 172 := lk_a (k := 171) (by decide) ((sg5 (B + 1) (k := 1) (by decide)).trans rfl)
theorem lk_173 (B : Nat) : lk B 173 := lk_a (k := 172) (by decide) ((sg5 (B + 1) (k := 2) (by decide)).trans rfl)
theorem lk_174 (B : Nat) : lk B 174 := lk_a (k := 173) (by decide) ((sg5 (B + 1) (k := 3) (by decide)).trans rfl)
theorem lk_175 (B : Nat) : lk B 175 := lk_a (k := 174) (by decide) ((sg5 (B + 1) (k := 4) (by decide)).trans rfl)
theorem lk_176 (B : Nat) : lk B 176 := lk_a (k := 175) (by decide) ((sg5 (B + 1) (k := 5) (by decide)).trans (congrArg some (oc_eq (B := B) (k := 177) (by omega))))
theorem lk_177 (B : Nat) : lk B 177 := lk_a (k := 176) (by decide) ((sg5 (B + 1) (k := 6) (by decide)).trans rfl)
theorem lk_178 (B : Nat) : lk B 178 := lk_a (k := 177) (by decide) ((sg5 (B + 1) (k := 7) (by decide)).trans rfl)
theorem lk_179 (B : Nat) : lk B 179 := lk_a (k := 178) (by decide) ((sg5 (B + 1) (k := 8) (by decide)).trans rfl)
theorem lk_180 (B : Nat) : lk B 180 := lk_a (k := 179) (by decide) ((sg5 (B + 1) (k := 9) (by decide)).trans rfl)
theorem lk_181 (B : Nat) : lk B 181 := lk_a (k := 180) (by decide) ((sg5 (B + 1) (k := 10) (by decide)).trans rfl)
theorem lk_182 (B : Nat) : lk B 182 := lk_a (k := 181) (by decide) ((sg5 (B + 1) (k := 11) (by decide)).trans rfl)
theorem lk_183 (B : Nat) : lk B 183 := lk_a (k := 182) (by decide) ((sg5 (B + 1) (k := 12) (by decide)).trans rfl)
theorem lk_184 (B : Nat) : lk B 184 := lk_a (k := 183) (by decide) ((sg5 (B + 1) (k := 13) (by decide)).trans rfl)
theorem lk_185 (B : Nat) : lk B 185 := lk_a (k := 184) (by decide) ((sg5 (B + 1) (k := 14) (by decide)).trans rfl)
theorem lk_186 (B : Nat) : lk B 186 := lk_a (k := 185) (by decide) ((sg5 (B + 1) (k := 15) (by decide)).trans rfl)
theorem lk_187 (B : Nat) : lk B 187 := lk_a (k := 186) (by decide) ((sg5 (B + 1) (k := 16) (by decide)).trans rfl)
theorem lk_188 (B : Nat) : lk B 188 := lk_a (k := 187) (by decide) ((sg5 (B + 1) (k := 17) (by decide)).trans rfl)
theorem lk_189 (B : Nat) : lk B 189 := lk_a (k := 188) (by decide) ((sg5 (B + 1) (k := 18) (by decide)).trans rfl)
theorem lk_190 (B : Nat) : lk B 190 := lk_a (k := 189) (by decide) ((sg5 (B + 1) (k := 19) (by decide)).trans rfl)
theorem lk_191 (B : Nat) : lk B 191 := lk_a (k := 190) (by decide) ((sg5 (B + 1) (k := 20) (by decide)).trans rfl)
theorem lk_192 (B : Nat) : lk B 192 := lk_a (k := 191) (by decide) ((sg6 (B + 1) (k := 0) (by decide)).trans rfl)
theorem lk_193 (B : Nat) : lk B 193 := lk_a (k := 192) (by decide) ((sg6 (B + 1) (k := 1) (by decide)).trans rfl)
theorem lk_194 (B : Nat) : lk B 194 := lk_a (k := 193) (by decide) ((sg6 (B + 1) (k := 2) (by decide)).trans rfl)
theorem lk_195 (B : Nat) : lk B 195 := lk_a (k := 194) (by decide) ((sg6 (B + 1) (k := 3) (by decide)).trans rfl)
theorem lk_196 (B : Nat) : lk B 196 := lk_a (k := 195) (by decide) ((sg7 (B + 1) (k := 0) (by decide)).trans rfl)
theorem lk_197 (B : Nat) : lk B 197 := lk_a (k := 196) (by decide) ((sg7 (B + 1) (k := 1) (by decide)).trans rfl)
theorem lk_198 (B : Nat) : lk B 198 := lk_a (k := 197) (by decide) ((sg7 (B + 1) (k := 2) (by decide)).trans rfl)
theorem lk_199 (B : Nat) : lk B 199 := lk_a (k := 198) (by decide) ((sg7 (B + 1) (k := 3) (by decide)).trans rfl)
theorem lk_200 (B : Nat) : lk B 200 := lk_a (k := 199) (by decide) ((sg7 (B + 1) (k := 4) (by decide)).trans rfl)
theorem lk_201 (B : Nat) : lk B 201 := lk_a (k := 200) (by decide) ((sg7 (B + 1) (k := 5) (by decide)).trans rfl)
theorem lk_202 (B : Nat) : lk B 202 := lk_a (k := 201) (by decide) ((sg7 (B + 1) (k := 6) (by decide)).trans rfl)
theorem lk_203 (B : Nat) : lk B 203 := lk_a (k := 202) (by decide) ((sg8 (B + 1) (k := 0) (by decide)).trans rfl)
theorem lk_204 (B : Nat) : lk B 204 := lk_a (k := 203) (by decide) ((sg8 (B + 1) (k := 1) (by decide)).trans (congrArg some (oc_eq (B := B) (k := 205) (by omega))))
theorem lk_205 (B : Nat) : lk B 205 := lk_a (k := 204) (by decide) ((sg8 (B + 1) (k := 2) (by decide)).trans rfl)
theorem lk_206 (B : Nat) : lk B 206 := lk_a (k := 205) (by decide) ((sg8 (B + 1) (k := 3) (by decide)).trans rfl)
theorem lk_207 (B : Nat) : lk B 207 := lk_a (k := 206) (by decide) ((sg8 (B + 1) (k := 4) (by decide)).trans rfl)
theorem lk_208 (B : Nat) : lk B 208 := lk_a (k := 207) (by decide) ((sg8 (B + 1) (k := 5) (by decide)).trans rfl)
theorem lk_209 (B : Nat) : lk B 209 := lk_a (k := 208) (by decide) ((sg8 (B + 1) (k := 6) (by decide)).trans rfl)
theorem lk_210 (B : Nat) : lk B 210 := lk_a (k := 209) (by decide) ((sg8 (B + 1) (k := 7) (by decide)).trans rfl)
theorem lk_211 (B : Nat) : lk B 211 := lk_a (k := 210) (by decide) ((sg8 (B + 1) (k := 8) (by decide)).trans (congrArg some (oc_eq (B := B) (k := 212) (by omega))))
theorem lk_212 (B : Nat) : lk B 212 := lk_a (k := 211) (by decide) ((sg8 (B + 1) (k := 9) (by decide)).trans rfl)
theorem lk_213 (B : Nat) : lk B 213 := lk_a (k := 212) (by decide) ((sg8 (B + 1) (k := 10) (by decide)).trans rfl)
theorem lk_214 (B : Nat) : lk B 214 := lk_a (k := 213) (by decide) ((sg8 (B + 1) (k := 11) (by decide)).trans rfl)
theorem lk_215 (B : Nat) : lk B 215 := lk_a (k := 214) (by decide) ((sg8 (B + 1) (k := 12) (by decide)).trans rfl)
theorem lk_216 (B : Nat) : lk B 216 := lk_a (k := 215) (by decide) ((sg8 (B + 1) (k := 13) (by decide)).trans rfl)
theorem lk_217 (B : Nat) : lk B 217 := lk_a (k := 216) (by decide) ((sg8 (B + 1) (k := 14) (by decide)).trans rfl)
theorem lk_218 (B : Nat) : lk B 218 := lk_a (k := 217) (by decide) ((sg8 (B + 1) (k := 15) (by decide)).trans (congrArg some (oc_eq (B := B) (k := 219) (by omega))))
theorem lk_219 (B : Nat) : lk B 219 := lk_a (k := 218) (by decide) ((sg8 (B + 1) (k := 16) (by decide)).trans rfl)
theorem lk_220 (B : Nat) : lk B 220 := lk_a (k := 219) (by decide) ((sg8 (B + 1) (k := 17) (by decide)).trans rfl)
theorem lk_221 (B : Nat) : lk B 221 := lk_a (k := 220) (by decide) ((sg8 (B + 1) (k := 18) (by decide)).trans rfl)
theorem lk_222 (B : Nat) : lk B 222 := lk_a (k := 221) (by decide) ((sg8 (B + 1) (k := 19) (by decide)).trans rfl)
theorem lk_223 (B : Nat) : lk B 223 := lk_a (k := 222) (by decide) ((sg8 (B + 1) (k := 20) (by decide)).trans rfl)
theorem lk_224 (B : Nat) : lk B 224 := lk_a (k := 223) (by decide) ((sg8 (B + 1) (k := 21) (by decide)).trans rfl)
theorem lk_225 (B : Nat) : lk B 225 := lk_a (k := 224) (by decide) ((sg8 (B + 1) (k := 22) (by decide)).trans rfl)
theorem lk_226 (B : Nat) : lk B 226 := lk_b (k := 0) (by decide) rfl
theorem lk_227 (B : Nat) : lk B 227 := lk_b (k := 1) (by decide) rfl
theorem lk_228 (B : Nat) : lk B 228 := lk_b (k := 2) (by decide) rfl
theorem lk_229 (B : Nat) : lk B 229 := lk_b (k := 3) (by decide) rfl
theorem lk_230 (B : Nat) : lk B 230 := lk_b (k := 4) (by decide) rfl
theorem lk_231 (B : Nat) : lk B 231 := lk_b (k := 5) (by decide) rfl
theorem lk_232 (B : Nat) : lk B 232 := lk_b (k := 6) (by decide) rfl
theorem lk_233 (B : Nat) : lk B 233 := lk_b (k := 7) (by decide) rfl
theorem lk_234 (B : Nat) : lk B 234 := lk_b (k := 8) (by decide) rfl
theorem lk_235 (B : Nat) : lk B 235 := lk_b (k := 9) (by decide) rfl
theorem lk_236 (B : Nat) : lk B 236 := lk_b (k := 10) (by decide) rfl
theorem lk_237 (B : Nat) : lk B 237 := lk_b (k := 11) (by decide) rfl
theorem lk_238 (B : Nat) : lk B 238 := lk_b (k := 12) (by decide) rfl
theorem lk_239 (B : Nat) : lk B 239 := lk_b (k := 13) (by decide) rfl
theorem lk_240 (B : Nat) : lk B 240 := lk_b (k := 14) (by decide) rfl
theorem lk_241 (B : Nat) : lk B 241 := lk_b (k := 15) (by decide) rfl
theorem lk_242 (B : Nat) : lk B 242 := lk_b (k := 16) (by decide) rfl
theorem lk_243 (B : Nat) : lk B 243 := lk_b (k := 17) (by decide) rfl
theorem lk_244 (B : Nat) : lk B 244 := by
  unfold lk st3
  rw [List.getElem?_append_right (by rw [st2_len]; omega), st2_len]
  rfl
theorem lk_own (B : Nat) {i : Nat} (hi : i < 26) : lk B (6 + i) := by
  have h := lk_a (B := B) (k := 5 + i) (by omega) (by
    rw [show 5 + i + 1 = 6 + i by omega, ly_own B _ _ hi, m0_own (by omega) (by omega), show 5 + i = 2 + (3 + i) by omega, sg2 (B + 1) (k := 3 + i) (by omega), show 3 + i = i + 3 by omega]
    show (List.replicate 26 (fzC 26 (-1)) ++ List.replicate 0 (ec_ic 26))[i]? = _
    rw [List.getElem?_append_left (by simpa using hi), List.getElem?_replicate, if_pos hi])
  rw [show 5 + i + 1 = 6 + i by omega] at h
  exact h
theorem m0_z {k : Nat} (h1 : k ≠ 4) (h2 : k ≠ 231) (h3 : k ≠ 196) (h4 : k < 6 ∨ 32 ≤ k) : m0 k = fun _ => 0 := by
  rw [m0_else (by omega)]
  unfold m00
  rw [if_neg h1, if_neg h2, if_neg h3]
theorem sb3_row (z k : Nat) : (sb3 z)[k + 5]? = (rws (z + 32 + 4) 60)[k]? := by
  unfold sb3 wdsc
  rw [List.getElem?_cons_succ, List.getElem?_cons_succ, List.getElem?_cons_succ, List.getElem?_cons_succ, List.getElem?_cons_succ]
theorem sb4_row (z k : Nat) : (sb4 z)[k + 2]? = (rws (z + 157 + 1) 6)[k]? := by
  unfold sb4 linc
  rw [List.getElem?_cons_succ, List.getElem?_cons_succ]
theorem lk_wr (B : Nat) {i : Nat} (hi : i < 60) : lk B (37 + 2 * i) := by
  have h := lk_a (B := B) (k := 36 + 2 * i) (by omega) (by
    rw [show 36 + 2 * i + 1 = 37 + 2 * i by omega, ly_wr B _ _ hi, m0_z (by omega) (by omega) (by omega) (by omega), show 36 + 2 * i = 31 + (2 * i + 5) by omega, sg3 (B + 1) (k := 2 * i + 5) (by omega)]
    rw [sb3_row, (rws_at _ 60 i hi).1, show B + 1 + 32 + 4 + (2 * i + 1) = B + (38 + 2 * i) by omega]
    rfl)
  rw [show 36 + 2 * i + 1 = 37 + 2 * i by omega] at h
  exact h
theorem lk_wl (B : Nat) {i : Nat} (hi : i < 60) : lk B (38 + 2 * i) := by
  have h := lk_a (B := B) (k := 37 + 2 * i) (by omega) (by
    rw [show 37 + 2 * i + 1 = 38 + 2 * i by omega, ly_wl B _ _ hi, m0_z (by omega) (by omega) (by omega) (by omega), show 37 + 2 * i = 31 + (2 * i + 1 + 5) by omega, sg3 (B + 1) (k := 2 * i + 1 + 5) (by omega)]
    rw [sb3_row, (rws_at _ 60 i hi).2])
  rw [show 37 + 2 * i + 1 = 38 + 2 * i by omega] at h
  exact h
theorem lk_tr (B : Nat) {i : Nat} (hi : i < 6) : lk B (159 + 2 * i) := by
  have h := lk_a (B := B) (k := 158 + 2 * i) (by omega) (by
    rw [show 158 + 2 * i + 1 = 159 + 2 * i by omega, ly_tr B _ _ hi, m0_z (by omega) (by omega) (by omega) (by omega), show 158 + 2 * i = 156 + (2 * i + 2) by omega, sg4 (B + 1) (k := 2 * i + 2) (by omega)]
    rw [sb4_row, (rws_at _ 6 i hi).1, show B + 1 + 157 + 1 + (2 * i + 1) = B + (160 + 2 * i) by omega]
    rfl)
  rw [show 158 + 2 * i + 1 = 159 + 2 * i by omega] at h
  exact h
theorem lk_tl (B : Nat) {i : Nat} (hi : i < 6) : lk B (160 + 2 * i) := by
  have h := lk_a (B := B) (k := 159 + 2 * i) (by omega) (by
    rw [show 159 + 2 * i + 1 = 160 + 2 * i by omega, ly_tl B _ _ hi, m0_z (by omega) (by omega) (by omega) (by omega), show 159 + 2 * i = 156 + (2 * i + 1 + 2) by omega, sg4 (B + 1) (k := 2 * i + 1 + 2) (by omega)]
    rw [sb4_row, (rws_at _ 6 i hi).2])
  rw [show 159 + 2 * i + 1 = 160 + 2 * i by omega] at h
  exact h
theorem lk_row {B z n k : Nat} (h1 : z ≤ k) (h2 : k < z + 2 * n) (h : ∀ i, i < n → lk B (z + 2 * i)) (h' : ∀ i, i < n → lk B (z + 1 + 2 * i)) : lk B k := by
  rcases Nat.mod_two_eq_zero_or_one (k - z) with e | e
  · have := h ((k - z) / 2) (by omega)
    rwa [show z + 2 * ((k - z) / 2) = k by omega] at this
  · have := h' ((k - z) / 2) (by omega)
    rwa [show z + 1 + 2 * ((k - z) / 2) = k by omega] at this
theorem lkg_0 (B : Nat) : ∀ k, k < 6 → lk B (0 + k)
  | 0, _ => lk_0 B
  | 1, _ => lk_1 B
  | 2, _ => lk_2 B
  | 3, _ => lk_3 B
  | 4, _ => lk_4 B
  | 5, _ => lk_5 B
  | k + 6, h => absurd h (by omega)
theorem lkg_1 (B : Nat) : ∀ k, k < 5 → lk B (32 + k)
  | 0, _ => lk_32 B
  | 1, _ => lk_33 B
  | 2, _ => lk_34 B
  | 3, _ => lk_35 B
  | 4, _ => lk_36 B
  | k + 5, h => absurd h (by omega)
theorem lkg_2 (B : Nat) : ∀ k, k < 2 → lk B (157 + k)
  | 0, _ => lk_157 B
  | 1, _ => lk_158 B
  | k + 2, h => absurd h (by omega)
theorem lkg_3 (B : Nat) : ∀ k, k < 12 → lk B (171 + k)
  | 0, _ => lk_171 B
  | 1, _ => lk_172 B
  | 2, _ => lk_173 B
  | 3, _ => lk_174 B
  | 4, _ => lk_175 B
  | 5, _ => lk_176 B
  | 6, _ => lk_177 B
  | 7, _ => lk_178 B
  | 8, _ => lk_179 B
  | 9, _ => lk_180 B
  | 10, _ => lk_181 B
  | 11, _ => lk_182 B
  | k + 12, h => absurd h (by omega)
theorem lkg_4 (B : Nat) : ∀ k, k < 12 → lk B (183 + k)
  | 0, _ => lk_183 B
  | 1, _ => lk_184 B
  | 2, _ => lk_185 B
  | 3, _ => lk_186 B
  | 4, _ => lk_187 B
  | 5, _ => lk_188 B
  | 6, _ => lk_189 B
  | 7, _ => lk_190 B
  | 8, _ => lk_191 B
  | 9, _ => lk_192 B
  | 10, _ => lk_193 B
  | 11, _ => lk_194 B
  | k + 12, h => absurd h (by omega)
theorem lkg_5 (B : Nat) : ∀ k, k < 12 → lk B (195 + k)
  | 0, _ => lk_195 B
  | 1, _ => lk_196 B
  | 2, _ => lk_197 B
  | 3, _ => lk_198 B
  | 4, _ => lk_199 B
  | 5, _ => lk_200 B
  | 6, _ => lk_201 B
  | 7, _ => lk_202 B
  | 8, _ => lk_203 B
  | 9, _ => lk_204 B
  | 10, _ => lk_205 B
  | 11, _ => lk_206 B
  | k + 12, h => absurd h (by omega)
theorem lkg_6 (B : Nat) : ∀ k, k < 12 → lk B (207 + k)
  | 0, _ => lk_207 B
  | 1, _ => lk_208 B
  | 2, _ => lk_209 B
  | 3, _ => lk_210 B
  | 4, _ => lk_211 B
  | 5, _ => lk_212 B
  | 6, _ => lk_213 B
  | 7, _ => lk_214 B
  | 8, _ => lk_215 B
  | 9, _ => lk_216 B
  | 10, _ => lk_217 B
  | 11, _ => lk_218 B
  | k + 12, h => absurd h (by omega)
theorem lkg_7 (B : Nat) : ∀ k, k < 12 → lk B (219 + k)
  | 0, _ => lk_219 B
  | 1, _ => lk_220 B
  | 2, _ => lk_221 B
  | 3, _ => lk_222 B
  | 4, _ => lk_223 B
  | 5, _ => lk_224 B
  | 6, _ => lk_225 B
  | 7, _ => lk_226 B
  | 8, _ => lk_227 B
  | 9, _ => lk_228 B
  | 10, _ => lk_229 B
  | 11, _ => lk_230 B
  | k + 12, h => absurd h (by omega)
theorem lkg_8 (B : Nat) : ∀ k, k < 12 → lk B (231 + k)
  | 0, _ => lk_231 B
  | 1, _ => lk_232 B
  | 2, _ => lk_233 B
  | 3, _ => lk_234 B
  | 4, _ => lk_235 B
  | 5, _ => lk_236 B
  | 6, _ => lk_237 B
  | 7, _ => lk_238 B
  | 8, _ => lk_239 B
  | 9, _ => lk_240 B
  | 10, _ => lk_241 B
  | 11, _ => lk_242 B
  | k + 12, h => absurd h (by omega)
theorem lkg_9 (B : Nat) : ∀ k, k < 2 → lk B (243 + k)
  | 0, _ => lk_243 B
  | 1, _ => lk_244 B
  | k + 2, h => absurd h (by omega)
theorem lk_all (B k : Nat) (hk : k < 245) : lk B k := by
  by_cases e6 : k < 6
  · exact (by have := lkg_0 B (k - 0) (by omega); rwa [show 0 + (k - 0) = k by omega] at this)
  by_cases e32 : k < 32
  · exact (by have := lk_own B (i := k - 6) (by omega); rwa [show 6 + (k - 6) = k by omega] at this)
  by_cases e37 : k < 37
  · exact (by have := lkg_1 B (k - 32) (by omega); rwa [show 32 + (k - 32) = k by omega] at this)
  by_cases e157 : k < 157
  · exact lk_row (z := 37) (n := 60) (by omega) (by omega) (fun i hi => lk_wr B hi) (fun i hi => lk_wl B hi)
  by_cases e159 : k < 159
  · exact (by have := lkg_2 B (k - 157) (by omega); rwa [show 157 + (k - 157) = k by omega] at this)
  by_cases e171 : k < 171
  · exact lk_row (z := 159) (n := 6) (by omega) (by omega) (fun i hi => lk_tr B hi) (fun i hi => lk_tl B hi)
  by_cases e183 : k < 183
  · exact (by have := lkg_3 B (k - 171) (by omega); rwa [show 171 + (k - 171) = k by omega] at this)
  by_cases e195 : k < 195
  · exact (by have := lkg_4 B (k - 183) (by omega); rwa [show 183 + (k - 183) = k by omega] at this)
  by_cases e207 : k < 207
  · exact (by have := lkg_5 B (k - 195) (by omega); rwa [show 195 + (k - 195) = k by omega] at this)
  by_cases e219 : k < 219
  · exact (by have := lkg_6 B (k - 207) (by omega); rwa [show 207 + (k - 207) = k by omega] at this)
  by_cases e231 : k < 231
  · exact (by have := lkg_7 B (k - 219) (by omega); rwa [show 219 + (k - 219) = k by omega] at this)
  by_cases e243 : k < 243
  · exact (by have := lkg_8 B (k - 231) (by omega); rwa [show 231 + (k - 231) = k by omega] at this)
  exact (by have := lkg_9 B (k - 243) (by omega); rwa [show 243 + (k - 243) = k by omega] at this)
theorem ly_none {B : Nat} {m : Nat → Int32} {o : Int64} {k : Nat} (h : 245 ≤ k) : ly B m o k = none := by
  unfold ly
  rw [if_neg (by omega), if_neg (by omega), if_neg (by omega), if_neg (by omega), if_neg (by omega)]
  unfold ly_f
  repeat rw [if_neg (by omega)]
def pp0 (k : Nat) : Nat := if k = 0 then 2 else if k = 1 then 2 else if k = 2 then 3 else if k = 3 then 1 else if k = 4 then 5 else 4
/-- nothing typed, no words, the prices of the start -/
def S0 : sp_S := ((0, fun _ => 0), (0, fun _ => 0, fun _ _ => 0, fun _ => 0), (pp0, fun _ _ => 0), (fun _ _ => false), (0, fun _ => 0, fun _ _ => 0))
theorem p6_at : ∀ k, k < 6 → p6 k = nI (pp0 k)
  | 0, _ => rfl
  | 1, _ => rfl
  | 2, _ => rfl
  | 3, _ => rfl
  | 4, _ => rfl
  | 5, _ => rfl
  | k + 6, h => absurd h (by omega)
theorem S0_ok : ok S0 := by
  refine ⟨Nat.zero_le _, fun i h => absurd h (Nat.not_lt_zero _), Nat.zero_le _, fun i h => absurd h (Nat.not_lt_zero _), fun a b h => absurd h (Nat.not_lt_zero _), fun k h => ?_, by decide, by decide, fun _ _ => Nat.zero_le _, Nat.zero_le _, fun i h => absurd h (Nat.not_lt_zero _)⟩
  show pp0 k ≤ 9
  unfold pp0
  repeat (split; omega)
  omega
theorem cs0 : cs m0 S0 := by
  refine ⟨S0_ok, ⟨rfl, Nat.zero_le _, fun i h => absurd h (Nat.not_lt_zero _)⟩, ⟨fun k hk => p6_at k hk, S0_ok.2.2.2.2.2.1, by decide, by decide, fun a b ha hb => ?_, fun _ _ => Nat.zero_le _⟩, rfl, fun i h => absurd h (Nat.not_lt_zero _), ⟨fun _ => 0, fun i h => absurd h (Nat.not_lt_zero _), fun i j _ h => absurd h (Nat.not_lt_zero _), fun i h => absurd h (Nat.not_lt_zero _)⟩, fun a b _ _ => ?_, rfl, fun i h => absurd h (Nat.not_lt_zero _)⟩
  · rw [m0_own (by omega) (by omega)]
    exact if_pos hb
  · rw [m0_z (by omega) (by omega) (by omega) (by omega)]
    rfl
theorem ms0 : ms m0 S0 := by
  refine ⟨rfl, fun i h => absurd h (Nat.not_lt_zero _), rfl, fun i h => absurd h (Nat.not_lt_zero _), fun i k h => absurd h (Nat.not_lt_zero _), fun i h => absurd h (Nat.not_lt_zero _), fun k hk => p6_at k hk, fun a b _ _ => ?_, rfl, fun i h => absurd h (Nat.not_lt_zero _), fun i k h => absurd h (Nat.not_lt_zero _), fun a b _ _ => ?_⟩
  · rw [m0_z (by omega) (by omega) (by omega) (by omega)]
    rfl
  · rw [m0_z (by omega) (by omega) (by omega) (by omega)]
    rfl
section STB
variable {l : Launch} {D : va_G} {kA : FieldType → ClassId} {B : Nat} {X : State → Prop} {Z : Array Value → State → List Frame → State → Prop}
theorem lay0 {M : ec_M} {R : Room} {uc us pc : Nat} {L : List (Option Value)} {st : List Value} (kk : ec_W l D kA B X R Z M uc us pc L st (lay B (B + 245) 0 m0)) : ec_W l D kA B X R Z M uc us pc L st (ec_l B (st3 B)) := by
  refine e_weak (h' := lay B (B + 245) 0 m0) (by show B + 245 = B + (st3 B).length; rw [st3_len]) (fun b c hb => ?_) kk
  change (if B ≤ b then ly B (m0 (b - B)) 0 (b - B) else none) = some c at hb
  split at hb
  next e =>
    by_cases h : b - B < 245
    · rw [← lk_all B (b - B) h] at hb
      show (if B ≤ b then (st3 B)[b - B]? else none) = some c
      rw [if_pos e]
      exact hb
    · rw [ly_none (by omega)] at hb
      cases hb
  next e => cases hb
set_option maxRecDepth 100000 in
/-- from the law's entry to the head of its loop -/
theorem law_init {b : Nat} (kk : ec_W l D kA B X room_1 Z mL_law 245 13375 23 [some (.ref b), some (.ref (B + 0)), some (.ref (B + 226)), some (.ref (B + 244)), some (.int (nI 0)), none, none] [] (lay B (B + 245) 0 m0)) : ec_W l D kA B X room_1 Z mL_law 0 0 0 (ec_L0 mL_law [.ref b]) [] (B, fun _ => none) := by
  refine e_heap (h2 := ec_l B []) (Prod.ext rfl (funext fun a => ?_)) ?_
  · show none = if B ≤ a then ([] : List ec_C)[a - B]? else none
    simp
  refine l_new (q := 0) ld_L_8 dL_law_0 (Nat.le_of_ble_eq_true rfl) (Nat.le_of_ble_eq_true rfl) rfl ?_
  refine e_dup dL_law_3 rfl ?_
  refine l_call (mc := 225) (ms := 7060) (f := 3) (lo := 61) (q := 0) (As := []) (cs1 := sa8 (B + 1)) (c1 := sugC (B + 1)) lc_L_15 dL_law_4 rfl rfl rfl (by simp) (Nat.le_of_ble_eq_true rfl) (Nat.le_of_ble_eq_true rfl) ⟨Nat.le_of_ble_eq_true rfl, Nat.le_of_ble_eq_true rfl⟩ ⟨Nat.le_of_ble_eq_true rfl, Nat.le_of_ble_eq_true rfl⟩ (fun h9 e1 e2 => ?_) ?_
  · have k9 := k_SuggestSpell (l := l) (D := D) (kA := kA) (B := B) (h := h9) (a := B + 0) (by omega) (by omega) e2
    rw [e1] at k9
    exact k9
  refine e_heap (h2 := ec_l B (st1 B)) rfl ?_
  refine e_astore_n dL_law_7 rfl (by decide) rfl ?_
  refine l_new (q := 226) ld_L_16 dL_law_8 (Nat.le_of_ble_eq_true rfl) (Nat.le_of_ble_eq_true rfl) (st1_len B) ?_
  refine e_dup dL_law_11 rfl ?_
  refine l_call (mc := 17) (ms := 6281) (f := 1) (lo := 20) (q := 226) (As := []) (cs1 := modc) (c1 := modC (B + 227)) lc_L_18 dL_law_12 (st1_len B) rfl rfl (by simp) (Nat.le_of_ble_eq_true rfl) (Nat.le_of_ble_eq_true rfl) ⟨Nat.le_of_ble_eq_true rfl, Nat.le_of_ble_eq_true rfl⟩ ⟨Nat.le_of_ble_eq_true rfl, Nat.le_of_ble_eq_true rfl⟩ (fun h9 e1 e2 => ?_) ?_
  · have k9 := k_Model (l := l) (D := D) (kA := kA) (B := B) (h := h9) (a := B + 226) (by omega) (by omega) e2
    rw [e1] at k9
    exact k9
  refine e_heap (h2 := ec_l B (st2 B)) rfl ?_
  refine e_astore_n dL_law_15 rfl (by decide) rfl ?_
  refine e_iconst (v := nI 1) dL_law_16 (by decide) ?_
  refine e_newa (a0 := (1, .inr (.inl (fun _ => 0)))) (N := 1) dL_law_17 rfl wa_long (by decide) (fun _ => rfl) (by decide) (by decide) (by decide) (Nat.le_of_ble_eq_true rfl) (Nat.le_of_ble_eq_true rfl) (Nat.le_add_right _ _) ?_
  refine e_heap (h2 := ec_l B (st3 B)) (ec_l_add _ _) ?_
  have e9 : (ec_l B (st2 B)).1 = B + 244 := by
    show B + (st2 B).length = _
    rw [st2_len]
  rw [e9]
  refine e_astore_n dL_law_19 rfl (by decide) rfl ?_
  refine e_iconst (v := nI 0) dL_law_20 (by decide) ?_
  refine e_istore dL_law_21 (by decide) rfl ?_
  exact lay0 kk
end STB
