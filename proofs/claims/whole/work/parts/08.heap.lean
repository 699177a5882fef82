section ECH
variable {l : Launch} {D : va_G} {kA : FieldType → ClassId} {B : Nat} {X : State → Prop} {R : Room} {Z : Array Value → State → List Frame → State → Prop} {M : ec_M} {uc us pc : Nat} {L : List (Option Value)} {st : List Value} {h : ec_H}
/-- one cell is another one now -/
def ec_up (h : ec_H) (a : Nat) (c : ec_C) : ec_H := (h.1, fun b => if b = a then some c else h.2 b)
/-- a cell more -/
def ec_add (h : ec_H) (c : ec_C) : ec_H := (h.1 + 1, fun b => if b = h.1 then some c else h.2 b)
theorem ec_at_kept {a : Nat} {c : ec_C} {H H1 : Heap} (hc : ec_at D kA a c H) (hq : H1[a]? = H[a]?) : ec_at D kA a c H1 := by
  cases c with
  | inl x => exact hq.trans hc
  | inr o =>
    obtain ⟨r, h1, h2⟩ := hc
    exact ⟨r, h1, h2.kept hq⟩
theorem ec_at_lt {a : Nat} {c : ec_C} {H : Heap} (hc : ec_at D kA a c H) : a < H.size := by
  cases c with
  | inl x => exact (Array.getElem?_eq_some_iff.mp hc).1
  | inr o =>
    obtain ⟨r, h1, cell, h2, -⟩ := hc
    exact (Array.getElem?_eq_some_iff.mp h2).1
theorem ec_P_up {H H1 : Heap} {a : Nat} {c : ec_C} (hP : ec_P D kA B h H) (hB : B ≤ a) (hc : ec_at D kA a c H1) (z : H1.size = H.size) (o : ∀ q : Nat, q ≠ a → H1[q]? = H[q]?) : ec_P D kA B (ec_up h a c) H1 := by
  refine ⟨z.trans hP.1, fun b d hb => ?_⟩
  simp only [ec_up] at hb
  split at hb
  next e => cases hb; subst e; exact ⟨hB, hc⟩
  next e =>
    obtain ⟨h1, h2⟩ := hP.2 b d hb
    exact ⟨h1, ec_at_kept h2 (o b e)⟩
theorem ec_P_add {H H1 : Heap} {c : ec_C} (hP : ec_P D kA B h H) (hB : B ≤ h.1) (hc : ec_at D kA h.1 c H1) (z : H1.size = H.size + 1) (o : ∀ q : Nat, q < H.size → H1[q]? = H[q]?) : ec_P D kA B (ec_add h c) H1 := by
  refine ⟨by rw [z, hP.1]; rfl, fun b d hb => ?_⟩
  simp only [ec_add] at hb
  split at hb
  next e => cases hb; subst e; exact ⟨hB, hc⟩
  next e =>
    obtain ⟨h1, h2⟩ := hP.2 b d hb
    exact ⟨h1, ec_at_kept h2 (o b (ec_at_lt h2))⟩
theorem ec_S_add {H0 H H1 : Heap} {locs : List Loc} (hS : va_S (fun q => B ≤ q) H0 H locs) (z : H1.size = H.size + 1) (o : ∀ q : Nat, q < H.size → H1[q]? = H[q]?) : va_S (fun q => B ≤ q) H0 H1 locs :=
  ⟨by have := hS.1; omega, fun q h1 h2 => (o q (Nat.lt_of_lt_of_le h1 hS.1)).trans (hS.2.1 q h1 h2), hS.2.2⟩
/-- a field's link, by the class's number and the field's -/
def ec_fl (own : String) (idx ci k : Nat) : Prop := ∃ (C : String) (T : u_T) (N : Nat), vwCl[ci]? = some (C, T, N) ∧ k < N ∧ (∀ w ∈ u_ws C T N, w ∈ ec_tb) ∧ Cond.fieldLink own idx (T k).1 (T k).2.1 (T k).2.2.1 ∈ ec_tb
/-- a field that is written: its type, whether it's final (then in its own class's constructor) -/
def ec_fp (own : String) (idx ci k : Nat) (fin : Bool) (ty : FieldType) : Prop := ∃ (C : String) (T : u_T) (N : Nat) (ty0 : Nat → FieldType), vwCl[ci]? = some (C, T, N) ∧ k < N ∧ (∀ w ∈ u_ws C T N, w ∈ ec_tb) ∧ Cond.fieldLink own idx (T k).1 (T k).2.1 (T k).2.2.1 ∈ ec_tb ∧
  (∀ k, k < N → parseFieldDescriptor (T k).2.2.1 = some (ty0 k)) ∧ (∀ a, a < N → ∀ b, b < N → a ≠ b → (T a).2.1 ≠ (T b).2.1) ∧ (T k).2.2.2 = fin ∧ ty0 k = ty ∧ (fin = true → (T k).1 = own)
theorem e_get {idx a : Nat} {fs : List Value} {v : Value} (ci k : Nat) (hf : ec_fl M.1.cls idx ci k) (hd : decode M.2.1 pc = .ok (.getfield idx, 3)) (hc : h.2 a = some (.inr (ci, fs))) (hv : fs[k]? = some v) (kk : ec_W l D kA B X R Z M uc us (pc + 3) L (v :: st) h) : ec_W l D kA B X R Z M uc us pc L (.ref a :: st) h := by
  intro p e s m args below meth c H locs ls hx hb hr hml hown hts hlk hnm hK hX hB hP hS hl
  obtain ⟨C, T, N, hcl, hk, hin, hlink⟩ := hf
  obtain ⟨r, h1, cell, q1, q2, q3, q4⟩ := (hP.2 a _ hc).2
  have hr' : r = (C, T, N) := Option.some.inj (h1.symm.trans hcl)
  subst hr'
  obtain ⟨hS9, hfc, kC, hkC, hkind⟩ := hK.1.1 ci _ hcl
  obtain ⟨cf, kf, fi, f, hi, hsl⟩ := hS9 k hk
  refine W.getf hx hb hown (hts _ hlink) hi (u_facts hfc hkC (u_lays hts hin hk) hi).1 q1 (by rw [q3]; exact fun h => by cases h) (v := v) ?_ rfl rfl hd (kk p e s m args below meth c H locs ls hx hb hr hml hown hts hlk hnm hK hX hB hP hS hl)
  rw [hsl, q4 k hk]
  simp [vp_V, hv]
theorem ec_apart {s : State} {args : Array Value} {C : String} {T : u_T} {N ci : Nat} (hts : ∀ w ∈ ec_tb, w.before args s = true) (hin : ∀ w ∈ u_ws C T N, w ∈ ec_tb) (ty : Nat → FieldType) (hty : ∀ k, k < N → parseFieldDescriptor (T k).2.2.1 = some (ty k)) (hnm : ∀ a, a < N → ∀ b, b < N → a ≠ b → (T a).2.1 ≠ (T b).2.1) (hK : va_K D vwCl [] s) (hc : vwCl[ci]? = some (C, T, N)) : ∀ x y, x < N → y < N → x ≠ y → (D.2 ci) x ≠ (D.2 ci) y := va_apart (own := C) hts hin ty hty hnm hK hc
theorem e_put {idx a : Nat} {fs : List Value} {v : Value} {ty : FieldType} (ci k : Nat) (fin : Bool) (hf : ec_fp M.1.cls idx ci k fin ty) (hfi : fin = true → M.1.name = "<init>") (hd : decode M.2.1 pc = .ok (.putfield idx, 3)) (hc : h.2 a = some (.inr (ci, fs))) (hn : narrow ty v = v) (hfit : fits ty v = true) (hlt : k < fs.length) (kk : ec_W l D kA B X R Z M uc us (pc + 3) L st (ec_up h a (.inr (ci, fs.set k v)))) : ec_W l D kA B X R Z M uc us pc L (v :: .ref a :: st) h := by
  intro p e s m args below meth c H locs ls hx hb hr hml hown hts hlk hnm hK hX hB hP hS hl
  obtain ⟨C, T, N, ty0, hcl, hk, hin, hlink, hty, hnm9, hfin, hty9, hdecl⟩ := hf
  have hap := ec_apart (D := D) hts hin ty0 hty hnm9 hK.1 hcl
  obtain ⟨hBa, r, h1, cell, q1, q2, q3, q4⟩ := hP.2 a _ hc
  have hr' : r = (C, T, N) := Option.some.inj (h1.symm.trans hcl)
  subst hr'
  obtain ⟨hS9, hfc, kC, hkC, hkind⟩ := hK.1.1 ci _ hcl
  obtain ⟨cf, kf, fi, f, hi, hsl⟩ := hS9 k hk
  have hst := (u_facts hfc hkC (u_lays hts hin hk) hi).1
  have hlay := hts _ (hin _ (u_in_lay hk))
  unfold u_lay at hlay
  have fit9 := u_fits hfc hkC hkind (u_lays hts hin hk) hi (hty k hk) (by rw [hty9]; exact hn) (by rw [hty9]; exact hfit)
  have fin9 : ∀ (H1 : Heap), H1[a]? = some (cell.setSlot f.slot v) → H1.size = H.size → (∀ q, q ≠ a → H1[q]? = H[q]?) → W p l e R s m args below meth c H1 (locs ++ [⟨a, f.slot⟩]) uc us (Z args s below) (F0 m (pc + 3) ls st) := by
    intro H1 e1 e2 e3
    refine kk p e s m args below meth c H1 _ ls hx hb hr hml hown hts hlk hnm hK hX hB (ec_P_up hP hBa ?_ e2 e3) (hS.put e2 e3 hBa) hl
    rw [hsl] at e1
    exact ⟨_, hcl, t_OB.to (V := updV (vp_V fs) k v) ⟨_, e1, q2, q3, t_set q4 hap hk v⟩ (fun j _ => vp_updV_set hlt v j)⟩
  cases fin with
  | false =>
    rw [if_neg (by rw [hfin]; decide)] at hlay
    exact W.putK hx hb (f := f) ⟨hown, hts _ hlink, ⟨_, _, _, hi⟩, hst⟩ (by rw [q2]; exact u_store hfc hkC hkind hlay hi (hty k hk) (by rw [hty9]; exact hn) (by rw [hty9]; exact hfit)) q1 q3 (by rw [hsl]; exact k2_hasslot (q4 k hk)) rfl rfl hd fin9
  | true =>
    rw [if_pos hfin] at hlay
    have hcf : m.cls = cf := by
      obtain ⟨_, _, c', _, _, _, -, -, hf', -, -, -, hown2, -⟩ := Cond.laysFinal_spec hlay
      have e1 : c' = cf := by have := hi.symm.trans hf'; simp at this; exact this.1.symm
      rw [hdecl rfl] at hown2
      rw [← e1]; exact Option.some.inj (hown.symm.trans hown2)
    exact W.putFinK hx hb hown (hts _ hlink) hi hst hcf (hnm.trans (hfi rfl)) (by rw [q2]; exact fit9) q1 q3 (by rw [hsl]; exact k2_hasslot (q4 k hk)) rfl rfl hd fin9
/-! arrays -/
theorem e_iald {a n : Nat} {f : Nat → Int32} {i : Int32} {v : Int32} (hd : decode M.2.1 pc = .ok (.iaload, 1)) (hc : h.2 a = some (.inl (.int, n, .inl f))) (hin : vp_in i n) (hv : f i.toNatClampNeg = v) (kk : ec_W l D kA B X R Z M uc us (pc + 1) L (.int v :: st) h) : ec_W l D kA B X R Z M uc us pc L (.int i :: .ref a :: st) h := by
  intro p e s m args below meth c H locs ls hx hb hr hml hown hts hlk hnm hK hX hB hP hS hl
  subst hv
  have hlt : i.toNatClampNeg < n := Nat.not_le.mp fun q => hin (Or.inr q)
  exact W.iald (v := .int (f i.toNatClampNeg)) hx hb (hP.2 a _ hc).2 ((hK.2.1 .int (by decide)).1.1 n (fun j => .int (f j))) (fun q => by cases q) (by show ¬ (i < 0 ∨ (arrV _ _ _).slots.size ≤ _); rw [arrV_size]; exact hin) (by show (arrV _ _ _).slots[_]? = _; rw [arrV_read _ _ hlt]) rfl rfl hd (kk p e s m args below meth c H locs ls hx hb hr hml hown hts hlk hnm hK hX hB hP hS hl)
theorem e_zald {a n : Nat} {f : Nat → Int32} {i : Int32} {v : Int32} (hd : decode M.2.1 pc = .ok (.baload, 1)) (hc : h.2 a = some (.inl (.boolean, n, .inl f))) (hin : vp_in i n) (hv : f i.toNatClampNeg = v) (kk : ec_W l D kA B X R Z M uc us (pc + 1) L (.int v :: st) h) : ec_W l D kA B X R Z M uc us pc L (.int i :: .ref a :: st) h := by
  intro p e s m args below meth c H locs ls hx hb hr hml hown hts hlk hnm hK hX hB hP hS hl
  subst hv
  have hlt : i.toNatClampNeg < n := Nat.not_le.mp fun q => hin (Or.inr q)
  exact W.zald (v := .int (f i.toNatClampNeg)) hx hb (hP.2 a _ hc).2 ((hK.2.1 .boolean (by decide)).1.1 n (fun j => .int (f j))) (fun q => by cases q) (by show ¬ (i < 0 ∨ (arrV _ _ _).slots.size ≤ _); rw [arrV_size]; exact hin) (by show (arrV _ _ _).slots[_]? = _; rw [arrV_read _ _ hlt]) rfl rfl hd (kk p e s m args below meth c H locs ls hx hb hr hml hown hts hlk hnm hK hX hB hP hS hl)
theorem e_lald {a n : Nat} {f : Nat → Int64} {i : Int32} {v : Int64} (hd : decode M.2.1 pc = .ok (.laload, 1)) (hc : h.2 a = some (.inl (.long, n, .inr (.inl f)))) (hin : vp_in i n) (hv : f i.toNatClampNeg = v) (kk : ec_W l D kA B X R Z M uc us (pc + 1) L (.long v :: st) h) : ec_W l D kA B X R Z M uc us pc L (.int i :: .ref a :: st) h := by
  intro p e s m args below meth c H locs ls hx hb hr hml hown hts hlk hnm hK hX hB hP hS hl
  subst hv
  have hlt : i.toNatClampNeg < n := Nat.not_le.mp fun q => hin (Or.inr q)
  exact W.lald (v := .long (f i.toNatClampNeg)) hx hb (hP.2 a _ hc).2 ((hK.2.1 .long (by decide)).1.1 n (fun j => .long (f j))) (fun q => by cases q) (by show ¬ (i < 0 ∨ (arrV _ _ _).slots.size ≤ _); rw [arrV_size]; exact hin) (by show (arrV _ _ _).slots[_]? = _; rw [arrV_read _ _ hlt]) rfl rfl hd (kk p e s m args below meth c H locs ls hx hb hr hml hown hts hlk hnm hK hX hB hP hS hl)
theorem e_aald {a n : Nat} {ty : FieldType} {f : Nat → Option Nat} {i : Int32} {v : Value} (hd : decode M.2.1 pc = .ok (.aaload, 1)) (hty : ty ∈ ec_tys) (href : ty.isReference = true) (hc : h.2 a = some (.inl (ty, n, .inr (.inr (.inr (.inr f)))))) (hin : vp_in i n) (hv : va_rf (f i.toNatClampNeg) = v) (kk : ec_W l D kA B X R Z M uc us (pc + 1) L (v :: st) h) : ec_W l D kA B X R Z M uc us pc L (.int i :: .ref a :: st) h := by
  intro p e s m args below meth c H locs ls hx hb hr hml hown hts hlk hnm hK hX hB hP hS hl
  subst hv
  have hlt : i.toNatClampNeg < n := Nat.not_le.mp fun q => hin (Or.inr q)
  exact W.aald (v := va_rf (f i.toNatClampNeg)) (ty := ty) hx hb (hP.2 a _ hc).2 ((hK.2.1 ty hty).1.1 n (fun j => va_rf (f j))) href (fun q => by cases q) (by show ¬ (i < 0 ∨ (arrV _ _ _).slots.size ≤ _); rw [arrV_size]; exact hin) (by show (arrV _ _ _).slots[_]? = _; rw [arrV_read _ _ hlt]) rfl rfl hd (kk p e s m args below meth c H locs ls hx hb hr hml hown hts hlk hnm hK hX hB hP hS hl)
theorem e_iast {a n : Nat} {f : Nat → Int32} {i x : Int32} (hd : decode M.2.1 pc = .ok (.iastore, 1)) (hc : h.2 a = some (.inl (.int, n, .inl f))) (hin : vp_in i n) (kk : ec_W l D kA B X R Z M uc us (pc + 1) L st (ec_up h a (.inl (.int, n, .inl (upd f i.toNatClampNeg x))))) : ec_W l D kA B X R Z M uc us pc L (.int x :: .int i :: .ref a :: st) h := by
  intro p e s m args below meth c H locs ls hx hb hr hml hown hts hlk hnm hK hX hB hP hS hl
  obtain ⟨hBa, hat⟩ := hP.2 a _ hc
  refine W.iast hx hb hat ((hK.2.1 .int (by decide)).1.1 n (fun j => .int (f j))) (fun q => by cases q) (by show ¬ (i < 0 ∨ (arrV _ _ _).slots.size ≤ _); rw [arrV_size]; exact hin) rfl rfl hd fun H1 e1 z oq => ?_
  refine kk p e s m args below meth c H1 _ ls hx hb hr hml hown hts hlk hnm hK hX hB (ec_P_up hP hBa ?_ z oq) (hS.put z oq hBa) hl
  show H1[a]? = some (vp_cell _ _)
  rw [e1]
  rw [vp_cell_i, vp_cell_i, arrV_store]
  congr 2
  funext q
  by_cases hq : q = i.toNatClampNeg
  · subst hq
    simp [updV, upd]
  · simp [updV, upd, hq]
theorem e_zast {a n : Nat} {f : Nat → Int32} {i x y : Int32} (hd : decode M.2.1 pc = .ok (.bastore, 1)) (hc : h.2 a = some (.inl (.boolean, n, .inl f))) (hin : vp_in i n) (hy : vp_nar .boolean x = y) (kk : ec_W l D kA B X R Z M uc us (pc + 1) L st (ec_up h a (.inl (.boolean, n, .inl (upd f i.toNatClampNeg y))))) : ec_W l D kA B X R Z M uc us pc L (.int x :: .int i :: .ref a :: st) h := by
  intro p e s m args below meth c H locs ls hx hb hr hml hown hts hlk hnm hK hX hB hP hS hl
  subst hy
  obtain ⟨hBa, hat⟩ := hP.2 a _ hc
  refine W.zast hx hb hat ((hK.2.1 .boolean (by decide)).1.1 n (fun j => .int (f j))) (fun q => by cases q) (by show ¬ (i < 0 ∨ (arrV _ _ _).slots.size ≤ _); rw [arrV_size]; exact hin) rfl rfl hd fun H1 e1 z oq => ?_
  refine kk p e s m args below meth c H1 _ ls hx hb hr hml hown hts hlk hnm hK hX hB (ec_P_up hP hBa ?_ z oq) (hS.put z oq hBa) hl
  show H1[a]? = some (vp_cell _ _)
  rw [e1]
  rw [vp_cell_i, vp_cell_i, arrV_store]
  congr 2
  funext q
  by_cases hq : q = i.toNatClampNeg
  · subst hq
    simp [updV, upd, vp_nar]
    try rfl
  · simp [updV, upd, hq]
theorem e_last {a n : Nat} {f : Nat → Int64} {i : Int32} {x : Int64} (hd : decode M.2.1 pc = .ok (.lastore, 1)) (hc : h.2 a = some (.inl (.long, n, .inr (.inl f)))) (hin : vp_in i n) (kk : ec_W l D kA B X R Z M uc us (pc + 1) L st (ec_up h a (.inl (.long, n, .inr (.inl (vp_updL f i.toNatClampNeg x)))))) : ec_W l D kA B X R Z M uc us pc L (.long x :: .int i :: .ref a :: st) h := by
  intro p e s m args below meth c H locs ls hx hb hr hml hown hts hlk hnm hK hX hB hP hS hl
  obtain ⟨hBa, hat⟩ := hP.2 a _ hc
  refine W.last hx hb hat ((hK.2.1 .long (by decide)).1.1 n (fun j => .long (f j))) (fun q => by cases q) (by show ¬ (i < 0 ∨ (arrV _ _ _).slots.size ≤ _); rw [arrV_size]; exact hin) rfl rfl hd fun H1 e1 z oq => ?_
  refine kk p e s m args below meth c H1 _ ls hx hb hr hml hown hts hlk hnm hK hX hB (ec_P_up hP hBa ?_ z oq) (hS.put z oq hBa) hl
  show H1[a]? = some (vp_cell _ _)
  rw [e1]
  rw [vp_cell_l, vp_cell_l, arrV_store]
  congr 2
  funext q
  by_cases hq : q = i.toNatClampNeg
  · subst hq
    simp [updV, vp_updL]
  · simp [updV, vp_updL, hq]
theorem e_alen {a : Nat} {ty : FieldType} {x : vp_A} {v : Int32} (hd : decode M.2.1 pc = .ok (.arraylength, 1)) (hty : ty ∈ ec_tys) (hc : h.2 a = some (.inl (ty, x))) (hv : Int32.ofNat x.1 = v) (kk : ec_W l D kA B X R Z M uc us (pc + 1) L (.int v :: st) h) : ec_W l D kA B X R Z M uc us pc L (.ref a :: st) h := by
  intro p e s m args below meth c H locs ls hx hb hr hml hown hts hlk hnm hK hX hB hP hS hl
  subst hv
  have k9 := kk p e s m args below meth c H locs ls hx hb hr hml hown hts hlk hnm hK hX hB hP hS hl
  obtain ⟨n, f | f | f | f | f⟩ := x
  · exact W.alen (n := Int32.ofNat n) hx hb (hP.2 a _ hc).2 ((hK.2.1 ty hty).1.1 n (fun j => .int (f j))) (by rw [vp_cell_i, arrV_size] <;> rfl) rfl rfl hd k9
  · exact W.alen (n := Int32.ofNat n) hx hb (hP.2 a _ hc).2 ((hK.2.1 ty hty).1.1 n (fun j => .long (f j))) (by rw [vp_cell_l, arrV_size] <;> rfl) rfl rfl hd k9
  · exact W.alen (n := Int32.ofNat n) hx hb (hP.2 a _ hc).2 ((hK.2.1 ty hty).1.1 n (fun j => .float (f j))) (by rw [vp_cell_f, arrV_size] <;> rfl) rfl rfl hd k9
  · exact W.alen (n := Int32.ofNat n) hx hb (hP.2 a _ hc).2 ((hK.2.1 ty hty).1.1 n (fun j => .double (f j))) (by rw [vp_cell_d, arrV_size] <;> rfl) rfl rfl hd k9
  · exact W.alen (n := Int32.ofNat n) hx hb (hP.2 a _ hc).2 ((hK.2.1 ty hty).1.1 n (fun j => va_rf (f j))) (by rw [vp_cell_q, arrV_size] <;> rfl) rfl rfl hd k9
end ECH
