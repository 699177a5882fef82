/-! SHARE: what a method may throw, and the law's own catch -/
abbrev aeN : String := "java/lang/ArithmeticException"
abbrev aeS : List String := ["java/lang/RuntimeException", "java/lang/Exception"]
def ec_bad : List Cond := [.declares ⟨"java/lang/RuntimeException", "<init>", "(Ljava/lang/String;)V"⟩, .declares ⟨"java/lang/Exception", "<init>", "(Ljava/lang/String;)V"⟩, .declares ⟨"java/lang/Throwable", "<init>", "(Ljava/lang/String;)V"⟩, .castable aeN aeN]
def atI : List Nat := [14, 564, 573, 575, 578, 580, 565, 566, 24, 25, 567, 572, 576, 596, 554, 597, 556, 598, 558, 568, 570, 560, 592, 593, 595, 560, 583, 584, 585, 586, 546, 586, 587, 588, 589, 548, 589, 590, 591, 592, 550, 582, 543, 544, 551, 552, 553, 555, 557, 559, 563, 562, 561]
set_option maxRecDepth 100000 in
theorem at_eq : vx_atS RX9 189 aeN aeS = atI.filterMap (fun i => tables_1[i]?) := by decide +kernel
set_option maxRecDepth 100000 in
theorem at_g : (atI.filterMap (fun i => tables_1[i]?)).all (fun w => goodWord w || ec_bad.contains w) = true := by decide +kernel
set_option maxRecDepth 100000 in
theorem at_ot : (Cond.classLink RX9 185 aeN :: Cond.initialized aeN :: vx_atS RX9 189 aeN aeS).all vx_ot = true := by decide +kernel
theorem at_in : ∀ w ∈ vx_atS RX9 189 aeN aeS, w ∈ ec_tb ∨ w ∈ ec_bad := by
  intro w hw
  rw [at_eq] at hw
  have hg := List.all_eq_true.mp at_g w hw
  obtain ⟨i, -, hi⟩ := List.mem_filterMap.mp hw
  rcases (Bool.or_eq_true _ _).mp hg with g | g
  · exact Or.inl (ec_in i hi g)
  · exact Or.inr (List.contains_iff_mem.mp g)
/-- what a throw needs: words, the text, Throwable's statics, all below B -/
def ec_TH (B sa : Nat) (U : State) : Prop := (∀ w ∈ ec_bad, va_Nw w U) ∧ vk_R RX9 187 "nothing is typed" sa U ∧ vx_Zq Bundle.tN "UNASSIGNED_STACK" Bundle.steD (fun q => B ≤ q) U U.heap ∧ vx_Zq Bundle.tN "SUPPRESSED_SENTINEL" Bundle.listD (fun q => B ≤ q) U U.heap
theorem ec_TH.warm {B sa : Nat} {s U : State} (hW : s.WarmedH U.vm) (hq : ∀ a : Nat, a < s.heap.size → ¬ B ≤ a → U.heap[a]? = s.heap[a]?) (h : ec_TH B sa s) : ec_TH B sa U := by
  obtain ⟨h1, h2, h3, h4⟩ := h
  refine ⟨?_, vk_R.warm hW h2, (vx_Zq.moved hW.alike h3).kept hq, (vx_Zq.moved hW.alike h4).kept hq⟩
  intro w hw
  have h5 := h1 w hw
  revert h5
  revert w
  unfold ec_bad
  simp only [List.mem_cons, List.not_mem_nil, or_false]
  rintro w (rfl | rfl | rfl | rfl) h5
  · exact va_Nw.warmD hW h5
  · exact va_Nw.warmD hW h5
  · exact va_Nw.warmD hW h5
  · exact va_Nw.warmC hW h5
theorem bad_ot : ∀ w ∈ ec_bad, w.onTables = true := by
  unfold ec_bad
  simp [Cond.onTables]
theorem ec_TH.same {B sa : Nat} {u U : State} (hv : u.vm = U.vm) (hh : u.heap = U.heap) (h : ec_TH B sa u) : ec_TH B sa U := by
  obtain ⟨h1, h2, h3, h4⟩ := h
  have ha : u.vm.Alike U.vm := by rw [hv]; exact Vm.Alike.refl _
  refine ⟨fun w hw => va_Nw.same ?_ hv (h1 w hw), vk_R.same hv.symm h2, by rw [← hh]; exact vx_Zq.moved ha h3, by rw [← hh]; exact vx_Zq.moved ha h4⟩
  revert w
  unfold ec_bad
  simp [Cond.onTables]
/-- the exception table of the method that runs -/
def ec_tab (T : List ExceptionTableEntry) (s : State) : Prop := ∀ (m : MethodId) (args : Array Value) (below : List Frame) (meth : Method) (c : Code), s.frames = .invoking m args :: below → s.vm.method? m = some meth → meth.code = some c → c.exceptionTable.toList = T
theorem ec_tab.of {T : List ExceptionTableEntry} {s : State} {m : MethodId} {args : Array Value} {below : List Frame} {meth : Method} {c : Code} (h1 : s.frames = .invoking m args :: below) (h2 : s.vm.method? m = some meth) (h3 : meth.code = some c) (h4 : c.exceptionTable.toList = T) : ec_tab T s := by
  intro m' args' below' meth' c' e1 e2 e3
  rw [h1] at e1
  cases e1
  rw [h2] at e2
  cases e2
  rw [h3] at e3
  cases e3
  exact h4
section SHX
variable {l : Launch} {D : va_G} {kA : FieldType → ClassId} {B : Nat} {X : State → Prop} {R : Room} {Z : Array Value → State → List Frame → State → Prop} {M : ec_M} {uc us pc : Nat} {L : List (Option Value)} {st : List Value} {h : ec_H}
def ec_XC (D : va_G) (kA : FieldType → ClassId) (B : Nat) (QX : ec_H → Prop) : String → State → State → Prop := fun E st t => E = aeN ∧ (∃ h1 : ec_H, QX h1 ∧ ec_P D kA B h1 t.heap) ∧ va_F (fun q => B ≤ q) st t
def ec_ZX (D : va_G) (kA : FieldType → ClassId) (B : Nat) (Q : Option Value → ec_H → Prop) (QX : ec_H → Prop) (mc ms : Nat) : Array Value → State → List Frame → State → Prop := fun args s below => vx_MQ below (ec_Q D kA B Q) (ec_XC D kA B QX) args s mc ms (fun q => B ≤ q)
variable {Q : Option Value → ec_H → Prop} {QX : ec_H → Prop} {mc ms : Nat}
theorem e_xiret {v : Int32} (hd : decode M.2.1 pc = .ok (.ireturn, 1)) (hr9 : M.2.2.2 = some .int) (h1 : uc ≤ mc) (h2 : us ≤ ms) (hq : Q (some (.int v)) h) : ec_W l D kA B X R (ec_ZX D kA B Q QX mc ms) M uc us pc L [.int v] h := by
  intro p e s m args below meth c H locs ls hx hb hr hml hown hts hlk hnm hK hX hB hP hS hl
  exact vx_ret (e_iret (X := X) hd hr9 h1 h2 hq p e s m args below meth c H locs ls hx hb hr hml hown hts hlk hnm hK hX hB hP hS hl)
abbrev ec_XS (B sa : Nat) (T : List ExceptionTableEntry) : State → Prop := fun s => ec_TH B sa s ∧ ec_tab T s
set_option maxRecDepth 100000 in
theorem e_throwX {sa sz : Nat} {o : Int64} {m9 : mm_M} (hl9 : l.stackTraces = false) (hRf : 6 ≤ R.frames) (hRl : 82 ≤ R.locals) (hRc : uc + 1 ≤ R.cells) (hRs : us + 6 ≤ R.slots) (hmc : uc + 1 ≤ mc) (hms : us + 6 ≤ ms) (hq : ∀ sz', sz ≤ sz' → QX (lay B sz' o m9)) : ec_W l D kA B (ec_XS B sa []) R (ec_ZX D kA B Q QX mc ms) mX9_share uc us 23 L [] (lay B sz o m9) := by
  intro p e s m args below meth c H locs ls hx hb hr hml hown hts hlk hnm hK hX hB hP hS hl
  intro T hT Xs
  have ht := hX.2 m args below meth c Xs.frames Xs.method Xs.code
  obtain ⟨h1, h2, h3, h4⟩ := hX.1
  refine vx_throwS (own := RX9) (cls := aeN) (text := "nothing is typed") (names := aeS) (ik := 185) (is := 187) (ic := 189) (sa := sa) (A := fun q => B ≤ q) (rest := []) hx hb hl9 hown (by decide +kernel) (by decide +kernel) (hts _ (ec_in 542 rfl rfl)) (hts _ (ec_in 17 rfl rfl)) h2 (fun w hw => ?_) (List.all_eq_true.mp at_ot) h3 h4 hS (hl.1.trans hml.symm) dX9_share_23 dX9_share_26 dX9_share_27 dX9_share_29 dX9_share_32 (fun z hz => by rw [ht] at hz; cases hz) (by show 5 < R.frames; omega) (by show 0 + 82 ≤ R.locals; omega) hRc hRs hlk (fun t hal hz hk => ?_) hS.2.2 hmc hms T hT Xs
  · rcases at_in w hw with g | g
    · exact hts w g
    · exact va_Nw.use (bad_ot w g) (h1 w g)
  · refine ⟨rfl, ⟨lay B t.heap.size o m9, hq _ (by rw [← show H.size = sz from hP.1]; exact hz), rfl, fun a c9 hc9 => ?_⟩, Nat.le_trans hS.1 hz, fun q g1 g2 => by rw [hk q (Nat.lt_of_lt_of_le g1 hS.1)]; exact hS.2.1 q g1 g2⟩
    obtain ⟨k1, k2⟩ := hP.2 a c9 hc9
    exact ⟨k1, ec_at_kept k2 (hk a (ec_at_lt k2))⟩
/-- the contract of a method that may throw -/
def ec_FX (l : Launch) (D : va_G) (kA : FieldType → ClassId) (B : Nat) (f lo mc ms : Nat) (M : ec_M) (as : List Value) (h : ec_H) (Q : Option Value → ec_H → Prop) (QX : ec_H → Prop) (sa : Nat) : Prop := ec_W l D kA B (ec_XS B sa []) (ec_room f lo mc ms) (ec_ZX D kA B Q QX mc ms) M 0 0 0 (ec_L0 M as) [] h
abbrev ec_PcX (D : va_G) (kA : FieldType → ClassId) (B sa : Nat) (as : List Value) (h : ec_H) : Array Value → State → Prop := va_Pc as (fun U => ec_P D kA B h U.heap ∧ ec_K D kA U ∧ B ≤ U.heap.size ∧ ec_TH B sa U)
theorem ec_blindX {sa : Nat} {as : List Value} : FrameBlind (ec_PcX D kA B sa as h) := fun a U g mk q => by
  obtain ⟨q0, q1, q2, q3, q4⟩ := q
  exact ⟨q0, q1, ec_K.same (u := U) (U := U.calling g mk a) rfl q2, q3, ec_TH.same (u := U) (U := U.calling g mk a) rfl rfl q4⟩
theorem ec_metX {sa : Nat} {M : ec_M} {as : List Value} {f lo : Nat} (hM : plainName M.1.cls = true) (hc : ∀ v ∈ as, v.category = 1) (hlen : as.length ≤ M.2.2.1) (hF : ec_FX l D kA B f lo mc ms M as h Q QX sa) : vx_Met l M.1 (ec_ws M) (ec_room f lo mc ms) (ec_PcX D kA B sa as h) (ec_Q D kA B Q) (ec_XC D kA B QX) mc ms (fun q => B ≤ q) := by
  refine vx_ofW (cc := M.2.1) (maxL := M.2.2.1) (ret := M.2.2.2) hM rfl ?_
  intro p e s m args below meth c s₁ Bd hml ht hv
  obtain ⟨rfl, hP, hK, hB, hTH⟩ := hv
  have hts := atoms_spec (ws := ec_ws M) Bd.pre
  have Xb := Stand.of_body Bd
  have htab : c.exceptionTable.toList = [] := List.eq_nil_iff_forall_not_mem.mpr (fun z hz => ht z hz)
  rw [lg_entry_eq]
  exact hF p e s m _ below meth c s.heap [] _ Bd.exec Bd.bytes Bd.returns hml (findClass_of_methodNamed Bd.named) (fun w hw => hts w (List.mem_cons_of_mem _ hw)) Bd.notSynchronized (name_of_methodNamed Bd.named Bd.method).1 hK ⟨hTH, ec_tab.of Xb.frames Xb.method Xb.code htab⟩ hB hP va_S.rf (ec_entry hc hlen)
/-- a call whose throw is caught here -/
theorem e_callX {idx : Nat} {M' : ec_M} {n ci b f lo sa : Nat} {As rest fs : List Value} {x : ExceptionTableEntry} (hc : ec_cV M.1.cls idx M' n ci) (hd : decode M.2.1 pc = .ok (.invokevirtual idx, 3)) (hb9 : h.2 b = some (.inr (ci, fs))) (hst : st = As.reverse ++ .ref b :: rest) (hn : As.length = n) (hca : ∀ v ∈ As, v.category = 1) (hle : As.length + 1 ≤ M'.2.2.1) (hcat : (rest.map fun v => v.category).sum ≤ 8)
    (hR : f + 1 ≤ R.frames ∧ 8 + (M'.2.2.1 + 11) + lo ≤ R.locals) (hR2 : uc + mc ≤ R.cells ∧ us + ms ≤ R.slots) (hF : ec_FX l D kA B f lo mc ms M' (.ref b :: As) h Q QX sa)
    (hx1 : covers x pc = true) (hx0 : x.catchType ≠ 0) (hlink : Cond.classLink M.1.cls x.catchType aeN ∈ ec_tb)
    (kk : ∀ (v : Option Value) (h1 : ec_H), Q v h1 → ec_W l D kA B (ec_XS B sa [x]) R Z M (uc + mc) (us + ms) (pc + 3) L (v.toList ++ rest) h1)
    (kx : ∀ (q : Nat) (h1 : ec_H), QX h1 → ec_W l D kA B (ec_XS B sa [x]) R Z M (uc + mc) (us + ms) x.handlerPc L [.ref q] h1) : ec_W l D kA B (ec_XS B sa [x]) R Z M uc us pc L st h := by
  intro p e s m args below meth c H locs ls hx hb hr hml hown hts hlk hnm hK hX hB hP hS hl
  subst hst
  obtain ⟨⟨w1, w2, w3, hpl, hdd⟩, w4, w5, T, N, hcl⟩ := hc
  have hM := ec_metX (l := l) (D := D) (kA := kA) (B := B) (h := h) (Q := Q) (QX := QX) (sa := sa) hpl (fun v hv => by rcases List.mem_cons.mp hv with rfl | hv; rfl; exact hca v hv) (by simpa using hle) hF
  have hG : GoodIn ec_tb (wsV M.1.cls idx M'.1.cls M'.1 (ec_ws M')) := ec_good _ (fun w hw => by
    simp only [wsV, List.mem_append, List.mem_cons, List.not_mem_nil, or_false] at hw
    rcases hw with (rfl | rfl | rfl | rfl) | rfl | hw <;> assumption)
  obtain ⟨r, h1, cell, g1, g2, g3, -⟩ := (hP.2 b _ hb9).2
  have hr' : r = (M'.1.cls, T, N) := Option.some.inj (h1.symm.trans hcl)
  have hrun := vx_runV (p := p) (e := e) (below := below) (meth := meth) (H := H) (locs := locs) (cells := uc) (slots := us) (As := As) (rest := rest) (b := b) (C := M'.1.cls) (g := F0 m pc ls (As.reverse ++ .ref b :: rest)) ⟨hx, hb, hml, hown, hts⟩ hM (cwV (R := R) n hts hG rfl rfl rfl ⟨rfl, hdd⟩ hR)
    ⟨ec_blindX, ⟨cell, g1, by rw [g3]; rfl, by rw [g2]; exact (hK.1.1 ci _ hcl).2.1⟩, fun U hU hW => ⟨rfl, by rw [hU]; exact hP, ec_K.warm hW hK, by rw [hU]; exact Nat.le_trans hB hS.1, ec_TH.warm hW (fun a h1 h2 => by rw [hU]; exact hS.2.1 a h1 h2) hX.1⟩⟩ rfl hn hl.1 rfl (lv_room hcat) hd hR2
  intro T9 hT X9
  have ht := hX.2 m args below meth c X9.frames X9.method X9.code
  have hkeep : ∀ (st₀ t T' : State) (L9 : List Loc), st₀.heap = H → T'.heap = t.heap → va_F (fun q => B ≤ q) st₀ t → (∀ q ∈ L9, B ≤ q.base) → va_S (fun q => B ≤ q) s.heap T'.heap (locs ++ L9) := fun st₀ t T' L9 h0 e1 hF9 hL => by
    obtain ⟨hz, hk⟩ := hF9
    rw [h0] at hz hk
    exact ⟨Nat.le_trans hS.1 (by rw [e1]; exact hz), fun q g1 g2 => by rw [e1, hk q (Nat.lt_of_lt_of_le g1 hS.1) g2]; exact hS.2.1 q g1 g2, fun q hq => by
      rcases List.mem_append.mp hq with h | h
      · exact hS.2.2 q h
      · exact hL q h⟩
  rcases hrun T9 hT X9 with ⟨v, st₀, t, T', L9, h0, X', hL, e1, e2, ⟨⟨v', h1, hv, hq, hP1⟩, hF9⟩, stp⟩ | ⟨q, st₀, t, T', L9, E, ce, h0, X', hL, e1, e2, ⟨rfl, ⟨h1, hq, hP1⟩, hF9⟩, hce, hcv, hcl9, stp⟩
  · cases hv
    obtain ⟨t2, a1, b1⟩ := kk v h1 hq p e s m args below meth c T'.heap (locs ++ L9) ls hx hb hr hml hown hts hlk hnm hK hX hB (by rw [e1]; exact hP1) (hkeep st₀ t T' L9 h0 e1 hF9 hL) hl T' rfl X'
    exact ⟨t2, stp t2 a1, b1⟩
  · have kc := vx_catch (pc := pc) (ls := ls) (rest := rest) (locs := locs ++ L9) (cells := uc + mc) (slots := us + ms) (H := T'.heap) (E := aeN) (name := aeN) (q := q) (ce := ce) hown [] x [] ht (fun z hz => nomatch hz) hx1 hx0 (hts _ hlink) (va_Nw.use rfl (hX.1.1 (.castable aeN aeN) (by simp [ec_bad]))) (by rw [e1]; exact hce) hcv hcl9 (kx q h1 hq p e s m args below meth c T'.heap (locs ++ L9) ls hx hb hr hml hown hts hlk hnm hK hX hB (by rw [e1]; exact hP1) (hkeep st₀ t T' L9 h0 e1 hF9 hL) hl)
    obtain ⟨t2, a1, b1⟩ := kc T' rfl X'
    exact ⟨t2, stp.trans a1, b1⟩
end SHX
section SHC
variable {l : Launch} {D : va_G} {kA : FieldType → ClassId} {B sz : Nat} {o : Int64}
def Q_sh (B sz : Nat) (o : Int64) (m : mm_M) (S : sp_S) (w : Int32) : Option Value → ec_H → Prop := fun v h1 => ∃ m' y, h1 = lay B sz o m' ∧ v = some (.int y) ∧ R_sh S w false y ∧ fr m m'
def QX_sh (B sz : Nat) (o : Int64) (m : mm_M) (S : sp_S) (w : Int32) : ec_H → Prop := fun h1 => ∃ m' sz', h1 = lay B sz' o m' ∧ sz ≤ sz' ∧ R_sh S w true 0 ∧ fr m m'
set_option maxRecDepth 100000 in
/-- SuggestSpell.share -/
theorem c_share (hl9 : l.stackTraces = false) (sa : Nat) (m : mm_M) {S : sp_S} (w : Int32) (hc : cs m S) : ec_FX l D kA B 8 133 1 6 mX9_share [.ref (B + 0), .int w] (lay B sz o m) (Q_sh B sz o m S w) (QX_sh B sz o m S w) sa := by
  have n60 := hc.1.2.2.1
  have t12 := hc.1.1
  refine e_aload_n dX9_share_0 rfl rfl ?_
  refine m_get 9 2 lf_X9_26 dX9_share_1 (ly_0 B _ _) rfl ?_
  refine e_iload_n dX9_share_4 rfl rfl ?_
  refine m_callV (As := [_]) lc_X9_91 dX9_share_5 (ly_32 B _ _) rfl rfl (by simp [Value.category]) (Nat.le_of_ble_eq_true rfl) (Nat.le_of_ble_eq_true rfl) ⟨Nat.le_of_ble_eq_true rfl, Nat.le_of_ble_eq_true rfl⟩ ⟨Nat.le_of_ble_eq_true rfl, Nat.le_of_ble_eq_true rfl⟩ (c_has m hc.2.2.2.1 n60 w) (fun v9 m9 hp9 => ?_)
  obtain ⟨rfl, ⟨rfl, q, q1, rfl⟩ | ⟨rfl, h1⟩⟩ := hp9
  · have dl := ds_le hc.1 q1
    refine e_if_ne 13 dX9_share_8 (by decide) (fun g1 => ?_) (fun g1 => ?_)
    · refine e_aload_n dX9_share_13 rfl rfl ?_
      refine m_get 9 0 lf_X9_10 dX9_share_14 (ly_0 B _ _) rfl ?_
      refine m_get 5 1 lf_X9_74 dX9_share_17 (ly_1 B _ _) rfl ?_
      refine e_top (w := nI (tn S)) (hc.2.1.1) ?_
      refine n_if_ne 33 dX9_share_20 (by decide) (by omega) (fun g2 => ?_) (fun g2 => ?_)
      · refine e_sipush (v := nI 1000) dX9_share_33 (by decide) ?_
        refine e_aload_n dX9_share_36 rfl rfl ?_
        refine e_iload_n dX9_share_37 rfl rfl ?_
        refine m_callV (As := [_]) lc_X9_116 dX9_share_38 (ly_0 B _ _) rfl rfl (by simp [Value.category]) (Nat.le_of_ble_eq_true rfl) (Nat.le_of_ble_eq_true rfl) ⟨Nat.le_of_ble_eq_true rfl, Nat.le_of_ble_eq_true rfl⟩ ⟨Nat.le_of_ble_eq_true rfl, Nat.le_of_ble_eq_true rfl⟩ (c_priceOfWord m9 hc q1) (fun v9 m1 hp9 => ?_)
        obtain ⟨rfl, a1⟩ := hp9
        refine e_imul dX9_share_41 ?_
        refine e_top (w := nI (1000 * (ds S q))) (pk_mul _ _) ?_
        refine e_aload_n dX9_share_42 rfl rfl ?_
        refine m_get 9 0 lf_X9_10 dX9_share_43 (ly_0 B _ _) rfl ?_
        refine m_get 5 1 lf_X9_74 dX9_share_46 (ly_1 B _ _) rfl ?_
        refine e_top (w := nI (tn S)) ((hc.fr a1.fr).2.1.1) ?_
        refine e_idiv dX9_share_49 (nI_ne0 (by omega) (by omega)) ?_
        refine e_top (w := nI (1000 * ds S q / tn S)) (pk_div (by omega) (by omega) (by omega)) ?_
        exact e_xiret dX9_share_50 rfl (Nat.zero_le _) (Nat.zero_le _) ⟨_, _, rfl, rfl, Or.inr ⟨q, q1, rfl, Or.inr ⟨by omega, rfl, rfl⟩⟩, a1.fr⟩
      · exact e_throwX hl9 (Nat.le_of_ble_eq_true rfl) (Nat.le_of_ble_eq_true rfl) (Nat.le_of_ble_eq_true rfl) (Nat.le_of_ble_eq_true rfl) (Nat.le_of_ble_eq_true rfl) (Nat.le_of_ble_eq_true rfl) (fun sz' hs => ⟨m9, sz', rfl, hs, Or.inr ⟨q, q1, rfl, Or.inl ⟨g2, rfl, rfl⟩⟩, fr.rf _⟩)
    · exact absurd g1 (by decide)
  · refine e_if_ne 13 dX9_share_8 (by decide) (fun g1 => ?_) (fun g1 => ?_)
    · exact absurd rfl g1
    · refine e_iconst (v := -1) dX9_share_11 (by decide) ?_
      exact e_xiret dX9_share_12 rfl (Nat.zero_le _) (Nat.zero_le _) ⟨_, _, rfl, rfl, Or.inl ⟨h1, rfl, rfl⟩, fr.rf _⟩
end SHC
