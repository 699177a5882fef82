/-! THE LAW'S OWN share: the call, the catch -/
section LSH
variable {l : Launch} {D : va_G} {kA : FieldType → ClassId} {B : Nat} {X : State → Prop} {R : Room} {Z : Array Value → State → List Frame → State → Prop} {M : ec_M} {uc us pc : Nat} {L : List (Option Value)} {st : List Value} {h : ec_H} {Q : Option Value → ec_H → Prop} {QX : ec_H → Prop} {mc ms : Nat}
abbrev lsT : List (Nat × Nat × Nat × Nat) := [(0, 9, 12, 13)]
abbrev lsx : ExceptionTableEntry := { startPc := 0, endPc := 9, handlerPc := 12, catchType := 13 }
abbrev ls_ws : List Cond := Cond.codeWith yL_share cL_share 4 (some .int) lsT :: ec_tb
theorem e_weakP {h' : ec_H} (h1 : h'.1 = h.1) (h2 : ∀ (H : Heap) (b : Nat) (c : ec_C), h'.2 b = some c → ∃ c0, h.2 b = some c0 ∧ (ec_at D kA b c0 H → ec_at D kA b c H)) (kk : ec_W l D kA B X R Z M uc us pc L st h') : ec_W l D kA B X R Z M uc us pc L st h := by
  intro p e s m args below meth c H locs ls hx hb hr hml hown hts hlk hnm hK hX hB hP hS hl
  refine kk p e s m args below meth c H locs ls hx hb hr hml hown hts hlk hnm hK hX hB ⟨by rw [h1]; exact hP.1, fun a c hc => ?_⟩ hS hl
  obtain ⟨c0, e1, e2⟩ := h2 H a c hc
  exact ⟨(hP.2 a c0 e1).1, e2 (hP.2 a c0 e1).2⟩
theorem ly_o {m : Nat → Int32} {o o' : Int64} {k : Nat} (e3 : k ≠ 244) : ly B m o k = ly B m o' k := by
  unfold ly
  by_cases h1 : k < 37
  · rw [if_pos h1, if_pos h1]; rfl
  · rw [if_neg h1, if_neg h1]
    by_cases h2 : k < 157
    · rw [if_pos h2, if_pos h2]; rfl
    · rw [if_neg h2, if_neg h2]
      by_cases h3 : k < 171
      · rw [if_pos h3, if_pos h3]; rfl
      · rw [if_neg h3, if_neg h3]
        by_cases h4 : k < 204
        · rw [if_pos h4, if_pos h4]; rfl
        · rw [if_neg h4, if_neg h4]
          by_cases h5 : k < 226
          · rw [if_pos h5, if_pos h5]; rfl
          · rw [if_neg h5, if_neg h5]
            unfold ly_f
            rw [if_neg e3, if_neg e3]
theorem lay_last {sz : Nat} {o o' : Int64} {m : mm_M} (H : Heap) : ∀ b d, (lay B sz o' m).2 b = some d → ∃ c0, (ec_up (lay B sz o m) (B + 244) (.inl (.long, 1, .inr (.inl (vp_updL (fun _ => o) 0 o'))))).2 b = some c0 ∧ (ec_at D kA b c0 H → ec_at D kA b d H) := by
  intro b d hb
  change (if B ≤ b then ly B (m (b - B)) o' (b - B) else none) = some d at hb
  split at hb
  next e =>
    by_cases e2 : b = B + 244
    · subst e2
      rw [Nat.add_sub_cancel_left, ly_244] at hb
      cases hb
      refine ⟨_, if_pos rfl, fun hc => ?_⟩
      refine Eq.trans (show H[B + 244]? = some (vp_cell (kA .long) (1, .inr (.inl (vp_updL (fun _ => o) 0 o')))) from hc) ?_
      show some (vp_cell (kA .long) _) = some (vp_cell (kA .long) (1, .inr (.inl (fun _ => o'))))
      rw [vp_cell_l, vp_cell_l]
      unfold arrV
      have e9 : (fun j : Fin 1 => Value.long (vp_updL (fun _ => o) 0 o' j.val)) = fun _ => Value.long o' := by
        funext j
        have : j.val = 0 := by omega
        simp [vp_updL, this]
      rw [e9]
    · refine ⟨d, ?_, fun hc => hc⟩
      show (if b = B + 244 then _ else (if B ≤ b then ly B (m (b - B)) o (b - B) else none)) = some d
      rw [if_neg e2, if_pos e, ly_o (o' := o') (by omega)]
      exact hb
  next e => cases hb
/-- what the law's share answers and leaves -/
def Q_ls (B sz : Nat) (o : Int64) (m : mm_M) (S : sp_S) (w : Int32) : Option Value → ec_H → Prop := fun v h1 => (∃ m' y, h1 = lay B sz y.toInt64 m' ∧ v = some (.int (nI 0)) ∧ R_sh S w false y ∧ fr m m') ∨ (∃ m' sz', h1 = lay B sz' o m' ∧ v = some (.int (nI 1)) ∧ sz ≤ sz' ∧ R_sh S w true 0 ∧ fr m m')
set_option maxRecDepth 100000 in
theorem ls_W (hl9 : l.stackTraces = false) (sa : Nat) {sz : Nat} {o : Int64} (m : mm_M) {S : sp_S} (w : Int32) (hc : cs m S) : ec_W l D kA B (ec_XS B sa [lsx]) (ec_room 9 154 1 6) (ec_Z D kA B (Q_ls B sz o m S w) 1 6) mL_share 0 0 0 (ec_L0 mL_share [.ref (B + 0), .int w, .ref (B + 244)]) [] (lay B sz o m) := by
  refine e_aload_n dL_share_0 rfl rfl ?_
  refine e_iconst (v := nI 0) dL_share_1 (by decide) ?_
  refine e_aload_n dL_share_2 rfl rfl ?_
  refine e_iload_n dL_share_3 rfl rfl ?_
  refine e_callX (As := [_]) (x := lsx) (mc := 1) (ms := 6) (f := 8) (lo := 133) lc_L_7 dL_share_4 (lay_at.trans (ly_0 B _ _)) rfl rfl (by simp [Value.category]) (Nat.le_of_ble_eq_true rfl) (Nat.le_of_ble_eq_true rfl) ⟨Nat.le_of_ble_eq_true rfl, Nat.le_of_ble_eq_true rfl⟩ ⟨Nat.le_of_ble_eq_true rfl, Nat.le_of_ble_eq_true rfl⟩ (c_share hl9 sa m w hc) (by decide) (by decide) lw_L_13 (fun v h1 hq => ?_) (fun q h1 hq => ?_)
  · obtain ⟨m', y, rfl, rfl, r1, r2⟩ := hq
    refine e_i2l dL_share_7 rfl ?_
    refine e_last (x := y.toInt64) dL_share_8 (lay_at.trans (ly_244 B _ _)) (vp_in_nI (by decide) (by decide)) ?_
    refine e_weakP (h' := lay B sz y.toInt64 m') rfl (fun H => lay_last H) ?_
    refine e_goto 15 dL_share_9 (by decide) ?_
    refine e_iconst (v := nI 0) dL_share_15 (by decide) ?_
    exact e_iret dL_share_16 rfl (Nat.le_of_ble_eq_true rfl) (Nat.le_of_ble_eq_true rfl) (Or.inl ⟨m', y, rfl, rfl, r1, r2⟩)
  · obtain ⟨m', sz', rfl, h2, r1, r2⟩ := hq
    refine e_astore_n dL_share_12 rfl (by decide) rfl ?_
    refine e_iconst (v := nI 1) dL_share_13 (by decide) ?_
    exact e_iret dL_share_14 rfl (Nat.le_of_ble_eq_true rfl) (Nat.le_of_ble_eq_true rfl) (Or.inr ⟨m', sz', rfl, rfl, h2, r1, r2⟩)
/-- a method with a handler, by its walk -/
theorem ls_met {sa : Nat} {as : List Value} {f lo : Nat} (hc : ∀ v ∈ as, v.category = 1) (hlen : as.length ≤ 4) (hF : ec_W l D kA B (ec_XS B sa [lsx]) (ec_room f lo mc ms) (ec_Z D kA B Q mc ms) mL_share 0 0 0 (ec_L0 mL_share as) [] h) : Met l yL_share ls_ws (ec_room f lo mc ms) (ec_PcX D kA B sa as h) (ec_Q D kA B Q) mc ms (fun q => B ≤ q) := by
  refine MetFree.of_bodyS (code := cL_share) (maxLocals := 4) (ret := some .int) (by decide +kernel) ?_ ?_
  · intro args s m h hn
    obtain ⟨m9, meth, c, h0, h1, h2, h3, h4, -, h5, h6, -⟩ := Cond.codeWith_spec (atoms_spec (ws := ls_ws) h _ List.mem_cons_self)
    cases Option.some.inj (h0.symm.trans hn)
    exact ⟨meth, c, h1, h2, h3, h4, h5, h6⟩
  · intro p e s m args below meth c s₁ Bd hml hv _
    obtain ⟨rfl, hP, hK, hB, hTH⟩ := hv
    have hts := atoms_spec (ws := ls_ws) Bd.pre
    have Xb := Stand.of_body Bd
    have htab : c.exceptionTable.toList = [lsx] := vx_table (x := yL_share) Bd (hts _ List.mem_cons_self)
    have hh0 : s₁.heap = s.heap := by rw [Bd.state]; rfl
    have K := hF p e s m as.toArray below meth c s.heap [] _ Bd.exec Bd.bytes Bd.returns hml (findClass_of_methodNamed Bd.named) (fun w hw => hts w (List.mem_cons_of_mem _ hw)) Bd.notSynchronized (name_of_methodNamed Bd.named Bd.method).1 hK ⟨hTH, ec_tab.of Xb.frames Xb.method Xb.code htab⟩ hB hP va_S.rf (ec_entry hc hlen)
    obtain ⟨t, a1, o, b1, b2, b3⟩ := K s₁ hh0 Xb
    refine ⟨t, o, ?_, b1, b2, ⟨b3.1, b3.2⟩⟩
    rw [lg_entry_eq]
    exact a1
/-- the call of the law's share -/
theorem e_callLS {sa f lo n idx : Nat} {As rest : List Value} (w1 : Cond.methodLink M.1.cls idx yL_share ∈ ec_tb) (w2 : Cond.initialized yL_share.cls ∈ ec_tb) (w3 : Cond.codeWith yL_share cL_share 4 (some .int) lsT ∈ ec_tb) (w4 : Cond.static yL_share ∈ ec_tb) (hdd : yL_share.cls ≠ "java/lang/invoke/MethodHandle" ∧ yL_share.cls ≠ "java/lang/invoke/VarHandle" ∧ (parseMethodDescriptor yL_share.desc).map (fun d => d.parameters.length) = some n) (hd : decode M.2.1 pc = .ok (.invokestatic idx, 3)) (hst : st = As.reverse ++ rest) (hn : As.length = n) (hca : ∀ v ∈ As, v.category = 1) (hle : As.length ≤ 4) (hcat : (rest.map fun v => v.category).sum ≤ 8)
    (hR : f + 1 ≤ R.frames ∧ 8 + (4 + 11) + lo ≤ R.locals) (hR2 : uc + mc ≤ R.cells ∧ us + ms ≤ R.slots) (hXT : ∀ s, X s → ec_TH B sa s) (hF : ec_W l D kA B (ec_XS B sa [lsx]) (ec_room f lo mc ms) (ec_Z D kA B Q mc ms) mL_share 0 0 0 (ec_L0 mL_share As) [] h)
    (kk : ∀ (v : Option Value) (h1 : ec_H), Q v h1 → ec_W l D kA B X R Z M (uc + mc) (us + ms) (pc + 3) L (v.toList ++ rest) h1) : ec_W l D kA B X R Z M uc us pc L st h := by
  intro p e s m args below meth c H locs ls hx hb hr hml hown hts hlk hnm hK hX hB hP hS hl
  subst hst
  have hM := ls_met (l := l) (D := D) (kA := kA) (B := B) (h := h) (Q := Q) hca hle hF
  have hG : GoodIn ec_tb (va_wsS M.1.cls idx yL_share ls_ws) := ec_good _ (fun w hw => by
    simp only [va_wsS, List.mem_append, List.mem_cons, List.not_mem_nil, or_false] at hw
    rcases hw with (rfl | rfl | rfl) | rfl | hw <;> assumption)
  have hrun := vx_runSW (p := p) (e := e) (below := below) (meth := meth) (H := H) (locs := locs) (cells := uc) (slots := us) (As := As) (rest := rest) (g := F0 m pc ls (As.reverse ++ rest)) ⟨hx, hb, hml, hown, hts⟩ hM (vx_cwSW (R := R) n hts hG rfl rfl rfl hdd hR)
    ⟨ec_blindX, fun U hU hW => ⟨rfl, by rw [hU]; exact hP, ec_K.warm hW hK, by rw [hU]; exact Nat.le_trans hB hS.1, ec_TH.warm hW (fun a h1 h2 => by rw [hU]; exact hS.2.1 a h1 h2) (hXT s hX)⟩⟩ rfl hn hl.1 rfl (lv_room hcat) hd hR2
  exact ec_go (as := As) hrun hS (fun v h1 H1 locs1 hq hP1 hS1 => kk v h1 hq p e s m args below meth c H1 locs1 ls hx hb hr hml hown hts hlk hnm hK hX hB hP1 hS1 hl)
end LSH
