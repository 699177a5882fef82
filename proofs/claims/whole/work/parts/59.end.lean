theorem ec_RAof {s : State} {c : ClassId} {k : Class} {comp : ClassId} {ty : FieldType} (h2 : s.vm.classes[c]? = some k) (h3 : k.kind = .array comp ty) : ec_RA s c ty := ⟨fun N z => ⟨(fun k h => by cases h), k, h2, comp, h3⟩, k, comp, h2, h3⟩
theorem nest_eq : ec_nest = [28, 74, 109, 127, 154, 175, 181, 220].filterMap (fun i => tables_1[i]?) := by decide +kernel
theorem bad_eq : ec_bad = [546, 548, 550, 544].filterMap (fun i => tables_1[i]?) := by decide +kernel
theorem nest_ot : ∀ w ∈ ec_nest, w.onTables = true := by
  unfold ec_nest
  simp [Cond.onTables]
set_option maxRecDepth 100000 in
/-- from the entry, for every script of at most 2048 ints, the law comes to its end with true -/
theorem whole_start {p : Program} {e : Env} {s : State} {m : MethodId} {below : List Frame} {meth : Method} {c : Code} (l : Launch) (hl9 : l.stackTraces = false) {b L : Nat} {xs : Nat → Int32} (hL : L ≤ 2048) (C0 : lw_At p s m meth c b L xs) : W p l e room_1 s m #[Value.ref b] below meth c s.heap [] 0 0 (lw_Z below #[Value.ref b] s) (entryFrame m ([Value.ref b] : List Value).toArray 7) := by
  obtain ⟨hx, hb, hr, hml, hown, hts, hX, hbl, hlocks, hgv, hnm⟩ := C0
  have hte : ∀ w ∈ ec_tb, w.before #[Value.ref b] s = true := fun w hw => hts w (List.mem_filter.mp hw).1
  have htt : ∀ (i : Nat) (w : Cond), tables_1[i]? = some w → w.before #[Value.ref b] s = true := fun i w h => hts w (List.mem_append_right _ (List.mem_of_getElem? h))
  obtain ⟨c0, i0, k0⟩ := u_known (ws := ec_tb) (C := RX0) (T := TX0) (N := 4) (n := 4) hte uw_0 (htt 219 _ rfl)
  obtain ⟨c1, i1, k1⟩ := u_known (ws := ec_tb) (C := RX1) (T := TX1) (N := 2) (n := 2) hte uw_1 (htt 103 _ rfl)
  obtain ⟨c2, i2, k2⟩ := u_known (ws := ec_tb) (C := RX2) (T := TX2) (N := 6) (n := 6) hte uw_2 (htt 174 _ rfl)
  obtain ⟨c3, i3, k3⟩ := u_known (ws := ec_tb) (C := RX3) (T := TX3) (N := 2) (n := 2) hte uw_3 (htt 46 _ rfl)
  obtain ⟨c4, i4, k4⟩ := u_known (ws := ec_tb) (C := RX4) (T := TX4) (N := 4) (n := 4) hte uw_4 (htt 153 _ rfl)
  obtain ⟨c5, i5, k5⟩ := u_known (ws := ec_tb) (C := RX5) (T := TX5) (N := 2) (n := 2) hte uw_5 (htt 27 _ rfl)
  obtain ⟨c6, i6, k6⟩ := u_known (ws := ec_tb) (C := RX6) (T := TX6) (N := 2) (n := 2) hte uw_6 (htt 180 _ rfl)
  obtain ⟨c7, i7, k7⟩ := u_known (ws := ec_tb) (C := RX7) (T := TX7) (N := 7) (n := 7) hte uw_7 (htt 121 _ rfl)
  obtain ⟨c8, i8, k8⟩ := u_known (ws := ec_tb) (C := RX8) (T := TX8) (N := 5) (n := 5) hte uw_8 (htt 67 _ rfl)
  obtain ⟨c9, i9, k9⟩ := u_known (ws := ec_tb) (C := RX9) (T := TX9) (N := 8) (n := 8) hte uw_9 (htt 19 _ rfl)
  obtain ⟨c10, i10, k10⟩ := u_known (ws := ec_tb) (C := RX10) (T := TX10) (N := 25) (n := 25) hte uw_10 (htt 609 _ rfl)
  obtain ⟨dC, dI, hKc⟩ : ∃ (dC : Nat → ClassId) (dI : Nat → Nat → Nat), ∀ (k : Nat) (q : vw_C), vwCl[k]? = some q → u_Kn s q.1 q.2.1 q.2.2 (dC k) (dI k) := by
    refine ⟨fun k => [c0, c1, c2, c3, c4, c5, c6, c7, c8, c9, c10].getD k c0, fun k => [i0, i1, i2, i3, i4, i5, i6, i7, i8, i9, i10].getD k i0, ?_⟩
    intro k q hq
    match k, hq with
    | 0, hq => cases hq; exact k0
    | 1, hq => cases hq; exact k1
    | 2, hq => cases hq; exact k2
    | 3, hq => cases hq; exact k3
    | 4, hq => cases hq; exact k4
    | 5, hq => cases hq; exact k5
    | 6, hq => cases hq; exact k6
    | 7, hq => cases hq; exact k7
    | 8, hq => cases hq; exact k8
    | 9, hq => cases hq; exact k9
    | 10, hq => cases hq; exact k10
    | k + 11, hq => simp [vwCl] at hq
  have hArr : ∀ ty ∈ ec_tys, ∃ c : ClassId, ec_RA s c ty ∧ s.vm.findClass ("[" ++ ty.toString) = some c := by
    intro ty hty
    simp only [ec_tys, List.mem_cons, List.not_mem_nil, or_false] at hty
    rcases hty with rfl | rfl | rfl | rfl | rfl
    · obtain ⟨c, k, comp, h1, h2, h3⟩ := Cond.arrayClass_spec (htt 44 _ rfl)
      exact ⟨c, ec_RAof h2 h3, h1⟩
    · obtain ⟨c, k, comp, h1, h2, h3⟩ := Cond.arrayClass_spec (htt 101 _ rfl)
      exact ⟨c, ec_RAof h2 h3, h1⟩
    · obtain ⟨c, k, comp, h1, h2, h3⟩ := Cond.arrayClass_spec (htt 838 _ rfl)
      exact ⟨c, ec_RAof h2 h3, h1⟩
    · obtain ⟨comp, c, k, h1, h2, h3, h4, h5⟩ := Cond.arrayOver_spec (htt 73 _ rfl)
      exact ⟨c, ec_RAof h3 h4, h5⟩
    · obtain ⟨comp, c, k, h1, h2, h3, h4, h5⟩ := arrayOverA_spec (htt 52 _ rfl)
      exact ⟨c, ec_RAof h3 h4, h5⟩
  obtain ⟨kA, hkA⟩ : ∃ kA : FieldType → ClassId, ∀ ty ∈ ec_tys, ec_RA s (kA ty) ty ∧ s.vm.findClass ("[" ++ ty.toString) = some (kA ty) := by
    refine ⟨fun ty => if h : ty ∈ ec_tys then (hArr ty h).choose else c0, fun ty h => ?_⟩
    dsimp only
    rw [dif_pos h]
    exact (hArr ty h).choose_spec
  have hK : ec_K (dC, dI) kA s := by
    refine ⟨⟨hKc, fun k q h => by simp at h⟩, hkA, fun w hw => ?_, va_AO.of (htt 73 _ rfl), (htt 52 _ rfl : (Cond.arrayOver (.array .int)).before #[Value.ref b] s = true)⟩
    have hw' := hw
    rw [nest_eq] at hw'
    obtain ⟨i, -, hi⟩ := List.mem_filterMap.mp hw'
    exact va_Nw.of (nest_ot w hw) (htt i w hi)
  have hfl := flat_of_before _ hgv
  have hex : (Cond.exactly (Term.string "SuggestSpell" 187) "java/lang/String").before #[Value.ref b] s = true := hfl _ (by decide +kernel)
  have hU : (Cond.isRef (.static "java/lang/Throwable" "UNASSIGNED_STACK" "[Ljava/lang/StackTraceElement;")).before #[Value.ref b] s = true := hfl _ (by decide +kernel)
  have hN : (Cond.isRef (.static "java/lang/Throwable" "SUPPRESSED_SENTINEL" "Ljava/util/List;")).before #[Value.ref b] s = true := hfl _ (by decide +kernel)
  obtain ⟨sa, hsa⟩ : ∃ sa : Nat, (Term.string "SuggestSpell" 187).eval #[Value.ref b] s none [] s = some (.ref sa) := by
    obtain ⟨sa, c9, cell9, k9, h9, -⟩ := Cond.exactly_spec hex
    exact ⟨sa, h9⟩
  have hlow : ∀ a : Nat, a < s.heap.size → ¬ (fun q => s.heap.size ≤ q) a := fun a h => Nat.not_le.mpr h
  have hTH : ec_TH s.heap.size sa s := by
    refine ⟨fun w hw => ?_, vk_R.of (htt 581 _ rfl) hsa, vx_Zqof (htt 569 _ rfl) (htt 14 _ rfl) hU hlow, vx_Zqof (htt 571 _ rfl) (htt 14 _ rfl) hN hlow⟩
    have hw' := hw
    rw [bad_eq] at hw'
    obtain ⟨i, -, hi⟩ := List.mem_filterMap.mp hw'
    exact va_Nw.of (bad_ot w hw) (htt i w hi)
  have hloop := lw_loop (l := l) (D := (dC, dI)) (kA := kA) (B := s.heap.size) (sa := sa) (b := b) (N := L) (xs := xs) hl9 hL (L + 1) 0 245 13375 (s.heap.size + 245) 0 m0 S0 none none (Nat.zero_le _) (by omega) (Nat.le_refl _) (Nat.le_refl _) cs0 ms0
  rw [lg_entry_eq]
  exact law_init hloop p e s m #[Value.ref b] below meth c s.heap [] _ hx hb hr hml hown hte hlocks hnm hK ⟨hTH, hX, hbl, Nat.le_refl _⟩ (Nat.le_refl _) ⟨rfl, fun a c h => by cases h⟩ va_S.rf (ec_entry (as := [Value.ref b]) (n := 7) (by simp [Value.category]) (Nat.le_of_ble_eq_true rfl))
set_option maxHeartbeats 4000000 in
theorem lw_walk (l : Launch) (hl9 : l.stackTraces = false) (b : Addr) (xs : List Int32) : MetFree l x (headSpec (Jvm.Cond.code x code maxLocals ret :: tables_1) room_1) (lw_P b xs) (fun _ _ _ _ _ => True) lw_Q := by
  refine MetFree.of_bodyS (code := code) (maxLocals := maxLocals) (ret := ret) (by decide) ?_ ?_
  · intro args s m h hn
    obtain ⟨meth, c, h1, h2, h3, h4, h5, h6, -, -⟩ := Cond.code_spec hn (atoms_spec (ws := Jvm.Cond.code x code maxLocals ret :: tables_1) h _ List.mem_cons_self)
    exact ⟨meth, c, h1, h2, h3, h4, h5, h6⟩
  · intro p e s m args below meth c s₁ B hml0 hP _
    obtain ⟨rfl, hx, hbd, hgv⟩ := hP
    obtain ⟨scr, harrAt, hlist, hof, hsmall⟩ := hx
    obtain ⟨hcb, hkn, -, -⟩ := State.arrayAt?_spec harrAt
    have hown : s.vm.findClass R_law = some m.cls := findClass_of_methodNamed B.named
    have hts0 : ∀ c ∈ (Jvm.Cond.code x code maxLocals ret :: tables_1), c.before #[Value.ref b] s = true := atoms_spec (ws := Jvm.Cond.code x code maxLocals ret :: tables_1) B.pre
    have hts : ∀ w ∈ lw_tbl, w.before #[Value.ref b] s = true := k2_hts_sels lw_privs (fun w hw => hts0 w (List.mem_cons_of_mem _ hw)) lw_privs_ok
    have hml : c.maxLocals = 7 := B.maxLocals_eq (hts0 _ List.mem_cons_self)
    have X₀ : Stand p l e room_1 s m #[Value.ref b] below meth c s₁ [] 0 0 := Stand.of_body B
    have hh0 : s₁.heap = s.heap := by rw [B.state]; rfl
    have hsz : scr.slots.size = xs.length := by rw [← Array.length_toList, hlist, List.length_map]
    have hval : ∀ j : Nat, j < xs.length → scr.slots[j]? = some (.int (xs.getD j 0)) := fun j hj => by
      rw [← Array.getElem?_toList, hlist]
      simp [hj]
    have hbl : b < s.heap.size := (Array.getElem?_eq_some_iff.mp hcb).1
    have hX : va_X b xs.length (fun j => xs.getD j 0) s s.heap := ⟨scr, hcb, hof, hkn, hsz, hval⟩
    have K : W p l e room_1 s m #[Value.ref b] below meth c s₁.heap [] 0 0 (lw_Z below #[Value.ref b] s) (entryFrame m ([Value.ref b] : List Value).toArray 7) := by
      rw [hh0]
      exact whole_start l hl9 hbd ⟨B.exec, B.bytes, B.returns, hml, hown, hts, hX, hbl, B.notSynchronized, hgv, (name_of_methodNamed B.named B.method).1⟩
    obtain ⟨t, a1, o, b1, b2, b3⟩ := K s₁ rfl X₀
    exact ⟨t, o, a1, b1, b2, b3⟩
theorem lw_pre_spec {args : Array Value} {s : State} (h : (Jvm.Cond.and given_1 narrow_1).before args s = true) (hr : rest_1_c.before args s = true) : ∃ (b : Addr) (xs : List Int32), lw_P b xs args s := by
  have hs := flat_of_before _ h
  have hq := flat_of_before _ hr
  have hc : (Cond.count 1).before args s = true := hs _ (by decide +kernel)
  have harr : (Cond.arrayOf (.arg 0) .int).before args s = true := hs _ (by decide +kernel)
  have hle : (Cond.le (.length (.arg 0)) (.int 2048)).before args s = true := hs _ (by decide +kernel)
  have hlen : (Cond.isInt (.length (.arg 0))).before args s = true := hq _ (by decide +kernel)
  have hall : (Cond.all (.arg 0) (.isInt (.elem (.arg 0) (.index 0)))).before args s = true := hq _ (by decide +kernel)
  obtain ⟨b, xs, hb, hx⟩ := State.ints_of_pre rfl harr hlen hall
  have hsm : xs.length < 2 ^ 31 := hx.choose_spec.2.2.2
  have hev : (Term.length (.arg 0)).eval args s none [] s = some (.int xs.length.toInt32) := hx.length_eval hb
  have hv := Cond.le_ints hev (show (Term.int 2048).eval args s none [] s = some (.int 2048) from rfl)
  have hd : xs.length.toInt32 ≤ 2048 := by
    simpa [Cond.before, Cond.holds, hv] using hle
  have hN : xs.length ≤ 2048 := (Int32.ofNat_le_ofNat hsm (by decide)).mp (show Int32.ofNat xs.length ≤ Int32.ofNat 2048 from hd)
  exact ⟨b, xs, Cond.one_arg hc (show args[0]? = some (.ref b) from hb), hx, hN, h⟩
theorem lw_comes (l : Launch) (hl9 : l.stackTraces = false) : Comes l x (Jvm.Cond.code x code maxLocals ret :: tables_1) room_1 (fun tb e args s => Calls_1 tb e args s ∧ rest_1 tb e args s ∧ Pre_1 tb e args s)
    (fun _ _ args s o t => lw_Q args s o t) := by
  intro p e ha hc hk s m args below hf hfit hheap happ hpre
  obtain ⟨b, xs, hP⟩ := lw_pre_spec hpre.2.2 hpre.2.1
  obtain ⟨k, o, h1, h2, h3, hQ⟩ := lw_walk l hl9 b xs p e ha hc hk s m args below hf ((Spec.applies_iff_loose hf).mp happ).1 hP trivial
  exact ⟨k, o, h1, h2, h3, hQ⟩
theorem lw_frame {s t : State} {o : Outcome} {args : Array Value} (h : Framed s o t [] 601024 7293034) :
    Framed s o t (fieldLocs frame_1_writes args s ++ arrayLocs frame_1_arrays args s ++ staticLocs frame_1_statics s) 601024 7293034 := h
theorem lw_limb (L : Cond) (hL : ∀ (args : Array Value) (s t : State), L.after args s (.returned (some (.int 1))) t = true) :
    ArmFor flags0 classFile x code maxLocals ret World_1 tables_1 room_1 Calls_1 rest_1 Pre_1
      (fun tb e a s o t => postC L tb e a s o t ∧ Framed s o t (fieldLocs frame_1_writes a s ++ arrayLocs frame_1_arrays a s ++ staticLocs frame_1_statics s) 601024 7293034) := by
  intro l hfl _ _ p e ha hc hk s m args below hf hfit hheap happ hpre
  obtain ⟨k, o, h1, h2, h3, rfl, hF⟩ := lw_comes l (by unfold Launch.stackTraces; rw [hfl]; decide +kernel) p e ha hc hk s m args below hf hfit hheap happ hpre
  exact ⟨k, _, h1, h2, h3, hL args s _, lw_frame hF⟩
theorem i_vc : Claimed_1_1 ∧ Claimed_1_2 := ⟨lw_limb limb_1_1 (fun args s t => by simp [limb_1_1, Cond.after, Cond.holds, Cond.value]), lw_limb limb_1_2 (fun args s t => Cond.after_iff.mpr (by
  first | (rw [show limb_1_2 = Cond.eq .result (.int 1) from rfl, Cond.eq_ints (x := 1) (y := 1) rfl rfl]; simp; done) | (simp [limb_1_2, Cond.value, Term.eval]; done)))⟩
