section REO
variable {l : Launch} {D : va_G} {kA : FieldType → ClassId} {B sz : Nat} {o : Int64}
theorem vr_dk {S : sp_S} {lim t w c : Nat} (ht : t < kn S) (h : vr S lim (kn S - 1 - t) w c) : dk S t w ≤ lim := by
  by_cases e : t + 1 < kn S
  · rw [show kn S - 1 - t = (kn S - 1 - (t + 1)) + 1 by omega] at h
    have := h.2.1
    rw [show kn S - 1 - (kn S - 1 - (t + 1) + 1) = t by omega] at this
    exact this
  · rw [show kn S - 1 - t = 0 by omega] at h
    have := h.2.1
    rw [show kn S - 1 = t by omega] at this
    exact this
/-- k is a place in THE LINE, or -1 -/
def okK (S : sp_S) (k : Int32) : Prop := k = -1 ∨ ∃ z, z < kn S ∧ k = nI z
set_option maxRecDepth 100000 in
set_option maxHeartbeats 4000000 in
/-- behind the tables -/
theorem r_chosenB (m : mm_M) {S : sp_S} {lim : Nat} {k : Int32} (hk : ok S) (hl : lim ≤ 50) (hn : 0 < kn S) (hkk : okK S k) (m0 : mm_M) (hm : ms m S) (f0 : fw m0 m) (H : ∀ t w, t < kn S → w < wn S → dn2 m S lim t w) (x3 : Int32) (x4 x5 x6 x7 x8 : Option Value) : mm_G l D kA B sz o 2 50 mX10_chosen (P_mch m0 S (nI lim) k) 297 [some (.ref (B + 226)), some (.int (nI lim)), some (.int k), some (.int x3), x4, x5, x6, x7, x8] [] m := by
  have n60 := hk.2.2.1
  have k6 := hk.2.2.2.2.2.2.2.2.2.1
  have hin : inr (nI lim) 0 50 := ⟨nI_pos' (by omega), (nI_leI (b := 50) (by omega) (by omega)).mpr hl⟩
  have cl : (nI lim).toNatClampNeg = lim := nI_clamp (by omega)
  refine e_iconst (v := -1) dX10_chosen_297 (by decide) ?_
  refine e_istore_n dX10_chosen_298 rfl (by decide) rfl ?_
  refine e_iconst (v := -1) dX10_chosen_299 (by decide) ?_
  refine e_istore dX10_chosen_300 (by decide) rfl ?_
  refine e_iconst (v := nI 0) dX10_chosen_302 (by decide) ?_
  refine e_istore dX10_chosen_303 (by decide) rfl ?_
  have loop : ∀ (d w : Nat) (x4 : Int32), wn S - w = d → w ≤ wn S → bt S lim (kn S - 1) (fun _ => 0) w x4 → mm_G l D kA B sz o 2 50 mX10_chosen (P_mch m0 S (nI lim) k) 305 [some (.ref (B + 226)), some (.int (nI lim)), some (.int k), some (.int (-1)), some (.int x4), some (.int (nI w)), x6, x7, x8] [] m := by
    intro d
    induction d with
    | zero =>
      intro w x4 hd hw hb
      have e9 : w = wn S := by clear hb; omega
      subst e9
      refine e_iload dX10_chosen_305 rfl ?_
      refine e_aload_n dX10_chosen_307 rfl rfl ?_
      refine m_get 10 3 lf_X10_66 dX10_chosen_308 (ly_226 B _ _) rfl ?_
      refine e_top (w := nI (wn S)) (hm.xwn) ?_
      refine n_icmp_ge 361 dX10_chosen_311 (by decide) (by omega) (by omega) (fun g1 => ?_) (fun g1 => ?_)
      · rcases hb with ⟨rfl, hb⟩ | ⟨v, e, h1, h2, rfl, h4⟩
        · refine e_iload dX10_chosen_361 rfl ?_
          refine e_if_lt 370 dX10_chosen_363 (by decide) (fun g2 => ?_) (fun g2 => ?_)
          · refine e_iload dX10_chosen_370 rfl ?_
            refine e_if_ge 380 dX10_chosen_372 (by decide) (fun g3 => ?_) (fun g3 => ?_)
            · exact absurd g3 (by decide)
            · refine e_bipush (v := -3) dX10_chosen_375 (by decide) ?_
              refine e_goto 382 dX10_chosen_377 (by decide) ?_
              exact m_iret dX10_chosen_382 rfl (Nat.le_refl _) (Nat.le_refl _) (⟨⟨_, rfl, Or.inr (Or.inr (Or.inl ⟨hin, hkk, Or.inr (by rw [cl]; exact fun q c z => hb q c (vr_w z) z), rfl⟩))⟩, hm, f0⟩)
          · exact absurd (by decide) g2
        · have vle := vr_le hk hl h2
          have gv : ∀ (y : Nat → Nat) v e', gy S lim y 0 v e' ↔ vr S lim (kn S - 1) v e' := fun y v e' => by
            unfold gy bp
            rw [Nat.sub_zero, if_pos rfl]
            exact ⟨fun ⟨c, a1, a2⟩ => by rw [a2]; exact a1, fun h => ⟨e', h, rfl⟩⟩
          have ge : ∃ v, gy S lim (fun _ => 0) 0 v e := ⟨v, (gv _ _ _).mpr h2⟩
          have gm : ∀ v e', gy S lim (fun _ => 0) 0 v e' → e ≤ e' := fun u e' hu => by
            have hu' := (gv _ _ _).mp hu
            have := h4 u e' (vr_w hu') hu'
            exact this
          have ex : e + (fun _ => 0) v = e := rfl
          rw [ex]
          refine e_iload dX10_chosen_361 rfl ?_
          refine n_if_lt 370 dX10_chosen_363 (by decide) (by omega) (fun g2 => ?_) (fun g2 => ?_)
          · exact absurd g2 (by omega)
          · refine e_iload_n dX10_chosen_366 rfl rfl ?_
            rcases hkk with rfl | ⟨z, z1, rfl⟩
            · refine e_if_ge 383 dX10_chosen_367 (by decide) (fun g3 => ?_) (fun g3 => ?_)
              · exact absurd g3 (by decide)
              · refine e_iload dX10_chosen_370 rfl ?_
                refine n_if_ge 380 dX10_chosen_372 (by decide) (by omega) (fun g4 => ?_) (fun g4 => ?_)
                · refine e_iload dX10_chosen_380 rfl ?_
                  rcases fo_ex hk (P := fun u => gy S lim (fun _ => 0) 0 u e) (wn S) (Nat.le_refl _) with q | ⟨w, q⟩
                  · obtain ⟨v, hv⟩ := ge
                    exact absurd hv (q v (vr_w hv.choose_spec.1))
                  · obtain ⟨u1, u2, u3⟩ := gy_fst q gm
                    exact m_iret dX10_chosen_382 rfl (Nat.le_refl _) (Nat.le_refl _) (⟨⟨_, rfl, Or.inr (Or.inr (Or.inr (Or.inl ⟨hin, rfl, hn, fun _ => w, e, by rw [cl]; exact ⟨⟨u1, (gv _ _ _).mp u2, fun z' e' hz' => u3 z' e' ((gv _ _ _).mpr hz')⟩, fun t ht => by omega⟩, rfl⟩)))⟩, hm, f0⟩)
                · exact absurd g4 (by omega)
            · refine n_if_ge 383 dX10_chosen_367 (by decide) (by omega) (fun g3 => ?_) (fun g3 => ?_)
              · refine e_iconst (v := nI 0) dX10_chosen_383 (by decide) ?_
                refine e_istore dX10_chosen_384 (by decide) rfl ?_
                exact r_chosenC m hk hl z1 m0 hm f0 H (z + 1) 0 e (fun _ => 0) _ _ _ _ (by omega) (by omega) (fun q => by omega) ⟨fun _ => ⟨ge, gm⟩, fun _ => rfl, fun q => by omega⟩ (by omega)
              · exact absurd g3 (by omega)
      · exact absurd g1 (by omega)
    | succ d ih =>
      intro w x4 hd hw hb
      have hww : w < wn S := by clear hb; omega
      have hrs := (H 0 w hn hww).2
      unfold rs at hrs
      rw [Nat.mul_zero, Nat.zero_add, Nat.sub_zero] at hrs
      refine e_iload dX10_chosen_305 rfl ?_
      refine e_aload_n dX10_chosen_307 rfl rfl ?_
      refine m_get 10 3 lf_X10_66 dX10_chosen_308 (ly_226 B _ _) rfl ?_
      refine e_top (w := nI (wn S)) (hm.xwn) ?_
      refine n_icmp_ge 361 dX10_chosen_311 (by decide) (by omega) (by omega) (fun g1 => ?_) (fun g1 => ?_)
      · exact absurd g1 (by omega)
      · have at353 : ∀ x : Int32, bt S lim (kn S - 1) (fun _ => 0) (w + 1) x → mm_G l D kA B sz o 2 50 mX10_chosen (P_mch m0 S (nI lim) k) 353 [some (.ref (B + 226)), some (.int (nI lim)), some (.int k), some (.int (-1)), some (.int x4), some (.int (nI w)), x6, x7, x8] [.int x] m := by
          intro x hb
          refine e_istore dX10_chosen_353 (by decide) rfl ?_
          refine e_iinc (v := nI (w + 1)) dX10_chosen_355 rfl (nI_add _ _) (by decide) rfl ?_
          refine e_goto 305 dX10_chosen_358 (by decide) ?_
          exact ih (w + 1) x (by omega) (by omega) hb
        refine e_aload_n dX10_chosen_314 rfl rfl ?_
        refine m_get 10 24 lf_X10_59 dX10_chosen_315 (ly_226 B _ _) rfl ?_
        refine e_iload dX10_chosen_318 rfl ?_
        refine m_iald (w) dX10_chosen_320 (ly_243 B _ _) (rfl) (by omega) (by decide) ?_
        rcases hrs with ⟨c, r1, r2⟩ | ⟨r1, r2⟩
        · have vle := vr_le hk hl r1
          rw [r2]
          refine n_if_lt 351 dX10_chosen_321 (by decide) (by omega) (fun g2 => ?_) (fun g2 => ?_)
          · exact absurd g2 (by omega)
          · refine e_iload dX10_chosen_324 rfl ?_
            rcases hb with ⟨rfl, hb⟩ | ⟨v, e, h1, h2, rfl, h4⟩
            · refine e_if_lt 341 dX10_chosen_326 (by decide) (fun g3 => ?_) (fun g3 => ?_)
              · refine e_aload_n dX10_chosen_341 rfl rfl ?_
                refine m_get 10 24 lf_X10_59 dX10_chosen_342 (ly_226 B _ _) rfl ?_
                refine e_iload dX10_chosen_345 rfl ?_
                refine m_iald (w) dX10_chosen_347 (ly_243 B _ _) (rfl) (by omega) (by decide) ?_
                refine e_top (w := nI c) (r2) ?_
                refine e_goto 353 dX10_chosen_348 (by decide) ?_
                exact at353 _ (bt_first hb r1)
              · exact absurd (by decide) g3
            · have vle2 := vr_le hk hl h2
              have ex : e + (fun _ => 0) v = e := rfl
              rw [ex] at at353
              rw [ex]
              refine n_if_lt 341 dX10_chosen_326 (by decide) (by omega) (fun g3 => ?_) (fun g3 => ?_)
              · exact absurd g3 (by omega)
              · refine e_aload_n dX10_chosen_329 rfl rfl ?_
                refine m_get 10 24 lf_X10_59 dX10_chosen_330 (ly_226 B _ _) rfl ?_
                refine e_iload dX10_chosen_333 rfl ?_
                refine m_iald (w) dX10_chosen_335 (ly_243 B _ _) (rfl) (by omega) (by decide) ?_
                refine e_top (w := nI c) (r2) ?_
                refine e_iload dX10_chosen_336 rfl ?_
                refine n_icmp_ge 351 dX10_chosen_338 (by decide) (by omega) (by omega) (fun g4 => ?_) (fun g4 => ?_)
                · refine e_iload dX10_chosen_351 rfl ?_
                  exact at353 _ (bt_keep h1 h2 h4 r1 (by show ¬ c < e; omega))
                · refine e_aload_n dX10_chosen_341 rfl rfl ?_
                  refine m_get 10 24 lf_X10_59 dX10_chosen_342 (ly_226 B _ _) rfl ?_
                  refine e_iload dX10_chosen_345 rfl ?_
                  refine m_iald (w) dX10_chosen_347 (ly_243 B _ _) (rfl) (by omega) (by decide) ?_
                  refine e_top (w := nI c) (r2) ?_
                  refine e_goto 353 dX10_chosen_348 (by decide) ?_
                  exact at353 _ (bt_less (v := v) h4 r1 (by show c < e; omega))
        · rw [r2]
          refine e_if_lt 351 dX10_chosen_321 (by decide) (fun g2 => ?_) (fun g2 => ?_)
          · refine e_iload dX10_chosen_351 rfl ?_
            exact at353 _ (bt_none hb r1)
          · exact absurd (by decide) g2
  exact loop (wn S) 0 (-1) (by omega) (by omega) (Or.inl ⟨rfl, fun v e hv => by omega⟩)
def I_b6 (S : sp_S) (lim t w : Nat) (x : Int32) : Prop := (x = -1 ∧ ∀ c, ¬ vr S lim (kn S - 1 - t) w c) ∨ ∃ b, x = nI b ∧ b ≤ 1000 ∧ (dk S t w ≤ lim → vr S lim (kn S - 1 - t) w (dk S t w + b))
set_option maxRecDepth 100000 in
set_option maxHeartbeats 4000000 in
/-- the tables -/
theorem r_chosenA (m1 : mm_M) {S : sp_S} {lim : Nat} {k : Int32} (hk : ok S) (hl : lim ≤ 50) (hn : 0 < kn S) (hkk : okK S k) (m0 : mm_M) (hm1 : ms m1 S) (f0 : fw m0 m1) : ∀ (T : Nat) (m : mm_M) (x4 x5 x6 x7 x8 : Option Value), T ≤ kn S → mf m1 m → (∀ t w, T ≤ t → t < kn S → w < wn S → dn2 m S lim t w) → mm_G l D kA B sz o 2 50 mX10_chosen (P_mch m0 S (nI lim) k) 51 [some (.ref (B + 226)), some (.int (nI lim)), some (.int k), some (.int (nI T - 1)), x4, x5, x6, x7, x8] [] m := by
  have n60 := hk.2.2.1
  have k6 := hk.2.2.2.2.2.2.2.2.2.1
  intro T
  induction T with
  | zero =>
    intro m x4 x5 x6 x7 x8 hT hf H
    refine e_iload_n dX10_chosen_51 rfl rfl ?_
    refine e_if_lt 297 dX10_chosen_52 (by decide) (fun g1 => ?_) (fun g1 => ?_)
    · exact r_chosenB m hk hl hn hkk m0 (hf.msS hm1) (f0.tr hf.fwS) (fun t w h1 h2 => H t w (by omega) h1 h2) _ _ _ _ _ _
    · exact absurd (by decide) g1
  | succ t ih =>
    intro m x4 x5 x6 x7 x8 hT hf H
    rw [nI_pred]
    have hm := hf.msS hm1
    have hkl := hk.2.2.2.2.2.2.2.2.2.2 t (by omega)
    refine e_iload_n dX10_chosen_51 rfl rfl ?_
    refine n_if_lt 297 dX10_chosen_52 (by decide) (by omega) (fun g1 => ?_) (fun g1 => ?_)
    · exact absurd g1 (by omega)
    · refine e_aload_n dX10_chosen_55 rfl rfl ?_
      refine e_aload_n dX10_chosen_56 rfl rfl ?_
      refine m_get 10 10 lf_X10_28 dX10_chosen_57 (ly_226 B _ _) rfl ?_
      refine e_iload_n dX10_chosen_60 rfl rfl ?_
      refine m_iald (t) dX10_chosen_61 (ly_233 B _ _) (rfl) (by omega) (by decide) ?_
      refine e_top (w := nI (kl S t)) (hm.xkl t (by omega)) ?_
      refine m_puti 10 15 lp_X10_88 dX10_chosen_62 (ly_226 B _ _) (Nat.le_of_ble_eq_true rfl) (ly_226 B _ _) rfl ?_
      refine e_iconst (v := nI 0) dX10_chosen_65 (by decide) ?_
      refine e_istore dX10_chosen_66 (by decide) rfl ?_
      -- the words, one after the other
      have wlp : ∀ (d w : Nat) (m2 : mm_M) (x5 x6 x7 x8 : Option Value), wn S - w = d → w ≤ wn S → mf m1 m2 → mr m2 (kl S t) (kt S t) → (∀ t' w', t + 1 ≤ t' → t' < kn S → w' < wn S → dn2 m2 S lim t' w') → (∀ w', w' < w → dn2 m2 S lim t w') → mm_G l D kA B sz o 2 50 mX10_chosen (P_mch m0 S (nI lim) k) 105 [some (.ref (B + 226)), some (.int (nI lim)), some (.int k), some (.int (nI t)), some (.int (nI w)), x5, x6, x7, x8] [] m2 := by
        intro d
        induction d with
        | zero =>
          intro w m2 x5 x6 x7 x8 hd hw f2 r2 h1 h2
          refine e_iload dX10_chosen_105 rfl ?_
          refine e_aload_n dX10_chosen_107 rfl rfl ?_
          refine m_get 10 3 lf_X10_66 dX10_chosen_108 (ly_226 B _ _) rfl ?_
          refine e_top (w := nI (wn S)) ((f2.msS hm1).xwn) ?_
          refine n_icmp_ge 291 dX10_chosen_111 (by decide) (by omega) (by omega) (fun g2 => ?_) (fun g2 => ?_)
          · refine e_iinc (v := nI t - 1) dX10_chosen_291 rfl (by rw [Int32.sub_eq_add_neg]; rfl) (by decide) rfl ?_
            refine e_goto 51 dX10_chosen_294 (by decide) ?_
            refine ih m2 _ _ _ _ _ (by omega) f2 (fun t' w' a1 a2 a3 => ?_)
            by_cases e : t' = t
            · subst e; exact h2 w' (by omega)
            · exact h1 t' w' (by omega) a2 a3
          · exact absurd g2 (by omega)
        | succ d ih2 =>
          intro w m2 x5 x6 x7 x8 hd hw f2 r2 h1 h2
          have hww : w < wn S := by omega
          have hm2 := f2.msS hm1
          have dle := dk_le hk (t := t) (q := w) (by omega) hww
          refine e_iload dX10_chosen_105 rfl ?_
          refine e_aload_n dX10_chosen_107 rfl rfl ?_
          refine m_get 10 3 lf_X10_66 dX10_chosen_108 (ly_226 B _ _) rfl ?_
          refine e_top (w := nI (wn S)) (hm2.xwn) ?_
          refine n_icmp_ge 291 dX10_chosen_111 (by decide) (by omega) (by omega) (fun g2 => ?_) (fun g2 => ?_)
          · exact absurd g2 (by omega)
          · refine e_aload_n dX10_chosen_114 rfl rfl ?_
            refine e_iload dX10_chosen_115 rfl ?_
            refine m_callV (As := [_]) lc_X10_99 dX10_chosen_117 (ly_226 B _ _) rfl rfl (by simp [Value.category]) (Nat.le_of_ble_eq_true rfl) (Nat.le_of_ble_eq_true rfl) ⟨Nat.le_of_ble_eq_true rfl, Nat.le_of_ble_eq_true rfl⟩ ⟨Nat.le_of_ble_eq_true rfl, Nat.le_of_ble_eq_true rfl⟩ (r_fill m2 hk hm2 hww r2) (fun v9 m3 hp9 => ?_)
            obtain ⟨rfl, -, u3⟩ := hp9
            have f3 : mf m1 m3 := f2.tr (mf.of6 u3)
            have hm3 := f3.msS hm1
            have r3 := r2.of u3
            have h13 : ∀ t' w', t + 1 ≤ t' → t' < kn S → w' < wn S → dn2 m3 S lim t' w' := fun t' w' a1 a2 a3 => (h1 t' w' a1 a2 a3).of (by rw [u3 242 (by omega)]) (by rw [u3 243 (by omega)])
            have h23 : ∀ w', w' < w → dn2 m3 S lim t w' := fun w' a1 => (h2 w' a1).of (by rw [u3 242 (by omega)]) (by rw [u3 243 (by omega)])
            -- what is written
            have at239 : ∀ (x6 : Int32) (x7 x8 : Option Value), I_b6 S lim t w x6 → mm_G l D kA B sz o 2 50 mX10_chosen (P_mch m0 S (nI lim) k) 239 [some (.ref (B + 226)), some (.int (nI lim)), some (.int k), some (.int (nI t)), some (.int (nI w)), some (.int (nI (dk S t w))), some (.int x6), x7, x8] [] m3 := by
              intro x6 x7 x8 hb
              have at284 : ∀ x : Int32, ((∃ c, vr S lim (kn S - 1 - t) w c ∧ x = nI c) ∨ ((∀ c, ¬ vr S lim (kn S - 1 - t) w c) ∧ x = -1)) → mm_G l D kA B sz o 2 50 mX10_chosen (P_mch m0 S (nI lim) k) 284 [some (.ref (B + 226)), some (.int (nI lim)), some (.int k), some (.int (nI t)), some (.int (nI w)), some (.int (nI (dk S t w))), some (.int x6), x7, x8] [.int x, .int (nI (60 * t + w)), .ref (B + 243)] (wr m3 242 (60 * t + w) (nI (dk S t w))) := by
                intro x hx
                clear hb
                refine m_iast (60 * t + w) dX10_chosen_284 (fun m => ly_243 B m _) rfl (by clear hx; omega) (by decide) ?_
                refine e_iinc (v := nI (w + 1)) dX10_chosen_285 rfl (nI_add _ _) (by decide) rfl ?_
                refine e_goto 105 dX10_chosen_288 (by decide) ?_
                refine ih2 (w + 1) _ _ _ _ _ (by clear hx; omega) (by clear hx; omega) ((f3.wrS (by clear hx; omega)).wrS (by clear hx; omega)) (r3.of2 (by rw [wr_off _ _ (by clear hx; omega), wr_off _ _ (by clear hx; omega)]) (by rw [wr_off _ _ (by clear hx; omega), wr_off _ _ (by clear hx; omega)])) (fun t' w' a1 a2 a3 => ?_) (fun w' a1 => ?_)
                · refine (h13 t' w' a1 a2 a3).of ?_ ?_
                  · rw [wr_off _ _ (by clear hx; omega), wr_ne _ _ (Or.inr (by clear hx; omega))]
                  · rw [wr_ne _ _ (Or.inr (by clear hx; omega)), wr_off _ _ (by clear hx; omega)]
                · by_cases e : w' = w
                  · subst e
                    refine ⟨by rw [wr_off _ _ (by clear hx; omega), wr_same], ?_⟩
                    unfold rs
                    rw [wr_same]
                    exact hx
                  · refine (h23 w' (by clear hx; omega)).of ?_ ?_
                    · rw [wr_off _ _ (by clear hx; omega), wr_ne _ _ (Or.inr (by clear hx; omega))]
                    · rw [wr_ne _ _ (Or.inr (by clear hx; omega)), wr_off _ _ (by clear hx; omega)]
              refine e_aload_n dX10_chosen_239 rfl rfl ?_
              refine m_get 10 23 lf_X10_56 dX10_chosen_240 (ly_226 B _ _) rfl ?_
              refine e_bipush (v := nI 60) dX10_chosen_243 (by decide) ?_
              refine e_iload_n dX10_chosen_245 rfl rfl ?_
              refine e_imul dX10_chosen_246 ?_
              refine e_top (w := nI (60 * t)) (pk_mul _ _) ?_
              refine e_iload dX10_chosen_247 rfl ?_
              refine e_iadd dX10_chosen_249 ?_
              refine e_top (w := nI ((60 * t) + w)) (nI_add _ _) ?_
              refine e_iload dX10_chosen_250 rfl ?_
              refine m_iast ((60 * t) + w) dX10_chosen_252 (fun m => ly_242 B m _) (rfl) (by omega) (by decide) ?_
              refine e_aload_n dX10_chosen_253 rfl rfl ?_
              refine m_get 10 24 lf_X10_59 dX10_chosen_254 (ly_226 B _ _) rfl ?_
              refine e_bipush (v := nI 60) dX10_chosen_257 (by decide) ?_
              refine e_iload_n dX10_chosen_259 rfl rfl ?_
              refine e_imul dX10_chosen_260 ?_
              refine e_top (w := nI (60 * t)) (pk_mul _ _) ?_
              refine e_iload dX10_chosen_261 rfl ?_
              refine e_iadd dX10_chosen_263 ?_
              refine e_top (w := nI ((60 * t) + w)) (nI_add _ _) ?_
              refine e_iload dX10_chosen_264 rfl ?_
              refine e_iload_n dX10_chosen_266 rfl rfl ?_
              refine n_icmp_gt 275 dX10_chosen_267 (by decide) (by omega) (by omega) (fun g3 => ?_) (fun g3 => ?_)
              · refine e_iconst (v := -1) dX10_chosen_275 (by decide) ?_
                refine e_goto 284 dX10_chosen_276 (by decide) ?_
                exact at284 _ (Or.inr ⟨fun c z => by have := vr_dk (by omega) z; omega, rfl⟩)
              · refine e_iload dX10_chosen_270 rfl ?_
                rcases hb with ⟨rfl, hb⟩ | ⟨b, rfl, b1, b2⟩
                · refine e_if_ge 279 dX10_chosen_272 (by decide) (fun g4 => ?_) (fun g4 => ?_)
                  · exact absurd g4 (by decide)
                  · refine e_iconst (v := -1) dX10_chosen_275 (by decide) ?_
                    refine e_goto 284 dX10_chosen_276 (by decide) ?_
                    exact at284 _ (Or.inr ⟨hb, rfl⟩)
                · refine n_if_ge 279 dX10_chosen_272 (by decide) (by omega) (fun g4 => ?_) (fun g4 => ?_)
                  · refine e_iload dX10_chosen_279 rfl ?_
                    refine e_iload dX10_chosen_281 rfl ?_
                    refine e_iadd dX10_chosen_283 ?_
                    refine e_top (w := nI ((dk S t w) + b)) (nI_add _ _) ?_
                    exact at284 _ (Or.inl ⟨_, b2 (by omega), rfl⟩)
                  · exact absurd g4 (by omega)
            refine e_istore dX10_chosen_120 (by decide) rfl ?_
            refine e_iload_n dX10_chosen_122 rfl rfl ?_
            refine e_aload_n dX10_chosen_123 rfl rfl ?_
            refine m_get 10 9 lf_X10_136 dX10_chosen_124 (ly_226 B _ _) rfl ?_
            refine e_top (w := nI (kn S)) (hm3.xkn) ?_
            refine e_iconst (v := nI 1) dX10_chosen_127 (by decide) ?_
            refine e_isub dX10_chosen_128 ?_
            refine e_top (w := nI ((kn S) - 1)) (pk_sub (by omega)) ?_
            refine n_icmp_ne 136 dX10_chosen_129 (by decide) (by omega) (by omega) (fun g3 => ?_) (fun g3 => ?_)
            · -- another token follows
              have vlp : ∀ (f v : Nat) (x6 : Int32) (x8 : Option Value), wn S - v = f → v ≤ wn S → bt S lim (kn S - 1 - (t + 1)) (np S w) v x6 → mm_G l D kA B sz o 2 50 mX10_chosen (P_mch m0 S (nI lim) k) 142 [some (.ref (B + 226)), some (.int (nI lim)), some (.int k), some (.int (nI t)), some (.int (nI w)), some (.int (nI (dk S t w))), some (.int x6), some (.int (nI v)), x8] [] m3 := by
                intro f
                induction f with
                | zero =>
                  intro v x6 x8 hf hv hb
                  have e9 : v = wn S := by clear hb; omega
                  subst e9
                  refine e_iload dX10_chosen_142 rfl ?_
                  refine e_aload_n dX10_chosen_144 rfl rfl ?_
                  refine m_get 10 3 lf_X10_66 dX10_chosen_145 (ly_226 B _ _) rfl ?_
                  refine e_top (w := nI (wn S)) (hm3.xwn) ?_
                  refine n_icmp_ge 239 dX10_chosen_148 (by decide) (by omega) (by omega) (fun g4 => ?_) (fun g4 => ?_)
                  · refine at239 _ _ _ ?_
                    have e1 : kn S - 1 - t = (kn S - 1 - (t + 1)) + 1 := by clear hb; omega
                    have e2 : kn S - 1 - (kn S - 1 - (t + 1) + 1) = t := by clear hb; omega
                    rcases hb with ⟨rfl, hb⟩ | ⟨v, e, b1, b2, rfl, b4⟩
                    · refine Or.inl ⟨rfl, fun c z => ?_⟩
                      rw [e1] at z
                      obtain ⟨-, -, v, e, z1, -⟩ := z
                      exact hb v e (vr_w z1) z1
                    · have vle := vr_le hk hl b2
                      have nl := np_le hk w v
                      refine Or.inr ⟨_, rfl, by omega, fun hd => ?_⟩
                      rw [e1]
                      refine ⟨hww, by rw [e2]; exact hd, v, e, b2, by rw [e2], fun u e' hu => b4 u e' (vr_w hu) hu⟩
                  · exact absurd g4 (by omega)
                | succ f ih3 =>
                  intro v x6 x8 hf hv hb
                  have hvv : v < wn S := by clear hb; omega
                  have hrs := (h13 (t + 1) v (by omega) (by clear hb; omega) hvv).2
                  unfold rs at hrs
                  refine e_iload dX10_chosen_142 rfl ?_
                  refine e_aload_n dX10_chosen_144 rfl rfl ?_
                  refine m_get 10 3 lf_X10_66 dX10_chosen_145 (ly_226 B _ _) rfl ?_
                  refine e_top (w := nI (wn S)) (hm3.xwn) ?_
                  refine n_icmp_ge 239 dX10_chosen_148 (by decide) (by omega) (by omega) (fun g4 => ?_) (fun g4 => ?_)
                  · exact absurd g4 (by omega)
                  · refine e_iload_n dX10_chosen_151 rfl rfl ?_
                    refine e_aload_n dX10_chosen_152 rfl rfl ?_
                    refine m_get 10 9 lf_X10_136 dX10_chosen_153 (ly_226 B _ _) rfl ?_
                    refine e_top (w := nI (kn S)) (hm3.xkn) ?_
                    refine e_iconst (v := nI 1) dX10_chosen_156 (by decide) ?_
                    refine e_isub dX10_chosen_157 ?_
                    refine e_top (w := nI ((kn S) - 1)) (pk_sub (by omega)) ?_
                    refine n_icmp_ge 239 dX10_chosen_158 (by decide) (by omega) (by omega) (fun g5 => ?_) (fun g5 => ?_)
                    · exact absurd g5 (by clear hb hrs; omega)
                    · have at231 : ∀ (x : Int32) (x8 : Option Value), bt S lim (kn S - 1 - (t + 1)) (np S w) (v + 1) x → mm_G l D kA B sz o 2 50 mX10_chosen (P_mch m0 S (nI lim) k) 231 [some (.ref (B + 226)), some (.int (nI lim)), some (.int k), some (.int (nI t)), some (.int (nI w)), some (.int (nI (dk S t w))), some (.int x6), some (.int (nI v)), x8] [.int x] m3 := by
                        intro x x8 hb
                        refine e_istore dX10_chosen_231 (by decide) rfl ?_
                        refine e_iinc (v := nI (v + 1)) dX10_chosen_233 rfl (nI_add _ _) (by decide) rfl ?_
                        refine e_goto 142 dX10_chosen_236 (by decide) ?_
                        exact ih3 (v + 1) x _ (by clear hb hrs; omega) (by clear hb hrs; omega) hb
                      refine e_aload_n dX10_chosen_161 rfl rfl ?_
                      refine m_get 10 24 lf_X10_59 dX10_chosen_162 (ly_226 B _ _) rfl ?_
                      refine e_bipush (v := nI 60) dX10_chosen_165 (by decide) ?_
                      refine e_iload_n dX10_chosen_167 rfl rfl ?_
                      refine e_iconst (v := nI 1) dX10_chosen_168 (by decide) ?_
                      refine e_iadd dX10_chosen_169 ?_
                      refine e_top (w := nI (t + 1)) (nI_add _ _) ?_
                      refine e_imul dX10_chosen_170 ?_
                      refine e_top (w := nI (60 * (t + 1))) (pk_mul _ _) ?_
                      refine e_iload dX10_chosen_171 rfl ?_
                      refine e_iadd dX10_chosen_173 ?_
                      refine e_top (w := nI ((60 * (t + 1)) + v)) (nI_add _ _) ?_
                      refine m_iald ((60 * (t + 1)) + v) dX10_chosen_174 (ly_243 B _ _) (rfl) (by omega) (by decide) ?_
                      rcases hrs with ⟨c, q1, q2⟩ | ⟨q1, q2⟩
                      · have vle := vr_le hk hl q1
                        have nl := np_le hk w v
                        rw [q2]
                        refine n_if_ge 182 dX10_chosen_175 (by decide) (by omega) (fun g6 => ?_) (fun g6 => ?_)
                        · refine e_aload_n dX10_chosen_182 rfl rfl ?_
                          refine m_get 10 24 lf_X10_59 dX10_chosen_183 (ly_226 B _ _) rfl ?_
                          refine e_bipush (v := nI 60) dX10_chosen_186 (by decide) ?_
                          refine e_iload_n dX10_chosen_188 rfl rfl ?_
                          refine e_iconst (v := nI 1) dX10_chosen_189 (by decide) ?_
                          refine e_iadd dX10_chosen_190 ?_
                          refine e_top (w := nI (t + 1)) (nI_add _ _) ?_
                          refine e_imul dX10_chosen_191 ?_
                          refine e_top (w := nI (60 * (t + 1))) (pk_mul _ _) ?_
                          refine e_iload dX10_chosen_192 rfl ?_
                          refine e_iadd dX10_chosen_194 ?_
                          refine e_top (w := nI ((60 * (t + 1)) + v)) (nI_add _ _) ?_
                          refine m_iald ((60 * (t + 1)) + v) dX10_chosen_195 (ly_243 B _ _) (rfl) (by omega) (by decide) ?_
                          refine e_top (w := nI c) (q2) ?_
                          refine e_aload_n dX10_chosen_196 rfl rfl ?_
                          refine e_iload dX10_chosen_197 rfl ?_
                          refine e_iload dX10_chosen_199 rfl ?_
                          refine m_callV (As := [_, _]) lc_X10_139 dX10_chosen_201 (ly_226 B _ _) rfl rfl (by simp [Value.category]) (Nat.le_of_ble_eq_true rfl) (Nat.le_of_ble_eq_true rfl) ⟨Nat.le_of_ble_eq_true rfl, Nat.le_of_ble_eq_true rfl⟩ ⟨Nat.le_of_ble_eq_true rfl, Nat.le_of_ble_eq_true rfl⟩ (r_nextTo m3 hm3 (a := w) (b := v) (by omega) (by omega)) (fun v9 m4 hp9 => ?_)
                          obtain ⟨rfl, rfl⟩ := hp9
                          refine e_iadd dX10_chosen_204 ?_
                          refine e_top (w := nI (c + (np S w v))) (nI_add _ _) ?_
                          refine e_istore dX10_chosen_205 (by decide) rfl ?_
                          refine e_iload dX10_chosen_207 rfl ?_
                          rcases hb with ⟨rfl, hb⟩ | ⟨v', e, b1, b2, rfl, b4⟩
                          · refine n_if_lt 229 dX10_chosen_209 (by decide) (by omega) (fun g7 => ?_) (fun g7 => ?_)
                            · exact absurd g7 (by omega)
                            · refine e_iload dX10_chosen_212 rfl ?_
                              refine e_if_lt 224 dX10_chosen_214 (by decide) (fun g8 => ?_) (fun g8 => ?_)
                              · refine e_iload dX10_chosen_224 rfl ?_
                                refine e_goto 231 dX10_chosen_226 (by decide) ?_
                                exact at231 _ _ (bt_first hb q1)
                              · exact absurd (by decide) g8
                          · have vle2 := vr_le hk hl b2
                            have nl2 := np_le hk w v'
                            refine n_if_lt 229 dX10_chosen_209 (by decide) (by omega) (fun g7 => ?_) (fun g7 => ?_)
                            · exact absurd g7 (by omega)
                            · refine e_iload dX10_chosen_212 rfl ?_
                              refine n_if_lt 224 dX10_chosen_214 (by decide) (by omega) (fun g8 => ?_) (fun g8 => ?_)
                              · exact absurd g8 (by omega)
                              · refine e_iload dX10_chosen_217 rfl ?_
                                refine e_iload dX10_chosen_219 rfl ?_
                                refine n_icmp_ge 229 dX10_chosen_221 (by decide) (by omega) (by omega) (fun g9 => ?_) (fun g9 => ?_)
                                · refine e_iload dX10_chosen_229 rfl ?_
                                  exact at231 _ _ (bt_keep b1 b2 b4 q1 (by omega))
                                · refine e_iload dX10_chosen_224 rfl ?_
                                  refine e_goto 231 dX10_chosen_226 (by decide) ?_
                                  exact at231 _ _ (bt_less b4 q1 (by omega))
                        · exact absurd g6 (by omega)
                      · rw [q2]
                        refine e_if_ge 182 dX10_chosen_175 (by decide) (fun g6 => ?_) (fun g6 => ?_)
                        · exact absurd g6 (by decide)
                        · refine e_iconst (v := -1) dX10_chosen_178 (by decide) ?_
                          refine e_goto 205 dX10_chosen_179 (by decide) ?_
                          refine e_istore dX10_chosen_205 (by decide) rfl ?_
                          refine e_iload dX10_chosen_207 rfl ?_
                          refine e_if_lt 229 dX10_chosen_209 (by decide) (fun g7 => ?_) (fun g7 => ?_)
                          · refine e_iload dX10_chosen_229 rfl ?_
                            exact at231 _ _ (bt_none hb q1)
                          · exact absurd (by decide) g7
              refine e_iconst (v := -1) dX10_chosen_136 (by decide) ?_
              refine e_istore dX10_chosen_137 (by decide) rfl ?_
              refine e_iconst (v := nI 0) dX10_chosen_139 (by decide) ?_
              refine e_istore dX10_chosen_140 (by decide) rfl ?_
              exact vlp (wn S) 0 (-1) _ (by omega) (by omega) (Or.inl ⟨rfl, fun v e hv => by omega⟩)
            · refine e_iconst (v := nI 0) dX10_chosen_132 (by decide) ?_
              refine e_goto 137 dX10_chosen_133 (by decide) ?_
              refine e_istore dX10_chosen_137 (by decide) rfl ?_
              refine e_iconst (v := nI 0) dX10_chosen_139 (by decide) ?_
              refine e_istore dX10_chosen_140 (by decide) rfl ?_
              refine e_iload dX10_chosen_142 rfl ?_
              refine e_aload_n dX10_chosen_144 rfl rfl ?_
              refine m_get 10 3 lf_X10_66 dX10_chosen_145 (ly_226 B _ _) rfl ?_
              refine e_top (w := nI (wn S)) (hm3.xwn) ?_
              have h0 : I_b6 S lim t w (nI 0) := Or.inr ⟨0, rfl, by omega, fun hd => by
                rw [show kn S - 1 - t = 0 by omega]
                exact ⟨hww, by rw [show kn S - 1 = t by omega]; exact hd, by rw [show kn S - 1 = t by omega]; rfl⟩⟩
              refine n_icmp_ge 239 dX10_chosen_148 (by decide) (by omega) (by omega) (fun g4 => ?_) (fun g4 => ?_)
              · exact at239 _ _ _ h0
              · refine e_iload_n dX10_chosen_151 rfl rfl ?_
                refine e_aload_n dX10_chosen_152 rfl rfl ?_
                refine m_get 10 9 lf_X10_136 dX10_chosen_153 (ly_226 B _ _) rfl ?_
                refine e_top (w := nI (kn S)) (hm3.xkn) ?_
                refine e_iconst (v := nI 1) dX10_chosen_156 (by decide) ?_
                refine e_isub dX10_chosen_157 ?_
                refine e_top (w := nI ((kn S) - 1)) (pk_sub (by omega)) ?_
                refine n_icmp_ge 239 dX10_chosen_158 (by decide) (by omega) (by omega) (fun g5 => ?_) (fun g5 => ?_)
                · exact at239 _ _ _ h0
                · exact absurd g3 (by omega)
      -- the token's letters
      have cp : ∀ (d i : Nat) (m2 : mm_M), kl S t - i = d → i ≤ kl S t → mf m1 m2 → m2 226 15 = nI (kl S t) → (∀ j, j < i → m2 237 j = nI (kt S t j)) → (∀ a, 242 ≤ a → m2 a = m a) → mm_G l D kA B sz o 2 50 mX10_chosen (P_mch m0 S (nI lim) k) 68 [some (.ref (B + 226)), some (.int (nI lim)), some (.int k), some (.int (nI t)), some (.int (nI i)), x5, x6, x7, x8] [] m2 := by
        intro d
        induction d with
        | zero =>
          intro i m2 hd hi f2 h1 h2 h3
          refine e_iload dX10_chosen_68 rfl ?_
          refine e_aload_n dX10_chosen_70 rfl rfl ?_
          refine m_get 10 15 lf_X10_88 dX10_chosen_71 (ly_226 B _ _) rfl ?_
          refine e_top (w := nI (kl S t)) (h1) ?_
          refine n_icmp_ge 102 dX10_chosen_74 (by decide) (by omega) (by omega) (fun g2 => ?_) (fun g2 => ?_)
          · refine e_iconst (v := nI 0) dX10_chosen_102 (by decide) ?_
            refine e_istore dX10_chosen_103 (by decide) rfl ?_
            exact wlp (wn S) 0 m2 _ _ _ _ (by omega) (by omega) f2 ⟨h1, hkl.2.1, fun j hj => ⟨h2 j (by omega), hkl.2.2 j hj⟩⟩ (fun t' w' a1 a2 a3 => (H t' w' a1 a2 a3).of (by rw [h3 242 (by omega)]) (by rw [h3 243 (by omega)])) (fun w' a1 => by omega)
          · exact absurd g2 (by omega)
        | succ d ih2 =>
          intro i m2 hd hi f2 h1 h2 h3
          have k12 := hkl.2.1
          refine e_iload dX10_chosen_68 rfl ?_
          refine e_aload_n dX10_chosen_70 rfl rfl ?_
          refine m_get 10 15 lf_X10_88 dX10_chosen_71 (ly_226 B _ _) rfl ?_
          refine e_top (w := nI (kl S t)) (h1) ?_
          refine n_icmp_ge 102 dX10_chosen_74 (by decide) (by omega) (by omega) (fun g2 => ?_) (fun g2 => ?_)
          · exact absurd g2 (by omega)
          · refine e_aload_n dX10_chosen_77 rfl rfl ?_
            refine m_get 10 14 lf_X10_41 dX10_chosen_78 (ly_226 B _ _) rfl ?_
            refine e_iload dX10_chosen_81 rfl ?_
            refine e_aload_n dX10_chosen_83 rfl rfl ?_
            refine m_get 10 11 lf_X10_31 dX10_chosen_84 (ly_226 B _ _) rfl ?_
            refine e_bipush (v := nI 12) dX10_chosen_87 (by decide) ?_
            refine e_iload_n dX10_chosen_89 rfl rfl ?_
            refine e_imul dX10_chosen_90 ?_
            refine e_top (w := nI (12 * t)) (pk_mul _ _) ?_
            refine e_iload dX10_chosen_91 rfl ?_
            refine e_iadd dX10_chosen_93 ?_
            refine e_top (w := nI ((12 * t) + i)) (nI_add _ _) ?_
            refine m_iald ((12 * t) + i) dX10_chosen_94 (ly_234 B _ _) (rfl) (by omega) (by decide) ?_
            refine e_top (w := nI (kt S t i)) ((f2.msS hm1).xkt t i (by omega) (by omega)) ?_
            refine m_iast (i) dX10_chosen_95 (fun m => ly_237 B m _) (rfl) (by omega) (by decide) ?_
            refine e_iinc (v := nI (i + 1)) dX10_chosen_96 rfl (nI_add _ _) (by decide) rfl ?_
            refine e_goto 68 dX10_chosen_99 (by decide) ?_
            refine ih2 (i + 1) _ (by omega) (by omega) (f2.wrS (by omega)) (by rw [wr_off _ _ (by omega)]; exact h1) (fun j hj => ?_) (fun a ha => by rw [wr_off _ _ (by omega)]; exact h3 a ha)
            by_cases e : j = i
            · rw [e, wr_same]
            · rw [wr_ne _ _ (Or.inr e)]; exact h2 j (by omega)
      exact cp (kl S t) 0 _ (by omega) (by omega) (hf.wrS (by omega)) (wr_same _ _ _ _) (fun j hj => by omega) (fun a ha => wr_off _ _ (by omega))
set_option maxRecDepth 100000 in
/-- SuggestSpellModel.chosen -/
theorem r_chosen (m : mm_M) {S : sp_S} (hk : ok S) (hm : ms m S) (x k : Int32) : mm_F l D kA B sz o 2 50 mX10_chosen [.ref (B + 226), .int x, .int k] m (P_mch m S x k) := by
  have k6 := hk.2.2.2.2.2.2.2.2.2.1
  refine mm_F.of ?_
  refine e_aload_n dX10_chosen_0 rfl rfl ?_
  refine e_iconst (v := nI 0) dX10_chosen_1 (by decide) ?_
  refine m_puti 10 0 lp_X10_62 dX10_chosen_2 (ly_226 B _ _) (Nat.le_of_ble_eq_true rfl) (ly_226 B _ _) rfl ?_
  obtain ⟨m1, e1, hs, f1, -⟩ := ms_th (x := nI 0) hm
  rw [e1]
  refine e_iload_n dX10_chosen_5 rfl rfl ?_
  refine e_iconst (v := nI 0) dX10_chosen_6 (by decide) ?_
  refine e_bipush (v := nI 50) dX10_chosen_7 (by decide) ?_
  refine m_callS (As := [_, _, _]) lc_X10_69 dX10_chosen_9 rfl rfl (by simp [Value.category]) (Nat.le_of_ble_eq_true rfl) (Nat.le_of_ble_eq_true rfl) ⟨Nat.le_of_ble_eq_true rfl, Nat.le_of_ble_eq_true rfl⟩ ⟨Nat.le_of_ble_eq_true rfl, Nat.le_of_ble_eq_true rfl⟩ (r_in m1 x (nI 0) (nI 50)) (fun v9 m9 hp9 => ?_)
  obtain ⟨rfl, ⟨rfl, h1⟩ | ⟨rfl, h1⟩⟩ := hp9
  · obtain ⟨lim, -, l2, rfl⟩ := inr_nat (lo := 0) (hi := 50) h1 (by omega) (by omega)
    refine e_if_ne 18 dX10_chosen_12 (by decide) (fun g1 => ?_) (fun g1 => ?_)
    · refine e_iload_n dX10_chosen_18 rfl rfl ?_
      refine e_iconst (v := -1) dX10_chosen_19 (by decide) ?_
      refine e_aload_n dX10_chosen_20 rfl rfl ?_
      refine m_get 10 9 lf_X10_136 dX10_chosen_21 (ly_226 B _ _) rfl ?_
      refine e_top (w := nI (kn S)) (hs.xkn) ?_
      refine e_iconst (v := nI 1) dX10_chosen_24 (by decide) ?_
      refine e_isub dX10_chosen_25 ?_
      refine m_callS (As := [_, _, _]) lc_X10_69 dX10_chosen_26 rfl rfl (by simp [Value.category]) (Nat.le_of_ble_eq_true rfl) (Nat.le_of_ble_eq_true rfl) ⟨Nat.le_of_ble_eq_true rfl, Nat.le_of_ble_eq_true rfl⟩ ⟨Nat.le_of_ble_eq_true rfl, Nat.le_of_ble_eq_true rfl⟩ (r_in m9 k (-1) (nI (kn S) - nI 1)) (fun v9 m2 hp9 => ?_)
      obtain ⟨rfl, ⟨rfl, h2⟩ | ⟨rfl, h2⟩⟩ := hp9
      · have hkk : okK S k := (inr_pred1 (by omega)).mp h2
        refine e_if_ne 34 dX10_chosen_29 (by decide) (fun g2 => ?_) (fun g2 => ?_)
        · refine e_aload_n dX10_chosen_34 rfl rfl ?_
          refine m_get 10 9 lf_X10_136 dX10_chosen_35 (ly_226 B _ _) rfl ?_
          refine e_top (w := nI (kn S)) (hs.xkn) ?_
          refine n_if_ne 44 dX10_chosen_38 (by decide) (by omega) (fun g3 => ?_) (fun g3 => ?_)
          · refine e_aload_n dX10_chosen_44 rfl rfl ?_
            refine m_get 10 9 lf_X10_136 dX10_chosen_45 (ly_226 B _ _) rfl ?_
            refine e_top (w := nI (kn S)) (hs.xkn) ?_
            refine e_iconst (v := nI 1) dX10_chosen_48 (by decide) ?_
            refine e_isub dX10_chosen_49 ?_
            refine e_istore_n dX10_chosen_50 rfl (by decide) rfl ?_
            exact r_chosenA m2 hk l2 (by omega) hkk m hs f1 (kn S) m2 _ _ _ _ _ (by omega) (mf.rf _) (fun t w a1 a2 => by omega)
          · refine e_bipush (v := -3) dX10_chosen_41 (by decide) ?_
            exact m_iret dX10_chosen_43 rfl (Nat.le_refl _) (Nat.le_refl _) (⟨⟨_, rfl, Or.inr (Or.inr (Or.inl ⟨h1, hkk, Or.inl g3, rfl⟩))⟩, hs, f1⟩)
        · exact absurd g2 (by decide)
      · have h2' := fun z => h2 ((inr_pred1 (by omega)).mpr z)
        refine e_if_ne 34 dX10_chosen_29 (by decide) (fun g2 => ?_) (fun g2 => ?_)
        · exact absurd rfl g2
        · refine e_iconst (v := -1) dX10_chosen_32 (by decide) ?_
          exact m_iret dX10_chosen_33 rfl (Nat.le_refl _) (Nat.le_refl _) (⟨⟨_, rfl, Or.inr (Or.inl ⟨h1, fun z => h2' (Or.inl z), fun z hz e => h2' (Or.inr ⟨z, hz, e⟩), rfl⟩)⟩, hs, f1⟩)
    · exact absurd g1 (by decide)
  · refine e_if_ne 18 dX10_chosen_12 (by decide) (fun g1 => ?_) (fun g1 => ?_)
    · exact absurd rfl g1
    · refine e_bipush (v := -2) dX10_chosen_15 (by decide) ?_
      exact m_iret dX10_chosen_17 rfl (Nat.le_refl _) (Nat.le_refl _) (⟨⟨_, rfl, Or.inl ⟨h1, rfl⟩⟩, hs, f1⟩)
end REO
