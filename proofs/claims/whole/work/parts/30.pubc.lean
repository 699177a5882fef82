theorem cs_typed {m m' : mm_M} {S : sp_S} {n : Nat} {r : Nat → Nat} (h : cs m S) (h1 : ∀ a, 3 ≤ a → a < 171 → m' a = m a) (hr : rw_at m' 1 2 n r) : cs m' ((n, r), S.2) := by
  obtain ⟨a1, a2, a3, a4, a5, ⟨f, a6⟩, a7, a8, a9⟩ := h
  have n60 := a1.2.2.1
  have k6 := a1.2.2.2.2.2.2.2.2.2.1
  exact ⟨⟨hr.2.1, fun i hi => (hr.2.2 i hi).2, a1.2.2⟩, hr, a3.of (fun a _ _ => h1 a (by omega) (by omega)), (congrFun (h1 32 (by omega) (by omega)) 4).trans a4, fun q hq => ⟨(a5 q hq).1.of (h1 _ (by omega) (by have : q < wn S := hq; omega)) (h1 _ (by omega) (by have : q < wn S := hq; omega)), (congrFun (h1 34 (by omega) (by omega)) q).trans (a5 q hq).2⟩, ⟨f, a6.of (h1 35 (by omega) (by omega))⟩, fun a b ha hb => (congrFun (h1 36 (by omega) (by omega)) _).trans (a7 a b ha hb), (congrFun (h1 157 (by omega) (by omega)) 1).trans a8, fun q hq => (a9 q hq).of (h1 _ (by omega) (by have : q < kn S := hq; omega)) (h1 _ (by omega) (by have : q < kn S := hq; omega))⟩
section PUB
variable {l : Launch} {D : va_G} {kA : FieldType → ClassId} {B sz : Nat} {o : Int64}
set_option maxRecDepth 100000 in
/-- SuggestSpell.letter -/
theorem c_letter (m : mm_M) {S : sp_S} (x : Int32) (hc : cs m S) : mm_F l D kA B sz o 1 21 mX9_letter [.ref (B + 0), .int x] m (fun v m' => ∃ y S', v = some (.int y) ∧ R_letter S x y S' ∧ cs m' S' ∧ frm m m') := by
  have t12 := hc.1.1
  refine mm_F.of ?_
  refine e_iload_n dX9_letter_0 rfl rfl ?_
  refine m_callS (As := [_]) lc_X9_67 dX9_letter_1 rfl rfl (by simp [Value.category]) (Nat.le_of_ble_eq_true rfl) (Nat.le_of_ble_eq_true rfl) ⟨Nat.le_of_ble_eq_true rfl, Nat.le_of_ble_eq_true rfl⟩ ⟨Nat.le_of_ble_eq_true rfl, Nat.le_of_ble_eq_true rfl⟩ (c_isLetter m x) (fun v9 m9 hp9 => ?_)
  obtain ⟨rfl, ⟨rfl, h1⟩ | ⟨rfl, h1⟩⟩ := hp9
  · refine e_if_ne 9 dX9_letter_4 (by decide) (fun g1 => ?_) (fun g1 => ?_)
    · obtain ⟨a, -, a2, rfl⟩ := inr_nat (lo := 0) (hi := 25) h1 (by omega) (by omega)
      refine e_aload_n dX9_letter_9 rfl rfl ?_
      refine m_get 9 0 lf_X9_10 dX9_letter_10 (ly_0 B _ _) rfl ?_
      refine e_iload_n dX9_letter_13 rfl rfl ?_
      refine m_callV (As := [_]) lc_X9_71 dX9_letter_14 (ly_1 B _ _) rfl rfl (by simp [Value.category]) (Nat.le_of_ble_eq_true rfl) (Nat.le_of_ble_eq_true rfl) ⟨Nat.le_of_ble_eq_true rfl, Nat.le_of_ble_eq_true rfl⟩ ⟨Nat.le_of_ble_eq_true rfl, Nat.le_of_ble_eq_true rfl⟩ (c_Row_add m9 (isRow_1 B) (by omega) hc.2.1.1 hc.2.1.2.1 _) (fun v9 m1 hp9 => ?_)
      by_cases e : tn S < 12
      · rw [if_pos e] at hp9
        obtain ⟨rfl, rfl⟩ := hp9
        refine e_if_ne 23 dX9_letter_17 (by decide) (fun g2 => ?_) (fun g2 => ?_)
        · refine e_aload_n dX9_letter_23 rfl rfl ?_
          refine m_get 9 0 lf_X9_10 dX9_letter_24 (ly_0 B _ _) rfl ?_
          refine m_get 5 1 lf_X9_74 dX9_letter_27 (ly_1 B _ _) rfl ?_
          refine e_top (w := nI (tn S + 1)) (wr_same _ _ _ _) ?_
          refine m_iret dX9_letter_30 rfl (Nat.le_refl _) (Nat.le_refl _) ⟨_, _, rfl, Or.inr (Or.inr ⟨a, a2, rfl, e, rfl, rfl⟩), cs_typed hc (fun b b1 b2 => by rw [wr_off _ _ (by omega), wr_off _ _ (by omega)]) ⟨wr_same _ _ _ _, by omega, fun i hi => ?_⟩, fun b hb => by rw [wr_off _ _ (by omega), wr_off _ _ (by omega)]⟩
          rw [wr_off _ _ (show (2 : Nat) ≠ 1 by omega)]
          by_cases e2 : i = tn S
          · rw [e2, wr_same, va_up_self]; exact ⟨rfl, by omega⟩
          · rw [wr_ne _ _ (Or.inr e2), va_up_ne _ _ e2]; exact hc.2.1.2.2 i (by omega)
        · exact absurd g2 (by decide)
      · rw [if_neg e] at hp9
        obtain ⟨rfl, rfl⟩ := hp9
        refine e_if_ne 23 dX9_letter_17 (by decide) (fun g2 => ?_) (fun g2 => ?_)
        · exact absurd rfl g2
        · refine e_bipush (v := -4) dX9_letter_20 (by decide) ?_
          exact m_iret dX9_letter_22 rfl (Nat.le_refl _) (Nat.le_refl _) (⟨_, _, rfl, Or.inr (Or.inl ⟨a, a2, rfl, by omega, rfl, rfl⟩), hc, fun b hb => rfl⟩)
    · exact absurd g1 (by decide)
  · refine e_if_ne 9 dX9_letter_4 (by decide) (fun g1 => ?_) (fun g1 => ?_)
    · exact absurd rfl g1
    · refine e_iconst (v := -1) dX9_letter_7 (by decide) ?_
      exact m_iret dX9_letter_8 rfl (Nat.le_refl _) (Nat.le_refl _) (⟨_, _, rfl, Or.inl ⟨h1, rfl, rfl⟩, hc, fun b hb => rfl⟩)
set_option maxRecDepth 100000 in
/-- SuggestSpell.clear -/
theorem c_clear (m : mm_M) {S : sp_S} (hc : cs m S) : mm_F l D kA B sz o 0 0 mX9_clear [.ref (B + 0)] m (fun v m' => v = some (.int (nI (tn S))) ∧ cs m' (clrT S) ∧ frm m m') := by
  refine mm_F.of ?_
  refine e_aload_n dX9_clear_0 rfl rfl ?_
  refine m_get 9 0 lf_X9_10 dX9_clear_1 (ly_0 B _ _) rfl ?_
  refine m_get 5 1 lf_X9_74 dX9_clear_4 (ly_1 B _ _) rfl ?_
  refine e_top (w := nI (tn S)) (hc.2.1.1) ?_
  refine e_istore_n dX9_clear_7 rfl (by decide) rfl ?_
  refine e_aload_n dX9_clear_8 rfl rfl ?_
  refine m_get 9 0 lf_X9_10 dX9_clear_9 (ly_0 B _ _) rfl ?_
  refine e_iconst (v := nI 0) dX9_clear_12 (by decide) ?_
  refine m_puti 5 1 lp_X9_74 dX9_clear_13 (ly_1 B _ _) (Nat.le_of_ble_eq_true rfl) (ly_1 B _ _) rfl ?_
  refine e_iload_n dX9_clear_16 rfl rfl ?_
  exact m_iret dX9_clear_17 rfl (Nat.le_refl _) (Nat.le_refl _) (⟨rfl, cs_typed hc (fun b b1 b2 => wr_off _ _ (by omega)) ⟨wr_same _ _ _ _, by omega, fun i hi => by omega⟩, fun b hb => wr_off _ _ (by omega)⟩)
set_option maxRecDepth 100000 in
/-- SuggestSpell.word -/
theorem c_word (m : mm_M) {S : sp_S} (x : Int32) (hc : cs m S) : mm_F l D kA B sz o 3 68 mX9_word [.ref (B + 0), .int x] m (fun v m' => ∃ y S', v = some (.int y) ∧ R_word S x y S' ∧ cs m' S' ∧ frm m m') := by
  have t12 := hc.1.1
  have n60 := hc.1.2.2.1
  have k6 := hc.1.2.2.2.2.2.2.2.2.2.1
  refine mm_F.of ?_
  refine e_iload_n dX9_word_0 rfl rfl ?_
  refine m_callS (As := [_]) lc_X9_78 dX9_word_1 rfl rfl (by simp [Value.category]) (Nat.le_of_ble_eq_true rfl) (Nat.le_of_ble_eq_true rfl) ⟨Nat.le_of_ble_eq_true rfl, Nat.le_of_ble_eq_true rfl⟩ ⟨Nat.le_of_ble_eq_true rfl, Nat.le_of_ble_eq_true rfl⟩ (c_isCount m x) (fun v9 m9 hp9 => ?_)
  obtain ⟨rfl, ⟨rfl, h1⟩ | ⟨rfl, h1⟩⟩ := hp9
  · refine e_if_eq 17 dX9_word_4 (by decide) (fun g1 => ?_) (fun g1 => ?_)
    · exact absurd g1 (by decide)
    · obtain ⟨n, n1, n2, rfl⟩ := inr_nat (lo := 1) (hi := 1000) h1 (by omega) (by omega)
      refine e_aload_n dX9_word_7 rfl rfl ?_
      refine m_get 9 0 lf_X9_10 dX9_word_8 (ly_0 B _ _) rfl ?_
      refine m_get 5 1 lf_X9_74 dX9_word_11 (ly_1 B _ _) rfl ?_
      refine e_top (w := nI (tn S)) (hc.2.1.1) ?_
      refine n_if_ne 20 dX9_word_14 (by decide) (by omega) (fun g2 => ?_) (fun g2 => ?_)
      · refine e_aload_n dX9_word_20 rfl rfl ?_
        refine m_get 9 2 lf_X9_26 dX9_word_21 (ly_0 B _ _) rfl ?_
        refine e_aload_n dX9_word_24 rfl rfl ?_
        refine m_get 9 0 lf_X9_10 dX9_word_25 (ly_0 B _ _) rfl ?_
        refine m_callV (As := [_]) lc_X9_81 dX9_word_28 (ly_32 B _ _) rfl rfl (by simp [Value.category]) (Nat.le_of_ble_eq_true rfl) (Nat.le_of_ble_eq_true rfl) ⟨Nat.le_of_ble_eq_true rfl, Nat.le_of_ble_eq_true rfl⟩ ⟨Nat.le_of_ble_eq_true rfl, Nat.le_of_ble_eq_true rfl⟩ (c_hasRow m9 hc.2.2.2.1 n60 hc.2.1 (fun i hi => (hc.2.2.2.2.1 i hi).1)) (fun v9 m1 hp9 => ?_)
        obtain ⟨rfl, ⟨rfl, h2⟩ | ⟨rfl, h2⟩⟩ := hp9
        · refine e_if_eq 37 dX9_word_31 (by decide) (fun g3 => ?_) (fun g3 => ?_)
          · exact absurd g3 (by decide)
          · refine e_bipush (v := -3) dX9_word_34 (by decide) ?_
            exact m_iret dX9_word_36 rfl (Nat.le_refl _) (Nat.le_refl _) (⟨_, _, rfl, Or.inr (Or.inl ⟨h1, by omega, h2, rfl, rfl⟩), hc, fun b hb => rfl⟩)
        · refine e_if_eq 37 dX9_word_31 (by decide) (fun g3 => ?_) (fun g3 => ?_)
          · refine e_aload_n dX9_word_37 rfl rfl ?_
            refine m_get 9 2 lf_X9_26 dX9_word_38 (ly_0 B _ _) rfl ?_
            refine m_get 8 4 lf_X9_85 dX9_word_41 (ly_32 B _ _) rfl ?_
            refine e_top (w := nI (wn S)) (hc.2.2.2.1) ?_
            refine e_bipush (v := nI 60) dX9_word_44 (by decide) ?_
            refine n_icmp_lt 52 dX9_word_46 (by decide) (by omega) (by omega) (fun g4 => ?_) (fun g4 => ?_)
            · obtain ⟨f, hf⟩ := hc.2.2.2.2.2.1
              refine e_aload_n dX9_word_52 rfl rfl ?_
              refine m_get 9 2 lf_X9_26 dX9_word_53 (ly_0 B _ _) rfl ?_
              refine e_aload_n dX9_word_56 rfl rfl ?_
              refine m_get 9 0 lf_X9_10 dX9_word_57 (ly_0 B _ _) rfl ?_
              refine e_iload_n dX9_word_60 rfl rfl ?_
              refine m_callV (As := [_, _]) lc_X9_88 dX9_word_61 (ly_32 B _ _) rfl rfl (by simp [Value.category]) (Nat.le_of_ble_eq_true rfl) (Nat.le_of_ble_eq_true rfl) ⟨Nat.le_of_ble_eq_true rfl, Nat.le_of_ble_eq_true rfl⟩ ⟨Nat.le_of_ble_eq_true rfl, Nat.le_of_ble_eq_true rfl⟩ (c_Words_add m1 (cn := n) hc.2.2.2.1 g4 hc.2.1 (fun i hi => (hc.2.2.2.2.1 i hi).1) hf h2) (fun v9 m2 hp9 => ?_)
              obtain ⟨rfl, b1, b2, b3, b4, b5, b6⟩ := hp9
              refine m_iret dX9_word_64 rfl (Nat.le_refl _) (Nat.le_refl _) ⟨_, _, rfl, Or.inr (Or.inr (Or.inr ⟨n, n1, n2, rfl, by omega, h2, g4, rfl, rfl⟩)), ?_, fun b hb => b6 b (by omega) (by omega) (by omega) (by omega) (by omega)⟩
              obtain ⟨a1, a2, a3, a4, a5, a6, a7, a8, a9⟩ := hc
              refine ⟨⟨a1.1, a1.2.1, by show wn S + 1 ≤ 60; omega, fun q hq => ?_, fun a b ha hb hs => ?_, a1.2.2.2.2.2⟩, a2.of (b6 1 (by omega) (by omega) (by omega) (by omega) (by omega)) (b6 2 (by omega) (by omega) (by omega) (by omega) (by omega)), a3.of (fun a _ _ => b6 a (by omega) (by omega) (by omega) (by omega) (by omega)), b1, fun q hq => ?_, b5, fun a b ha hb => by rw [b6 36 (by omega) (by omega) (by omega) (by omega) (by omega)]; exact a7 a b ha hb, (congrFun (b6 157 (by omega) (by omega) (by omega) (by omega) (by omega)) 1).trans a8, fun q hq => (a9 q hq).of (b6 _ (by omega) (by omega) (by omega) (by omega) (by omega)) (b6 _ (by omega) (by omega) (by omega) (by omega) (by omega))⟩
              · show 1 ≤ va_up (wl S) (wn S) (tn S) q ∧ va_up (wl S) (wn S) (tn S) q ≤ 12 ∧ (∀ i, i < va_up (wl S) (wn S) (tn S) q → va_up (wt S) (wn S) (tl S) q i < 26) ∧ 1 ≤ va_up (wc S) (wn S) n q ∧ va_up (wc S) (wn S) n q ≤ 1000
                have hq' : q < wn S + 1 := hq
                by_cases e : q = wn S
                · subst e
                  rw [va_up_self, va_up_self, va_up_self]
                  exact ⟨by omega, by omega, a1.2.1, n1, n2⟩
                · rw [va_up_ne _ _ e, va_up_ne _ _ e, va_up_ne _ _ e]
                  exact a1.2.2.2.1 q (by omega)
              · have ha' : a < wn S + 1 := ha
                have hb' : b < wn S + 1 := hb
                change sm (va_up (wl S) (wn S) (tn S) a) (va_up (wt S) (wn S) (tl S) a) (va_up (wl S) (wn S) (tn S) b) (va_up (wt S) (wn S) (tl S) b) at hs
                by_cases e : a = wn S
                · by_cases e2 : b = wn S
                  · rw [e, e2]
                  · subst e
                    rw [va_up_self, va_up_self, va_up_ne _ _ e2, va_up_ne _ _ e2] at hs
                    exact absurd ⟨hs.1.symm, fun i hi => (hs.2 i (by rw [hs.1]; exact hi)).symm⟩ (h2 b (by omega))
                · by_cases e2 : b = wn S
                  · subst e2
                    rw [va_up_self, va_up_self, va_up_ne _ _ e, va_up_ne _ _ e] at hs
                    exact absurd hs (h2 a (by omega))
                  · rw [va_up_ne _ _ e, va_up_ne _ _ e, va_up_ne _ _ e2, va_up_ne _ _ e2] at hs
                    exact a1.2.2.2.2.1 a b (by omega) (by omega) hs
              · have hq' : q < wn S + 1 := hq
                show rw_at m2 (37 + 2 * q) (38 + 2 * q) (va_up (wl S) (wn S) (tn S) q) (va_up (wt S) (wn S) (tl S) q) ∧ m2 34 q = nI (va_up (wc S) (wn S) n q)
                by_cases e : q = wn S
                · subst e
                  rw [va_up_self, va_up_self, va_up_self]
                  exact ⟨b2, b3⟩
                · rw [va_up_ne _ _ e, va_up_ne _ _ e, va_up_ne _ _ e, b4 q e]
                  exact ⟨(a5 q (by omega)).1.of (b6 _ (by omega) (by omega) (by omega) (by omega) (by omega)) (b6 _ (by omega) (by omega) (by omega) (by omega) (by omega)), (a5 q (by omega)).2⟩
            · refine e_bipush (v := -4) dX9_word_49 (by decide) ?_
              exact m_iret dX9_word_51 rfl (Nat.le_refl _) (Nat.le_refl _) (⟨_, _, rfl, Or.inr (Or.inr (Or.inl ⟨h1, by omega, h2, by omega, rfl, rfl⟩)), hc, fun b hb => rfl⟩)
          · exact absurd rfl g3
      · refine e_bipush (v := -2) dX9_word_17 (by decide) ?_
        exact m_iret dX9_word_19 rfl (Nat.le_refl _) (Nat.le_refl _) (⟨_, _, rfl, Or.inl ⟨Or.inr g2, rfl, rfl⟩, hc, fun b hb => rfl⟩)
  · refine e_if_eq 17 dX9_word_4 (by decide) (fun g1 => ?_) (fun g1 => ?_)
    · refine e_bipush (v := -2) dX9_word_17 (by decide) ?_
      exact m_iret dX9_word_19 rfl (Nat.le_refl _) (Nat.le_refl _) (⟨_, _, rfl, Or.inl ⟨Or.inl h1, rfl, rfl⟩, hc, fun b hb => rfl⟩)
    · exact absurd rfl g1
set_option maxRecDepth 100000 in
/-- SuggestSpell.count -/
theorem c_count (m : mm_M) {S : sp_S} (w n : Int32) (hc : cs m S) : mm_F l D kA B sz o 1 21 mX9_count [.ref (B + 0), .int w, .int n] m (fun v m' => ∃ y S', v = some (.int y) ∧ R_count S w n y S' ∧ cs m' S' ∧ frm m m') := by
  have n60 := hc.1.2.2.1
  refine mm_F.of ?_
  refine e_aload_n dX9_count_0 rfl rfl ?_
  refine m_get 9 2 lf_X9_26 dX9_count_1 (ly_0 B _ _) rfl ?_
  refine e_iload_n dX9_count_4 rfl rfl ?_
  refine m_callV (As := [_]) lc_X9_91 dX9_count_5 (ly_32 B _ _) rfl rfl (by simp [Value.category]) (Nat.le_of_ble_eq_true rfl) (Nat.le_of_ble_eq_true rfl) ⟨Nat.le_of_ble_eq_true rfl, Nat.le_of_ble_eq_true rfl⟩ ⟨Nat.le_of_ble_eq_true rfl, Nat.le_of_ble_eq_true rfl⟩ (c_has m hc.2.2.2.1 n60 w) (fun v9 m9 hp9 => ?_)
  obtain ⟨rfl, ⟨rfl, q, q1, rfl⟩ | ⟨rfl, h1⟩⟩ := hp9
  · refine e_if_ne 13 dX9_count_8 (by decide) (fun g1 => ?_) (fun g1 => ?_)
    · refine e_iload_n dX9_count_13 rfl rfl ?_
      refine m_callS (As := [_]) lc_X9_78 dX9_count_14 rfl rfl (by simp [Value.category]) (Nat.le_of_ble_eq_true rfl) (Nat.le_of_ble_eq_true rfl) ⟨Nat.le_of_ble_eq_true rfl, Nat.le_of_ble_eq_true rfl⟩ ⟨Nat.le_of_ble_eq_true rfl, Nat.le_of_ble_eq_true rfl⟩ (c_isCount m9 n) (fun v9 m1 hp9 => ?_)
      obtain ⟨rfl, ⟨rfl, h2⟩ | ⟨rfl, h2⟩⟩ := hp9
      · refine e_if_ne 23 dX9_count_17 (by decide) (fun g2 => ?_) (fun g2 => ?_)
        · obtain ⟨k, k1, k2, rfl⟩ := inr_nat (lo := 1) (hi := 1000) h2 (by omega) (by omega)
          refine e_aload_n dX9_count_23 rfl rfl ?_
          refine m_get 9 2 lf_X9_26 dX9_count_24 (ly_0 B _ _) rfl ?_
          refine m_get 8 1 lf_X9_94 dX9_count_27 (ly_32 B _ _) rfl ?_
          refine e_iload_n dX9_count_30 rfl rfl ?_
          refine m_iald (q) dX9_count_31 (ly_34 B _ _) (rfl) (by omega) (by decide) ?_
          refine e_top (w := nI (wc S q)) ((hc.2.2.2.2.1 q q1).2) ?_
          refine e_istore_n dX9_count_32 rfl (by decide) rfl ?_
          refine e_aload_n dX9_count_33 rfl rfl ?_
          refine m_get 9 2 lf_X9_26 dX9_count_34 (ly_0 B _ _) rfl ?_
          refine m_get 8 1 lf_X9_94 dX9_count_37 (ly_32 B _ _) rfl ?_
          refine e_iload_n dX9_count_40 rfl rfl ?_
          refine e_iload_n dX9_count_41 rfl rfl ?_
          refine m_iast (q) dX9_count_42 (fun m => ly_34 B m _) (rfl) (by omega) (by decide) ?_
          refine e_iload_n dX9_count_43 rfl rfl ?_
          refine m_iret dX9_count_44 rfl (Nat.le_refl _) (Nat.le_refl _) ⟨_, _, rfl, Or.inr ⟨q, q1, rfl, Or.inr ⟨k, k1, k2, rfl, rfl, rfl⟩⟩, ?_, fun b hb => wr_off _ _ (by omega)⟩
          obtain ⟨a1, a2, a3, a4, a5, ⟨f, a6⟩, a7, a8, a9⟩ := hc
          have k6 := a1.2.2.2.2.2.2.2.2.2.1
          refine ⟨⟨a1.1, a1.2.1, n60, fun p hp => ?_, a1.2.2.2.2⟩, a2.of (wr_off _ _ (by omega)) (wr_off _ _ (by omega)), a3.of (fun a _ _ => wr_off _ _ (by omega)), (congrFun (wr_off _ _ (by omega)) 4).trans a4, fun p hp => ⟨(a5 p hp).1.of (wr_off _ _ (by omega)) (wr_off _ _ (by omega)), ?_⟩, ⟨f, a6.of (wr_off _ _ (by omega))⟩, fun a b ha hb => (congrFun (wr_off _ _ (by omega)) _).trans (a7 a b ha hb), (congrFun (wr_off _ _ (by omega)) 1).trans a8, fun p hp => (a9 p hp).of (wr_off _ _ (by omega)) (wr_off _ _ (by omega))⟩
          · show 1 ≤ wl S p ∧ wl S p ≤ 12 ∧ (∀ i, i < wl S p → wt S p i < 26) ∧ 1 ≤ va_up (wc S) q k p ∧ va_up (wc S) q k p ≤ 1000
            have h9 := a1.2.2.2.1 p hp
            refine ⟨h9.1, h9.2.1, h9.2.2.1, ?_⟩
            by_cases e : p = q
            · rw [e, va_up_self]; exact ⟨k1, k2⟩
            · rw [va_up_ne _ _ e]; exact h9.2.2.2
          · show wr m1 34 q (nI k) 34 p = nI (va_up (wc S) q k p)
            by_cases e : p = q
            · rw [e, va_up_self, wr_same]
            · rw [va_up_ne _ _ e, wr_ne _ _ (Or.inr e)]; exact (a5 p hp).2
        · exact absurd g2 (by decide)
      · refine e_if_ne 23 dX9_count_17 (by decide) (fun g2 => ?_) (fun g2 => ?_)
        · exact absurd rfl g2
        · refine e_bipush (v := -2) dX9_count_20 (by decide) ?_
          exact m_iret dX9_count_22 rfl (Nat.le_refl _) (Nat.le_refl _) (⟨_, _, rfl, Or.inr ⟨q, q1, rfl, Or.inl ⟨h2, rfl, rfl⟩⟩, hc, fun b hb => rfl⟩)
    · exact absurd g1 (by decide)
  · refine e_if_ne 13 dX9_count_8 (by decide) (fun g1 => ?_) (fun g1 => ?_)
    · exact absurd rfl g1
    · refine e_iconst (v := -1) dX9_count_11 (by decide) ?_
      exact m_iret dX9_count_12 rfl (Nat.le_refl _) (Nat.le_refl _) (⟨_, _, rfl, Or.inl ⟨h1, rfl, rfl⟩, hc, fun b hb => rfl⟩)
set_option maxRecDepth 100000 in
/-- SuggestSpell.at -/
theorem c_at (m : mm_M) {S : sp_S} (w i : Int32) (hc : cs m S) : mm_F l D kA B sz o 1 23 mX9_at [.ref (B + 0), .int w, .int i] m (fun v m' => (∃ y, v = some (.int y) ∧ R_at S w i y) ∧ fr m m') := by
  have n60 := hc.1.2.2.1
  refine mm_F.of ?_
  refine e_aload_n dX9_at_0 rfl rfl ?_
  refine m_get 9 2 lf_X9_26 dX9_at_1 (ly_0 B _ _) rfl ?_
  refine e_iload_n dX9_at_4 rfl rfl ?_
  refine m_callV (As := [_]) lc_X9_91 dX9_at_5 (ly_32 B _ _) rfl rfl (by simp [Value.category]) (Nat.le_of_ble_eq_true rfl) (Nat.le_of_ble_eq_true rfl) ⟨Nat.le_of_ble_eq_true rfl, Nat.le_of_ble_eq_true rfl⟩ ⟨Nat.le_of_ble_eq_true rfl, Nat.le_of_ble_eq_true rfl⟩ (c_has m hc.2.2.2.1 n60 w) (fun v9 m9 hp9 => ?_)
  obtain ⟨rfl, ⟨rfl, q, q1, rfl⟩ | ⟨rfl, h1⟩⟩ := hp9
  · refine e_if_ne 13 dX9_at_8 (by decide) (fun g1 => ?_) (fun g1 => ?_)
    · obtain ⟨f, hf⟩ := hc.2.2.2.2.2.1
      obtain ⟨k, k1, k2⟩ := hf.2.2 q q1
      have hr := (hc.2.2.2.2.1 q q1).1
      have w12 := hr.2.1
      have inj : ∀ j, j < k → f j ≠ q := fun j hj e => ah_irr (show ah (wl S (f j)) (wt S (f j)) (wl S (f k)) (wt S (f k)) from hf.2.1 j k hj k1) (by rw [e, k2]; exact ⟨rfl, fun _ _ => rfl⟩)
      refine e_aload_n dX9_at_13 rfl rfl ?_
      refine m_get 9 2 lf_X9_26 dX9_at_14 (ly_0 B _ _) rfl ?_
      refine m_get 8 0 lf_X9_98 dX9_at_17 (ly_32 B _ _) rfl ?_
      refine e_iload_n dX9_at_20 rfl rfl ?_
      refine m_aald (r := 37 + 2 * q) (q) dX9_at_21 (by decide) rfl (ly_33 B _ _) (rfl) (by omega) (by decide) (if_pos (by omega)) ?_
      refine e_astore_n dX9_at_22 rfl (by decide) rfl ?_
      refine e_iload_n dX9_at_23 rfl rfl ?_
      refine e_iconst (v := -1) dX9_at_24 (by decide) ?_
      refine e_icmp_ne 37 dX9_at_25 (by decide) (fun g2 => ?_) (fun g2 => ?_)
      · refine e_iload_n dX9_at_37 rfl rfl ?_
        refine e_bipush (v := -2) dX9_at_38 (by decide) ?_
        refine e_icmp_ne 48 dX9_at_40 (by decide) (fun g3 => ?_) (fun g3 => ?_)
        · refine e_iload_n dX9_at_48 rfl rfl ?_
          refine e_if_lt 60 dX9_at_49 (by decide) (fun g4 => ?_) (fun g4 => ?_)
          · refine e_iconst (v := -1) dX9_at_60 (by decide) ?_
            exact m_iret dX9_at_61 rfl (Nat.le_refl _) (Nat.le_refl _) (⟨⟨_, rfl, Or.inr ⟨q, q1, rfl, Or.inr (Or.inr (Or.inr ⟨g2, g3, fun z hz e => nI_pos (n := z) (by omega) (e ▸ g4), rfl⟩))⟩⟩, fr.rf _⟩)
          · obtain ⟨z, z1, rfl⟩ := nI_of g4
            refine e_iload_n dX9_at_52 rfl rfl ?_
            refine e_aload_n dX9_at_53 rfl rfl ?_
            refine m_get 5 1 lf_X9_74 dX9_at_54 (ly_wr B _ _ (i := q) (by omega)) rfl ?_
            refine e_top (w := nI (wl S q)) (hr.1) ?_
            refine n_icmp_lt 62 dX9_at_57 (by decide) (by omega) (by omega) (fun g5 => ?_) (fun g5 => ?_)
            · refine e_aload_n dX9_at_62 rfl rfl ?_
              refine m_get 5 0 lf_X9_106 dX9_at_63 (ly_wr B _ _ (i := q) (by omega)) rfl ?_
              refine e_iload_n dX9_at_66 rfl rfl ?_
              refine m_iald (z) dX9_at_67 (ly_wl B _ _ (i := q) (by omega)) (rfl) (by omega) (by decide) ?_
              refine e_top (w := nI (wt S q z)) ((hr.2.2 z g5).1) ?_
              exact m_iret dX9_at_68 rfl (Nat.le_refl _) (Nat.le_refl _) (⟨⟨_, rfl, Or.inr ⟨q, q1, rfl, Or.inr (Or.inr (Or.inl ⟨z, g5, rfl, rfl⟩))⟩⟩, fr.rf _⟩)
            · refine e_iconst (v := -1) dX9_at_60 (by decide) ?_
              exact m_iret dX9_at_61 rfl (Nat.le_refl _) (Nat.le_refl _) (⟨⟨_, rfl, Or.inr ⟨q, q1, rfl, Or.inr (Or.inr (Or.inr ⟨g2, g3, fun y hy e => by have := (nI_eq z1 (by omega)).mp e; omega, rfl⟩))⟩⟩, fr.rf _⟩)
        · subst g3
          refine e_aload_n dX9_at_43 rfl rfl ?_
          refine m_get 5 1 lf_X9_74 dX9_at_44 (ly_wr B _ _ (i := q) (by omega)) rfl ?_
          refine e_top (w := nI (wl S q)) (hr.1) ?_
          exact m_iret dX9_at_47 rfl (Nat.le_refl _) (Nat.le_refl _) (⟨⟨_, rfl, Or.inr ⟨q, q1, rfl, Or.inr (Or.inl ⟨rfl, rfl⟩)⟩⟩, fr.rf _⟩)
      · subst g2
        refine e_aload_n dX9_at_28 rfl rfl ?_
        refine m_get 9 2 lf_X9_26 dX9_at_29 (ly_0 B _ _) rfl ?_
        refine e_iload_n dX9_at_32 rfl rfl ?_
        refine m_callV (As := [_]) lc_X9_102 dX9_at_33 (ly_32 B _ _) rfl rfl (by simp [Value.category]) (Nat.le_of_ble_eq_true rfl) (Nat.le_of_ble_eq_true rfl) ⟨Nat.le_of_ble_eq_true rfl, Nat.le_of_ble_eq_true rfl⟩ ⟨Nat.le_of_ble_eq_true rfl, Nat.le_of_ble_eq_true rfl⟩ (c_rankOf m9 hc.2.2.2.1 n60 hf.1 k1 k2 inj) (fun v9 m1 hp9 => ?_)
        obtain ⟨rfl, rfl⟩ := hp9
        exact m_iret dX9_at_36 rfl (Nat.le_refl _) (Nat.le_refl _) (⟨⟨_, rfl, Or.inr ⟨q, q1, rfl, Or.inl ⟨rfl, by rw [← k2, rnk_of hf k1]⟩⟩⟩, fr.rf _⟩)
    · exact absurd g1 (by decide)
  · refine e_if_ne 13 dX9_at_8 (by decide) (fun g1 => ?_) (fun g1 => ?_)
    · exact absurd rfl g1
    · refine e_iconst (v := -1) dX9_at_11 (by decide) ?_
      exact m_iret dX9_at_12 rfl (Nat.le_refl _) (Nat.le_refl _) (⟨⟨_, rfl, Or.inl ⟨h1, rfl⟩⟩, fr.rf _⟩)
end PUB
