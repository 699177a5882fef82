section REH
variable {l : Launch} {D : va_G} {kA : FieldType → ClassId} {B sz : Nat} {o : Int64}
def P_word (m : mm_M) (S : sp_S) (x : Int32) (v : Option Value) (m' : mm_M) : Prop := ∃ y S', v = some (.int y) ∧ R_word S x y S' ∧ ms m' S' ∧ fw m m'
set_option maxRecDepth 100000 in
set_option maxHeartbeats 2000000 in
theorem r_word (m : mm_M) {S : sp_S} (hk : ok S) (hm : ms m S) (x : Int32) : mm_F l D kA B sz o 1 22 mX10_word [.ref (B + 226), .int x] m (P_word m S x) := by
  have t12 := hk.1
  have n60 := hk.2.2.1
  refine mm_F.of ?_
  refine e_aload_n dX10_word_0 rfl rfl ?_
  refine e_iconst (v := nI 0) dX10_word_1 (by decide) ?_
  refine m_puti 10 0 lp_X10_62 dX10_word_2 (ly_226 B _ _) (Nat.le_of_ble_eq_true rfl) (ly_226 B _ _) rfl ?_
  obtain ⟨m1, e1, hs, f1, -⟩ := ms_th (x := nI 0) hm
  rw [e1]
  refine e_iload_n dX10_word_5 rfl rfl ?_
  refine e_iconst (v := nI 1) dX10_word_6 (by decide) ?_
  refine e_sipush (v := nI 1000) dX10_word_7 (by decide) ?_
  refine m_callS (As := [_, _, _]) lc_X10_69 dX10_word_10 rfl rfl (by simp [Value.category]) (Nat.le_of_ble_eq_true rfl) (Nat.le_of_ble_eq_true rfl) ⟨Nat.le_of_ble_eq_true rfl, Nat.le_of_ble_eq_true rfl⟩ ⟨Nat.le_of_ble_eq_true rfl, Nat.le_of_ble_eq_true rfl⟩ (r_in m1 x (nI 1) (nI 1000)) (fun v9 m9 hp9 => ?_)
  obtain ⟨rfl, ⟨rfl, h1⟩ | ⟨rfl, h1⟩⟩ := hp9
  · obtain ⟨n, n1, n2, rfl⟩ := inr_nat (lo := 1) (hi := 1000) h1 (by omega) (by omega)
    refine e_if_eq 23 dX10_word_13 (by decide) (fun g1 => ?_) (fun g1 => ?_)
    · exact absurd g1 (by decide)
    · refine e_aload_n dX10_word_16 rfl rfl ?_
      refine m_get 10 1 lf_X10_73 dX10_word_17 (ly_226 B _ _) rfl ?_
      refine e_top (w := nI (tn S)) (hs.xtn) ?_
      refine n_if_ne 26 dX10_word_20 (by decide) (by omega) (fun g2 => ?_) (fun g2 => ?_)
      · refine e_iconst (v := nI 0) dX10_word_26 (by decide) ?_
        refine e_istore_n dX10_word_27 rfl (by decide) rfl ?_
        -- the new word
        have at118 : ∀ (x2 x3 x4 : Option Value), (∀ q, q < wn S → ¬ sm (wl S q) (wt S q) (tn S) (tl S)) → mm_G l D kA B sz o 1 22 mX10_word (P_word m S (nI n)) 118 [some (.ref (B + 226)), some (.int (nI n)), x2, x3, x4] [] m9 := by
          intro x2 x3 x4 hno
          refine e_aload_n dX10_word_118 rfl rfl ?_
          refine m_get 10 3 lf_X10_66 dX10_word_119 (ly_226 B _ _) rfl ?_
          refine e_top (w := nI (wn S)) (hs.xwn) ?_
          refine e_bipush (v := nI 60) dX10_word_122 (by decide) ?_
          refine n_icmp_ne 130 dX10_word_124 (by decide) (by omega) (by omega) (fun g3 => ?_) (fun g3 => ?_)
          · refine e_aload_n dX10_word_130 rfl rfl ?_
            refine m_get 10 4 lf_X10_13 dX10_word_131 (ly_226 B _ _) rfl ?_
            refine e_aload_n dX10_word_134 rfl rfl ?_
            refine m_get 10 3 lf_X10_66 dX10_word_135 (ly_226 B _ _) rfl ?_
            refine e_top (w := nI (wn S)) (hs.xwn) ?_
            refine e_aload_n dX10_word_138 rfl rfl ?_
            refine m_get 10 1 lf_X10_73 dX10_word_139 (ly_226 B _ _) rfl ?_
            refine e_top (w := nI (tn S)) (hs.xtn) ?_
            refine m_iast (wn S) dX10_word_142 (fun m => ly_228 B m _) (rfl) (by omega) (by decide) ?_
            refine e_iconst (v := nI 0) dX10_word_143 (by decide) ?_
            refine e_istore_n dX10_word_144 rfl (by decide) rfl ?_
            have copy : ∀ (d k : Nat) (m2 : mm_M), tn S - k = d → k ≤ tn S → m2 228 (wn S) = nI (tn S) → (∀ a, a ≠ 228 → a ≠ 229 → m2 a = m9 a) → (∀ q, q ≠ wn S → m2 228 q = m9 228 q) → (∀ j, j < 12 * wn S → m2 229 j = m9 229 j) → (∀ i, i < k → m2 229 (12 * wn S + i) = nI (tl S i)) → mm_G l D kA B sz o 1 22 mX10_word (P_word m S (nI n)) 145 [some (.ref (B + 226)), some (.int (nI n)), some (.int (nI k)), x3, x4] [] m2 := by
              intro d
              induction d with
              | zero =>
                intro k m2 hd hk2 c1 c2 c3 c4 c5
                refine e_iload_n dX10_word_145 rfl rfl ?_
                refine e_aload_n dX10_word_146 rfl rfl ?_
                refine m_get 10 1 lf_X10_73 dX10_word_147 (ly_226 B _ _) rfl ?_
                refine e_top (w := nI (tn S)) ((by rw [c2 226 (by omega) (by omega)]; exact hs.xtn)) ?_
                refine n_icmp_ge 179 dX10_word_150 (by decide) (by omega) (by omega) (fun g4 => ?_) (fun g4 => ?_)
                · refine e_aload_n dX10_word_179 rfl rfl ?_
                  refine m_get 10 6 lf_X10_19 dX10_word_180 (ly_226 B _ _) rfl ?_
                  refine e_aload_n dX10_word_183 rfl rfl ?_
                  refine m_get 10 3 lf_X10_66 dX10_word_184 (ly_226 B _ _) rfl ?_
                  refine e_top (w := nI (wn S)) ((by rw [c2 226 (by omega) (by omega)]; exact hs.xwn)) ?_
                  refine e_iload_n dX10_word_187 rfl rfl ?_
                  refine m_iast (wn S) dX10_word_188 (fun m => ly_230 B m _) (rfl) (by omega) (by decide) ?_
                  refine e_aload_n dX10_word_189 rfl rfl ?_
                  refine e_dup dX10_word_190 rfl ?_
                  refine m_get 10 3 lf_X10_66 dX10_word_191 (ly_226 B _ _) rfl ?_
                  refine e_top (w := nI (wn S)) (by rw [wr_off _ _ (by omega), c2 226 (by omega) (by omega)]; exact hs.xwn) ?_
                  refine e_iconst (v := nI 1) dX10_word_194 (by decide) ?_
                  refine e_iadd dX10_word_195 ?_
                  refine e_top (w := nI ((wn S) + 1)) (nI_add _ _) ?_
                  refine m_puti 10 3 lp_X10_66 dX10_word_196 (ly_226 B _ _) (Nat.le_of_ble_eq_true rfl) (ly_226 B _ _) rfl ?_
                  refine e_aload_n dX10_word_199 rfl rfl ?_
                  refine m_get 10 3 lf_X10_66 dX10_word_200 (ly_226 B _ _) rfl ?_
                  refine e_top (w := nI (wn S + 1)) (wr_same _ _ _ _) ?_
                  refine e_iconst (v := nI 1) dX10_word_203 (by decide) ?_
                  refine e_isub dX10_word_204 ?_
                  refine e_top (w := nI ((wn S + 1) - 1)) (pk_sub (by omega)) ?_
                  refine m_iret dX10_word_205 rfl (Nat.le_refl _) (Nat.le_refl _) ⟨_, _, rfl, Or.inr (Or.inr (Or.inr ⟨n, n1, n2, rfl, by omega, hno, by omega, rfl, rfl⟩)), ?_, fun a ha => by rw [wr_off _ _ (by omega), wr_off _ _ (by omega), c2 a (by omega) (by omega)]; exact f1 a ha⟩
                  have ho : ∀ a, a ≠ 226 → a ≠ 230 → wr (wr m2 230 (wn S) (nI n)) 226 3 (nI (wn S + 1)) a = m2 a := fun a h1 h2 => by rw [wr_off _ _ h1, wr_off _ _ h2]
                  have ho6 : ∀ i, i ≠ 3 → wr (wr m2 230 (wn S) (nI n)) 226 3 (nI (wn S + 1)) 226 i = m9 226 i := fun i h1 => by rw [wr_ne _ _ (Or.inr h1), wr_ne _ _ (Or.inl (by omega)), c2 226 (by omega) (by omega)]
                  refine ⟨(ho6 1 (by omega)).trans hs.xtn, by rw [ho _ (by omega) (by omega), c2 _ (by omega) (by omega)]; exact hs.xtl, wr_same _ _ _ _, fun q hq => ?_, fun q i hq hi => ?_, fun q hq => ?_, by rw [ho _ (by omega) (by omega), c2 _ (by omega) (by omega)]; exact hs.xpp, by rw [ho _ (by omega) (by omega), c2 _ (by omega) (by omega)]; exact hs.xww, (ho6 9 (by omega)).trans hs.xkn, by rw [ho _ (by omega) (by omega), c2 _ (by omega) (by omega)]; exact hs.xkl, by rw [ho _ (by omega) (by omega), c2 _ (by omega) (by omega)]; exact hs.xkt, by rw [ho _ (by omega) (by omega), c2 _ (by omega) (by omega)]; exact hs.xpa⟩
                  · have hq' : q < wn S + 1 := hq
                    rw [ho _ (by omega) (by omega)]
                    show m2 228 q = nI (va_up (wl S) (wn S) (tn S) q)
                    by_cases e : q = wn S
                    · rw [e, va_up_self]; exact c1
                    · rw [va_up_ne _ _ e, c3 q e]; exact hs.xwl q (by omega)
                  · have hq' : q < wn S + 1 := hq
                    have hi' : i < va_up (wl S) (wn S) (tn S) q := hi
                    rw [ho _ (by omega) (by omega)]
                    show m2 229 (12 * q + i) = nI (va_up (wt S) (wn S) (tl S) q i)
                    by_cases e : q = wn S
                    · subst e
                      rw [va_up_self] at hi' ⊢
                      exact c5 i (by omega)
                    · rw [va_up_ne _ _ e] at hi' ⊢
                      have := (hk.2.2.2.1 q (by omega)).2.1
                      rw [c4 _ (by omega)]; exact hs.xwt q i (by omega) hi'
                  · have hq' : q < wn S + 1 := hq
                    rw [wr_off _ _ (by omega)]
                    show wr m2 230 (wn S) (nI n) 230 q = nI (va_up (wc S) (wn S) n q)
                    by_cases e : q = wn S
                    · rw [e, va_up_self, wr_same]
                    · rw [va_up_ne _ _ e, wr_ne _ _ (Or.inr e), c2 230 (by omega) (by omega)]; exact hs.xwc q (by omega)
                · exact absurd g4 (by omega)
              | succ d ih =>
                intro k m2 hd hk2 c1 c2 c3 c4 c5
                refine e_iload_n dX10_word_145 rfl rfl ?_
                refine e_aload_n dX10_word_146 rfl rfl ?_
                refine m_get 10 1 lf_X10_73 dX10_word_147 (ly_226 B _ _) rfl ?_
                refine e_top (w := nI (tn S)) ((by rw [c2 226 (by omega) (by omega)]; exact hs.xtn)) ?_
                refine n_icmp_ge 179 dX10_word_150 (by decide) (by omega) (by omega) (fun g4 => ?_) (fun g4 => ?_)
                · exact absurd g4 (by omega)
                · refine e_aload_n dX10_word_153 rfl rfl ?_
                  refine m_get 10 5 lf_X10_16 dX10_word_154 (ly_226 B _ _) rfl ?_
                  refine e_bipush (v := nI 12) dX10_word_157 (by decide) ?_
                  refine e_aload_n dX10_word_159 rfl rfl ?_
                  refine m_get 10 3 lf_X10_66 dX10_word_160 (ly_226 B _ _) rfl ?_
                  refine e_top (w := nI (wn S)) ((by rw [c2 226 (by omega) (by omega)]; exact hs.xwn)) ?_
                  refine e_imul dX10_word_163 ?_
                  refine e_top (w := nI (12 * (wn S))) (pk_mul _ _) ?_
                  refine e_iload_n dX10_word_164 rfl rfl ?_
                  refine e_iadd dX10_word_165 ?_
                  refine e_top (w := nI ((12 * (wn S)) + k)) (nI_add _ _) ?_
                  refine e_aload_n dX10_word_166 rfl rfl ?_
                  refine m_get 10 2 lf_X10_7 dX10_word_167 (ly_226 B _ _) rfl ?_
                  refine e_iload_n dX10_word_170 rfl rfl ?_
                  refine m_iald (k) dX10_word_171 (ly_227 B _ _) (rfl) (by omega) (by decide) ?_
                  refine e_top (w := nI (tl S k)) ((by rw [c2 227 (by omega) (by omega)]; exact hs.xtl k (by omega))) ?_
                  refine m_iast ((12 * (wn S)) + k) dX10_word_172 (fun m => ly_229 B m _) (rfl) (by omega) (by decide) ?_
                  refine e_iinc (v := nI (k + 1)) dX10_word_173 rfl (nI_add _ _) (by decide) rfl ?_
                  refine e_goto 145 dX10_word_176 (by decide) ?_
                  refine ih (k + 1) _ (by omega) (by omega) (by rw [wr_off _ _ (by omega)]; exact c1) (fun a a1 a2 => by rw [wr_off _ _ a2]; exact c2 a a1 a2) (fun q hq => by rw [wr_off _ _ (by omega)]; exact c3 q hq) (fun j hj => by rw [wr_ne _ _ (Or.inr (by omega))]; exact c4 j hj) (fun i hi => ?_)
                  by_cases e : i = k
                  · rw [e, wr_same]
                  · rw [wr_ne _ _ (Or.inr (by omega))]; exact c5 i (by omega)
            exact copy (tn S) 0 _ (by omega) (by omega) (wr_same _ _ _ _) (fun a a1 a2 => wr_off _ _ a1) (fun q hq => wr_ne _ _ (Or.inr hq)) (fun j hj => by rw [wr_off _ _ (by omega)]) (fun i hi => by omega)
          · refine e_bipush (v := -4) dX10_word_127 (by decide) ?_
            exact m_iret dX10_word_129 rfl (Nat.le_refl _) (Nat.le_refl _) (⟨_, _, rfl, Or.inr (Or.inr (Or.inl ⟨h1, by omega, hno, g3, rfl, rfl⟩)), hs, f1⟩)
        -- the words that there are
        have loop : ∀ (d w : Nat) (x3 x4 : Option Value), wn S - w = d → w ≤ wn S → (∀ q, q < w → ¬ sm (wl S q) (wt S q) (tn S) (tl S)) → mm_G l D kA B sz o 1 22 mX10_word (P_word m S (nI n)) 28 [some (.ref (B + 226)), some (.int (nI n)), some (.int (nI w)), x3, x4] [] m9 := by
          intro d
          induction d with
          | zero =>
            intro w x3 x4 hd hw hno
            refine e_iload_n dX10_word_28 rfl rfl ?_
            refine e_aload_n dX10_word_29 rfl rfl ?_
            refine m_get 10 3 lf_X10_66 dX10_word_30 (ly_226 B _ _) rfl ?_
            refine e_top (w := nI (wn S)) (hs.xwn) ?_
            refine n_icmp_ge 118 dX10_word_33 (by decide) (by omega) (by omega) (fun g3 => ?_) (fun g3 => ?_)
            · exact at118 _ _ _ (fun q hq => hno q (by omega))
            · exact absurd g3 (by omega)
          | succ d ih =>
            intro w x3 x4 hd hw hno
            have w12 := (hk.2.2.2.1 w (by omega)).2.1
            refine e_iload_n dX10_word_28 rfl rfl ?_
            refine e_aload_n dX10_word_29 rfl rfl ?_
            refine m_get 10 3 lf_X10_66 dX10_word_30 (ly_226 B _ _) rfl ?_
            refine e_top (w := nI (wn S)) (hs.xwn) ?_
            refine n_icmp_ge 118 dX10_word_33 (by decide) (by omega) (by omega) (fun g3 => ?_) (fun g3 => ?_)
            · exact absurd g3 (by omega)
            · -- not alike: the next one
              have at105 : ∀ (x4 : Option Value), ¬ sm (wl S w) (wt S w) (tn S) (tl S) → mm_G l D kA B sz o 1 22 mX10_word (P_word m S (nI n)) 105 [some (.ref (B + 226)), some (.int (nI n)), some (.int (nI w)), some (.int (nI 0)), x4] [] m9 := by
                intro x4 hne
                refine e_iload_n dX10_word_105 rfl rfl ?_
                refine n_if_eq 112 dX10_word_106 (by decide) (by omega) (fun g4 => ?_) (fun g4 => ?_)
                · refine e_iinc (v := nI (w + 1)) dX10_word_112 rfl (nI_add _ _) (by decide) rfl ?_
                  refine e_goto 28 dX10_word_115 (by decide) ?_
                  exact ih (w + 1) _ _ (by omega) (by omega) (fun q hq => by
                    by_cases e : q = w
                    · subst e; exact hne
                    · exact hno q (by omega))
                · exact absurd rfl g4
              have at58 : ∀ (k : Nat), ¬ sm (wl S w) (wt S w) (tn S) (tl S) → k ≤ tn S → mm_G l D kA B sz o 1 22 mX10_word (P_word m S (nI n)) 58 [some (.ref (B + 226)), some (.int (nI n)), some (.int (nI w)), some (.int (nI 0)), some (.int (nI k))] [] m9 := by
                intro k hne hkt
                refine e_iload dX10_word_58 rfl ?_
                refine e_aload_n dX10_word_60 rfl rfl ?_
                refine m_get 10 1 lf_X10_73 dX10_word_61 (ly_226 B _ _) rfl ?_
                refine e_top (w := nI (tn S)) (hs.xtn) ?_
                refine n_icmp_ge 105 dX10_word_64 (by decide) (by omega) (by omega) (fun g4 => ?_) (fun g4 => ?_)
                · exact at105 _ hne
                · refine e_iload_n dX10_word_67 rfl rfl ?_
                  refine n_if_eq 105 dX10_word_68 (by decide) (by omega) (fun g5 => ?_) (fun g5 => ?_)
                  · exact at105 _ hne
                  · exact absurd rfl g5
              have kloop : ∀ (e k : Nat), tn S - k = e → k ≤ tn S → wl S w = tn S → (∀ i, i < k → wt S w i = tl S i) → mm_G l D kA B sz o 1 22 mX10_word (P_word m S (nI n)) 58 [some (.ref (B + 226)), some (.int (nI n)), some (.int (nI w)), some (.int (nI 1)), some (.int (nI k))] [] m9 := by
                intro e
                induction e with
                | zero =>
                  intro k hd hkt hl he
                  refine e_iload dX10_word_58 rfl ?_
                  refine e_aload_n dX10_word_60 rfl rfl ?_
                  refine m_get 10 1 lf_X10_73 dX10_word_61 (ly_226 B _ _) rfl ?_
                  refine e_top (w := nI (tn S)) (hs.xtn) ?_
                  refine n_icmp_ge 105 dX10_word_64 (by decide) (by omega) (by omega) (fun g4 => ?_) (fun g4 => ?_)
                  · refine e_iload_n dX10_word_105 rfl rfl ?_
                    refine n_if_eq 112 dX10_word_106 (by decide) (by omega) (fun g5 => ?_) (fun g5 => ?_)
                    · exact absurd g5 (by omega)
                    · refine e_bipush (v := -3) dX10_word_109 (by decide) ?_
                      exact m_iret dX10_word_111 rfl (Nat.le_refl _) (Nat.le_refl _) (⟨_, _, rfl, Or.inr (Or.inl ⟨h1, by omega, ⟨w, by omega, hl, fun i hi => he i (by omega)⟩, rfl, rfl⟩), hs, f1⟩)
                  · exact absurd g4 (by omega)
                | succ e ih2 =>
                  intro k hd hkt hl he
                  have y1 := (hk.2.2.2.1 w (by omega)).2.2.1 k (by omega)
                  have y2 := hk.2.1 k (by omega)
                  refine e_iload dX10_word_58 rfl ?_
                  refine e_aload_n dX10_word_60 rfl rfl ?_
                  refine m_get 10 1 lf_X10_73 dX10_word_61 (ly_226 B _ _) rfl ?_
                  refine e_top (w := nI (tn S)) (hs.xtn) ?_
                  refine n_icmp_ge 105 dX10_word_64 (by decide) (by omega) (by omega) (fun g4 => ?_) (fun g4 => ?_)
                  · exact absurd g4 (by omega)
                  · refine e_iload_n dX10_word_67 rfl rfl ?_
                    refine n_if_eq 105 dX10_word_68 (by decide) (by omega) (fun g5 => ?_) (fun g5 => ?_)
                    · exact absurd g5 (by omega)
                    · refine e_aload_n dX10_word_71 rfl rfl ?_
                      refine m_get 10 5 lf_X10_16 dX10_word_72 (ly_226 B _ _) rfl ?_
                      refine e_bipush (v := nI 12) dX10_word_75 (by decide) ?_
                      refine e_iload_n dX10_word_77 rfl rfl ?_
                      refine e_imul dX10_word_78 ?_
                      refine e_top (w := nI (12 * w)) (pk_mul _ _) ?_
                      refine e_iload dX10_word_79 rfl ?_
                      refine e_iadd dX10_word_81 ?_
                      refine e_top (w := nI ((12 * w) + k)) (nI_add _ _) ?_
                      refine m_iald ((12 * w) + k) dX10_word_82 (ly_229 B _ _) (rfl) (by omega) (by decide) ?_
                      refine e_top (w := nI (wt S w k)) (hs.xwt w k (by omega) (by omega)) ?_
                      refine e_aload_n dX10_word_83 rfl rfl ?_
                      refine m_get 10 2 lf_X10_7 dX10_word_84 (ly_226 B _ _) rfl ?_
                      refine e_iload dX10_word_87 rfl ?_
                      refine m_iald (k) dX10_word_89 (ly_227 B _ _) (rfl) (by omega) (by decide) ?_
                      refine e_top (w := nI (tl S k)) (hs.xtl k (by omega)) ?_
                      refine n_icmp_ne 97 dX10_word_90 (by decide) (by omega) (by omega) (fun g6 => ?_) (fun g6 => ?_)
                      · refine e_iconst (v := nI 0) dX10_word_97 (by decide) ?_
                        refine e_istore_n dX10_word_98 rfl (by decide) rfl ?_
                        refine e_iinc (v := nI (k + 1)) dX10_word_99 rfl (nI_add _ _) (by decide) rfl ?_
                        refine e_goto 58 dX10_word_102 (by decide) ?_
                        exact at58 (k + 1) (fun z => g6 (z.2 k (by omega))) (by omega)
                      · refine e_iconst (v := nI 1) dX10_word_93 (by decide) ?_
                        refine e_goto 98 dX10_word_94 (by decide) ?_
                        refine e_istore_n dX10_word_98 rfl (by decide) rfl ?_
                        refine e_iinc (v := nI (k + 1)) dX10_word_99 rfl (nI_add _ _) (by decide) rfl ?_
                        refine e_goto 58 dX10_word_102 (by decide) ?_
                        exact ih2 (k + 1) (by omega) (by omega) hl (fun i hi => by
                          by_cases e9 : i = k
                          · subst e9; exact g6
                          · exact he i (by omega))
              refine e_aload_n dX10_word_36 rfl rfl ?_
              refine m_get 10 4 lf_X10_13 dX10_word_37 (ly_226 B _ _) rfl ?_
              refine e_iload_n dX10_word_40 rfl rfl ?_
              refine m_iald (w) dX10_word_41 (ly_228 B _ _) (rfl) (by omega) (by decide) ?_
              refine e_top (w := nI (wl S w)) (hs.xwl w (by omega)) ?_
              refine e_aload_n dX10_word_42 rfl rfl ?_
              refine m_get 10 1 lf_X10_73 dX10_word_43 (ly_226 B _ _) rfl ?_
              refine e_top (w := nI (tn S)) (hs.xtn) ?_
              refine n_icmp_ne 53 dX10_word_46 (by decide) (by omega) (by omega) (fun g4 => ?_) (fun g4 => ?_)
              · refine e_iconst (v := nI 0) dX10_word_53 (by decide) ?_
                refine e_istore_n dX10_word_54 rfl (by decide) rfl ?_
                refine e_iconst (v := nI 0) dX10_word_55 (by decide) ?_
                refine e_istore dX10_word_56 (by decide) rfl ?_
                exact at58 0 (fun z => g4 z.1) (by omega)
              · refine e_iconst (v := nI 1) dX10_word_49 (by decide) ?_
                refine e_goto 54 dX10_word_50 (by decide) ?_
                refine e_istore_n dX10_word_54 rfl (by decide) rfl ?_
                refine e_iconst (v := nI 0) dX10_word_55 (by decide) ?_
                refine e_istore dX10_word_56 (by decide) rfl ?_
                exact kloop (tn S) 0 (by omega) (by omega) g4 (fun i hi => by omega)
        exact loop (wn S) 0 _ _ (by omega) (by omega) (fun q hq => by omega)
      · refine e_bipush (v := -2) dX10_word_23 (by decide) ?_
        exact m_iret dX10_word_25 rfl (Nat.le_refl _) (Nat.le_refl _) (⟨_, _, rfl, Or.inl ⟨Or.inr g2, rfl, rfl⟩, hs, f1⟩)
  · refine e_if_eq 23 dX10_word_13 (by decide) (fun g1 => ?_) (fun g1 => ?_)
    · refine e_bipush (v := -2) dX10_word_23 (by decide) ?_
      exact m_iret dX10_word_25 rfl (Nat.le_refl _) (Nat.le_refl _) (⟨_, _, rfl, Or.inl ⟨Or.inl h1, rfl, rfl⟩, hs, f1⟩)
    · exact absurd rfl g1
end REH
