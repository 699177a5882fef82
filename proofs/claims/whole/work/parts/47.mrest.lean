section REM
variable {l : Launch} {D : va_G} {kA : FieldType → ClassId} {B sz : Nat} {o : Int64}
def P_tok (m : mm_M) (S : sp_S) (v : Option Value) (m' : mm_M) : Prop := ∃ y S', v = some (.int y) ∧ R_token S y S' ∧ ms m' S' ∧ fw m m'
set_option maxRecDepth 100000 in
theorem r_token (m : mm_M) {S : sp_S} (hk : ok S) (hm : ms m S) : mm_F l D kA B sz o 0 0 mX10_token [.ref (B + 226)] m (P_tok m S) := by
  have t12 := hk.1
  have k6 := hk.2.2.2.2.2.2.2.2.2.1
  refine mm_F.of ?_
  refine e_aload_n dX10_token_0 rfl rfl ?_
  refine e_iconst (v := nI 0) dX10_token_1 (by decide) ?_
  refine m_puti 10 0 lp_X10_62 dX10_token_2 (ly_226 B _ _) (Nat.le_of_ble_eq_true rfl) (ly_226 B _ _) rfl ?_
  obtain ⟨m1, e1, hs, f1, -⟩ := ms_th (x := nI 0) hm
  rw [e1]
  refine e_aload_n dX10_token_5 rfl rfl ?_
  refine m_get 10 1 lf_X10_73 dX10_token_6 (ly_226 B _ _) rfl ?_
  refine e_top (w := nI (tn S)) (hs.xtn) ?_
  refine n_if_ne 15 dX10_token_9 (by decide) (by omega) (fun g1 => ?_) (fun g1 => ?_)
  · refine e_aload_n dX10_token_15 rfl rfl ?_
    refine m_get 10 9 lf_X10_136 dX10_token_16 (ly_226 B _ _) rfl ?_
    refine e_top (w := nI (kn S)) (hs.xkn) ?_
    refine e_bipush (v := nI 6) dX10_token_19 (by decide) ?_
    refine n_icmp_ne 27 dX10_token_21 (by decide) (by omega) (by omega) (fun g2 => ?_) (fun g2 => ?_)
    · refine e_aload_n dX10_token_27 rfl rfl ?_
      refine m_get 10 10 lf_X10_28 dX10_token_28 (ly_226 B _ _) rfl ?_
      refine e_aload_n dX10_token_31 rfl rfl ?_
      refine m_get 10 9 lf_X10_136 dX10_token_32 (ly_226 B _ _) rfl ?_
      refine e_top (w := nI (kn S)) (hs.xkn) ?_
      refine e_aload_n dX10_token_35 rfl rfl ?_
      refine m_get 10 1 lf_X10_73 dX10_token_36 (ly_226 B _ _) rfl ?_
      refine e_top (w := nI (tn S)) (hs.xtn) ?_
      refine m_iast (kn S) dX10_token_39 (fun m => ly_233 B m _) (rfl) (by omega) (by decide) ?_
      refine e_iconst (v := nI 0) dX10_token_40 (by decide) ?_
      refine e_istore_n dX10_token_41 rfl (by decide) rfl ?_
      have copy : ∀ (d k : Nat) (m2 : mm_M), tn S - k = d → k ≤ tn S → m2 233 (kn S) = nI (tn S) → (∀ a, a ≠ 233 → a ≠ 234 → m2 a = m1 a) → (∀ q, q ≠ kn S → m2 233 q = m1 233 q) → (∀ j, j < 12 * kn S → m2 234 j = m1 234 j) → (∀ i, i < k → m2 234 (12 * kn S + i) = nI (tl S i)) → mm_G l D kA B sz o 0 0 mX10_token (P_tok m S) 42 [some (.ref (B + 226)), some (.int (nI k))] [] m2 := by
        intro d
        induction d with
        | zero =>
          intro k m2 hd hk2 c1 c2 c3 c4 c5
          refine e_iload_n dX10_token_42 rfl rfl ?_
          refine e_aload_n dX10_token_43 rfl rfl ?_
          refine m_get 10 1 lf_X10_73 dX10_token_44 (ly_226 B _ _) rfl ?_
          refine e_top (w := nI (tn S)) ((by rw [c2 226 (by omega) (by omega)]; exact hs.xtn)) ?_
          refine n_icmp_ge 76 dX10_token_47 (by decide) (by omega) (by omega) (fun g4 => ?_) (fun g4 => ?_)
          · refine e_aload_n dX10_token_76 rfl rfl ?_
            refine e_dup dX10_token_77 rfl ?_
            refine m_get 10 9 lf_X10_136 dX10_token_78 (ly_226 B _ _) rfl ?_
            refine e_top (w := nI (kn S)) (by rw [c2 226 (by omega) (by omega)]; exact hs.xkn) ?_
            refine e_iconst (v := nI 1) dX10_token_81 (by decide) ?_
            refine e_iadd dX10_token_82 ?_
            refine e_top (w := nI ((kn S) + 1)) (nI_add _ _) ?_
            refine m_puti 10 9 lp_X10_136 dX10_token_83 (ly_226 B _ _) (Nat.le_of_ble_eq_true rfl) (ly_226 B _ _) rfl ?_
            refine e_aload_n dX10_token_86 rfl rfl ?_
            refine e_iconst (v := nI 0) dX10_token_87 (by decide) ?_
            refine m_puti 10 1 lp_X10_73 dX10_token_88 (ly_226 B _ _) (Nat.le_of_ble_eq_true rfl) (ly_226 B _ _) rfl ?_
            refine e_aload_n dX10_token_91 rfl rfl ?_
            refine m_get 10 9 lf_X10_136 dX10_token_92 (ly_226 B _ _) rfl ?_
            refine e_top (w := nI (kn S + 1)) ((wr_ne _ _ (Or.inr (by omega))).trans (wr_same _ _ _ _)) ?_
            refine m_iret dX10_token_95 rfl (Nat.le_refl _) (Nat.le_refl _) ⟨_, _, rfl, Or.inr (Or.inr ⟨by omega, by omega, rfl, rfl⟩), ?_, fun a ha => by rw [wr_off _ _ (by omega), wr_off _ _ (by omega), c2 a (by omega) (by omega)]; exact f1 a ha⟩
            have ho : ∀ a, a ≠ 226 → wr (wr m2 226 9 (nI (kn S + 1))) 226 1 (nI 0) a = m2 a := fun a h1 => by rw [wr_off _ _ h1, wr_off _ _ h1]
            refine ⟨wr_same _ _ _ _, fun i hi => absurd hi (Nat.not_lt_zero i), ((wr_ne _ _ (Or.inr (by omega))).trans (wr_ne _ _ (Or.inr (by omega)))).trans (by rw [c2 226 (by omega) (by omega)]; exact hs.xwn), by rw [ho _ (by omega), c2 _ (by omega) (by omega)]; exact hs.xwl, by rw [ho _ (by omega), c2 _ (by omega) (by omega)]; exact hs.xwt, by rw [ho _ (by omega), c2 _ (by omega) (by omega)]; exact hs.xwc, by rw [ho _ (by omega), c2 _ (by omega) (by omega)]; exact hs.xpp, by rw [ho _ (by omega), c2 _ (by omega) (by omega)]; exact hs.xww, (wr_ne _ _ (Or.inr (by omega))).trans (wr_same _ _ _ _), fun q hq => ?_, fun q i hq hi => ?_, by rw [ho _ (by omega), c2 _ (by omega) (by omega)]; exact hs.xpa⟩
            · have hq' : q < kn S + 1 := hq
              rw [ho _ (by omega)]
              show m2 233 q = nI (va_up (kl S) (kn S) (tn S) q)
              by_cases e : q = kn S
              · rw [e, va_up_self]; exact c1
              · rw [va_up_ne _ _ e, c3 q e]; exact hs.xkl q (by omega)
            · have hq' : q < kn S + 1 := hq
              have hi' : i < va_up (kl S) (kn S) (tn S) q := hi
              rw [ho _ (by omega)]
              show m2 234 (12 * q + i) = nI (va_up (kt S) (kn S) (tl S) q i)
              by_cases e : q = kn S
              · subst e
                rw [va_up_self] at hi' ⊢
                exact c5 i (by omega)
              · rw [va_up_ne _ _ e] at hi' ⊢
                have := (hk.2.2.2.2.2.2.2.2.2.2 q (by omega)).2.1
                rw [c4 _ (by omega)]; exact hs.xkt q i (by omega) hi'
          · exact absurd g4 (by omega)
        | succ d ih =>
          intro k m2 hd hk2 c1 c2 c3 c4 c5
          refine e_iload_n dX10_token_42 rfl rfl ?_
          refine e_aload_n dX10_token_43 rfl rfl ?_
          refine m_get 10 1 lf_X10_73 dX10_token_44 (ly_226 B _ _) rfl ?_
          refine e_top (w := nI (tn S)) ((by rw [c2 226 (by omega) (by omega)]; exact hs.xtn)) ?_
          refine n_icmp_ge 76 dX10_token_47 (by decide) (by omega) (by omega) (fun g4 => ?_) (fun g4 => ?_)
          · exact absurd g4 (by omega)
          · refine e_aload_n dX10_token_50 rfl rfl ?_
            refine m_get 10 11 lf_X10_31 dX10_token_51 (ly_226 B _ _) rfl ?_
            refine e_bipush (v := nI 12) dX10_token_54 (by decide) ?_
            refine e_aload_n dX10_token_56 rfl rfl ?_
            refine m_get 10 9 lf_X10_136 dX10_token_57 (ly_226 B _ _) rfl ?_
            refine e_top (w := nI (kn S)) ((by rw [c2 226 (by omega) (by omega)]; exact hs.xkn)) ?_
            refine e_imul dX10_token_60 ?_
            refine e_top (w := nI (12 * (kn S))) (pk_mul _ _) ?_
            refine e_iload_n dX10_token_61 rfl rfl ?_
            refine e_iadd dX10_token_62 ?_
            refine e_top (w := nI ((12 * (kn S)) + k)) (nI_add _ _) ?_
            refine e_aload_n dX10_token_63 rfl rfl ?_
            refine m_get 10 2 lf_X10_7 dX10_token_64 (ly_226 B _ _) rfl ?_
            refine e_iload_n dX10_token_67 rfl rfl ?_
            refine m_iald (k) dX10_token_68 (ly_227 B _ _) (rfl) (by omega) (by decide) ?_
            refine e_top (w := nI (tl S k)) ((by rw [c2 227 (by omega) (by omega)]; exact hs.xtl k (by omega))) ?_
            refine m_iast ((12 * (kn S)) + k) dX10_token_69 (fun m => ly_234 B m _) (rfl) (by omega) (by decide) ?_
            refine e_iinc (v := nI (k + 1)) dX10_token_70 rfl (nI_add _ _) (by decide) rfl ?_
            refine e_goto 42 dX10_token_73 (by decide) ?_
            refine ih (k + 1) _ (by omega) (by omega) (by rw [wr_off _ _ (by omega)]; exact c1) (fun a a1 a2 => by rw [wr_off _ _ a2]; exact c2 a a1 a2) (fun q hq => by rw [wr_off _ _ (by omega)]; exact c3 q hq) (fun j hj => by rw [wr_ne _ _ (Or.inr (by omega))]; exact c4 j hj) (fun i hi => ?_)
            by_cases e : i = k
            · rw [e, wr_same]
            · rw [wr_ne _ _ (Or.inr (by omega))]; exact c5 i (by omega)
      exact copy (tn S) 0 _ (by omega) (by omega) (wr_same _ _ _ _) (fun a a1 a2 => wr_off _ _ a1) (fun q hq => wr_ne _ _ (Or.inr hq)) (fun j hj => by rw [wr_off _ _ (by omega)]) (fun i hi => by omega)
    · refine e_bipush (v := -4) dX10_token_24 (by decide) ?_
      exact m_iret dX10_token_26 rfl (Nat.le_refl _) (Nat.le_refl _) (⟨_, _, rfl, Or.inr (Or.inl ⟨by omega, g2, rfl, rfl⟩), hs, f1⟩)
  · refine e_bipush (v := -2) dX10_token_12 (by decide) ?_
    exact m_iret dX10_token_14 rfl (Nat.le_refl _) (Nat.le_refl _) (⟨_, _, rfl, Or.inl ⟨g1, rfl, rfl⟩, hs, f1⟩)
set_option maxRecDepth 100000 in
theorem r_line (m : mm_M) {S : sp_S} (hm : ms m S) : mm_F l D kA B sz o 0 0 mX10_line [.ref (B + 226)] m (fun v m' => v = some (.int (nI (kn S))) ∧ ms m' (clrK S) ∧ fw m m') := by
  refine mm_F.of ?_
  refine e_aload_n dX10_line_0 rfl rfl ?_
  refine e_iconst (v := nI 0) dX10_line_1 (by decide) ?_
  refine m_puti 10 0 lp_X10_62 dX10_line_2 (ly_226 B _ _) (Nat.le_of_ble_eq_true rfl) (ly_226 B _ _) rfl ?_
  obtain ⟨m1, e1, hs, f1, -⟩ := ms_th (x := nI 0) hm
  rw [e1]
  refine e_aload_n dX10_line_5 rfl rfl ?_
  refine m_get 10 9 lf_X10_136 dX10_line_6 (ly_226 B _ _) rfl ?_
  refine e_top (w := nI (kn S)) (hs.xkn) ?_
  refine e_istore_n dX10_line_9 rfl (by decide) rfl ?_
  refine e_aload_n dX10_line_10 rfl rfl ?_
  refine e_iconst (v := nI 0) dX10_line_11 (by decide) ?_
  refine m_puti 10 9 lp_X10_136 dX10_line_12 (ly_226 B _ _) (Nat.le_of_ble_eq_true rfl) (ly_226 B _ _) rfl ?_
  refine e_iload_n dX10_line_15 rfl rfl ?_
  have ho : ∀ a, a ≠ 226 → wr m1 226 9 (nI 0) a = m1 a := fun a h1 => wr_off _ _ h1
  exact m_iret dX10_line_16 rfl (Nat.le_refl _) (Nat.le_refl _) (⟨rfl, ⟨(wr_ne _ _ (Or.inr (by omega))).trans hs.xtn, by rw [ho _ (by omega)]; exact hs.xtl, (wr_ne _ _ (Or.inr (by omega))).trans hs.xwn, by rw [ho _ (by omega)]; exact hs.xwl, by rw [ho _ (by omega)]; exact hs.xwt, by rw [ho _ (by omega)]; exact hs.xwc, by rw [ho _ (by omega)]; exact hs.xpp, by rw [ho _ (by omega)]; exact hs.xww, wr_same _ _ _ _, fun q hq => absurd hq (Nat.not_lt_zero q), fun q k hq => absurd hq (Nat.not_lt_zero q), by rw [ho _ (by omega)]; exact hs.xpa⟩, f1.wrS (by omega)⟩)
set_option maxRecDepth 100000 in
theorem r_pair (m : mm_M) {S : sp_S} (hk : ok S) (hm : ms m S) (a b : Int32) (on : Bool) : mm_F l D kA B sz o 2 43 mX10_pair [.ref (B + 226), .int a, .int b, .int (if on then nI 1 else nI 0)] m (fun v m' => ∃ y S', v = some (.int y) ∧ R_pair S a b on y S' ∧ ms m' S' ∧ fw m m') := by
  have n60 := hk.2.2.1
  refine mm_F.of ?_
  refine e_aload_n dX10_pair_0 rfl rfl ?_
  refine e_iconst (v := nI 0) dX10_pair_1 (by decide) ?_
  refine m_puti 10 0 lp_X10_62 dX10_pair_2 (ly_226 B _ _) (Nat.le_of_ble_eq_true rfl) (ly_226 B _ _) rfl ?_
  obtain ⟨m1, e1, hs, f1, -⟩ := ms_th (x := nI 0) hm
  rw [e1]
  refine e_aload_n dX10_pair_5 rfl rfl ?_
  refine e_iload_n dX10_pair_6 rfl rfl ?_
  refine m_callV (As := [_]) lc_X10_76 dX10_pair_7 (ly_226 B _ _) rfl rfl (by simp [Value.category]) (Nat.le_of_ble_eq_true rfl) (Nat.le_of_ble_eq_true rfl) ⟨Nat.le_of_ble_eq_true rfl, Nat.le_of_ble_eq_true rfl⟩ ⟨Nat.le_of_ble_eq_true rfl, Nat.le_of_ble_eq_true rfl⟩ (r_isWord m1 hk hs a) (fun v9 m9 hp9 => ?_)
  obtain ⟨rfl, ⟨rfl, p, p1, rfl⟩ | ⟨rfl, h1⟩⟩ := hp9
  · refine e_if_eq 21 dX10_pair_10 (by decide) (fun g1 => ?_) (fun g1 => ?_)
    · exact absurd g1 (by decide)
    · refine e_aload_n dX10_pair_13 rfl rfl ?_
      refine e_iload_n dX10_pair_14 rfl rfl ?_
      refine m_callV (As := [_]) lc_X10_76 dX10_pair_15 (ly_226 B _ _) rfl rfl (by simp [Value.category]) (Nat.le_of_ble_eq_true rfl) (Nat.le_of_ble_eq_true rfl) ⟨Nat.le_of_ble_eq_true rfl, Nat.le_of_ble_eq_true rfl⟩ ⟨Nat.le_of_ble_eq_true rfl, Nat.le_of_ble_eq_true rfl⟩ (r_isWord m9 hk hs b) (fun v9 m2 hp9 => ?_)
      obtain ⟨rfl, ⟨rfl, q, q1, rfl⟩ | ⟨rfl, h2⟩⟩ := hp9
      · refine e_if_ne 23 dX10_pair_18 (by decide) (fun g2 => ?_) (fun g2 => ?_)
        · have hms : ms (wr m2 235 (60 * p + q) (if on then nI 1 else nI 0)) (setA S p q on) := by
            have ho : ∀ a, a ≠ 235 → wr m2 235 (60 * p + q) (if on then nI 1 else nI 0) a = m2 a := fun a h1 => wr_off _ _ h1
            refine ⟨by rw [ho _ (by omega)]; exact hs.xtn, by rw [ho _ (by omega)]; exact hs.xtl, by rw [ho _ (by omega)]; exact hs.xwn, by rw [ho _ (by omega)]; exact hs.xwl, by rw [ho _ (by omega)]; exact hs.xwt, by rw [ho _ (by omega)]; exact hs.xwc, by rw [ho _ (by omega)]; exact hs.xpp, by rw [ho _ (by omega)]; exact hs.xww, by rw [ho _ (by omega)]; exact hs.xkn, by rw [ho _ (by omega)]; exact hs.xkl, by rw [ho _ (by omega)]; exact hs.xkt, fun c d hc' hd => ?_⟩
            show wr m2 235 (60 * p + q) (if on then nI 1 else nI 0) 235 (60 * c + d) = if va_up (pa S) p (va_up (pa S p) q on) c d then nI 1 else nI 0
            by_cases e : c = p
            · subst e
              rw [va_up_self]
              by_cases e2 : d = q
              · rw [e2, va_up_self, wr_same]
              · rw [va_up_ne _ _ e2, wr_ne _ _ (Or.inr (by omega))]; exact hs.xpa c d hc' hd
            · rw [va_up_ne _ _ e, wr_ne _ _ (Or.inr (by omega))]; exact hs.xpa c d hc' hd
          refine e_aload_n dX10_pair_23 rfl rfl ?_
          refine m_get 10 12 lf_X10_34 dX10_pair_24 (ly_226 B _ _) rfl ?_
          refine e_bipush (v := nI 60) dX10_pair_27 (by decide) ?_
          refine e_iload_n dX10_pair_29 rfl rfl ?_
          refine e_imul dX10_pair_30 ?_
          refine e_top (w := nI (60 * p)) (pk_mul _ _) ?_
          refine e_iload_n dX10_pair_31 rfl rfl ?_
          refine e_iadd dX10_pair_32 ?_
          refine e_top (w := nI ((60 * p) + q)) (nI_add _ _) ?_
          refine m_zald ((60 * p) + q) dX10_pair_33 (ly_235 B _ _) (rfl) (by omega) (by decide) ?_
          refine e_top (w := if pa S p q then nI 1 else nI 0) (hs.xpa p q (by omega) (by omega)) ?_
          refine e_istore dX10_pair_34 (by decide) rfl ?_
          refine e_aload_n dX10_pair_36 rfl rfl ?_
          refine m_get 10 12 lf_X10_34 dX10_pair_37 (ly_226 B _ _) rfl ?_
          refine e_bipush (v := nI 60) dX10_pair_40 (by decide) ?_
          refine e_iload_n dX10_pair_42 rfl rfl ?_
          refine e_imul dX10_pair_43 ?_
          refine e_top (w := nI (60 * p)) (pk_mul _ _) ?_
          refine e_iload_n dX10_pair_44 rfl rfl ?_
          refine e_iadd dX10_pair_45 ?_
          refine e_top (w := nI ((60 * p) + q)) (nI_add _ _) ?_
          refine e_iload_n dX10_pair_46 rfl rfl ?_
          refine m_zast ((60 * p) + q) dX10_pair_47 (fun m => ly_235 B m _) (rfl) (by omega) (by decide) (bool_nar2 on) ?_
          refine e_iload dX10_pair_48 rfl ?_
          refine e_iload_n dX10_pair_50 rfl rfl ?_
          by_cases e : pa S p q = on
          · refine e_icmp_eq 58 dX10_pair_51 (by decide) (fun g3 => ?_) (fun g3 => ?_)
            · refine e_iconst (v := nI 0) dX10_pair_58 (by decide) ?_
              exact m_iret dX10_pair_59 rfl (Nat.le_refl _) (Nat.le_refl _) (⟨_, _, rfl, Or.inr ⟨p, q, p1, q1, rfl, rfl, by rw [if_pos e], rfl⟩, hms, f1.wrS (by omega)⟩)
            · exact absurd (by rw [e]) g3
          · refine e_icmp_eq 58 dX10_pair_51 (by decide) (fun g3 => ?_) (fun g3 => ?_)
            · exact absurd g3 (by revert e; cases pa S p q <;> cases on <;> decide)
            · refine e_iconst (v := nI 1) dX10_pair_54 (by decide) ?_
              refine e_goto 59 dX10_pair_55 (by decide) ?_
              exact m_iret dX10_pair_59 rfl (Nat.le_refl _) (Nat.le_refl _) (⟨_, _, rfl, Or.inr ⟨p, q, p1, q1, rfl, rfl, by rw [if_neg e], rfl⟩, hms, f1.wrS (by omega)⟩)
        · exact absurd g2 (by decide)
      · refine e_if_ne 23 dX10_pair_18 (by decide) (fun g2 => ?_) (fun g2 => ?_)
        · exact absurd rfl g2
        · refine e_iconst (v := -1) dX10_pair_21 (by decide) ?_
          exact m_iret dX10_pair_22 rfl (Nat.le_refl _) (Nat.le_refl _) (⟨_, _, rfl, Or.inl ⟨Or.inr h2, rfl, rfl⟩, hs, f1⟩)
  · refine e_if_eq 21 dX10_pair_10 (by decide) (fun g1 => ?_) (fun g1 => ?_)
    · refine e_iconst (v := -1) dX10_pair_21 (by decide) ?_
      exact m_iret dX10_pair_22 rfl (Nat.le_refl _) (Nat.le_refl _) (⟨_, _, rfl, Or.inl ⟨Or.inl h1, rfl, rfl⟩, hs, f1⟩)
    · exact absurd rfl g1
set_option maxRecDepth 100000 in
theorem r_nextTo (m : mm_M) {S : sp_S} (hm : ms m S) {a b : Nat} (ha : a < 60) (hb : b < 60) : mm_F l D kA B sz o 0 0 mX10_nextTo [.ref (B + 226), .int (nI a), .int (nI b)] m (fun v m' => m' = m ∧ v = some (.int (nI (np S a b)))) := by
  refine mm_F.of ?_
  refine e_aload_n dX10_nextTo_0 rfl rfl ?_
  refine m_get 10 12 lf_X10_34 dX10_nextTo_1 (ly_226 B _ _) rfl ?_
  refine e_bipush (v := nI 60) dX10_nextTo_4 (by decide) ?_
  refine e_iload_n dX10_nextTo_6 rfl rfl ?_
  refine e_imul dX10_nextTo_7 ?_
  refine e_top (w := nI (60 * a)) (pk_mul _ _) ?_
  refine e_iload_n dX10_nextTo_8 rfl rfl ?_
  refine e_iadd dX10_nextTo_9 ?_
  refine e_top (w := nI ((60 * a) + b)) (nI_add _ _) ?_
  refine m_zald ((60 * a) + b) dX10_nextTo_10 (ly_235 B _ _) (rfl) (by omega) (by decide) ?_
  refine e_top (w := if pa S a b then nI 1 else nI 0) (hm.xpa a b ha hb) ?_
  by_cases e : pa S a b = true
  · rw [if_pos e]
    refine e_if_eq 18 dX10_nextTo_11 (by decide) (fun g1 => ?_) (fun g1 => ?_)
    · exact absurd g1 (by decide)
    · refine e_iconst (v := nI 0) dX10_nextTo_14 (by decide) ?_
      refine e_goto 24 dX10_nextTo_15 (by decide) ?_
      exact m_iret dX10_nextTo_24 rfl (Nat.le_refl _) (Nat.le_refl _) (⟨rfl, by unfold np; rw [if_pos e]⟩)
  · rw [if_neg e]
    refine e_if_eq 18 dX10_nextTo_11 (by decide) (fun g1 => ?_) (fun g1 => ?_)
    · refine e_aload_n dX10_nextTo_18 rfl rfl ?_
      refine m_get 10 7 lf_X10_22 dX10_nextTo_19 (ly_226 B _ _) rfl ?_
      refine e_iconst (v := nI 5) dX10_nextTo_22 (by decide) ?_
      refine m_iald (5) dX10_nextTo_23 (ly_231 B _ _) (rfl) (by omega) (by decide) ?_
      refine e_top (w := nI (pp S 5)) (hm.xpp 5 (by omega)) ?_
      exact m_iret dX10_nextTo_24 rfl (Nat.le_refl _) (Nat.le_refl _) (⟨rfl, by unfold np; rw [if_neg e]⟩)
    · exact absurd rfl g1
/-- SHARE: t says that it throws -/
def R_sh (S : sp_S) (w : Int32) (t : Bool) (v : Int32) : Prop := ((∀ q, q < wn S → w ≠ nI q) ∧ t = false ∧ v = -1) ∨ (∃ q, q < wn S ∧ w = nI q ∧ ((tn S = 0 ∧ t = true ∧ v = 0) ∨ (0 < tn S ∧ t = false ∧ v = nI (1000 * ds S q / tn S))))
set_option maxRecDepth 100000 in
theorem r_share (m : mm_M) {S : sp_S} (hk : ok S) (hm : ms m S) (w : Int32) : mm_F l D kA B sz o 2 50 mX10_share [.ref (B + 226), .int w] m (fun v m' => (∃ y t, v = some (.int y) ∧ R_sh S w t y ∧ m' 226 0 = if t then nI 1 else nI 0) ∧ ms m' S ∧ fw m m') := by
  have t12 := hk.1
  refine mm_F.of ?_
  refine e_aload_n dX10_share_0 rfl rfl ?_
  refine e_iconst (v := nI 0) dX10_share_1 (by decide) ?_
  refine m_puti 10 0 lp_X10_62 dX10_share_2 (ly_226 B _ _) (Nat.le_of_ble_eq_true rfl) (ly_226 B _ _) rfl ?_
  obtain ⟨m1, e1, hs, f1, th⟩ := ms_th (x := nI 0) hm
  rw [e1]
  refine e_aload_n dX10_share_5 rfl rfl ?_
  refine e_iload_n dX10_share_6 rfl rfl ?_
  refine m_callV (As := [_]) lc_X10_76 dX10_share_7 (ly_226 B _ _) rfl rfl (by simp [Value.category]) (Nat.le_of_ble_eq_true rfl) (Nat.le_of_ble_eq_true rfl) ⟨Nat.le_of_ble_eq_true rfl, Nat.le_of_ble_eq_true rfl⟩ ⟨Nat.le_of_ble_eq_true rfl, Nat.le_of_ble_eq_true rfl⟩ (r_isWord m1 hk hs w) (fun v9 m9 hp9 => ?_)
  obtain ⟨rfl, ⟨rfl, q, q1, rfl⟩ | ⟨rfl, h1⟩⟩ := hp9
  · have w12 := (hk.2.2.2.1 q q1).2.1
    have dl := ds_le hk q1
    refine e_if_ne 15 dX10_share_10 (by decide) (fun g1 => ?_) (fun g1 => ?_)
    · refine e_aload_n dX10_share_15 rfl rfl ?_
      refine m_get 10 1 lf_X10_73 dX10_share_16 (ly_226 B _ _) rfl ?_
      refine e_top (w := nI (tn S)) (hs.xtn) ?_
      refine n_if_ne 29 dX10_share_19 (by decide) (by omega) (fun g2 => ?_) (fun g2 => ?_)
      · refine e_aload_n dX10_share_29 rfl rfl ?_
        refine e_iconst (v := nI 0) dX10_share_30 (by decide) ?_
        refine e_aload_n dX10_share_31 rfl rfl ?_
        refine m_get 10 1 lf_X10_73 dX10_share_32 (ly_226 B _ _) rfl ?_
        refine e_top (w := nI (tn S)) (hs.xtn) ?_
        refine m_callV (As := [_, _]) lc_X10_102 dX10_share_35 (ly_226 B _ _) rfl rfl (by simp [Value.category]) (Nat.le_of_ble_eq_true rfl) (Nat.le_of_ble_eq_true rfl) ⟨Nat.le_of_ble_eq_true rfl, Nat.le_of_ble_eq_true rfl⟩ ⟨Nat.le_of_ble_eq_true rfl, Nat.le_of_ble_eq_true rfl⟩ (r_takeTyped m9 hk hs (a := 0) (b := tn S) (r := tl S) (by omega) (by omega) (fun i hi => by rw [Nat.zero_add])) (fun v9 m2 hp9 => ?_)
        obtain ⟨rfl, h2, h3⟩ := hp9
        rw [Nat.sub_zero] at h2
        have hs2 := h3.msS hs
        refine e_sipush (v := nI 1000) dX10_share_38 (by decide) ?_
        refine e_aload_n dX10_share_41 rfl rfl ?_
        refine e_iload_n dX10_share_42 rfl rfl ?_
        refine m_callV (As := [_]) lc_X10_99 dX10_share_43 (ly_226 B _ _) rfl rfl (by simp [Value.category]) (Nat.le_of_ble_eq_true rfl) (Nat.le_of_ble_eq_true rfl) ⟨Nat.le_of_ble_eq_true rfl, Nat.le_of_ble_eq_true rfl⟩ ⟨Nat.le_of_ble_eq_true rfl, Nat.le_of_ble_eq_true rfl⟩ (r_fill m2 hk hs2 q1 h2) (fun v9 m3 hp9 => ?_)
        obtain ⟨rfl, -, h4⟩ := hp9
        have hs3 := hs2.of6 h4
        refine e_imul dX10_share_46 ?_
        refine e_top (w := nI (1000 * (ds S q))) (pk_mul _ _) ?_
        refine e_aload_n dX10_share_47 rfl rfl ?_
        refine m_get 10 1 lf_X10_73 dX10_share_48 (ly_226 B _ _) rfl ?_
        refine e_top (w := nI (tn S)) (hs3.xtn) ?_
        refine e_idiv dX10_share_51 (nI_ne0 (by omega) (by omega)) ?_
        refine e_top (w := nI (1000 * ds S q / tn S)) (pk_div (by omega) (by omega) (by omega)) ?_
        exact m_iret dX10_share_52 rfl (Nat.le_refl _) (Nat.le_refl _) (⟨⟨_, false, rfl, Or.inr ⟨q, q1, rfl, Or.inr ⟨by omega, rfl, rfl⟩⟩, by rw [h4 226 (by omega), h3.2.1]; exact th⟩, hs3, (f1.tr h3.fwS).tr (mf.of6 h4).fwS⟩)
      · refine e_aload_n dX10_share_22 rfl rfl ?_
        refine e_iconst (v := nI 1) dX10_share_23 (by decide) ?_
        refine m_puti 10 0 lp_X10_62 dX10_share_24 (ly_226 B _ _) (Nat.le_of_ble_eq_true rfl) (ly_226 B _ _) rfl ?_
        refine e_iconst (v := nI 0) dX10_share_27 (by decide) ?_
        exact m_iret dX10_share_28 rfl (Nat.le_refl _) (Nat.le_refl _) (⟨⟨_, true, rfl, Or.inr ⟨q, q1, rfl, Or.inl ⟨g2, rfl, rfl⟩⟩, wr_same _ _ _ _⟩, hs.of (fun a _ _ => wr_off _ _ (by omega)) (wr_ne _ _ (Or.inr (by omega))) (wr_ne _ _ (Or.inr (by omega))) (wr_ne _ _ (Or.inr (by omega))), f1.wrS (by omega)⟩)
    · exact absurd g1 (by decide)
  · refine e_if_ne 15 dX10_share_10 (by decide) (fun g1 => ?_) (fun g1 => ?_)
    · exact absurd rfl g1
    · refine e_iconst (v := -1) dX10_share_13 (by decide) ?_
      exact m_iret dX10_share_14 rfl (Nat.le_refl _) (Nat.le_refl _) (⟨⟨_, false, rfl, Or.inl ⟨h1, rfl, rfl⟩, th⟩, hs, f1⟩)
set_option maxRecDepth 100000 in
theorem r_thrown (m : mm_M) : mm_F l D kA B sz o 0 0 mX10_thrown [.ref (B + 226)] m (fun v m' => m' = m ∧ v = some (.int (m 226 0))) := by
  refine mm_F.of ?_
  refine e_aload_n dX10_thrown_0 rfl rfl ?_
  refine m_get 10 0 lf_X10_62 dX10_thrown_1 (ly_226 B _ _) rfl ?_
  exact m_iret dX10_thrown_4 rfl (Nat.le_refl _) (Nat.le_refl _) (⟨rfl, rfl⟩)
end REM
