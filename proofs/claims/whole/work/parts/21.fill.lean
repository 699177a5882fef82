section FIL
variable {l : Launch} {D : va_G} {kA : FieldType → ClassId} {B sz : Nat} {o : Int64}
def P_fill (m : mm_M) (p : Nat → Nat) (w : Nat → Nat → Nat) (n k : Nat) (r t : Nat → Nat) (v : Option Value) (m' : mm_M) : Prop := v = none ∧ (∀ a b, a ≤ n → b ≤ k → m' (177 + a) b = nI (dd p w r t a b)) ∧ ∀ a, a < 177 ∨ 190 ≤ a → m' a = m a
set_option maxRecDepth 100000 in
set_option maxHeartbeats 2000000 in
/-- Table.fill: the table of the DISTANCES of the beginnings -/
theorem c_fill (m : mm_M) {p : Nat → Nat} {w : Nat → Nat → Nat} {n k : Nat} {r t : Nat → Nat} (hp : pr_at m p w) (hr : rw_at m 172 173 n r) (ht : rw_at m 174 175 k t) : mm_F l D kA B sz o 3 68 mX7_fill [.ref (B + 171)] m (P_fill m p w n k r t) := by
  have n12 := hr.2.1
  have k12 := ht.2.1
  have p0 := hp.2.1 0 (by omega)
  have p1 := hp.2.1 1 (by omega)
  refine mm_F.of ?_
  refine e_aload_n dX7_fill_0 rfl rfl ?_
  refine m_get 7 3 lf_X7_23 dX7_fill_1 (ly_171 B _ _) rfl ?_
  refine e_iconst (v := nI 0) dX7_fill_4 (by decide) ?_
  refine m_aald (r := 177 + 0) (0) dX7_fill_5 (by decide) rfl (ly_176 B _ _) (rfl) (by omega) (by decide) (if_pos (by omega)) ?_
  refine e_iconst (v := nI 0) dX7_fill_6 (by decide) ?_
  refine e_iconst (v := nI 0) dX7_fill_7 (by decide) ?_
  refine m_iast (0) dX7_fill_8 (fun m => ly_le B m _ (i := 0) (by omega)) (rfl) (by omega) (by decide) ?_
  refine e_iconst (v := nI 1) dX7_fill_9 (by decide) ?_
  refine e_istore_n dX7_fill_10 rfl (by decide) rfl ?_
  -- the outer loop
  have outer : ∀ (d i : Nat) (m' : mm_M) (x2 : Option Value), n + 1 - i = d → 1 ≤ i → i ≤ n + 1 → (∀ a b, a < i → b ≤ k → m' (177 + a) b = nI (dd p w r t a b)) → (∀ a, a < 177 ∨ 190 ≤ a → m' a = m a) → mm_G l D kA B sz o 3 68 mX7_fill (P_fill m p w n k r t) 58 [some (.ref (B + 171)), some (.int (nI i)), x2] [] m' := by
    intro d
    induction d with
    | zero =>
      intro i m' x2 hd h1 h2 h3 h4
      refine e_iload_n dX7_fill_58 rfl rfl ?_
      refine e_aload_n dX7_fill_59 rfl rfl ?_
      refine m_get 7 1 lf_X7_12 dX7_fill_60 (ly_171 B _ _) rfl ?_
      refine m_get 5 1 lf_X7_48 dX7_fill_63 (ly_172 B _ _) rfl ?_
      refine e_top (w := nI n) ((by rw [h4 172 (by omega)]; exact hr.1)) ?_
      refine n_icmp_gt 136 dX7_fill_66 (by decide) (by omega) (by omega) (fun hc => ?_) (fun hc => ?_)
      · exact m_vret dX7_fill_136 rfl (Nat.le_refl _) (Nat.le_refl _) (⟨rfl, fun a b ha hb => h3 a b (by omega) hb, h4⟩)
      · exact absurd hc (by omega)
    | succ d ih =>
      intro i m' x2 hd h1 h2 h3 h4
      refine e_iload_n dX7_fill_58 rfl rfl ?_
      refine e_aload_n dX7_fill_59 rfl rfl ?_
      refine m_get 7 1 lf_X7_12 dX7_fill_60 (ly_171 B _ _) rfl ?_
      refine m_get 5 1 lf_X7_48 dX7_fill_63 (ly_172 B _ _) rfl ?_
      refine e_top (w := nI n) ((by rw [h4 172 (by omega)]; exact hr.1)) ?_
      refine n_icmp_gt 136 dX7_fill_66 (by decide) (by omega) (by omega) (fun hc => ?_) (fun hc => ?_)
      · exact absurd hc (by omega)
      · refine e_aload_n dX7_fill_69 rfl rfl ?_
        refine m_get 7 3 lf_X7_23 dX7_fill_70 (ly_171 B _ _) rfl ?_
        refine e_iload_n dX7_fill_73 rfl rfl ?_
        refine m_aald (r := 177 + i) (i) dX7_fill_74 (by decide) rfl (ly_176 B _ _) (rfl) (by omega) (by decide) (if_pos (by omega)) ?_
        refine e_iconst (v := nI 0) dX7_fill_75 (by decide) ?_
        refine e_aload_n dX7_fill_76 rfl rfl ?_
        refine m_get 7 3 lf_X7_23 dX7_fill_77 (ly_171 B _ _) rfl ?_
        refine e_iload_n dX7_fill_80 rfl rfl ?_
        refine e_iconst (v := nI 1) dX7_fill_81 (by decide) ?_
        refine e_isub dX7_fill_82 ?_
        refine e_top (w := nI (i - 1)) (pk_sub (by omega)) ?_
        refine m_aald (r := 177 + (i - 1)) (i - 1) dX7_fill_83 (by decide) rfl (ly_176 B _ _) (rfl) (by omega) (by decide) (if_pos (by omega)) ?_
        refine e_iconst (v := nI 0) dX7_fill_84 (by decide) ?_
        refine m_iald (0) dX7_fill_85 (ly_le B _ _ (i := (i - 1)) (by omega)) (rfl) (by omega) (by decide) ?_
        refine e_top (w := nI (dd p w r t (i - 1) 0)) (h3 (i - 1) 0 (by omega) (by omega)) ?_
        refine e_aload_n dX7_fill_86 rfl rfl ?_
        refine m_get 7 0 lf_X7_37 dX7_fill_87 (ly_171 B _ _) rfl ?_
        refine m_get 3 0 lf_X7_82 dX7_fill_90 (ly_3 B _ _) rfl ?_
        refine e_iconst (v := nI 1) dX7_fill_93 (by decide) ?_
        refine m_iald (1) dX7_fill_94 (ly_4 B _ _) (rfl) (by omega) (by decide) ?_
        refine e_top (w := nI (p 1)) ((by rw [h4 4 (by omega)]; exact hp.1 1 (by omega))) ?_
        refine e_iadd dX7_fill_95 ?_
        refine e_top (w := nI ((dd p w r t (i - 1) 0) + (p 1))) (nI_add _ _) ?_
        refine m_iast (0) dX7_fill_96 (fun m => ly_le B m _ (i := i) (by omega)) (rfl) (by omega) (by decide) ?_
        refine e_iconst (v := nI 1) dX7_fill_97 (by decide) ?_
        refine e_istore_n dX7_fill_98 rfl (by decide) rfl ?_
        have inner : ∀ (e j : Nat) (m2 : mm_M), k + 1 - j = e → 1 ≤ j → j ≤ k + 1 → (∀ a b, a < i → b ≤ k → m2 (177 + a) b = nI (dd p w r t a b)) → (∀ b, b < j → m2 (177 + i) b = nI (dd p w r t i b)) → (∀ a, a < 177 ∨ 190 ≤ a → m2 a = m a) → mm_G l D kA B sz o 3 68 mX7_fill (P_fill m p w n k r t) 99 [some (.ref (B + 171)), some (.int (nI i)), some (.int (nI j))] [] m2 := by
          intro e
          induction e with
          | zero =>
            intro j m2 he g1 g2 g3 g4 g5
            refine e_iload_n dX7_fill_99 rfl rfl ?_
            refine e_aload_n dX7_fill_100 rfl rfl ?_
            refine m_get 7 2 lf_X7_18 dX7_fill_101 (ly_171 B _ _) rfl ?_
            refine m_get 5 1 lf_X7_48 dX7_fill_104 (ly_174 B _ _) rfl ?_
            refine e_top (w := nI k) ((by rw [g5 174 (by omega)]; exact ht.1)) ?_
            refine n_icmp_gt 130 dX7_fill_107 (by decide) (by omega) (by omega) (fun hc => ?_) (fun hc => ?_)
            · refine e_iinc (v := nI (i + 1)) dX7_fill_130 rfl (nI_add _ _) (by decide) rfl ?_
              refine e_goto 58 dX7_fill_133 (by decide) ?_
              refine ih (i + 1) m2 _ (by omega) (by omega) (by omega) (fun a b ha hb => ?_) g5
              by_cases e9 : a = i
              · subst e9; exact g4 b (by omega)
              · exact g3 a b (by omega) hb
            · exact absurd hc (by omega)
          | succ e ih2 =>
            intro j m2 he g1 g2 g3 g4 g5
            refine e_iload_n dX7_fill_99 rfl rfl ?_
            refine e_aload_n dX7_fill_100 rfl rfl ?_
            refine m_get 7 2 lf_X7_18 dX7_fill_101 (ly_171 B _ _) rfl ?_
            refine m_get 5 1 lf_X7_48 dX7_fill_104 (ly_174 B _ _) rfl ?_
            refine e_top (w := nI k) ((by rw [g5 174 (by omega)]; exact ht.1)) ?_
            refine n_icmp_gt 130 dX7_fill_107 (by decide) (by omega) (by omega) (fun hc => ?_) (fun hc => ?_)
            · exact absurd hc (by omega)
            · obtain ⟨i', rfl⟩ : ∃ q, i = q + 1 := ⟨i - 1, by omega⟩
              obtain ⟨j', rfl⟩ : ∃ q, j = q + 1 := ⟨j - 1, by omega⟩
              refine e_aload_n dX7_fill_110 rfl rfl ?_
              refine m_get 7 3 lf_X7_23 dX7_fill_111 (ly_171 B _ _) rfl ?_
              refine e_iload_n dX7_fill_114 rfl rfl ?_
              refine m_aald (r := 177 + (i' + 1)) (i' + 1) dX7_fill_115 (by decide) rfl (ly_176 B _ _) (rfl) (by omega) (by decide) (if_pos (by omega)) ?_
              refine e_iload_n dX7_fill_116 rfl rfl ?_
              refine e_aload_n dX7_fill_117 rfl rfl ?_
              refine e_iload_n dX7_fill_118 rfl rfl ?_
              refine e_iload_n dX7_fill_119 rfl rfl ?_
              refine m_callV (As := [_, _]) lc_X7_87 dX7_fill_120 (ly_171 B _ _) rfl rfl (by simp [Value.category]) (Nat.le_of_ble_eq_true rfl) (Nat.le_of_ble_eq_true rfl) ⟨Nat.le_of_ble_eq_true rfl, Nat.le_of_ble_eq_true rfl⟩ ⟨Nat.le_of_ble_eq_true rfl, Nat.le_of_ble_eq_true rfl⟩ (c_cheapest m2 (i := i') (j := j') (hp.of (fun a _ _ => g5 a (by omega))) (hr.of (g5 172 (by omega)) (g5 173 (by omega))) (ht.of (g5 174 (by omega)) (g5 175 (by omega))) (by omega) (by omega) (fun a b hab => by rcases hab with ⟨q1, q2⟩ | ⟨q1, q2⟩; exact g3 a b (by omega) q2; rw [q1]; exact g4 b (by omega))) (fun v9 m9 hp9 => ?_)
              obtain ⟨rfl, rfl⟩ := hp9
              refine m_iast (j' + 1) dX7_fill_123 (fun m => ly_le B m _ (i := (i' + 1)) (by omega)) (rfl) (by omega) (by decide) ?_
              refine e_iinc (v := nI (j' + 1 + 1)) dX7_fill_124 rfl (nI_add _ _) (by decide) rfl ?_
              refine e_goto 99 dX7_fill_127 (by decide) ?_
              refine ih2 (j' + 1 + 1) _ (by omega) (by omega) (by omega) (fun a b ha hb => ?_) (fun b hb => ?_) (fun a ha => ?_)
              · rw [wr_ne _ _ (Or.inl (by omega))]; exact g3 a b ha hb
              · by_cases e9 : b = j' + 1
                · subst e9; rw [wr_same]
                · rw [wr_ne _ _ (Or.inr e9)]; exact g4 b (by omega)
              · rw [wr_off _ _ (by omega)]; exact g5 a ha
        obtain ⟨i', rfl⟩ : ∃ q, i = q + 1 := ⟨i - 1, by omega⟩
        refine inner k 1 _ (by omega) (by omega) (by omega) (fun a b ha hb => ?_) (fun b hb => ?_) (fun a ha => ?_)
        · rw [wr_ne _ _ (Or.inl (by omega))]; exact h3 a b ha hb
        · rw [show b = 0 by omega, wr_same, dd_i0]; rfl
        · rw [wr_off _ _ (by omega)]; exact h4 a ha
  -- the first row
  have first : ∀ (d j : Nat) (m' : mm_M), k + 1 - j = d → 1 ≤ j → j ≤ k + 1 → (∀ b, b < j → m' (177 + 0) b = nI (dd p w r t 0 b)) → (∀ a, a < 177 ∨ 190 ≤ a → m' a = m a) → mm_G l D kA B sz o 3 68 mX7_fill (P_fill m p w n k r t) 11 [some (.ref (B + 171)), some (.int (nI j)), none] [] m' := by
    intro d
    induction d with
    | zero =>
      intro j m' hd h1 h2 h3 h4
      refine e_iload_n dX7_fill_11 rfl rfl ?_
      refine e_aload_n dX7_fill_12 rfl rfl ?_
      refine m_get 7 2 lf_X7_18 dX7_fill_13 (ly_171 B _ _) rfl ?_
      refine m_get 5 1 lf_X7_48 dX7_fill_16 (ly_174 B _ _) rfl ?_
      refine e_top (w := nI k) ((by rw [h4 174 (by omega)]; exact ht.1)) ?_
      refine n_icmp_gt 56 dX7_fill_19 (by decide) (by omega) (by omega) (fun hc => ?_) (fun hc => ?_)
      · refine e_iconst (v := nI 1) dX7_fill_56 (by decide) ?_
        refine e_istore_n dX7_fill_57 rfl (by decide) rfl ?_
        exact outer n 1 m' none (by omega) (by omega) (by omega) (fun a b ha hb => by rw [show a = 0 by omega]; exact h3 b (by omega)) h4
      · exact absurd hc (by omega)
    | succ d ih =>
      intro j m' hd h1 h2 h3 h4
      refine e_iload_n dX7_fill_11 rfl rfl ?_
      refine e_aload_n dX7_fill_12 rfl rfl ?_
      refine m_get 7 2 lf_X7_18 dX7_fill_13 (ly_171 B _ _) rfl ?_
      refine m_get 5 1 lf_X7_48 dX7_fill_16 (ly_174 B _ _) rfl ?_
      refine e_top (w := nI k) ((by rw [h4 174 (by omega)]; exact ht.1)) ?_
      refine n_icmp_gt 56 dX7_fill_19 (by decide) (by omega) (by omega) (fun hc => ?_) (fun hc => ?_)
      · exact absurd hc (by omega)
      · refine e_aload_n dX7_fill_22 rfl rfl ?_
        refine m_get 7 3 lf_X7_23 dX7_fill_23 (ly_171 B _ _) rfl ?_
        refine e_iconst (v := nI 0) dX7_fill_26 (by decide) ?_
        refine m_aald (r := 177 + 0) (0) dX7_fill_27 (by decide) rfl (ly_176 B _ _) (rfl) (by omega) (by decide) (if_pos (by omega)) ?_
        refine e_iload_n dX7_fill_28 rfl rfl ?_
        refine e_aload_n dX7_fill_29 rfl rfl ?_
        refine m_get 7 3 lf_X7_23 dX7_fill_30 (ly_171 B _ _) rfl ?_
        refine e_iconst (v := nI 0) dX7_fill_33 (by decide) ?_
        refine m_aald (r := 177 + 0) (0) dX7_fill_34 (by decide) rfl (ly_176 B _ _) (rfl) (by omega) (by decide) (if_pos (by omega)) ?_
        refine e_iload_n dX7_fill_35 rfl rfl ?_
        refine e_iconst (v := nI 1) dX7_fill_36 (by decide) ?_
        refine e_isub dX7_fill_37 ?_
        refine e_top (w := nI (j - 1)) (pk_sub (by omega)) ?_
        refine m_iald (j - 1) dX7_fill_38 (ly_le B _ _ (i := 0) (by omega)) (rfl) (by omega) (by decide) ?_
        refine e_top (w := nI (dd p w r t 0 (j - 1))) (h3 (j - 1) (by omega)) ?_
        refine e_aload_n dX7_fill_39 rfl rfl ?_
        refine m_get 7 0 lf_X7_37 dX7_fill_40 (ly_171 B _ _) rfl ?_
        refine m_get 3 0 lf_X7_82 dX7_fill_43 (ly_3 B _ _) rfl ?_
        refine e_iconst (v := nI 0) dX7_fill_46 (by decide) ?_
        refine m_iald (0) dX7_fill_47 (ly_4 B _ _) (rfl) (by omega) (by decide) ?_
        refine e_top (w := nI (p 0)) ((by rw [h4 4 (by omega)]; exact hp.1 0 (by omega))) ?_
        refine e_iadd dX7_fill_48 ?_
        refine e_top (w := nI ((dd p w r t 0 (j - 1)) + (p 0))) (nI_add _ _) ?_
        refine m_iast (j) dX7_fill_49 (fun m => ly_le B m _ (i := 0) (by omega)) (rfl) (by omega) (by decide) ?_
        refine e_iinc (v := nI (j + 1)) dX7_fill_50 rfl (nI_add _ _) (by decide) rfl ?_
        refine e_goto 11 dX7_fill_53 (by decide) ?_
        refine ih (j + 1) _ (by omega) (by omega) (by omega) (fun b hb => ?_) (fun a ha => by rw [wr_off _ _ (by omega)]; exact h4 a ha)
        by_cases e9 : b = j
        · subst e9
          rw [wr_same, dd_0, dd_0]
          congr 1
          obtain ⟨q, rfl⟩ : ∃ q, b = q + 1 := ⟨b - 1, by omega⟩
          rw [Nat.add_sub_cancel, Nat.succ_mul]
        · rw [wr_ne _ _ (Or.inr e9)]; exact h3 b (by omega)
  exact first k 1 _ (by omega) (by omega) (by omega) (fun b hb => by rw [show b = 0 by omega, wr_same, dd_0, Nat.zero_mul]) (fun a ha => wr_off _ _ (by omega))
end FIL
