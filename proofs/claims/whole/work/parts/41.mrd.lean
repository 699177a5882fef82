theorem ah_iff {n : Nat} {r : Nat → Nat} {n' : Nat} {r' : Nat → Nat} {k : Nat} (h1 : k ≤ n) (h2 : k ≤ n') (h3 : ∀ i, i < k → r i = r' i) (h4 : k = n ∨ k = n' ∨ r k ≠ r' k) : ah n r n' r' ↔ ((k = n ∧ k < n') ∨ (k < n ∧ k < n' ∧ r k < r' k)) := by
  constructor
  · rintro ⟨q, b1, b2, b3, b4⟩
    rcases Nat.lt_trichotomy q k with c | c | c
    · have := h3 q c
      rcases b4 with b4 | b4 <;> omega
    · subst c; exact b4
    · have := b3 k c
      rcases h4 with e | e | e
      · omega
      · omega
      · exact absurd this e
  · intro h
    exact ⟨k, h1, h2, h3, h⟩
theorem ct_pos {P : Nat → Prop} {n : Nat} (h : P n) : ct P (n + 1) = ct P n + 1 := by
  show ct P n + @ite _ (P n) (Classical.propDecidable _) 1 0 = _
  rw [if_pos h]
theorem ct_neg {P : Nat → Prop} {n : Nat} (h : ¬ P n) : ct P (n + 1) = ct P n + 0 := by
  show ct P n + @ite _ (P n) (Classical.propDecidable _) 1 0 = _
  rw [if_neg h]
section REG
variable {l : Launch} {D : va_G} {kA : FieldType → ClassId} {B sz : Nat} {o : Int64}
set_option maxRecDepth 100000 in
theorem r_isAhead (m : mm_M) {S : sp_S} (hk : ok S) (hm : ms m S) {a b : Nat} (ha : a < wn S) (hb : b < wn S) : mm_F l D kA B sz o 0 0 mX10_isAhead [.ref (B + 226), .int (nI a), .int (nI b)] m (fun v m' => m' = m ∧ ((v = some (.int (nI 1)) ∧ wa S a b) ∨ (v = some (.int (nI 0)) ∧ ¬ wa S a b))) := by
  have n60 := hk.2.2.1
  have a12 := (hk.2.2.2.1 a ha).2.1
  have b12 := (hk.2.2.2.1 b hb).2.1
  refine mm_F.of ?_
  refine e_iconst (v := nI 0) dX10_isAhead_0 (by decide) ?_
  refine e_istore_n dX10_isAhead_1 rfl (by decide) rfl ?_
  have at53 : ∀ (k : Nat), k ≤ wl S a → k ≤ wl S b → (∀ i, i < k → wt S a i = wt S b i) → (k = wl S a ∨ k = wl S b ∨ wt S a k ≠ wt S b k) → mm_G l D kA B sz o 0 0 mX10_isAhead (fun v m' => m' = m ∧ ((v = some (.int (nI 1)) ∧ wa S a b) ∨ (v = some (.int (nI 0)) ∧ ¬ wa S a b))) 53 [some (.ref (B + 226)), some (.int (nI a)), some (.int (nI b)), some (.int (nI k))] [] m := by
    intro k k1 k2 k3 k4
    have key : wa S a b ↔ _ := ah_iff k1 k2 k3 k4
    have at73 : k = wl S a ∨ k = wl S b → mm_G l D kA B sz o 0 0 mX10_isAhead (fun v m' => m' = m ∧ ((v = some (.int (nI 1)) ∧ wa S a b) ∨ (v = some (.int (nI 0)) ∧ ¬ wa S a b))) 73 [some (.ref (B + 226)), some (.int (nI a)), some (.int (nI b)), some (.int (nI k))] [] m := by
      intro k5
      refine e_iload_n dX10_isAhead_73 rfl rfl ?_
      refine e_aload_n dX10_isAhead_74 rfl rfl ?_
      refine m_get 10 4 lf_X10_13 dX10_isAhead_75 (ly_226 B _ _) rfl ?_
      refine e_iload_n dX10_isAhead_78 rfl rfl ?_
      refine m_iald (a) dX10_isAhead_79 (ly_228 B _ _) (rfl) (by omega) (by decide) ?_
      refine e_top (w := nI (wl S a)) (hm.xwl a ha) ?_
      refine n_icmp_ne 97 dX10_isAhead_80 (by decide) (by omega) (by omega) (fun g1 => ?_) (fun g1 => ?_)
      · refine e_iconst (v := nI 0) dX10_isAhead_97 (by decide) ?_
        exact m_zret dX10_isAhead_98 rfl (by first | rfl | decide | assumption) (Nat.le_refl _) (Nat.le_refl _) (⟨rfl, Or.inr ⟨rfl, fun z => by have := key.mp z; omega⟩⟩)
      · refine e_iload_n dX10_isAhead_83 rfl rfl ?_
        refine e_aload_n dX10_isAhead_84 rfl rfl ?_
        refine m_get 10 4 lf_X10_13 dX10_isAhead_85 (ly_226 B _ _) rfl ?_
        refine e_iload_n dX10_isAhead_88 rfl rfl ?_
        refine m_iald (b) dX10_isAhead_89 (ly_228 B _ _) (rfl) (by omega) (by decide) ?_
        refine e_top (w := nI (wl S b)) (hm.xwl b hb) ?_
        refine n_icmp_ge 97 dX10_isAhead_90 (by decide) (by omega) (by omega) (fun g2 => ?_) (fun g2 => ?_)
        · refine e_iconst (v := nI 0) dX10_isAhead_97 (by decide) ?_
          exact m_zret dX10_isAhead_98 rfl (by first | rfl | decide | assumption) (Nat.le_refl _) (Nat.le_refl _) (⟨rfl, Or.inr ⟨rfl, fun z => by have := key.mp z; omega⟩⟩)
        · refine e_iconst (v := nI 1) dX10_isAhead_93 (by decide) ?_
          refine e_goto 98 dX10_isAhead_94 (by decide) ?_
          exact m_zret dX10_isAhead_98 rfl (by first | rfl | decide | assumption) (Nat.le_refl _) (Nat.le_refl _) (⟨rfl, Or.inl ⟨rfl, key.mpr (Or.inl (by omega))⟩⟩)
    refine e_iload_n dX10_isAhead_53 rfl rfl ?_
    refine e_aload_n dX10_isAhead_54 rfl rfl ?_
    refine m_get 10 4 lf_X10_13 dX10_isAhead_55 (ly_226 B _ _) rfl ?_
    refine e_iload_n dX10_isAhead_58 rfl rfl ?_
    refine m_iald (a) dX10_isAhead_59 (ly_228 B _ _) (rfl) (by omega) (by decide) ?_
    refine e_top (w := nI (wl S a)) (hm.xwl a ha) ?_
    refine n_icmp_eq 73 dX10_isAhead_60 (by decide) (by omega) (by omega) (fun g1 => ?_) (fun g1 => ?_)
    · exact at73 (Or.inl g1)
    · refine e_iload_n dX10_isAhead_63 rfl rfl ?_
      refine e_aload_n dX10_isAhead_64 rfl rfl ?_
      refine m_get 10 4 lf_X10_13 dX10_isAhead_65 (ly_226 B _ _) rfl ?_
      refine e_iload_n dX10_isAhead_68 rfl rfl ?_
      refine m_iald (b) dX10_isAhead_69 (ly_228 B _ _) (rfl) (by omega) (by decide) ?_
      refine e_top (w := nI (wl S b)) (hm.xwl b hb) ?_
      refine n_icmp_ne 99 dX10_isAhead_70 (by decide) (by omega) (by omega) (fun g2 => ?_) (fun g2 => ?_)
      · have x1 := (hk.2.2.2.1 a ha).2.2.1 k (by omega)
        have x2 := (hk.2.2.2.1 b hb).2.2.1 k (by omega)
        refine e_aload_n dX10_isAhead_99 rfl rfl ?_
        refine m_get 10 5 lf_X10_16 dX10_isAhead_100 (ly_226 B _ _) rfl ?_
        refine e_bipush (v := nI 12) dX10_isAhead_103 (by decide) ?_
        refine e_iload_n dX10_isAhead_105 rfl rfl ?_
        refine e_imul dX10_isAhead_106 ?_
        refine e_top (w := nI (12 * a)) (pk_mul _ _) ?_
        refine e_iload_n dX10_isAhead_107 rfl rfl ?_
        refine e_iadd dX10_isAhead_108 ?_
        refine e_top (w := nI ((12 * a) + k)) (nI_add _ _) ?_
        refine m_iald ((12 * a) + k) dX10_isAhead_109 (ly_229 B _ _) (rfl) (by omega) (by decide) ?_
        refine e_top (w := nI (wt S a k)) (hm.xwt a k ha (by omega)) ?_
        refine e_aload_n dX10_isAhead_110 rfl rfl ?_
        refine m_get 10 5 lf_X10_16 dX10_isAhead_111 (ly_226 B _ _) rfl ?_
        refine e_bipush (v := nI 12) dX10_isAhead_114 (by decide) ?_
        refine e_iload_n dX10_isAhead_116 rfl rfl ?_
        refine e_imul dX10_isAhead_117 ?_
        refine e_top (w := nI (12 * b)) (pk_mul _ _) ?_
        refine e_iload_n dX10_isAhead_118 rfl rfl ?_
        refine e_iadd dX10_isAhead_119 ?_
        refine e_top (w := nI ((12 * b) + k)) (nI_add _ _) ?_
        refine m_iald ((12 * b) + k) dX10_isAhead_120 (ly_229 B _ _) (rfl) (by omega) (by decide) ?_
        refine e_top (w := nI (wt S b k)) (hm.xwt b k hb (by omega)) ?_
        refine n_icmp_ge 128 dX10_isAhead_121 (by decide) (by omega) (by omega) (fun g3 => ?_) (fun g3 => ?_)
        · refine e_iconst (v := nI 0) dX10_isAhead_128 (by decide) ?_
          exact m_zret dX10_isAhead_129 rfl (by first | rfl | decide | assumption) (Nat.le_refl _) (Nat.le_refl _) (⟨rfl, Or.inr ⟨rfl, fun z => by have := key.mp z; omega⟩⟩)
        · refine e_iconst (v := nI 1) dX10_isAhead_124 (by decide) ?_
          refine e_goto 129 dX10_isAhead_125 (by decide) ?_
          exact m_zret dX10_isAhead_129 rfl (by first | rfl | decide | assumption) (Nat.le_refl _) (Nat.le_refl _) (⟨rfl, Or.inl ⟨rfl, key.mpr (Or.inr (by omega))⟩⟩)
      · exact at73 (Or.inr g2)
  have loop : ∀ (d k : Nat), wl S a - k = d → k ≤ wl S a → k ≤ wl S b → (∀ i, i < k → wt S a i = wt S b i) → mm_G l D kA B sz o 0 0 mX10_isAhead (fun v m' => m' = m ∧ ((v = some (.int (nI 1)) ∧ wa S a b) ∨ (v = some (.int (nI 0)) ∧ ¬ wa S a b))) 2 [some (.ref (B + 226)), some (.int (nI a)), some (.int (nI b)), some (.int (nI k))] [] m := by
    intro d
    induction d with
    | zero =>
      intro k hd k1 k2 k3
      refine e_iload_n dX10_isAhead_2 rfl rfl ?_
      refine e_aload_n dX10_isAhead_3 rfl rfl ?_
      refine m_get 10 4 lf_X10_13 dX10_isAhead_4 (ly_226 B _ _) rfl ?_
      refine e_iload_n dX10_isAhead_7 rfl rfl ?_
      refine m_iald (a) dX10_isAhead_8 (ly_228 B _ _) (rfl) (by omega) (by decide) ?_
      refine e_top (w := nI (wl S a)) (hm.xwl a ha) ?_
      refine n_icmp_ge 53 dX10_isAhead_9 (by decide) (by omega) (by omega) (fun g1 => ?_) (fun g1 => ?_)
      · exact at53 k k1 k2 k3 (Or.inl (by omega))
      · exact absurd g1 (by omega)
    | succ d ih =>
      intro k hd k1 k2 k3
      refine e_iload_n dX10_isAhead_2 rfl rfl ?_
      refine e_aload_n dX10_isAhead_3 rfl rfl ?_
      refine m_get 10 4 lf_X10_13 dX10_isAhead_4 (ly_226 B _ _) rfl ?_
      refine e_iload_n dX10_isAhead_7 rfl rfl ?_
      refine m_iald (a) dX10_isAhead_8 (ly_228 B _ _) (rfl) (by omega) (by decide) ?_
      refine e_top (w := nI (wl S a)) (hm.xwl a ha) ?_
      refine n_icmp_ge 53 dX10_isAhead_9 (by decide) (by omega) (by omega) (fun g1 => ?_) (fun g1 => ?_)
      · exact absurd g1 (by omega)
      · refine e_iload_n dX10_isAhead_12 rfl rfl ?_
        refine e_aload_n dX10_isAhead_13 rfl rfl ?_
        refine m_get 10 4 lf_X10_13 dX10_isAhead_14 (ly_226 B _ _) rfl ?_
        refine e_iload_n dX10_isAhead_17 rfl rfl ?_
        refine m_iald (b) dX10_isAhead_18 (ly_228 B _ _) (rfl) (by omega) (by decide) ?_
        refine e_top (w := nI (wl S b)) (hm.xwl b hb) ?_
        refine n_icmp_ge 53 dX10_isAhead_19 (by decide) (by omega) (by omega) (fun g2 => ?_) (fun g2 => ?_)
        · exact at53 k k1 k2 k3 (Or.inr (Or.inl (by omega)))
        · have x1 := (hk.2.2.2.1 a ha).2.2.1 k (by omega)
          have x2 := (hk.2.2.2.1 b hb).2.2.1 k (by omega)
          refine e_aload_n dX10_isAhead_22 rfl rfl ?_
          refine m_get 10 5 lf_X10_16 dX10_isAhead_23 (ly_226 B _ _) rfl ?_
          refine e_bipush (v := nI 12) dX10_isAhead_26 (by decide) ?_
          refine e_iload_n dX10_isAhead_28 rfl rfl ?_
          refine e_imul dX10_isAhead_29 ?_
          refine e_top (w := nI (12 * a)) (pk_mul _ _) ?_
          refine e_iload_n dX10_isAhead_30 rfl rfl ?_
          refine e_iadd dX10_isAhead_31 ?_
          refine e_top (w := nI ((12 * a) + k)) (nI_add _ _) ?_
          refine m_iald ((12 * a) + k) dX10_isAhead_32 (ly_229 B _ _) (rfl) (by omega) (by decide) ?_
          refine e_top (w := nI (wt S a k)) (hm.xwt a k ha (by omega)) ?_
          refine e_aload_n dX10_isAhead_33 rfl rfl ?_
          refine m_get 10 5 lf_X10_16 dX10_isAhead_34 (ly_226 B _ _) rfl ?_
          refine e_bipush (v := nI 12) dX10_isAhead_37 (by decide) ?_
          refine e_iload_n dX10_isAhead_39 rfl rfl ?_
          refine e_imul dX10_isAhead_40 ?_
          refine e_top (w := nI (12 * b)) (pk_mul _ _) ?_
          refine e_iload_n dX10_isAhead_41 rfl rfl ?_
          refine e_iadd dX10_isAhead_42 ?_
          refine e_top (w := nI ((12 * b) + k)) (nI_add _ _) ?_
          refine m_iald ((12 * b) + k) dX10_isAhead_43 (ly_229 B _ _) (rfl) (by omega) (by decide) ?_
          refine e_top (w := nI (wt S b k)) (hm.xwt b k hb (by omega)) ?_
          refine n_icmp_ne 53 dX10_isAhead_44 (by decide) (by omega) (by omega) (fun g3 => ?_) (fun g3 => ?_)
          · exact at53 k k1 k2 k3 (Or.inr (Or.inr g3))
          · refine e_iinc (v := nI (k + 1)) dX10_isAhead_47 rfl (nI_add _ _) (by decide) rfl ?_
            refine e_goto 2 dX10_isAhead_50 (by decide) ?_
            exact ih (k + 1) (by omega) (by omega) (by omega) (fun i hi => by
              by_cases e : i = k
              · subst e; exact g3
              · exact k3 i (by omega))
  exact loop (wl S a) 0 (by omega) (by omega) (by omega) (fun i hi => by omega)
set_option maxRecDepth 100000 in
theorem r_rank (m : mm_M) {S : sp_S} (hk : ok S) (hm : ms m S) {a : Nat} (ha : a < wn S) : mm_F l D kA B sz o 1 23 mX10_rank [.ref (B + 226), .int (nI a)] m (fun v m' => m' = m ∧ v = some (.int (nI (rnk S a)))) := by
  have n60 := hk.2.2.1
  refine mm_F.of ?_
  refine e_iconst (v := nI 0) dX10_rank_0 (by decide) ?_
  refine e_istore_n dX10_rank_1 rfl (by decide) rfl ?_
  refine e_iconst (v := nI 0) dX10_rank_2 (by decide) ?_
  refine e_istore_n dX10_rank_3 rfl (by decide) rfl ?_
  have loop : ∀ (d i : Nat), wn S - i = d → i ≤ wn S → mm_G l D kA B sz o 1 23 mX10_rank (fun v m' => m' = m ∧ v = some (.int (nI (rnk S a)))) 4 [some (.ref (B + 226)), some (.int (nI a)), some (.int (nI (ct (fun w => wa S w a) i))), some (.int (nI i))] [] m := by
    intro d
    induction d with
    | zero =>
      intro i hd hi
      refine e_iload_n dX10_rank_4 rfl rfl ?_
      refine e_aload_n dX10_rank_5 rfl rfl ?_
      refine m_get 10 3 lf_X10_66 dX10_rank_6 (ly_226 B _ _) rfl ?_
      refine e_top (w := nI (wn S)) (hm.xwn) ?_
      refine n_icmp_ge 35 dX10_rank_9 (by decide) (by omega) (by omega) (fun g1 => ?_) (fun g1 => ?_)
      · refine e_iload_n dX10_rank_35 rfl rfl ?_
        exact m_iret dX10_rank_36 rfl (Nat.le_refl _) (Nat.le_refl _) (⟨rfl, by rw [show i = wn S by omega]; rfl⟩)
      · exact absurd g1 (by omega)
    | succ d ih =>
      intro i hd hi
      refine e_iload_n dX10_rank_4 rfl rfl ?_
      refine e_aload_n dX10_rank_5 rfl rfl ?_
      refine m_get 10 3 lf_X10_66 dX10_rank_6 (ly_226 B _ _) rfl ?_
      refine e_top (w := nI (wn S)) (hm.xwn) ?_
      refine n_icmp_ge 35 dX10_rank_9 (by decide) (by omega) (by omega) (fun g1 => ?_) (fun g1 => ?_)
      · exact absurd g1 (by omega)
      · refine e_iload_n dX10_rank_12 rfl rfl ?_
        refine e_aload_n dX10_rank_13 rfl rfl ?_
        refine e_iload_n dX10_rank_14 rfl rfl ?_
        refine e_iload_n dX10_rank_15 rfl rfl ?_
        refine m_callV (As := [_, _]) lc_X10_80 dX10_rank_16 (ly_226 B _ _) rfl rfl (by simp [Value.category]) (Nat.le_of_ble_eq_true rfl) (Nat.le_of_ble_eq_true rfl) ⟨Nat.le_of_ble_eq_true rfl, Nat.le_of_ble_eq_true rfl⟩ ⟨Nat.le_of_ble_eq_true rfl, Nat.le_of_ble_eq_true rfl⟩ (r_isAhead m hk hm (a := i) (b := a) (by omega) ha) (fun v9 m9 hp9 => ?_)
        obtain ⟨rfl, ⟨rfl, h1⟩ | ⟨rfl, h1⟩⟩ := hp9
        · refine e_if_eq 26 dX10_rank_19 (by decide) (fun g2 => ?_) (fun g2 => ?_)
          · exact absurd g2 (by decide)
          · refine e_iconst (v := nI 1) dX10_rank_22 (by decide) ?_
            refine e_goto 27 dX10_rank_23 (by decide) ?_
            refine e_iadd dX10_rank_27 ?_
            refine e_top (w := nI ((ct (fun w => wa S w a) i) + 1)) (nI_add _ _) ?_
            refine e_istore_n dX10_rank_28 rfl (by decide) rfl ?_
            refine e_iinc (v := nI (i + 1)) dX10_rank_29 rfl (nI_add _ _) (by decide) rfl ?_
            refine e_goto 4 dX10_rank_32 (by decide) ?_
            rw [← ct_pos (P := fun w => wa S w a) (n := i) h1]
            exact ih (i + 1) (by omega) (by omega)
        · refine e_if_eq 26 dX10_rank_19 (by decide) (fun g2 => ?_) (fun g2 => ?_)
          · refine e_iconst (v := nI 0) dX10_rank_26 (by decide) ?_
            refine e_iadd dX10_rank_27 ?_
            refine e_top (w := nI ((ct (fun w => wa S w a) i) + 0)) (nI_add _ _) ?_
            refine e_istore_n dX10_rank_28 rfl (by decide) rfl ?_
            refine e_iinc (v := nI (i + 1)) dX10_rank_29 rfl (nI_add _ _) (by decide) rfl ?_
            refine e_goto 4 dX10_rank_32 (by decide) ?_
            rw [← ct_neg (P := fun w => wa S w a) (n := i) h1]
            exact ih (i + 1) (by omega) (by omega)
          · exact absurd rfl g2
  exact loop (wn S) 0 (by omega) (by omega)
set_option maxRecDepth 100000 in
theorem r_at (m : mm_M) {S : sp_S} (hk : ok S) (hm : ms m S) (w i : Int32) : mm_F l D kA B sz o 2 46 mX10_at [.ref (B + 226), .int w, .int i] m (fun v m' => (∃ y, v = some (.int y) ∧ R_at S w i y) ∧ ms m' S ∧ fw m m') := by
  have n60 := hk.2.2.1
  refine mm_F.of ?_
  refine e_aload_n dX10_at_0 rfl rfl ?_
  refine e_iconst (v := nI 0) dX10_at_1 (by decide) ?_
  refine m_puti 10 0 lp_X10_62 dX10_at_2 (ly_226 B _ _) (Nat.le_of_ble_eq_true rfl) (ly_226 B _ _) rfl ?_
  obtain ⟨m1, e1, hs, f1, -⟩ := ms_th (x := nI 0) hm
  rw [e1]
  refine e_aload_n dX10_at_5 rfl rfl ?_
  refine e_iload_n dX10_at_6 rfl rfl ?_
  refine m_callV (As := [_]) lc_X10_76 dX10_at_7 (ly_226 B _ _) rfl rfl (by simp [Value.category]) (Nat.le_of_ble_eq_true rfl) (Nat.le_of_ble_eq_true rfl) ⟨Nat.le_of_ble_eq_true rfl, Nat.le_of_ble_eq_true rfl⟩ ⟨Nat.le_of_ble_eq_true rfl, Nat.le_of_ble_eq_true rfl⟩ (r_isWord m1 hk hs w) (fun v9 m9 hp9 => ?_)
  obtain ⟨rfl, ⟨rfl, q, q1, rfl⟩ | ⟨rfl, h1⟩⟩ := hp9
  · have w12 := (hk.2.2.2.1 q q1).2.1
    refine e_if_eq 30 dX10_at_10 (by decide) (fun g1 => ?_) (fun g1 => ?_)
    · exact absurd g1 (by decide)
    · refine e_iload_n dX10_at_13 rfl rfl ?_
      refine e_bipush (v := -2) dX10_at_14 (by decide) ?_
      refine e_aload_n dX10_at_16 rfl rfl ?_
      refine m_get 10 4 lf_X10_13 dX10_at_17 (ly_226 B _ _) rfl ?_
      refine e_iload_n dX10_at_20 rfl rfl ?_
      refine m_iald (q) dX10_at_21 (ly_228 B _ _) (rfl) (by omega) (by decide) ?_
      refine e_top (w := nI (wl S q)) (hs.xwl q q1) ?_
      refine e_iconst (v := nI 1) dX10_at_22 (by decide) ?_
      refine e_isub dX10_at_23 ?_
      refine m_callS (As := [_, _, _]) lc_X10_69 dX10_at_24 rfl rfl (by simp [Value.category]) (Nat.le_of_ble_eq_true rfl) (Nat.le_of_ble_eq_true rfl) ⟨Nat.le_of_ble_eq_true rfl, Nat.le_of_ble_eq_true rfl⟩ ⟨Nat.le_of_ble_eq_true rfl, Nat.le_of_ble_eq_true rfl⟩ (r_in m9 i (-2) (nI (wl S q) - nI 1)) (fun v9 m2 hp9 => ?_)
      obtain ⟨rfl, ⟨rfl, h2⟩ | ⟨rfl, h2⟩⟩ := hp9
      · have h2 := (inr_pred2 (by omega)).mp h2
        refine e_if_ne 32 dX10_at_27 (by decide) (fun g2 => ?_) (fun g2 => ?_)
        · refine e_iload_n dX10_at_32 rfl rfl ?_
          refine e_bipush (v := -2) dX10_at_33 (by decide) ?_
          refine e_icmp_ne 47 dX10_at_35 (by decide) (fun g3 => ?_) (fun g3 => ?_)
          · refine e_iload_n dX10_at_47 rfl rfl ?_
            refine e_iconst (v := -1) dX10_at_48 (by decide) ?_
            refine e_icmp_ne 60 dX10_at_49 (by decide) (fun g4 => ?_) (fun g4 => ?_)
            · obtain ⟨z, z1, rfl⟩ : ∃ z, z < wl S q ∧ i = nI z := by
                rcases h2 with e | e | e
                · exact absurd e g3
                · exact absurd e g4
                · exact e
              clear h2
              refine e_aload_n dX10_at_60 rfl rfl ?_
              refine m_get 10 5 lf_X10_16 dX10_at_61 (ly_226 B _ _) rfl ?_
              refine e_bipush (v := nI 12) dX10_at_64 (by decide) ?_
              refine e_iload_n dX10_at_66 rfl rfl ?_
              refine e_imul dX10_at_67 ?_
              refine e_top (w := nI (12 * q)) (pk_mul _ _) ?_
              refine e_iload_n dX10_at_68 rfl rfl ?_
              refine e_iadd dX10_at_69 ?_
              refine e_top (w := nI ((12 * q) + z)) (nI_add _ _) ?_
              refine m_iald ((12 * q) + z) dX10_at_70 (ly_229 B _ _) (rfl) (by omega) (by decide) ?_
              refine e_top (w := nI (wt S q z)) (hs.xwt q z q1 z1) ?_
              exact m_iret dX10_at_71 rfl (Nat.le_refl _) (Nat.le_refl _) (⟨⟨_, rfl, Or.inr ⟨q, q1, rfl, Or.inr (Or.inr (Or.inl ⟨z, z1, rfl, rfl⟩))⟩⟩, hs, f1⟩)
            · subst g4
              refine e_aload_n dX10_at_52 rfl rfl ?_
              refine e_iload_n dX10_at_53 rfl rfl ?_
              refine m_callV (As := [_]) lc_X10_84 dX10_at_54 (ly_226 B _ _) rfl rfl (by simp [Value.category]) (Nat.le_of_ble_eq_true rfl) (Nat.le_of_ble_eq_true rfl) ⟨Nat.le_of_ble_eq_true rfl, Nat.le_of_ble_eq_true rfl⟩ ⟨Nat.le_of_ble_eq_true rfl, Nat.le_of_ble_eq_true rfl⟩ (r_rank m2 hk hs q1) (fun v9 m3 hp9 => ?_)
              obtain ⟨rfl, rfl⟩ := hp9
              refine e_goto 71 dX10_at_57 (by decide) ?_
              exact m_iret dX10_at_71 rfl (Nat.le_refl _) (Nat.le_refl _) (⟨⟨_, rfl, Or.inr ⟨q, q1, rfl, Or.inl ⟨rfl, rfl⟩⟩⟩, hs, f1⟩)
          · subst g3
            refine e_aload_n dX10_at_38 rfl rfl ?_
            refine m_get 10 4 lf_X10_13 dX10_at_39 (ly_226 B _ _) rfl ?_
            refine e_iload_n dX10_at_42 rfl rfl ?_
            refine m_iald (q) dX10_at_43 (ly_228 B _ _) (rfl) (by omega) (by decide) ?_
            refine e_top (w := nI (wl S q)) (hs.xwl q q1) ?_
            refine e_goto 71 dX10_at_44 (by decide) ?_
            exact m_iret dX10_at_71 rfl (Nat.le_refl _) (Nat.le_refl _) (⟨⟨_, rfl, Or.inr ⟨q, q1, rfl, Or.inr (Or.inl ⟨rfl, rfl⟩)⟩⟩, hs, f1⟩)
        · exact absurd g2 (by decide)
      · have h2 := fun z => h2 ((inr_pred2 (by omega)).mpr z)
        refine e_if_ne 32 dX10_at_27 (by decide) (fun g2 => ?_) (fun g2 => ?_)
        · exact absurd rfl g2
        · refine e_iconst (v := -1) dX10_at_30 (by decide) ?_
          exact m_iret dX10_at_31 rfl (Nat.le_refl _) (Nat.le_refl _) (⟨⟨_, rfl, Or.inr ⟨q, q1, rfl, Or.inr (Or.inr (Or.inr ⟨fun z => h2 (Or.inr (Or.inl z)), fun z => h2 (Or.inl z), fun z hz e => h2 (Or.inr (Or.inr ⟨z, hz, e⟩)), rfl⟩))⟩⟩, hs, f1⟩)
  · refine e_if_eq 30 dX10_at_10 (by decide) (fun g1 => ?_) (fun g1 => ?_)
    · refine e_iconst (v := -1) dX10_at_30 (by decide) ?_
      exact m_iret dX10_at_31 rfl (Nat.le_refl _) (Nat.le_refl _) (⟨⟨_, rfl, Or.inl ⟨h1, rfl⟩⟩, hs, f1⟩)
    · exact absurd rfl g1
theorem ms_pp {m m' : mm_M} {S : sp_S} {p : Nat → Nat} {w : Nat → Nat → Nat} (h : ms m S) (h1 : ∀ a, a ≠ 231 → a ≠ 232 → m' a = m a) (hp : ∀ k, k < 6 → m' 231 k = nI (p k)) (hw : ∀ a b, a < 26 → b < 26 → m' 232 (26 * a + b) = nI (w a b)) : ms m' (S.1, S.2.1, (p, w), S.2.2.2) := by
  refine ⟨by rw [h1 226 (by omega) (by omega)]; exact h.xtn, by rw [h1 227 (by omega) (by omega)]; exact h.xtl, by rw [h1 226 (by omega) (by omega)]; exact h.xwn, by rw [h1 228 (by omega) (by omega)]; exact h.xwl, by rw [h1 229 (by omega) (by omega)]; exact h.xwt, by rw [h1 230 (by omega) (by omega)]; exact h.xwc, hp, hw, by rw [h1 226 (by omega) (by omega)]; exact h.xkn, by rw [h1 233 (by omega) (by omega)]; exact h.xkl, by rw [h1 234 (by omega) (by omega)]; exact h.xkt, by rw [h1 235 (by omega) (by omega)]; exact h.xpa⟩
set_option maxRecDepth 100000 in
theorem r_price (m : mm_M) {S : sp_S} (hm : ms m S) (k x : Int32) : mm_F l D kA B sz o 1 22 mX10_price [.ref (B + 226), .int k, .int x] m (fun v m' => ∃ y S', v = some (.int y) ∧ R_price S k x y S' ∧ ms m' S' ∧ fw m m') := by
  refine mm_F.of ?_
  refine e_aload_n dX10_price_0 rfl rfl ?_
  refine e_iconst (v := nI 0) dX10_price_1 (by decide) ?_
  refine m_puti 10 0 lp_X10_62 dX10_price_2 (ly_226 B _ _) (Nat.le_of_ble_eq_true rfl) (ly_226 B _ _) rfl ?_
  obtain ⟨m1, e1, hs, f1, -⟩ := ms_th (x := nI 0) hm
  rw [e1]
  refine e_iload_n dX10_price_5 rfl rfl ?_
  refine e_iconst (v := nI 0) dX10_price_6 (by decide) ?_
  refine e_iconst (v := nI 5) dX10_price_7 (by decide) ?_
  refine m_callS (As := [_, _, _]) lc_X10_69 dX10_price_8 rfl rfl (by simp [Value.category]) (Nat.le_of_ble_eq_true rfl) (Nat.le_of_ble_eq_true rfl) ⟨Nat.le_of_ble_eq_true rfl, Nat.le_of_ble_eq_true rfl⟩ ⟨Nat.le_of_ble_eq_true rfl, Nat.le_of_ble_eq_true rfl⟩ (r_in m1 k (nI 0) (nI 5)) (fun v9 m9 hp9 => ?_)
  obtain ⟨rfl, ⟨rfl, h1⟩ | ⟨rfl, h1⟩⟩ := hp9
  · obtain ⟨q, -, q2, rfl⟩ := inr_nat (lo := 0) (hi := 5) h1 (by omega) (by omega)
    have at28 : ∀ t : Nat, t = mostP q → mm_G l D kA B sz o 1 22 mX10_price (fun v m' => ∃ y S', v = some (.int y) ∧ R_price S (nI q) x y S' ∧ ms m' S' ∧ fw m m') 28 [some (.ref (B + 226)), some (.int (nI q)), some (.int x), none] [.int (nI t), .int (nI 0), .int x] m9 := by
      rintro t rfl
      have m50 : mostP q ≤ 50 := by unfold mostP; split <;> omega
      refine m_callS (As := [_, _, _]) lc_X10_69 dX10_price_28 rfl rfl (by simp [Value.category]) (Nat.le_of_ble_eq_true rfl) (Nat.le_of_ble_eq_true rfl) ⟨Nat.le_of_ble_eq_true rfl, Nat.le_of_ble_eq_true rfl⟩ ⟨Nat.le_of_ble_eq_true rfl, Nat.le_of_ble_eq_true rfl⟩ (r_in m9 x (nI 0) (nI (mostP q))) (fun v9 m2 hp9 => ?_)
      obtain ⟨rfl, ⟨rfl, h2⟩ | ⟨rfl, h2⟩⟩ := hp9
      · obtain ⟨y, -, y2, rfl⟩ := inr_nat (lo := 0) (hi := mostP q) h2 (by omega) (by omega)
        refine e_if_ne 37 dX10_price_31 (by decide) (fun g2 => ?_) (fun g2 => ?_)
        · refine e_aload_n dX10_price_37 rfl rfl ?_
          refine m_get 10 7 lf_X10_22 dX10_price_38 (ly_226 B _ _) rfl ?_
          refine e_iload_n dX10_price_41 rfl rfl ?_
          refine m_iald (q) dX10_price_42 (ly_231 B _ _) (rfl) (by omega) (by decide) ?_
          refine e_top (w := nI (pp S q)) (hs.xpp q (by omega)) ?_
          refine e_istore_n dX10_price_43 rfl (by decide) rfl ?_
          refine e_aload_n dX10_price_44 rfl rfl ?_
          refine m_get 10 7 lf_X10_22 dX10_price_45 (ly_226 B _ _) rfl ?_
          refine e_iload_n dX10_price_48 rfl rfl ?_
          refine e_iload_n dX10_price_49 rfl rfl ?_
          refine m_iast (q) dX10_price_50 (fun m => ly_231 B m _) (rfl) (by omega) (by decide) ?_
          refine e_iload_n dX10_price_51 rfl rfl ?_
          refine m_iret dX10_price_52 rfl (Nat.le_refl _) (Nat.le_refl _) ⟨_, _, rfl, Or.inr ⟨q, by omega, rfl, Or.inr ⟨y, y2, rfl, rfl, rfl⟩⟩, ms_pp hs (fun a a1 a2 => wr_off _ _ a1) (fun z hz => ?_) (fun a b ha hb => by rw [wr_off _ _ (by omega)]; exact hs.xww a b ha hb), f1.wrS (by omega)⟩
          by_cases e : z = q
          · rw [e, wr_same, va_up_self]
          · rw [wr_ne _ _ (Or.inr e), va_up_ne _ _ e]; exact hs.xpp z hz
        · exact absurd g2 (by decide)
      · refine e_if_ne 37 dX10_price_31 (by decide) (fun g2 => ?_) (fun g2 => ?_)
        · exact absurd rfl g2
        · refine e_bipush (v := -2) dX10_price_34 (by decide) ?_
          exact m_iret dX10_price_36 rfl (Nat.le_refl _) (Nat.le_refl _) (⟨_, _, rfl, Or.inr ⟨q, by omega, rfl, Or.inl ⟨h2, rfl, rfl⟩⟩, hs, f1⟩)
    refine e_if_eq 34 dX10_price_11 (by decide) (fun g1 => ?_) (fun g1 => ?_)
    · exact absurd g1 (by decide)
    · refine e_iload_n dX10_price_14 rfl rfl ?_
      refine e_iconst (v := nI 0) dX10_price_15 (by decide) ?_
      refine e_iload_n dX10_price_16 rfl rfl ?_
      refine e_iconst (v := nI 4) dX10_price_17 (by decide) ?_
      refine n_icmp_ge 26 dX10_price_18 (by decide) (by omega) (by omega) (fun g2 => ?_) (fun g2 => ?_)
      · refine e_bipush (v := nI 50) dX10_price_26 (by decide) ?_
        exact at28 50 (by unfold mostP; rw [if_neg (by omega)])
      · refine e_bipush (v := nI 9) dX10_price_21 (by decide) ?_
        refine e_goto 28 dX10_price_23 (by decide) ?_
        exact at28 9 (by unfold mostP; rw [if_pos (by omega)])
  · refine e_if_eq 34 dX10_price_11 (by decide) (fun g1 => ?_) (fun g1 => ?_)
    · refine e_bipush (v := -2) dX10_price_34 (by decide) ?_
      exact m_iret dX10_price_36 rfl (Nat.le_refl _) (Nat.le_refl _) (⟨_, _, rfl, Or.inl ⟨fun q hq e => h1 (by subst e; exact ⟨nI_pos' (by omega), (nI_leI (b := 5) (by omega) (by omega)).mpr (by omega)⟩), rfl, rfl⟩, hs, f1⟩)
    · exact absurd rfl g1
set_option maxRecDepth 100000 in
theorem r_near (m : mm_M) {S : sp_S} (hk : ok S) (hm : ms m S) (a b x : Int32) : mm_F l D kA B sz o 1 22 mX10_near [.ref (B + 226), .int a, .int b, .int x] m (fun v m' => ∃ y S', v = some (.int y) ∧ R_near S a b x y S' ∧ ms m' S' ∧ fw m m') := by
  refine mm_F.of ?_
  refine e_aload_n dX10_near_0 rfl rfl ?_
  refine e_iconst (v := nI 0) dX10_near_1 (by decide) ?_
  refine m_puti 10 0 lp_X10_62 dX10_near_2 (ly_226 B _ _) (Nat.le_of_ble_eq_true rfl) (ly_226 B _ _) rfl ?_
  obtain ⟨m1, e1, hs, f1, -⟩ := ms_th (x := nI 0) hm
  rw [e1]
  refine e_iload_n dX10_near_5 rfl rfl ?_
  refine e_iconst (v := nI 0) dX10_near_6 (by decide) ?_
  refine e_bipush (v := nI 25) dX10_near_7 (by decide) ?_
  refine m_callS (As := [_, _, _]) lc_X10_69 dX10_near_9 rfl rfl (by simp [Value.category]) (Nat.le_of_ble_eq_true rfl) (Nat.le_of_ble_eq_true rfl) ⟨Nat.le_of_ble_eq_true rfl, Nat.le_of_ble_eq_true rfl⟩ ⟨Nat.le_of_ble_eq_true rfl, Nat.le_of_ble_eq_true rfl⟩ (r_in m1 a (nI 0) (nI 25)) (fun v9 m9 hp9 => ?_)
  obtain ⟨rfl, ⟨rfl, h1⟩ | ⟨rfl, h1⟩⟩ := hp9
  · refine e_if_eq 30 dX10_near_12 (by decide) (fun g1 => ?_) (fun g1 => ?_)
    · exact absurd g1 (by decide)
    · refine e_iload_n dX10_near_15 rfl rfl ?_
      refine e_iconst (v := nI 0) dX10_near_16 (by decide) ?_
      refine e_bipush (v := nI 25) dX10_near_17 (by decide) ?_
      refine m_callS (As := [_, _, _]) lc_X10_69 dX10_near_19 rfl rfl (by simp [Value.category]) (Nat.le_of_ble_eq_true rfl) (Nat.le_of_ble_eq_true rfl) ⟨Nat.le_of_ble_eq_true rfl, Nat.le_of_ble_eq_true rfl⟩ ⟨Nat.le_of_ble_eq_true rfl, Nat.le_of_ble_eq_true rfl⟩ (r_in m9 b (nI 0) (nI 25)) (fun v9 m2 hp9 => ?_)
      obtain ⟨rfl, ⟨rfl, h2⟩ | ⟨rfl, h2⟩⟩ := hp9
      · refine e_if_eq 30 dX10_near_22 (by decide) (fun g2 => ?_) (fun g2 => ?_)
        · exact absurd g2 (by decide)
        · obtain ⟨p, -, p2, rfl⟩ := inr_nat (lo := 0) (hi := 25) h1 (by omega) (by omega)
          obtain ⟨q, -, q2, rfl⟩ := inr_nat (lo := 0) (hi := 25) h2 (by omega) (by omega)
          refine e_iload_n dX10_near_25 rfl rfl ?_
          refine e_iload_n dX10_near_26 rfl rfl ?_
          refine n_icmp_ne 32 dX10_near_27 (by decide) (by omega) (by omega) (fun g3 => ?_) (fun g3 => ?_)
          · refine e_iload_n dX10_near_32 rfl rfl ?_
            refine e_iconst (v := -1) dX10_near_33 (by decide) ?_
            refine e_bipush (v := nI 9) dX10_near_34 (by decide) ?_
            refine m_callS (As := [_, _, _]) lc_X10_69 dX10_near_36 rfl rfl (by simp [Value.category]) (Nat.le_of_ble_eq_true rfl) (Nat.le_of_ble_eq_true rfl) ⟨Nat.le_of_ble_eq_true rfl, Nat.le_of_ble_eq_true rfl⟩ ⟨Nat.le_of_ble_eq_true rfl, Nat.le_of_ble_eq_true rfl⟩ (r_in m2 x (-1) (nI 9)) (fun v9 m3 hp9 => ?_)
            obtain ⟨rfl, ⟨rfl, h3⟩ | ⟨rfl, h3⟩⟩ := hp9
            · obtain ⟨y, y1, rfl⟩ := m1_nat h3.1 h3.2
              have hu := hk.2.2.2.2.2.2.2.2.1 p q
              have hms : ms (wr m3 232 (26 * p + q) (nI y)) (setN S p q y) := by
                refine ms_pp hs (fun a a1 a2 => wr_off _ _ a2) (fun z hz => by rw [wr_off _ _ (by omega)]; exact hs.xpp z hz) (fun c d hc' hd => ?_)
                by_cases e : c = p
                · subst e
                  rw [va_up_self]
                  by_cases e2 : d = q
                  · rw [e2, va_up_self, wr_same]
                  · rw [va_up_ne _ _ e2, wr_ne _ _ (Or.inr (by omega))]; exact hs.xww c d hc' hd
                · rw [va_up_ne _ _ e, wr_ne _ _ (Or.inr (by omega))]; exact hs.xww c d hc' hd
              refine e_if_ne 45 dX10_near_39 (by decide) (fun g4 => ?_) (fun g4 => ?_)
              · refine e_aload_n dX10_near_45 rfl rfl ?_
                refine m_get 10 8 lf_X10_25 dX10_near_46 (ly_226 B _ _) rfl ?_
                refine e_bipush (v := nI 26) dX10_near_49 (by decide) ?_
                refine e_iload_n dX10_near_51 rfl rfl ?_
                refine e_imul dX10_near_52 ?_
                refine e_top (w := nI (26 * p)) (pk_mul _ _) ?_
                refine e_iload_n dX10_near_53 rfl rfl ?_
                refine e_iadd dX10_near_54 ?_
                refine e_top (w := nI ((26 * p) + q)) (nI_add _ _) ?_
                refine m_iald ((26 * p) + q) dX10_near_55 (ly_232 B _ _) (rfl) (by omega) (by decide) ?_
                refine e_top (w := nI (ww S p q)) (hs.xww p q (by omega) (by omega)) ?_
                refine e_istore dX10_near_56 (by decide) rfl ?_
                refine e_aload_n dX10_near_58 rfl rfl ?_
                refine m_get 10 8 lf_X10_25 dX10_near_59 (ly_226 B _ _) rfl ?_
                refine e_bipush (v := nI 26) dX10_near_62 (by decide) ?_
                refine e_iload_n dX10_near_64 rfl rfl ?_
                refine e_imul dX10_near_65 ?_
                refine e_top (w := nI (26 * p)) (pk_mul _ _) ?_
                refine e_iload_n dX10_near_66 rfl rfl ?_
                refine e_iadd dX10_near_67 ?_
                refine e_top (w := nI ((26 * p) + q)) (nI_add _ _) ?_
                refine e_iload_n dX10_near_68 rfl rfl ?_
                refine e_iconst (v := nI 1) dX10_near_69 (by decide) ?_
                refine e_iadd dX10_near_70 ?_
                refine e_top (w := nI y) (Int32.sub_add_cancel _ _) ?_
                refine m_iast ((26 * p) + q) dX10_near_71 (fun m => ly_232 B m _) (rfl) (by omega) (by decide) ?_
                refine e_iload dX10_near_72 rfl ?_
                refine n_if_ne 82 dX10_near_74 (by decide) (by omega) (fun g5 => ?_) (fun g5 => ?_)
                · refine e_iload dX10_near_82 rfl ?_
                  refine e_iconst (v := nI 1) dX10_near_84 (by decide) ?_
                  refine e_isub dX10_near_85 ?_
                  refine e_top (w := nI ((ww S p q) - 1)) (pk_sub (by omega)) ?_
                  exact m_iret dX10_near_86 rfl (Nat.le_refl _) (Nat.le_refl _) (⟨_, _, rfl, Or.inr ⟨p, q, p2, q2, rfl, rfl, g3, Or.inr ⟨y, y1, rfl, by unfold ownV; rw [if_neg (by omega)], rfl⟩⟩, hms, f1.wrS (by omega)⟩)
                · refine e_bipush (v := -3) dX10_near_77 (by decide) ?_
                  refine e_goto 86 dX10_near_79 (by decide) ?_
                  exact m_iret dX10_near_86 rfl (Nat.le_refl _) (Nat.le_refl _) (⟨_, _, rfl, Or.inr ⟨p, q, p2, q2, rfl, rfl, g3, Or.inr ⟨y, y1, rfl, by unfold ownV; rw [if_pos (by omega)], rfl⟩⟩, hms, f1.wrS (by omega)⟩)
              · exact absurd g4 (by decide)
            · refine e_if_ne 45 dX10_near_39 (by decide) (fun g4 => ?_) (fun g4 => ?_)
              · exact absurd rfl g4
              · refine e_bipush (v := -2) dX10_near_42 (by decide) ?_
                exact m_iret dX10_near_44 rfl (Nat.le_refl _) (Nat.le_refl _) (⟨_, _, rfl, Or.inr ⟨p, q, p2, q2, rfl, rfl, g3, Or.inl ⟨h3, rfl, rfl⟩⟩, hs, f1⟩)
          · subst g3
            refine e_iconst (v := -1) dX10_near_30 (by decide) ?_
            exact m_iret dX10_near_31 rfl (Nat.le_refl _) (Nat.le_refl _) (⟨_, _, rfl, Or.inl ⟨fun z => z.2.2 rfl, rfl, rfl⟩, hs, f1⟩)
      · refine e_if_eq 30 dX10_near_22 (by decide) (fun g2 => ?_) (fun g2 => ?_)
        · refine e_iconst (v := -1) dX10_near_30 (by decide) ?_
          exact m_iret dX10_near_31 rfl (Nat.le_refl _) (Nat.le_refl _) (⟨_, _, rfl, Or.inl ⟨fun z => h2 z.2.1, rfl, rfl⟩, hs, f1⟩)
        · exact absurd rfl g2
  · refine e_if_eq 30 dX10_near_12 (by decide) (fun g1 => ?_) (fun g1 => ?_)
    · refine e_iconst (v := -1) dX10_near_30 (by decide) ?_
      exact m_iret dX10_near_31 rfl (Nat.le_refl _) (Nat.le_refl _) (⟨_, _, rfl, Or.inl ⟨fun z => h1 z.1, rfl, rfl⟩, hs, f1⟩)
    · exact absurd rfl g1
end REG
