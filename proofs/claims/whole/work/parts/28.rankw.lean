section RKW
variable {l : Launch} {D : va_G} {kA : FieldType → ClassId} {B sz : Nat} {o : Int64}
/-- what is ranked: the row of SUGGESTIONS or ENDINGS in the ranking's numbers -/
def P_rkw (m : mm_M) (S : sp_S) (b : Bool) (lim : Nat) (v : Option Value) (m' : mm_M) : Prop := v = none ∧ (∃ n g, n ≤ 60 ∧ sug S (cst S b) lim n g ∧ m' 192 3 = nI n ∧ ∀ q, q < n → m' 193 q = nI (g q)) ∧ fr m m'
set_option maxRecDepth 100000 in
set_option maxHeartbeats 2000000 in
/-- SuggestSpell.rankWords -/
theorem c_rankWords (m : mm_M) {S : sp_S} {lim : Nat} (b : Bool) (hc : cs m S) (hl : lim ≤ 50) : mm_F l D kA B sz o 5 112 mX9_rankWords [.ref (B + 0), .int (nI lim), .int (if b then nI 1 else nI 0)] m (P_rkw m S b lim) := by
  have hok := hc.1
  have n60 := hok.2.2.1
  obtain ⟨f, o1, o2, o3⟩ := hc.2.2.2.2.2.1
  refine mm_F.of ?_
  refine e_aload_n dX9_rankWords_0 rfl rfl ?_
  refine m_get 9 5 lf_X9_49 dX9_rankWords_1 (ly_0 B _ _) rfl ?_
  refine e_iconst (v := nI 0) dX9_rankWords_4 (by decide) ?_
  refine m_puti 4 3 lp_X9_199 dX9_rankWords_5 (ly_192 B _ _) (Nat.le_of_ble_eq_true rfl) (ly_192 B _ _) rfl ?_
  refine e_iconst (v := nI 0) dX9_rankWords_8 (by decide) ?_
  refine e_istore_n dX9_rankWords_9 rfl (by decide) rfl ?_
  have loop : ∀ (d i : Nat) (m' : mm_M) (x4 x5 x6 : Option Value) (n : Nat) (g : Nat → Nat), wn S - i = d → i ≤ wn S → n ≤ i → rk_at m' (cst S b) (wc S) n g → so (bf S (cst S b)) n g → (∀ x, (∃ q, q < n ∧ g q = x) ↔ (∃ j, j < i ∧ f j = x) ∧ cst S b x ≤ lim) → fr m m' → mm_G l D kA B sz o 5 112 mX9_rankWords (P_rkw m S b lim) 10 [some (.ref (B + 0)), some (.int (nI lim)), some (.int (if b then nI 1 else nI 0)), some (.int (nI i)), x4, x5, x6] [] m' := by
    intro d
    induction d with
    | zero =>
      intro i m' x4 x5 x6 n g h1 h2 h3 h4 h5 h6 h7
      refine e_iload_n dX9_rankWords_10 rfl rfl ?_
      refine e_aload_n dX9_rankWords_11 rfl rfl ?_
      refine m_get 9 2 lf_X9_26 dX9_rankWords_12 (ly_0 B _ _) rfl ?_
      refine m_get 8 4 lf_X9_85 dX9_rankWords_15 (ly_32 B _ _) rfl ?_
      refine e_top (w := nI (wn S)) ((by rw [h7 32 (by omega)]; exact hc.2.2.2.1)) ?_
      refine n_icmp_ge 106 dX9_rankWords_18 (by decide) (by omega) (by omega) (fun g1 => ?_) (fun g1 => ?_)
      · refine m_vret dX9_rankWords_106 rfl (Nat.le_refl _) (Nat.le_refl _) ⟨rfl, ⟨n, g, by omega, ⟨h5, fun x => (h6 x).trans ⟨fun q => ⟨?_, q.2⟩, fun q => ⟨?_, q.2⟩⟩⟩, h4.1, fun q hq => (h4.2 q hq).1⟩, h7⟩
        · obtain ⟨⟨j, j1, j2⟩, -⟩ := q
          rw [← j2]; exact (o1 j (by omega)).2
        · obtain ⟨k, k1, k2⟩ := o3 x q.1
          exact ⟨k, by omega, k2⟩
      · exact absurd g1 (by omega)
    | succ d ih =>
      intro i m' x4 x5 x6 n g h1 h2 h3 h4 h5 h6 h7
      obtain ⟨f1, f2⟩ := o1 i (by omega)
      have cl := cst_le hok b f2
      have hc' : cs m' S := h7.cs hc
      refine e_iload_n dX9_rankWords_10 rfl rfl ?_
      refine e_aload_n dX9_rankWords_11 rfl rfl ?_
      refine m_get 9 2 lf_X9_26 dX9_rankWords_12 (ly_0 B _ _) rfl ?_
      refine m_get 8 4 lf_X9_85 dX9_rankWords_15 (ly_32 B _ _) rfl ?_
      refine e_top (w := nI (wn S)) ((by rw [h7 32 (by omega)]; exact hc.2.2.2.1)) ?_
      refine n_icmp_ge 106 dX9_rankWords_18 (by decide) (by omega) (by omega) (fun g1 => ?_) (fun g1 => ?_)
      · exact absurd g1 (by omega)
      · refine e_aload_n dX9_rankWords_21 rfl rfl ?_
        refine m_get 9 2 lf_X9_26 dX9_rankWords_22 (ly_0 B _ _) rfl ?_
        refine m_get 8 2 lf_X9_203 dX9_rankWords_25 (ly_32 B _ _) rfl ?_
        refine e_iload_n dX9_rankWords_28 rfl rfl ?_
        refine m_iald (i) dX9_rankWords_29 (ly_35 B _ _) (rfl) (by omega) (by decide) ?_
        refine e_top (w := nI (f i)) ((by rw [h7 35 (by omega)]; exact f1)) ?_
        refine e_istore dX9_rankWords_30 (by decide) rfl ?_
        -- behind the price
        have go71 : ∀ m3 (y5 : Int32), frT m' m3 → mm_G l D kA B sz o 5 112 mX9_rankWords (P_rkw m S b lim) 71 [some (.ref (B + 0)), some (.int (nI lim)), some (.int (if b then nI 1 else nI 0)), some (.int (nI i)), some (.int (nI (f i))), some (.int y5), x6] [.int (nI (cst S b (f i)))] m3 := by
          intro m3 y5 g3
          have h7' : fr m m3 := h7.tr g3.fr
          have h4' : rk_at m3 (cst S b) (wc S) n g := ⟨by rw [g3 192 (by omega)]; exact h4.1, fun q hq => by rw [g3 193 (by omega), g3 194 (by omega), g3 195 (by omega)]; exact h4.2 q hq⟩
          refine e_istore dX9_rankWords_71 (by decide) rfl ?_
          refine e_iload dX9_rankWords_73 rfl ?_
          refine e_iload_n dX9_rankWords_75 rfl rfl ?_
          refine n_icmp_gt 100 dX9_rankWords_76 (by decide) (by omega) (by omega) (fun g4 => ?_) (fun g4 => ?_)
          · refine e_iinc (v := nI (i + 1)) dX9_rankWords_100 rfl (nI_add _ _) (by decide) rfl ?_
            refine e_goto 10 dX9_rankWords_103 (by decide) ?_
            refine ih (i + 1) m3 _ _ _ n g (by omega) (by omega) (by omega) h4' h5 (fun x => (h6 x).trans ⟨fun q => ⟨?_, q.2⟩, fun q => ⟨?_, q.2⟩⟩) h7'
            · obtain ⟨⟨j, j1, j2⟩, -⟩ := q
              exact ⟨j, by omega, j2⟩
            · obtain ⟨⟨j, j1, j2⟩, q2⟩ := q
              refine ⟨j, ?_, j2⟩
              rcases Nat.lt_or_ge j i with e | e
              · exact e
              · have : j = i := by omega
                subst this
                rw [← j2] at q2
                omega
          · obtain ⟨w1, w2⟩ := (hc'.2.2.2.2.1 (f i) f2)
            have wcb := hok.2.2.2.1 (f i) f2
            refine e_aload_n dX9_rankWords_79 rfl rfl ?_
            refine m_get 9 5 lf_X9_49 dX9_rankWords_80 (ly_0 B _ _) rfl ?_
            refine e_iload dX9_rankWords_83 rfl ?_
            refine e_iload dX9_rankWords_85 rfl ?_
            refine e_aload_n dX9_rankWords_87 rfl rfl ?_
            refine m_get 9 2 lf_X9_26 dX9_rankWords_88 (ly_0 B _ _) rfl ?_
            refine m_get 8 1 lf_X9_94 dX9_rankWords_91 (ly_32 B _ _) rfl ?_
            refine e_iload dX9_rankWords_94 rfl ?_
            refine m_iald (f i) dX9_rankWords_96 (ly_34 B _ _) (rfl) (by omega) (by decide) ?_
            refine e_top (w := nI (wc S (f i))) ((by rw [g3 34 (by omega)]; exact w2)) ?_
            refine m_callV (As := [_, _, _]) lc_X9_206 dX9_rankWords_97 (ly_192 B _ _) rfl rfl (by simp [Value.category]) (Nat.le_of_ble_eq_true rfl) (Nat.le_of_ble_eq_true rfl) ⟨Nat.le_of_ble_eq_true rfl, Nat.le_of_ble_eq_true rfl⟩ ⟨Nat.le_of_ble_eq_true rfl, Nat.le_of_ble_eq_true rfl⟩ (c_Rank_add m3 (c := cst S b) (n := wc S) (x := f i) h4' (by omega) (fun q hq => by have h8 := (h6 (g q)).mp ⟨q, hq, rfl⟩; obtain ⟨⟨j, j1, j2⟩, -⟩ := h8; have h9 := (o1 j (by omega)).2; rw [j2] at h9; have := cst_le hok b h9; have := (hok.2.2.2.1 _ h9).2.2.2.2; omega) (by omega) (by omega)) (fun v9 m4 hp9 => ?_)
            obtain ⟨rfl, ⟨p9, q1, q2, q3, q4⟩, q5⟩ := hp9
            refine e_iinc (v := nI (i + 1)) dX9_rankWords_100 rfl (nI_add _ _) (by decide) rfl ?_
            refine e_goto 10 dX9_rankWords_103 (by decide) ?_
            have hah : ∀ q, q < n → wa S (g q) (f i) := fun q hq => by
              obtain ⟨⟨j, j1, j2⟩, -⟩ := (h6 (g q)).mp ⟨q, hq, rfl⟩
              rw [← j2]; exact o2 j i j1 (by omega)
            have nb : ∀ q, q < n → ¬ bh (cst S b) (wc S) (g q) (f i) → bf S (cst S b) (g q) (f i) := fun q hq h => by
              have := hah q hq
              unfold bh at h
              unfold bf
              rcases Nat.lt_trichotomy (cst S b (g q)) (cst S b (f i)) with e | e | e
              · exact Or.inl e
              · rcases Nat.lt_trichotomy (wc S (g q)) (wc S (f i)) with e2 | e2 | e2
                · exact absurd (Or.inr ⟨e, e2⟩) h
                · exact Or.inr ⟨e, Or.inr ⟨e2, this⟩⟩
                · exact Or.inr ⟨e, Or.inl e2⟩
              · exact absurd (Or.inl e) h
            have yb : ∀ q, bh (cst S b) (wc S) (g q) (f i) → bf S (cst S b) (f i) (g q) := fun q h => by
              unfold bh at h
              unfold bf
              rcases h with e | ⟨e, e2⟩
              · exact Or.inl e
              · exact Or.inr ⟨e.symm, Or.inl e2⟩
            refine ih (i + 1) m4 _ _ _ (n + 1) (ins g p9 (f i)) (by omega) (by omega) (by omega) q4 (so_ins h5 q1 (fun q hq => ?_) (fun q r1 r2 => yb q (q3 q r1 r2))) (fun x => (ins_mem q1 x).trans ?_) (h7'.tr (fun a ha => q5 a (by omega)))
            · have l1 := nb (p9 - 1) (by omega) (q2 (by omega))
              by_cases e : q = p9 - 1
              · rw [e]; exact l1
              · exact bf_tr S _ (h5 q (p9 - 1) (by omega) (by omega)) l1
            · constructor
              · rintro (e | e)
                · obtain ⟨⟨j, j1, j2⟩, r2⟩ := (h6 x).mp e
                  exact ⟨⟨j, by omega, j2⟩, r2⟩
                · subst e
                  exact ⟨⟨i, by omega, rfl⟩, by omega⟩
              · rintro ⟨⟨j, j1, j2⟩, r2⟩
                by_cases e : j = i
                · subst e; exact Or.inr j2.symm
                · exact Or.inl ((h6 x).mpr ⟨⟨j, by omega, j2⟩, r2⟩)
        have w12 := (hok.2.2.2.1 (f i) f2).2.1
        have t12 := hok.1
        refine e_aload_n dX9_rankWords_32 rfl rfl ?_
        refine m_get 9 4 lf_X9_42 dX9_rankWords_33 (ly_0 B _ _) rfl ?_
        refine e_aload_n dX9_rankWords_36 rfl rfl ?_
        refine m_get 9 0 lf_X9_10 dX9_rankWords_37 (ly_0 B _ _) rfl ?_
        refine e_aload_n dX9_rankWords_40 rfl rfl ?_
        refine m_get 9 2 lf_X9_26 dX9_rankWords_41 (ly_0 B _ _) rfl ?_
        refine m_get 8 0 lf_X9_98 dX9_rankWords_44 (ly_32 B _ _) rfl ?_
        refine e_iload dX9_rankWords_47 rfl ?_
        refine m_aald (r := 37 + 2 * (f i)) (f i) dX9_rankWords_49 (by decide) rfl (ly_33 B _ _) (rfl) (by omega) (by decide) (if_pos (by omega)) ?_
        refine m_callV (As := [_, _]) lc_X9_119 dX9_rankWords_50 (ly_171 B _ _) rfl rfl (by simp [Value.category]) (Nat.le_of_ble_eq_true rfl) (Nat.le_of_ble_eq_true rfl) ⟨Nat.le_of_ble_eq_true rfl, Nat.le_of_ble_eq_true rfl⟩ ⟨Nat.le_of_ble_eq_true rfl, Nat.le_of_ble_eq_true rfl⟩ (c_measure m' hc'.2.2.1 (isRow_1 B) (isRow_w B (i := f i) (by omega)) (by omega) (by omega) (by omega) (by omega) hc'.2.1 (hc'.2.2.2.2.1 (f i) f2).1) (fun v9 m3 hp9 => ?_)
        obtain ⟨rfl, a1, a2, a3, a4⟩ := hp9
        refine e_top (w := nI (ds S (f i))) (rfl) ?_
        refine e_istore dX9_rankWords_53 (by decide) rfl ?_
        refine e_iload_n dX9_rankWords_55 rfl rfl ?_
        cases b with
        | true =>
          refine e_if_eq 69 dX9_rankWords_56 (by decide) (fun g2 => ?_) (fun g2 => ?_)
          · exact absurd g2 (by decide)
          · refine e_aload_n dX9_rankWords_59 rfl rfl ?_
            refine m_get 9 4 lf_X9_42 dX9_rankWords_60 (ly_0 B _ _) rfl ?_
            refine m_callV (As := []) lc_X9_123 dX9_rankWords_63 (ly_171 B _ _) rfl rfl (by simp [Value.category]) (Nat.le_of_ble_eq_true rfl) (Nat.le_of_ble_eq_true rfl) ⟨Nat.le_of_ble_eq_true rfl, Nat.le_of_ble_eq_true rfl⟩ ⟨Nat.le_of_ble_eq_true rfl, Nat.le_of_ble_eq_true rfl⟩ (c_leastOf m3 (f := fun j => dd (pp S) (ww S) (tl S) (wt S (f i)) (tn S) j) a1.1 a2.1 t12 w12 (fun b hb => ⟨a3 _ b (Nat.le_refl _) hb, by have := dd_le (w := ww S) (tl S) (wt S (f i)) (hok.2.2.2.2.2.1 0 (by omega)) (hok.2.2.2.2.2.1 1 (by omega)) (tn S) b; omega⟩)) (fun v9 m4 hp9 => ?_)
            obtain ⟨rfl, rfl⟩ := hp9
            refine e_top (w := nI (bg S (f i))) (rfl) ?_
            refine e_goto 71 dX9_rankWords_66 (by decide) ?_
            exact go71 _ _ a4
        | false =>
          refine e_if_eq 69 dX9_rankWords_56 (by decide) (fun g2 => ?_) (fun g2 => ?_)
          · refine e_iload dX9_rankWords_69 rfl ?_
            exact go71 _ _ a4
          · exact absurd rfl g2
  exact loop (wn S) 0 _ none none none 0 (fun _ => 0) (by omega) (by omega) (by omega) ⟨wr_same _ _ _ _, fun q hq => by omega⟩ (fun i j h1 h2 => by omega) (fun x => ⟨fun ⟨q, q1, _⟩ => by omega, fun ⟨⟨q, q1, _⟩, _⟩ => by omega⟩) (fun a ha => wr_off _ _ (by omega))
/-- an Int32 between two others -/
def inr (x lo hi : Int32) : Prop := lo ≤ x ∧ x ≤ hi
set_option maxRecDepth 100000 in
/-- SuggestSpell.isLimit -/
theorem c_isLimit (m : mm_M) (x : Int32) : mm_F l D kA B sz o 0 0 mX9_isLimit [.int x] m (fun v m' => m' = m ∧ ((v = some (.int (nI 1)) ∧ inr x 0 50) ∨ (v = some (.int (nI 0)) ∧ ¬ inr x 0 50))) := by
  refine mm_F.of ?_
  refine e_iload_n dX9_isLimit_0 rfl rfl ?_
  refine e_if_lt 14 dX9_isLimit_1 (by decide) (fun g1 => ?_) (fun g1 => ?_)
  · refine e_iconst (v := nI 0) dX9_isLimit_14 (by decide) ?_
    exact m_zret dX9_isLimit_15 rfl (by first | rfl | decide | assumption) (Nat.le_refl _) (Nat.le_refl _) (⟨rfl, Or.inr ⟨rfl, fun q => Int32.not_lt.mpr q.1 g1⟩⟩)
  · refine e_iload_n dX9_isLimit_4 rfl rfl ?_
    refine e_bipush (v := nI 50) dX9_isLimit_5 (by decide) ?_
    refine e_icmp_gt 14 dX9_isLimit_7 (by decide) (fun g2 => ?_) (fun g2 => ?_)
    · refine e_iconst (v := nI 0) dX9_isLimit_14 (by decide) ?_
      exact m_zret dX9_isLimit_15 rfl (by first | rfl | decide | assumption) (Nat.le_refl _) (Nat.le_refl _) (⟨rfl, Or.inr ⟨rfl, fun q => Int32.not_lt.mpr q.2 g2⟩⟩)
    · refine e_iconst (v := nI 1) dX9_isLimit_10 (by decide) ?_
      refine e_goto 15 dX9_isLimit_11 (by decide) ?_
      exact m_zret dX9_isLimit_15 rfl (by first | rfl | decide | assumption) (Nat.le_refl _) (Nat.le_refl _) (⟨rfl, Or.inl ⟨rfl, Int32.not_lt.mp g1, Int32.not_lt.mp g2⟩⟩)
set_option maxRecDepth 100000 in
/-- SuggestSpell.isLetter -/
theorem c_isLetter (m : mm_M) (x : Int32) : mm_F l D kA B sz o 0 0 mX9_isLetter [.int x] m (fun v m' => m' = m ∧ ((v = some (.int (nI 1)) ∧ inr x 0 25) ∨ (v = some (.int (nI 0)) ∧ ¬ inr x 0 25))) := by
  have e26 : ∀ y : Int32, y < 26 ↔ y ≤ 25 := fun y => by rw [Int32.lt_iff_toInt_lt, Int32.le_iff_toInt_le, show (26 : Int32).toInt = 26 by decide, show (25 : Int32).toInt = 25 by decide]; omega
  refine mm_F.of ?_
  refine e_iload_n dX9_isLetter_0 rfl rfl ?_
  refine e_if_lt 14 dX9_isLetter_1 (by decide) (fun g1 => ?_) (fun g1 => ?_)
  · refine e_iconst (v := nI 0) dX9_isLetter_14 (by decide) ?_
    exact m_zret dX9_isLetter_15 rfl (by first | rfl | decide | assumption) (Nat.le_refl _) (Nat.le_refl _) (⟨rfl, Or.inr ⟨rfl, fun q => Int32.not_lt.mpr q.1 g1⟩⟩)
  · refine e_iload_n dX9_isLetter_4 rfl rfl ?_
    refine e_bipush (v := nI 26) dX9_isLetter_5 (by decide) ?_
    refine e_icmp_ge 14 dX9_isLetter_7 (by decide) (fun g2 => ?_) (fun g2 => ?_)
    · refine e_iconst (v := nI 0) dX9_isLetter_14 (by decide) ?_
      exact m_zret dX9_isLetter_15 rfl (by first | rfl | decide | assumption) (Nat.le_refl _) (Nat.le_refl _) (⟨rfl, Or.inr ⟨rfl, fun q => Int32.not_lt.mpr g2 ((e26 x).mpr q.2)⟩⟩)
    · refine e_iconst (v := nI 1) dX9_isLetter_10 (by decide) ?_
      refine e_goto 15 dX9_isLetter_11 (by decide) ?_
      exact m_zret dX9_isLetter_15 rfl (by first | rfl | decide | assumption) (Nat.le_refl _) (Nat.le_refl _) (⟨rfl, Or.inl ⟨rfl, Int32.not_lt.mp g1, (e26 x).mp (Int32.not_le.mp g2)⟩⟩)
set_option maxRecDepth 100000 in
/-- SuggestSpell.isCount -/
theorem c_isCount (m : mm_M) (x : Int32) : mm_F l D kA B sz o 0 0 mX9_isCount [.int x] m (fun v m' => m' = m ∧ ((v = some (.int (nI 1)) ∧ inr x 1 1000) ∨ (v = some (.int (nI 0)) ∧ ¬ inr x 1 1000))) := by
  refine mm_F.of ?_
  refine e_iload_n dX9_isCount_0 rfl rfl ?_
  refine e_iconst (v := nI 1) dX9_isCount_1 (by decide) ?_
  refine e_icmp_lt 16 dX9_isCount_2 (by decide) (fun g1 => ?_) (fun g1 => ?_)
  · refine e_iconst (v := nI 0) dX9_isCount_16 (by decide) ?_
    exact m_zret dX9_isCount_17 rfl (by first | rfl | decide | assumption) (Nat.le_refl _) (Nat.le_refl _) (⟨rfl, Or.inr ⟨rfl, fun q => Int32.not_lt.mpr q.1 g1⟩⟩)
  · refine e_iload_n dX9_isCount_5 rfl rfl ?_
    refine e_sipush (v := nI 1000) dX9_isCount_6 (by decide) ?_
    refine e_icmp_gt 16 dX9_isCount_9 (by decide) (fun g2 => ?_) (fun g2 => ?_)
    · refine e_iconst (v := nI 0) dX9_isCount_16 (by decide) ?_
      exact m_zret dX9_isCount_17 rfl (by first | rfl | decide | assumption) (Nat.le_refl _) (Nat.le_refl _) (⟨rfl, Or.inr ⟨rfl, fun q => Int32.not_lt.mpr q.2 g2⟩⟩)
    · refine e_iconst (v := nI 1) dX9_isCount_12 (by decide) ?_
      refine e_goto 17 dX9_isCount_13 (by decide) ?_
      exact m_zret dX9_isCount_17 rfl (by first | rfl | decide | assumption) (Nat.le_refl _) (Nat.le_refl _) (⟨rfl, Or.inl ⟨rfl, Int32.not_lt.mp g1, Int32.not_lt.mp g2⟩⟩)
theorem inr_nat {x : Int32} {lo hi : Nat} (h : inr x (nI lo) (nI hi)) (hh : hi < 2 ^ 31) (hl : lo < 2 ^ 31) : ∃ q, lo ≤ q ∧ q ≤ hi ∧ x = nI q := by
  obtain ⟨h1, h2⟩ := h
  have h3 : ¬ x < 0 := by
    intro q
    have := Int32.lt_of_le_of_lt h1 q
    exact nI_pos hl this
  obtain ⟨q, q1, rfl⟩ := nI_of h3
  exact ⟨q, (nI_leI hl q1).mp h1, (nI_leI q1 hh).mp h2, rfl⟩
/-- how many of the ranked there are, for a limit within its bounds -/
def R_many (S : sp_S) (b : Bool) (x v : Int32) : Prop := (¬ inr x 0 50 ∧ v = -2) ∨ (inr x 0 50 ∧ ∃ n g, n ≤ 60 ∧ sug S (cst S b) x.toNatClampNeg n g ∧ v = nI n)
def R_rank (S : sp_S) (b : Bool) (x i v : Int32) : Prop := (¬ inr x 0 50 ∧ v = -2) ∨ (inr x 0 50 ∧ ∃ n g, n ≤ 60 ∧ sug S (cst S b) x.toNatClampNeg n g ∧ ((∃ q, q < n ∧ i = nI q ∧ v = nI (g q)) ∨ ((∀ q, q < n → i ≠ nI q) ∧ v = -1)))
theorem R_many_uniq {S : sp_S} {b : Bool} {x v v' : Int32} (h : R_many S b x v) (h' : R_many S b x v') : v = v' := by
  rcases h with ⟨a, rfl⟩ | ⟨a, n, g, n6, s, rfl⟩ <;> rcases h' with ⟨a', rfl⟩ | ⟨a', n', g', n6', s', rfl⟩
  · rfl
  · exact absurd a' a
  · exact absurd a a'
  · rw [(sug_uniq s s').1]
theorem R_rank_uniq {S : sp_S} {b : Bool} {x i v v' : Int32} (h : R_rank S b x i v) (h' : R_rank S b x i v') : v = v' := by
  rcases h with ⟨a, rfl⟩ | ⟨a, n, g, n6, s, t⟩ <;> rcases h' with ⟨a', rfl⟩ | ⟨a', n', g', n6', s', t'⟩
  · rfl
  · exact absurd a' a
  · exact absurd a a'
  · obtain ⟨e1, e2⟩ := sug_uniq s s'
    subst e1
    rcases t with ⟨q, q1, q2, rfl⟩ | ⟨q1, rfl⟩ <;> rcases t' with ⟨p, p1, p2, rfl⟩ | ⟨p1, rfl⟩
    · have := (nI_eq (a := q) (b := p) (by omega) (by omega)).mp (q2.symm.trans p2)
      subst this
      rw [e2 q q1]
    · exact absurd q2 (p1 q q1)
    · exact absurd p2 (q1 p p1)
    · rfl
set_option maxRecDepth 100000 in
theorem c_howMany (m : mm_M) {S : sp_S} (x : Int32) (b : Bool) (hc : cs m S) : mm_F l D kA B sz o 6 138 mX9_howMany [.ref (B + 0), .int x, .int (if b then nI 1 else nI 0)] m (fun v m' => (∃ y, v = some (.int y) ∧ R_many S b x y) ∧ fr m m') := by
  refine mm_F.of ?_
  refine e_iload_n dX9_howMany_0 rfl rfl ?_
  refine m_callS (As := [_]) lc_X9_171 dX9_howMany_1 rfl rfl (by simp [Value.category]) (Nat.le_of_ble_eq_true rfl) (Nat.le_of_ble_eq_true rfl) ⟨Nat.le_of_ble_eq_true rfl, Nat.le_of_ble_eq_true rfl⟩ ⟨Nat.le_of_ble_eq_true rfl, Nat.le_of_ble_eq_true rfl⟩ (c_isLimit m x) (fun v9 m9 hp9 => ?_)
  obtain ⟨rfl, ⟨rfl, h1⟩ | ⟨rfl, h1⟩⟩ := hp9
  · refine e_if_ne 10 dX9_howMany_4 (by decide) (fun g1 => ?_) (fun g1 => ?_)
    · obtain ⟨q, -, q2, rfl⟩ := inr_nat (lo := 0) (hi := 50) h1 (by omega) (by omega)
      refine e_aload_n dX9_howMany_10 rfl rfl ?_
      refine e_iload_n dX9_howMany_11 rfl rfl ?_
      refine e_iload_n dX9_howMany_12 rfl rfl ?_
      refine m_callV (As := [_, _]) lc_X9_195 dX9_howMany_13 (ly_0 B _ _) rfl rfl (by simp [Value.category]) (Nat.le_of_ble_eq_true rfl) (Nat.le_of_ble_eq_true rfl) ⟨Nat.le_of_ble_eq_true rfl, Nat.le_of_ble_eq_true rfl⟩ ⟨Nat.le_of_ble_eq_true rfl, Nat.le_of_ble_eq_true rfl⟩ (c_rankWords m9 (lim := q) b hc q2) (fun v9 m1 hp9 => ?_)
      obtain ⟨rfl, ⟨n, g, a1, a2, a3, a4⟩, a5⟩ := hp9
      refine e_aload_n dX9_howMany_16 rfl rfl ?_
      refine m_get 9 5 lf_X9_49 dX9_howMany_17 (ly_0 B _ _) rfl ?_
      refine m_get 4 3 lf_X9_199 dX9_howMany_20 (ly_192 B _ _) rfl ?_
      exact m_iret dX9_howMany_23 rfl (Nat.le_refl _) (Nat.le_refl _) (⟨⟨_, rfl, Or.inr ⟨h1, n, g, a1, by rw [nI_clamp (by omega)]; exact a2, a3⟩⟩, a5⟩)
    · exact absurd g1 (by decide)
  · refine e_if_ne 10 dX9_howMany_4 (by decide) (fun g1 => ?_) (fun g1 => ?_)
    · exact absurd rfl g1
    · refine e_bipush (v := -2) dX9_howMany_7 (by decide) ?_
      exact m_iret dX9_howMany_9 rfl (Nat.le_refl _) (Nat.le_refl _) (⟨⟨_, rfl, Or.inl ⟨h1, rfl⟩⟩, fr.rf _⟩)
set_option maxRecDepth 100000 in
theorem c_rankedWord (m : mm_M) {S : sp_S} (x i : Int32) (b : Bool) (hc : cs m S) : mm_F l D kA B sz o 6 138 mX9_rankedWord [.ref (B + 0), .int x, .int i, .int (if b then nI 1 else nI 0)] m (fun v m' => (∃ y, v = some (.int y) ∧ R_rank S b x i y) ∧ fr m m') := by
  refine mm_F.of ?_
  refine e_iload_n dX9_rankedWord_0 rfl rfl ?_
  refine m_callS (As := [_]) lc_X9_171 dX9_rankedWord_1 rfl rfl (by simp [Value.category]) (Nat.le_of_ble_eq_true rfl) (Nat.le_of_ble_eq_true rfl) ⟨Nat.le_of_ble_eq_true rfl, Nat.le_of_ble_eq_true rfl⟩ ⟨Nat.le_of_ble_eq_true rfl, Nat.le_of_ble_eq_true rfl⟩ (c_isLimit m x) (fun v9 m9 hp9 => ?_)
  obtain ⟨rfl, ⟨rfl, h1⟩ | ⟨rfl, h1⟩⟩ := hp9
  · refine e_if_ne 10 dX9_rankedWord_4 (by decide) (fun g1 => ?_) (fun g1 => ?_)
    · obtain ⟨q, -, q2, rfl⟩ := inr_nat (lo := 0) (hi := 50) h1 (by omega) (by omega)
      refine e_aload_n dX9_rankedWord_10 rfl rfl ?_
      refine e_iload_n dX9_rankedWord_11 rfl rfl ?_
      refine e_iload_n dX9_rankedWord_12 rfl rfl ?_
      refine m_callV (As := [_, _]) lc_X9_195 dX9_rankedWord_13 (ly_0 B _ _) rfl rfl (by simp [Value.category]) (Nat.le_of_ble_eq_true rfl) (Nat.le_of_ble_eq_true rfl) ⟨Nat.le_of_ble_eq_true rfl, Nat.le_of_ble_eq_true rfl⟩ ⟨Nat.le_of_ble_eq_true rfl, Nat.le_of_ble_eq_true rfl⟩ (c_rankWords m9 (lim := q) b hc q2) (fun v9 m1 hp9 => ?_)
      obtain ⟨rfl, ⟨n, g, a1, a2, a3, a4⟩, a5⟩ := hp9
      have a2' : sug S (cst S b) (nI q).toNatClampNeg n g := by rw [nI_clamp (by omega)]; exact a2
      refine e_iload_n dX9_rankedWord_16 rfl rfl ?_
      refine e_if_lt 31 dX9_rankedWord_17 (by decide) (fun g2 => ?_) (fun g2 => ?_)
      · refine e_iconst (v := -1) dX9_rankedWord_31 (by decide) ?_
        exact m_iret dX9_rankedWord_32 rfl (Nat.le_refl _) (Nat.le_refl _) (⟨⟨_, rfl, Or.inr ⟨h1, n, g, a1, a2', Or.inr ⟨fun z hz e => nI_pos (n := z) (by omega) (e ▸ g2), rfl⟩⟩⟩, a5⟩)
      · obtain ⟨z, z1, rfl⟩ := nI_of g2
        refine e_iload_n dX9_rankedWord_20 rfl rfl ?_
        refine e_aload_n dX9_rankedWord_21 rfl rfl ?_
        refine m_get 9 5 lf_X9_49 dX9_rankedWord_22 (ly_0 B _ _) rfl ?_
        refine m_get 4 3 lf_X9_199 dX9_rankedWord_25 (ly_192 B _ _) rfl ?_
        refine e_top (w := nI n) (a3) ?_
        refine n_icmp_lt 33 dX9_rankedWord_28 (by decide) (by omega) (by omega) (fun g3 => ?_) (fun g3 => ?_)
        · refine e_aload_n dX9_rankedWord_33 rfl rfl ?_
          refine m_get 9 5 lf_X9_49 dX9_rankedWord_34 (ly_0 B _ _) rfl ?_
          refine m_get 4 0 lf_X9_200 dX9_rankedWord_37 (ly_192 B _ _) rfl ?_
          refine e_iload_n dX9_rankedWord_40 rfl rfl ?_
          refine m_iald (z) dX9_rankedWord_41 (ly_193 B _ _) (rfl) (by omega) (by decide) ?_
          refine e_top (w := nI (g z)) (a4 z g3) ?_
          exact m_iret dX9_rankedWord_42 rfl (Nat.le_refl _) (Nat.le_refl _) (⟨⟨_, rfl, Or.inr ⟨h1, n, g, a1, a2', Or.inl ⟨z, g3, rfl, rfl⟩⟩⟩, a5⟩)
        · refine e_iconst (v := -1) dX9_rankedWord_31 (by decide) ?_
          exact m_iret dX9_rankedWord_32 rfl (Nat.le_refl _) (Nat.le_refl _) (⟨⟨_, rfl, Or.inr ⟨h1, n, g, a1, a2', Or.inr ⟨fun y hy e => by have := (nI_eq z1 (by omega)).mp e; omega, rfl⟩⟩⟩, a5⟩)
    · exact absurd g1 (by decide)
  · refine e_if_ne 10 dX9_rankedWord_4 (by decide) (fun g1 => ?_) (fun g1 => ?_)
    · exact absurd rfl g1
    · refine e_bipush (v := -2) dX9_rankedWord_7 (by decide) ?_
      exact m_iret dX9_rankedWord_9 rfl (Nat.le_refl _) (Nat.le_refl _) (⟨⟨_, rfl, Or.inl ⟨h1, rfl⟩⟩, fr.rf _⟩)
set_option maxRecDepth 100000 in
theorem c_suggest (m : mm_M) {S : sp_S} (x : Int32) (hc : cs m S) : mm_F l D kA B sz o 7 160 mX9_suggest [.ref (B + 0), .int x] m (fun v m' => (∃ y, v = some (.int y) ∧ R_many S false x y) ∧ fr m m') := by
  refine mm_F.of ?_
  refine e_aload_n dX9_suggest_0 rfl rfl ?_
  refine e_iload_n dX9_suggest_1 rfl rfl ?_
  refine e_iconst (v := nI 0) dX9_suggest_2 (by decide) ?_
  refine m_callV (As := [_, _]) lc_X9_140 dX9_suggest_3 (ly_0 B _ _) rfl rfl (by simp [Value.category]) (Nat.le_of_ble_eq_true rfl) (Nat.le_of_ble_eq_true rfl) ⟨Nat.le_of_ble_eq_true rfl, Nat.le_of_ble_eq_true rfl⟩ ⟨Nat.le_of_ble_eq_true rfl, Nat.le_of_ble_eq_true rfl⟩ (c_howMany m x false hc) (fun v9 m9 hp9 => ?_)
  obtain ⟨⟨y, rfl, h1⟩, h2⟩ := hp9
  exact m_iret dX9_suggest_6 rfl (Nat.le_refl _) (Nat.le_refl _) (⟨⟨y, rfl, h1⟩, h2⟩)
set_option maxRecDepth 100000 in
theorem c_endings (m : mm_M) {S : sp_S} (x : Int32) (hc : cs m S) : mm_F l D kA B sz o 7 160 mX9_endings [.ref (B + 0), .int x] m (fun v m' => (∃ y, v = some (.int y) ∧ R_many S true x y) ∧ fr m m') := by
  refine mm_F.of ?_
  refine e_aload_n dX9_endings_0 rfl rfl ?_
  refine e_iload_n dX9_endings_1 rfl rfl ?_
  refine e_iconst (v := nI 1) dX9_endings_2 (by decide) ?_
  refine m_callV (As := [_, _]) lc_X9_140 dX9_endings_3 (ly_0 B _ _) rfl rfl (by simp [Value.category]) (Nat.le_of_ble_eq_true rfl) (Nat.le_of_ble_eq_true rfl) ⟨Nat.le_of_ble_eq_true rfl, Nat.le_of_ble_eq_true rfl⟩ ⟨Nat.le_of_ble_eq_true rfl, Nat.le_of_ble_eq_true rfl⟩ (c_howMany m x true hc) (fun v9 m9 hp9 => ?_)
  obtain ⟨⟨y, rfl, h1⟩, h2⟩ := hp9
  exact m_iret dX9_endings_6 rfl (Nat.le_refl _) (Nat.le_refl _) (⟨⟨y, rfl, h1⟩, h2⟩)
set_option maxRecDepth 100000 in
theorem c_suggestion (m : mm_M) {S : sp_S} (x i : Int32) (hc : cs m S) : mm_F l D kA B sz o 7 161 mX9_suggestion [.ref (B + 0), .int x, .int i] m (fun v m' => (∃ y, v = some (.int y) ∧ R_rank S false x i y) ∧ fr m m') := by
  refine mm_F.of ?_
  refine e_aload_n dX9_suggestion_0 rfl rfl ?_
  refine e_iload_n dX9_suggestion_1 rfl rfl ?_
  refine e_iload_n dX9_suggestion_2 rfl rfl ?_
  refine e_iconst (v := nI 0) dX9_suggestion_3 (by decide) ?_
  refine m_callV (As := [_, _, _]) lc_X9_144 dX9_suggestion_4 (ly_0 B _ _) rfl rfl (by simp [Value.category]) (Nat.le_of_ble_eq_true rfl) (Nat.le_of_ble_eq_true rfl) ⟨Nat.le_of_ble_eq_true rfl, Nat.le_of_ble_eq_true rfl⟩ ⟨Nat.le_of_ble_eq_true rfl, Nat.le_of_ble_eq_true rfl⟩ (c_rankedWord m x i false hc) (fun v9 m9 hp9 => ?_)
  obtain ⟨⟨y, rfl, h1⟩, h2⟩ := hp9
  exact m_iret dX9_suggestion_7 rfl (Nat.le_refl _) (Nat.le_refl _) (⟨⟨y, rfl, h1⟩, h2⟩)
set_option maxRecDepth 100000 in
theorem c_ending (m : mm_M) {S : sp_S} (x i : Int32) (hc : cs m S) : mm_F l D kA B sz o 7 161 mX9_ending [.ref (B + 0), .int x, .int i] m (fun v m' => (∃ y, v = some (.int y) ∧ R_rank S true x i y) ∧ fr m m') := by
  refine mm_F.of ?_
  refine e_aload_n dX9_ending_0 rfl rfl ?_
  refine e_iload_n dX9_ending_1 rfl rfl ?_
  refine e_iload_n dX9_ending_2 rfl rfl ?_
  refine e_iconst (v := nI 1) dX9_ending_3 (by decide) ?_
  refine m_callV (As := [_, _, _]) lc_X9_144 dX9_ending_4 (ly_0 B _ _) rfl rfl (by simp [Value.category]) (Nat.le_of_ble_eq_true rfl) (Nat.le_of_ble_eq_true rfl) ⟨Nat.le_of_ble_eq_true rfl, Nat.le_of_ble_eq_true rfl⟩ ⟨Nat.le_of_ble_eq_true rfl, Nat.le_of_ble_eq_true rfl⟩ (c_rankedWord m x i true hc) (fun v9 m9 hp9 => ?_)
  obtain ⟨⟨y, rfl, h1⟩, h2⟩ := hp9
  exact m_iret dX9_ending_7 rfl (Nat.le_refl _) (Nat.le_refl _) (⟨⟨y, rfl, h1⟩, h2⟩)
end RKW
