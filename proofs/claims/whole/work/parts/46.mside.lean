section REL
variable {l : Launch} {D : va_G} {kA : FieldType → ClassId} {B sz : Nat} {o : Int64}
/-- the best of the first w words -/
def bw (S : sp_S) (G : Nat → Nat) (w c q : Nat) : Prop := q < w ∧ G q = c ∧ ∀ z, z < w → c ≤ G z ∧ (G z = c → z = q ∨ wa S q z)
def P_side (m : mm_M) (S : sp_S) (G : Nat → Nat) (v : Option Value) (m' : mm_M) : Prop := (∃ c q, bst S G c q ∧ v = some (.int (nI c)) ∧ m' 226 22 = nI q) ∧ mf m m'
def I_side (S : sp_S) (G : Nat → Nat) (w : Nat) (x : Option Value) (y : Int32) : Prop := (w = 0 ∧ x = some (.int (-1))) ∨ ∃ c q, bw S G w c q ∧ x = some (.int (nI c)) ∧ y = nI q
set_option maxRecDepth 100000 in
set_option maxHeartbeats 2000000 in
theorem r_side (m : mm_M) {S : sp_S} (hk : ok S) (hm : ms m S) {a b : Nat} {r : Nat → Nat} (hab : a ≤ b) (hb : b ≤ tn S) (hr : ∀ i, i < b - a → r i = tl S (a + i)) (hw : 0 < wn S) : mm_F l D kA B sz o 2 50 mX10_side [.ref (B + 226), .int (nI a), .int (nI b)] m (P_side m S (fun q => tb S r q (b - a) (wl S q))) := by
  have t12 := hk.1
  have n60 := hk.2.2.1
  refine mm_F.of ?_
  refine e_aload_n dX10_side_0 rfl rfl ?_
  refine e_iload_n dX10_side_1 rfl rfl ?_
  refine e_iload_n dX10_side_2 rfl rfl ?_
  refine m_callV (As := [_, _]) lc_X10_102 dX10_side_3 (ly_226 B _ _) rfl rfl (by simp [Value.category]) (Nat.le_of_ble_eq_true rfl) (Nat.le_of_ble_eq_true rfl) ⟨Nat.le_of_ble_eq_true rfl, Nat.le_of_ble_eq_true rfl⟩ ⟨Nat.le_of_ble_eq_true rfl, Nat.le_of_ble_eq_true rfl⟩ (r_takeTyped m hk hm hab hb hr) (fun v9 m1 hp9 => ?_)
  obtain ⟨rfl, hr1, f1⟩ := hp9
  refine e_iconst (v := -1) dX10_side_6 (by decide) ?_
  refine e_istore_n dX10_side_7 rfl (by decide) rfl ?_
  refine e_iconst (v := nI 0) dX10_side_8 (by decide) ?_
  refine e_istore dX10_side_9 (by decide) rfl ?_
  have loop : ∀ (d w : Nat) (m' : mm_M) (x3 x5 : Option Value), wn S - w = d → w ≤ wn S → I_side S (fun q => tb S r q (b - a) (wl S q)) w x3 (m' 226 22) → mr m' (b - a) r → mf m m' → mm_G l D kA B sz o 2 50 mX10_side (P_side m S (fun q => tb S r q (b - a) (wl S q))) 11 [some (.ref (B + 226)), some (.int (nI a)), some (.int (nI b)), x3, some (.int (nI w)), x5] [] m' := by
    intro d
    induction d with
    | zero =>
      intro w m' x3 x5 hd h1 h2 h3 h4
      have hm' := h4.msS hm
      refine e_iload dX10_side_11 rfl ?_
      refine e_aload_n dX10_side_13 rfl rfl ?_
      refine m_get 10 3 lf_X10_66 dX10_side_14 (ly_226 B _ _) rfl ?_
      refine e_top (w := nI (wn S)) (hm'.xwn) ?_
      refine n_icmp_ge 72 dX10_side_17 (by decide) (by omega) (by omega) (fun g1 => ?_) (fun g1 => ?_)
      · have e : w = wn S := by clear h2; omega
        subst e
        rcases h2 with ⟨h2, -⟩ | ⟨c, q, h2, rfl, h5⟩
        · omega
        · refine e_iload_n dX10_side_72 rfl rfl ?_
          exact m_iret dX10_side_73 rfl (Nat.le_refl _) (Nat.le_refl _) (⟨⟨c, q, h2, rfl, h5⟩, h4⟩)
      · exact absurd g1 (by omega)
    | succ d ih =>
      intro w m' x3 x5 hd h1 h2 h3 h4
      have hw' : w < wn S := by clear h2; omega
      have hm' := h4.msS hm
      refine e_iload dX10_side_11 rfl ?_
      refine e_aload_n dX10_side_13 rfl rfl ?_
      refine m_get 10 3 lf_X10_66 dX10_side_14 (ly_226 B _ _) rfl ?_
      refine e_top (w := nI (wn S)) (hm'.xwn) ?_
      refine n_icmp_ge 72 dX10_side_17 (by decide) (by omega) (by omega) (fun g1 => ?_) (fun g1 => ?_)
      · exact absurd g1 (by omega)
      · refine e_aload_n dX10_side_20 rfl rfl ?_
        refine e_iload dX10_side_21 rfl ?_
        refine m_callV (As := [_]) lc_X10_99 dX10_side_23 (ly_226 B _ _) rfl rfl (by simp [Value.category]) (Nat.le_of_ble_eq_true rfl) (Nat.le_of_ble_eq_true rfl) ⟨Nat.le_of_ble_eq_true rfl, Nat.le_of_ble_eq_true rfl⟩ ⟨Nat.le_of_ble_eq_true rfl, Nat.le_of_ble_eq_true rfl⟩ (r_fill m' hk hm' hw' h3) (fun v9 m2 hp9 => ?_)
        obtain ⟨rfl, -, f2⟩ := hp9
        have h4' : mf m m2 := h4.tr (mf.of6 f2)
        have hm2 := h4'.msS hm
        have h3' := h3.of f2
        have e22 : m2 226 22 = m' 226 22 := by rw [f2 226 (by omega)]
        refine e_istore dX10_side_26 (by decide) rfl ?_
        have take : bw S (fun q => tb S r q (b - a) (wl S q)) (w + 1) (tb S r w (b - a) (wl S w)) w → mm_G l D kA B sz o 2 50 mX10_side (P_side m S (fun q => tb S r q (b - a) (wl S q))) 57 [some (.ref (B + 226)), some (.int (nI a)), some (.int (nI b)), x3, some (.int (nI w)), some (.int (nI (tb S r w (b - a) (wl S w))))] [] m2 := by
          intro hb2
          refine e_iload dX10_side_57 rfl ?_
          refine e_istore_n dX10_side_59 rfl (by decide) rfl ?_
          refine e_aload_n dX10_side_60 rfl rfl ?_
          refine e_iload dX10_side_61 rfl ?_
          refine m_puti 10 22 lp_X10_130 dX10_side_63 (ly_226 B _ _) (Nat.le_of_ble_eq_true rfl) (ly_226 B _ _) rfl ?_
          refine e_iinc (v := nI (w + 1)) dX10_side_66 rfl (nI_add _ _) (by decide) rfl ?_
          refine e_goto 11 dX10_side_69 (by decide) ?_
          exact ih (w + 1) _ _ _ (by omega) (by omega) (Or.inr ⟨_, _, hb2, rfl, wr_same _ _ _ _⟩) (h3'.of2 (wr_ne _ _ (Or.inr (by omega))) (wr_off _ _ (by omega))) (h4'.wrS (by omega))
        have leave : ∀ c q, bw S (fun q => tb S r q (b - a) (wl S q)) (w + 1) c q → m2 226 22 = nI q → mm_G l D kA B sz o 2 50 mX10_side (P_side m S (fun q => tb S r q (b - a) (wl S q))) 66 [some (.ref (B + 226)), some (.int (nI a)), some (.int (nI b)), some (.int (nI c)), some (.int (nI w)), some (.int (nI (tb S r w (b - a) (wl S w))))] [] m2 := by
          intro c q hb2 h9
          refine e_iinc (v := nI (w + 1)) dX10_side_66 rfl (nI_add _ _) (by decide) rfl ?_
          refine e_goto 11 dX10_side_69 (by decide) ?_
          exact ih (w + 1) _ _ _ (by omega) (by omega) (Or.inr ⟨c, q, hb2, rfl, h9⟩) h3' h4'
        rcases h2 with ⟨e, rfl⟩ | ⟨c, q, ⟨h5, h6, h7⟩, rfl, h8⟩
        · subst e
          refine e_iload_n dX10_side_28 rfl rfl ?_
          refine e_if_lt 57 dX10_side_29 (by decide) (fun g2 => ?_) (fun g2 => ?_)
          · exact take ⟨by omega, rfl, fun z hz => by rw [show z = 0 by omega]; exact ⟨Nat.le_refl _, fun _ => Or.inl rfl⟩⟩
          · exact absurd (by decide) g2
        · have cb : c ≤ 216 := by
            have h9 : tb S r q (b - a) (wl S q) ≤ 9 * ((b - a) + wl S q) := dd_le (w := ww S) r (wt S q) (hk.2.2.2.2.2.1 0 (by omega)) (hk.2.2.2.2.2.1 1 (by omega)) (b - a) (wl S q)
            have := (hk.2.2.2.1 q (by omega)).2.1
            have h6' : tb S r q (b - a) (wl S q) = c := h6
            omega
          have db : tb S r w (b - a) (wl S w) ≤ 216 := by
            have h9 : tb S r w (b - a) (wl S w) ≤ 9 * ((b - a) + wl S w) := dd_le (w := ww S) r (wt S w) (hk.2.2.2.2.2.1 0 (by omega)) (hk.2.2.2.2.2.1 1 (by omega)) (b - a) (wl S w)
            have := (hk.2.2.2.1 w hw').2.1
            omega
          refine e_iload_n dX10_side_28 rfl rfl ?_
          refine n_if_lt 57 dX10_side_29 (by decide) (by omega) (fun g2 => ?_) (fun g2 => ?_)
          · exact absurd g2 (by omega)
          · refine e_iload dX10_side_32 rfl ?_
            refine e_iload_n dX10_side_34 rfl rfl ?_
            refine n_icmp_lt 57 dX10_side_35 (by decide) (by omega) (by omega) (fun g3 => ?_) (fun g3 => ?_)
            · refine take ⟨by omega, rfl, fun z hz => ?_⟩
              by_cases e : z = w
              · subst e; exact ⟨Nat.le_refl _, fun _ => Or.inl rfl⟩
              · have := (h7 z (by omega)).1
                dsimp only at this ⊢
                exact ⟨by omega, fun z9 => by omega⟩
            · refine e_iload dX10_side_38 rfl ?_
              refine e_iload_n dX10_side_40 rfl rfl ?_
              refine n_icmp_ne 66 dX10_side_41 (by decide) (by omega) (by omega) (fun g4 => ?_) (fun g4 => ?_)
              · refine leave c q ⟨by omega, h6, fun z hz => ?_⟩ (e22.trans h8)
                by_cases e : z = w
                · subst e
                  dsimp only
                  exact ⟨by omega, fun z9 => absurd z9 g4⟩
                · exact h7 z (by omega)
              · refine e_aload_n dX10_side_44 rfl rfl ?_
                refine e_iload dX10_side_45 rfl ?_
                refine e_aload_n dX10_side_47 rfl rfl ?_
                refine m_get 10 22 lf_X10_130 dX10_side_48 (ly_226 B _ _) rfl ?_
                refine e_top (w := nI q) (e22.trans h8) ?_
                refine m_callV (As := [_, _]) lc_X10_80 dX10_side_51 (ly_226 B _ _) rfl rfl (by simp [Value.category]) (Nat.le_of_ble_eq_true rfl) (Nat.le_of_ble_eq_true rfl) ⟨Nat.le_of_ble_eq_true rfl, Nat.le_of_ble_eq_true rfl⟩ ⟨Nat.le_of_ble_eq_true rfl, Nat.le_of_ble_eq_true rfl⟩ (r_isAhead m2 hk hm2 (a := w) (b := q) hw' (by omega)) (fun v9 m3 hp9 => ?_)
                obtain ⟨rfl, ⟨rfl, h9⟩ | ⟨rfl, h9⟩⟩ := hp9
                · refine e_if_eq 66 dX10_side_54 (by decide) (fun g5 => ?_) (fun g5 => ?_)
                  · exact absurd g5 (by decide)
                  · refine take ⟨by omega, rfl, fun z hz => ?_⟩
                    by_cases e : z = w
                    · subst e; exact ⟨Nat.le_refl _, fun _ => Or.inl rfl⟩
                    · have := h7 z (by omega)
                      dsimp only at this ⊢
                      refine ⟨by omega, fun z9 => Or.inr ?_⟩
                      rcases this.2 (by omega) with z8 | z8
                      · rw [z8]; exact h9
                      · exact ah_trans h9 z8
                · refine e_if_eq 66 dX10_side_54 (by decide) (fun g5 => ?_) (fun g5 => ?_)
                  · refine leave c q ⟨by omega, h6, fun z hz => ?_⟩ (e22.trans h8)
                    by_cases e : z = w
                    · subst e
                      dsimp only
                      refine ⟨by omega, fun _ => Or.inr ?_⟩
                      rcases ah_tri (wl S q) (wt S q) (wl S z) (wt S z) with e | e | e
                      · exact e
                      · have := hk.2.2.2.2.1 q z (by omega) hw' e; omega
                      · exact absurd e h9
                    · exact h7 z (by omega)
                  · exact absurd rfl g5
  exact loop (wn S) 0 m1 _ _ (by omega) (by omega) (Or.inl ⟨rfl, rfl⟩) hr1 f1
def rb (S : sp_S) (p co a q1 q2 : Nat) : Prop := 1 ≤ a ∧ a < p ∧ ∃ c1 c2, bst S (gL S a) c1 q1 ∧ bst S (gR S (tn S - a)) c2 q2 ∧ co = c1 + c2 + pp S 4 ∧ ∀ b d1 d2 z1 z2, 1 ≤ b → b < p → bst S (gL S b) d1 z1 → bst S (gR S (tn S - b)) d2 z2 → co ≤ d1 + d2 + pp S 4 ∧ (b < a → co < d1 + d2 + pp S 4)
def I_part (S : sp_S) (p : Nat) (x2 x3 x4 x5 : Option Value) : Prop := (p = 1 ∧ x2 = some (.int (-1))) ∨ ∃ co a q1 q2, rb S p co a q1 q2 ∧ x2 = some (.int (nI co)) ∧ x3 = some (.int (nI a)) ∧ x4 = some (.int (nI q1)) ∧ x5 = some (.int (nI q2))
def P_part (m : mm_M) (S : sp_S) (x : Int32) (v : Option Value) (m' : mm_M) : Prop := (∃ y, v = some (.int y) ∧ R_part S x y) ∧ ms m' S ∧ fw m m'
set_option maxRecDepth 100000 in
set_option maxHeartbeats 2000000 in
theorem r_parting (m : mm_M) {S : sp_S} (hk : ok S) (hm : ms m S) (x : Int32) : mm_F l D kA B sz o 3 75 mX10_parting [.ref (B + 226), .int x] m (P_part m S x) := by
  have t12 := hk.1
  have n60 := hk.2.2.1
  have p4 := hk.2.2.2.2.2.2.1
  refine mm_F.of ?_
  refine e_aload_n dX10_parting_0 rfl rfl ?_
  refine e_iconst (v := nI 0) dX10_parting_1 (by decide) ?_
  refine m_puti 10 0 lp_X10_62 dX10_parting_2 (ly_226 B _ _) (Nat.le_of_ble_eq_true rfl) (ly_226 B _ _) rfl ?_
  obtain ⟨m1, e1, hs, f1, -⟩ := ms_th (x := nI 0) hm
  rw [e1]
  refine e_iload_n dX10_parting_5 rfl rfl ?_
  refine e_iconst (v := nI 0) dX10_parting_6 (by decide) ?_
  refine e_iconst (v := nI 3) dX10_parting_7 (by decide) ?_
  refine m_callS (As := [_, _, _]) lc_X10_69 dX10_parting_8 rfl rfl (by simp [Value.category]) (Nat.le_of_ble_eq_true rfl) (Nat.le_of_ble_eq_true rfl) ⟨Nat.le_of_ble_eq_true rfl, Nat.le_of_ble_eq_true rfl⟩ ⟨Nat.le_of_ble_eq_true rfl, Nat.le_of_ble_eq_true rfl⟩ (r_in m1 x (nI 0) (nI 3)) (fun v9 m9 hp9 => ?_)
  obtain ⟨rfl, ⟨rfl, h1⟩ | ⟨rfl, h1⟩⟩ := hp9
  · obtain ⟨k, -, k2, rfl⟩ := inr_nat (lo := 0) (hi := 3) h1 (by omega) (by omega)
    refine e_if_ne 17 dX10_parting_11 (by decide) (fun g1 => ?_) (fun g1 => ?_)
    · refine e_aload_n dX10_parting_17 rfl rfl ?_
      refine m_get 10 3 lf_X10_66 dX10_parting_18 (ly_226 B _ _) rfl ?_
      refine e_top (w := nI (wn S)) (hs.xwn) ?_
      refine n_if_eq 32 dX10_parting_21 (by decide) (by omega) (fun g2 => ?_) (fun g2 => ?_)
      · refine e_bipush (v := -3) dX10_parting_32 (by decide) ?_
        exact m_iret dX10_parting_34 rfl (Nat.le_refl _) (Nat.le_refl _) (⟨⟨_, rfl, Or.inr ⟨k, by omega, rfl, Or.inl ⟨Or.inl g2, rfl⟩⟩⟩, hs, f1⟩)
      · refine e_aload_n dX10_parting_24 rfl rfl ?_
        refine m_get 10 1 lf_X10_73 dX10_parting_25 (ly_226 B _ _) rfl ?_
        refine e_top (w := nI (tn S)) (hs.xtn) ?_
        refine e_iconst (v := nI 2) dX10_parting_28 (by decide) ?_
        refine n_icmp_ge 35 dX10_parting_29 (by decide) (by omega) (by omega) (fun g3 => ?_) (fun g3 => ?_)
        · refine e_iconst (v := -1) dX10_parting_35 (by decide) ?_
          refine e_istore_n dX10_parting_36 rfl (by decide) rfl ?_
          refine e_iconst (v := nI 0) dX10_parting_37 (by decide) ?_
          refine e_istore_n dX10_parting_38 rfl (by decide) rfl ?_
          refine e_iconst (v := nI 0) dX10_parting_39 (by decide) ?_
          refine e_istore dX10_parting_40 (by decide) rfl ?_
          refine e_iconst (v := nI 0) dX10_parting_42 (by decide) ?_
          refine e_istore dX10_parting_43 (by decide) rfl ?_
          refine e_iconst (v := nI 1) dX10_parting_45 (by decide) ?_
          refine e_istore dX10_parting_46 (by decide) rfl ?_
          have loop : ∀ (d p : Nat) (m' : mm_M) (x2 x3 x4 x5 x7 x8 x9 : Option Value), tn S - p = d → 1 ≤ p → p ≤ tn S → I_part S p x2 x3 x4 x5 → mf m9 m' → mm_G l D kA B sz o 3 75 mX10_parting (P_part m S (nI k)) 48 [some (.ref (B + 226)), some (.int (nI k)), x2, x3, x4, x5, some (.int (nI p)), x7, x8, x9] [] m' := by
            intro d
            induction d with
            | zero =>
              intro p m' x2 x3 x4 x5 x7 x8 x9 hd h2 h3 h4 h5
              have hm' := h5.msS hs
              have e : p = tn S := by omega
              subst e
              rcases h4 with ⟨h4, -⟩ | ⟨co, a, q1, q2, h6, rfl, rfl, rfl, rfl⟩
              · omega
              · refine e_iload dX10_parting_48 rfl ?_
                refine e_aload_n dX10_parting_50 rfl rfl ?_
                refine m_get 10 1 lf_X10_73 dX10_parting_51 (ly_226 B _ _) rfl ?_
                refine e_top (w := nI (tn S)) (hm'.xtn) ?_
                refine n_icmp_ge 136 dX10_parting_54 (by decide) (by omega) (by omega) (fun g4 => ?_) (fun g4 => ?_)
                · refine e_iload_n dX10_parting_136 rfl rfl ?_
                  refine n_if_ne 144 dX10_parting_137 (by decide) (by omega) (fun g5 => ?_) (fun g5 => ?_)
                  · refine e_iload_n dX10_parting_144 rfl rfl ?_
                    refine e_iconst (v := nI 1) dX10_parting_145 (by decide) ?_
                    refine n_icmp_ne 153 dX10_parting_146 (by decide) (by omega) (by omega) (fun g6 => ?_) (fun g6 => ?_)
                    · refine e_iload_n dX10_parting_153 rfl rfl ?_
                      refine e_iconst (v := nI 2) dX10_parting_154 (by decide) ?_
                      refine n_icmp_ne 163 dX10_parting_155 (by decide) (by omega) (by omega) (fun g7 => ?_) (fun g7 => ?_)
                      · refine e_iload dX10_parting_163 rfl ?_
                        exact m_iret dX10_parting_165 rfl (Nat.le_refl _) (Nat.le_refl _) (⟨⟨_, rfl, Or.inr ⟨k, by omega, rfl, Or.inr ⟨by omega, g3, co, a, q1, q2, h6, by rw [if_neg g5, if_neg g6, if_neg g7]⟩⟩⟩, hm', f1.tr h5.fwS⟩)
                      · refine e_iload dX10_parting_158 rfl ?_
                        refine e_goto 165 dX10_parting_160 (by decide) ?_
                        exact m_iret dX10_parting_165 rfl (Nat.le_refl _) (Nat.le_refl _) (⟨⟨_, rfl, Or.inr ⟨k, by omega, rfl, Or.inr ⟨by omega, g3, co, a, q1, q2, h6, by rw [if_neg g5, if_neg g6, if_pos g7]⟩⟩⟩, hm', f1.tr h5.fwS⟩)
                    · refine e_iload_n dX10_parting_149 rfl rfl ?_
                      refine e_goto 165 dX10_parting_150 (by decide) ?_
                      exact m_iret dX10_parting_165 rfl (Nat.le_refl _) (Nat.le_refl _) (⟨⟨_, rfl, Or.inr ⟨k, by omega, rfl, Or.inr ⟨by omega, g3, co, a, q1, q2, h6, by rw [if_neg g5, if_pos g6]⟩⟩⟩, hm', f1.tr h5.fwS⟩)
                  · refine e_iload_n dX10_parting_140 rfl rfl ?_
                    refine e_goto 165 dX10_parting_141 (by decide) ?_
                    exact m_iret dX10_parting_165 rfl (Nat.le_refl _) (Nat.le_refl _) (⟨⟨_, rfl, Or.inr ⟨k, by omega, rfl, Or.inr ⟨by omega, g3, co, a, q1, q2, h6, by rw [if_pos g5]⟩⟩⟩, hm', f1.tr h5.fwS⟩)
                · exact absurd g4 (by omega)
            | succ d ih =>
              intro p m' x2 x3 x4 x5 x7 x8 x9 hd h2 h3 h4 h5
              have hm' := h5.msS hs
              have hw0 : 0 < wn S := by omega
              refine e_iload dX10_parting_48 rfl ?_
              refine e_aload_n dX10_parting_50 rfl rfl ?_
              refine m_get 10 1 lf_X10_73 dX10_parting_51 (ly_226 B _ _) rfl ?_
              refine e_top (w := nI (tn S)) (hm'.xtn) ?_
              refine n_icmp_ge 136 dX10_parting_54 (by decide) (by omega) (by omega) (fun g4 => ?_) (fun g4 => ?_)
              · exact absurd g4 (by omega)
              · refine e_aload_n dX10_parting_57 rfl rfl ?_
                refine e_iconst (v := nI 0) dX10_parting_58 (by decide) ?_
                refine e_iload dX10_parting_59 rfl ?_
                refine m_callV (As := [_, _]) lc_X10_133 dX10_parting_61 (ly_226 B _ _) rfl rfl (by simp [Value.category]) (Nat.le_of_ble_eq_true rfl) (Nat.le_of_ble_eq_true rfl) ⟨Nat.le_of_ble_eq_true rfl, Nat.le_of_ble_eq_true rfl⟩ ⟨Nat.le_of_ble_eq_true rfl, Nat.le_of_ble_eq_true rfl⟩ (r_side m' hk hm' (a := 0) (b := p) (r := tl S) (by omega) (by omega) (fun i hi => by rw [Nat.zero_add]) hw0) (fun v9 m2 hp9 => ?_)
                obtain ⟨⟨c1, q1, b1, rfl, a1⟩, f2⟩ := hp9
                have b1 : bst S (gL S p) c1 q1 := by rw [Nat.sub_zero] at b1; exact b1
                have cb1 : c1 ≤ 216 := by rw [← b1.2.1]; exact gL_le hk (by omega) b1.1
                have hm2 := f2.msS hm'
                refine e_istore dX10_parting_64 (by decide) rfl ?_
                refine e_aload_n dX10_parting_66 rfl rfl ?_
                refine m_get 10 22 lf_X10_130 dX10_parting_67 (ly_226 B _ _) rfl ?_
                refine e_top (w := nI q1) (a1) ?_
                refine e_istore dX10_parting_70 (by decide) rfl ?_
                refine e_aload_n dX10_parting_72 rfl rfl ?_
                refine e_iload dX10_parting_73 rfl ?_
                refine e_aload_n dX10_parting_75 rfl rfl ?_
                refine m_get 10 1 lf_X10_73 dX10_parting_76 (ly_226 B _ _) rfl ?_
                refine e_top (w := nI (tn S)) (hm2.xtn) ?_
                refine m_callV (As := [_, _]) lc_X10_133 dX10_parting_79 (ly_226 B _ _) rfl rfl (by simp [Value.category]) (Nat.le_of_ble_eq_true rfl) (Nat.le_of_ble_eq_true rfl) ⟨Nat.le_of_ble_eq_true rfl, Nat.le_of_ble_eq_true rfl⟩ ⟨Nat.le_of_ble_eq_true rfl, Nat.le_of_ble_eq_true rfl⟩ (r_side m2 hk hm2 (a := p) (b := tn S) (r := fun i => tl S (tn S - (tn S - p) + i)) (by omega) (by omega) (fun i hi => by rw [show tn S - (tn S - p) = p by omega]) hw0) (fun v9 m3 hp9 => ?_)
                obtain ⟨⟨c2, q2, b2, rfl, a2⟩, f3⟩ := hp9
                have b2 : bst S (gR S (tn S - p)) c2 q2 := b2
                have cb2 : c2 ≤ 216 := by rw [← b2.2.1]; exact gR_le hk (by omega) b2.1
                have hm3 := f3.msS hm2
                have f5 := (h5.tr f2).tr f3
                refine e_istore dX10_parting_82 (by decide) rfl ?_
                have take : rb S (p + 1) (c1 + c2 + pp S 4) p q1 q2 → mm_G l D kA B sz o 3 75 mX10_parting (P_part m S (nI k)) 104 [some (.ref (B + 226)), some (.int (nI k)), x2, x3, x4, x5, some (.int (nI p)), some (.int (nI c1)), some (.int (nI q1)), some (.int (nI c2))] [] m3 := by
                  intro hb2
                  refine e_iload dX10_parting_104 rfl ?_
                  refine e_iload dX10_parting_106 rfl ?_
                  refine e_iadd dX10_parting_108 ?_
                  refine e_top (w := nI (c1 + c2)) (nI_add _ _) ?_
                  refine e_aload_n dX10_parting_109 rfl rfl ?_
                  refine m_get 10 7 lf_X10_22 dX10_parting_110 (ly_226 B _ _) rfl ?_
                  refine e_iconst (v := nI 4) dX10_parting_113 (by decide) ?_
                  refine m_iald (4) dX10_parting_114 (ly_231 B _ _) (rfl) (by omega) (by decide) ?_
                  refine e_top (w := nI (pp S 4)) (hm3.xpp 4 (by omega)) ?_
                  refine e_iadd dX10_parting_115 ?_
                  refine e_top (w := nI ((c1 + c2) + (pp S 4))) (nI_add _ _) ?_
                  refine e_istore_n dX10_parting_116 rfl (by decide) rfl ?_
                  refine e_iload dX10_parting_117 rfl ?_
                  refine e_istore_n dX10_parting_119 rfl (by decide) rfl ?_
                  refine e_iload dX10_parting_120 rfl ?_
                  refine e_istore dX10_parting_122 (by decide) rfl ?_
                  refine e_aload_n dX10_parting_124 rfl rfl ?_
                  refine m_get 10 22 lf_X10_130 dX10_parting_125 (ly_226 B _ _) rfl ?_
                  refine e_top (w := nI q2) (a2) ?_
                  refine e_istore dX10_parting_128 (by decide) rfl ?_
                  refine e_iinc (v := nI (p + 1)) dX10_parting_130 rfl (nI_add _ _) (by decide) rfl ?_
                  refine e_goto 48 dX10_parting_133 (by decide) ?_
                  exact ih (p + 1) m3 _ _ _ _ _ _ _ (by omega) (by omega) (by omega) (Or.inr ⟨_, _, _, _, hb2, rfl, rfl, rfl, rfl⟩) f5
                rcases h4 with ⟨e, rfl⟩ | ⟨co, a, z1, z2, h6, rfl, rfl, rfl, rfl⟩
                · subst e
                  refine e_iload_n dX10_parting_84 rfl rfl ?_
                  refine e_if_lt 104 dX10_parting_85 (by decide) (fun g5 => ?_) (fun g5 => ?_)
                  · refine take ⟨by omega, by omega, c1, c2, b1, b2, rfl, fun b d1 d2 y1 y2 u1 u2 u3 u4 => ?_⟩
                    have e : b = 1 := by omega
                    subst e
                    have v1 := (bst_uniq u3 b1).1
                    have v2 := (bst_uniq u4 b2).1
                    exact ⟨by omega, fun z => by omega⟩
                  · exact absurd (by decide) g5
                · obtain ⟨r1, r2, e1, e2, r3, r4, r5, r6⟩ := h6
                  have ce1 : e1 ≤ 216 := by rw [← r3.2.1]; exact gL_le hk (by omega) r3.1
                  have ce2 : e2 ≤ 216 := by rw [← r4.2.1]; exact gR_le hk (by omega) r4.1
                  refine e_iload_n dX10_parting_84 rfl rfl ?_
                  refine n_if_lt 104 dX10_parting_85 (by decide) (by omega) (fun g5 => ?_) (fun g5 => ?_)
                  · exact absurd g5 (by omega)
                  · refine e_iload dX10_parting_88 rfl ?_
                    refine e_iload dX10_parting_90 rfl ?_
                    refine e_iadd dX10_parting_92 ?_
                    refine e_top (w := nI (c1 + c2)) (nI_add _ _) ?_
                    refine e_aload_n dX10_parting_93 rfl rfl ?_
                    refine m_get 10 7 lf_X10_22 dX10_parting_94 (ly_226 B _ _) rfl ?_
                    refine e_iconst (v := nI 4) dX10_parting_97 (by decide) ?_
                    refine m_iald (4) dX10_parting_98 (ly_231 B _ _) (rfl) (by omega) (by decide) ?_
                    refine e_top (w := nI (pp S 4)) (hm3.xpp 4 (by omega)) ?_
                    refine e_iadd dX10_parting_99 ?_
                    refine e_top (w := nI ((c1 + c2) + (pp S 4))) (nI_add _ _) ?_
                    refine e_iload_n dX10_parting_100 rfl rfl ?_
                    refine n_icmp_ge 130 dX10_parting_101 (by decide) (by omega) (by omega) (fun g6 => ?_) (fun g6 => ?_)
                    · refine e_iinc (v := nI (p + 1)) dX10_parting_130 rfl (nI_add _ _) (by decide) rfl ?_
                      refine e_goto 48 dX10_parting_133 (by decide) ?_
                      refine ih (p + 1) m3 _ _ _ _ _ _ _ (by omega) (by omega) (by omega) (Or.inr ⟨co, a, z1, z2, ⟨r1, by omega, e1, e2, r3, r4, r5, fun b d1 d2 y1 y2 u1 u2 u3 u4 => ?_⟩, rfl, rfl, rfl, rfl⟩) f5
                      by_cases e : b = p
                      · subst e
                        have v1 := (bst_uniq u3 b1).1
                        have v2 := (bst_uniq u4 b2).1
                        exact ⟨by omega, fun z => by omega⟩
                      · exact r6 b d1 d2 y1 y2 u1 (by omega) u3 u4
                    · refine take ⟨by omega, by omega, c1, c2, b1, b2, rfl, fun b d1 d2 y1 y2 u1 u2 u3 u4 => ?_⟩
                      by_cases e : b = p
                      · subst e
                        have v1 := (bst_uniq u3 b1).1
                        have v2 := (bst_uniq u4 b2).1
                        exact ⟨by omega, fun z => by omega⟩
                      · have := (r6 b d1 d2 y1 y2 u1 (by omega) u3 u4).1
                        exact ⟨by omega, fun z => by omega⟩
          exact loop (tn S - 1) 1 m9 _ _ _ _ _ _ _ (by omega) (by omega) (by omega) (Or.inl ⟨rfl, rfl⟩) (mf.rf _)
        · refine e_bipush (v := -3) dX10_parting_32 (by decide) ?_
          exact m_iret dX10_parting_34 rfl (Nat.le_refl _) (Nat.le_refl _) (⟨⟨_, rfl, Or.inr ⟨k, by omega, rfl, Or.inl ⟨Or.inr (by omega), rfl⟩⟩⟩, hs, f1⟩)
    · exact absurd g1 (by decide)
  · refine e_if_ne 17 dX10_parting_11 (by decide) (fun g1 => ?_) (fun g1 => ?_)
    · exact absurd rfl g1
    · refine e_bipush (v := -2) dX10_parting_14 (by decide) ?_
      exact m_iret dX10_parting_16 rfl (Nat.le_refl _) (Nat.le_refl _) (⟨⟨_, rfl, Or.inl ⟨fun q hq e => h1 (by subst e; exact ⟨nI_pos' (by omega), (nI_leI (b := 3) (by omega) (by omega)).mpr (by omega)⟩), rfl⟩⟩, hs, f1⟩)
end REL
