section RNK
variable {l : Launch} {D : va_G} {kA : FieldType → ClassId} {B sz : Nat} {o : Int64}
/-- only the table is another -/
def frT (m m' : mm_M) : Prop := ∀ a, a < 172 ∨ 190 ≤ a → m' a = m a
theorem frT.fr {m m' : mm_M} (h : frT m m') : fr m m' := fun a ha => h a (by omega)
def cst (S : sp_S) (b : Bool) (q : Nat) : Nat := if b then bg S q else ds S q
theorem cst_le {S : sp_S} (h : ok S) (b : Bool) {q : Nat} (hq : q < wn S) : cst S b q ≤ 216 := by
  cases b
  · exact ds_le h hq
  · exact bg_le h hq
set_option maxRecDepth 100000 in
/-- SuggestSpell.priceOfWord -/
theorem c_priceOfWord (m : mm_M) {S : sp_S} {q : Nat} (hc : cs m S) (hq : q < wn S) : mm_F l D kA B sz o 5 112 mX9_priceOfWord [.ref (B + 0), .int (nI q)] m (fun v m' => v = some (.int (nI (ds S q))) ∧ frT m m') := by
  have n60 := hc.1.2.2.1
  refine mm_F.of ?_
  refine e_aload_n dX9_priceOfWord_0 rfl rfl ?_
  refine m_get 9 4 lf_X9_42 dX9_priceOfWord_1 (ly_0 B _ _) rfl ?_
  refine e_aload_n dX9_priceOfWord_4 rfl rfl ?_
  refine m_get 9 0 lf_X9_10 dX9_priceOfWord_5 (ly_0 B _ _) rfl ?_
  refine e_aload_n dX9_priceOfWord_8 rfl rfl ?_
  refine m_get 9 2 lf_X9_26 dX9_priceOfWord_9 (ly_0 B _ _) rfl ?_
  refine m_get 8 0 lf_X9_98 dX9_priceOfWord_12 (ly_32 B _ _) rfl ?_
  refine e_iload_n dX9_priceOfWord_15 rfl rfl ?_
  refine m_aald (r := 37 + 2 * q) (q) dX9_priceOfWord_16 (by decide) rfl (ly_33 B _ _) (rfl) (by omega) (by decide) (if_pos (by omega)) ?_
  refine m_callV (As := [_, _]) lc_X9_119 dX9_priceOfWord_17 (ly_171 B _ _) rfl rfl (by simp [Value.category]) (Nat.le_of_ble_eq_true rfl) (Nat.le_of_ble_eq_true rfl) ⟨Nat.le_of_ble_eq_true rfl, Nat.le_of_ble_eq_true rfl⟩ ⟨Nat.le_of_ble_eq_true rfl, Nat.le_of_ble_eq_true rfl⟩ (c_measure m hc.2.2.1 (isRow_1 B) (isRow_w B (i := q) (by omega)) (by omega) (by omega) (by omega) (by omega) hc.2.1 (hc.2.2.2.2.1 q hq).1) (fun v9 m9 hp9 => ?_)
  obtain ⟨rfl, a1, a2, a3, a4⟩ := hp9
  exact m_iret dX9_priceOfWord_20 rfl (Nat.le_refl _) (Nat.le_refl _) (⟨rfl, a4⟩)
set_option maxRecDepth 100000 in
/-- SuggestSpell.findEdits -/
theorem c_findEdits (m : mm_M) {S : sp_S} {q : Nat} (hc : cs m S) (hq : q < wn S) : mm_F l D kA B sz o 5 112 mX9_findEdits [.ref (B + 0), .int (nI q)] m (fun v m' => v = none ∧ ed_at m' (ed (pp S) (ww S) (tl S) (wt S q) (tn S) (wl S q)) ∧ fr m m') := by
  have n60 := hc.1.2.2.1
  refine mm_F.of ?_
  refine e_aload_n dX9_findEdits_0 rfl rfl ?_
  refine m_get 9 4 lf_X9_42 dX9_findEdits_1 (ly_0 B _ _) rfl ?_
  refine e_aload_n dX9_findEdits_4 rfl rfl ?_
  refine m_get 9 0 lf_X9_10 dX9_findEdits_5 (ly_0 B _ _) rfl ?_
  refine e_aload_n dX9_findEdits_8 rfl rfl ?_
  refine m_get 9 2 lf_X9_26 dX9_findEdits_9 (ly_0 B _ _) rfl ?_
  refine m_get 8 0 lf_X9_98 dX9_findEdits_12 (ly_32 B _ _) rfl ?_
  refine e_iload_n dX9_findEdits_15 rfl rfl ?_
  refine m_aald (r := 37 + 2 * q) (q) dX9_findEdits_16 (by decide) rfl (ly_33 B _ _) (rfl) (by omega) (by decide) (if_pos (by omega)) ?_
  refine m_callV (As := [_, _]) lc_X9_119 dX9_findEdits_17 (ly_171 B _ _) rfl rfl (by simp [Value.category]) (Nat.le_of_ble_eq_true rfl) (Nat.le_of_ble_eq_true rfl) ⟨Nat.le_of_ble_eq_true rfl, Nat.le_of_ble_eq_true rfl⟩ ⟨Nat.le_of_ble_eq_true rfl, Nat.le_of_ble_eq_true rfl⟩ (c_measure m hc.2.2.1 (isRow_1 B) (isRow_w B (i := q) (by omega)) (by omega) (by omega) (by omega) (by omega) hc.2.1 (hc.2.2.2.2.1 q hq).1) (fun v9 m1 hp9 => ?_)
  obtain ⟨rfl, a1, a2, a3, a4⟩ := hp9
  refine e_pop dX9_findEdits_20 rfl ?_
  refine e_aload_n dX9_findEdits_21 rfl rfl ?_
  refine m_get 9 4 lf_X9_42 dX9_findEdits_22 (ly_0 B _ _) rfl ?_
  refine m_callV (As := []) lc_X9_192 dX9_findEdits_25 (ly_171 B _ _) rfl rfl (by simp [Value.category]) (Nat.le_of_ble_eq_true rfl) (Nat.le_of_ble_eq_true rfl) ⟨Nat.le_of_ble_eq_true rfl, Nat.le_of_ble_eq_true rfl⟩ ⟨Nat.le_of_ble_eq_true rfl, Nat.le_of_ble_eq_true rfl⟩ (c_trace m1 (hc.2.2.1.of (fun a h1 h2 => a4 a (by omega))) a1 a2 a3) (fun v9 m2 hp9 => ?_)
  obtain ⟨rfl, b1, b2⟩ := hp9
  exact m_vret dX9_findEdits_28 rfl (Nat.le_refl _) (Nat.le_refl _) (⟨rfl, b1, fun a ha => by rw [b2 a (by omega) (by omega) (by omega)]; exact a4 a (by omega)⟩)
/-- one in the ranking stands behind a new one -/
def bh (c n : Nat → Nat) (e x : Nat) : Prop := c x < c e ∨ (c e = c x ∧ n e < n x)
set_option maxRecDepth 100000 in
/-- Ranking.isBehind -/
theorem c_isBehind (m : mm_M) {i e x : Nat} {c n : Nat → Nat} (hi : i < 60) (h1 : m 194 i = nI (c e)) (h2 : m 195 i = nI (n e)) (b1 : c e ≤ 1000000) (b2 : n e ≤ 1000000) (b3 : c x ≤ 1000000) (b4 : n x ≤ 1000000) : mm_F l D kA B sz o 0 0 mX4_isBehind [.ref (B + 192), .int (nI i), .int (nI (c x)), .int (nI (n x))] m (fun v m' => m' = m ∧ ((v = some (.int (nI 1)) ∧ bh c n e x) ∨ (v = some (.int (nI 0)) ∧ ¬ bh c n e x))) := by
  refine mm_F.of ?_
  refine e_aload_n dX4_isBehind_0 rfl rfl ?_
  refine m_get 4 1 lf_X4_15 dX4_isBehind_1 (ly_192 B _ _) rfl ?_
  refine e_iload_n dX4_isBehind_4 rfl rfl ?_
  refine m_iald (i) dX4_isBehind_5 (ly_194 B _ _) (rfl) (by omega) (by decide) ?_
  refine e_top (w := nI (c e)) (h1) ?_
  refine e_iload_n dX4_isBehind_6 rfl rfl ?_
  refine n_icmp_gt 30 dX4_isBehind_7 (by decide) (by omega) (by omega) (fun g1 => ?_) (fun g1 => ?_)
  · refine e_iconst (v := nI 1) dX4_isBehind_30 (by decide) ?_
    refine e_goto 35 dX4_isBehind_31 (by decide) ?_
    exact m_zret dX4_isBehind_35 rfl (by first | rfl | decide | assumption) (Nat.le_refl _) (Nat.le_refl _) (⟨rfl, Or.inl ⟨rfl, Or.inl g1⟩⟩)
  · refine e_aload_n dX4_isBehind_10 rfl rfl ?_
    refine m_get 4 1 lf_X4_15 dX4_isBehind_11 (ly_192 B _ _) rfl ?_
    refine e_iload_n dX4_isBehind_14 rfl rfl ?_
    refine m_iald (i) dX4_isBehind_15 (ly_194 B _ _) (rfl) (by omega) (by decide) ?_
    refine e_top (w := nI (c e)) (h1) ?_
    refine e_iload_n dX4_isBehind_16 rfl rfl ?_
    refine n_icmp_ne 34 dX4_isBehind_17 (by decide) (by omega) (by omega) (fun g2 => ?_) (fun g2 => ?_)
    · refine e_iconst (v := nI 0) dX4_isBehind_34 (by decide) ?_
      exact m_zret dX4_isBehind_35 rfl (by first | rfl | decide | assumption) (Nat.le_refl _) (Nat.le_refl _) (⟨rfl, Or.inr ⟨rfl, fun q => by unfold bh at q; omega⟩⟩)
    · refine e_aload_n dX4_isBehind_20 rfl rfl ?_
      refine m_get 4 2 lf_X4_18 dX4_isBehind_21 (ly_192 B _ _) rfl ?_
      refine e_iload_n dX4_isBehind_24 rfl rfl ?_
      refine m_iald (i) dX4_isBehind_25 (ly_195 B _ _) (rfl) (by omega) (by decide) ?_
      refine e_top (w := nI (n e)) (h2) ?_
      refine e_iload_n dX4_isBehind_26 rfl rfl ?_
      refine n_icmp_ge 34 dX4_isBehind_27 (by decide) (by omega) (by omega) (fun g3 => ?_) (fun g3 => ?_)
      · refine e_iconst (v := nI 0) dX4_isBehind_34 (by decide) ?_
        exact m_zret dX4_isBehind_35 rfl (by first | rfl | decide | assumption) (Nat.le_refl _) (Nat.le_refl _) (⟨rfl, Or.inr ⟨rfl, fun q => by unfold bh at q; omega⟩⟩)
      · refine e_iconst (v := nI 1) dX4_isBehind_30 (by decide) ?_
        refine e_goto 35 dX4_isBehind_31 (by decide) ?_
        exact m_zret dX4_isBehind_35 rfl (by first | rfl | decide | assumption) (Nat.le_refl _) (Nat.le_refl _) (⟨rfl, Or.inl ⟨rfl, Or.inr ⟨g2, by omega⟩⟩⟩)
/-- what the ranking holds -/
def rk_at (m : mm_M) (c n : Nat → Nat) (z : Nat) (g : Nat → Nat) : Prop := m 192 3 = nI z ∧ ∀ q, q < z → m 193 q = nI (g q) ∧ m 194 q = nI (c (g q)) ∧ m 195 q = nI (n (g q))
def P_rk (m : mm_M) (c n : Nat → Nat) (z : Nat) (g : Nat → Nat) (x : Nat) (v : Option Value) (m' : mm_M) : Prop := v = none ∧ (∃ i, i ≤ z ∧ (0 < i → ¬ bh c n (g (i - 1)) x) ∧ (∀ q, i ≤ q → q < z → bh c n (g q) x) ∧ rk_at m' c n (z + 1) (ins g i x)) ∧ ∀ a, a < 192 ∨ 196 ≤ a → m' a = m a
set_option maxRecDepth 100000 in
set_option maxHeartbeats 2000000 in
/-- Ranking.add -/
theorem c_Rank_add (m : mm_M) {c n g : Nat → Nat} {z x : Nat} (hk : rk_at m c n z g) (hz : z < 60) (hb : ∀ q, q < z → c (g q) ≤ 1000000 ∧ n (g q) ≤ 1000000) (b3 : c x ≤ 1000000) (b4 : n x ≤ 1000000) : mm_F l D kA B sz o 1 23 mX4_add [.ref (B + 192), .int (nI x), .int (nI (c x)), .int (nI (n x))] m (P_rk m c n z g x) := by
  refine mm_F.of ?_
  refine e_aload_n dX4_add_0 rfl rfl ?_
  refine m_get 4 3 lf_X4_21 dX4_add_1 (ly_192 B _ _) rfl ?_
  refine e_top (w := nI z) (hk.1) ?_
  refine e_bipush (v := nI 60) dX4_add_4 (by decide) ?_
  refine n_icmp_lt 10 dX4_add_6 (by decide) (by omega) (by omega) (fun hc => ?_) (fun hc => ?_)
  · refine e_aload_n dX4_add_10 rfl rfl ?_
    refine m_get 4 3 lf_X4_21 dX4_add_11 (ly_192 B _ _) rfl ?_
    refine e_top (w := nI z) (hk.1) ?_
    refine e_istore dX4_add_14 (by decide) rfl ?_
    have fin : ∀ (i : Nat) (m2 : mm_M), i ≤ z → (∀ q, q < i → m2 193 q = m 193 q ∧ m2 194 q = m 194 q ∧ m2 195 q = m 195 q) → (∀ q, i < q → q ≤ z → m2 193 q = m 193 (q - 1) ∧ m2 194 q = m 194 (q - 1) ∧ m2 195 q = m 195 (q - 1)) → (∀ q, i ≤ q → q < z → bh c n (g q) x) → (0 < i → ¬ bh c n (g (i - 1)) x) → (∀ a, a < 193 ∨ 196 ≤ a → m2 a = m a) → mm_G l D kA B sz o 1 23 mX4_add (P_rk m c n z g x) 88 [some (.ref (B + 192)), some (.int (nI x)), some (.int (nI (c x))), some (.int (nI (n x))), some (.int (nI i))] [] m2 := by
      intro i m2 c1 c2 c3 c4 c5 c6
      refine e_aload_n dX4_add_88 rfl rfl ?_
      refine m_get 4 0 lf_X4_9 dX4_add_89 (ly_192 B _ _) rfl ?_
      refine e_iload dX4_add_92 rfl ?_
      refine e_iload_n dX4_add_94 rfl rfl ?_
      refine m_iast (i) dX4_add_95 (fun m => ly_193 B m _) (rfl) (by omega) (by decide) ?_
      refine e_aload_n dX4_add_96 rfl rfl ?_
      refine m_get 4 1 lf_X4_15 dX4_add_97 (ly_192 B _ _) rfl ?_
      refine e_iload dX4_add_100 rfl ?_
      refine e_iload_n dX4_add_102 rfl rfl ?_
      refine m_iast (i) dX4_add_103 (fun m => ly_194 B m _) (rfl) (by omega) (by decide) ?_
      refine e_aload_n dX4_add_104 rfl rfl ?_
      refine m_get 4 2 lf_X4_18 dX4_add_105 (ly_192 B _ _) rfl ?_
      refine e_iload dX4_add_108 rfl ?_
      refine e_iload_n dX4_add_110 rfl rfl ?_
      refine m_iast (i) dX4_add_111 (fun m => ly_195 B m _) (rfl) (by omega) (by decide) ?_
      refine e_aload_n dX4_add_112 rfl rfl ?_
      refine e_dup dX4_add_113 rfl ?_
      refine m_get 4 3 lf_X4_21 dX4_add_114 (ly_192 B _ _) rfl ?_
      refine e_top (w := nI z) (by rw [wr_off _ _ (show (192 : Nat) ≠ 195 by omega), wr_off _ _ (show (192 : Nat) ≠ 194 by omega), wr_off _ _ (show (192 : Nat) ≠ 193 by omega), c6 192 (by omega)]; exact hk.1) ?_
      refine e_iconst (v := nI 1) dX4_add_117 (by decide) ?_
      refine e_iadd dX4_add_118 ?_
      refine e_top (w := nI (z + 1)) (nI_add _ _) ?_
      refine m_puti 4 3 lp_X4_21 dX4_add_119 (ly_192 B _ _) (Nat.le_of_ble_eq_true rfl) (ly_192 B _ _) rfl ?_
      refine m_vret dX4_add_122 rfl (Nat.le_refl _) (Nat.le_refl _) ?_
      refine ⟨rfl, ⟨i, c1, c5, c4, wr_same _ _ _ _, fun q hq => ?_⟩, fun a ha => ?_⟩
      · have e3 : ∀ q, wr (wr (wr (wr m2 193 i (nI x)) 194 i (nI (c x))) 195 i (nI (n x))) 192 3 (nI (z + 1)) 193 q = wr m2 193 i (nI x) 193 q := fun q => by rw [wr_off _ _ (show (193 : Nat) ≠ 192 by omega), wr_off _ _ (show (193 : Nat) ≠ 195 by omega), wr_off _ _ (show (193 : Nat) ≠ 194 by omega)]
        have e4 : ∀ q, wr (wr (wr (wr m2 193 i (nI x)) 194 i (nI (c x))) 195 i (nI (n x))) 192 3 (nI (z + 1)) 194 q = wr (wr m2 193 i (nI x)) 194 i (nI (c x)) 194 q := fun q => by rw [wr_off _ _ (show (194 : Nat) ≠ 192 by omega), wr_off _ _ (show (194 : Nat) ≠ 195 by omega)]
        have e5 : ∀ q, wr (wr (wr (wr m2 193 i (nI x)) 194 i (nI (c x))) 195 i (nI (n x))) 192 3 (nI (z + 1)) 195 q = wr (wr (wr m2 193 i (nI x)) 194 i (nI (c x))) 195 i (nI (n x)) 195 q := fun q => by rw [wr_off _ _ (show (195 : Nat) ≠ 192 by omega)]
        rw [e3, e4, e5]
        by_cases d1 : q = i
        · subst d1
          have hi : ins g q x q = x := by unfold ins; rw [if_neg (by omega), if_pos rfl]
          rw [hi]
          exact ⟨wr_same _ _ _ _, wr_same _ _ _ _, wr_same _ _ _ _⟩
        · simp only [wr, d1, and_false, if_false]
          by_cases d2 : q < i
          · have hi : ins g i x q = g q := by unfold ins; rw [if_pos d2]
            rw [hi, (c2 q d2).1, (c2 q d2).2.1, (c2 q d2).2.2]
            exact hk.2 q (by omega)
          · have hi : ins g i x q = g (q - 1) := by unfold ins; rw [if_neg d2, if_neg d1]
            have := c3 q (by omega) (by omega)
            rw [hi, this.1, this.2.1, this.2.2]
            exact hk.2 (q - 1) (by omega)
      · rw [wr_off _ _ (by omega), wr_off _ _ (by omega), wr_off _ _ (by omega), wr_off _ _ (by omega)]; exact c6 a (by omega)
    have loop : ∀ (i : Nat) (m2 : mm_M), i ≤ z → (∀ q, q < i → m2 193 q = m 193 q ∧ m2 194 q = m 194 q ∧ m2 195 q = m 195 q) → (∀ q, i < q → q ≤ z → m2 193 q = m 193 (q - 1) ∧ m2 194 q = m 194 (q - 1) ∧ m2 195 q = m 195 (q - 1)) → (∀ q, i ≤ q → q < z → bh c n (g q) x) → (∀ a, a < 193 ∨ 196 ≤ a → m2 a = m a) → mm_G l D kA B sz o 1 23 mX4_add (P_rk m c n z g x) 16 [some (.ref (B + 192)), some (.int (nI x)), some (.int (nI (c x))), some (.int (nI (n x))), some (.int (nI i))] [] m2 := by
      intro i
      induction i with
      | zero =>
        intro m2 c1 c2 c3 c4 c6
        refine e_iload dX4_add_16 rfl ?_
        refine n_if_le 88 dX4_add_18 (by decide) (by omega) (fun h9 => ?_) (fun h9 => ?_)
        · exact fin 0 m2 c1 c2 c3 c4 (fun h => by omega) c6
        · exact absurd (Nat.le_refl 0) h9
      | succ i ih =>
        intro m2 c1 c2 c3 c4 c6
        obtain ⟨g1, g2, g3⟩ := hk.2 i (by omega)
        obtain ⟨g4, g5, g6⟩ := c2 i (by omega)
        obtain ⟨g7, g8⟩ := hb i (by omega)
        refine e_iload dX4_add_16 rfl ?_
        refine n_if_le 88 dX4_add_18 (by decide) (by omega) (fun h9 => ?_) (fun h9 => ?_)
        · exact absurd h9 (by omega)
        · refine e_aload_n dX4_add_21 rfl rfl ?_
          refine e_iload dX4_add_22 rfl ?_
          refine e_iconst (v := nI 1) dX4_add_24 (by decide) ?_
          refine e_isub dX4_add_25 ?_
          refine e_top (w := nI ((i + 1) - 1)) (pk_sub (by omega)) ?_
          refine e_iload_n dX4_add_26 rfl rfl ?_
          refine e_iload_n dX4_add_27 rfl rfl ?_
          refine m_callV (As := [_, _, _]) lc_X4_25 dX4_add_28 (ly_192 B _ _) rfl rfl (by simp [Value.category]) (Nat.le_of_ble_eq_true rfl) (Nat.le_of_ble_eq_true rfl) ⟨Nat.le_of_ble_eq_true rfl, Nat.le_of_ble_eq_true rfl⟩ ⟨Nat.le_of_ble_eq_true rfl, Nat.le_of_ble_eq_true rfl⟩ (c_isBehind m2 (i := i + 1 - 1) (e := g i) (x := x) (c := c) (n := n) (by omega) (by rw [Nat.add_sub_cancel, g5]; exact g2) (by rw [Nat.add_sub_cancel, g6]; exact g3) g7 g8 b3 b4) (fun v9 m9 hp9 => ?_)
          obtain ⟨rfl, ⟨rfl, q9⟩ | ⟨rfl, q9⟩⟩ := hp9
          · refine e_if_eq 88 dX4_add_31 (by decide) (fun h8 => ?_) (fun h8 => ?_)
            · exact absurd h8 (by decide)
            · refine e_aload_n dX4_add_34 rfl rfl ?_
              refine m_get 4 0 lf_X4_9 dX4_add_35 (ly_192 B _ _) rfl ?_
              refine e_iload dX4_add_38 rfl ?_
              refine e_aload_n dX4_add_40 rfl rfl ?_
              refine m_get 4 0 lf_X4_9 dX4_add_41 (ly_192 B _ _) rfl ?_
              refine e_iload dX4_add_44 rfl ?_
              refine e_iconst (v := nI 1) dX4_add_46 (by decide) ?_
              refine e_isub dX4_add_47 ?_
              refine e_top (w := nI ((i + 1) - 1)) (pk_sub (by omega)) ?_
              refine m_iald ((i + 1) - 1) dX4_add_48 (ly_193 B _ _) (rfl) (by omega) (by decide) ?_
              refine m_iast (i + 1) dX4_add_49 (fun m => ly_193 B m _) (rfl) (by omega) (by decide) ?_
              refine e_aload_n dX4_add_50 rfl rfl ?_
              refine m_get 4 1 lf_X4_15 dX4_add_51 (ly_192 B _ _) rfl ?_
              refine e_iload dX4_add_54 rfl ?_
              refine e_aload_n dX4_add_56 rfl rfl ?_
              refine m_get 4 1 lf_X4_15 dX4_add_57 (ly_192 B _ _) rfl ?_
              refine e_iload dX4_add_60 rfl ?_
              refine e_iconst (v := nI 1) dX4_add_62 (by decide) ?_
              refine e_isub dX4_add_63 ?_
              refine e_top (w := nI ((i + 1) - 1)) (pk_sub (by omega)) ?_
              refine m_iald ((i + 1) - 1) dX4_add_64 (ly_194 B _ _) (rfl) (by omega) (by decide) ?_
              refine m_iast (i + 1) dX4_add_65 (fun m => ly_194 B m _) (rfl) (by omega) (by decide) ?_
              refine e_aload_n dX4_add_66 rfl rfl ?_
              refine m_get 4 2 lf_X4_18 dX4_add_67 (ly_192 B _ _) rfl ?_
              refine e_iload dX4_add_70 rfl ?_
              refine e_aload_n dX4_add_72 rfl rfl ?_
              refine m_get 4 2 lf_X4_18 dX4_add_73 (ly_192 B _ _) rfl ?_
              refine e_iload dX4_add_76 rfl ?_
              refine e_iconst (v := nI 1) dX4_add_78 (by decide) ?_
              refine e_isub dX4_add_79 ?_
              refine e_top (w := nI ((i + 1) - 1)) (pk_sub (by omega)) ?_
              refine m_iald ((i + 1) - 1) dX4_add_80 (ly_195 B _ _) (rfl) (by omega) (by decide) ?_
              refine m_iast (i + 1) dX4_add_81 (fun m => ly_195 B m _) (rfl) (by omega) (by decide) ?_
              refine e_iinc (v := nI (i + 1 - 1)) dX4_add_82 rfl (dec_nI (by decide) (by omega)) (by decide) rfl ?_
              refine e_goto 16 dX4_add_85 (by decide) ?_
              refine ih _ (by omega) (fun q hq => ?_) (fun q q1 q2 => ?_) (fun q q1 q2 => ?_) (fun a ha => by rw [wr_off _ _ (by omega), wr_off _ _ (by omega), wr_off _ _ (by omega)]; exact c6 a ha)
              · simp only [wr, show ¬ q = i + 1 by omega, and_false, if_false]
                exact c2 q (by omega)
              · by_cases e : q = i + 1
                · subst e
                  simp [wr]
                  exact ⟨g4, g5, g6⟩
                · simp only [wr, e, and_false, if_false]
                  exact c3 q (by omega) q2
              · by_cases e : q = i
                · rw [e]; exact q9
                · exact c4 q (by omega) q2
          · refine e_if_eq 88 dX4_add_31 (by decide) (fun h8 => ?_) (fun h8 => ?_)
            · exact fin (i + 1) m9 c1 c2 c3 c4 (fun _ => by rw [Nat.add_sub_cancel]; exact q9) c6
            · exact absurd rfl h8
    exact loop z m (Nat.le_refl _) (fun q _ => ⟨rfl, rfl, rfl⟩) (fun q h1 h2 => by omega) (fun q h1 h2 => by omega) (fun a _ => rfl)
  · exact absurd hz hc
end RNK
