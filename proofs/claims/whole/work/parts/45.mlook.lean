section REK
variable {l : Launch} {D : va_G} {kA : FieldType → ClassId} {B sz : Nat} {o : Int64}
set_option maxRecDepth 100000 in
theorem r_isBefore (m : mm_M) {S : sp_S} (hk : ok S) (hm : ms m S) {a b : Nat} {c : Nat → Nat} (ha : a < wn S) (hb : b < wn S) (ca : c a ≤ 1000) (cb : c b ≤ 1000) : mm_F l D kA B sz o 1 23 mX10_isBefore [.ref (B + 226), .int (nI a), .int (nI (c a)), .int (nI b), .int (nI (c b))] m (fun v m' => m' = m ∧ ((v = some (.int (nI 1)) ∧ bf S c a b) ∨ (v = some (.int (nI 0)) ∧ ¬ bf S c a b))) := by
  have n60 := hk.2.2.1
  have w1 := (hk.2.2.2.1 a ha).2.2.2
  have w2 := (hk.2.2.2.1 b hb).2.2.2
  refine mm_F.of ?_
  refine e_iload_n dX10_isBefore_0 rfl rfl ?_
  refine e_iload dX10_isBefore_1 rfl ?_
  refine n_icmp_eq 18 dX10_isBefore_3 (by decide) (by omega) (by omega) (fun g1 => ?_) (fun g1 => ?_)
  · refine e_aload_n dX10_isBefore_18 rfl rfl ?_
    refine m_get 10 6 lf_X10_19 dX10_isBefore_19 (ly_226 B _ _) rfl ?_
    refine e_iload_n dX10_isBefore_22 rfl rfl ?_
    refine m_iald (a) dX10_isBefore_23 (ly_230 B _ _) (rfl) (by omega) (by decide) ?_
    refine e_top (w := nI (wc S a)) (hm.xwc a ha) ?_
    refine e_aload_n dX10_isBefore_24 rfl rfl ?_
    refine m_get 10 6 lf_X10_19 dX10_isBefore_25 (ly_226 B _ _) rfl ?_
    refine e_iload_n dX10_isBefore_28 rfl rfl ?_
    refine m_iald (b) dX10_isBefore_29 (ly_230 B _ _) (rfl) (by omega) (by decide) ?_
    refine e_top (w := nI (wc S b)) (hm.xwc b hb) ?_
    refine n_icmp_eq 56 dX10_isBefore_30 (by decide) (by omega) (by omega) (fun g2 => ?_) (fun g2 => ?_)
    · refine e_aload_n dX10_isBefore_56 rfl rfl ?_
      refine e_iload_n dX10_isBefore_57 rfl rfl ?_
      refine e_iload_n dX10_isBefore_58 rfl rfl ?_
      refine m_callV (As := [_, _]) lc_X10_80 dX10_isBefore_59 (ly_226 B _ _) rfl rfl (by simp [Value.category]) (Nat.le_of_ble_eq_true rfl) (Nat.le_of_ble_eq_true rfl) ⟨Nat.le_of_ble_eq_true rfl, Nat.le_of_ble_eq_true rfl⟩ ⟨Nat.le_of_ble_eq_true rfl, Nat.le_of_ble_eq_true rfl⟩ (r_isAhead m hk hm ha hb) (fun v9 m9 hp9 => ?_)
      obtain ⟨rfl, ⟨rfl, h1⟩ | ⟨rfl, h1⟩⟩ := hp9
      · exact m_zret dX10_isBefore_62 rfl (by first | rfl | decide | assumption) (Nat.le_refl _) (Nat.le_refl _) (⟨rfl, Or.inl ⟨rfl, Or.inr ⟨g1, Or.inr ⟨g2, h1⟩⟩⟩⟩)
      · exact m_zret dX10_isBefore_62 rfl (by first | rfl | decide | assumption) (Nat.le_refl _) (Nat.le_refl _) (⟨rfl, Or.inr ⟨rfl, fun z => by unfold bf at z; rcases z with z | ⟨z1, z2 | ⟨z2, z3⟩⟩; omega; omega; exact h1 z3⟩⟩)
    · refine e_aload_n dX10_isBefore_33 rfl rfl ?_
      refine m_get 10 6 lf_X10_19 dX10_isBefore_34 (ly_226 B _ _) rfl ?_
      refine e_iload_n dX10_isBefore_37 rfl rfl ?_
      refine m_iald (a) dX10_isBefore_38 (ly_230 B _ _) (rfl) (by omega) (by decide) ?_
      refine e_top (w := nI (wc S a)) (hm.xwc a ha) ?_
      refine e_aload_n dX10_isBefore_39 rfl rfl ?_
      refine m_get 10 6 lf_X10_19 dX10_isBefore_40 (ly_226 B _ _) rfl ?_
      refine e_iload_n dX10_isBefore_43 rfl rfl ?_
      refine m_iald (b) dX10_isBefore_44 (ly_230 B _ _) (rfl) (by omega) (by decide) ?_
      refine e_top (w := nI (wc S b)) (hm.xwc b hb) ?_
      refine n_icmp_le 52 dX10_isBefore_45 (by decide) (by omega) (by omega) (fun g3 => ?_) (fun g3 => ?_)
      · refine e_iconst (v := nI 0) dX10_isBefore_52 (by decide) ?_
        refine e_goto 62 dX10_isBefore_53 (by decide) ?_
        exact m_zret dX10_isBefore_62 rfl (by first | rfl | decide | assumption) (Nat.le_refl _) (Nat.le_refl _) (⟨rfl, Or.inr ⟨rfl, fun z => by unfold bf at z; rcases z with z | ⟨z1, z2 | ⟨z2, z3⟩⟩ <;> omega⟩⟩)
      · refine e_iconst (v := nI 1) dX10_isBefore_48 (by decide) ?_
        refine e_goto 62 dX10_isBefore_49 (by decide) ?_
        exact m_zret dX10_isBefore_62 rfl (by first | rfl | decide | assumption) (Nat.le_refl _) (Nat.le_refl _) (⟨rfl, Or.inl ⟨rfl, Or.inr ⟨g1, Or.inl (by omega)⟩⟩⟩)
  · refine e_iload_n dX10_isBefore_6 rfl rfl ?_
    refine e_iload dX10_isBefore_7 rfl ?_
    refine n_icmp_ge 16 dX10_isBefore_9 (by decide) (by omega) (by omega) (fun g2 => ?_) (fun g2 => ?_)
    · refine e_iconst (v := nI 0) dX10_isBefore_16 (by decide) ?_
      exact m_zret dX10_isBefore_17 rfl (by first | rfl | decide | assumption) (Nat.le_refl _) (Nat.le_refl _) (⟨rfl, Or.inr ⟨rfl, fun z => by unfold bf at z; rcases z with z | ⟨z1, z2⟩; omega; exact g1 z1⟩⟩)
    · refine e_iconst (v := nI 1) dX10_isBefore_12 (by decide) ?_
      refine e_goto 17 dX10_isBefore_13 (by decide) ?_
      exact m_zret dX10_isBefore_17 rfl (by first | rfl | decide | assumption) (Nat.le_refl _) (Nat.le_refl _) (⟨rfl, Or.inl ⟨rfl, Or.inl (by omega)⟩⟩)
def rkm (m : mm_M) (c : Nat → Nat) (n : Nat) (g : Nat → Nat) : Prop := m 226 19 = nI n ∧ ∀ q, q < n → m 240 q = nI (g q) ∧ m 241 q = nI (c (g q))
def P_look (m : mm_M) (S : sp_S) (b : Bool) (lim : Nat) (v : Option Value) (m' : mm_M) : Prop := v = none ∧ (∃ n g, n ≤ 60 ∧ sug S (cst S b) lim n g ∧ m' 226 19 = nI n ∧ ∀ q, q < n → m' 240 q = nI (g q)) ∧ mf m m'
theorem mr.of2 {m m' : mm_M} {n : Nat} {r : Nat → Nat} (h : mr m n r) (h1 : m' 226 15 = m 226 15) (h2 : m' 237 = m 237) : mr m' n r := by
  unfold mr
  rw [h1, h2]
  exact h
set_option maxRecDepth 100000 in
set_option maxHeartbeats 4000000 in
theorem r_look (m : mm_M) {S : sp_S} {lim : Nat} (b : Bool) (hk : ok S) (hm : ms m S) (hl : lim ≤ 50) : mm_F l D kA B sz o 3 74 mX10_look [.ref (B + 226), .int (nI lim), .int (if b then nI 1 else nI 0)] m (P_look m S b lim) := by
  have t12 := hk.1
  have n60 := hk.2.2.1
  refine mm_F.of ?_
  refine e_aload_n dX10_look_0 rfl rfl ?_
  refine e_iconst (v := nI 0) dX10_look_1 (by decide) ?_
  refine e_aload_n dX10_look_2 rfl rfl ?_
  refine m_get 10 1 lf_X10_73 dX10_look_3 (ly_226 B _ _) rfl ?_
  refine e_top (w := nI (tn S)) (hm.xtn) ?_
  refine m_callV (As := [_, _]) lc_X10_102 dX10_look_6 (ly_226 B _ _) rfl rfl (by simp [Value.category]) (Nat.le_of_ble_eq_true rfl) (Nat.le_of_ble_eq_true rfl) ⟨Nat.le_of_ble_eq_true rfl, Nat.le_of_ble_eq_true rfl⟩ ⟨Nat.le_of_ble_eq_true rfl, Nat.le_of_ble_eq_true rfl⟩ (r_takeTyped m hk hm (a := 0) (b := tn S) (r := tl S) (by omega) (by omega) (fun i hi => by rw [Nat.zero_add])) (fun v9 m1 hp9 => ?_)
  obtain ⟨rfl, hr1, f1⟩ := hp9
  rw [Nat.sub_zero] at hr1
  refine e_aload_n dX10_look_9 rfl rfl ?_
  refine e_iconst (v := nI 0) dX10_look_10 (by decide) ?_
  refine m_puti 10 19 lp_X10_119 dX10_look_11 (ly_226 B _ _) (Nat.le_of_ble_eq_true rfl) (ly_226 B _ _) rfl ?_
  refine e_iconst (v := nI 0) dX10_look_14 (by decide) ?_
  refine e_istore_n dX10_look_15 rfl (by decide) rfl ?_
  have loop : ∀ (d w : Nat) (m' : mm_M) (x4 x5 : Option Value) (n : Nat) (g : Nat → Nat), wn S - w = d → w ≤ wn S → n ≤ w → rkm m' (cst S b) n g → so (bf S (cst S b)) n g → (∀ x, (∃ q, q < n ∧ g q = x) ↔ x < w ∧ cst S b x ≤ lim) → mr m' (tn S) (tl S) → mf m m' → mm_G l D kA B sz o 3 74 mX10_look (P_look m S b lim) 16 [some (.ref (B + 226)), some (.int (nI lim)), some (.int (if b then nI 1 else nI 0)), some (.int (nI w)), x4, x5] [] m' := by
    intro d
    induction d with
    | zero =>
      intro w m' x4 x5 n g h1 h2 h3 h4 h5 h6 h7 h8
      have hm' := h8.msS hm
      refine e_iload_n dX10_look_16 rfl rfl ?_
      refine e_aload_n dX10_look_17 rfl rfl ?_
      refine m_get 10 3 lf_X10_66 dX10_look_18 (ly_226 B _ _) rfl ?_
      refine e_top (w := nI (wn S)) (hm'.xwn) ?_
      refine n_icmp_ge 162 dX10_look_21 (by decide) (by omega) (by omega) (fun g1 => ?_) (fun g1 => ?_)
      · have e : w = wn S := by omega
        subst e
        exact m_vret dX10_look_162 rfl (Nat.le_refl _) (Nat.le_refl _) (⟨rfl, ⟨n, g, by omega, ⟨h5, h6⟩, h4.1, fun q hq => (h4.2 q hq).1⟩, h8⟩)
      · exact absurd g1 (by omega)
    | succ d ih =>
      intro w m' x4 x5 n g h1 h2 h3 h4 h5 h6 h7 h8
      have hw : w < wn S := by omega
      have cl := cst_le hk b hw
      have hm' := h8.msS hm
      have mem : ∀ q, q < n → g q < w := fun q hq => ((h6 (g q)).mp ⟨q, hq, rfl⟩).1
      refine e_iload_n dX10_look_16 rfl rfl ?_
      refine e_aload_n dX10_look_17 rfl rfl ?_
      refine m_get 10 3 lf_X10_66 dX10_look_18 (ly_226 B _ _) rfl ?_
      refine e_top (w := nI (wn S)) (hm'.xwn) ?_
      refine n_icmp_ge 162 dX10_look_21 (by decide) (by omega) (by omega) (fun g1 => ?_) (fun g1 => ?_)
      · exact absurd g1 (by omega)
      · -- behind the price
        have go41 : ∀ m3, (∀ a, a ≠ 236 → m3 a = m' a) → mm_G l D kA B sz o 3 74 mX10_look (P_look m S b lim) 41 [some (.ref (B + 226)), some (.int (nI lim)), some (.int (if b then nI 1 else nI 0)), some (.int (nI w)), x4, x5] [.int (nI (cst S b w))] m3 := by
          intro m3 g3
          have h8' : mf m m3 := h8.tr (mf.of6 g3)
          have hm3 := h8'.msS hm
          have h7' := h7.of g3
          have h4' : rkm m3 (cst S b) n g := ⟨by rw [g3 226 (by omega)]; exact h4.1, fun q hq => by rw [g3 240 (by omega), g3 241 (by omega)]; exact h4.2 q hq⟩
          refine e_istore dX10_look_41 (by decide) rfl ?_
          refine e_iload dX10_look_43 rfl ?_
          refine e_iload_n dX10_look_45 rfl rfl ?_
          refine n_icmp_le 52 dX10_look_46 (by decide) (by omega) (by omega) (fun g4 => ?_) (fun g4 => ?_)
          · -- it comes into the row
            have fin : ∀ (k : Nat) (m4 : mm_M), k ≤ n → (∀ q, q < k → m4 240 q = m3 240 q ∧ m4 241 q = m3 241 q) → (∀ q, k < q → q ≤ n → m4 240 q = m3 240 (q - 1) ∧ m4 241 q = m3 241 (q - 1)) → (∀ q, k ≤ q → q < n → bf S (cst S b) w (g q)) → (0 < k → ¬ bf S (cst S b) w (g (k - 1))) → (∀ a, a ≠ 240 → a ≠ 241 → m4 a = m3 a) → mm_G l D kA B sz o 3 74 mX10_look (P_look m S b lim) 129 [some (.ref (B + 226)), some (.int (nI lim)), some (.int (if b then nI 1 else nI 0)), some (.int (nI w)), some (.int (nI (cst S b w))), some (.int (nI k))] [] m4 := by
              intro k m4 c1 c2 c3 c4 c5 c6
              refine e_aload_n dX10_look_129 rfl rfl ?_
              refine m_get 10 20 lf_X10_50 dX10_look_130 (ly_226 B _ _) rfl ?_
              refine e_iload dX10_look_133 rfl ?_
              refine e_iload_n dX10_look_135 rfl rfl ?_
              refine m_iast (k) dX10_look_136 (fun m => ly_240 B m _) (rfl) (by omega) (by decide) ?_
              refine e_aload_n dX10_look_137 rfl rfl ?_
              refine m_get 10 21 lf_X10_53 dX10_look_138 (ly_226 B _ _) rfl ?_
              refine e_iload dX10_look_141 rfl ?_
              refine e_iload dX10_look_143 rfl ?_
              refine m_iast (k) dX10_look_145 (fun m => ly_241 B m _) (rfl) (by omega) (by decide) ?_
              refine e_aload_n dX10_look_146 rfl rfl ?_
              refine e_dup dX10_look_147 rfl ?_
              refine m_get 10 19 lf_X10_119 dX10_look_148 (ly_226 B _ _) rfl ?_
              refine e_top (w := nI n) (by rw [wr_off _ _ (by omega), wr_off _ _ (by omega), c6 226 (by omega) (by omega)]; exact h4'.1) ?_
              refine e_iconst (v := nI 1) dX10_look_151 (by decide) ?_
              refine e_iadd dX10_look_152 ?_
              refine e_top (w := nI (n + 1)) (nI_add _ _) ?_
              refine m_puti 10 19 lp_X10_119 dX10_look_153 (ly_226 B _ _) (Nat.le_of_ble_eq_true rfl) (ly_226 B _ _) rfl ?_
              refine e_iinc (v := nI (w + 1)) dX10_look_156 rfl (nI_add _ _) (by decide) rfl ?_
              refine e_goto 16 dX10_look_159 (by decide) ?_
              have f4 : mf m (wr (wr (wr m4 240 k (nI w)) 241 k (nI (cst S b w))) 226 19 (nI (n + 1))) := by
                have f3 : mf m m4 := h8'.tr ⟨fun a ha => c6 a (by omega) (by omega), by rw [c6 226 (by omega) (by omega)], by rw [c6 226 (by omega) (by omega)], by rw [c6 226 (by omega) (by omega)], by rw [c6 226 (by omega) (by omega)]⟩
                exact ((f3.wrS (by omega)).wrS (by omega)).wrS (by omega)
              have bk : ∀ q, q < k → bf S (cst S b) (g q) w := fun q hq => by
                have l1 : bf S (cst S b) (g (k - 1)) w := by
                  have hg := mem (k - 1) (by omega)
                  rcases bf_tot S (cst S b) (a := g (k - 1)) (b := w) (fun z => by have := hk.2.2.2.2.1 _ _ (by omega) hw z; omega) with e | e
                  · exact e
                  · exact absurd e (c5 (by omega))
                by_cases e : q = k - 1
                · rw [e]; exact l1
                · exact bf_tr S (cst S b) (h5 q (k - 1) (by omega) (by omega)) l1
              refine ih (w + 1) _ _ _ (n + 1) (ins g k w) (by omega) (by omega) (by omega) ⟨wr_same _ _ _ _, fun q hq => ?_⟩ (so_ins h5 c1 bk c4) (fun x => (ins_mem c1 x).trans ⟨fun z => ?_, fun z => ?_⟩) ?_ f4
              · have e3 : ∀ q, wr (wr (wr m4 240 k (nI w)) 241 k (nI (cst S b w))) 226 19 (nI (n + 1)) 240 q = wr m4 240 k (nI w) 240 q := fun q => by rw [wr_off _ _ (show (240 : Nat) ≠ 226 by omega), wr_off _ _ (show (240 : Nat) ≠ 241 by omega)]
                have e4 : ∀ q, wr (wr (wr m4 240 k (nI w)) 241 k (nI (cst S b w))) 226 19 (nI (n + 1)) 241 q = wr (wr m4 240 k (nI w)) 241 k (nI (cst S b w)) 241 q := fun q => by rw [wr_off _ _ (show (241 : Nat) ≠ 226 by omega)]
                rw [e3, e4]
                by_cases d1 : q = k
                · subst d1
                  have hi : ins g q w q = w := by unfold ins; rw [if_neg (by omega), if_pos rfl]
                  rw [hi]
                  exact ⟨wr_same _ _ _ _, wr_same _ _ _ _⟩
                · simp only [wr, d1, and_false, if_false]
                  by_cases d2 : q < k
                  · have hi : ins g k w q = g q := by unfold ins; rw [if_pos d2]
                    rw [hi, (c2 q d2).1, (c2 q d2).2]
                    exact h4'.2 q (by omega)
                  · have hi : ins g k w q = g (q - 1) := by unfold ins; rw [if_neg d2, if_neg d1]
                    have := c3 q (by omega) (by omega)
                    rw [hi, this.1, this.2]
                    exact h4'.2 (q - 1) (by omega)
              · rcases z with z | z
                · have := (h6 x).mp z; exact ⟨by omega, this.2⟩
                · rw [z]; exact ⟨by omega, g4⟩
              · by_cases e : x = w
                · exact Or.inr e
                · exact Or.inl ((h6 x).mpr ⟨by omega, z.2⟩)
              · exact h7'.of2 (by rw [wr_ne _ _ (Or.inr (by omega)), wr_off _ _ (by omega), wr_off _ _ (by omega), c6 226 (by omega) (by omega)]) (by rw [wr_off _ _ (by omega), wr_off _ _ (by omega), wr_off _ _ (by omega), c6 237 (by omega) (by omega)])
            have kl : ∀ (k : Nat) (m4 : mm_M), k ≤ n → (∀ q, q < k → m4 240 q = m3 240 q ∧ m4 241 q = m3 241 q) → (∀ q, k < q → q ≤ n → m4 240 q = m3 240 (q - 1) ∧ m4 241 q = m3 241 (q - 1)) → (∀ q, k ≤ q → q < n → bf S (cst S b) w (g q)) → (∀ a, a ≠ 240 → a ≠ 241 → m4 a = m3 a) → mm_G l D kA B sz o 3 74 mX10_look (P_look m S b lim) 58 [some (.ref (B + 226)), some (.int (nI lim)), some (.int (if b then nI 1 else nI 0)), some (.int (nI w)), some (.int (nI (cst S b w))), some (.int (nI k))] [] m4 := by
              intro k
              induction k with
              | zero =>
                intro m4 c1 c2 c3 c4 c6
                refine e_iload dX10_look_58 rfl ?_
                refine n_if_le 129 dX10_look_60 (by decide) (by omega) (fun h9 => ?_) (fun h9 => ?_)
                · exact fin 0 m4 c1 c2 c3 c4 (fun h => by omega) c6
                · exact absurd (Nat.le_refl 0) h9
              | succ k ih2 =>
                intro m4 c1 c2 c3 c4 c6
                have hm4 : ms m4 S := hm3.of (fun a a1 a2 => c6 a (by omega) (by omega)) (by rw [c6 226 (by omega) (by omega)]) (by rw [c6 226 (by omega) (by omega)]) (by rw [c6 226 (by omega) (by omega)])
                have gk := mem k (by omega)
                have cg := cst_le hk b (q := g k) (by omega)
                obtain ⟨j1, j2⟩ := c2 k (by omega)
                obtain ⟨i1, i2⟩ := h4'.2 k (by omega)
                refine e_iload dX10_look_58 rfl ?_
                refine n_if_le 129 dX10_look_60 (by decide) (by omega) (fun h9 => ?_) (fun h9 => ?_)
                · exact absurd h9 (by omega)
                · refine e_aload_n dX10_look_63 rfl rfl ?_
                  refine e_iload_n dX10_look_64 rfl rfl ?_
                  refine e_iload dX10_look_65 rfl ?_
                  refine e_aload_n dX10_look_67 rfl rfl ?_
                  refine m_get 10 20 lf_X10_50 dX10_look_68 (ly_226 B _ _) rfl ?_
                  refine e_iload dX10_look_71 rfl ?_
                  refine e_iconst (v := nI 1) dX10_look_73 (by decide) ?_
                  refine e_isub dX10_look_74 ?_
                  refine e_top (w := nI ((k + 1) - 1)) (pk_sub (by omega)) ?_
                  refine m_iald ((k + 1) - 1) dX10_look_75 (ly_240 B _ _) (rfl) (by omega) (by decide) ?_
                  refine e_top (w := nI (g k)) (by rw [Nat.add_sub_cancel, j1]; exact i1) ?_
                  refine e_aload_n dX10_look_76 rfl rfl ?_
                  refine m_get 10 21 lf_X10_53 dX10_look_77 (ly_226 B _ _) rfl ?_
                  refine e_iload dX10_look_80 rfl ?_
                  refine e_iconst (v := nI 1) dX10_look_82 (by decide) ?_
                  refine e_isub dX10_look_83 ?_
                  refine e_top (w := nI ((k + 1) - 1)) (pk_sub (by omega)) ?_
                  refine m_iald ((k + 1) - 1) dX10_look_84 (ly_241 B _ _) (rfl) (by omega) (by decide) ?_
                  refine e_top (w := nI (cst S b (g k))) (by rw [Nat.add_sub_cancel, j2]; exact i2) ?_
                  refine m_callV (As := [_, _, _, _]) lc_X10_122 dX10_look_85 (ly_226 B _ _) rfl rfl (by simp [Value.category]) (Nat.le_of_ble_eq_true rfl) (Nat.le_of_ble_eq_true rfl) ⟨Nat.le_of_ble_eq_true rfl, Nat.le_of_ble_eq_true rfl⟩ ⟨Nat.le_of_ble_eq_true rfl, Nat.le_of_ble_eq_true rfl⟩ (r_isBefore m4 hk hm4 (a := w) (b := g k) (c := cst S b) hw (by omega) (by omega) (by omega)) (fun v9 m9 hp9 => ?_)
                  obtain ⟨rfl, ⟨rfl, q9⟩ | ⟨rfl, q9⟩⟩ := hp9
                  · refine e_if_eq 129 dX10_look_88 (by decide) (fun h8 => ?_) (fun h8 => ?_)
                    · exact absurd h8 (by decide)
                    · refine e_aload_n dX10_look_91 rfl rfl ?_
                      refine m_get 10 20 lf_X10_50 dX10_look_92 (ly_226 B _ _) rfl ?_
                      refine e_iload dX10_look_95 rfl ?_
                      refine e_aload_n dX10_look_97 rfl rfl ?_
                      refine m_get 10 20 lf_X10_50 dX10_look_98 (ly_226 B _ _) rfl ?_
                      refine e_iload dX10_look_101 rfl ?_
                      refine e_iconst (v := nI 1) dX10_look_103 (by decide) ?_
                      refine e_isub dX10_look_104 ?_
                      refine e_top (w := nI ((k + 1) - 1)) (pk_sub (by omega)) ?_
                      refine m_iald ((k + 1) - 1) dX10_look_105 (ly_240 B _ _) (rfl) (by omega) (by decide) ?_
                      refine m_iast (k + 1) dX10_look_106 (fun m => ly_240 B m _) (rfl) (by omega) (by decide) ?_
                      refine e_aload_n dX10_look_107 rfl rfl ?_
                      refine m_get 10 21 lf_X10_53 dX10_look_108 (ly_226 B _ _) rfl ?_
                      refine e_iload dX10_look_111 rfl ?_
                      refine e_aload_n dX10_look_113 rfl rfl ?_
                      refine m_get 10 21 lf_X10_53 dX10_look_114 (ly_226 B _ _) rfl ?_
                      refine e_iload dX10_look_117 rfl ?_
                      refine e_iconst (v := nI 1) dX10_look_119 (by decide) ?_
                      refine e_isub dX10_look_120 ?_
                      refine e_top (w := nI ((k + 1) - 1)) (pk_sub (by omega)) ?_
                      refine m_iald ((k + 1) - 1) dX10_look_121 (ly_241 B _ _) (rfl) (by omega) (by decide) ?_
                      refine m_iast (k + 1) dX10_look_122 (fun m => ly_241 B m _) (rfl) (by omega) (by decide) ?_
                      refine e_iinc (v := nI (k + 1 - 1)) dX10_look_123 rfl (dec_nI (by decide) (by omega)) (by decide) rfl ?_
                      refine e_goto 58 dX10_look_126 (by decide) ?_
                      refine ih2 _ (by omega) (fun q hq => ?_) (fun q q1 q2 => ?_) (fun q q1 q2 => ?_) (fun a a1 a2 => by rw [wr_off _ _ a2, wr_off _ _ a1]; exact c6 a a1 a2)
                      · simp only [wr, show ¬ q = k + 1 by omega, and_false, if_false]
                        exact c2 q (by omega)
                      · by_cases e : q = k + 1
                        · subst e
                          simp [wr]
                          exact ⟨j1, j2⟩
                        · simp only [wr, e, and_false, if_false]
                          exact c3 q (by omega) q2
                      · by_cases e : q = k
                        · rw [e]; exact q9
                        · exact c4 q (by omega) q2
                  · refine e_if_eq 129 dX10_look_88 (by decide) (fun h8 => ?_) (fun h8 => ?_)
                    · exact fin (k + 1) m9 c1 c2 c3 c4 (fun _ => by rw [Nat.add_sub_cancel]; exact q9) c6
                    · exact absurd rfl h8
            refine e_aload_n dX10_look_52 rfl rfl ?_
            refine m_get 10 19 lf_X10_119 dX10_look_53 (ly_226 B _ _) rfl ?_
            refine e_top (w := nI n) (h4'.1) ?_
            refine e_istore dX10_look_56 (by decide) rfl ?_
            exact kl n m3 (Nat.le_refl _) (fun q _ => ⟨rfl, rfl⟩) (fun q q1 q2 => by omega) (fun q q1 q2 => by omega) (fun a _ _ => rfl)
          · refine e_goto 156 dX10_look_49 (by decide) ?_
            refine e_iinc (v := nI (w + 1)) dX10_look_156 rfl (nI_add _ _) (by decide) rfl ?_
            refine e_goto 16 dX10_look_159 (by decide) ?_
            refine ih (w + 1) m3 _ _ n g (by omega) (by omega) (by omega) h4' h5 (fun x => (h6 x).trans ⟨fun z => ⟨by omega, z.2⟩, fun z => ⟨?_, z.2⟩⟩) h7' h8'
            by_cases e : x = w
            · subst e; exact absurd z.2 g4
            · omega
        refine e_iload_n dX10_look_24 rfl rfl ?_
        cases b with
        | true =>
          refine e_if_eq 36 dX10_look_25 (by decide) (fun g2 => ?_) (fun g2 => ?_)
          · exact absurd g2 (by decide)
          · refine e_aload_n dX10_look_28 rfl rfl ?_
            refine e_iload_n dX10_look_29 rfl rfl ?_
            refine m_callV (As := [_]) lc_X10_106 dX10_look_30 (ly_226 B _ _) rfl rfl (by simp [Value.category]) (Nat.le_of_ble_eq_true rfl) (Nat.le_of_ble_eq_true rfl) ⟨Nat.le_of_ble_eq_true rfl, Nat.le_of_ble_eq_true rfl⟩ ⟨Nat.le_of_ble_eq_true rfl, Nat.le_of_ble_eq_true rfl⟩ (r_beginsBy m' hk hm' hw h7) (fun v9 m3 hp9 => ?_)
            obtain ⟨rfl, g3⟩ := hp9
            refine e_goto 41 dX10_look_33 (by decide) ?_
            exact go41 m3 g3
        | false =>
          refine e_if_eq 36 dX10_look_25 (by decide) (fun g2 => ?_) (fun g2 => ?_)
          · refine e_aload_n dX10_look_36 rfl rfl ?_
            refine e_iload_n dX10_look_37 rfl rfl ?_
            refine m_callV (As := [_]) lc_X10_99 dX10_look_38 (ly_226 B _ _) rfl rfl (by simp [Value.category]) (Nat.le_of_ble_eq_true rfl) (Nat.le_of_ble_eq_true rfl) ⟨Nat.le_of_ble_eq_true rfl, Nat.le_of_ble_eq_true rfl⟩ ⟨Nat.le_of_ble_eq_true rfl, Nat.le_of_ble_eq_true rfl⟩ (r_fill m' hk hm' hw h7) (fun v9 m3 hp9 => ?_)
            obtain ⟨rfl, -, g3⟩ := hp9
            exact go41 m3 g3
          · exact absurd rfl g2
  have f2 : mf m (wr m1 226 19 (nI 0)) := f1.wrS (by omega)
  exact loop (wn S) 0 _ _ _ 0 (fun _ => 0) (by omega) (by omega) (by omega) ⟨wr_same _ _ _ _, fun q hq => by omega⟩ (fun i j h1 h2 => by omega) (fun x => ⟨fun ⟨q, hq, _⟩ => by omega, fun z => by omega⟩) (hr1.of2 (wr_ne _ _ (Or.inr (by omega))) (wr_off _ _ (by omega))) f2
set_option maxRecDepth 100000 in
theorem r_suggest (m : mm_M) {S : sp_S} (hk : ok S) (hm : ms m S) (x : Int32) : mm_F l D kA B sz o 4 99 mX10_suggest [.ref (B + 226), .int x] m (fun v m' => (∃ y, v = some (.int y) ∧ R_many S false x y) ∧ ms m' S ∧ fw m m') := by
  refine mm_F.of ?_
  refine e_aload_n dX10_suggest_0 rfl rfl ?_
  refine e_iconst (v := nI 0) dX10_suggest_1 (by decide) ?_
  refine m_puti 10 0 lp_X10_62 dX10_suggest_2 (ly_226 B _ _) (Nat.le_of_ble_eq_true rfl) (ly_226 B _ _) rfl ?_
  obtain ⟨m1, e1, hs, f1, -⟩ := ms_th (x := nI 0) hm
  rw [e1]
  refine e_iload_n dX10_suggest_5 rfl rfl ?_
  refine e_iconst (v := nI 0) dX10_suggest_6 (by decide) ?_
  refine e_bipush (v := nI 50) dX10_suggest_7 (by decide) ?_
  refine m_callS (As := [_, _, _]) lc_X10_69 dX10_suggest_9 rfl rfl (by simp [Value.category]) (Nat.le_of_ble_eq_true rfl) (Nat.le_of_ble_eq_true rfl) ⟨Nat.le_of_ble_eq_true rfl, Nat.le_of_ble_eq_true rfl⟩ ⟨Nat.le_of_ble_eq_true rfl, Nat.le_of_ble_eq_true rfl⟩ (r_in m1 x (nI 0) (nI 50)) (fun v9 m9 hp9 => ?_)
  obtain ⟨rfl, ⟨rfl, h1⟩ | ⟨rfl, h1⟩⟩ := hp9
  · obtain ⟨lim, -, l2, rfl⟩ := inr_nat (lo := 0) (hi := 50) h1 (by omega) (by omega)
    refine e_if_ne 18 dX10_suggest_12 (by decide) (fun g1 => ?_) (fun g1 => ?_)
    · refine e_aload_n dX10_suggest_18 rfl rfl ?_
      refine e_iload_n dX10_suggest_19 rfl rfl ?_
      refine e_iconst (v := nI 0) dX10_suggest_20 (by decide) ?_
      refine m_callV (As := [_, _]) lc_X10_126 dX10_suggest_21 (ly_226 B _ _) rfl rfl (by simp [Value.category]) (Nat.le_of_ble_eq_true rfl) (Nat.le_of_ble_eq_true rfl) ⟨Nat.le_of_ble_eq_true rfl, Nat.le_of_ble_eq_true rfl⟩ ⟨Nat.le_of_ble_eq_true rfl, Nat.le_of_ble_eq_true rfl⟩ (r_look m9 false hk hs l2) (fun v9 m2 hp9 => ?_)
      obtain ⟨rfl, ⟨n, g, a1, a2, a3, a4⟩, a5⟩ := hp9
      refine e_aload_n dX10_suggest_24 rfl rfl ?_
      refine m_get 10 19 lf_X10_119 dX10_suggest_25 (ly_226 B _ _) rfl ?_
      refine e_top (w := nI n) (a3) ?_
      exact m_iret dX10_suggest_28 rfl (Nat.le_refl _) (Nat.le_refl _) (⟨⟨_, rfl, Or.inr ⟨h1, n, g, a1, by rw [nI_clamp (by omega)]; exact a2, rfl⟩⟩, a5.msS hs, f1.tr a5.fwS⟩)
    · exact absurd g1 (by decide)
  · refine e_if_ne 18 dX10_suggest_12 (by decide) (fun g1 => ?_) (fun g1 => ?_)
    · exact absurd rfl g1
    · refine e_bipush (v := -2) dX10_suggest_15 (by decide) ?_
      exact m_iret dX10_suggest_17 rfl (Nat.le_refl _) (Nat.le_refl _) (⟨⟨_, rfl, Or.inl ⟨h1, rfl⟩⟩, hs, f1⟩)
set_option maxRecDepth 100000 in
theorem r_endings (m : mm_M) {S : sp_S} (hk : ok S) (hm : ms m S) (x : Int32) : mm_F l D kA B sz o 4 99 mX10_endings [.ref (B + 226), .int x] m (fun v m' => (∃ y, v = some (.int y) ∧ R_many S true x y) ∧ ms m' S ∧ fw m m') := by
  refine mm_F.of ?_
  refine e_aload_n dX10_endings_0 rfl rfl ?_
  refine e_iconst (v := nI 0) dX10_endings_1 (by decide) ?_
  refine m_puti 10 0 lp_X10_62 dX10_endings_2 (ly_226 B _ _) (Nat.le_of_ble_eq_true rfl) (ly_226 B _ _) rfl ?_
  obtain ⟨m1, e1, hs, f1, -⟩ := ms_th (x := nI 0) hm
  rw [e1]
  refine e_iload_n dX10_endings_5 rfl rfl ?_
  refine e_iconst (v := nI 0) dX10_endings_6 (by decide) ?_
  refine e_bipush (v := nI 50) dX10_endings_7 (by decide) ?_
  refine m_callS (As := [_, _, _]) lc_X10_69 dX10_endings_9 rfl rfl (by simp [Value.category]) (Nat.le_of_ble_eq_true rfl) (Nat.le_of_ble_eq_true rfl) ⟨Nat.le_of_ble_eq_true rfl, Nat.le_of_ble_eq_true rfl⟩ ⟨Nat.le_of_ble_eq_true rfl, Nat.le_of_ble_eq_true rfl⟩ (r_in m1 x (nI 0) (nI 50)) (fun v9 m9 hp9 => ?_)
  obtain ⟨rfl, ⟨rfl, h1⟩ | ⟨rfl, h1⟩⟩ := hp9
  · obtain ⟨lim, -, l2, rfl⟩ := inr_nat (lo := 0) (hi := 50) h1 (by omega) (by omega)
    refine e_if_ne 18 dX10_endings_12 (by decide) (fun g1 => ?_) (fun g1 => ?_)
    · refine e_aload_n dX10_endings_18 rfl rfl ?_
      refine e_iload_n dX10_endings_19 rfl rfl ?_
      refine e_iconst (v := nI 1) dX10_endings_20 (by decide) ?_
      refine m_callV (As := [_, _]) lc_X10_126 dX10_endings_21 (ly_226 B _ _) rfl rfl (by simp [Value.category]) (Nat.le_of_ble_eq_true rfl) (Nat.le_of_ble_eq_true rfl) ⟨Nat.le_of_ble_eq_true rfl, Nat.le_of_ble_eq_true rfl⟩ ⟨Nat.le_of_ble_eq_true rfl, Nat.le_of_ble_eq_true rfl⟩ (r_look m9 true hk hs l2) (fun v9 m2 hp9 => ?_)
      obtain ⟨rfl, ⟨n, g, a1, a2, a3, a4⟩, a5⟩ := hp9
      refine e_aload_n dX10_endings_24 rfl rfl ?_
      refine m_get 10 19 lf_X10_119 dX10_endings_25 (ly_226 B _ _) rfl ?_
      refine e_top (w := nI n) (a3) ?_
      exact m_iret dX10_endings_28 rfl (Nat.le_refl _) (Nat.le_refl _) (⟨⟨_, rfl, Or.inr ⟨h1, n, g, a1, by rw [nI_clamp (by omega)]; exact a2, rfl⟩⟩, a5.msS hs, f1.tr a5.fwS⟩)
    · exact absurd g1 (by decide)
  · refine e_if_ne 18 dX10_endings_12 (by decide) (fun g1 => ?_) (fun g1 => ?_)
    · exact absurd rfl g1
    · refine e_bipush (v := -2) dX10_endings_15 (by decide) ?_
      exact m_iret dX10_endings_17 rfl (Nat.le_refl _) (Nat.le_refl _) (⟨⟨_, rfl, Or.inl ⟨h1, rfl⟩⟩, hs, f1⟩)
set_option maxRecDepth 100000 in
theorem r_suggestion (m : mm_M) {S : sp_S} (hk : ok S) (hm : ms m S) (x i : Int32) : mm_F l D kA B sz o 4 99 mX10_suggestion [.ref (B + 226), .int x, .int i] m (fun v m' => (∃ y, v = some (.int y) ∧ R_rank S false x i y) ∧ ms m' S ∧ fw m m') := by
  refine mm_F.of ?_
  refine e_aload_n dX10_suggestion_0 rfl rfl ?_
  refine e_iconst (v := nI 0) dX10_suggestion_1 (by decide) ?_
  refine m_puti 10 0 lp_X10_62 dX10_suggestion_2 (ly_226 B _ _) (Nat.le_of_ble_eq_true rfl) (ly_226 B _ _) rfl ?_
  obtain ⟨m1, e1, hs, f1, -⟩ := ms_th (x := nI 0) hm
  rw [e1]
  refine e_iload_n dX10_suggestion_5 rfl rfl ?_
  refine e_iconst (v := nI 0) dX10_suggestion_6 (by decide) ?_
  refine e_bipush (v := nI 50) dX10_suggestion_7 (by decide) ?_
  refine m_callS (As := [_, _, _]) lc_X10_69 dX10_suggestion_9 rfl rfl (by simp [Value.category]) (Nat.le_of_ble_eq_true rfl) (Nat.le_of_ble_eq_true rfl) ⟨Nat.le_of_ble_eq_true rfl, Nat.le_of_ble_eq_true rfl⟩ ⟨Nat.le_of_ble_eq_true rfl, Nat.le_of_ble_eq_true rfl⟩ (r_in m1 x (nI 0) (nI 50)) (fun v9 m9 hp9 => ?_)
  obtain ⟨rfl, ⟨rfl, h1⟩ | ⟨rfl, h1⟩⟩ := hp9
  · obtain ⟨lim, -, l2, rfl⟩ := inr_nat (lo := 0) (hi := 50) h1 (by omega) (by omega)
    refine e_if_ne 18 dX10_suggestion_12 (by decide) (fun g1 => ?_) (fun g1 => ?_)
    · refine e_aload_n dX10_suggestion_18 rfl rfl ?_
      refine e_iload_n dX10_suggestion_19 rfl rfl ?_
      refine e_iconst (v := nI 0) dX10_suggestion_20 (by decide) ?_
      refine m_callV (As := [_, _]) lc_X10_126 dX10_suggestion_21 (ly_226 B _ _) rfl rfl (by simp [Value.category]) (Nat.le_of_ble_eq_true rfl) (Nat.le_of_ble_eq_true rfl) ⟨Nat.le_of_ble_eq_true rfl, Nat.le_of_ble_eq_true rfl⟩ ⟨Nat.le_of_ble_eq_true rfl, Nat.le_of_ble_eq_true rfl⟩ (r_look m9 false hk hs l2) (fun v9 m2 hp9 => ?_)
      obtain ⟨rfl, ⟨n, g, a1, a2, a3, a4⟩, a5⟩ := hp9
      have hs2 := a5.msS hs
      have f2 := f1.tr a5.fwS
      refine e_iload_n dX10_suggestion_24 rfl rfl ?_
      refine e_iconst (v := nI 0) dX10_suggestion_25 (by decide) ?_
      refine e_aload_n dX10_suggestion_26 rfl rfl ?_
      refine m_get 10 19 lf_X10_119 dX10_suggestion_27 (ly_226 B _ _) rfl ?_
      refine e_top (w := nI n) (a3) ?_
      refine e_iconst (v := nI 1) dX10_suggestion_30 (by decide) ?_
      refine e_isub dX10_suggestion_31 ?_
      refine m_callS (As := [_, _, _]) lc_X10_69 dX10_suggestion_32 rfl rfl (by simp [Value.category]) (Nat.le_of_ble_eq_true rfl) (Nat.le_of_ble_eq_true rfl) ⟨Nat.le_of_ble_eq_true rfl, Nat.le_of_ble_eq_true rfl⟩ ⟨Nat.le_of_ble_eq_true rfl, Nat.le_of_ble_eq_true rfl⟩ (r_in m2 i (nI 0) (nI n - nI 1)) (fun v9 m3 hp9 => ?_)
      obtain ⟨rfl, ⟨rfl, h2⟩ | ⟨rfl, h2⟩⟩ := hp9
      · obtain ⟨z, z1, rfl⟩ := (inr_pred (by omega)).mp h2
        refine e_if_eq 47 dX10_suggestion_35 (by decide) (fun g2 => ?_) (fun g2 => ?_)
        · exact absurd g2 (by decide)
        · refine e_aload_n dX10_suggestion_38 rfl rfl ?_
          refine m_get 10 20 lf_X10_50 dX10_suggestion_39 (ly_226 B _ _) rfl ?_
          refine e_iload_n dX10_suggestion_42 rfl rfl ?_
          refine m_iald (z) dX10_suggestion_43 (ly_240 B _ _) (rfl) (by omega) (by decide) ?_
          refine e_top (w := nI (g z)) (a4 z z1) ?_
          refine e_goto 48 dX10_suggestion_44 (by decide) ?_
          exact m_iret dX10_suggestion_48 rfl (Nat.le_refl _) (Nat.le_refl _) (⟨⟨_, rfl, Or.inr ⟨h1, n, g, a1, by rw [nI_clamp (by omega)]; exact a2, Or.inl ⟨z, z1, rfl, rfl⟩⟩⟩, hs2, f2⟩)
      · refine e_if_eq 47 dX10_suggestion_35 (by decide) (fun g2 => ?_) (fun g2 => ?_)
        · refine e_iconst (v := -1) dX10_suggestion_47 (by decide) ?_
          exact m_iret dX10_suggestion_48 rfl (Nat.le_refl _) (Nat.le_refl _) (⟨⟨_, rfl, Or.inr ⟨h1, n, g, a1, by rw [nI_clamp (by omega)]; exact a2, Or.inr ⟨fun z hz e => h2 ((inr_pred (by omega)).mpr ⟨z, hz, e⟩), rfl⟩⟩⟩, hs2, f2⟩)
        · exact absurd rfl g2
    · exact absurd g1 (by decide)
  · refine e_if_ne 18 dX10_suggestion_12 (by decide) (fun g1 => ?_) (fun g1 => ?_)
    · exact absurd rfl g1
    · refine e_bipush (v := -2) dX10_suggestion_15 (by decide) ?_
      exact m_iret dX10_suggestion_17 rfl (Nat.le_refl _) (Nat.le_refl _) (⟨⟨_, rfl, Or.inl ⟨h1, rfl⟩⟩, hs, f1⟩)
set_option maxRecDepth 100000 in
theorem r_ending (m : mm_M) {S : sp_S} (hk : ok S) (hm : ms m S) (x i : Int32) : mm_F l D kA B sz o 4 99 mX10_ending [.ref (B + 226), .int x, .int i] m (fun v m' => (∃ y, v = some (.int y) ∧ R_rank S true x i y) ∧ ms m' S ∧ fw m m') := by
  refine mm_F.of ?_
  refine e_aload_n dX10_ending_0 rfl rfl ?_
  refine e_iconst (v := nI 0) dX10_ending_1 (by decide) ?_
  refine m_puti 10 0 lp_X10_62 dX10_ending_2 (ly_226 B _ _) (Nat.le_of_ble_eq_true rfl) (ly_226 B _ _) rfl ?_
  obtain ⟨m1, e1, hs, f1, -⟩ := ms_th (x := nI 0) hm
  rw [e1]
  refine e_iload_n dX10_ending_5 rfl rfl ?_
  refine e_iconst (v := nI 0) dX10_ending_6 (by decide) ?_
  refine e_bipush (v := nI 50) dX10_ending_7 (by decide) ?_
  refine m_callS (As := [_, _, _]) lc_X10_69 dX10_ending_9 rfl rfl (by simp [Value.category]) (Nat.le_of_ble_eq_true rfl) (Nat.le_of_ble_eq_true rfl) ⟨Nat.le_of_ble_eq_true rfl, Nat.le_of_ble_eq_true rfl⟩ ⟨Nat.le_of_ble_eq_true rfl, Nat.le_of_ble_eq_true rfl⟩ (r_in m1 x (nI 0) (nI 50)) (fun v9 m9 hp9 => ?_)
  obtain ⟨rfl, ⟨rfl, h1⟩ | ⟨rfl, h1⟩⟩ := hp9
  · obtain ⟨lim, -, l2, rfl⟩ := inr_nat (lo := 0) (hi := 50) h1 (by omega) (by omega)
    refine e_if_ne 18 dX10_ending_12 (by decide) (fun g1 => ?_) (fun g1 => ?_)
    · refine e_aload_n dX10_ending_18 rfl rfl ?_
      refine e_iload_n dX10_ending_19 rfl rfl ?_
      refine e_iconst (v := nI 1) dX10_ending_20 (by decide) ?_
      refine m_callV (As := [_, _]) lc_X10_126 dX10_ending_21 (ly_226 B _ _) rfl rfl (by simp [Value.category]) (Nat.le_of_ble_eq_true rfl) (Nat.le_of_ble_eq_true rfl) ⟨Nat.le_of_ble_eq_true rfl, Nat.le_of_ble_eq_true rfl⟩ ⟨Nat.le_of_ble_eq_true rfl, Nat.le_of_ble_eq_true rfl⟩ (r_look m9 true hk hs l2) (fun v9 m2 hp9 => ?_)
      obtain ⟨rfl, ⟨n, g, a1, a2, a3, a4⟩, a5⟩ := hp9
      have hs2 := a5.msS hs
      have f2 := f1.tr a5.fwS
      refine e_iload_n dX10_ending_24 rfl rfl ?_
      refine e_iconst (v := nI 0) dX10_ending_25 (by decide) ?_
      refine e_aload_n dX10_ending_26 rfl rfl ?_
      refine m_get 10 19 lf_X10_119 dX10_ending_27 (ly_226 B _ _) rfl ?_
      refine e_top (w := nI n) (a3) ?_
      refine e_iconst (v := nI 1) dX10_ending_30 (by decide) ?_
      refine e_isub dX10_ending_31 ?_
      refine m_callS (As := [_, _, _]) lc_X10_69 dX10_ending_32 rfl rfl (by simp [Value.category]) (Nat.le_of_ble_eq_true rfl) (Nat.le_of_ble_eq_true rfl) ⟨Nat.le_of_ble_eq_true rfl, Nat.le_of_ble_eq_true rfl⟩ ⟨Nat.le_of_ble_eq_true rfl, Nat.le_of_ble_eq_true rfl⟩ (r_in m2 i (nI 0) (nI n - nI 1)) (fun v9 m3 hp9 => ?_)
      obtain ⟨rfl, ⟨rfl, h2⟩ | ⟨rfl, h2⟩⟩ := hp9
      · obtain ⟨z, z1, rfl⟩ := (inr_pred (by omega)).mp h2
        refine e_if_eq 47 dX10_ending_35 (by decide) (fun g2 => ?_) (fun g2 => ?_)
        · exact absurd g2 (by decide)
        · refine e_aload_n dX10_ending_38 rfl rfl ?_
          refine m_get 10 20 lf_X10_50 dX10_ending_39 (ly_226 B _ _) rfl ?_
          refine e_iload_n dX10_ending_42 rfl rfl ?_
          refine m_iald (z) dX10_ending_43 (ly_240 B _ _) (rfl) (by omega) (by decide) ?_
          refine e_top (w := nI (g z)) (a4 z z1) ?_
          refine e_goto 48 dX10_ending_44 (by decide) ?_
          exact m_iret dX10_ending_48 rfl (Nat.le_refl _) (Nat.le_refl _) (⟨⟨_, rfl, Or.inr ⟨h1, n, g, a1, by rw [nI_clamp (by omega)]; exact a2, Or.inl ⟨z, z1, rfl, rfl⟩⟩⟩, hs2, f2⟩)
      · refine e_if_eq 47 dX10_ending_35 (by decide) (fun g2 => ?_) (fun g2 => ?_)
        · refine e_iconst (v := -1) dX10_ending_47 (by decide) ?_
          exact m_iret dX10_ending_48 rfl (Nat.le_refl _) (Nat.le_refl _) (⟨⟨_, rfl, Or.inr ⟨h1, n, g, a1, by rw [nI_clamp (by omega)]; exact a2, Or.inr ⟨fun z hz e => h2 ((inr_pred (by omega)).mpr ⟨z, hz, e⟩), rfl⟩⟩⟩, hs2, f2⟩)
        · exact absurd rfl g2
    · exact absurd g1 (by decide)
  · refine e_if_ne 18 dX10_ending_12 (by decide) (fun g1 => ?_) (fun g1 => ?_)
    · exact absurd rfl g1
    · refine e_bipush (v := -2) dX10_ending_15 (by decide) ?_
      exact m_iret dX10_ending_17 rfl (Nat.le_refl _) (Nat.le_refl _) (⟨⟨_, rfl, Or.inl ⟨h1, rfl⟩⟩, hs, f1⟩)
end REK
