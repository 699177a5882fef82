/-- the reference's row -/
def mr (m : mm_M) (n : Nat) (r : Nat → Nat) : Prop := m 226 15 = nI n ∧ n ≤ 12 ∧ ∀ i, i < n → m 237 i = nI (r i) ∧ r i < 26
abbrev tb (S : sp_S) (r : Nat → Nat) (q : Nat) : Nat → Nat → Nat := dd (pp S) (ww S) r (wt S q)
theorem mr.of {m m' : mm_M} {n : Nat} {r : Nat → Nat} (h : mr m n r) (h1 : ∀ a, a ≠ 236 → m' a = m a) : mr m' n r := by
  unfold mr
  rw [h1 226 (by omega), h1 237 (by omega)]
  exact h
theorem ms.of6 {m m' : mm_M} {S : sp_S} (h : ms m S) (h1 : ∀ a, a ≠ 236 → m' a = m a) : ms m' S := h.of (fun a _ _ => h1 a (by omega)) (by rw [h1 226 (by omega)]) (by rw [h1 226 (by omega)]) (by rw [h1 226 (by omega)])
theorem mf.of6 {m m' : mm_M} (h1 : ∀ a, a ≠ 236 → m' a = m a) : mf m m' := ⟨fun a ha => h1 a (by omega), by rw [h1 226 (by omega)], by rw [h1 226 (by omega)], by rw [h1 226 (by omega)], by rw [h1 226 (by omega)]⟩
section FLD
variable (p : Nat → Nat) (w : Nat → Nat → Nat) (r t : Nat → Nat)
def fg4 (i j b : Nat) : Nat := if 1 < i ∧ 1 < j ∧ r (i - 2) = t (j - 1) ∧ r (i - 1) = t (j - 2) then min (dd p w r t (i - 2) (j - 2) + p 3) b else b
def fg3 (i j b : Nat) : Nat := fg4 p w r t i j (if 0 < i ∧ 0 < j then min (dd p w r t (i - 1) (j - 1) + bc p w (r (i - 1)) (t (j - 1))) b else b)
def fg2 (i j b : Nat) : Nat := fg3 p w r t i j (if 0 < j then min (dd p w r t i (j - 1) + p 0) b else b)
def fg1 (i j b : Nat) : Nat := fg2 p w r t i j (if 0 < i then min (dd p w r t (i - 1) j + p 1) b else b)
theorem fg_ok (h0 : p 0 ≤ 9) (h1 : p 1 ≤ 9) {i j : Nat} (hi : i ≤ 12) (hj : j ≤ 12) : fg1 p w r t i j (if i = 0 ∧ j = 0 then 0 else 100000) = dd p w r t i j := by
  cases i with
  | zero =>
    cases j with
    | zero => simp [fg1, fg2, fg3, fg4, dd_0]
    | succ j =>
      have := dd_le (w := w) r t h0 h1 0 j
      have e : dd p w r t 0 (j + 1) = dd p w r t 0 j + p 0 := by rw [dd_0, dd_0, Nat.succ_mul]
      rw [e]
      simp [fg1, fg2, fg3, fg4]
      omega
  | succ i =>
    cases j with
    | zero =>
      have := dd_le (w := w) r t h0 h1 i 0
      rw [dd_i0]
      simp [fg1, fg2, fg3, fg4]
      omega
    | succ j =>
      have := dd_le (w := w) r t h0 h1 i (j + 1)
      rw [dd_ij]
      unfold fg1 fg2 fg3 fg4
      rw [if_neg (show ¬ (i + 1 = 0 ∧ j + 1 = 0) by omega), if_pos (show 0 < i + 1 by omega), if_pos (show 0 < j + 1 by omega), if_pos (show 0 < i + 1 ∧ 0 < j + 1 by omega)]
      rw [Nat.add_sub_cancel, Nat.add_sub_cancel, show i + 1 - 2 = i - 1 by omega, show j + 1 - 2 = j - 1 by omega]
      by_cases e : 0 < i ∧ 0 < j ∧ r (i - 1) = t j ∧ r i = t (j - 1)
      · rw [if_pos e, if_pos ⟨by omega, by omega, e.2.2⟩]
        omega
      · rw [if_neg e, if_neg (fun q => e ⟨by omega, by omega, q.2.2⟩)]
        omega
end FLD
section REI
variable {l : Launch} {D : va_G} {kA : FieldType → ClassId} {B sz : Nat} {o : Int64}
set_option maxRecDepth 100000 in
theorem r_takeTyped (m : mm_M) {S : sp_S} (hk : ok S) (hm : ms m S) {a b : Nat} {r : Nat → Nat} (hab : a ≤ b) (hb : b ≤ tn S) (hr : ∀ i, i < b - a → r i = tl S (a + i)) : mm_F l D kA B sz o 0 0 mX10_takeTyped [.ref (B + 226), .int (nI a), .int (nI b)] m (fun v m' => v = none ∧ mr m' (b - a) r ∧ mf m m') := by
  have t12 := hk.1
  refine mm_F.of ?_
  refine e_aload_n dX10_takeTyped_0 rfl rfl ?_
  refine e_iload_n dX10_takeTyped_1 rfl rfl ?_
  refine e_iload_n dX10_takeTyped_2 rfl rfl ?_
  refine e_isub dX10_takeTyped_3 ?_
  refine e_top (w := nI (b - a)) (pk_sub (by omega)) ?_
  refine m_puti 10 15 lp_X10_88 dX10_takeTyped_4 (ly_226 B _ _) (Nat.le_of_ble_eq_true rfl) (ly_226 B _ _) rfl ?_
  refine e_iload_n dX10_takeTyped_7 rfl rfl ?_
  refine e_istore_n dX10_takeTyped_8 rfl (by decide) rfl ?_
  have loop : ∀ (d k : Nat) (m2 : mm_M), b - k = d → a ≤ k → k ≤ b → m2 226 15 = nI (b - a) → (∀ i, i < k - a → m2 237 i = nI (r i)) → mf m m2 → mm_G l D kA B sz o 0 0 mX10_takeTyped (fun v m' => v = none ∧ mr m' (b - a) r ∧ mf m m') 9 [some (.ref (B + 226)), some (.int (nI a)), some (.int (nI b)), some (.int (nI k))] [] m2 := by
    intro d
    induction d with
    | zero =>
      intro k m2 hd k1 k2 h1 h2 h3
      refine e_iload_n dX10_takeTyped_9 rfl rfl ?_
      refine e_iload_n dX10_takeTyped_10 rfl rfl ?_
      refine n_icmp_ge 34 dX10_takeTyped_11 (by decide) (by omega) (by omega) (fun g1 => ?_) (fun g1 => ?_)
      · exact m_vret dX10_takeTyped_34 rfl (Nat.le_refl _) (Nat.le_refl _) (⟨rfl, ⟨h1, by omega, fun i hi => ⟨h2 i (by omega), by rw [hr i hi]; exact hk.2.1 _ (by omega)⟩⟩, h3⟩)
      · exact absurd g1 (by omega)
    | succ d ih =>
      intro k m2 hd k1 k2 h1 h2 h3
      refine e_iload_n dX10_takeTyped_9 rfl rfl ?_
      refine e_iload_n dX10_takeTyped_10 rfl rfl ?_
      refine n_icmp_ge 34 dX10_takeTyped_11 (by decide) (by omega) (by omega) (fun g1 => ?_) (fun g1 => ?_)
      · exact absurd g1 (by omega)
      · refine e_aload_n dX10_takeTyped_14 rfl rfl ?_
        refine m_get 10 14 lf_X10_41 dX10_takeTyped_15 (ly_226 B _ _) rfl ?_
        refine e_iload_n dX10_takeTyped_18 rfl rfl ?_
        refine e_iload_n dX10_takeTyped_19 rfl rfl ?_
        refine e_isub dX10_takeTyped_20 ?_
        refine e_top (w := nI (k - a)) (pk_sub (by omega)) ?_
        refine e_aload_n dX10_takeTyped_21 rfl rfl ?_
        refine m_get 10 2 lf_X10_7 dX10_takeTyped_22 (ly_226 B _ _) rfl ?_
        refine e_iload_n dX10_takeTyped_25 rfl rfl ?_
        refine m_iald (k) dX10_takeTyped_26 (ly_227 B _ _) (rfl) (by omega) (by decide) ?_
        refine e_top (w := nI (tl S k)) ((h3.msS hm).xtl k (by omega)) ?_
        refine m_iast (k - a) dX10_takeTyped_27 (fun m => ly_237 B m _) (rfl) (by omega) (by decide) ?_
        refine e_iinc (v := nI (k + 1)) dX10_takeTyped_28 rfl (nI_add _ _) (by decide) rfl ?_
        refine e_goto 9 dX10_takeTyped_31 (by decide) ?_
        refine ih (k + 1) _ (by omega) (by omega) (by omega) (by rw [wr_off _ _ (by omega)]; exact h1) (fun i hi => ?_) (h3.wrS (by omega))
        by_cases e : i = k - a
        · rw [e, wr_same, hr _ (by omega), show a + (k - a) = k by omega]
        · rw [wr_ne _ _ (Or.inr e)]; exact h2 i (by omega)
  exact loop (b - a) a _ (by omega) (by omega) hab (wr_same _ _ _ _) (fun i hi => by omega) ((mf.rf m).wrS (by omega))
set_option maxRecDepth 100000 in
theorem r_becomes (m : mm_M) {S : sp_S} (hk : ok S) (hm : ms m S) {a b : Nat} (ha : a < 26) (hb : b < 26) (hab : a ≠ b) : mm_F l D kA B sz o 0 0 mX10_becomes [.ref (B + 226), .int (nI a), .int (nI b)] m (fun v m' => m' = m ∧ v = some (.int (nI (bc (pp S) (ww S) a b)))) := by
  have hu := hk.2.2.2.2.2.2.2.2.1 a b
  refine mm_F.of ?_
  refine e_aload_n dX10_becomes_0 rfl rfl ?_
  refine m_get 10 8 lf_X10_25 dX10_becomes_1 (ly_226 B _ _) rfl ?_
  refine e_bipush (v := nI 26) dX10_becomes_4 (by decide) ?_
  refine e_iload_n dX10_becomes_6 rfl rfl ?_
  refine e_imul dX10_becomes_7 ?_
  refine e_top (w := nI (26 * a)) (pk_mul _ _) ?_
  refine e_iload_n dX10_becomes_8 rfl rfl ?_
  refine e_iadd dX10_becomes_9 ?_
  refine e_top (w := nI ((26 * a) + b)) (nI_add _ _) ?_
  refine m_iald ((26 * a) + b) dX10_becomes_10 (ly_232 B _ _) (rfl) (by omega) (by decide) ?_
  refine e_top (w := nI (ww S a b)) (hm.xww a b ha hb) ?_
  refine e_istore_n dX10_becomes_11 rfl (by decide) rfl ?_
  refine e_iload_n dX10_becomes_12 rfl rfl ?_
  refine n_if_le 22 dX10_becomes_13 (by decide) (by omega) (fun g1 => ?_) (fun g1 => ?_)
  · refine e_aload_n dX10_becomes_22 rfl rfl ?_
    refine m_get 10 7 lf_X10_22 dX10_becomes_23 (ly_226 B _ _) rfl ?_
    refine e_iconst (v := nI 2) dX10_becomes_26 (by decide) ?_
    refine m_iald (2) dX10_becomes_27 (ly_231 B _ _) (rfl) (by omega) (by decide) ?_
    refine e_top (w := nI (pp S 2)) (hm.xpp 2 (by omega)) ?_
    exact m_iret dX10_becomes_28 rfl (Nat.le_refl _) (Nat.le_refl _) (⟨rfl, by unfold bc; rw [if_neg hab, if_pos (by omega)]⟩)
  · refine e_iload_n dX10_becomes_16 rfl rfl ?_
    refine e_iconst (v := nI 1) dX10_becomes_17 (by decide) ?_
    refine e_isub dX10_becomes_18 ?_
    refine e_top (w := nI ((ww S a b) - 1)) (pk_sub (by omega)) ?_
    refine e_goto 28 dX10_becomes_19 (by decide) ?_
    exact m_iret dX10_becomes_28 rfl (Nat.le_refl _) (Nat.le_refl _) (⟨rfl, by unfold bc; rw [if_neg hab, if_neg (by omega)]⟩)
set_option maxRecDepth 100000 in
theorem r_isTurned (m : mm_M) {S : sp_S} (hk : ok S) (hm : ms m S) {q n i j : Nat} {r : Nat → Nat} (hq : q < wn S) (hr : mr m n r) (hi : i ≤ n) (hj : j ≤ wl S q) : mm_F l D kA B sz o 0 0 mX10_isTurned [.ref (B + 226), .int (nI q), .int (nI i), .int (nI j)] m (fun v m' => m' = m ∧ v = some (.int (if 1 < i ∧ 1 < j ∧ r (i - 2) = wt S q (j - 1) ∧ r (i - 1) = wt S q (j - 2) then nI 1 else nI 0))) := by
  have n60 := hk.2.2.1
  have w12 := (hk.2.2.2.1 q hq).2.1
  have n12 := hr.2.1
  refine mm_F.of ?_
  refine e_iload_n dX10_isTurned_0 rfl rfl ?_
  refine e_iconst (v := nI 1) dX10_isTurned_1 (by decide) ?_
  refine n_icmp_le 62 dX10_isTurned_2 (by decide) (by omega) (by omega) (fun g1 => ?_) (fun g1 => ?_)
  · refine e_iconst (v := nI 0) dX10_isTurned_62 (by decide) ?_
    exact m_zret dX10_isTurned_63 rfl (by first | rfl | decide | assumption) (Nat.le_refl _) (Nat.le_refl _) (⟨rfl, by rw [if_neg (fun z => by omega)]⟩)
  · refine e_iload_n dX10_isTurned_5 rfl rfl ?_
    refine e_iconst (v := nI 1) dX10_isTurned_6 (by decide) ?_
    refine n_icmp_le 62 dX10_isTurned_7 (by decide) (by omega) (by omega) (fun g2 => ?_) (fun g2 => ?_)
    · refine e_iconst (v := nI 0) dX10_isTurned_62 (by decide) ?_
      exact m_zret dX10_isTurned_63 rfl (by first | rfl | decide | assumption) (Nat.le_refl _) (Nat.le_refl _) (⟨rfl, by rw [if_neg (fun z => by omega)]⟩)
    · have x1 := hr.2.2 (i - 2) (by omega)
      have x2 := hr.2.2 (i - 1) (by omega)
      have y1 := (hk.2.2.2.1 q hq).2.2.1 (j - 1) (by omega)
      have y2 := (hk.2.2.2.1 q hq).2.2.1 (j - 2) (by omega)
      refine e_aload_n dX10_isTurned_10 rfl rfl ?_
      refine m_get 10 14 lf_X10_41 dX10_isTurned_11 (ly_226 B _ _) rfl ?_
      refine e_iload_n dX10_isTurned_14 rfl rfl ?_
      refine e_iconst (v := nI 2) dX10_isTurned_15 (by decide) ?_
      refine e_isub dX10_isTurned_16 ?_
      refine e_top (w := nI (i - 2)) (pk_sub (by omega)) ?_
      refine m_iald (i - 2) dX10_isTurned_17 (ly_237 B _ _) (rfl) (by omega) (by decide) ?_
      refine e_top (w := nI (r (i - 2))) (x1.1) ?_
      refine e_aload_n dX10_isTurned_18 rfl rfl ?_
      refine m_get 10 5 lf_X10_16 dX10_isTurned_19 (ly_226 B _ _) rfl ?_
      refine e_bipush (v := nI 12) dX10_isTurned_22 (by decide) ?_
      refine e_iload_n dX10_isTurned_24 rfl rfl ?_
      refine e_imul dX10_isTurned_25 ?_
      refine e_top (w := nI (12 * q)) (pk_mul _ _) ?_
      refine e_iload_n dX10_isTurned_26 rfl rfl ?_
      refine e_iadd dX10_isTurned_27 ?_
      refine e_top (w := nI ((12 * q) + j)) (nI_add _ _) ?_
      refine e_iconst (v := nI 1) dX10_isTurned_28 (by decide) ?_
      refine e_isub dX10_isTurned_29 ?_
      refine e_top (w := nI (((12 * q) + j) - 1)) (pk_sub (by omega)) ?_
      refine m_iald (((12 * q) + j) - 1) dX10_isTurned_30 (ly_229 B _ _) (rfl) (by omega) (by decide) ?_
      refine e_top (w := nI (wt S q (j - 1))) ((by rw [show 12 * q + j - 1 = 12 * q + (j - 1) by omega]; exact hm.xwt q (j - 1) hq (by omega))) ?_
      refine n_icmp_ne 62 dX10_isTurned_31 (by decide) (by omega) (by omega) (fun g3 => ?_) (fun g3 => ?_)
      · refine e_iconst (v := nI 0) dX10_isTurned_62 (by decide) ?_
        exact m_zret dX10_isTurned_63 rfl (by first | rfl | decide | assumption) (Nat.le_refl _) (Nat.le_refl _) (⟨rfl, by rw [if_neg (fun z => g3 z.2.2.1)]⟩)
      · refine e_aload_n dX10_isTurned_34 rfl rfl ?_
        refine m_get 10 14 lf_X10_41 dX10_isTurned_35 (ly_226 B _ _) rfl ?_
        refine e_iload_n dX10_isTurned_38 rfl rfl ?_
        refine e_iconst (v := nI 1) dX10_isTurned_39 (by decide) ?_
        refine e_isub dX10_isTurned_40 ?_
        refine e_top (w := nI (i - 1)) (pk_sub (by omega)) ?_
        refine m_iald (i - 1) dX10_isTurned_41 (ly_237 B _ _) (rfl) (by omega) (by decide) ?_
        refine e_top (w := nI (r (i - 1))) (x2.1) ?_
        refine e_aload_n dX10_isTurned_42 rfl rfl ?_
        refine m_get 10 5 lf_X10_16 dX10_isTurned_43 (ly_226 B _ _) rfl ?_
        refine e_bipush (v := nI 12) dX10_isTurned_46 (by decide) ?_
        refine e_iload_n dX10_isTurned_48 rfl rfl ?_
        refine e_imul dX10_isTurned_49 ?_
        refine e_top (w := nI (12 * q)) (pk_mul _ _) ?_
        refine e_iload_n dX10_isTurned_50 rfl rfl ?_
        refine e_iadd dX10_isTurned_51 ?_
        refine e_top (w := nI ((12 * q) + j)) (nI_add _ _) ?_
        refine e_iconst (v := nI 2) dX10_isTurned_52 (by decide) ?_
        refine e_isub dX10_isTurned_53 ?_
        refine e_top (w := nI (((12 * q) + j) - 2)) (pk_sub (by omega)) ?_
        refine m_iald (((12 * q) + j) - 2) dX10_isTurned_54 (ly_229 B _ _) (rfl) (by omega) (by decide) ?_
        refine e_top (w := nI (wt S q (j - 2))) ((by rw [show 12 * q + j - 2 = 12 * q + (j - 2) by omega]; exact hm.xwt q (j - 2) hq (by omega))) ?_
        refine n_icmp_ne 62 dX10_isTurned_55 (by decide) (by omega) (by omega) (fun g4 => ?_) (fun g4 => ?_)
        · refine e_iconst (v := nI 0) dX10_isTurned_62 (by decide) ?_
          exact m_zret dX10_isTurned_63 rfl (by first | rfl | decide | assumption) (Nat.le_refl _) (Nat.le_refl _) (⟨rfl, by rw [if_neg (fun z => g4 z.2.2.2)]⟩)
        · refine e_iconst (v := nI 1) dX10_isTurned_58 (by decide) ?_
          refine e_goto 63 dX10_isTurned_59 (by decide) ?_
          exact m_zret dX10_isTurned_63 rfl (by first | rfl | decide | assumption) (Nat.le_refl _) (Nat.le_refl _) (⟨rfl, by rw [if_pos ⟨by omega, by omega, g3, g4⟩]⟩)
def P_mfill (m : mm_M) (S : sp_S) (r : Nat → Nat) (n q : Nat) (v : Option Value) (m' : mm_M) : Prop := v = some (.int (nI (tb S r q n (wl S q)))) ∧ (∀ a b, a ≤ n → b ≤ wl S q → m' 236 (13 * a + b) = nI (tb S r q a b)) ∧ ∀ a, a ≠ 236 → m' a = m a
set_option maxRecDepth 100000 in
set_option maxHeartbeats 4000000 in
theorem r_fill (m : mm_M) {S : sp_S} (hk : ok S) (hm : ms m S) {q n : Nat} {r : Nat → Nat} (hq : q < wn S) (hr : mr m n r) : mm_F l D kA B sz o 1 23 mX10_fill [.ref (B + 226), .int (nI q)] m (P_mfill m S r n q) := by
  have n60 := hk.2.2.1
  have w12 := (hk.2.2.2.1 q hq).2.1
  have n12 := hr.2.1
  have p0 := hk.2.2.2.2.2.1 0 (by omega)
  have p1 := hk.2.2.2.2.2.1 1 (by omega)
  have p2 := hk.2.2.2.2.2.1 2 (by omega)
  have p3 := hk.2.2.2.2.2.1 3 (by omega)
  have tl9 : ∀ a b, tb S r q a b ≤ 9 * (a + b) := fun a b => dd_le (w := ww S) r (wt S q) p0 p1 a b
  refine mm_F.of ?_
  refine e_iconst (v := nI 0) dX10_fill_0 (by decide) ?_
  refine e_istore_n dX10_fill_1 rfl (by decide) rfl ?_
  have outer : ∀ (d i : Nat) (m2 : mm_M) (x3 x4 x5 x6 x7 : Option Value), n + 1 - i = d → i ≤ n + 1 → (∀ a b, a < i → b ≤ wl S q → m2 236 (13 * a + b) = nI (tb S r q a b)) → (∀ a, a ≠ 236 → m2 a = m a) → mm_G l D kA B sz o 1 23 mX10_fill (P_mfill m S r n q) 2 [some (.ref (B + 226)), some (.int (nI q)), some (.int (nI i)), x3, x4, x5, x6, x7] [] m2 := by
    intro d
    induction d with
    | zero =>
      intro i m2 x3 x4 x5 x6 x7 hd hi h1 h2
      have hm2 := hm.of6 h2
      refine e_iload_n dX10_fill_2 rfl rfl ?_
      refine e_aload_n dX10_fill_3 rfl rfl ?_
      refine m_get 10 15 lf_X10_88 dX10_fill_4 (ly_226 B _ _) rfl ?_
      refine e_top (w := nI n) ((hr.of h2).1) ?_
      refine n_icmp_gt 283 dX10_fill_7 (by decide) (by omega) (by omega) (fun g1 => ?_) (fun g1 => ?_)
      · refine e_aload_n dX10_fill_283 rfl rfl ?_
        refine m_get 10 13 lf_X10_38 dX10_fill_284 (ly_226 B _ _) rfl ?_
        refine e_bipush (v := nI 13) dX10_fill_287 (by decide) ?_
        refine e_aload_n dX10_fill_289 rfl rfl ?_
        refine m_get 10 15 lf_X10_88 dX10_fill_290 (ly_226 B _ _) rfl ?_
        refine e_top (w := nI n) ((hr.of h2).1) ?_
        refine e_imul dX10_fill_293 ?_
        refine e_top (w := nI (13 * n)) (pk_mul _ _) ?_
        refine e_aload_n dX10_fill_294 rfl rfl ?_
        refine m_get 10 4 lf_X10_13 dX10_fill_295 (ly_226 B _ _) rfl ?_
        refine e_iload_n dX10_fill_298 rfl rfl ?_
        refine m_iald (q) dX10_fill_299 (ly_228 B _ _) (rfl) (by omega) (by decide) ?_
        refine e_top (w := nI (wl S q)) (hm2.xwl q hq) ?_
        refine e_iadd dX10_fill_300 ?_
        refine e_top (w := nI ((13 * n) + (wl S q))) (nI_add _ _) ?_
        refine m_iald ((13 * n) + (wl S q)) dX10_fill_301 (ly_236 B _ _) (rfl) (by omega) (by decide) ?_
        exact m_iret dX10_fill_302 rfl (Nat.le_refl _) (Nat.le_refl _) (⟨by rw [h1 n (wl S q) (by omega) (by omega)], fun a b ha hb => h1 a b (by omega) hb, h2⟩)
      · exact absurd g1 (by omega)
    | succ d ih =>
      intro i m2 x3 x4 x5 x6 x7 hd hi h1 h2
      refine e_iload_n dX10_fill_2 rfl rfl ?_
      refine e_aload_n dX10_fill_3 rfl rfl ?_
      refine m_get 10 15 lf_X10_88 dX10_fill_4 (ly_226 B _ _) rfl ?_
      refine e_top (w := nI n) ((hr.of h2).1) ?_
      refine n_icmp_gt 283 dX10_fill_7 (by decide) (by omega) (by omega) (fun g1 => ?_) (fun g1 => ?_)
      · exact absurd g1 (by omega)
      · refine e_iconst (v := nI 0) dX10_fill_10 (by decide) ?_
        refine e_istore_n dX10_fill_11 rfl (by decide) rfl ?_
        have inner : ∀ (e j : Nat) (m3 : mm_M) (x4 x5 x6 x7 : Option Value), wl S q + 1 - j = e → j ≤ wl S q + 1 → (∀ a b, a < i → b ≤ wl S q → m3 236 (13 * a + b) = nI (tb S r q a b)) → (∀ b, b < j → m3 236 (13 * i + b) = nI (tb S r q i b)) → (∀ a, a ≠ 236 → m3 a = m a) → mm_G l D kA B sz o 1 23 mX10_fill (P_mfill m S r n q) 12 [some (.ref (B + 226)), some (.int (nI q)), some (.int (nI i)), some (.int (nI j)), x4, x5, x6, x7] [] m3 := by
          intro e
          induction e with
          | zero =>
            intro j m3 x4 x5 x6 x7 he hj g3 g4 g5
            have hm3 := hm.of6 g5
            refine e_iload_n dX10_fill_12 rfl rfl ?_
            refine e_aload_n dX10_fill_13 rfl rfl ?_
            refine m_get 10 4 lf_X10_13 dX10_fill_14 (ly_226 B _ _) rfl ?_
            refine e_iload_n dX10_fill_17 rfl rfl ?_
            refine m_iald (q) dX10_fill_18 (ly_228 B _ _) (rfl) (by omega) (by decide) ?_
            refine e_top (w := nI (wl S q)) (hm3.xwl q hq) ?_
            refine n_icmp_gt 277 dX10_fill_19 (by decide) (by omega) (by omega) (fun g2 => ?_) (fun g2 => ?_)
            · refine e_iinc (v := nI (i + 1)) dX10_fill_277 rfl (nI_add _ _) (by decide) rfl ?_
              refine e_goto 2 dX10_fill_280 (by decide) ?_
              refine ih (i + 1) m3 _ _ _ _ _ (by omega) (by omega) (fun a b ha hb => ?_) g5
              by_cases e9 : a = i
              · subst e9; exact g4 b (by omega)
              · exact g3 a b (by omega) hb
            · exact absurd g2 (by omega)
          | succ e ih2 =>
            intro j m3 x4 x5 x6 x7 he hj g3 g4 g5
            have hm3 := hm.of6 g5
            have hr3 := hr.of g5
            have at258 : ∀ (x5 x6 x7 : Option Value), mm_G l D kA B sz o 1 23 mX10_fill (P_mfill m S r n q) 258 [some (.ref (B + 226)), some (.int (nI q)), some (.int (nI i)), some (.int (nI j)), some (.int (nI (tb S r q i j))), x5, x6, x7] [] m3 := by
              intro x5 x6 x7
              refine e_aload_n dX10_fill_258 rfl rfl ?_
              refine m_get 10 13 lf_X10_38 dX10_fill_259 (ly_226 B _ _) rfl ?_
              refine e_bipush (v := nI 13) dX10_fill_262 (by decide) ?_
              refine e_iload_n dX10_fill_264 rfl rfl ?_
              refine e_imul dX10_fill_265 ?_
              refine e_top (w := nI (13 * i)) (pk_mul _ _) ?_
              refine e_iload_n dX10_fill_266 rfl rfl ?_
              refine e_iadd dX10_fill_267 ?_
              refine e_top (w := nI ((13 * i) + j)) (nI_add _ _) ?_
              refine e_iload dX10_fill_268 rfl ?_
              refine m_iast ((13 * i) + j) dX10_fill_270 (fun m => ly_236 B m _) (rfl) (by omega) (by decide) ?_
              refine e_iinc (v := nI (j + 1)) dX10_fill_271 rfl (nI_add _ _) (by decide) rfl ?_
              refine e_goto 12 dX10_fill_274 (by decide) ?_
              refine ih2 (j + 1) _ _ _ _ _ (by omega) (by omega) (fun a b ha hb => ?_) (fun b hb => ?_) (fun a ha => by rw [wr_off _ _ ha]; exact g5 a ha)
              · rw [wr_ne _ _ (Or.inr (by omega))]; exact g3 a b ha hb
              · by_cases e9 : b = j
                · subst e9; rw [wr_same]
                · rw [wr_ne _ _ (Or.inr (by omega))]; exact g4 b (by omega)
            have at208 : ∀ (b : Nat) (x5 x6 x7 : Option Value), b ≤ 100000 → fg4 (pp S) (ww S) r (wt S q) i j b = tb S r q i j → mm_G l D kA B sz o 1 23 mX10_fill (P_mfill m S r n q) 208 [some (.ref (B + 226)), some (.int (nI q)), some (.int (nI i)), some (.int (nI j)), some (.int (nI b)), x5, x6, x7] [] m3 := by
              intro b x5 x6 x7 hb he
              refine e_aload_n dX10_fill_208 rfl rfl ?_
              refine e_iload_n dX10_fill_209 rfl rfl ?_
              refine e_iload_n dX10_fill_210 rfl rfl ?_
              refine e_iload_n dX10_fill_211 rfl rfl ?_
              refine m_callV (As := [_, _, _]) lc_X10_96 dX10_fill_212 (ly_226 B _ _) rfl rfl (by simp [Value.category]) (Nat.le_of_ble_eq_true rfl) (Nat.le_of_ble_eq_true rfl) ⟨Nat.le_of_ble_eq_true rfl, Nat.le_of_ble_eq_true rfl⟩ ⟨Nat.le_of_ble_eq_true rfl, Nat.le_of_ble_eq_true rfl⟩ (r_isTurned m3 hk hm3 hq hr3 (i := i) (j := j) (by omega) (by omega)) (fun v9 m9 hp9 => ?_)
              obtain ⟨rfl, rfl⟩ := hp9
              unfold fg4 at he
              by_cases hT : 1 < i ∧ 1 < j ∧ r (i - 2) = wt S q (j - 1) ∧ r (i - 1) = wt S q (j - 2)
              · rw [if_pos hT] at he ⊢
                change min (tb S r q (i - 2) (j - 2) + pp S 3) b = tb S r q i j at he
                have t1 := tl9 (i - 2) (j - 2)
                refine e_if_eq 258 dX10_fill_215 (by decide) (fun c1 => ?_) (fun c1 => ?_)
                · exact absurd c1 (by decide)
                · refine e_aload_n dX10_fill_218 rfl rfl ?_
                  refine m_get 10 13 lf_X10_38 dX10_fill_219 (ly_226 B _ _) rfl ?_
                  refine e_bipush (v := nI 13) dX10_fill_222 (by decide) ?_
                  refine e_iload_n dX10_fill_224 rfl rfl ?_
                  refine e_iconst (v := nI 2) dX10_fill_225 (by decide) ?_
                  refine e_isub dX10_fill_226 ?_
                  refine e_top (w := nI (i - 2)) (pk_sub (by omega)) ?_
                  refine e_imul dX10_fill_227 ?_
                  refine e_top (w := nI (13 * (i - 2))) (pk_mul _ _) ?_
                  refine e_iload_n dX10_fill_228 rfl rfl ?_
                  refine e_iadd dX10_fill_229 ?_
                  refine e_top (w := nI ((13 * (i - 2)) + j)) (nI_add _ _) ?_
                  refine e_iconst (v := nI 2) dX10_fill_230 (by decide) ?_
                  refine e_isub dX10_fill_231 ?_
                  refine e_top (w := nI (((13 * (i - 2)) + j) - 2)) (pk_sub (by omega)) ?_
                  refine m_iald (((13 * (i - 2)) + j) - 2) dX10_fill_232 (ly_236 B _ _) (rfl) (by omega) (by decide) ?_
                  refine e_top (w := nI (tb S r q (i - 2) (j - 2))) ((by rw [show 13 * (i - 2) + j - 2 = 13 * (i - 2) + (j - 2) by omega]; exact g3 (i - 2) (j - 2) (by omega) (by omega))) ?_
                  refine e_aload_n dX10_fill_233 rfl rfl ?_
                  refine m_get 10 7 lf_X10_22 dX10_fill_234 (ly_226 B _ _) rfl ?_
                  refine e_iconst (v := nI 3) dX10_fill_237 (by decide) ?_
                  refine m_iald (3) dX10_fill_238 (ly_231 B _ _) (rfl) (by omega) (by decide) ?_
                  refine e_top (w := nI (pp S 3)) (hm3.xpp 3 (by omega)) ?_
                  refine e_iadd dX10_fill_239 ?_
                  refine e_top (w := nI ((tb S r q (i - 2) (j - 2)) + (pp S 3))) (nI_add _ _) ?_
                  refine e_istore dX10_fill_240 (by decide) rfl ?_
                  refine e_iload dX10_fill_242 rfl ?_
                  refine e_iload dX10_fill_244 rfl ?_
                  refine n_icmp_ge 254 dX10_fill_246 (by decide) (by omega) (by omega) (fun c2 => ?_) (fun c2 => ?_)
                  · refine e_iload dX10_fill_254 rfl ?_
                    refine e_istore dX10_fill_256 (by decide) rfl ?_
                    rw [show b = tb S r q i j by omega]
                    exact at258 _ _ _
                  · refine e_iload dX10_fill_249 rfl ?_
                    refine e_goto 256 dX10_fill_251 (by decide) ?_
                    refine e_istore dX10_fill_256 (by decide) rfl ?_
                    rw [show tb S r q (i - 2) (j - 2) + pp S 3 = tb S r q i j by omega]
                    exact at258 _ _ _
              · rw [if_neg hT] at he ⊢
                refine e_if_eq 258 dX10_fill_215 (by decide) (fun c1 => ?_) (fun c1 => ?_)
                · rw [he]
                  exact at258 _ _ _
                · exact absurd rfl c1
            have at122 : ∀ (b : Nat) (x5 x6 x7 : Option Value), b ≤ 100000 → fg3 (pp S) (ww S) r (wt S q) i j b = tb S r q i j → mm_G l D kA B sz o 1 23 mX10_fill (P_mfill m S r n q) 122 [some (.ref (B + 226)), some (.int (nI q)), some (.int (nI i)), some (.int (nI j)), some (.int (nI b)), x5, x6, x7] [] m3 := by
              intro b x5 x6 x7 hb he
              unfold fg3 at he
              refine e_iload_n dX10_fill_122 rfl rfl ?_
              refine n_if_le 208 dX10_fill_123 (by decide) (by omega) (fun c1 => ?_) (fun c1 => ?_)
              · rw [if_neg (by omega)] at he
                exact at208 b _ _ _ hb he
              · refine e_iload_n dX10_fill_126 rfl rfl ?_
                refine n_if_le 208 dX10_fill_127 (by decide) (by omega) (fun c2 => ?_) (fun c2 => ?_)
                · rw [if_neg (by omega)] at he
                  exact at208 b _ _ _ hb he
                · rw [if_pos (by omega)] at he
                  obtain ⟨y1, y2⟩ := hr3.2.2 (i - 1) (by omega)
                  have y3 := (hk.2.2.2.1 q hq).2.2.1 (j - 1) (by omega)
                  have t1 := tl9 (i - 1) (j - 1)
                  have b9 : bc (pp S) (ww S) (r (i - 1)) (wt S q (j - 1)) ≤ 9 := by
                    have := hk.2.2.2.2.2.2.2.2.1 (r (i - 1)) (wt S q (j - 1))
                    unfold bc
                    split
                    · omega
                    · split <;> omega
                  refine e_aload_n dX10_fill_130 rfl rfl ?_
                  refine m_get 10 14 lf_X10_41 dX10_fill_131 (ly_226 B _ _) rfl ?_
                  refine e_iload_n dX10_fill_134 rfl rfl ?_
                  refine e_iconst (v := nI 1) dX10_fill_135 (by decide) ?_
                  refine e_isub dX10_fill_136 ?_
                  refine e_top (w := nI (i - 1)) (pk_sub (by omega)) ?_
                  refine m_iald (i - 1) dX10_fill_137 (ly_237 B _ _) (rfl) (by omega) (by decide) ?_
                  refine e_top (w := nI (r (i - 1))) (y1) ?_
                  refine e_istore dX10_fill_138 (by decide) rfl ?_
                  refine e_aload_n dX10_fill_140 rfl rfl ?_
                  refine m_get 10 5 lf_X10_16 dX10_fill_141 (ly_226 B _ _) rfl ?_
                  refine e_bipush (v := nI 12) dX10_fill_144 (by decide) ?_
                  refine e_iload_n dX10_fill_146 rfl rfl ?_
                  refine e_imul dX10_fill_147 ?_
                  refine e_top (w := nI (12 * q)) (pk_mul _ _) ?_
                  refine e_iload_n dX10_fill_148 rfl rfl ?_
                  refine e_iadd dX10_fill_149 ?_
                  refine e_top (w := nI ((12 * q) + j)) (nI_add _ _) ?_
                  refine e_iconst (v := nI 1) dX10_fill_150 (by decide) ?_
                  refine e_isub dX10_fill_151 ?_
                  refine e_top (w := nI (((12 * q) + j) - 1)) (pk_sub (by omega)) ?_
                  refine m_iald (((12 * q) + j) - 1) dX10_fill_152 (ly_229 B _ _) (rfl) (by omega) (by decide) ?_
                  refine e_top (w := nI (wt S q (j - 1))) ((by rw [show 12 * q + j - 1 = 12 * q + (j - 1) by omega]; exact hm3.xwt q (j - 1) hq (by omega))) ?_
                  refine e_istore dX10_fill_153 (by decide) rfl ?_
                  refine e_aload_n dX10_fill_155 rfl rfl ?_
                  refine m_get 10 13 lf_X10_38 dX10_fill_156 (ly_226 B _ _) rfl ?_
                  refine e_bipush (v := nI 13) dX10_fill_159 (by decide) ?_
                  refine e_iload_n dX10_fill_161 rfl rfl ?_
                  refine e_iconst (v := nI 1) dX10_fill_162 (by decide) ?_
                  refine e_isub dX10_fill_163 ?_
                  refine e_top (w := nI (i - 1)) (pk_sub (by omega)) ?_
                  refine e_imul dX10_fill_164 ?_
                  refine e_top (w := nI (13 * (i - 1))) (pk_mul _ _) ?_
                  refine e_iload_n dX10_fill_165 rfl rfl ?_
                  refine e_iadd dX10_fill_166 ?_
                  refine e_top (w := nI ((13 * (i - 1)) + j)) (nI_add _ _) ?_
                  refine e_iconst (v := nI 1) dX10_fill_167 (by decide) ?_
                  refine e_isub dX10_fill_168 ?_
                  refine e_top (w := nI (((13 * (i - 1)) + j) - 1)) (pk_sub (by omega)) ?_
                  refine m_iald (((13 * (i - 1)) + j) - 1) dX10_fill_169 (ly_236 B _ _) (rfl) (by omega) (by decide) ?_
                  refine e_top (w := nI (tb S r q (i - 1) (j - 1))) ((by rw [show 13 * (i - 1) + j - 1 = 13 * (i - 1) + (j - 1) by omega]; exact g3 (i - 1) (j - 1) (by omega) (by omega))) ?_
                  have at189 : ∀ c : Nat, c = bc (pp S) (ww S) (r (i - 1)) (wt S q (j - 1)) → mm_G l D kA B sz o 1 23 mX10_fill (P_mfill m S r n q) 189 [some (.ref (B + 226)), some (.int (nI q)), some (.int (nI i)), some (.int (nI j)), some (.int (nI b)), some (.int (nI (r (i - 1)))), some (.int (nI (wt S q (j - 1)))), x7] [.int (nI c), .int (nI (tb S r q (i - 1) (j - 1)))] m3 := by
                    rintro c rfl
                    refine e_iadd dX10_fill_189 ?_
                    refine e_top (w := nI ((tb S r q (i - 1) (j - 1)) + (bc (pp S) (ww S) (r (i - 1)) (wt S q (j - 1))))) (nI_add _ _) ?_
                    refine e_istore dX10_fill_190 (by decide) rfl ?_
                    refine e_iload dX10_fill_192 rfl ?_
                    refine e_iload dX10_fill_194 rfl ?_
                    refine n_icmp_ge 204 dX10_fill_196 (by decide) (by omega) (by omega) (fun c3 => ?_) (fun c3 => ?_)
                    · refine e_iload dX10_fill_204 rfl ?_
                      refine e_istore dX10_fill_206 (by decide) rfl ?_
                      refine at208 b _ _ _ hb ?_
                      rw [← he]
                      congr 1
                      show b = min (tb S r q (i - 1) (j - 1) + _) b
                      omega
                    · refine e_iload dX10_fill_199 rfl ?_
                      refine e_goto 206 dX10_fill_201 (by decide) ?_
                      refine e_istore dX10_fill_206 (by decide) rfl ?_
                      refine at208 _ _ _ _ (by omega) ?_
                      rw [← he]
                      congr 1
                      show _ = min (tb S r q (i - 1) (j - 1) + _) b
                      omega
                  refine e_iload dX10_fill_170 rfl ?_
                  refine e_iload dX10_fill_172 rfl ?_
                  refine n_icmp_ne 181 dX10_fill_174 (by decide) (by omega) (by omega) (fun c3 => ?_) (fun c3 => ?_)
                  · refine e_aload_n dX10_fill_181 rfl rfl ?_
                    refine e_iload dX10_fill_182 rfl ?_
                    refine e_iload dX10_fill_184 rfl ?_
                    refine m_callV (As := [_, _]) lc_X10_92 dX10_fill_186 (ly_226 B _ _) rfl rfl (by simp [Value.category]) (Nat.le_of_ble_eq_true rfl) (Nat.le_of_ble_eq_true rfl) ⟨Nat.le_of_ble_eq_true rfl, Nat.le_of_ble_eq_true rfl⟩ ⟨Nat.le_of_ble_eq_true rfl, Nat.le_of_ble_eq_true rfl⟩ (r_becomes m3 hk hm3 y2 y3 c3) (fun v9 m9 hp9 => ?_)
                    obtain ⟨rfl, rfl⟩ := hp9
                    exact at189 _ rfl
                  · refine e_iconst (v := nI 0) dX10_fill_177 (by decide) ?_
                    refine e_goto 189 dX10_fill_178 (by decide) ?_
                    exact at189 0 (by unfold bc; rw [if_pos c3])
            have at80 : ∀ (b : Nat) (x5 x6 x7 : Option Value), b ≤ 100000 → fg2 (pp S) (ww S) r (wt S q) i j b = tb S r q i j → mm_G l D kA B sz o 1 23 mX10_fill (P_mfill m S r n q) 80 [some (.ref (B + 226)), some (.int (nI q)), some (.int (nI i)), some (.int (nI j)), some (.int (nI b)), x5, x6, x7] [] m3 := by
              intro b x5 x6 x7 hb he
              unfold fg2 at he
              refine e_iload_n dX10_fill_80 rfl rfl ?_
              refine n_if_le 122 dX10_fill_81 (by decide) (by omega) (fun c1 => ?_) (fun c1 => ?_)
              · rw [if_neg (by omega)] at he
                exact at122 b _ _ _ hb he
              · rw [if_pos (by omega)] at he
                have t1 := tl9 i (j - 1)
                refine e_aload_n dX10_fill_84 rfl rfl ?_
                refine m_get 10 13 lf_X10_38 dX10_fill_85 (ly_226 B _ _) rfl ?_
                refine e_bipush (v := nI 13) dX10_fill_88 (by decide) ?_
                refine e_iload_n dX10_fill_90 rfl rfl ?_
                refine e_imul dX10_fill_91 ?_
                refine e_top (w := nI (13 * i)) (pk_mul _ _) ?_
                refine e_iload_n dX10_fill_92 rfl rfl ?_
                refine e_iadd dX10_fill_93 ?_
                refine e_top (w := nI ((13 * i) + j)) (nI_add _ _) ?_
                refine e_iconst (v := nI 1) dX10_fill_94 (by decide) ?_
                refine e_isub dX10_fill_95 ?_
                refine e_top (w := nI (((13 * i) + j) - 1)) (pk_sub (by omega)) ?_
                refine m_iald (((13 * i) + j) - 1) dX10_fill_96 (ly_236 B _ _) (rfl) (by omega) (by decide) ?_
                refine e_top (w := nI (tb S r q i (j - 1))) ((by rw [show 13 * i + j - 1 = 13 * i + (j - 1) by omega]; exact g4 (j - 1) (by omega))) ?_
                refine e_aload_n dX10_fill_97 rfl rfl ?_
                refine m_get 10 7 lf_X10_22 dX10_fill_98 (ly_226 B _ _) rfl ?_
                refine e_iconst (v := nI 0) dX10_fill_101 (by decide) ?_
                refine m_iald (0) dX10_fill_102 (ly_231 B _ _) (rfl) (by omega) (by decide) ?_
                refine e_top (w := nI (pp S 0)) (hm3.xpp 0 (by omega)) ?_
                refine e_iadd dX10_fill_103 ?_
                refine e_top (w := nI ((tb S r q i (j - 1)) + (pp S 0))) (nI_add _ _) ?_
                refine e_istore dX10_fill_104 (by decide) rfl ?_
                refine e_iload dX10_fill_106 rfl ?_
                refine e_iload dX10_fill_108 rfl ?_
                refine n_icmp_ge 118 dX10_fill_110 (by decide) (by omega) (by omega) (fun c2 => ?_) (fun c2 => ?_)
                · refine e_iload dX10_fill_118 rfl ?_
                  refine e_istore dX10_fill_120 (by decide) rfl ?_
                  refine at122 b _ _ _ hb ?_
                  rw [← he]
                  congr 1
                  show b = min (tb S r q i (j - 1) + _) b
                  omega
                · refine e_iload dX10_fill_113 rfl ?_
                  refine e_goto 120 dX10_fill_115 (by decide) ?_
                  refine e_istore dX10_fill_120 (by decide) rfl ?_
                  refine at122 _ _ _ _ (by omega) ?_
                  rw [← he]
                  congr 1
                  show _ = min (tb S r q i (j - 1) + _) b
                  omega
            have at38 : ∀ (b : Nat) (x5 x6 x7 : Option Value), b ≤ 100000 → fg1 (pp S) (ww S) r (wt S q) i j b = tb S r q i j → mm_G l D kA B sz o 1 23 mX10_fill (P_mfill m S r n q) 38 [some (.ref (B + 226)), some (.int (nI q)), some (.int (nI i)), some (.int (nI j)), some (.int (nI b)), x5, x6, x7] [] m3 := by
              intro b x5 x6 x7 hb he
              unfold fg1 at he
              refine e_iload_n dX10_fill_38 rfl rfl ?_
              refine n_if_le 80 dX10_fill_39 (by decide) (by omega) (fun c1 => ?_) (fun c1 => ?_)
              · rw [if_neg (by omega)] at he
                exact at80 b _ _ _ hb he
              · rw [if_pos (by omega)] at he
                have t1 := tl9 (i - 1) j
                refine e_aload_n dX10_fill_42 rfl rfl ?_
                refine m_get 10 13 lf_X10_38 dX10_fill_43 (ly_226 B _ _) rfl ?_
                refine e_bipush (v := nI 13) dX10_fill_46 (by decide) ?_
                refine e_iload_n dX10_fill_48 rfl rfl ?_
                refine e_iconst (v := nI 1) dX10_fill_49 (by decide) ?_
                refine e_isub dX10_fill_50 ?_
                refine e_top (w := nI (i - 1)) (pk_sub (by omega)) ?_
                refine e_imul dX10_fill_51 ?_
                refine e_top (w := nI (13 * (i - 1))) (pk_mul _ _) ?_
                refine e_iload_n dX10_fill_52 rfl rfl ?_
                refine e_iadd dX10_fill_53 ?_
                refine e_top (w := nI ((13 * (i - 1)) + j)) (nI_add _ _) ?_
                refine m_iald ((13 * (i - 1)) + j) dX10_fill_54 (ly_236 B _ _) (rfl) (by omega) (by decide) ?_
                refine e_top (w := nI (tb S r q (i - 1) j)) (g3 (i - 1) j (by omega) (by omega)) ?_
                refine e_aload_n dX10_fill_55 rfl rfl ?_
                refine m_get 10 7 lf_X10_22 dX10_fill_56 (ly_226 B _ _) rfl ?_
                refine e_iconst (v := nI 1) dX10_fill_59 (by decide) ?_
                refine m_iald (1) dX10_fill_60 (ly_231 B _ _) (rfl) (by omega) (by decide) ?_
                refine e_top (w := nI (pp S 1)) (hm3.xpp 1 (by omega)) ?_
                refine e_iadd dX10_fill_61 ?_
                refine e_top (w := nI ((tb S r q (i - 1) j) + (pp S 1))) (nI_add _ _) ?_
                refine e_istore dX10_fill_62 (by decide) rfl ?_
                refine e_iload dX10_fill_64 rfl ?_
                refine e_iload dX10_fill_66 rfl ?_
                refine n_icmp_ge 76 dX10_fill_68 (by decide) (by omega) (by omega) (fun c2 => ?_) (fun c2 => ?_)
                · refine e_iload dX10_fill_76 rfl ?_
                  refine e_istore dX10_fill_78 (by decide) rfl ?_
                  refine at80 b _ _ _ hb ?_
                  rw [← he]
                  congr 1
                  show b = min (tb S r q (i - 1) j + _) b
                  omega
                · refine e_iload dX10_fill_71 rfl ?_
                  refine e_goto 78 dX10_fill_73 (by decide) ?_
                  refine e_istore dX10_fill_78 (by decide) rfl ?_
                  refine at80 _ _ _ _ (by omega) ?_
                  rw [← he]
                  congr 1
                  show _ = min (tb S r q (i - 1) j + _) b
                  omega
            have fin := fg_ok (pp S) (ww S) r (wt S q) p0 p1 (i := i) (j := j) (by omega) (by omega)
            refine e_iload_n dX10_fill_12 rfl rfl ?_
            refine e_aload_n dX10_fill_13 rfl rfl ?_
            refine m_get 10 4 lf_X10_13 dX10_fill_14 (ly_226 B _ _) rfl ?_
            refine e_iload_n dX10_fill_17 rfl rfl ?_
            refine m_iald (q) dX10_fill_18 (ly_228 B _ _) (rfl) (by omega) (by decide) ?_
            refine e_top (w := nI (wl S q)) (hm3.xwl q hq) ?_
            refine n_icmp_gt 277 dX10_fill_19 (by decide) (by omega) (by omega) (fun g2 => ?_) (fun g2 => ?_)
            · exact absurd g2 (by omega)
            · refine e_iload_n dX10_fill_22 rfl rfl ?_
              refine n_if_ne 34 dX10_fill_23 (by decide) (by omega) (fun c1 => ?_) (fun c1 => ?_)
              · rw [if_neg (by omega)] at fin
                refine e_ldc dX10_fill_34 lk_X10_91 ?_
                refine e_top (w := nI 100000) (rfl) ?_
                refine e_istore dX10_fill_36 (by decide) rfl ?_
                exact at38 100000 _ _ _ (by omega) fin
              · refine e_iload_n dX10_fill_26 rfl rfl ?_
                refine n_if_ne 34 dX10_fill_27 (by decide) (by omega) (fun c2 => ?_) (fun c2 => ?_)
                · rw [if_neg (by omega)] at fin
                  refine e_ldc dX10_fill_34 lk_X10_91 ?_
                  refine e_top (w := nI 100000) (rfl) ?_
                  refine e_istore dX10_fill_36 (by decide) rfl ?_
                  exact at38 100000 _ _ _ (by omega) fin
                · rw [if_pos (by omega)] at fin
                  refine e_iconst (v := nI 0) dX10_fill_30 (by decide) ?_
                  refine e_goto 36 dX10_fill_31 (by decide) ?_
                  refine e_istore dX10_fill_36 (by decide) rfl ?_
                  exact at38 0 _ _ _ (by omega) fin
        exact inner (wl S q + 1) 0 m2 _ _ _ _ (by omega) (by omega) h1 (fun b hb => by omega) h2
  exact outer (n + 1) 0 m _ _ _ _ _ (by omega) (by omega) (fun a b ha hb => by omega) (fun a ha => rfl)
set_option maxRecDepth 100000 in
theorem r_beginsBy (m : mm_M) {S : sp_S} (hk : ok S) (hm : ms m S) {q n : Nat} {r : Nat → Nat} (hq : q < wn S) (hr : mr m n r) : mm_F l D kA B sz o 2 50 mX10_beginsBy [.ref (B + 226), .int (nI q)] m (fun v m' => v = some (.int (nI (mx (fun j => tb S r q n j) (wl S q + 1)))) ∧ ∀ a, a ≠ 236 → m' a = m a) := by
  have n60 := hk.2.2.1
  have w12 := (hk.2.2.2.1 q hq).2.1
  have n12 := hr.2.1
  have tl9 : ∀ a b, tb S r q a b ≤ 9 * (a + b) := fun a b => dd_le (w := ww S) r (wt S q) (hk.2.2.2.2.2.1 0 (by omega)) (hk.2.2.2.2.2.1 1 (by omega)) a b
  have t0 := tl9 n (wl S q)
  refine mm_F.of ?_
  refine e_aload_n dX10_beginsBy_0 rfl rfl ?_
  refine e_iload_n dX10_beginsBy_1 rfl rfl ?_
  refine m_callV (As := [_]) lc_X10_99 dX10_beginsBy_2 (ly_226 B _ _) rfl rfl (by simp [Value.category]) (Nat.le_of_ble_eq_true rfl) (Nat.le_of_ble_eq_true rfl) ⟨Nat.le_of_ble_eq_true rfl, Nat.le_of_ble_eq_true rfl⟩ ⟨Nat.le_of_ble_eq_true rfl, Nat.le_of_ble_eq_true rfl⟩ (r_fill m hk hm hq hr) (fun v9 m1 hp9 => ?_)
  obtain ⟨rfl, h1, h2⟩ := hp9
  have hm1 := hm.of6 h2
  have hr1 := hr.of h2
  refine e_istore_n dX10_beginsBy_5 rfl (by decide) rfl ?_
  refine e_iconst (v := nI 0) dX10_beginsBy_6 (by decide) ?_
  refine e_istore_n dX10_beginsBy_7 rfl (by decide) rfl ?_
  have loop : ∀ (d j b : Nat) (x4 : Option Value), wl S q + 1 - j = d → j ≤ wl S q + 1 → b = min (tb S r q n (wl S q)) (mx (fun j => tb S r q n j) j) → mm_G l D kA B sz o 2 50 mX10_beginsBy (fun v m' => v = some (.int (nI (mx (fun j => tb S r q n j) (wl S q + 1)))) ∧ ∀ a, a ≠ 236 → m' a = m a) 8 [some (.ref (B + 226)), some (.int (nI q)), some (.int (nI b)), some (.int (nI j)), x4] [] m1 := by
    intro d
    induction d with
    | zero =>
      intro j b x4 hd hj hb
      refine e_iload_n dX10_beginsBy_8 rfl rfl ?_
      refine e_aload_n dX10_beginsBy_9 rfl rfl ?_
      refine m_get 10 4 lf_X10_13 dX10_beginsBy_10 (ly_226 B _ _) rfl ?_
      refine e_iload_n dX10_beginsBy_13 rfl rfl ?_
      refine m_iald (q) dX10_beginsBy_14 (ly_228 B _ _) (rfl) (by omega) (by decide) ?_
      refine e_top (w := nI (wl S q)) (hm1.xwl q hq) ?_
      refine n_icmp_gt 53 dX10_beginsBy_15 (by decide) (by omega) (by omega) (fun g1 => ?_) (fun g1 => ?_)
      · refine e_iload_n dX10_beginsBy_53 rfl rfl ?_
        have e : j = wl S q + 1 := by omega
        have e2 := mx_lt (f := fun j => tb S r q n j) (j := wl S q + 1) (i := wl S q) (by omega)
        subst e
        rw [Nat.min_eq_right e2] at hb
        exact m_iret dX10_beginsBy_54 rfl (Nat.le_refl _) (Nat.le_refl _) (⟨by rw [hb], h2⟩)
      · exact absurd g1 (by omega)
    | succ d ih =>
      intro j b x4 hd hj hb
      have t1 := tl9 n j
      have e1 : mx (fun j => tb S r q n j) (j + 1) = min (mx (fun j => tb S r q n j) j) (tb S r q n j) := rfl
      refine e_iload_n dX10_beginsBy_8 rfl rfl ?_
      refine e_aload_n dX10_beginsBy_9 rfl rfl ?_
      refine m_get 10 4 lf_X10_13 dX10_beginsBy_10 (ly_226 B _ _) rfl ?_
      refine e_iload_n dX10_beginsBy_13 rfl rfl ?_
      refine m_iald (q) dX10_beginsBy_14 (ly_228 B _ _) (rfl) (by omega) (by decide) ?_
      refine e_top (w := nI (wl S q)) (hm1.xwl q hq) ?_
      refine n_icmp_gt 53 dX10_beginsBy_15 (by decide) (by omega) (by omega) (fun g1 => ?_) (fun g1 => ?_)
      · exact absurd g1 (by omega)
      · refine e_aload_n dX10_beginsBy_18 rfl rfl ?_
        refine m_get 10 13 lf_X10_38 dX10_beginsBy_19 (ly_226 B _ _) rfl ?_
        refine e_bipush (v := nI 13) dX10_beginsBy_22 (by decide) ?_
        refine e_aload_n dX10_beginsBy_24 rfl rfl ?_
        refine m_get 10 15 lf_X10_88 dX10_beginsBy_25 (ly_226 B _ _) rfl ?_
        refine e_top (w := nI n) (hr1.1) ?_
        refine e_imul dX10_beginsBy_28 ?_
        refine e_top (w := nI (13 * n)) (pk_mul _ _) ?_
        refine e_iload_n dX10_beginsBy_29 rfl rfl ?_
        refine e_iadd dX10_beginsBy_30 ?_
        refine e_top (w := nI ((13 * n) + j)) (nI_add _ _) ?_
        refine m_iald ((13 * n) + j) dX10_beginsBy_31 (ly_236 B _ _) (rfl) (by omega) (by decide) ?_
        refine e_top (w := nI (tb S r q n j)) (h1 n j (by omega) (by omega)) ?_
        refine e_istore dX10_beginsBy_32 (by decide) rfl ?_
        refine e_iload dX10_beginsBy_34 rfl ?_
        refine e_iload_n dX10_beginsBy_36 rfl rfl ?_
        refine n_icmp_ge 45 dX10_beginsBy_37 (by decide) (by omega) (by omega) (fun g2 => ?_) (fun g2 => ?_)
        · refine e_iload_n dX10_beginsBy_45 rfl rfl ?_
          refine e_istore_n dX10_beginsBy_46 rfl (by decide) rfl ?_
          refine e_iinc (v := nI (j + 1)) dX10_beginsBy_47 rfl (nI_add _ _) (by decide) rfl ?_
          refine e_goto 8 dX10_beginsBy_50 (by decide) ?_
          exact ih (j + 1) b _ (by omega) (by omega) (by rw [e1]; omega)
        · refine e_iload dX10_beginsBy_40 rfl ?_
          refine e_goto 46 dX10_beginsBy_42 (by decide) ?_
          refine e_istore_n dX10_beginsBy_46 rfl (by decide) rfl ?_
          refine e_iinc (v := nI (j + 1)) dX10_beginsBy_47 rfl (nI_add _ _) (by decide) rfl ?_
          refine e_goto 8 dX10_beginsBy_50 (by decide) ?_
          exact ih (j + 1) _ _ (by omega) (by omega) (by rw [e1]; show tb S r q n j = _; omega)
  exact loop (wl S q + 1) 0 _ _ (by omega) (by omega) (by show tb S r q n (wl S q) = min (tb S r q n (wl S q)) 1000000; omega)
set_option maxRecDepth 100000 in
theorem r_distance (m : mm_M) {S : sp_S} (hk : ok S) (hm : ms m S) (w : Int32) : mm_F l D kA B sz o 2 50 mX10_distance [.ref (B + 226), .int w] m (fun v m' => (∃ y, v = some (.int y) ∧ R_dist S (ds S) w y) ∧ ms m' S ∧ fw m m') := by
  have t12 := hk.1
  refine mm_F.of ?_
  refine e_aload_n dX10_distance_0 rfl rfl ?_
  refine e_iconst (v := nI 0) dX10_distance_1 (by decide) ?_
  refine m_puti 10 0 lp_X10_62 dX10_distance_2 (ly_226 B _ _) (Nat.le_of_ble_eq_true rfl) (ly_226 B _ _) rfl ?_
  obtain ⟨m1, e1, hs, f1, -⟩ := ms_th (x := nI 0) hm
  rw [e1]
  refine e_aload_n dX10_distance_5 rfl rfl ?_
  refine e_iload_n dX10_distance_6 rfl rfl ?_
  refine m_callV (As := [_]) lc_X10_76 dX10_distance_7 (ly_226 B _ _) rfl rfl (by simp [Value.category]) (Nat.le_of_ble_eq_true rfl) (Nat.le_of_ble_eq_true rfl) ⟨Nat.le_of_ble_eq_true rfl, Nat.le_of_ble_eq_true rfl⟩ ⟨Nat.le_of_ble_eq_true rfl, Nat.le_of_ble_eq_true rfl⟩ (r_isWord m1 hk hs w) (fun v9 m9 hp9 => ?_)
  obtain ⟨rfl, ⟨rfl, q, q1, rfl⟩ | ⟨rfl, h1⟩⟩ := hp9
  · refine e_if_ne 15 dX10_distance_10 (by decide) (fun g1 => ?_) (fun g1 => ?_)
    · refine e_aload_n dX10_distance_15 rfl rfl ?_
      refine e_iconst (v := nI 0) dX10_distance_16 (by decide) ?_
      refine e_aload_n dX10_distance_17 rfl rfl ?_
      refine m_get 10 1 lf_X10_73 dX10_distance_18 (ly_226 B _ _) rfl ?_
      refine e_top (w := nI (tn S)) (hs.xtn) ?_
      refine m_callV (As := [_, _]) lc_X10_102 dX10_distance_21 (ly_226 B _ _) rfl rfl (by simp [Value.category]) (Nat.le_of_ble_eq_true rfl) (Nat.le_of_ble_eq_true rfl) ⟨Nat.le_of_ble_eq_true rfl, Nat.le_of_ble_eq_true rfl⟩ ⟨Nat.le_of_ble_eq_true rfl, Nat.le_of_ble_eq_true rfl⟩ (r_takeTyped m9 hk hs (a := 0) (b := tn S) (r := tl S) (by omega) (by omega) (fun i hi => by rw [Nat.zero_add])) (fun v9 m2 hp9 => ?_)
      obtain ⟨rfl, h2, h3⟩ := hp9
      rw [Nat.sub_zero] at h2
      have hs2 := h3.msS hs
      refine e_aload_n dX10_distance_24 rfl rfl ?_
      refine e_iload_n dX10_distance_25 rfl rfl ?_
      refine m_callV (As := [_]) lc_X10_99 dX10_distance_26 (ly_226 B _ _) rfl rfl (by simp [Value.category]) (Nat.le_of_ble_eq_true rfl) (Nat.le_of_ble_eq_true rfl) ⟨Nat.le_of_ble_eq_true rfl, Nat.le_of_ble_eq_true rfl⟩ ⟨Nat.le_of_ble_eq_true rfl, Nat.le_of_ble_eq_true rfl⟩ (r_fill m2 hk hs2 q1 h2) (fun v9 m3 hp9 => ?_)
      obtain ⟨rfl, -, h4⟩ := hp9
      exact m_iret dX10_distance_29 rfl (Nat.le_refl _) (Nat.le_refl _) (⟨⟨_, rfl, Or.inr ⟨q, q1, rfl, rfl⟩⟩, hs2.of6 h4, (f1.tr h3.fwS).tr (mf.of6 h4).fwS⟩)
    · exact absurd g1 (by decide)
  · refine e_if_ne 15 dX10_distance_10 (by decide) (fun g1 => ?_) (fun g1 => ?_)
    · exact absurd rfl g1
    · refine e_iconst (v := -1) dX10_distance_13 (by decide) ?_
      exact m_iret dX10_distance_14 rfl (Nat.le_refl _) (Nat.le_refl _) (⟨⟨_, rfl, Or.inl ⟨h1, rfl⟩⟩, hs, f1⟩)
set_option maxRecDepth 100000 in
theorem r_begins (m : mm_M) {S : sp_S} (hk : ok S) (hm : ms m S) (w : Int32) : mm_F l D kA B sz o 3 74 mX10_begins [.ref (B + 226), .int w] m (fun v m' => (∃ y, v = some (.int y) ∧ R_dist S (bg S) w y) ∧ ms m' S ∧ fw m m') := by
  have t12 := hk.1
  refine mm_F.of ?_
  refine e_aload_n dX10_begins_0 rfl rfl ?_
  refine e_iconst (v := nI 0) dX10_begins_1 (by decide) ?_
  refine m_puti 10 0 lp_X10_62 dX10_begins_2 (ly_226 B _ _) (Nat.le_of_ble_eq_true rfl) (ly_226 B _ _) rfl ?_
  obtain ⟨m1, e1, hs, f1, -⟩ := ms_th (x := nI 0) hm
  rw [e1]
  refine e_aload_n dX10_begins_5 rfl rfl ?_
  refine e_iload_n dX10_begins_6 rfl rfl ?_
  refine m_callV (As := [_]) lc_X10_76 dX10_begins_7 (ly_226 B _ _) rfl rfl (by simp [Value.category]) (Nat.le_of_ble_eq_true rfl) (Nat.le_of_ble_eq_true rfl) ⟨Nat.le_of_ble_eq_true rfl, Nat.le_of_ble_eq_true rfl⟩ ⟨Nat.le_of_ble_eq_true rfl, Nat.le_of_ble_eq_true rfl⟩ (r_isWord m1 hk hs w) (fun v9 m9 hp9 => ?_)
  obtain ⟨rfl, ⟨rfl, q, q1, rfl⟩ | ⟨rfl, h1⟩⟩ := hp9
  · refine e_if_ne 15 dX10_begins_10 (by decide) (fun g1 => ?_) (fun g1 => ?_)
    · refine e_aload_n dX10_begins_15 rfl rfl ?_
      refine e_iconst (v := nI 0) dX10_begins_16 (by decide) ?_
      refine e_aload_n dX10_begins_17 rfl rfl ?_
      refine m_get 10 1 lf_X10_73 dX10_begins_18 (ly_226 B _ _) rfl ?_
      refine e_top (w := nI (tn S)) (hs.xtn) ?_
      refine m_callV (As := [_, _]) lc_X10_102 dX10_begins_21 (ly_226 B _ _) rfl rfl (by simp [Value.category]) (Nat.le_of_ble_eq_true rfl) (Nat.le_of_ble_eq_true rfl) ⟨Nat.le_of_ble_eq_true rfl, Nat.le_of_ble_eq_true rfl⟩ ⟨Nat.le_of_ble_eq_true rfl, Nat.le_of_ble_eq_true rfl⟩ (r_takeTyped m9 hk hs (a := 0) (b := tn S) (r := tl S) (by omega) (by omega) (fun i hi => by rw [Nat.zero_add])) (fun v9 m2 hp9 => ?_)
      obtain ⟨rfl, h2, h3⟩ := hp9
      rw [Nat.sub_zero] at h2
      have hs2 := h3.msS hs
      refine e_aload_n dX10_begins_24 rfl rfl ?_
      refine e_iload_n dX10_begins_25 rfl rfl ?_
      refine m_callV (As := [_]) lc_X10_106 dX10_begins_26 (ly_226 B _ _) rfl rfl (by simp [Value.category]) (Nat.le_of_ble_eq_true rfl) (Nat.le_of_ble_eq_true rfl) ⟨Nat.le_of_ble_eq_true rfl, Nat.le_of_ble_eq_true rfl⟩ ⟨Nat.le_of_ble_eq_true rfl, Nat.le_of_ble_eq_true rfl⟩ (r_beginsBy m2 hk hs2 q1 h2) (fun v9 m3 hp9 => ?_)
      obtain ⟨rfl, h4⟩ := hp9
      exact m_iret dX10_begins_29 rfl (Nat.le_refl _) (Nat.le_refl _) (⟨⟨_, rfl, Or.inr ⟨q, q1, rfl, rfl⟩⟩, hs2.of6 h4, (f1.tr h3.fwS).tr (mf.of6 h4).fwS⟩)
    · exact absurd g1 (by decide)
  · refine e_if_ne 15 dX10_begins_10 (by decide) (fun g1 => ?_) (fun g1 => ?_)
    · exact absurd rfl g1
    · refine e_iconst (v := -1) dX10_begins_13 (by decide) ?_
      exact m_iret dX10_begins_14 rfl (Nat.le_refl _) (Nat.le_refl _) (⟨⟨_, rfl, Or.inl ⟨h1, rfl⟩⟩, hs, f1⟩)
end REI
