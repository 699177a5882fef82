/-- the least of the first j, and 1000000 -/
def mx (f : Nat → Nat) : Nat → Nat
  | 0 => 1000000
  | j + 1 => min (mx f j) (f j)
theorem mx_le (f : Nat → Nat) : ∀ j, mx f j ≤ 1000000
  | 0 => Nat.le_refl _
  | j + 1 => by
    have := mx_le f j
    show min (mx f j) (f j) ≤ _
    omega
theorem mx_ext {f g : Nat → Nat} : ∀ j, (∀ i, i < j → f i = g i) → mx f j = mx g j
  | 0, _ => rfl
  | j + 1, h => by
    show min (mx f j) (f j) = min (mx g j) (g j)
    rw [mx_ext j (fun i hi => h i (by omega)), h j (by omega)]
section WRD
variable {l : Launch} {D : va_G} {kA : FieldType → ClassId} {B sz : Nat} {o : Int64}
set_option maxRecDepth 100000 in
/-- Table.leastOfBeginnings -/
theorem c_leastOf (m : mm_M) {n k : Nat} {f : Nat → Nat} (hn : m 172 1 = nI n) (hk : m 174 1 = nI k) (n12 : n ≤ 12) (k12 : k ≤ 12) (H : ∀ b, b ≤ k → m (177 + n) b = nI (f b) ∧ f b ≤ 1000000) : mm_F l D kA B sz o 1 21 mX7_leastOfBeginnings [.ref (B + 171)] m (fun v m' => m' = m ∧ v = some (.int (nI (mx f (k + 1))))) := by
  refine mm_F.of ?_
  refine e_ldc dX7_leastOfBeginnings_0 lk_X7_58 ?_
  refine e_istore_n dX7_leastOfBeginnings_2 rfl (by decide) rfl ?_
  refine e_iconst (v := nI 0) dX7_leastOfBeginnings_3 (by decide) ?_
  refine e_istore_n dX7_leastOfBeginnings_4 rfl (by decide) rfl ?_
  have loop : ∀ (d j : Nat), k + 1 - j = d → j ≤ k + 1 → mm_G l D kA B sz o 1 21 mX7_leastOfBeginnings (fun v m' => m' = m ∧ v = some (.int (nI (mx f (k + 1))))) 5 [some (.ref (B + 171)), some (.int (nI (mx f j))), some (.int (nI j))] [] m := by
    intro d
    induction d with
    | zero =>
      intro j hd hj
      refine e_iload_n dX7_leastOfBeginnings_5 rfl rfl ?_
      refine e_aload_n dX7_leastOfBeginnings_6 rfl rfl ?_
      refine m_get 7 2 lf_X7_18 dX7_leastOfBeginnings_7 (ly_171 B _ _) rfl ?_
      refine m_get 5 1 lf_X7_48 dX7_leastOfBeginnings_10 (ly_174 B _ _) rfl ?_
      refine e_top (w := nI k) (hk) ?_
      refine n_icmp_gt 41 dX7_leastOfBeginnings_13 (by decide) (by omega) (by omega) (fun hc => ?_) (fun hc => ?_)
      · refine e_iload_n dX7_leastOfBeginnings_41 rfl rfl ?_
        exact m_iret dX7_leastOfBeginnings_42 rfl (Nat.le_refl _) (Nat.le_refl _) (⟨rfl, by rw [show j = k + 1 by omega]⟩)
      · exact absurd hc (by omega)
    | succ d ih =>
      intro j hd hj
      refine e_iload_n dX7_leastOfBeginnings_5 rfl rfl ?_
      refine e_aload_n dX7_leastOfBeginnings_6 rfl rfl ?_
      refine m_get 7 2 lf_X7_18 dX7_leastOfBeginnings_7 (ly_171 B _ _) rfl ?_
      refine m_get 5 1 lf_X7_48 dX7_leastOfBeginnings_10 (ly_174 B _ _) rfl ?_
      refine e_top (w := nI k) (hk) ?_
      refine n_icmp_gt 41 dX7_leastOfBeginnings_13 (by decide) (by omega) (by omega) (fun hc => ?_) (fun hc => ?_)
      · exact absurd hc (by omega)
      · obtain ⟨a1, a2⟩ := H j (by omega)
        have a3 := mx_le f j
        refine e_iload_n dX7_leastOfBeginnings_16 rfl rfl ?_
        refine e_aload_n dX7_leastOfBeginnings_17 rfl rfl ?_
        refine m_get 7 3 lf_X7_23 dX7_leastOfBeginnings_18 (ly_171 B _ _) rfl ?_
        refine e_aload_n dX7_leastOfBeginnings_21 rfl rfl ?_
        refine m_get 7 1 lf_X7_12 dX7_leastOfBeginnings_22 (ly_171 B _ _) rfl ?_
        refine m_get 5 1 lf_X7_48 dX7_leastOfBeginnings_25 (ly_172 B _ _) rfl ?_
        refine e_top (w := nI n) (hn) ?_
        refine m_aald (r := 177 + n) (n) dX7_leastOfBeginnings_28 (by decide) rfl (ly_176 B _ _) (rfl) (by omega) (by decide) (if_pos (by omega)) ?_
        refine e_iload_n dX7_leastOfBeginnings_29 rfl rfl ?_
        refine m_iald (j) dX7_leastOfBeginnings_30 (ly_le B _ _ (i := n) (by omega)) (rfl) (by omega) (by decide) ?_
        refine e_top (w := nI (f j)) (a1) ?_
        refine e_min dX7_leastOfBeginnings_31 lm_X7_59 wm_s wm_i wm_c (Nat.le_of_ble_eq_true rfl) (Nat.le_of_ble_eq_true rfl) (Nat.le_of_ble_eq_true rfl) (Nat.le_of_ble_eq_true rfl) rfl ?_
        refine e_top (w := nI (min (mx f j) (f j))) (min_nI (by omega) (by omega)) ?_
        refine e_istore_n dX7_leastOfBeginnings_34 rfl (by decide) rfl ?_
        refine e_iinc (v := nI (j + 1)) dX7_leastOfBeginnings_35 rfl (nI_add _ _) (by decide) rfl ?_
        refine e_goto 5 dX7_leastOfBeginnings_38 (by decide) ?_
        exact ih (j + 1) (by omega) (by omega)
  exact loop (k + 1) 0 (by omega) (by omega)
set_option maxRecDepth 100000 in
theorem c_kindOf (m : mm_M) {E : List (Nat × Nat)} {k : Nat} (h : ed_at m E) (h2 : E.length ≤ 24) (hk : k < E.length) : mm_F l D kA B sz o 0 0 mX7_kindOfEdit [.ref (B + 171), .int (nI k)] m (fun v m' => m' = m ∧ v = some (.int (m 190 (E.length - 1 - k)))) := by
  refine mm_F.of ?_
  refine e_aload_n dX7_kindOfEdit_0 rfl rfl ?_
  refine m_get 7 4 lf_X7_26 dX7_kindOfEdit_1 (ly_171 B _ _) rfl ?_
  refine e_aload_n dX7_kindOfEdit_4 rfl rfl ?_
  refine m_get 7 6 lf_X7_33 dX7_kindOfEdit_5 (ly_171 B _ _) rfl ?_
  refine e_top (w := nI (E.length)) (h.1) ?_
  refine e_iconst (v := nI 1) dX7_kindOfEdit_8 (by decide) ?_
  refine e_isub dX7_kindOfEdit_9 ?_
  refine e_top (w := nI ((E.length) - 1)) (pk_sub (by omega)) ?_
  refine e_iload_n dX7_kindOfEdit_10 rfl rfl ?_
  refine e_isub dX7_kindOfEdit_11 ?_
  refine e_top (w := nI (((E.length) - 1) - k)) (pk_sub (by omega)) ?_
  refine m_iald (((E.length) - 1) - k) dX7_kindOfEdit_12 (ly_190 B _ _) (rfl) (by omega) (by decide) ?_
  exact m_iret dX7_kindOfEdit_13 rfl (Nat.le_refl _) (Nat.le_refl _) (⟨rfl, rfl⟩)
set_option maxRecDepth 100000 in
theorem c_placeOf (m : mm_M) {E : List (Nat × Nat)} {k : Nat} (h : ed_at m E) (h2 : E.length ≤ 24) (hk : k < E.length) : mm_F l D kA B sz o 0 0 mX7_placeOfEdit [.ref (B + 171), .int (nI k)] m (fun v m' => m' = m ∧ v = some (.int (m 191 (E.length - 1 - k)))) := by
  refine mm_F.of ?_
  refine e_aload_n dX7_placeOfEdit_0 rfl rfl ?_
  refine m_get 7 5 lf_X7_30 dX7_placeOfEdit_1 (ly_171 B _ _) rfl ?_
  refine e_aload_n dX7_placeOfEdit_4 rfl rfl ?_
  refine m_get 7 6 lf_X7_33 dX7_placeOfEdit_5 (ly_171 B _ _) rfl ?_
  refine e_top (w := nI (E.length)) (h.1) ?_
  refine e_iconst (v := nI 1) dX7_placeOfEdit_8 (by decide) ?_
  refine e_isub dX7_placeOfEdit_9 ?_
  refine e_top (w := nI ((E.length) - 1)) (pk_sub (by omega)) ?_
  refine e_iload_n dX7_placeOfEdit_10 rfl rfl ?_
  refine e_isub dX7_placeOfEdit_11 ?_
  refine e_top (w := nI (((E.length) - 1) - k)) (pk_sub (by omega)) ?_
  refine m_iald (((E.length) - 1) - k) dX7_placeOfEdit_12 (ly_191 B _ _) (rfl) (by omega) (by decide) ?_
  exact m_iret dX7_placeOfEdit_13 rfl (Nat.le_refl _) (Nat.le_refl _) (⟨rfl, rfl⟩)
set_option maxRecDepth 100000 in
/-- Words.has -/
theorem c_has (m : mm_M) {n : Nat} (hn : m 32 4 = nI n) (n60 : n ≤ 60) (x : Int32) : mm_F l D kA B sz o 0 0 mX8_has [.ref (B + 32), .int x] m (fun v m' => m' = m ∧ ((v = some (.int (nI 1)) ∧ ∃ q, q < n ∧ x = nI q) ∨ (v = some (.int (nI 0)) ∧ ∀ q, q < n → x ≠ nI q))) := by
  refine mm_F.of ?_
  refine e_iload_n dX8_has_0 rfl rfl ?_
  refine e_if_lt 16 dX8_has_1 (by decide) (fun hc => ?_) (fun hc => ?_)
  · refine e_iconst (v := nI 0) dX8_has_16 (by decide) ?_
    exact m_zret dX8_has_17 rfl (by first | rfl | decide | assumption) (Nat.le_refl _) (Nat.le_refl _) (⟨rfl, Or.inr ⟨rfl, fun q hq e => nI_pos (n := q) (by omega) (e ▸ hc)⟩⟩)
  · obtain ⟨q, q1, rfl⟩ := nI_of hc
    refine e_iload_n dX8_has_4 rfl rfl ?_
    refine e_aload_n dX8_has_5 rfl rfl ?_
    refine m_get 8 4 lf_X8_28 dX8_has_6 (ly_32 B _ _) rfl ?_
    refine e_top (w := nI n) (hn) ?_
    refine n_icmp_ge 16 dX8_has_9 (by decide) (by omega) (by omega) (fun h2 => ?_) (fun h2 => ?_)
    · refine e_iconst (v := nI 0) dX8_has_16 (by decide) ?_
      exact m_zret dX8_has_17 rfl (by first | rfl | decide | assumption) (Nat.le_refl _) (Nat.le_refl _) (⟨rfl, Or.inr ⟨rfl, fun z hz e => by have := (nI_eq q1 (by omega)).mp e; omega⟩⟩)
    · refine e_iconst (v := nI 1) dX8_has_12 (by decide) ?_
      refine e_goto 17 dX8_has_13 (by decide) ?_
      exact m_zret dX8_has_17 rfl (by first | rfl | decide | assumption) (Nat.le_refl _) (Nat.le_refl _) (⟨rfl, Or.inl ⟨rfl, q, by omega, rfl⟩⟩)
set_option maxRecDepth 100000 in
/-- Words.hasRow -/
theorem c_hasRow (m : mm_M) {n nn : Nat} {r : Nat → Nat} {wl : Nat → Nat} {wt : Nat → Nat → Nat} (hn : m 32 4 = nI nn) (n60 : nn ≤ 60) (hr : rw_at m 1 2 n r) (hw : ∀ i, i < nn → rw_at m (37 + 2 * i) (38 + 2 * i) (wl i) (wt i)) : mm_F l D kA B sz o 2 44 mX8_hasRow [.ref (B + 32), .ref (B + 1)] m (fun v m' => m' = m ∧ ((v = some (.int (nI 1)) ∧ ∃ q, q < nn ∧ sm (wl q) (wt q) n r) ∨ (v = some (.int (nI 0)) ∧ ∀ q, q < nn → ¬ sm (wl q) (wt q) n r))) := by
  refine mm_F.of ?_
  refine e_iconst (v := nI 0) dX8_hasRow_0 (by decide) ?_
  refine e_istore_n dX8_hasRow_1 rfl (by decide) rfl ?_
  have loop : ∀ (d i : Nat), nn - i = d → i ≤ nn → (∀ q, q < i → ¬ sm (wl q) (wt q) n r) → mm_G l D kA B sz o 2 44 mX8_hasRow (fun v m' => m' = m ∧ ((v = some (.int (nI 1)) ∧ ∃ q, q < nn ∧ sm (wl q) (wt q) n r) ∨ (v = some (.int (nI 0)) ∧ ∀ q, q < nn → ¬ sm (wl q) (wt q) n r))) 2 [some (.ref (B + 32)), some (.ref (B + 1)), some (.int (nI i))] [] m := by
    intro d
    induction d with
    | zero =>
      intro i hd hi he
      refine e_iload_n dX8_hasRow_2 rfl rfl ?_
      refine e_aload_n dX8_hasRow_3 rfl rfl ?_
      refine m_get 8 4 lf_X8_28 dX8_hasRow_4 (ly_32 B _ _) rfl ?_
      refine e_top (w := nI nn) (hn) ?_
      refine n_icmp_ge 31 dX8_hasRow_7 (by decide) (by omega) (by omega) (fun hc => ?_) (fun hc => ?_)
      · refine e_iconst (v := nI 0) dX8_hasRow_31 (by decide) ?_
        exact m_zret dX8_hasRow_32 rfl (by first | rfl | decide | assumption) (Nat.le_refl _) (Nat.le_refl _) (⟨rfl, Or.inr ⟨rfl, fun q hq => he q (by omega)⟩⟩)
      · exact absurd hc (by omega)
    | succ d ih =>
      intro i hd hi he
      refine e_iload_n dX8_hasRow_2 rfl rfl ?_
      refine e_aload_n dX8_hasRow_3 rfl rfl ?_
      refine m_get 8 4 lf_X8_28 dX8_hasRow_4 (ly_32 B _ _) rfl ?_
      refine e_top (w := nI nn) (hn) ?_
      refine n_icmp_ge 31 dX8_hasRow_7 (by decide) (by omega) (by omega) (fun hc => ?_) (fun hc => ?_)
      · exact absurd hc (by omega)
      · refine e_aload_n dX8_hasRow_10 rfl rfl ?_
        refine m_get 8 0 lf_X8_11 dX8_hasRow_11 (ly_32 B _ _) rfl ?_
        refine e_iload_n dX8_hasRow_14 rfl rfl ?_
        refine m_aald (r := 37 + 2 * i) (i) dX8_hasRow_15 (by decide) rfl (ly_33 B _ _) (rfl) (by omega) (by decide) (if_pos (by omega)) ?_
        refine e_aload_n dX8_hasRow_16 rfl rfl ?_
        refine m_callV (As := [_]) lc_X8_33 dX8_hasRow_17 (ly_wr B _ _ (i := i) (by omega)) rfl rfl (by simp [Value.category]) (Nat.le_of_ble_eq_true rfl) (Nat.le_of_ble_eq_true rfl) ⟨Nat.le_of_ble_eq_true rfl, Nat.le_of_ble_eq_true rfl⟩ ⟨Nat.le_of_ble_eq_true rfl, Nat.le_of_ble_eq_true rfl⟩ (c_compareWith m (isRow_w B (i := i) (by omega)) (isRow_1 B) (hw i (by omega)) hr) (fun v9 m9 hp9 => ?_)
        obtain ⟨rfl, x, rfl, x1, x2⟩ := hp9
        refine e_if_ne 25 dX8_hasRow_20 (by decide) (fun h2 => ?_) (fun h2 => ?_)
        · refine e_iinc (v := nI (i + 1)) dX8_hasRow_25 rfl (nI_add _ _) (by decide) rfl ?_
          refine e_goto 2 dX8_hasRow_28 (by decide) ?_
          exact ih (i + 1) (by omega) (by omega) (fun q hq => by
            by_cases e : q = i
            · subst e; exact fun z => h2 (x1.mpr z)
            · exact he q (by omega))
        · refine e_iconst (v := nI 1) dX8_hasRow_23 (by decide) ?_
          exact m_zret dX8_hasRow_24 rfl (by first | rfl | decide | assumption) (Nat.le_refl _) (Nat.le_refl _) (⟨rfl, Or.inl ⟨rfl, i, by omega, x1.mp h2⟩⟩)
  exact loop nn 0 (by omega) (by omega) (fun q hq => by omega)
set_option maxRecDepth 100000 in
/-- Words.rankOf: the place at which a word stands -/
theorem c_rankOf (m : mm_M) {nn q k : Nat} {f : Nat → Nat} (hn : m 32 4 = nI nn) (n60 : nn ≤ 60) (hf : ∀ i, i < nn → m 35 i = nI (f i) ∧ f i < nn) (hk : k < nn) (hq : f k = q) (hne : ∀ i, i < k → f i ≠ q) : mm_F l D kA B sz o 0 0 mX8_rankOf [.ref (B + 32), .int (nI q)] m (fun v m' => m' = m ∧ v = some (.int (nI k))) := by
  have q60 : q < nn := by rw [← hq]; exact (hf k hk).2
  refine mm_F.of ?_
  refine e_iconst (v := nI 0) dX8_rankOf_0 (by decide) ?_
  refine e_istore_n dX8_rankOf_1 rfl (by decide) rfl ?_
  refine e_iconst (v := nI 0) dX8_rankOf_2 (by decide) ?_
  refine e_istore_n dX8_rankOf_3 rfl (by decide) rfl ?_
  have loop : ∀ (d i : Nat), k - i = d → i ≤ k → mm_G l D kA B sz o 0 0 mX8_rankOf (fun v m' => m' = m ∧ v = some (.int (nI k))) 4 [some (.ref (B + 32)), some (.int (nI q)), some (.int (nI i)), some (.int (nI i))] [] m := by
    intro d
    induction d with
    | zero =>
      intro i hd hi
      have hik : i = k := by omega
      subst hik
      refine e_iload_n dX8_rankOf_4 rfl rfl ?_
      refine e_aload_n dX8_rankOf_5 rfl rfl ?_
      refine m_get 8 4 lf_X8_28 dX8_rankOf_6 (ly_32 B _ _) rfl ?_
      refine e_top (w := nI nn) (hn) ?_
      refine n_icmp_ge 31 dX8_rankOf_9 (by decide) (by omega) (by omega) (fun hc => ?_) (fun hc => ?_)
      · exact absurd hc (by omega)
      · refine e_aload_n dX8_rankOf_12 rfl rfl ?_
        refine m_get 8 2 lf_X8_21 dX8_rankOf_13 (ly_32 B _ _) rfl ?_
        refine e_iload_n dX8_rankOf_16 rfl rfl ?_
        refine m_iald (i) dX8_rankOf_17 (ly_35 B _ _) (rfl) (by omega) (by decide) ?_
        refine e_top (w := nI q) ((by rw [(hf i hk).1, hq])) ?_
        refine e_iload_n dX8_rankOf_18 rfl rfl ?_
        refine n_icmp_eq 31 dX8_rankOf_19 (by decide) (by omega) (by omega) (fun h2 => ?_) (fun h2 => ?_)
        · refine e_iload_n dX8_rankOf_31 rfl rfl ?_
          exact m_iret dX8_rankOf_32 rfl (Nat.le_refl _) (Nat.le_refl _) (⟨rfl, rfl⟩)
        · exact absurd rfl h2
    | succ d ih =>
      intro i hd hi
      obtain ⟨f1, f2⟩ := hf i (by omega)
      refine e_iload_n dX8_rankOf_4 rfl rfl ?_
      refine e_aload_n dX8_rankOf_5 rfl rfl ?_
      refine m_get 8 4 lf_X8_28 dX8_rankOf_6 (ly_32 B _ _) rfl ?_
      refine e_top (w := nI nn) (hn) ?_
      refine n_icmp_ge 31 dX8_rankOf_9 (by decide) (by omega) (by omega) (fun hc => ?_) (fun hc => ?_)
      · exact absurd hc (by omega)
      · refine e_aload_n dX8_rankOf_12 rfl rfl ?_
        refine m_get 8 2 lf_X8_21 dX8_rankOf_13 (ly_32 B _ _) rfl ?_
        refine e_iload_n dX8_rankOf_16 rfl rfl ?_
        refine m_iald (i) dX8_rankOf_17 (ly_35 B _ _) (rfl) (by omega) (by decide) ?_
        refine e_top (w := nI (f i)) (f1) ?_
        refine e_iload_n dX8_rankOf_18 rfl rfl ?_
        refine n_icmp_eq 31 dX8_rankOf_19 (by decide) (by omega) (by omega) (fun h2 => ?_) (fun h2 => ?_)
        · exact absurd h2 (hne i (by omega))
        · refine e_iinc (v := nI (i + 1)) dX8_rankOf_22 rfl (nI_add _ _) (by decide) rfl ?_
          refine e_iinc (v := nI (i + 1)) dX8_rankOf_25 rfl (nI_add _ _) (by decide) rfl ?_
          refine e_goto 4 dX8_rankOf_28 (by decide) ?_
          exact ih (i + 1) (by omega) (by omega)
  exact loop k 0 (by omega) (by omega)
/-- pairs as the arrays hold them -/
def pa_at (m : mm_M) (k : Nat) (pa : Nat → Nat → Bool) : Prop := ∀ a b, a < 60 → b < 60 → m k (a * 60 + b) = if pa a b then nI 1 else nI 0
theorem bool_nar (b : Bool) : narrow .boolean (.int (if b = true then nI 1 else nI 0)) = .int (if b = true then nI 1 else nI 0) := by cases b <;> rfl
theorem bool_nar2 (b : Bool) : vp_nar .boolean (if b = true then nI 1 else nI 0) = (if b = true then nI 1 else nI 0) := by cases b <;> rfl
set_option maxRecDepth 100000 in
/-- Words.isPair -/
theorem c_isPair (m : mm_M) {pa : Nat → Nat → Bool} {a b : Nat} (h : pa_at m 36 pa) (ha : a < 60) (hb : b < 60) : mm_F l D kA B sz o 0 0 mX8_isPair [.ref (B + 32), .int (nI a), .int (nI b)] m (fun v m' => m' = m ∧ v = some (.int (if pa a b then nI 1 else nI 0))) := by
  refine mm_F.of ?_
  refine e_aload_n dX8_isPair_0 rfl rfl ?_
  refine m_get 8 3 lf_X8_24 dX8_isPair_1 (ly_32 B _ _) rfl ?_
  refine e_iload_n dX8_isPair_4 rfl rfl ?_
  refine e_bipush (v := nI 60) dX8_isPair_5 (by decide) ?_
  refine e_imul dX8_isPair_7 ?_
  refine e_top (w := nI (a * 60)) (pk_mul _ _) ?_
  refine e_iload_n dX8_isPair_8 rfl rfl ?_
  refine e_iadd dX8_isPair_9 ?_
  refine e_top (w := nI ((a * 60) + b)) (nI_add _ _) ?_
  refine m_zald ((a * 60) + b) dX8_isPair_10 (ly_36 B _ _) (rfl) (by omega) (by decide) ?_
  refine e_top (w := if pa a b then nI 1 else nI 0) (h a b ha hb) ?_
  exact m_zret dX8_isPair_11 rfl (bool_nar _) (Nat.le_refl _) (Nat.le_refl _) ⟨rfl, rfl⟩
set_option maxRecDepth 100000 in
/-- Words.setPair -/
theorem c_setPair (m : mm_M) {pa : Nat → Nat → Bool} {a b : Nat} (on : Bool) (h : pa_at m 36 pa) (ha : a < 60) (hb : b < 60) : mm_F l D kA B sz o 1 22 mX8_setPair [.ref (B + 32), .int (nI a), .int (nI b), .int (if on then nI 1 else nI 0)] m (fun v m' => m' = wr m 36 (a * 60 + b) (if on then nI 1 else nI 0) ∧ v = some (.int (if pa a b = on then nI 0 else nI 1))) := by
  refine mm_F.of ?_
  refine e_aload_n dX8_setPair_0 rfl rfl ?_
  refine e_iload_n dX8_setPair_1 rfl rfl ?_
  refine e_iload_n dX8_setPair_2 rfl rfl ?_
  refine m_callV (As := [_, _]) lc_X8_41 dX8_setPair_3 (ly_32 B _ _) rfl rfl (by simp [Value.category]) (Nat.le_of_ble_eq_true rfl) (Nat.le_of_ble_eq_true rfl) ⟨Nat.le_of_ble_eq_true rfl, Nat.le_of_ble_eq_true rfl⟩ ⟨Nat.le_of_ble_eq_true rfl, Nat.le_of_ble_eq_true rfl⟩ (c_isPair m h ha hb) (fun v9 m9 hp9 => ?_)
  obtain ⟨rfl, rfl⟩ := hp9
  refine e_istore dX8_setPair_6 (by decide) rfl ?_
  refine e_aload_n dX8_setPair_8 rfl rfl ?_
  refine m_get 8 3 lf_X8_24 dX8_setPair_9 (ly_32 B _ _) rfl ?_
  refine e_iload_n dX8_setPair_12 rfl rfl ?_
  refine e_bipush (v := nI 60) dX8_setPair_13 (by decide) ?_
  refine e_imul dX8_setPair_15 ?_
  refine e_top (w := nI (a * 60)) (pk_mul _ _) ?_
  refine e_iload_n dX8_setPair_16 rfl rfl ?_
  refine e_iadd dX8_setPair_17 ?_
  refine e_top (w := nI ((a * 60) + b)) (nI_add _ _) ?_
  refine e_iload_n dX8_setPair_18 rfl rfl ?_
  refine m_zast (a * 60 + b) dX8_setPair_19 (fun m => ly_36 B m _) (rfl) (by omega) (by decide) (bool_nar2 on) ?_
  refine e_iload dX8_setPair_20 rfl ?_
  refine e_iload_n dX8_setPair_22 rfl rfl ?_
  refine e_icmp_eq 30 dX8_setPair_23 (by decide) (fun hc => ?_) (fun hc => ?_)
  · refine e_iconst (v := nI 0) dX8_setPair_30 (by decide) ?_
    exact m_zret dX8_setPair_31 rfl (by first | rfl | decide | assumption) (Nat.le_refl _) (Nat.le_refl _) (⟨rfl, by rw [if_pos (by cases h1 : pa a b <;> cases on <;> simp [h1] at hc ⊢ <;> exact absurd hc (by decide))]⟩)
  · refine e_iconst (v := nI 1) dX8_setPair_26 (by decide) ?_
    refine e_goto 31 dX8_setPair_27 (by decide) ?_
    exact m_zret dX8_setPair_31 rfl (by first | rfl | decide | assumption) (Nat.le_refl _) (Nat.le_refl _) (⟨rfl, by rw [if_neg (fun e => hc (by rw [e]))]⟩)
set_option maxRecDepth 100000 in
/-- Line.add -/
theorem c_Line_add (m : mm_M) {kn n : Nat} {r : Nat → Nat} (hk : m 157 1 = nI kn) (k6 : kn ≤ 6) (hr : rw_at m 1 2 n r) : mm_F l D kA B sz o 2 43 mX1_add [.ref (B + 157), .ref (B + 1)] m (fun v m' => if kn < 6 then v = some (.int (nI 1)) ∧ m' 157 1 = nI (kn + 1) ∧ rw_at m' (159 + 2 * kn) (160 + 2 * kn) n r ∧ (∀ a, a ≠ 157 → a ≠ 159 + 2 * kn → a ≠ 160 + 2 * kn → m' a = m a) else m' = m ∧ v = some (.int (nI 0))) := by
  refine mm_F.of ?_
  refine e_aload_n dX1_add_0 rfl rfl ?_
  refine m_get 1 1 lf_X1_17 dX1_add_1 (ly_157 B _ _) rfl ?_
  refine e_top (w := nI kn) (hk) ?_
  refine e_bipush (v := nI 6) dX1_add_4 (by decide) ?_
  refine n_icmp_lt 11 dX1_add_6 (by decide) (by omega) (by omega) (fun hc => ?_) (fun hc => ?_)
  · refine e_aload_n dX1_add_11 rfl rfl ?_
    refine m_get 1 0 lf_X1_11 dX1_add_12 (ly_157 B _ _) rfl ?_
    refine e_aload_n dX1_add_15 rfl rfl ?_
    refine m_get 1 1 lf_X1_17 dX1_add_16 (ly_157 B _ _) rfl ?_
    refine e_top (w := nI kn) (hk) ?_
    refine m_aald (r := 159 + 2 * kn) (kn) dX1_add_19 (by decide) rfl (ly_158 B _ _) (rfl) (by omega) (by decide) (if_pos (by omega)) ?_
    refine e_aload_n dX1_add_20 rfl rfl ?_
    refine m_callV (As := [_]) lc_X1_22 dX1_add_21 (ly_tr B _ _ (i := kn) (by omega)) rfl rfl (by simp [Value.category]) (Nat.le_of_ble_eq_true rfl) (Nat.le_of_ble_eq_true rfl) ⟨Nat.le_of_ble_eq_true rfl, Nat.le_of_ble_eq_true rfl⟩ ⟨Nat.le_of_ble_eq_true rfl, Nat.le_of_ble_eq_true rfl⟩ (c_copyOf m (isRow_t B (i := kn) (by omega)) (isRow_1 B) (by omega) (by omega) (by omega) (by omega) (by omega) hr.1 hr.2.1) (fun v9 m1 hp9 => ?_)
    obtain ⟨rfl, a1, a2, a3⟩ := hp9
    refine e_aload_n dX1_add_24 rfl rfl ?_
    refine e_dup dX1_add_25 rfl ?_
    refine m_get 1 1 lf_X1_17 dX1_add_26 (ly_157 B _ _) rfl ?_
    refine e_top (w := nI kn) ((by rw [a3 157 (by omega) (by omega)]; exact hk)) ?_
    refine e_iconst (v := nI 1) dX1_add_29 (by decide) ?_
    refine e_iadd dX1_add_30 ?_
    refine e_top (w := nI (kn + 1)) (nI_add _ _) ?_
    refine m_puti 1 1 lp_X1_17 dX1_add_31 (ly_157 B _ _) (Nat.le_of_ble_eq_true rfl) (ly_157 B _ _) rfl ?_
    refine e_iconst (v := nI 1) dX1_add_34 (by decide) ?_
    refine m_zret dX1_add_35 rfl rfl (Nat.le_refl _) (Nat.le_refl _) ?_
    rw [if_pos hc]
    refine ⟨rfl, wr_same _ _ _ _, ⟨by rw [wr_off _ _ (by omega)]; exact a1, hr.2.1, fun i hi => by rw [wr_off _ _ (by omega), a2 i hi]; exact hr.2.2 i hi⟩, fun a c1 c2 c3 => by rw [wr_off _ _ c1]; exact a3 a c2 c3⟩
  · refine e_iconst (v := nI 0) dX1_add_9 (by decide) ?_
    exact m_zret dX1_add_10 rfl (by first | rfl | decide | assumption) (Nat.le_refl _) (Nat.le_refl _) ((by rw [if_neg hc]; exact ⟨rfl, rfl⟩))
end WRD
