section ROW
variable {l : Launch} {D : va_G} {kA : FieldType → ClassId} {B sz : Nat} {o : Int64}
set_option maxRecDepth 100000 in
/-- Row.add -/
theorem c_Row_add (m : mm_M) {k k1 n : Nat} (hk : isRow B k k1) (hne : k1 ≠ k) (hn : m k 1 = nI n) (hn2 : n ≤ 12) (x : Int32) : mm_F l D kA B sz o 0 0 mX5_add [.ref (B + k), .int x] m (fun v m' => if n < 12 then m' = wr (wr m k1 n x) k 1 (nI (n + 1)) ∧ v = some (.int (nI 1)) else m' = m ∧ v = some (.int (nI 0))) := by
  refine mm_F.of ?_
  refine e_aload_n dX5_add_0 rfl rfl ?_
  refine m_get 5 1 lf_X5_15 dX5_add_1 (hk.1 _ _) rfl ?_
  refine e_top (w := nI n) (hn) ?_
  refine e_bipush (v := nI 12) dX5_add_4 (by decide) ?_
  refine n_icmp_lt 11 dX5_add_6 (by decide) (by omega) (by omega) (fun hc => ?_) (fun hc => ?_)
  · refine e_aload_n dX5_add_11 rfl rfl ?_
    refine m_get 5 0 lf_X5_9 dX5_add_12 (hk.1 _ _) rfl ?_
    refine e_aload_n dX5_add_15 rfl rfl ?_
    refine m_get 5 1 lf_X5_15 dX5_add_16 (hk.1 _ _) rfl ?_
    refine e_top (w := nI n) (hn) ?_
    refine e_iload_n dX5_add_19 rfl rfl ?_
    refine m_iast (n) dX5_add_20 (fun m => hk.2 m _) (rfl) (by omega) (by decide) ?_
    refine e_aload_n dX5_add_21 rfl rfl ?_
    refine e_dup dX5_add_22 rfl ?_
    refine m_get 5 1 lf_X5_15 dX5_add_23 (hk.1 _ _) rfl ?_
    refine e_top (w := nI n) ((wr_ne _ _ (Or.inl hne.symm)).trans hn) ?_
    refine e_iconst (v := nI 1) dX5_add_26 (by decide) ?_
    refine e_iadd dX5_add_27 ?_
    refine e_top (w := nI (n + 1)) (nI_add _ _) ?_
    refine m_puti 5 1 lp_X5_15 dX5_add_28 (hk.1 _ _) (Nat.le_of_ble_eq_true rfl) (hk.1 _ _) rfl ?_
    refine e_iconst (v := nI 1) dX5_add_31 (by decide) ?_
    exact m_zret dX5_add_32 rfl (by first | rfl | decide | assumption) (Nat.le_refl _) (Nat.le_refl _) ((by rw [if_pos hc]; exact ⟨rfl, rfl⟩))
  · refine e_iconst (v := nI 0) dX5_add_9 (by decide) ?_
    exact m_zret dX5_add_10 rfl (by first | rfl | decide | assumption) (Nat.le_refl _) (Nat.le_refl _) ((by rw [if_neg hc]; exact ⟨rfl, rfl⟩))
set_option maxRecDepth 100000 in
/-- Row.copyOf -/
theorem c_copyOf (m : mm_M) {k k1 q q1 n : Nat} (hk : isRow B k k1) (hq : isRow B q q1) (e1 : k1 ≠ k) (e2 : q ≠ k) (e3 : q ≠ k1) (e4 : q1 ≠ k) (e5 : q1 ≠ k1) (hn : m q 1 = nI n) (hn2 : n ≤ 12) : mm_F l D kA B sz o 1 21 mX5_copyOf [.ref (B + k), .ref (B + q)] m (fun v m' => v = none ∧ m' k 1 = nI n ∧ (∀ i, i < n → m' k1 i = m q1 i) ∧ ∀ a, a ≠ k → a ≠ k1 → m' a = m a) := by
  refine mm_F.of ?_
  refine e_aload_n dX5_copyOf_0 rfl rfl ?_
  refine e_iconst (v := nI 0) dX5_copyOf_1 (by decide) ?_
  refine m_puti 5 1 lp_X5_15 dX5_copyOf_2 (hk.1 _ _) (Nat.le_of_ble_eq_true rfl) (hk.1 _ _) rfl ?_
  refine e_iconst (v := nI 0) dX5_copyOf_5 (by decide) ?_
  refine e_istore_n dX5_copyOf_6 rfl (by decide) rfl ?_
  have loop : ∀ (d i : Nat) (m' : mm_M), n - i = d → i ≤ n → m' k 1 = nI i → (∀ j, j < i → m' k1 j = m q1 j) → (∀ a, a ≠ k → a ≠ k1 → m' a = m a) → mm_G l D kA B sz o 1 21 mX5_copyOf (fun v m' => v = none ∧ m' k 1 = nI n ∧ (∀ i, i < n → m' k1 i = m q1 i) ∧ ∀ a, a ≠ k → a ≠ k1 → m' a = m a) 7 [some (.ref (B + k)), some (.ref (B + q)), some (.int (nI i))] [] m' := by
    intro d
    induction d with
    | zero =>
      intro i m' hd hi h1 h2 h3
      refine e_iload_n dX5_copyOf_7 rfl rfl ?_
      refine e_aload_n dX5_copyOf_8 rfl rfl ?_
      refine m_get 5 1 lf_X5_15 dX5_copyOf_9 (hq.1 _ _) rfl ?_
      refine e_top (w := nI n) ((by rw [h3 q e2 e3]; exact hn)) ?_
      refine n_icmp_ge 32 dX5_copyOf_12 (by decide) (by omega) (by omega) (fun hc => ?_) (fun hc => ?_)
      · exact m_vret dX5_copyOf_32 rfl (Nat.le_refl _) (Nat.le_refl _) (⟨rfl, by rw [h1, show i = n by omega], fun j hj => h2 j (by omega), h3⟩)
      · exact absurd hc (by omega)
    | succ d ih =>
      intro i m' hd hi h1 h2 h3
      refine e_iload_n dX5_copyOf_7 rfl rfl ?_
      refine e_aload_n dX5_copyOf_8 rfl rfl ?_
      refine m_get 5 1 lf_X5_15 dX5_copyOf_9 (hq.1 _ _) rfl ?_
      refine e_top (w := nI n) ((by rw [h3 q e2 e3]; exact hn)) ?_
      refine n_icmp_ge 32 dX5_copyOf_12 (by decide) (by omega) (by omega) (fun hc => ?_) (fun hc => ?_)
      · exact absurd hc (by omega)
      · refine e_aload_n dX5_copyOf_15 rfl rfl ?_
        refine e_aload_n dX5_copyOf_16 rfl rfl ?_
        refine m_get 5 0 lf_X5_9 dX5_copyOf_17 (hq.1 _ _) rfl ?_
        refine e_iload_n dX5_copyOf_20 rfl rfl ?_
        refine m_iald (i) dX5_copyOf_21 (hq.2 _ _) (rfl) (by omega) (by decide) ?_
        refine m_callV (As := [_]) lc_X5_19 dX5_copyOf_22 (hk.1 _ _) rfl rfl (by simp [Value.category]) (Nat.le_of_ble_eq_true rfl) (Nat.le_of_ble_eq_true rfl) ⟨Nat.le_of_ble_eq_true rfl, Nat.le_of_ble_eq_true rfl⟩ ⟨Nat.le_of_ble_eq_true rfl, Nat.le_of_ble_eq_true rfl⟩ (c_Row_add m' hk e1 h1 (by omega) _) (fun v9 m9 hp9 => ?_)
        rw [if_pos (by omega)] at hp9
        obtain ⟨rfl, rfl⟩ := hp9
        refine e_pop dX5_copyOf_25 rfl ?_
        refine e_iinc (v := nI (i + 1)) dX5_copyOf_26 rfl (nI_add _ _) (by decide) rfl ?_
        refine e_goto 7 dX5_copyOf_29 (by decide) ?_
        refine ih (i + 1) _ (by omega) (by omega) (wr_same _ _ _ _) (fun j hj => ?_) (fun a ha hb => ?_)
        · rw [wr_ne _ _ (Or.inl e1)]
          by_cases hji : j = i
          · subst hji
            rw [wr_same, h3 q1 e4 e5]
          · rw [wr_ne _ _ (Or.inr hji)]
            exact h2 j (by omega)
        · rw [wr_off _ _ ha, wr_off _ _ hb]
          exact h3 a ha hb
  exact loop n 0 _ (by omega) (by omega) (wr_same _ _ _ _) (fun j hj => by omega) (fun a ha hb => wr_off _ _ ha)
set_option maxRecDepth 100000 in
/-- Row.mirrorOf -/
theorem c_mirrorOf (m : mm_M) {k k1 q q1 n : Nat} (hk : isRow B k k1) (hq : isRow B q q1) (e1 : k1 ≠ k) (e2 : q ≠ k) (e3 : q ≠ k1) (e4 : q1 ≠ k) (e5 : q1 ≠ k1) (hn : m q 1 = nI n) (hn2 : n ≤ 12) : mm_F l D kA B sz o 1 21 mX5_mirrorOf [.ref (B + k), .ref (B + q)] m (fun v m' => v = none ∧ m' k 1 = nI n ∧ (∀ i, i < n → m' k1 i = m q1 (n - 1 - i)) ∧ ∀ a, a ≠ k → a ≠ k1 → m' a = m a) := by
  refine mm_F.of ?_
  refine e_aload_n dX5_mirrorOf_0 rfl rfl ?_
  refine e_iconst (v := nI 0) dX5_mirrorOf_1 (by decide) ?_
  refine m_puti 5 1 lp_X5_15 dX5_mirrorOf_2 (hk.1 _ _) (Nat.le_of_ble_eq_true rfl) (hk.1 _ _) rfl ?_
  refine e_aload_n dX5_mirrorOf_5 rfl rfl ?_
  refine m_get 5 1 lf_X5_15 dX5_mirrorOf_6 (hq.1 _ _) rfl ?_
  refine e_top (w := nI n) ((wr_ne _ _ (Or.inl e2)).trans hn) ?_
  refine e_iconst (v := nI 1) dX5_mirrorOf_9 (by decide) ?_
  refine e_isub dX5_mirrorOf_10 ?_
  refine e_istore_n dX5_mirrorOf_11 rfl (by decide) rfl ?_
  have loop : ∀ (i : Nat) (m' : mm_M), i ≤ n → m' k 1 = nI (n - i) → (∀ j, j < n - i → m' k1 j = m q1 (n - 1 - j)) → (∀ a, a ≠ k → a ≠ k1 → m' a = m a) → mm_G l D kA B sz o 1 21 mX5_mirrorOf (fun v m' => v = none ∧ m' k 1 = nI n ∧ (∀ i, i < n → m' k1 i = m q1 (n - 1 - i)) ∧ ∀ a, a ≠ k → a ≠ k1 → m' a = m a) 12 [some (.ref (B + k)), some (.ref (B + q)), some (.int (nI i - 1))] [] m' := by
    intro i
    induction i with
    | zero =>
      intro m' hi h1 h2 h3
      refine e_iload_n dX5_mirrorOf_12 rfl rfl ?_
      refine e_if_lt 33 dX5_mirrorOf_13 (by decide) (fun hc => ?_) (fun hc => ?_)
      · exact m_vret dX5_mirrorOf_33 rfl (Nat.le_refl _) (Nat.le_refl _) (⟨rfl, h1, h2, h3⟩)
      · exact absurd ((neg1_lt (by omega)).mpr rfl) hc
    | succ i ih =>
      intro m' hi h1 h2 h3
      rw [nI_pred]
      refine e_iload_n dX5_mirrorOf_12 rfl rfl ?_
      refine n_if_lt 33 dX5_mirrorOf_13 (by decide) (by omega) (fun hc => ?_) (fun hc => ?_)
      · exact absurd hc (by omega)
      · refine e_aload_n dX5_mirrorOf_16 rfl rfl ?_
        refine e_aload_n dX5_mirrorOf_17 rfl rfl ?_
        refine m_get 5 0 lf_X5_9 dX5_mirrorOf_18 (hq.1 _ _) rfl ?_
        refine e_iload_n dX5_mirrorOf_21 rfl rfl ?_
        refine m_iald (i) dX5_mirrorOf_22 (hq.2 _ _) (rfl) (by omega) (by decide) ?_
        refine m_callV (As := [_]) lc_X5_19 dX5_mirrorOf_23 (hk.1 _ _) rfl rfl (by simp [Value.category]) (Nat.le_of_ble_eq_true rfl) (Nat.le_of_ble_eq_true rfl) ⟨Nat.le_of_ble_eq_true rfl, Nat.le_of_ble_eq_true rfl⟩ ⟨Nat.le_of_ble_eq_true rfl, Nat.le_of_ble_eq_true rfl⟩ (c_Row_add m' hk e1 h1 (by omega) _) (fun v9 m9 hp9 => ?_)
        rw [if_pos (by omega)] at hp9
        obtain ⟨rfl, rfl⟩ := hp9
        refine e_pop dX5_mirrorOf_26 rfl ?_
        refine e_iinc (v := nI i - 1) dX5_mirrorOf_27 rfl (by rw [Int32.sub_eq_add_neg]; rfl) (by decide) rfl ?_
        refine e_goto 12 dX5_mirrorOf_30 (by decide) ?_
        refine ih _ (by omega) (by rw [wr_same, show n - (i + 1) + 1 = n - i by omega]) (fun j hj => ?_) (fun a ha hb => ?_)
        · rw [wr_ne _ _ (Or.inl e1)]
          by_cases hji : j = n - (i + 1)
          · subst hji
            rw [wr_same, h3 q1 e4 e5, show n - 1 - (n - (i + 1)) = i by omega]
          · rw [wr_ne _ _ (Or.inr hji)]
            exact h2 j (by omega)
        · rw [wr_off _ _ ha, wr_off _ _ hb]
          exact h3 a ha hb
  exact loop n _ (by omega) (by rw [wr_same, Nat.sub_self]) (fun j hj => by omega) (fun a ha hb => wr_off _ _ ha)
set_option maxRecDepth 100000 in
/-- Row.compareWith -/
theorem c_compareWith (m : mm_M) {k k1 q q1 n n' : Nat} {r r' : Nat → Nat} (hk : isRow B k k1) (hq : isRow B q q1) (hr : rw_at m k k1 n r) (hr' : rw_at m q q1 n' r') : mm_F l D kA B sz o 1 21 mX5_compareWith [.ref (B + k), .ref (B + q)] m (fun v m' => m' = m ∧ ∃ x : Int32, v = some (.int x) ∧ (x = 0 ↔ sm n r n' r') ∧ (x < 0 ↔ ah n r n' r')) := by
  obtain ⟨a1, a2, a3⟩ := hr
  obtain ⟨b1, b2, b3⟩ := hr'
  refine mm_F.of ?_
  refine e_aload_n dX5_compareWith_0 rfl rfl ?_
  refine m_get 5 1 lf_X5_15 dX5_compareWith_1 (hk.1 _ _) rfl ?_
  refine e_top (w := nI n) (a1) ?_
  refine e_aload_n dX5_compareWith_4 rfl rfl ?_
  refine m_get 5 1 lf_X5_15 dX5_compareWith_5 (hq.1 _ _) rfl ?_
  refine e_top (w := nI n') (b1) ?_
  refine e_min dX5_compareWith_8 lm_X5_23 wm_s wm_i wm_c (Nat.le_of_ble_eq_true rfl) (Nat.le_of_ble_eq_true rfl) (Nat.le_of_ble_eq_true rfl) (Nat.le_of_ble_eq_true rfl) rfl ?_
  refine e_top (w := nI (min (n) (n'))) (min_nI (by omega) (by omega)) ?_
  refine e_istore_n dX5_compareWith_11 rfl (by decide) rfl ?_
  refine e_iconst (v := nI 0) dX5_compareWith_12 (by decide) ?_
  refine e_istore_n dX5_compareWith_13 rfl (by decide) rfl ?_
  have loop : ∀ (d i : Nat), min n n' - i = d → i ≤ min n n' → (∀ j, j < i → r j = r' j) → mm_G l D kA B sz o 1 21 mX5_compareWith (fun v m' => m' = m ∧ ∃ x : Int32, v = some (.int x) ∧ (x = 0 ↔ sm n r n' r') ∧ (x < 0 ↔ ah n r n' r')) 14 [some (.ref (B + k)), some (.ref (B + q)), some (.int (nI (min n n'))), some (.int (nI i))] [] m := by
    intro d
    induction d with
    | zero =>
      intro i hd hi he
      refine e_iload_n dX5_compareWith_14 rfl rfl ?_
      refine e_iload_n dX5_compareWith_15 rfl rfl ?_
      refine n_icmp_ge 54 dX5_compareWith_16 (by decide) (by omega) (by omega) (fun hc => ?_) (fun hc => ?_)
      · refine e_aload_n dX5_compareWith_54 rfl rfl ?_
        refine m_get 5 1 lf_X5_15 dX5_compareWith_55 (hk.1 _ _) rfl ?_
        refine e_top (w := nI n) (a1) ?_
        refine e_aload_n dX5_compareWith_58 rfl rfl ?_
        refine m_get 5 1 lf_X5_15 dX5_compareWith_59 (hq.1 _ _) rfl ?_
        refine e_top (w := nI n') (b1) ?_
        refine e_isub dX5_compareWith_62 ?_
        refine m_iret dX5_compareWith_63 rfl (Nat.le_refl _) (Nat.le_refl _) ⟨rfl, _, rfl, (sub_zero (by omega) (by omega)).trans ⟨fun e => ⟨e, fun j hj => he j (by omega)⟩, fun e => e.1⟩, (sub_neg (by omega) (by omega)).trans ⟨fun e => ⟨n, by omega, by omega, fun j hj => he j (by omega), Or.inl ⟨rfl, e⟩⟩, fun ⟨k, c1, c2, c3, c4⟩ => ?_⟩⟩
        rcases c4 with c4 | c4
        · omega
        · have := he k (by omega)
          omega
      · exact absurd hc (by omega)
    | succ d ih =>
      intro i hd hi he
      refine e_iload_n dX5_compareWith_14 rfl rfl ?_
      refine e_iload_n dX5_compareWith_15 rfl rfl ?_
      refine n_icmp_ge 54 dX5_compareWith_16 (by decide) (by omega) (by omega) (fun hc => ?_) (fun hc => ?_)
      · exact absurd hc (by omega)
      · obtain ⟨a4, a5⟩ := a3 i (by omega)
        obtain ⟨b4, b5⟩ := b3 i (by omega)
        refine e_aload_n dX5_compareWith_19 rfl rfl ?_
        refine m_get 5 0 lf_X5_9 dX5_compareWith_20 (hk.1 _ _) rfl ?_
        refine e_iload_n dX5_compareWith_23 rfl rfl ?_
        refine m_iald (i) dX5_compareWith_24 (hk.2 _ _) (rfl) (by omega) (by decide) ?_
        refine e_top (w := nI (r i)) (a4) ?_
        refine e_aload_n dX5_compareWith_25 rfl rfl ?_
        refine m_get 5 0 lf_X5_9 dX5_compareWith_26 (hq.1 _ _) rfl ?_
        refine e_iload_n dX5_compareWith_29 rfl rfl ?_
        refine m_iald (i) dX5_compareWith_30 (hq.2 _ _) (rfl) (by omega) (by decide) ?_
        refine e_top (w := nI (r' i)) (b4) ?_
        refine n_icmp_eq 48 dX5_compareWith_31 (by decide) (by omega) (by omega) (fun h2 => ?_) (fun h2 => ?_)
        · refine e_iinc (v := nI (i + 1)) dX5_compareWith_48 rfl (nI_add _ _) (by decide) rfl ?_
          refine e_goto 14 dX5_compareWith_51 (by decide) ?_
          exact ih (i + 1) (by omega) (by omega) (fun j hj => by
            by_cases e : j = i
            · rw [e]; exact h2
            · exact he j (by omega))
        · refine e_aload_n dX5_compareWith_34 rfl rfl ?_
          refine m_get 5 0 lf_X5_9 dX5_compareWith_35 (hk.1 _ _) rfl ?_
          refine e_iload_n dX5_compareWith_38 rfl rfl ?_
          refine m_iald (i) dX5_compareWith_39 (hk.2 _ _) (rfl) (by omega) (by decide) ?_
          refine e_top (w := nI (r i)) (a4) ?_
          refine e_aload_n dX5_compareWith_40 rfl rfl ?_
          refine m_get 5 0 lf_X5_9 dX5_compareWith_41 (hq.1 _ _) rfl ?_
          refine e_iload_n dX5_compareWith_44 rfl rfl ?_
          refine m_iald (i) dX5_compareWith_45 (hq.2 _ _) (rfl) (by omega) (by decide) ?_
          refine e_top (w := nI (r' i)) (b4) ?_
          refine e_isub dX5_compareWith_46 ?_
          refine m_iret dX5_compareWith_47 rfl (Nat.le_refl _) (Nat.le_refl _) ⟨rfl, _, rfl, (sub_zero (by omega) (by omega)).trans ⟨fun e => absurd e h2, fun e => e.2 i (by omega)⟩, (sub_neg (by omega) (by omega)).trans ⟨fun e => ⟨i, by omega, by omega, he, Or.inr ⟨by omega, by omega, e⟩⟩, fun ⟨k, c1, c2, c3, c4⟩ => ?_⟩⟩
          rcases Nat.lt_trichotomy k i with c | c | c
          · have := he k c
            rcases c4 with c4 | c4 <;> omega
          · subst c
            rcases c4 with c4 | c4 <;> omega
          · exact absurd (c3 i c) h2
  exact loop _ 0 rfl (by omega) (fun j hj => by omega)
end ROW
