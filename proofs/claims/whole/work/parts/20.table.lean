section TBL
variable {l : Launch} {D : va_G} {kA : FieldType → ClassId} {B sz : Nat} {o : Int64}
set_option maxRecDepth 100000 in
/-- Table.byChange -/
theorem c_byChange (m : mm_M) {i j : Nat} (hi : 2 ≤ i) (hi2 : i ≤ 12) (hj : 2 ≤ j) (hj2 : j ≤ 12) : mm_F l D kA B sz o 0 0 mX7_byChange [.ref (B + 171), .int (nI i), .int (nI j)] m (fun v m' => m' = m ∧ v = some (.int (m (177 + (i - 2)) (j - 2) + m 4 3))) := by
  refine mm_F.of ?_
  refine e_aload_n dX7_byChange_0 rfl rfl ?_
  refine m_get 7 3 lf_X7_23 dX7_byChange_1 (ly_171 B _ _) rfl ?_
  refine e_iload_n dX7_byChange_4 rfl rfl ?_
  refine e_iconst (v := nI 2) dX7_byChange_5 (by decide) ?_
  refine e_isub dX7_byChange_6 ?_
  refine e_top (w := nI (i - 2)) (pk_sub (by omega)) ?_
  refine m_aald (r := 177 + (i - 2)) (i - 2) dX7_byChange_7 (by decide) rfl (ly_176 B _ _) (rfl) (by omega) (by decide) (if_pos (by omega)) ?_
  refine e_iload_n dX7_byChange_8 rfl rfl ?_
  refine e_iconst (v := nI 2) dX7_byChange_9 (by decide) ?_
  refine e_isub dX7_byChange_10 ?_
  refine e_top (w := nI (j - 2)) (pk_sub (by omega)) ?_
  refine m_iald (j - 2) dX7_byChange_11 (ly_le B _ _ (i := (i - 2)) (by omega)) (rfl) (by omega) (by decide) ?_
  refine e_aload_n dX7_byChange_12 rfl rfl ?_
  refine m_get 7 0 lf_X7_37 dX7_byChange_13 (ly_171 B _ _) rfl ?_
  refine m_get 3 0 lf_X7_82 dX7_byChange_16 (ly_3 B _ _) rfl ?_
  refine e_iconst (v := nI 3) dX7_byChange_19 (by decide) ?_
  refine m_iald (3) dX7_byChange_20 (ly_4 B _ _) (rfl) (by omega) (by decide) ?_
  refine e_iadd dX7_byChange_21 ?_
  exact m_iret dX7_byChange_22 rfl (Nat.le_refl _) (Nat.le_refl _) (⟨rfl, rfl⟩)
set_option maxRecDepth 100000 in
/-- Prices.ofBecoming -/
theorem c_ofBecoming (m : mm_M) {a b : Nat} (ha : a < 26) (hb : b < 26) : mm_F l D kA B sz o 0 0 mX3_ofBecoming [.ref (B + 3), .int (nI a), .int (nI b)] m (fun v m' => m' = m ∧ v = some (.int (if a = b then 0 else if m (6 + a) b = -1 then m 4 2 else m (6 + a) b))) := by
  refine mm_F.of ?_
  refine e_iload_n dX3_ofBecoming_0 rfl rfl ?_
  refine e_iload_n dX3_ofBecoming_1 rfl rfl ?_
  refine n_icmp_ne 7 dX3_ofBecoming_2 (by decide) (by omega) (by omega) (fun hc => ?_) (fun hc => ?_)
  · refine e_aload_n dX3_ofBecoming_7 rfl rfl ?_
    refine m_get 3 1 lf_X3_17 dX3_ofBecoming_8 (ly_3 B _ _) rfl ?_
    refine e_iload_n dX3_ofBecoming_11 rfl rfl ?_
    refine m_aald (r := 6 + a) (a) dX3_ofBecoming_12 (by decide) rfl (ly_5 B _ _) (rfl) (by omega) (by decide) (if_pos (by omega)) ?_
    refine e_iload_n dX3_ofBecoming_13 rfl rfl ?_
    refine m_iald (b) dX3_ofBecoming_14 (ly_own B _ _ (i := a) (by omega)) (rfl) (by omega) (by decide) ?_
    refine e_istore_n dX3_ofBecoming_15 rfl (by decide) rfl ?_
    refine e_iload_n dX3_ofBecoming_16 rfl rfl ?_
    refine e_iconst (v := -1) dX3_ofBecoming_17 (by decide) ?_
    refine e_icmp_ne 30 dX3_ofBecoming_18 (by decide) (fun h2 => ?_) (fun h2 => ?_)
    · refine e_iload_n dX3_ofBecoming_30 rfl rfl ?_
      exact m_iret dX3_ofBecoming_31 rfl (Nat.le_refl _) (Nat.le_refl _) (⟨rfl, by rw [if_neg hc, if_neg h2]⟩)
    · refine e_aload_n dX3_ofBecoming_21 rfl rfl ?_
      refine m_get 3 0 lf_X3_9 dX3_ofBecoming_22 (ly_3 B _ _) rfl ?_
      refine e_iconst (v := nI 2) dX3_ofBecoming_25 (by decide) ?_
      refine m_iald (2) dX3_ofBecoming_26 (ly_4 B _ _) (rfl) (by omega) (by decide) ?_
      refine e_goto 31 dX3_ofBecoming_27 (by decide) ?_
      exact m_iret dX3_ofBecoming_31 rfl (Nat.le_refl _) (Nat.le_refl _) (⟨rfl, by rw [if_neg hc, if_pos h2]⟩)
  · refine e_iconst (v := nI 0) dX3_ofBecoming_5 (by decide) ?_
    exact m_iret dX3_ofBecoming_6 rfl (Nat.le_refl _) (Nat.le_refl _) (⟨rfl, by rw [if_pos hc]; rfl⟩)
set_option maxRecDepth 100000 in
/-- Table.byLast -/
theorem c_byLast (m : mm_M) {i j a b : Nat} (hi : 1 ≤ i) (hi2 : i ≤ 12) (hj : 1 ≤ j) (hj2 : j ≤ 12) (ha : a < 26) (hb : b < 26) (ea : m 173 (i - 1) = nI a) (eb : m 175 (j - 1) = nI b) : mm_F l D kA B sz o 1 23 mX7_byLast [.ref (B + 171), .int (nI i), .int (nI j)] m (fun v m' => m' = m ∧ v = some (.int (m (177 + (i - 1)) (j - 1) + (if a = b then 0 else if m (6 + a) b = -1 then m 4 2 else m (6 + a) b)))) := by
  refine mm_F.of ?_
  refine e_aload_n dX7_byLast_0 rfl rfl ?_
  refine m_get 7 3 lf_X7_23 dX7_byLast_1 (ly_171 B _ _) rfl ?_
  refine e_iload_n dX7_byLast_4 rfl rfl ?_
  refine e_iconst (v := nI 1) dX7_byLast_5 (by decide) ?_
  refine e_isub dX7_byLast_6 ?_
  refine e_top (w := nI (i - 1)) (pk_sub (by omega)) ?_
  refine m_aald (r := 177 + (i - 1)) (i - 1) dX7_byLast_7 (by decide) rfl (ly_176 B _ _) (rfl) (by omega) (by decide) (if_pos (by omega)) ?_
  refine e_iload_n dX7_byLast_8 rfl rfl ?_
  refine e_iconst (v := nI 1) dX7_byLast_9 (by decide) ?_
  refine e_isub dX7_byLast_10 ?_
  refine e_top (w := nI (j - 1)) (pk_sub (by omega)) ?_
  refine m_iald (j - 1) dX7_byLast_11 (ly_le B _ _ (i := (i - 1)) (by omega)) (rfl) (by omega) (by decide) ?_
  refine e_aload_n dX7_byLast_12 rfl rfl ?_
  refine m_get 7 0 lf_X7_37 dX7_byLast_13 (ly_171 B _ _) rfl ?_
  refine e_aload_n dX7_byLast_16 rfl rfl ?_
  refine m_get 7 1 lf_X7_12 dX7_byLast_17 (ly_171 B _ _) rfl ?_
  refine m_get 5 0 lf_X7_68 dX7_byLast_20 (ly_172 B _ _) rfl ?_
  refine e_iload_n dX7_byLast_23 rfl rfl ?_
  refine e_iconst (v := nI 1) dX7_byLast_24 (by decide) ?_
  refine e_isub dX7_byLast_25 ?_
  refine e_top (w := nI (i - 1)) (pk_sub (by omega)) ?_
  refine m_iald (i - 1) dX7_byLast_26 (ly_173 B _ _) (rfl) (by omega) (by decide) ?_
  refine e_top (w := nI a) (ea) ?_
  refine e_aload_n dX7_byLast_27 rfl rfl ?_
  refine m_get 7 2 lf_X7_18 dX7_byLast_28 (ly_171 B _ _) rfl ?_
  refine m_get 5 0 lf_X7_68 dX7_byLast_31 (ly_174 B _ _) rfl ?_
  refine e_iload_n dX7_byLast_34 rfl rfl ?_
  refine e_iconst (v := nI 1) dX7_byLast_35 (by decide) ?_
  refine e_isub dX7_byLast_36 ?_
  refine e_top (w := nI (j - 1)) (pk_sub (by omega)) ?_
  refine m_iald (j - 1) dX7_byLast_37 (ly_175 B _ _) (rfl) (by omega) (by decide) ?_
  refine e_top (w := nI b) (eb) ?_
  refine m_callV (As := [_, _]) lc_X7_90 dX7_byLast_38 (ly_3 B _ _) rfl rfl (by simp [Value.category]) (Nat.le_of_ble_eq_true rfl) (Nat.le_of_ble_eq_true rfl) ⟨Nat.le_of_ble_eq_true rfl, Nat.le_of_ble_eq_true rfl⟩ ⟨Nat.le_of_ble_eq_true rfl, Nat.le_of_ble_eq_true rfl⟩ (c_ofBecoming m ha hb) (fun v9 m9 hp9 => ?_)
  obtain ⟨rfl, rfl⟩ := hp9
  refine e_iadd dX7_byLast_41 ?_
  exact m_iret dX7_byLast_42 rfl (Nat.le_refl _) (Nat.le_refl _) (⟨rfl, rfl⟩)
set_option maxRecDepth 100000 in
/-- Table.mayChange -/
theorem c_mayChange (m : mm_M) {i j : Nat} (hi2 : i ≤ 12) (hj2 : j ≤ 12) : mm_F l D kA B sz o 0 0 mX7_mayChange [.ref (B + 171), .int (nI i), .int (nI j)] m (fun v m' => m' = m ∧ v = some (.int (if 1 < i ∧ 1 < j ∧ m 173 (i - 2) = m 175 (j - 1) ∧ m 173 (i - 1) = m 175 (j - 2) then nI 1 else nI 0))) := by
  refine mm_F.of ?_
  refine e_iload_n dX7_mayChange_0 rfl rfl ?_
  refine e_iconst (v := nI 1) dX7_mayChange_1 (by decide) ?_
  refine n_icmp_le 64 dX7_mayChange_2 (by decide) (by omega) (by omega) (fun hc => ?_) (fun hc => ?_)
  · refine e_iconst (v := nI 0) dX7_mayChange_64 (by decide) ?_
    exact m_zret dX7_mayChange_65 rfl (by first | rfl | decide | assumption) (Nat.le_refl _) (Nat.le_refl _) (⟨rfl, by rw [if_neg (by omega)]⟩)
  · refine e_iload_n dX7_mayChange_5 rfl rfl ?_
    refine e_iconst (v := nI 1) dX7_mayChange_6 (by decide) ?_
    refine n_icmp_le 64 dX7_mayChange_7 (by decide) (by omega) (by omega) (fun h2 => ?_) (fun h2 => ?_)
    · refine e_iconst (v := nI 0) dX7_mayChange_64 (by decide) ?_
      exact m_zret dX7_mayChange_65 rfl (by first | rfl | decide | assumption) (Nat.le_refl _) (Nat.le_refl _) (⟨rfl, by rw [if_neg (by omega)]⟩)
    · refine e_aload_n dX7_mayChange_10 rfl rfl ?_
      refine m_get 7 1 lf_X7_12 dX7_mayChange_11 (ly_171 B _ _) rfl ?_
      refine m_get 5 0 lf_X7_68 dX7_mayChange_14 (ly_172 B _ _) rfl ?_
      refine e_iload_n dX7_mayChange_17 rfl rfl ?_
      refine e_iconst (v := nI 2) dX7_mayChange_18 (by decide) ?_
      refine e_isub dX7_mayChange_19 ?_
      refine e_top (w := nI (i - 2)) (pk_sub (by omega)) ?_
      refine m_iald (i - 2) dX7_mayChange_20 (ly_173 B _ _) (rfl) (by omega) (by decide) ?_
      refine e_aload_n dX7_mayChange_21 rfl rfl ?_
      refine m_get 7 2 lf_X7_18 dX7_mayChange_22 (ly_171 B _ _) rfl ?_
      refine m_get 5 0 lf_X7_68 dX7_mayChange_25 (ly_174 B _ _) rfl ?_
      refine e_iload_n dX7_mayChange_28 rfl rfl ?_
      refine e_iconst (v := nI 1) dX7_mayChange_29 (by decide) ?_
      refine e_isub dX7_mayChange_30 ?_
      refine e_top (w := nI (j - 1)) (pk_sub (by omega)) ?_
      refine m_iald (j - 1) dX7_mayChange_31 (ly_175 B _ _) (rfl) (by omega) (by decide) ?_
      refine e_icmp_ne 64 dX7_mayChange_32 (by decide) (fun h3 => ?_) (fun h3 => ?_)
      · refine e_iconst (v := nI 0) dX7_mayChange_64 (by decide) ?_
        exact m_zret dX7_mayChange_65 rfl (by first | rfl | decide | assumption) (Nat.le_refl _) (Nat.le_refl _) (⟨rfl, by rw [if_neg (fun q => h3 q.2.2.1)]⟩)
      · refine e_aload_n dX7_mayChange_35 rfl rfl ?_
        refine m_get 7 1 lf_X7_12 dX7_mayChange_36 (ly_171 B _ _) rfl ?_
        refine m_get 5 0 lf_X7_68 dX7_mayChange_39 (ly_172 B _ _) rfl ?_
        refine e_iload_n dX7_mayChange_42 rfl rfl ?_
        refine e_iconst (v := nI 1) dX7_mayChange_43 (by decide) ?_
        refine e_isub dX7_mayChange_44 ?_
        refine e_top (w := nI (i - 1)) (pk_sub (by omega)) ?_
        refine m_iald (i - 1) dX7_mayChange_45 (ly_173 B _ _) (rfl) (by omega) (by decide) ?_
        refine e_aload_n dX7_mayChange_46 rfl rfl ?_
        refine m_get 7 2 lf_X7_18 dX7_mayChange_47 (ly_171 B _ _) rfl ?_
        refine m_get 5 0 lf_X7_68 dX7_mayChange_50 (ly_174 B _ _) rfl ?_
        refine e_iload_n dX7_mayChange_53 rfl rfl ?_
        refine e_iconst (v := nI 2) dX7_mayChange_54 (by decide) ?_
        refine e_isub dX7_mayChange_55 ?_
        refine e_top (w := nI (j - 2)) (pk_sub (by omega)) ?_
        refine m_iald (j - 2) dX7_mayChange_56 (ly_175 B _ _) (rfl) (by omega) (by decide) ?_
        refine e_icmp_ne 64 dX7_mayChange_57 (by decide) (fun h4 => ?_) (fun h4 => ?_)
        · refine e_iconst (v := nI 0) dX7_mayChange_64 (by decide) ?_
          exact m_zret dX7_mayChange_65 rfl (by first | rfl | decide | assumption) (Nat.le_refl _) (Nat.le_refl _) (⟨rfl, by rw [if_neg (fun q => h4 q.2.2.2)]⟩)
        · refine e_iconst (v := nI 1) dX7_mayChange_60 (by decide) ?_
          refine e_goto 65 dX7_mayChange_61 (by decide) ?_
          exact m_zret dX7_mayChange_65 rfl (by first | rfl | decide | assumption) (Nat.le_refl _) (Nat.le_refl _) (⟨rfl, by rw [if_pos ⟨by omega, by omega, h3, h4⟩]⟩)
theorem bc_val {m : mm_M} {p : Nat → Nat} {w : Nat → Nat → Nat} (hp : pr_at m p w) {a b : Nat} (ha : a < 26) (hb : b < 26) : (if a = b then 0 else if m (6 + a) b = -1 then m 4 2 else m (6 + a) b) = nI (bc p w a b) := by
  obtain ⟨h1, h2, h3, h4, h5, h6⟩ := hp
  unfold bc
  by_cases e : a = b
  · rw [if_pos e, if_pos e]; rfl
  · rw [if_neg e, if_neg e, h5 a b ha hb]
    have h7 := h6 a b
    by_cases e2 : w a b = 0
    · rw [if_pos e2, if_pos rfl, if_pos e2]; exact h1 2 (by omega)
    · rw [if_neg e2, if_neg e2, if_neg]
      intro q
      have : ¬ nI (w a b - 1) < 0 := nI_pos (by omega)
      rw [q] at this
      exact this (by decide)
theorem c_mayChange2 (m : mm_M) {i j n k : Nat} {r t : Nat → Nat} (hr : rw_at m 172 173 n r) (ht : rw_at m 174 175 k t) (hi : i ≤ n) (hj : j ≤ k) : mm_F l D kA B sz o 0 0 mX7_mayChange [.ref (B + 171), .int (nI i), .int (nI j)] m (fun v m' => m' = m ∧ v = some (.int (if 1 < i ∧ 1 < j ∧ r (i - 2) = t (j - 1) ∧ r (i - 1) = t (j - 2) then nI 1 else nI 0))) := by
  have a2 := hr.2.1
  have b2 := ht.2.1
  refine (c_mayChange m (i := i) (j := j) (by omega) (by omega)).imp ?_
  rintro v m' ⟨rfl, rfl⟩
  refine ⟨rfl, ?_⟩
  by_cases h1 : 1 < i ∧ 1 < j
  · obtain ⟨h1, h2⟩ := h1
    obtain ⟨x1, x2⟩ := hr.2.2 (i - 2) (by omega)
    obtain ⟨x3, x4⟩ := hr.2.2 (i - 1) (by omega)
    obtain ⟨y1, y2⟩ := ht.2.2 (j - 2) (by omega)
    obtain ⟨y3, y4⟩ := ht.2.2 (j - 1) (by omega)
    rw [x1, x3, y1, y3]
    simp only [nI_eq (show r (i - 2) < 2 ^ 31 by omega) (show t (j - 1) < 2 ^ 31 by omega), nI_eq (show r (i - 1) < 2 ^ 31 by omega) (show t (j - 2) < 2 ^ 31 by omega)]
  · rw [if_neg (fun q => h1 ⟨q.1, q.2.1⟩), if_neg (fun q => h1 ⟨q.1, q.2.1⟩)]
set_option maxRecDepth 100000 in
set_option maxHeartbeats 1000000 in
/-- Table.cheapest: one more of the table -/
theorem c_cheapest (m : mm_M) {p : Nat → Nat} {w : Nat → Nat → Nat} {i j n k : Nat} {r t : Nat → Nat} (hp : pr_at m p w) (hr : rw_at m 172 173 n r) (ht : rw_at m 174 175 k t) (hi : i < n) (hj : j < k)
    (H : ∀ a b, (a ≤ i ∧ b ≤ k) ∨ (a = i + 1 ∧ b ≤ j) → m (177 + a) b = nI (dd p w r t a b)) : mm_F l D kA B sz o 2 45 mX7_cheapest [.ref (B + 171), .int (nI (i + 1)), .int (nI (j + 1))] m (fun v m' => m' = m ∧ v = some (.int (nI (dd p w r t (i + 1) (j + 1))))) := by
  have n12 := hr.2.1
  have k12 := ht.2.1
  have p0 := hp.2.1 0 (by omega)
  have p1 := hp.2.1 1 (by omega)
  have p3 := hp.2.1 3 (by omega)
  have d1 := dd_le (w := w) r t p0 p1 i j
  have d2 := dd_le (w := w) r t p0 p1 i (j + 1)
  have d3 := dd_le (w := w) r t p0 p1 (i + 1) j
  have d4 := dd_le (w := w) r t p0 p1 (i - 1) (j - 1)
  obtain ⟨ra, rb⟩ := hr.2.2 i hi
  obtain ⟨ta, tb⟩ := ht.2.2 j hj
  have b9 := bc_le hp (r i) (t j)
  refine mm_F.of ?_
  refine e_aload_n dX7_cheapest_0 rfl rfl ?_
  refine e_iload_n dX7_cheapest_1 rfl rfl ?_
  refine e_iload_n dX7_cheapest_2 rfl rfl ?_
  refine m_callV (As := [_, _]) lc_X7_65 dX7_cheapest_3 (ly_171 B _ _) rfl rfl (by simp [Value.category]) (Nat.le_of_ble_eq_true rfl) (Nat.le_of_ble_eq_true rfl) ⟨Nat.le_of_ble_eq_true rfl, Nat.le_of_ble_eq_true rfl⟩ ⟨Nat.le_of_ble_eq_true rfl, Nat.le_of_ble_eq_true rfl⟩ (c_byLast m (i := i + 1) (j := j + 1) (a := r i) (b := t j) (by omega) (by omega) (by omega) (by omega) rb tb (by simpa using ra) (by simpa using ta)) (fun v9 m9 hp9 => ?_)
  obtain ⟨rfl, rfl⟩ := hp9
  refine e_top (w := nI (dd p w r t i j + bc p w (r i) (t j))) ((by rw [bc_val hp rb tb, Nat.add_sub_cancel, Nat.add_sub_cancel, H i j (Or.inl ⟨by omega, by omega⟩), nI_add])) ?_
  refine e_istore_n dX7_cheapest_6 rfl (by decide) rfl ?_
  refine e_iload_n dX7_cheapest_7 rfl rfl ?_
  refine e_aload_n dX7_cheapest_8 rfl rfl ?_
  refine m_get 7 3 lf_X7_23 dX7_cheapest_9 (ly_171 B _ _) rfl ?_
  refine e_iload_n dX7_cheapest_12 rfl rfl ?_
  refine e_iconst (v := nI 1) dX7_cheapest_13 (by decide) ?_
  refine e_isub dX7_cheapest_14 ?_
  refine e_top (w := nI ((i + 1) - 1)) (pk_sub (by omega)) ?_
  refine m_aald (r := 177 + ((i + 1) - 1)) ((i + 1) - 1) dX7_cheapest_15 (by decide) rfl (ly_176 B _ _) (rfl) (by omega) (by decide) (if_pos (by omega)) ?_
  refine e_iload_n dX7_cheapest_16 rfl rfl ?_
  refine m_iald (j + 1) dX7_cheapest_17 (ly_le B _ _ (i := ((i + 1) - 1)) (by omega)) (rfl) (by omega) (by decide) ?_
  refine e_top (w := nI (dd p w r t i (j + 1))) ((by rw [Nat.add_sub_cancel]; exact H i (j + 1) (Or.inl ⟨by omega, by omega⟩))) ?_
  refine e_aload_n dX7_cheapest_18 rfl rfl ?_
  refine m_get 7 0 lf_X7_37 dX7_cheapest_19 (ly_171 B _ _) rfl ?_
  refine m_get 3 0 lf_X7_82 dX7_cheapest_22 (ly_3 B _ _) rfl ?_
  refine e_iconst (v := nI 1) dX7_cheapest_25 (by decide) ?_
  refine m_iald (1) dX7_cheapest_26 (ly_4 B _ _) (rfl) (by omega) (by decide) ?_
  refine e_top (w := nI (p 1)) (hp.1 1 (by omega)) ?_
  refine e_iadd dX7_cheapest_27 ?_
  refine e_top (w := nI ((dd p w r t i (j + 1)) + (p 1))) (nI_add _ _) ?_
  refine e_min dX7_cheapest_28 lm_X7_59 wm_s wm_i wm_c (Nat.le_of_ble_eq_true rfl) (Nat.le_of_ble_eq_true rfl) (Nat.le_of_ble_eq_true rfl) (Nat.le_of_ble_eq_true rfl) rfl ?_
  refine e_top (w := nI (min (dd p w r t i j + bc p w (r i) (t j)) ((dd p w r t i (j + 1)) + (p 1)))) (min_nI (by omega) (by omega)) ?_
  refine e_istore_n dX7_cheapest_31 rfl (by decide) rfl ?_
  refine e_iload_n dX7_cheapest_32 rfl rfl ?_
  refine e_aload_n dX7_cheapest_33 rfl rfl ?_
  refine m_get 7 3 lf_X7_23 dX7_cheapest_34 (ly_171 B _ _) rfl ?_
  refine e_iload_n dX7_cheapest_37 rfl rfl ?_
  refine m_aald (r := 177 + (i + 1)) (i + 1) dX7_cheapest_38 (by decide) rfl (ly_176 B _ _) (rfl) (by omega) (by decide) (if_pos (by omega)) ?_
  refine e_iload_n dX7_cheapest_39 rfl rfl ?_
  refine e_iconst (v := nI 1) dX7_cheapest_40 (by decide) ?_
  refine e_isub dX7_cheapest_41 ?_
  refine e_top (w := nI ((j + 1) - 1)) (pk_sub (by omega)) ?_
  refine m_iald ((j + 1) - 1) dX7_cheapest_42 (ly_le B _ _ (i := (i + 1)) (by omega)) (rfl) (by omega) (by decide) ?_
  refine e_top (w := nI (dd p w r t (i + 1) j)) ((by rw [Nat.add_sub_cancel]; exact H (i + 1) j (Or.inr ⟨rfl, by omega⟩))) ?_
  refine e_aload_n dX7_cheapest_43 rfl rfl ?_
  refine m_get 7 0 lf_X7_37 dX7_cheapest_44 (ly_171 B _ _) rfl ?_
  refine m_get 3 0 lf_X7_82 dX7_cheapest_47 (ly_3 B _ _) rfl ?_
  refine e_iconst (v := nI 0) dX7_cheapest_50 (by decide) ?_
  refine m_iald (0) dX7_cheapest_51 (ly_4 B _ _) (rfl) (by omega) (by decide) ?_
  refine e_top (w := nI (p 0)) (hp.1 0 (by omega)) ?_
  refine e_iadd dX7_cheapest_52 ?_
  refine e_top (w := nI ((dd p w r t (i + 1) j) + (p 0))) (nI_add _ _) ?_
  refine e_min dX7_cheapest_53 lm_X7_59 wm_s wm_i wm_c (Nat.le_of_ble_eq_true rfl) (Nat.le_of_ble_eq_true rfl) (Nat.le_of_ble_eq_true rfl) (Nat.le_of_ble_eq_true rfl) rfl ?_
  refine e_top (w := nI (min (min (dd p w r t i j + bc p w (r i) (t j)) ((dd p w r t i (j + 1)) + (p 1))) ((dd p w r t (i + 1) j) + (p 0)))) (min_nI (by omega) (by omega)) ?_
  refine e_istore_n dX7_cheapest_56 rfl (by decide) rfl ?_
  refine e_aload_n dX7_cheapest_57 rfl rfl ?_
  refine e_iload_n dX7_cheapest_58 rfl rfl ?_
  refine e_iload_n dX7_cheapest_59 rfl rfl ?_
  refine m_callV (As := [_, _]) lc_X7_75 dX7_cheapest_60 (ly_171 B _ _) rfl rfl (by simp [Value.category]) (Nat.le_of_ble_eq_true rfl) (Nat.le_of_ble_eq_true rfl) ⟨Nat.le_of_ble_eq_true rfl, Nat.le_of_ble_eq_true rfl⟩ ⟨Nat.le_of_ble_eq_true rfl, Nat.le_of_ble_eq_true rfl⟩ (c_mayChange2 m9 hr ht (i := i + 1) (j := j + 1) (by omega) (by omega)) (fun v9 m9 hp9 => ?_)
  obtain ⟨rfl, rfl⟩ := hp9
  have hcond : (1 < i + 1 ∧ 1 < j + 1 ∧ r (i + 1 - 2) = t (j + 1 - 1) ∧ r (i + 1 - 1) = t (j + 1 - 2)) ↔ (0 < i ∧ 0 < j ∧ r (i - 1) = t j ∧ r i = t (j - 1)) := by
    rw [show i + 1 - 2 = i - 1 by omega, show j + 1 - 2 = j - 1 by omega, Nat.add_sub_cancel, Nat.add_sub_cancel]
    constructor
    · rintro ⟨a, b, c⟩; exact ⟨by omega, by omega, c⟩
    · rintro ⟨a, b, c⟩; exact ⟨by omega, by omega, c⟩
  by_cases hT : 0 < i ∧ 0 < j ∧ r (i - 1) = t j ∧ r i = t (j - 1)
  · rw [if_pos (hcond.mpr hT)]
    refine e_if_eq 79 dX7_cheapest_63 (by decide) (fun hc => ?_) (fun hc => ?_)
    · exact absurd hc (by decide)
    · refine e_iload_n dX7_cheapest_66 rfl rfl ?_
      refine e_aload_n dX7_cheapest_67 rfl rfl ?_
      refine e_iload_n dX7_cheapest_68 rfl rfl ?_
      refine e_iload_n dX7_cheapest_69 rfl rfl ?_
      refine m_callV (As := [_, _]) lc_X7_79 dX7_cheapest_70 (ly_171 B _ _) rfl rfl (by simp [Value.category]) (Nat.le_of_ble_eq_true rfl) (Nat.le_of_ble_eq_true rfl) ⟨Nat.le_of_ble_eq_true rfl, Nat.le_of_ble_eq_true rfl⟩ ⟨Nat.le_of_ble_eq_true rfl, Nat.le_of_ble_eq_true rfl⟩ (c_byChange m9 (i := i + 1) (j := j + 1) (by omega) (by omega) (by omega) (by omega)) (fun v9 m9 hp9 => ?_)
      obtain ⟨rfl, rfl⟩ := hp9
      refine e_top (w := nI (dd p w r t (i - 1) (j - 1) + p 3)) ((by rw [show i + 1 - 2 = i - 1 by omega, show j + 1 - 2 = j - 1 by omega, H (i - 1) (j - 1) (Or.inl ⟨by omega, by omega⟩), hp.1 3 (by omega), nI_add])) ?_
      refine e_min dX7_cheapest_73 lm_X7_59 wm_s wm_i wm_c (Nat.le_of_ble_eq_true rfl) (Nat.le_of_ble_eq_true rfl) (Nat.le_of_ble_eq_true rfl) (Nat.le_of_ble_eq_true rfl) rfl ?_
      refine e_top (w := nI (min (min (min (dd p w r t i j + bc p w (r i) (t j)) ((dd p w r t i (j + 1)) + (p 1))) ((dd p w r t (i + 1) j) + (p 0))) (dd p w r t (i - 1) (j - 1) + p 3))) (min_nI (by omega) (by omega)) ?_
      refine e_goto 80 dX7_cheapest_76 (by decide) ?_
      exact m_iret dX7_cheapest_80 rfl (Nat.le_refl _) (Nat.le_refl _) (⟨rfl, by rw [dd_ij, if_pos hT]⟩)
  · rw [if_neg (fun q => hT (hcond.mp q))]
    refine e_if_eq 79 dX7_cheapest_63 (by decide) (fun hc => ?_) (fun hc => ?_)
    · refine e_iload_n dX7_cheapest_79 rfl rfl ?_
      exact m_iret dX7_cheapest_80 rfl (Nat.le_refl _) (Nat.le_refl _) (⟨rfl, by rw [dd_ij, if_neg hT]; congr 2; congr 1; omega⟩)
    · exact absurd hc (by decide)
end TBL
