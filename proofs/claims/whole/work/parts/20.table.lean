section TBL
variable {l : Launch} {D : va_G} {kA : FieldType → ClassId} {B sz : Nat} {o : Int64}
set_option maxRecDepth 100000 in
/-- Table.byChange -/
theorem c_byChange (m : mm_M) {i j : Nat} (hi : 2 ≤ i) (hi2 : i ≤ 12) (hj : 2 ≤ j) (hj2 : j ≤ 12) : mm_F l D kA B sz o 0 0 mX7_byChange [.ref (B + 171), .int (nI i), .int (nI j)] m (fun v m' => m' = m ∧ v = some (.int (m (177 + (i - 2)) (j - 2) + m 4 3))) := by
  refine mm_F.of ?_
  refine e_aload_n dX7_byChange_0 rfl rfl ?_
  refine m_get 7 3 lf_X7_23 dX7_byChange_1 (ly_171 B _ _) rfl ?_
  refine e_iload_n dX7_byChange_4 rfl rfl ?_
  refine e_iconst (v := nI 2) dX7_byChange_5 (by decide) ?_
  refine e_isub dX7_byChange_6 ?_
  refine e_top (w := nI (i - 2)) (pk_sub (by omega)) ?_
  refine m_aald (r := 177 + (i - 2)) (i - 2) dX7_byChange_7 (by decide) rfl (ly_176 B _ _) (rfl) (by omega) (by decide) (if_pos (by omega)) ?_
  refine e_iload_n dX7_byChange_8 rfl rfl ?_
  refine e_iconst (v := nI 2) dX7_byChange_9 (by decide) ?_
  refine e_isub dX7_byChange_10 ?_
  refine e_top (w := nI (j - 2)) (pk_sub (by omega)) ?_
  refine m_iald (j - 2) dX7_byChange_11 (ly_le B _ _ (i := (i - 2)) (by omega)) (rfl) (by omega) (by decide) ?_
  refine e_aload_n dX7_byChange_12 rfl rfl ?_
  refine m_get 7 0 lf_X7_37 dX7_byChange_13 (ly_171 B _ _) rfl ?_
  refine m_get 3 0 lf_X7_82 dX7_byChange_16 (ly_3 B _ _) rfl ?_
  refine e_iconst (v := nI 3) dX7_byChange_19 (by decide) ?_
  refine m_iald (3) dX7_byChange_20 (ly_4 B _ _) (rfl) (by omega) (by decide) ?_
  refine e_iadd dX7_byChange_21 ?_
  exact m_iret dX7_byChange_22 rfl (Nat.le_refl _) (Nat.le_refl _) (⟨rfl, rfl⟩)
set_option maxRecDepth 100000 in
/-- Prices.ofBecoming -/
theorem c_ofBecoming (m : mm_M) {a b : Nat} (ha : a < 26) (hb : b < 26) : mm_F l D kA B sz o 0 0 mX3_ofBecoming [.ref (B + 3), .int (nI a), .int (nI b)] m (fun v m' => m' = m ∧ v = some (.int (if a = b then 0 else if m (6 + a) b = -1 then m 4 2 else m (6 + a) b))) := by
  refine mm_F.of ?_
  refine e_iload_n dX3_ofBecoming_0 rfl rfl ?_
  refine e_iload_n dX3_ofBecoming_1 rfl rfl ?_
  refine n_icmp_ne 7 dX3_ofBecoming_2 (by decide) (by omega) (by omega) (fun hc => ?_) (fun hc => ?_)
  · refine e_aload_n dX3_ofBecoming_7 rfl rfl ?_
    refine m_get 3 1 lf_X3_17 dX3_ofBecoming_8 (ly_3 B _ _) rfl ?_
    refine e_iload_n dX3_ofBecoming_11 rfl rfl ?_
    refine m_aald (r := 6 + a) (a) dX3_ofBecoming_12 (by decide) rfl (ly_5 B _ _) (rfl) (by omega) (by decide) (if_pos (by omega)) ?_
    refine e_iload_n dX3_ofBecoming_13 rfl rfl ?_
    refine m_iald (b) dX3_ofBecoming_14 (ly_own B _ _ (i := a) (by omega)) (rfl) (by omega) (by decide) ?_
    refine e_istore_n dX3_ofBecoming_15 rfl (by decide) rfl ?_
    refine e_iload_n dX3_ofBecoming_16 rfl rfl ?_
    refine e_iconst (v := -1) dX3_ofBecoming_17 (by decide) ?_
    refine e_icmp_ne 30 dX3_ofBecoming_18 (by decide) (fun h2 => ?_) (fun h2 => ?_)
    · refine e_iload_n dX3_ofBecoming_30 rfl rfl ?_
      exact m_iret dX3_ofBecoming_31 rfl (Nat.le_refl _) (Nat.le_refl _) (⟨rfl, by rw [if_neg hc, if_neg h2]⟩)
    · refine e_aload_n dX3_ofBecoming_21 rfl rfl ?_
      refine m_get 3 0 lf_X3_9 dX3_ofBecoming_22 (ly_3 B _ _) rfl ?_
      refine e_iconst (v := nI 2) dX3_ofBecoming_25 (by decide) ?_
      refine m_iald (2) dX3_ofBecoming_26 (ly_4 B _ _) (rfl) (by omega) (by decide) ?_
      refine e_goto 31 dX3_ofBecoming_27 (by decide) ?_
      exact m_iret dX3_ofBecoming_31 rfl (Nat.le_refl _) (Nat.le_refl _) (⟨rfl, by rw [if_neg hc, if_pos h2]⟩)
  · refine e_iconst (v := nI 0) dX3_ofBecoming_5 (by decide) ?_
    exact m_iret dX3_ofBecoming_6 rfl (Nat.le_refl _) (Nat.le_refl _) (⟨rfl, by rw [if_pos hc]; rfl⟩)
set_option maxRecDepth 100000 in
/-- Table.byLast -/
theorem c_byLast (m : mm_M) {i j a b : Nat} (hi : 1 ≤ i) (hi2 : i ≤ 12) (hj : 1 ≤ j) (hj2 : j ≤ 12) (ha : a < 26) (hb : b < 26) (ea : m 173 (i - 1) = nI a) (eb : m 175 (j - 1) = nI b) : mm_F l D kA B sz o 1 23 mX7_byLast [.ref (B + 171), .int (nI i), .int (nI j)] m (fun v m' => m' = m ∧ v = some (.int (m (177 + (i - 1)) (j - 1) + (if a = b then 0 else if m (6 + a) b = -1 then m 4 2 else m (6 + a) b)))) := by
  refine mm_F.of ?_
  refine e_aload_n dX7_byLast_0 rfl rfl ?_
  refine m_get 7 3 lf_X7_23 dX7_byLast_1 (ly_171 B _ _) rfl ?_
  refine e_iload_n dX7_byLast_4 rfl rfl ?_
  refine e_iconst (v := nI 1) dX7_byLast_5 (by decide) ?_
  refine e_isub dX7_byLast_6 ?_
  refine e_top (w := nI (i - 1)) (pk_sub (by omega)) ?_
  refine m_aald (r := 177 + (i - 1)) (i - 1) dX7_byLast_7 (by decide) rfl (ly_176 B _ _) (rfl) (by omega) (by decide) (if_pos (by omega)) ?_
  refine e_iload_n dX7_byLast_8 rfl rfl ?_
  refine e_iconst (v := nI 1) dX7_byLast_9 (by decide) ?_
  refine e_isub dX7_byLast_10 ?_
  refine e_top (w := nI (j - 1)) (pk_sub (by omega)) ?_
  refine m_iald (j - 1) dX7_byLast_11 (ly_le B _ _ (i := (i - 1)) (by omega)) (rfl) (by omega) (by decide) ?_
  refine e_aload_n dX7_byLast_12 rfl rfl ?_
  refine m_get 7 0 lf_X7_37 dX7_byLast_13 (ly_171 B _ _) rfl ?_
  refine e_aload_n dX7_byLast_16 rfl rfl ?_
  refine m_get 7 1 lf_X7_12 dX7_byLast_17 (ly_171 B _ _) rfl ?_
  refine m_get 5 0 lf_X7_68 dX7_byLast_20 (ly_172 B _ _) rfl ?_
  refine e_iload_n dX7_byLast_23 rfl rfl ?_
  refine e_iconst (v := nI 1) dX7_byLast_24 (by decide) ?_
  refine e_isub dX7_byLast_25 ?_
  refine e_top (w := nI (i - 1)) (pk_sub (by omega)) ?_
  refine m_iald (i - 1) dX7_byLast_26 (ly_173 B _ _) (rfl) (by omega) (by decide) ?_
  refine e_top (w := nI a) (ea) ?_
  refine e_aload_n dX7_byLast_27 rfl rfl ?_
  refine m_get 7 2 lf_X7_18 dX7_byLast_28 (ly_171 B _ _) rfl ?_
  refine m_get 5 0 lf_X7_68 dX7_byLast_31 (ly_174 B _ _) rfl ?_
  refine e_iload_n dX7_byLast_34 rfl rfl ?_
  refine e_iconst (v := nI 1) dX7_byLast_35 (by decide) ?_
  refine e_isub dX7_byLast_36 ?_
  refine e_top (w := nI (j - 1)) (pk_sub (by omega)) ?_
  refine m_iald (j - 1) dX7_byLast_37 (ly_175 B _ _) (rfl) (by omega) (by decide) ?_
  refine e_top (w := nI b) (eb) ?_
  refine m_callV (As := [_, _]) lc_X7_90 dX7_byLast_38 (ly_3 B _ _) rfl rfl (by simp [Value.category]) (Nat.le_of_ble_eq_true rfl) (Nat.le_of_ble_eq_true rfl) ⟨Nat.le_of_ble_eq_true rfl, Nat.le_of_ble_eq_true rfl⟩ ⟨Nat.le_of_ble_eq_true rfl, Nat.le_of_ble_eq_true rfl⟩ (c_ofBecoming m ha hb) (fun v9 m9 hp9 => ?_)
  obtain ⟨rfl, rfl⟩ := hp9
  refine e_iadd dX7_byLast_41 ?_
  exact m_iret dX7_byLast_42 rfl (Nat.le_refl _) (Nat.le_refl _) (⟨rfl, rfl⟩)
set_option maxRecDepth 100000 in
/-- Table.mayChange -/
theorem c_mayChange (m : mm_M) {i j : Nat} (hi2 : i ≤ 12) (hj2 : j ≤ 12) : mm_F l D kA B sz o 0 0 mX7_mayChange [.ref (B + 171), .int (nI i), .int (nI j)] m (fun v m' => m' = m ∧ v = some (.int (if 1 < i ∧ 1 < j ∧ m 173 (i - 2) = m 175 (j - 1) ∧ m 173 (i - 1) = m 175 (j - 2) then nI 1 else nI 0))) := by
  refine mm_F.of ?_
  refine e_iload_n dX7_mayChange_0 rfl rfl ?_
  refine e_iconst (v := nI 1) dX7_mayChange_1 (by decide) ?_
  refine n_icmp_le 64 dX7_mayChange_2 (by decide) (by omega) (by omega) (fun hc => ?_) (fun hc => ?_)
  · refine e_iconst (v := nI 0) dX7_mayChange_64 (by decide) ?_
    exact m_zret dX7_mayChange_65 rfl (by first | rfl | decide | assumption) (Nat.le_refl _) (Nat.le_refl _) (⟨rfl, by rw [if_neg (by omega)]⟩)
  · refine e_iload_n dX7_mayChange_5 rfl rfl ?_
    refine e_iconst (v := nI 1) dX7_mayChange_6 (by decide) ?_
    refine n_icmp_le 64 dX7_mayChange_7 (by decide) (by omega) (by omega) (fun h2 => ?_) (fun h2 => ?_)
    · refine e_iconst (v := nI 0) dX7_mayChange_64 (by decide) ?_
      exact m_zret dX7_mayChange_65 rfl (by first | rfl | decide | assumption) (Nat.le_refl _) (Nat.le_refl _) (⟨rfl, by rw [if_neg (by omega)]⟩)
    · refine e_aload_n dX7_mayChange_10 rfl rfl ?_
      refine m_get 7 1 lf_X7_12 dX7_mayChange_11 (ly_171 B _ _) rfl ?_
      refine m_get 5 0 lf_X7_68 dX7_mayChange_14 (ly_172 B _ _) rfl ?_
      refine e_iload_n dX7_mayChange_17 rfl rfl ?_
      refine e_iconst (v := nI 2) dX7_mayChange_18 (by decide) ?_
      refine e_isub dX7_mayChange_19 ?_
      refine e_top (w := nI (i - 2)) (pk_sub (by omega)) ?_
      refine m_iald (i - 2) dX7_mayChange_20 (ly_173 B _ _) (rfl) (by omega) (by decide) ?_
      refine e_aload_n dX7_mayChange_21 rfl rfl ?_
      refine m_get 7 2 lf_X7_18 dX7_mayChange_22 (ly_171 B _ _) rfl ?_
      refine m_get 5 0 lf_X7_68 dX7_mayChange_25 (ly_174 B _ _) rfl ?_
      refine e_iload_n dX7_mayChange_28 rfl rfl ?_
      refine e_iconst (v := nI 1) dX7_mayChange_29 (by decide) ?_
      refine e_isub dX7_mayChange_30 ?_
      refine e_top (w := nI (j - 1)) (pk_sub (by omega)) ?_
      refine m_iald (j - 1) dX7_mayChange_31 (ly_175 B _ _) (rfl) (by omega) (by decide) ?_
      refine e_icmp_ne 64 dX7_mayChange_32 (by decide) (fun h3 => ?_) (fun h3 => ?_)
      · refine e_iconst (v := nI 0) dX7_mayChange_64 (by decide) ?_
        exact m_zret dX7_mayChange_65 rfl (by first | rfl | decide | assumption) (Nat.le_refl _) (Nat.le_refl _) (⟨rfl, by rw [if_neg (fun q => h3 q.2.2.1)]⟩)
      · refine e_aload_n dX7_mayChange_35 rfl rfl ?_
        refine m_get 7 1 lf_X7_12 dX7_mayChange_36 (ly_171 B _ _) rfl ?_
        refine m_get 5 0 lf_X7_68 dX7_mayChange_39 (ly_172 B _ _) rfl ?_
        refine e_iload_n dX7_mayChange_42 rfl rfl ?_
        refine e_iconst (v := nI 1) dX7_mayChange_43 (by decide) ?_
        refine e_isub dX7_mayChange_44 ?_
        refine e_top (w := nI (i - 1)) (pk_sub (by omega)) ?_
        refine m_iald (i - 1) dX7_mayChange_45 (ly_173 B _ _) (rfl) (by omega) (by decide) ?_
        refine e_aload_n dX7_mayChange_46 rfl rfl ?_
        refine m_get 7 2 lf_X7_18 dX7_mayChange_47 (ly_171 B _ _) rfl ?_
        refine m_get 5 0 lf_X7_68 dX7_mayChange_50 (ly_174 B _ _) rfl ?_
        refine e_iload_n dX7_mayChange_53 rfl rfl ?_
        refine e_iconst (v := nI 2) dX7_mayChange_54 (by decide) ?_
        refine e_isub dX7_mayChange_55 ?_
        refine e_top (w := nI (j - 2)) (pk_sub (by omega)) ?_
        refine m_iald (j - 2) dX7_mayChange_56 (ly_175 B _ _) (rfl) (by omega) (by decide) ?_
        refine e_icmp_ne 64 dX7_mayChange_57 (by decide) (fun h4 => ?_) (fun h4 => ?_)
        · refine e_iconst (v := nI 0) dX7_mayChange_64 (by decide) ?_
          exact m_zret dX7_mayChange_65 rfl (by first | rfl | decide | assumption) (Nat.le_refl _) (Nat.le_refl _) (⟨rfl, by rw [if_neg (fun q => h4 q.2.2.2)]⟩)
        · refine e_iconst (v := nI 1) dX7_mayChange_60 (by decide) ?_
          refine e_goto 65 dX7_mayChange_61 (by decide) ?_
          exact m_zret dX7_mayChange_65 rfl (by first | rfl | decide | assumption) (Nat.le_refl _) (Nat.le_refl _) (⟨rfl, by rw [if_pos ⟨by omega, by omega, h3, h4⟩]⟩)
end TBL
