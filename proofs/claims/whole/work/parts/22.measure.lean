section MEA
variable {l : Launch} {D : va_G} {kA : FieldType → ClassId} {B sz : Nat} {o : Int64}
set_option maxRecDepth 100000 in
/-- Table.priceOfFirst, of a number of letters that there is -/
theorem c_priceOfFirst (m : mm_M) {a n k : Nat} (hn : m 172 1 = nI n) (hk : m 174 1 = nI k) (n12 : n ≤ 12) (k12 : k ≤ 12) (ha : a ≤ n) : mm_F l D kA B sz o 0 0 mX7_priceOfFirst [.ref (B + 171), .int (nI a)] m (fun v m' => m' = m ∧ v = some (.int (m (177 + a) k))) := by
  refine mm_F.of ?_
  refine e_iload_n dX7_priceOfFirst_0 rfl rfl ?_
  refine n_if_lt 15 dX7_priceOfFirst_1 (by decide) (by omega) (fun hc => ?_) (fun hc => ?_)
  · exact absurd hc (by omega)
  · refine e_iload_n dX7_priceOfFirst_4 rfl rfl ?_
    refine e_aload_n dX7_priceOfFirst_5 rfl rfl ?_
    refine m_get 7 1 lf_X7_12 dX7_priceOfFirst_6 (ly_171 B _ _) rfl ?_
    refine m_get 5 1 lf_X7_48 dX7_priceOfFirst_9 (ly_172 B _ _) rfl ?_
    refine e_top (w := nI n) (hn) ?_
    refine n_icmp_le 20 dX7_priceOfFirst_12 (by decide) (by omega) (by omega) (fun h2 => ?_) (fun h2 => ?_)
    · refine e_aload_n dX7_priceOfFirst_20 rfl rfl ?_
      refine m_get 7 3 lf_X7_23 dX7_priceOfFirst_21 (ly_171 B _ _) rfl ?_
      refine e_iload_n dX7_priceOfFirst_24 rfl rfl ?_
      refine m_aald (r := 177 + a) (a) dX7_priceOfFirst_25 (by decide) rfl (ly_176 B _ _) (rfl) (by omega) (by decide) (if_pos (by omega)) ?_
      refine e_aload_n dX7_priceOfFirst_26 rfl rfl ?_
      refine m_get 7 2 lf_X7_18 dX7_priceOfFirst_27 (ly_171 B _ _) rfl ?_
      refine m_get 5 1 lf_X7_48 dX7_priceOfFirst_30 (ly_174 B _ _) rfl ?_
      refine e_top (w := nI k) (hk) ?_
      refine m_iald (k) dX7_priceOfFirst_33 (ly_le B _ _ (i := a) (by omega)) (rfl) (by omega) (by decide) ?_
      exact m_iret dX7_priceOfFirst_34 rfl (Nat.le_refl _) (Nat.le_refl _) (⟨rfl, rfl⟩)
    · exact absurd ha h2
/-- what a row's DISTANCE to a word leaves -/
def P_mea (m : mm_M) (p : Nat → Nat) (w : Nat → Nat → Nat) (n k : Nat) (r t : Nat → Nat) (m' : mm_M) : Prop := rw_at m' 172 173 n r ∧ rw_at m' 174 175 k t ∧ (∀ a b, a ≤ n → b ≤ k → m' (177 + a) b = nI (dd p w r t a b)) ∧ ∀ a, a < 172 ∨ 190 ≤ a → m' a = m a
set_option maxRecDepth 100000 in
/-- Table.measure -/
theorem c_measure (m : mm_M) {p : Nat → Nat} {w : Nat → Nat → Nat} {q q1 u u1 n k : Nat} {r t : Nat → Nat} (hp : pr_at m p w) (iq : isRow B q q1) (iu : isRow B u u1) (q2 : q < 171) (q3 : q1 < 171) (u2 : u < 171) (u3 : u1 < 171) (hr : rw_at m q q1 n r) (ht : rw_at m u u1 k t) : mm_F l D kA B sz o 4 90 mX7_measure [.ref (B + 171), .ref (B + q), .ref (B + u)] m (fun v m' => v = some (.int (nI (dd p w r t n k))) ∧ P_mea m p w n k r t m') := by
  have n12 := hr.2.1
  have k12 := ht.2.1
  refine mm_F.of ?_
  refine e_aload_n dX7_measure_0 rfl rfl ?_
  refine m_get 7 1 lf_X7_12 dX7_measure_1 (ly_171 B _ _) rfl ?_
  refine e_aload_n dX7_measure_4 rfl rfl ?_
  refine m_callV (As := [_]) lc_X7_41 dX7_measure_5 (ly_172 B _ _) rfl rfl (by simp [Value.category]) (Nat.le_of_ble_eq_true rfl) (Nat.le_of_ble_eq_true rfl) ⟨Nat.le_of_ble_eq_true rfl, Nat.le_of_ble_eq_true rfl⟩ ⟨Nat.le_of_ble_eq_true rfl, Nat.le_of_ble_eq_true rfl⟩ (c_copyOf m (isRow_172 B) iq (by omega) (by omega) (by omega) (by omega) (by omega) hr.1 hr.2.1) (fun v9 m1 hp9 => ?_)
  obtain ⟨rfl, a1, a2, a3⟩ := hp9
  have ht1 : rw_at m1 u u1 k t := ht.of (a3 u (by omega) (by omega)) (a3 u1 (by omega) (by omega))
  refine e_aload_n dX7_measure_8 rfl rfl ?_
  refine m_get 7 2 lf_X7_18 dX7_measure_9 (ly_171 B _ _) rfl ?_
  refine e_aload_n dX7_measure_12 rfl rfl ?_
  refine m_callV (As := [_]) lc_X7_41 dX7_measure_13 (ly_174 B _ _) rfl rfl (by simp [Value.category]) (Nat.le_of_ble_eq_true rfl) (Nat.le_of_ble_eq_true rfl) ⟨Nat.le_of_ble_eq_true rfl, Nat.le_of_ble_eq_true rfl⟩ ⟨Nat.le_of_ble_eq_true rfl, Nat.le_of_ble_eq_true rfl⟩ (c_copyOf m1 (isRow_174 B) iu (by omega) (by omega) (by omega) (by omega) (by omega) ht1.1 ht1.2.1) (fun v9 m2 hp9 => ?_)
  obtain ⟨rfl, b1, b2, b3⟩ := hp9
  have r2 : rw_at m2 172 173 n r := ⟨by rw [b3 172 (by omega) (by omega)]; exact a1, n12, fun i hi => by rw [b3 173 (by omega) (by omega), a2 i hi]; exact hr.2.2 i hi⟩
  have t2 : rw_at m2 174 175 k t := ⟨b1, k12, fun i hi => by rw [b2 i hi]; exact ht1.2.2 i hi⟩
  refine e_aload_n dX7_measure_16 rfl rfl ?_
  refine m_callV (As := []) lc_X7_45 dX7_measure_17 (ly_171 B _ _) rfl rfl (by simp [Value.category]) (Nat.le_of_ble_eq_true rfl) (Nat.le_of_ble_eq_true rfl) ⟨Nat.le_of_ble_eq_true rfl, Nat.le_of_ble_eq_true rfl⟩ ⟨Nat.le_of_ble_eq_true rfl, Nat.le_of_ble_eq_true rfl⟩ (c_fill m2 (hp.of (fun a h1 h2 => by rw [b3 a (by omega) (by omega), a3 a (by omega) (by omega)])) r2 t2) (fun v9 m3 hp9 => ?_)
  obtain ⟨rfl, c1, c2⟩ := hp9
  have r3 : rw_at m3 172 173 n r := r2.of (c2 172 (by omega)) (c2 173 (by omega))
  have t3 : rw_at m3 174 175 k t := t2.of (c2 174 (by omega)) (c2 175 (by omega))
  refine e_aload_n dX7_measure_20 rfl rfl ?_
  refine e_aload_n dX7_measure_21 rfl rfl ?_
  refine m_get 7 1 lf_X7_12 dX7_measure_22 (ly_171 B _ _) rfl ?_
  refine m_get 5 1 lf_X7_48 dX7_measure_25 (ly_172 B _ _) rfl ?_
  refine e_top (w := nI n) (r3.1) ?_
  refine m_callV (As := [_]) lc_X7_51 dX7_measure_28 (ly_171 B _ _) rfl rfl (by simp [Value.category]) (Nat.le_of_ble_eq_true rfl) (Nat.le_of_ble_eq_true rfl) ⟨Nat.le_of_ble_eq_true rfl, Nat.le_of_ble_eq_true rfl⟩ ⟨Nat.le_of_ble_eq_true rfl, Nat.le_of_ble_eq_true rfl⟩ (c_priceOfFirst m3 (a := n) r3.1 t3.1 n12 k12 (by omega)) (fun v9 m9 hp9 => ?_)
  obtain ⟨rfl, rfl⟩ := hp9
  exact m_iret dX7_measure_31 rfl (Nat.le_refl _) (Nat.le_refl _) (⟨by rw [c1 n k (by omega) (by omega)], r3, t3, c1, fun a ha => by rw [c2 a (by omega), b3 a (by omega) (by omega), a3 a (by omega) (by omega)]⟩)
set_option maxRecDepth 100000 in
/-- Table.measureMirrored -/
theorem c_measureM (m : mm_M) {p : Nat → Nat} {w : Nat → Nat → Nat} {q q1 u u1 n k : Nat} {r t : Nat → Nat} (hp : pr_at m p w) (iq : isRow B q q1) (iu : isRow B u u1) (q2 : q < 171) (q3 : q1 < 171) (u2 : u < 171) (u3 : u1 < 171) (hr : rw_at m q q1 n r) (ht : rw_at m u u1 k t) : mm_F l D kA B sz o 4 90 mX7_measureMirrored [.ref (B + 171), .ref (B + q), .ref (B + u)] m (fun v m' => v = none ∧ P_mea m p w n k (fun i => r (n - 1 - i)) (fun i => t (k - 1 - i)) m') := by
  have n12 := hr.2.1
  have k12 := ht.2.1
  refine mm_F.of ?_
  refine e_aload_n dX7_measureMirrored_0 rfl rfl ?_
  refine m_get 7 1 lf_X7_12 dX7_measureMirrored_1 (ly_171 B _ _) rfl ?_
  refine e_aload_n dX7_measureMirrored_4 rfl rfl ?_
  refine m_callV (As := [_]) lc_X7_55 dX7_measureMirrored_5 (ly_172 B _ _) rfl rfl (by simp [Value.category]) (Nat.le_of_ble_eq_true rfl) (Nat.le_of_ble_eq_true rfl) ⟨Nat.le_of_ble_eq_true rfl, Nat.le_of_ble_eq_true rfl⟩ ⟨Nat.le_of_ble_eq_true rfl, Nat.le_of_ble_eq_true rfl⟩ (c_mirrorOf m (isRow_172 B) iq (by omega) (by omega) (by omega) (by omega) (by omega) hr.1 hr.2.1) (fun v9 m1 hp9 => ?_)
  obtain ⟨rfl, a1, a2, a3⟩ := hp9
  have ht1 : rw_at m1 u u1 k t := ht.of (a3 u (by omega) (by omega)) (a3 u1 (by omega) (by omega))
  refine e_aload_n dX7_measureMirrored_8 rfl rfl ?_
  refine m_get 7 2 lf_X7_18 dX7_measureMirrored_9 (ly_171 B _ _) rfl ?_
  refine e_aload_n dX7_measureMirrored_12 rfl rfl ?_
  refine m_callV (As := [_]) lc_X7_55 dX7_measureMirrored_13 (ly_174 B _ _) rfl rfl (by simp [Value.category]) (Nat.le_of_ble_eq_true rfl) (Nat.le_of_ble_eq_true rfl) ⟨Nat.le_of_ble_eq_true rfl, Nat.le_of_ble_eq_true rfl⟩ ⟨Nat.le_of_ble_eq_true rfl, Nat.le_of_ble_eq_true rfl⟩ (c_mirrorOf m1 (isRow_174 B) iu (by omega) (by omega) (by omega) (by omega) (by omega) ht1.1 ht1.2.1) (fun v9 m2 hp9 => ?_)
  obtain ⟨rfl, b1, b2, b3⟩ := hp9
  have r2 : rw_at m2 172 173 n (fun i => r (n - 1 - i)) := ⟨by rw [b3 172 (by omega) (by omega)]; exact a1, n12, fun i hi => by rw [b3 173 (by omega) (by omega), a2 i hi]; exact hr.2.2 _ (by omega)⟩
  have t2 : rw_at m2 174 175 k (fun i => t (k - 1 - i)) := ⟨b1, k12, fun i hi => by rw [b2 i hi]; exact ht1.2.2 _ (by omega)⟩
  refine e_aload_n dX7_measureMirrored_16 rfl rfl ?_
  refine m_callV (As := []) lc_X7_45 dX7_measureMirrored_17 (ly_171 B _ _) rfl rfl (by simp [Value.category]) (Nat.le_of_ble_eq_true rfl) (Nat.le_of_ble_eq_true rfl) ⟨Nat.le_of_ble_eq_true rfl, Nat.le_of_ble_eq_true rfl⟩ ⟨Nat.le_of_ble_eq_true rfl, Nat.le_of_ble_eq_true rfl⟩ (c_fill m2 (hp.of (fun a h1 h2 => by rw [b3 a (by omega) (by omega), a3 a (by omega) (by omega)])) r2 t2) (fun v9 m3 hp9 => ?_)
  obtain ⟨rfl, c1, c2⟩ := hp9
  exact m_vret dX7_measureMirrored_20 rfl (Nat.le_refl _) (Nat.le_refl _) (⟨rfl, r2.of (c2 172 (by omega)) (c2 173 (by omega)), t2.of (c2 174 (by omega)) (c2 175 (by omega)), c1, fun a ha => by rw [c2 a (by omega), b3 a (by omega) (by omega), a3 a (by omega) (by omega)]⟩)
end MEA
