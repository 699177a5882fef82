section SID
variable {l : Launch} {D : va_G} {kA : FieldType → ClassId} {B sz : Nat} {o : Int64}
set_option maxRecDepth 100000 in
/-- Arrays.fill of an int array -/
theorem c_afill (m : mm_M) {k N : Nat} (x : Int32) (hk : ∀ (m : Nat → Int32) (o : Int64), ly B m o k = some (.inl (.int, N, .inl m))) (hN : N < 10000) : mm_F l D kA B sz o 0 0 mJ7_fill_53178 [.ref (B + k), .int x] m (fun v m' => v = none ∧ (∀ i, i < N → m' k i = x) ∧ ∀ a, a ≠ k → m' a = m a) := by
  refine mm_F.of ?_
  refine e_iconst (v := nI 0) dJ7_fill_53178_0 (by decide) ?_
  refine e_istore_n dJ7_fill_53178_1 rfl (by decide) rfl ?_
  refine e_aload_n dJ7_fill_53178_2 rfl rfl ?_
  refine e_alen (v := nI N) dJ7_fill_53178_3 (by decide) (lay_at.trans (hk _ _)) rfl ?_
  refine e_istore_n dJ7_fill_53178_4 rfl (by decide) rfl ?_
  have loop : ∀ (d i : Nat) (m' : mm_M), N - i = d → i ≤ N → (∀ j, j < i → m' k j = x) → (∀ a, a ≠ k → m' a = m a) → mm_G l D kA B sz o 0 0 mJ7_fill_53178 (fun v m' => v = none ∧ (∀ i, i < N → m' k i = x) ∧ ∀ a, a ≠ k → m' a = m a) 5 [some (.ref (B + k)), some (.int x), some (.int (nI i)), some (.int (nI N))] [] m' := by
    intro d
    induction d with
    | zero =>
      intro i m' h1 h2 h3 h4
      refine e_iload_n dJ7_fill_53178_5 rfl rfl ?_
      refine e_iload_n dJ7_fill_53178_6 rfl rfl ?_
      refine n_icmp_ge 20 dJ7_fill_53178_7 (by decide) (by omega) (by omega) (fun g1 => ?_) (fun g1 => ?_)
      · refine m_vret dJ7_fill_53178_20 rfl (Nat.le_refl _) (Nat.le_refl _) ⟨rfl, fun j hj => h3 j (by omega), h4⟩
      · exact absurd g1 (by omega)
    | succ d ih =>
      intro i m' h1 h2 h3 h4
      refine e_iload_n dJ7_fill_53178_5 rfl rfl ?_
      refine e_iload_n dJ7_fill_53178_6 rfl rfl ?_
      refine n_icmp_ge 20 dJ7_fill_53178_7 (by decide) (by omega) (by omega) (fun g1 => ?_) (fun g1 => ?_)
      · exact absurd g1 (by omega)
      · refine e_aload_n dJ7_fill_53178_10 rfl rfl ?_
        refine e_iload_n dJ7_fill_53178_11 rfl rfl ?_
        refine e_iload_n dJ7_fill_53178_12 rfl rfl ?_
        refine m_iast i dJ7_fill_53178_13 (fun m => hk m _) rfl (by omega) (by omega) ?_
        refine e_iinc (v := nI (i + 1)) dJ7_fill_53178_14 rfl (nI_add _ _) (by decide) rfl ?_
        refine e_goto 5 dJ7_fill_53178_17 (by decide) ?_
        refine ih (i + 1) _ (by omega) (by omega) (fun j hj => ?_) (fun a ha => by rw [wr_off _ _ ha]; exact h4 a ha)
        by_cases e : j = i
        · rw [e, wr_same]
        · rw [wr_ne _ _ (Or.inr e)]; exact h3 j (by omega)
  exact loop N 0 m (by omega) (by omega) (fun j hj => by omega) (fun a _ => rfl)
/-- a Side: the object, its numbers, its costs -/
def isSide (B s s1 s2 : Nat) : Prop := (∀ (m : Nat → Int32) (o : Int64), ly B m o s = some (.inr (6, [.ref (B + s1), .ref (B + s2)]))) ∧ (∀ (m : Nat → Int32) (o : Int64), ly B m o s1 = some (.inl (.int, 13, .inl m))) ∧ ∀ (m : Nat → Int32) (o : Int64), ly B m o s2 = some (.inl (.int, 13, .inl m))
theorem isSide_l (B : Nat) : isSide B 197 198 199 := ⟨fun m o => ly_197 B m o, fun m o => ly_198 B m o, fun m o => ly_199 B m o⟩
theorem isSide_r (B : Nat) : isSide B 200 201 202 := ⟨fun m o => ly_200 B m o, fun m o => ly_201 B m o, fun m o => ly_202 B m o⟩
set_option maxRecDepth 100000 in
/-- Side.empty -/
theorem c_empty (m : mm_M) {s s1 s2 : Nat} (hs : isSide B s s1 s2) : mm_F l D kA B sz o 1 23 mX6_empty [.ref (B + s)] m (fun v m' => v = none ∧ (∀ i, i < 13 → m' s2 i = nI 1000000) ∧ ∀ a, a ≠ s2 → m' a = m a) := by
  refine mm_F.of ?_
  refine e_aload_n dX6_empty_0 rfl rfl ?_
  refine m_get 6 1 lf_X6_15 dX6_empty_1 (hs.1 _ _) rfl ?_
  refine e_ldc dX6_empty_4 lk_X6_18 ?_
  refine m_callS (As := [_, _]) lc_X6_19 dX6_empty_6 rfl rfl (by simp [Value.category]) (Nat.le_of_ble_eq_true rfl) (Nat.le_of_ble_eq_true rfl) ⟨Nat.le_of_ble_eq_true rfl, Nat.le_of_ble_eq_true rfl⟩ ⟨Nat.le_of_ble_eq_true rfl, Nat.le_of_ble_eq_true rfl⟩ (c_afill m (k := s2) (1000000 : Int32) hs.2.2 (by omega)) (fun v9 m9 hp9 => ?_)
  obtain ⟨rfl, a1, a2⟩ := hp9
  exact m_vret dX6_empty_9 rfl (Nat.le_refl _) (Nat.le_refl _) (⟨rfl, a1, a2⟩)
def P_off (m : mm_M) (s1 s2 T x : Nat) (d co : Nat → Nat) (v : Option Value) (m' : mm_M) : Prop := v = none ∧ (∀ a, 1 ≤ a → a ≤ T → if d a < co a then m' s1 a = nI x ∧ m' s2 a = nI (d a) else m' s1 a = m s1 a ∧ m' s2 a = m s2 a) ∧ ∀ a, a ≠ s1 → a ≠ s2 → m' a = m a
set_option maxRecDepth 100000 in
set_option maxHeartbeats 1000000 in
/-- Side.offer -/
theorem c_offer (m : mm_M) {s s1 s2 n k T x : Nat} {d co : Nat → Nat} (hs : isSide B s s1 s2) (e0 : s1 ≠ s2) (e1 : 190 ≤ s1) (e2 : 190 ≤ s2) (hn : m 172 1 = nI n) (hk : m 174 1 = nI k) (n12 : n ≤ 12) (k12 : k ≤ 12) (hT : T ≤ n) (hd : ∀ a, a ≤ n → m (177 + a) k = nI (d a) ∧ d a ≤ 1000000) (hco : ∀ a, 1 ≤ a → a ≤ T → m s2 a = nI (co a) ∧ co a ≤ 1000000) : mm_F l D kA B sz o 1 21 mX6_offer [.ref (B + s), .int (nI x), .ref (B + 171), .int (nI T)] m (P_off m s1 s2 T x d co) := by
  refine mm_F.of ?_
  refine e_iconst (v := nI 1) dX6_offer_0 (by decide) ?_
  refine e_istore dX6_offer_1 (by decide) rfl ?_
  have loop : ∀ (z a : Nat) (m' : mm_M) (x5 : Option Value), T + 1 - a = z → 1 ≤ a → a ≤ T + 1 → (∀ b, 1 ≤ b → b < a → if d b < co b then m' s1 b = nI x ∧ m' s2 b = nI (d b) else m' s1 b = m s1 b ∧ m' s2 b = m s2 b) → (∀ b, a ≤ b → m' s1 b = m s1 b ∧ m' s2 b = m s2 b) → (∀ b, b ≠ s1 → b ≠ s2 → m' b = m b) → mm_G l D kA B sz o 1 21 mX6_offer (P_off m s1 s2 T x d co) 3 [some (.ref (B + s)), some (.int (nI x)), some (.ref (B + 171)), some (.int (nI T)), some (.int (nI a)), x5] [] m' := by
    intro z
    induction z with
    | zero =>
      intro a m' x5 h1 h2 h3 h4 h5 h6
      refine e_iload dX6_offer_3 rfl ?_
      refine e_iload_n dX6_offer_5 rfl rfl ?_
      refine n_icmp_gt 52 dX6_offer_6 (by decide) (by omega) (by omega) (fun g1 => ?_) (fun g1 => ?_)
      · exact m_vret dX6_offer_52 rfl (Nat.le_refl _) (Nat.le_refl _) (⟨rfl, fun b b1 b2 => h4 b b1 (by omega), h6⟩)
      · exact absurd g1 (by omega)
    | succ z ih =>
      intro a m' x5 h1 h2 h3 h4 h5 h6
      obtain ⟨c1, c2⟩ := hco a h2 (by omega)
      obtain ⟨d1, d2⟩ := hd a (by omega)
      refine e_iload dX6_offer_3 rfl ?_
      refine e_iload_n dX6_offer_5 rfl rfl ?_
      refine n_icmp_gt 52 dX6_offer_6 (by decide) (by omega) (by omega) (fun g1 => ?_) (fun g1 => ?_)
      · exact absurd g1 (by omega)
      · refine e_aload_n dX6_offer_9 rfl rfl ?_
        refine e_iload dX6_offer_10 rfl ?_
        refine m_callV (As := [_]) lc_X6_25 dX6_offer_12 (ly_171 B _ _) rfl rfl (by simp [Value.category]) (Nat.le_of_ble_eq_true rfl) (Nat.le_of_ble_eq_true rfl) ⟨Nat.le_of_ble_eq_true rfl, Nat.le_of_ble_eq_true rfl⟩ ⟨Nat.le_of_ble_eq_true rfl, Nat.le_of_ble_eq_true rfl⟩ (c_priceOfFirst m' (a := a) (n := n) (k := k) (by rw [h6 172 (by omega) (by omega)]; exact hn) (by rw [h6 174 (by omega) (by omega)]; exact hk) n12 k12 (by omega)) (fun v9 m1 hp9 => ?_)
        obtain ⟨rfl, rfl⟩ := hp9
        refine e_top (w := nI (d a)) ((by rw [h6 (177 + a) (by omega) (by omega)]; exact d1)) ?_
        refine e_istore dX6_offer_15 (by decide) rfl ?_
        refine e_iload dX6_offer_17 rfl ?_
        refine e_aload_n dX6_offer_19 rfl rfl ?_
        refine m_get 6 1 lf_X6_15 dX6_offer_20 (hs.1 _ _) rfl ?_
        refine e_iload dX6_offer_23 rfl ?_
        refine m_iald (a) dX6_offer_25 (hs.2.2 _ _) (rfl) (by omega) (by decide) ?_
        refine e_top (w := nI (co a)) ((by rw [(h5 a (Nat.le_refl _)).2]; exact c1)) ?_
        refine n_icmp_ge 46 dX6_offer_26 (by decide) (by omega) (by omega) (fun g2 => ?_) (fun g2 => ?_)
        · refine e_iinc (v := nI (a + 1)) dX6_offer_46 rfl (nI_add _ _) (by decide) rfl ?_
          refine e_goto 3 dX6_offer_49 (by decide) ?_
          refine ih (a + 1) m1 _ (by omega) (by omega) (by omega) (fun b b1 b2 => ?_) (fun b hb => h5 b (by omega)) h6
          by_cases e : b = a
          · subst e
            rw [if_neg (by omega)]; exact h5 b (Nat.le_refl _)
          · exact h4 b b1 (by omega)
        · refine e_aload_n dX6_offer_29 rfl rfl ?_
          refine m_get 6 1 lf_X6_15 dX6_offer_30 (hs.1 _ _) rfl ?_
          refine e_iload dX6_offer_33 rfl ?_
          refine e_iload dX6_offer_35 rfl ?_
          refine m_iast (a) dX6_offer_37 (fun m => hs.2.2 m _) (rfl) (by omega) (by decide) ?_
          refine e_aload_n dX6_offer_38 rfl rfl ?_
          refine m_get 6 0 lf_X6_9 dX6_offer_39 (hs.1 _ _) rfl ?_
          refine e_iload dX6_offer_42 rfl ?_
          refine e_iload_n dX6_offer_44 rfl rfl ?_
          refine m_iast (a) dX6_offer_45 (fun m => hs.2.1 m _) (rfl) (by omega) (by decide) ?_
          refine e_iinc (v := nI (a + 1)) dX6_offer_46 rfl (nI_add _ _) (by decide) rfl ?_
          refine e_goto 3 dX6_offer_49 (by decide) ?_
          refine ih (a + 1) _ _ (by omega) (by omega) (by omega) (fun b b1 b2 => ?_) (fun b hb => ?_) (fun b h7 h8 => by rw [wr_off _ _ h7, wr_off _ _ h8]; exact h6 b h7 h8)
          · by_cases e : b = a
            · subst e
              rw [if_pos (by omega), wr_same, wr_off _ _ e0.symm, wr_same]
              exact ⟨rfl, rfl⟩
            · rw [wr_ne _ _ (Or.inr e), wr_off _ _ e0, wr_off _ _ e0.symm, wr_ne _ _ (Or.inr e)]
              exact h4 b b1 (by omega)
          · rw [wr_ne _ _ (Or.inr (by omega)), wr_off _ _ e0, wr_off _ _ e0.symm, wr_ne _ _ (Or.inr (by omega))]
            exact h5 b (by omega)
  exact loop T 1 m none (by omega) (by omega) (by omega) (fun b b1 b2 => by omega) (fun b _ => ⟨rfl, rfl⟩) (fun b _ _ => rfl)
/-- of the first i in ORDER the closest, for each length up to T -/
def sd (m : mm_M) (s1 s2 : Nat) (f : Nat → Nat) (i : Nat) (g : Nat → Nat → Nat) (T : Nat) : Prop := ∀ a, 1 ≤ a → a ≤ T → (i = 0 ∧ m s2 a = nI 1000000) ∨ ∃ j0, j0 < i ∧ m s1 a = nI (f j0) ∧ m s2 a = nI (g a (f j0)) ∧ ∀ j, j < i → g a (f j0) ≤ g a (f j) ∧ (j < j0 → g a (f j0) < g a (f j))
theorem sd.of {m m' : mm_M} {s1 s2 i T : Nat} {f : Nat → Nat} {g : Nat → Nat → Nat} (h : sd m s1 s2 f i g T) (h1 : m' s1 = m s1) (h2 : m' s2 = m s2) : sd m' s1 s2 f i g T := fun a a1 a2 => by
  rw [h1, h2]; exact h a a1 a2
/-- what the costs are, as numbers -/
theorem sd.co {m : mm_M} {s1 s2 i T : Nat} {f : Nat → Nat} {g : Nat → Nat → Nat} (h : sd m s1 s2 f i g T) (hg : ∀ a j, a ≤ T → j < i → g a (f j) ≤ 1000000) : ∃ co : Nat → Nat, ∀ a, 1 ≤ a → a ≤ T → m s2 a = nI (co a) ∧ co a ≤ 1000000 := by
  have : ∀ a, ∃ c, 1 ≤ a → a ≤ T → m s2 a = nI c ∧ c ≤ 1000000 := fun a => by
    by_cases ha : 1 ≤ a ∧ a ≤ T
    · rcases h a ha.1 ha.2 with ⟨-, e⟩ | ⟨j0, j1, -, e, -⟩
      · exact ⟨1000000, fun _ _ => ⟨e, Nat.le_refl _⟩⟩
      · exact ⟨g a (f j0), fun _ _ => ⟨e, hg a j0 ha.2 j1⟩⟩
    · exact ⟨0, fun h1 h2 => absurd ⟨h1, h2⟩ ha⟩
  exact ⟨fun a => Classical.choose (this a), fun a h1 h2 => Classical.choose_spec (this a) h1 h2⟩
theorem sd.step {m m' : mm_M} {s1 s2 i T : Nat} {f d co : Nat → Nat} {g : Nat → Nat → Nat} {v : Option Value} (h : sd m s1 s2 f i g T) (hd : ∀ a, a ≤ T → d a = g a (f i)) (hg : ∀ a, a ≤ T → g a (f i) < 1000000) (hgb : ∀ a j, a ≤ T → j < i → g a (f j) < 1000000) (hco : ∀ a, 1 ≤ a → a ≤ T → m s2 a = nI (co a) ∧ co a ≤ 1000000) (hp : P_off m s1 s2 T (f i) d co v m') : sd m' s1 s2 f (i + 1) g T := by
  intro a a1 a2
  obtain ⟨-, hp, -⟩ := hp
  have h1 := hp a a1 a2
  obtain ⟨c1, c2⟩ := hco a a1 a2
  have d1 := hd a a2
  have g1 := hg a a2
  right
  rcases h a a1 a2 with ⟨i0, e⟩ | ⟨j0, j1, j2, j3, j4⟩
  · have : co a = 1000000 := (nI_eq (by omega) (by omega)).mp (c1.symm.trans e)
    rw [if_pos (by omega)] at h1
    refine ⟨i, by omega, h1.1, by rw [h1.2, d1], fun j hj => ⟨?_, fun _ => by omega⟩⟩
    rw [show j = i by omega]
    exact Nat.le_refl _
  · have hb := hgb a j0 a2 j1
    have : co a = g a (f j0) := (nI_eq (by omega) (by omega)).mp (c1.symm.trans j3)
    by_cases e : d a < co a
    · rw [if_pos e] at h1
      refine ⟨i, by omega, h1.1, by rw [h1.2, d1], fun j hj => ⟨?_, fun hji => ?_⟩⟩
      · by_cases e2 : j = i
        · rw [e2]; exact Nat.le_refl _
        · have := (j4 j (by omega)).1; omega
      · have := (j4 j hji).1; omega
    · rw [if_neg e] at h1
      refine ⟨j0, by omega, by rw [h1.1]; exact j2, by rw [h1.2]; exact j3, fun j hj => ?_⟩
      by_cases e2 : j = i
      · subst e2
        exact ⟨by omega, fun _ => by omega⟩
      · exact j4 j (by omega)
end SID
