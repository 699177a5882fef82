section CHO
variable {l : Launch} {D : va_G} {kA : FieldType → ClassId} {B sz : Nat} {o : Int64}
/-- DISTANCE of a token to a word -/
def dk (S : sp_S) (t q : Nat) : Nat := dd (pp S) (ww S) (kt S t) (wt S q) (kl S t) (wl S q)
theorem dk_le {S : sp_S} (h : ok S) {t q : Nat} (ht : t < kn S) (hq : q < wn S) : dk S t q ≤ 216 := by
  have h1 := dd_le (w := ww S) (kt S t) (wt S q) (h.2.2.2.2.2.1 0 (by omega)) (h.2.2.2.2.2.1 1 (by omega)) (kl S t) (wl S q)
  have := (h.2.2.2.1 q hq).2.1
  have := (h.2.2.2.2.2.2.2.2.2.2 t ht).2.1
  unfold dk
  omega
/-- the price of two neighbours -/
def np (S : sp_S) (a b : Nat) : Nat := if pa S a b then 0 else pp S 5
/-- a number, or none: 1000000 -/
def nv (S : sp_S) (lim t q : Nat) : Nat := if dk S t q ≤ lim then dk S t q else 1000000
set_option maxRecDepth 100000 in
set_option maxHeartbeats 2000000 in
/-- Choice.measure -/
theorem c_chMeasure (m : mm_M) {S : sp_S} {f : Nat → Nat} {lim : Nat} (hc : cs m S) (hf : or_at m (wn S) f (wl S) (wt S)) (hl : lim ≤ 50) : mm_F l D kA B sz o 5 112 mX0_measure [.ref (B + 203), .ref (B + 157), .ref (B + 32), .ref (B + 171), .int (nI lim)] m (fun v m' => v = none ∧ (∀ t j, t < kn S → j < wn S → m' (205 + t) j = nI (nv S lim t (f j))) ∧ ∀ a, a < 172 ∨ (190 ≤ a ∧ a < 205) ∨ 211 ≤ a → m' a = m a) := by
  have hok := hc.1
  have n60 := hok.2.2.1
  have k6 := hok.2.2.2.2.2.2.2.2.2.1
  obtain ⟨o1, o2, o3⟩ := hf
  refine mm_F.of ?_
  refine e_iconst (v := nI 0) dX0_measure_0 (by decide) ?_
  refine e_istore dX0_measure_1 (by decide) rfl ?_
  have outer : ∀ (z t : Nat) (m' : mm_M) (x6 x7 : Option Value), kn S - t = z → t ≤ kn S → (∀ u j, u < t → j < wn S → m' (205 + u) j = nI (nv S lim u (f j))) → (∀ a, a < 172 ∨ (190 ≤ a ∧ a < 205) ∨ 211 ≤ a → m' a = m a) → mm_G l D kA B sz o 5 112 mX0_measure (fun v m' => v = none ∧ (∀ t j, t < kn S → j < wn S → m' (205 + t) j = nI (nv S lim t (f j))) ∧ ∀ a, a < 172 ∨ (190 ≤ a ∧ a < 205) ∨ 211 ≤ a → m' a = m a) 3 [some (.ref (B + 203)), some (.ref (B + 157)), some (.ref (B + 32)), some (.ref (B + 171)), some (.int (nI lim)), some (.int (nI t)), x6, x7] [] m' := by
    intro z
    induction z with
    | zero =>
      intro t m' x6 x7 h1 h2 h3 h4
      refine e_iload dX0_measure_3 rfl ?_
      refine e_aload_n dX0_measure_5 rfl rfl ?_
      refine m_get 1 1 lf_X0_26 dX0_measure_6 (ly_157 B _ _) rfl ?_
      refine e_top (w := nI (kn S)) ((by rw [h4 157 (by omega)]; exact hc.2.2.2.2.2.2.2.1)) ?_
      refine n_icmp_ge 85 dX0_measure_9 (by decide) (by omega) (by omega) (fun g1 => ?_) (fun g1 => ?_)
      · exact m_vret dX0_measure_85 rfl (Nat.le_refl _) (Nat.le_refl _) (⟨rfl, fun u j hu hj => h3 u j (by omega) hj, h4⟩)
      · exact absurd g1 (by omega)
    | succ z ih =>
      intro t m' x6 x7 h1 h2 h3 h4
      refine e_iload dX0_measure_3 rfl ?_
      refine e_aload_n dX0_measure_5 rfl rfl ?_
      refine m_get 1 1 lf_X0_26 dX0_measure_6 (ly_157 B _ _) rfl ?_
      refine e_top (w := nI (kn S)) ((by rw [h4 157 (by omega)]; exact hc.2.2.2.2.2.2.2.1)) ?_
      refine n_icmp_ge 85 dX0_measure_9 (by decide) (by omega) (by omega) (fun g1 => ?_) (fun g1 => ?_)
      · exact absurd g1 (by omega)
      · refine e_iconst (v := nI 0) dX0_measure_12 (by decide) ?_
        refine e_istore dX0_measure_13 (by decide) rfl ?_
        have inner : ∀ (y i : Nat) (m2 : mm_M) (x7 : Option Value), wn S - i = y → i ≤ wn S → (∀ u j, u < t → j < wn S → m2 (205 + u) j = nI (nv S lim u (f j))) → (∀ j, j < i → m2 (205 + t) j = nI (nv S lim t (f j))) → (∀ a, a < 172 ∨ (190 ≤ a ∧ a < 205) ∨ 211 ≤ a → m2 a = m a) → mm_G l D kA B sz o 5 112 mX0_measure (fun v m' => v = none ∧ (∀ t j, t < kn S → j < wn S → m' (205 + t) j = nI (nv S lim t (f j))) ∧ ∀ a, a < 172 ∨ (190 ≤ a ∧ a < 205) ∨ 211 ≤ a → m' a = m a) 15 [some (.ref (B + 203)), some (.ref (B + 157)), some (.ref (B + 32)), some (.ref (B + 171)), some (.int (nI lim)), some (.int (nI t)), some (.int (nI i)), x7] [] m2 := by
          intro y
          induction y with
          | zero =>
            intro i m2 x7 j1 j2 j3 j4 j5
            refine e_iload dX0_measure_15 rfl ?_
            refine e_aload_n dX0_measure_17 rfl rfl ?_
            refine m_get 8 4 lf_X0_32 dX0_measure_18 (ly_32 B _ _) rfl ?_
            refine e_top (w := nI (wn S)) ((by rw [j5 32 (by omega)]; exact hc.2.2.2.1)) ?_
            refine n_icmp_ge 79 dX0_measure_21 (by decide) (by omega) (by omega) (fun g2 => ?_) (fun g2 => ?_)
            · refine e_iinc (v := nI (t + 1)) dX0_measure_79 rfl (nI_add _ _) (by decide) rfl ?_
              refine e_goto 3 dX0_measure_82 (by decide) ?_
              refine ih (t + 1) m2 _ _ (by omega) (by omega) (fun u j hu hj => ?_) j5
              by_cases e : u = t
              · subst e; exact j4 j (by omega)
              · exact j3 u j (by omega) hj
            · exact absurd g2 (by omega)
          | succ y ih2 =>
            intro i m2 x7 j1 j2 j3 j4 j5
            obtain ⟨f1, f2⟩ := o1 i (by omega)
            have f60 : f i < 60 := by omega
            have hc2 : cs m2 S := hc.of (fun a ha => j5 a (by omega))
            have dl := dk_le hok (t := t) (q := f i) (by omega) f2
            refine e_iload dX0_measure_15 rfl ?_
            refine e_aload_n dX0_measure_17 rfl rfl ?_
            refine m_get 8 4 lf_X0_32 dX0_measure_18 (ly_32 B _ _) rfl ?_
            refine e_top (w := nI (wn S)) ((by rw [j5 32 (by omega)]; exact hc.2.2.2.1)) ?_
            refine n_icmp_ge 79 dX0_measure_21 (by decide) (by omega) (by omega) (fun g2 => ?_) (fun g2 => ?_)
            · exact absurd g2 (by omega)
            · refine e_aload_n dX0_measure_24 rfl rfl ?_
              refine e_aload_n dX0_measure_25 rfl rfl ?_
              refine m_get 1 0 lf_X0_35 dX0_measure_26 (ly_157 B _ _) rfl ?_
              refine e_iload dX0_measure_29 rfl ?_
              refine m_aald (r := 159 + 2 * t) (t) dX0_measure_31 (by decide) rfl (ly_158 B _ _) (rfl) (by omega) (by decide) (if_pos (by omega)) ?_
              refine e_aload_n dX0_measure_32 rfl rfl ?_
              refine m_get 8 0 lf_X0_39 dX0_measure_33 (ly_32 B _ _) rfl ?_
              refine e_aload_n dX0_measure_36 rfl rfl ?_
              refine m_get 8 2 lf_X0_40 dX0_measure_37 (ly_32 B _ _) rfl ?_
              refine e_iload dX0_measure_40 rfl ?_
              refine m_iald (i) dX0_measure_42 (ly_35 B _ _) (rfl) (by omega) (by decide) ?_
              refine e_top (w := nI (f i)) ((by rw [j5 35 (by omega)]; exact f1)) ?_
              refine m_aald (r := 37 + 2 * (f i)) (f i) dX0_measure_43 (by decide) rfl (ly_33 B _ _) (rfl) (by omega) (by decide) (if_pos (by omega)) ?_
              refine m_callV (As := [_, _]) lc_X0_43 dX0_measure_44 (ly_171 B _ _) rfl rfl (by simp [Value.category]) (Nat.le_of_ble_eq_true rfl) (Nat.le_of_ble_eq_true rfl) ⟨Nat.le_of_ble_eq_true rfl, Nat.le_of_ble_eq_true rfl⟩ ⟨Nat.le_of_ble_eq_true rfl, Nat.le_of_ble_eq_true rfl⟩ (c_measure m2 hc2.2.2.1 (isRow_t B (i := t) (by omega)) (isRow_w B f60) (by omega) (by omega) (by omega) (by omega) (hc2.2.2.2.2.2.2.2.2 t (by omega)) (hc2.2.2.2.2.1 (f i) f2).1) (fun v9 m3 hp9 => ?_)
              obtain ⟨rfl, -, -, -, c4⟩ := hp9
              refine e_top (w := nI (dk S t (f i))) (rfl) ?_
              refine e_istore dX0_measure_47 (by decide) rfl ?_
              refine e_aload_n dX0_measure_49 rfl rfl ?_
              refine m_get 0 0 lf_X0_11 dX0_measure_50 (ly_203 B _ _) rfl ?_
              refine e_iload dX0_measure_53 rfl ?_
              refine m_aald (r := 205 + t) (t) dX0_measure_55 (by decide) rfl (ly_204 B _ _) (rfl) (by omega) (by decide) (if_pos (by omega)) ?_
              refine e_iload dX0_measure_56 rfl ?_
              refine e_iload dX0_measure_58 rfl ?_
              refine e_iload dX0_measure_60 rfl ?_
              have fin : ∀ (x : Nat), x = nv S lim t (f i) → mm_G l D kA B sz o 5 112 mX0_measure (fun v m' => v = none ∧ (∀ t j, t < kn S → j < wn S → m' (205 + t) j = nI (nv S lim t (f j))) ∧ ∀ a, a < 172 ∨ (190 ≤ a ∧ a < 205) ∨ 211 ≤ a → m' a = m a) 72 [some (.ref (B + 203)), some (.ref (B + 157)), some (.ref (B + 32)), some (.ref (B + 171)), some (.int (nI lim)), some (.int (nI t)), some (.int (nI i)), some (.int (nI (dk S t (f i))))] [.int (nI x), .int (nI i), .ref (B + (205 + t))] m3 := by
                intro x hx
                refine m_iast i dX0_measure_72 (fun m => ly_cd B m _ (i := t) (by omega)) rfl (by omega) (by omega) ?_
                refine e_iinc (v := nI (i + 1)) dX0_measure_73 rfl (nI_add _ _) (by decide) rfl ?_
                refine e_goto 15 dX0_measure_76 (by decide) ?_
                refine ih2 (i + 1) _ _ (by omega) (by omega) (fun u j hu hj => ?_) (fun j hj => ?_) (fun a ha => ?_)
                · rw [wr_ne _ _ (Or.inl (by omega)), c4 (205 + u) (by omega)]; exact j3 u j hu hj
                · by_cases e : j = i
                  · rw [e, wr_same, hx]
                  · rw [wr_ne _ _ (Or.inr e), c4 (205 + t) (by omega)]; exact j4 j (by omega)
                · rw [wr_off _ _ (by omega), c4 a (by omega)]; exact j5 a ha
              refine n_icmp_gt 70 dX0_measure_62 (by decide) (by omega) (by omega) (fun g3 => ?_) (fun g3 => ?_)
              · refine e_ldc dX0_measure_70 lk_X0_49 ?_
                exact fin 1000000 (by unfold nv; rw [if_neg (by omega)])
              · refine e_iload dX0_measure_65 rfl ?_
                refine e_goto 72 dX0_measure_67 (by decide) ?_
                exact fin _ (by unfold nv; rw [if_pos (by omega)])
        exact inner (wn S) 0 m' _ (by omega) (by omega) h3 (fun j hj => by omega) h4
  exact outer (kn S) 0 m none none (by omega) (by omega) (fun u j hu => by omega) (fun a _ => rfl)
/-- the first of the least -/
def fm (y : Nat → Nat) (n j0 : Nat) : Prop := j0 < n ∧ ∀ j, j < n → y j0 ≤ y j ∧ (j < j0 → y j0 < y j)
def P_goOn (m : mm_M) (S : sp_S) (f x : Nat → Nat) (k i c : Nat) (v : Option Value) (m' : mm_M) : Prop := v = none ∧ (∃ j0, fm (fun j => x j + np S (f i) (f j)) (wn S) j0 ∧ m' (219 + k) i = nI j0 ∧ m' (212 + k) i = nI (c + (x j0 + np S (f i) (f j0)))) ∧ (∀ j, j ≠ i → m' (219 + k) j = m (219 + k) j ∧ m' (212 + k) j = m (212 + k) j) ∧ ∀ a, a ≠ 219 + k → a ≠ 212 + k → m' a = m a
set_option maxRecDepth 100000 in
set_option maxHeartbeats 2000000 in
/-- Choice.goOn -/
theorem c_goOn (m : mm_M) {S : sp_S} {f x : Nat → Nat} {k i c : Nat} (hc : cs m S) (hf : or_at m (wn S) f (wl S) (wt S)) (hk : k < 5) (hi : i < wn S) (hx : ∀ j, j < wn S → m (212 + (k + 1)) j = nI (x j) ∧ x j ≤ 1002000) (hcc : m (212 + k) i = nI c) (hc2 : c ≤ 1000) : mm_F l D kA B sz o 1 22 mX0_goOn [.ref (B + 203), .int (nI k), .int (nI i), .ref (B + 32), .int (nI (pp S 5))] m (P_goOn m S f x k i c) := by
  have hok := hc.1
  have n60 := hok.2.2.1
  have p5 := hok.2.2.2.2.2.2.2.1
  obtain ⟨o1, o2, o3⟩ := hf
  obtain ⟨fi1, fi2⟩ := o1 i hi
  have npl : ∀ a b, np S a b ≤ 50 := fun a b => by unfold np; split <;> omega
  refine mm_F.of ?_
  refine e_ldc dX0_goOn_0 lk_X0_64 ?_
  refine e_top (w := nI 2147483647) (rfl) ?_
  refine e_istore dX0_goOn_2 (by decide) rfl ?_
  refine e_iconst (v := nI 0) dX0_goOn_4 (by decide) ?_
  refine e_istore dX0_goOn_5 (by decide) rfl ?_
  have loop : ∀ (z j : Nat) (m' : mm_M) (L : Nat) (x7 x8 : Option Value), wn S - j = z → j ≤ wn S → L ≤ 2147483647 → ((j = 0 ∧ L = 2147483647) ∨ ∃ j0, fm (fun j => x j + np S (f i) (f j)) j j0 ∧ L = x j0 + np S (f i) (f j0) ∧ m' (219 + k) i = nI j0) → (∀ b, b ≠ i → m' (219 + k) b = m (219 + k) b) → (∀ a, a ≠ 219 + k → m' a = m a) → mm_G l D kA B sz o 1 22 mX0_goOn (P_goOn m S f x k i c) 7 [some (.ref (B + 203)), some (.int (nI k)), some (.int (nI i)), some (.ref (B + 32)), some (.int (nI (pp S 5))), some (.int (nI L)), some (.int (nI j)), x7, x8] [] m' := by
    intro z
    induction z with
    | zero =>
      intro j m' L x7 x8 h1 h2 hL h3 h4 h5
      refine e_iload dX0_goOn_7 rfl ?_
      refine e_aload_n dX0_goOn_9 rfl rfl ?_
      refine m_get 8 4 lf_X0_32 dX0_goOn_10 (ly_32 B _ _) rfl ?_
      refine e_top (w := nI (wn S)) ((by rw [h5 32 (by omega)]; exact hc.2.2.2.1)) ?_
      refine n_icmp_ge 87 dX0_goOn_13 (by decide) (by omega) (by omega) (fun g1 => ?_) (fun g1 => ?_)
      · have : j = wn S := by clear h3; omega
        subst this
        rcases h3 with ⟨e, -⟩ | ⟨j0, e1, e2, e3⟩
        · omega
        · have xb := (hx j0 e1.1).2
          have nb := npl (f i) (f j0)
          refine e_aload_n dX0_goOn_87 rfl rfl ?_
          refine m_get 0 1 lf_X0_16 dX0_goOn_88 (ly_203 B _ _) rfl ?_
          refine e_iload_n dX0_goOn_91 rfl rfl ?_
          refine m_aald (r := 212 + k) (k) dX0_goOn_92 (by decide) rfl (ly_211 B _ _) (rfl) (by omega) (by decide) (if_pos (by omega)) ?_
          refine e_iload_n dX0_goOn_93 rfl rfl ?_
          refine e_dup2 dX0_goOn_94 rfl rfl ?_
          refine m_iald (i) dX0_goOn_95 (ly_cc B _ _ (i := k) (by omega)) (rfl) (by omega) (by decide) ?_
          refine e_top (w := nI c) ((by rw [h5 (212 + k) (by omega)]; exact hcc)) ?_
          refine e_iload dX0_goOn_96 rfl ?_
          refine e_iadd dX0_goOn_98 ?_
          refine e_top (w := nI (c + L)) (nI_add _ _) ?_
          refine m_iast (i) dX0_goOn_99 (fun m => ly_cc B m _ (i := k) (by omega)) (rfl) (by omega) (by decide) ?_
          refine m_vret dX0_goOn_100 rfl (Nat.le_refl _) (Nat.le_refl _) ⟨rfl, ⟨j0, e1, by rw [wr_off _ _ (by omega)]; exact e3, by rw [wr_same, e2]⟩, fun b hb => ⟨by rw [wr_off _ _ (by omega)]; exact h4 b hb, by rw [wr_ne _ _ (Or.inr hb), h5 (212 + k) (by omega)]⟩, fun a h6 h7 => by rw [wr_off _ _ h7]; exact h5 a h6⟩
      · exact absurd g1 (by clear h3; omega)
    | succ z ih =>
      intro j m' L x7 x8 h1 h2 hL h3 h4 h5
      have jw : j < wn S := by clear h3; omega
      have y1 : wn S - (j + 1) = z := by clear h3; omega
      obtain ⟨fj1, fj2⟩ := o1 j jw
      obtain ⟨xj1, xj2⟩ := hx j jw
      have nb := npl (f i) (f j)
      refine e_iload dX0_goOn_7 rfl ?_
      refine e_aload_n dX0_goOn_9 rfl rfl ?_
      refine m_get 8 4 lf_X0_32 dX0_goOn_10 (ly_32 B _ _) rfl ?_
      refine e_top (w := nI (wn S)) ((by rw [h5 32 (by omega)]; exact hc.2.2.2.1)) ?_
      refine n_icmp_ge 87 dX0_goOn_13 (by decide) (by omega) (by omega) (fun g1 => ?_) (fun g1 => ?_)
      · exact absurd g1 (by clear h3; omega)
      · refine e_aload_n dX0_goOn_16 rfl rfl ?_
        refine e_aload_n dX0_goOn_17 rfl rfl ?_
        refine m_get 8 2 lf_X0_40 dX0_goOn_18 (ly_32 B _ _) rfl ?_
        refine e_iload_n dX0_goOn_21 rfl rfl ?_
        refine m_iald (i) dX0_goOn_22 (ly_35 B _ _) (rfl) (by omega) (by decide) ?_
        refine e_top (w := nI (f i)) ((by rw [h5 35 (by omega)]; exact fi1)) ?_
        refine e_aload_n dX0_goOn_23 rfl rfl ?_
        refine m_get 8 2 lf_X0_40 dX0_goOn_24 (ly_32 B _ _) rfl ?_
        refine e_iload dX0_goOn_27 rfl ?_
        refine m_iald (j) dX0_goOn_29 (ly_35 B _ _) (rfl) (by omega) (by decide) ?_
        refine e_top (w := nI (f j)) ((by rw [h5 35 (by omega)]; exact fj1)) ?_
        refine m_callV (As := [_, _]) lc_X0_65 dX0_goOn_30 (ly_32 B _ _) rfl rfl (by simp [Value.category]) (Nat.le_of_ble_eq_true rfl) (Nat.le_of_ble_eq_true rfl) ⟨Nat.le_of_ble_eq_true rfl, Nat.le_of_ble_eq_true rfl⟩ ⟨Nat.le_of_ble_eq_true rfl, Nat.le_of_ble_eq_true rfl⟩ (c_isPair m' (pa := pa S) (a := f i) (b := f j) (fun a b ha hb => by rw [h5 36 (by omega)]; exact hc.2.2.2.2.2.2.1 a b ha hb) (by omega) (by omega)) (fun v9 m2 hp9 => ?_)
        obtain ⟨rfl, rfl⟩ := hp9
        refine e_istore dX0_goOn_33 (by decide) rfl ?_
        refine e_aload_n dX0_goOn_35 rfl rfl ?_
        refine m_get 0 1 lf_X0_16 dX0_goOn_36 (ly_203 B _ _) rfl ?_
        refine e_iload_n dX0_goOn_39 rfl rfl ?_
        refine e_iconst (v := nI 1) dX0_goOn_40 (by decide) ?_
        refine e_iadd dX0_goOn_41 ?_
        refine e_top (w := nI (k + 1)) (nI_add _ _) ?_
        refine m_aald (r := 212 + (k + 1)) (k + 1) dX0_goOn_42 (by decide) rfl (ly_211 B _ _) (rfl) (by omega) (by decide) (if_pos (by omega)) ?_
        refine e_iload dX0_goOn_43 rfl ?_
        refine m_iald (j) dX0_goOn_45 (ly_cc B _ _ (i := (k + 1)) (by omega)) (rfl) (by omega) (by decide) ?_
        refine e_top (w := nI (x j)) ((by rw [h5 (212 + (k + 1)) (by omega)]; exact xj1)) ?_
        refine e_iload dX0_goOn_46 rfl ?_
        -- behind the price of the two
        have go57 : mm_G l D kA B sz o 1 22 mX0_goOn (P_goOn m S f x k i c) 57 [some (.ref (B + 203)), some (.int (nI k)), some (.int (nI i)), some (.ref (B + 32)), some (.int (nI (pp S 5))), some (.int (nI L)), some (.int (nI j)), some (.int (if pa S (f i) (f j) then nI 1 else nI 0)), x8] [.int (nI (np S (f i) (f j))), .int (nI (x j))] m2 := by
          refine e_iadd dX0_goOn_57 ?_
          refine e_top (w := nI ((x j) + (np S (f i) (f j)))) (nI_add _ _) ?_
          refine e_istore dX0_goOn_58 (by decide) rfl ?_
          refine e_iload dX0_goOn_60 rfl ?_
          refine e_iload dX0_goOn_62 rfl ?_
          refine n_icmp_ge 81 dX0_goOn_64 (by decide) (by omega) (by omega) (fun g2 => ?_) (fun g2 => ?_)
          · refine e_iinc (v := nI (j + 1)) dX0_goOn_81 rfl (nI_add _ _) (by decide) rfl ?_
            refine e_goto 7 dX0_goOn_84 (by decide) ?_
            refine ih (j + 1) m2 L _ _ y1 jw hL ?_ h4 h5
            rcases h3 with ⟨e, e2⟩ | ⟨j0, e1, e2, e3⟩
            · omega
            · refine Or.inr ⟨j0, ⟨by have := e1.1; omega, fun b hb => ?_⟩, e2, e3⟩
              by_cases e : b = j
              · subst e
                dsimp only
                exact ⟨by omega, fun h => by have := e1.1; omega⟩
              · exact e1.2 b (by omega)
          · refine e_iload dX0_goOn_67 rfl ?_
            refine e_istore dX0_goOn_69 (by decide) rfl ?_
            refine e_aload_n dX0_goOn_71 rfl rfl ?_
            refine m_get 0 2 lf_X0_19 dX0_goOn_72 (ly_203 B _ _) rfl ?_
            refine e_iload_n dX0_goOn_75 rfl rfl ?_
            refine m_aald (r := 219 + k) (k) dX0_goOn_76 (by decide) rfl (ly_218 B _ _) (rfl) (by omega) (by decide) (if_pos (by omega)) ?_
            refine e_iload_n dX0_goOn_77 rfl rfl ?_
            refine e_iload dX0_goOn_78 rfl ?_
            refine m_iast (i) dX0_goOn_80 (fun m => ly_cx B m _ (i := k) (by omega)) (rfl) (by omega) (by decide) ?_
            refine e_iinc (v := nI (j + 1)) dX0_goOn_81 rfl (nI_add _ _) (by decide) rfl ?_
            refine e_goto 7 dX0_goOn_84 (by decide) ?_
            refine ih (j + 1) _ _ _ _ y1 jw (by omega) (Or.inr ⟨j, ⟨by omega, fun b hb => ?_⟩, rfl, wr_same _ _ _ _⟩) (fun b hb => by rw [wr_ne _ _ (Or.inr hb)]; exact h4 b hb) (fun a ha => by rw [wr_off _ _ ha]; exact h5 a ha)
            dsimp only
            by_cases e : b = j
            · subst e; exact ⟨Nat.le_refl _, fun h => by omega⟩
            · rcases h3 with ⟨e0, e2⟩ | ⟨j0, e1, e2, e3⟩
              · omega
              · have := (e1.2 b (by omega)).1
                dsimp only at this
                exact ⟨by omega, fun _ => by omega⟩
        by_cases e : pa S (f i) (f j) = true
        · have en : np S (f i) (f j) = 0 := by unfold np; rw [if_pos e]
          rw [en] at go57
          rw [if_pos e]
          rw [if_pos e] at go57
          refine e_if_eq 55 dX0_goOn_48 (by decide) (fun g3 => ?_) (fun g3 => ?_)
          · exact absurd g3 (by decide)
          · refine e_iconst (v := nI 0) dX0_goOn_51 (by decide) ?_
            refine e_goto 57 dX0_goOn_52 (by decide) ?_
            exact go57
        · have en : np S (f i) (f j) = pp S 5 := by unfold np; rw [if_neg e]
          rw [en] at go57
          rw [if_neg e]
          rw [if_neg e] at go57
          refine e_if_eq 55 dX0_goOn_48 (by decide) (fun g3 => ?_) (fun g3 => ?_)
          · refine e_iload dX0_goOn_55 rfl ?_
            exact go57
          · exact absurd rfl g3
  exact loop (wn S) 0 m 2147483647 none none (by omega) (by omega) (Nat.le_refl _) (Or.inl ⟨rfl, rfl⟩) (fun b _ => rfl) (fun a _ => rfl)
set_option maxRecDepth 100000 in
/-- Choice.cheapestFirst -/
theorem c_cheapestFirst (m : mm_M) {n : Nat} {x : Nat → Nat} (hn : 1 ≤ n) (n60 : n ≤ 60) (hx : ∀ j, j < n → m (212 + 0) j = nI (x j) ∧ x j ≤ 1002000) : mm_F l D kA B sz o 0 0 mX0_cheapestFirst [.ref (B + 203), .int (nI n)] m (fun v m' => m' = m ∧ ∃ j0, fm x n j0 ∧ v = some (.int (nI j0))) := by
  refine mm_F.of ?_
  refine e_iconst (v := nI 0) dX0_cheapestFirst_0 (by decide) ?_
  refine e_istore_n dX0_cheapestFirst_1 rfl (by decide) rfl ?_
  refine e_iconst (v := nI 1) dX0_cheapestFirst_2 (by decide) ?_
  refine e_istore_n dX0_cheapestFirst_3 rfl (by decide) rfl ?_
  have loop : ∀ (z j j0 : Nat), n - j = z → 1 ≤ j → j ≤ n → fm x j j0 → mm_G l D kA B sz o 0 0 mX0_cheapestFirst (fun v m' => m' = m ∧ ∃ j0, fm x n j0 ∧ v = some (.int (nI j0))) 4 [some (.ref (B + 203)), some (.int (nI n)), some (.int (nI j0)), some (.int (nI j))] [] m := by
    intro z
    induction z with
    | zero =>
      intro j j0 h1 h2 h3 h4
      have := h4.1
      refine e_iload_n dX0_cheapestFirst_4 rfl rfl ?_
      refine e_iload_n dX0_cheapestFirst_5 rfl rfl ?_
      refine n_icmp_ge 36 dX0_cheapestFirst_6 (by decide) (by omega) (by omega) (fun g1 => ?_) (fun g1 => ?_)
      · refine e_iload_n dX0_cheapestFirst_36 rfl rfl ?_
        exact m_iret dX0_cheapestFirst_37 rfl (Nat.le_refl _) (Nat.le_refl _) (⟨rfl, j0, by rw [show n = j by omega]; exact h4, rfl⟩)
      · exact absurd g1 (by omega)
    | succ z ih =>
      intro j j0 h1 h2 h3 h4
      have jl := h4.1
      obtain ⟨a1, a2⟩ := hx j (by omega)
      obtain ⟨b1, b2⟩ := hx j0 (by omega)
      refine e_iload_n dX0_cheapestFirst_4 rfl rfl ?_
      refine e_iload_n dX0_cheapestFirst_5 rfl rfl ?_
      refine n_icmp_ge 36 dX0_cheapestFirst_6 (by decide) (by omega) (by omega) (fun g1 => ?_) (fun g1 => ?_)
      · exact absurd g1 (by omega)
      · refine e_aload_n dX0_cheapestFirst_9 rfl rfl ?_
        refine m_get 0 1 lf_X0_16 dX0_cheapestFirst_10 (ly_203 B _ _) rfl ?_
        refine e_iconst (v := nI 0) dX0_cheapestFirst_13 (by decide) ?_
        refine m_aald (r := 212 + 0) (0) dX0_cheapestFirst_14 (by decide) rfl (ly_211 B _ _) (rfl) (by omega) (by decide) (if_pos (by omega)) ?_
        refine e_iload_n dX0_cheapestFirst_15 rfl rfl ?_
        refine m_iald (j) dX0_cheapestFirst_16 (ly_cc B _ _ (i := 0) (by omega)) (rfl) (by omega) (by decide) ?_
        refine e_top (w := nI (x j)) (a1) ?_
        refine e_aload_n dX0_cheapestFirst_17 rfl rfl ?_
        refine m_get 0 1 lf_X0_16 dX0_cheapestFirst_18 (ly_203 B _ _) rfl ?_
        refine e_iconst (v := nI 0) dX0_cheapestFirst_21 (by decide) ?_
        refine m_aald (r := 212 + 0) (0) dX0_cheapestFirst_22 (by decide) rfl (ly_211 B _ _) (rfl) (by omega) (by decide) (if_pos (by omega)) ?_
        refine e_iload_n dX0_cheapestFirst_23 rfl rfl ?_
        refine m_iald (j0) dX0_cheapestFirst_24 (ly_cc B _ _ (i := 0) (by omega)) (rfl) (by omega) (by decide) ?_
        refine e_top (w := nI (x j0)) (b1) ?_
        refine n_icmp_ge 30 dX0_cheapestFirst_25 (by decide) (by omega) (by omega) (fun g2 => ?_) (fun g2 => ?_)
        · refine e_iinc (v := nI (j + 1)) dX0_cheapestFirst_30 rfl (nI_add _ _) (by decide) rfl ?_
          refine e_goto 4 dX0_cheapestFirst_33 (by decide) ?_
          refine ih (j + 1) j0 (by omega) (by omega) (by omega) ⟨by omega, fun b hb => ?_⟩
          by_cases e : b = j
          · subst e; exact ⟨by omega, fun h => by omega⟩
          · exact h4.2 b (by omega)
        · refine e_iload_n dX0_cheapestFirst_28 rfl rfl ?_
          refine e_istore_n dX0_cheapestFirst_29 rfl (by decide) rfl ?_
          refine e_iinc (v := nI (j + 1)) dX0_cheapestFirst_30 rfl (nI_add _ _) (by decide) rfl ?_
          refine e_goto 4 dX0_cheapestFirst_33 (by decide) ?_
          refine ih (j + 1) j (by omega) (by omega) (by omega) ⟨by omega, fun b hb => ?_⟩
          by_cases e : b = j
          · subst e; exact ⟨Nat.le_refl _, fun h => by omega⟩
          · have := (h4.2 b (by omega)).1
            exact ⟨by omega, fun _ => by omega⟩
  exact loop (n - 1) 1 0 (by omega) (by omega) hn ⟨by omega, fun b hb => by rw [show b = 0 by omega]; exact ⟨Nat.le_refl _, fun h => by omega⟩⟩
/-- the row of places that the pointers give -/
def rp (nx : Nat → Nat → Nat) (j0 : Nat) : Nat → Nat
  | 0 => j0
  | t + 1 => nx t (rp nx j0 t)
set_option maxRecDepth 100000 in
/-- Choice.keepRow -/
theorem c_keepRow (m : mm_M) {S : sp_S} {f : Nat → Nat} {nx : Nat → Nat → Nat} {j0 : Nat} (hf : or_at m (wn S) f (wl S) (wt S)) (n60 : wn S ≤ 60) (k6 : kn S ≤ 6) (k1 : 1 ≤ kn S) (hj : j0 < wn S) (hnx : ∀ t, t + 1 < kn S → m (219 + t) (rp nx j0 t) = nI (nx t (rp nx j0 t)) ∧ nx t (rp nx j0 t) < wn S) : mm_F l D kA B sz o 0 0 mX0_keepRow [.ref (B + 203), .int (nI j0), .int (nI (kn S)), .ref (B + 32)] m (fun v m' => v = none ∧ (∀ t, t < kn S → m' 225 t = nI (f (rp nx j0 t))) ∧ ∀ a, a ≠ 225 → m' a = m a) := by
  have bnd : ∀ t, t < kn S → rp nx j0 t < wn S := fun t ht => by
    cases t with
    | zero => exact hj
    | succ t => exact (hnx t ht).2
  refine mm_F.of ?_
  refine e_iload_n dX0_keepRow_0 rfl rfl ?_
  refine e_istore dX0_keepRow_1 (by decide) rfl ?_
  refine e_aload_n dX0_keepRow_3 rfl rfl ?_
  refine m_get 0 3 lf_X0_22 dX0_keepRow_4 (ly_203 B _ _) rfl ?_
  refine e_iconst (v := nI 0) dX0_keepRow_7 (by decide) ?_
  refine e_aload_n dX0_keepRow_8 rfl rfl ?_
  refine m_get 8 2 lf_X0_40 dX0_keepRow_9 (ly_32 B _ _) rfl ?_
  refine e_iload dX0_keepRow_12 rfl ?_
  refine m_iald (j0) dX0_keepRow_14 (ly_35 B _ _) (rfl) (by omega) (by decide) ?_
  refine e_top (w := nI (f j0)) ((hf.1 j0 hj).1) ?_
  refine m_iast (0) dX0_keepRow_15 (fun m => ly_225 B m _) (rfl) (by omega) (by decide) ?_
  refine e_iconst (v := nI 1) dX0_keepRow_16 (by decide) ?_
  refine e_istore dX0_keepRow_17 (by decide) rfl ?_
  have loop : ∀ (z t : Nat) (m' : mm_M), kn S - t = z → 1 ≤ t → t ≤ kn S → (∀ u, u < t → m' 225 u = nI (f (rp nx j0 u))) → (∀ a, a ≠ 225 → m' a = m a) → mm_G l D kA B sz o 0 0 mX0_keepRow (fun v m' => v = none ∧ (∀ t, t < kn S → m' 225 t = nI (f (rp nx j0 t))) ∧ ∀ a, a ≠ 225 → m' a = m a) 19 [some (.ref (B + 203)), some (.int (nI j0)), some (.int (nI (kn S))), some (.ref (B + 32)), some (.int (nI (rp nx j0 (t - 1)))), some (.int (nI t))] [] m' := by
    intro z
    induction z with
    | zero =>
      intro t m' h1 h2 h3 h4 h5
      refine e_iload dX0_keepRow_19 rfl ?_
      refine e_iload_n dX0_keepRow_21 rfl rfl ?_
      refine n_icmp_ge 59 dX0_keepRow_22 (by decide) (by omega) (by omega) (fun g1 => ?_) (fun g1 => ?_)
      · exact m_vret dX0_keepRow_59 rfl (Nat.le_refl _) (Nat.le_refl _) (⟨rfl, fun u hu => h4 u (by omega), h5⟩)
      · exact absurd g1 (by omega)
    | succ z ih =>
      intro t m' h1 h2 h3 h4 h5
      obtain ⟨t', rfl⟩ : ∃ q, t = q + 1 := ⟨t - 1, by omega⟩
      obtain ⟨n1, n2⟩ := hnx t' (by omega)
      have b1 := bnd t' (by omega)
      rw [Nat.add_sub_cancel]
      refine e_iload dX0_keepRow_19 rfl ?_
      refine e_iload_n dX0_keepRow_21 rfl rfl ?_
      refine n_icmp_ge 59 dX0_keepRow_22 (by decide) (by omega) (by omega) (fun g1 => ?_) (fun g1 => ?_)
      · exact absurd g1 (by omega)
      · refine e_aload_n dX0_keepRow_25 rfl rfl ?_
        refine m_get 0 2 lf_X0_19 dX0_keepRow_26 (ly_203 B _ _) rfl ?_
        refine e_iload dX0_keepRow_29 rfl ?_
        refine e_iconst (v := nI 1) dX0_keepRow_31 (by decide) ?_
        refine e_isub dX0_keepRow_32 ?_
        refine e_top (w := nI ((t' + 1) - 1)) (pk_sub (by omega)) ?_
        refine m_aald (r := 219 + ((t' + 1) - 1)) ((t' + 1) - 1) dX0_keepRow_33 (by decide) rfl (ly_218 B _ _) (rfl) (by omega) (by decide) (if_pos (by omega)) ?_
        refine e_iload dX0_keepRow_34 rfl ?_
        refine m_iald (rp nx j0 t') dX0_keepRow_36 (ly_cx B _ _ (i := ((t' + 1) - 1)) (by omega)) (rfl) (by omega) (by decide) ?_
        refine e_top (w := nI (nx t' (rp nx j0 t'))) ((by rw [Nat.add_sub_cancel, h5 (219 + t') (by omega)]; exact n1)) ?_
        refine e_istore dX0_keepRow_37 (by decide) rfl ?_
        refine e_aload_n dX0_keepRow_39 rfl rfl ?_
        refine m_get 0 3 lf_X0_22 dX0_keepRow_40 (ly_203 B _ _) rfl ?_
        refine e_iload dX0_keepRow_43 rfl ?_
        refine e_aload_n dX0_keepRow_45 rfl rfl ?_
        refine m_get 8 2 lf_X0_40 dX0_keepRow_46 (ly_32 B _ _) rfl ?_
        refine e_iload dX0_keepRow_49 rfl ?_
        refine m_iald (nx t' (rp nx j0 t')) dX0_keepRow_51 (ly_35 B _ _) (rfl) (by omega) (by decide) ?_
        refine e_top (w := nI (f (nx t' (rp nx j0 t')))) ((by rw [h5 35 (by omega)]; exact (hf.1 _ n2).1)) ?_
        refine m_iast (t' + 1) dX0_keepRow_52 (fun m => ly_225 B m _) (rfl) (by omega) (by decide) ?_
        refine e_iinc (v := nI (t' + 1 + 1)) dX0_keepRow_53 rfl (nI_add _ _) (by decide) rfl ?_
        refine e_goto 19 dX0_keepRow_56 (by decide) ?_
        refine ih (t' + 1 + 1) _ (by omega) (by omega) (by omega) (fun u hu => ?_) (fun a ha => by rw [wr_off _ _ ha]; exact h5 a ha)
        by_cases e : u = t' + 1
        · rw [e, wr_same]; rfl
        · rw [wr_ne _ _ (Or.inr e)]; exact h4 u (by omega)
  exact loop (kn S - 1) 1 _ (by omega) (by omega) (by omega) (fun u hu => by rw [show u = 0 by omega, wr_same]; rfl) (fun a ha => wr_off _ _ ha)
end CHO
