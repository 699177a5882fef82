/-! THE REFERENCE: its numbers hold the state -/
def ms (m : mm_M) (S : sp_S) : Prop := m 226 1 = nI (tn S) ∧ (∀ i, i < tn S → m 227 i = nI (tl S i)) ∧ m 226 3 = nI (wn S) ∧ (∀ q, q < wn S → m 228 q = nI (wl S q)) ∧ (∀ q k, q < wn S → k < wl S q → m 229 (12 * q + k) = nI (wt S q k)) ∧ (∀ q, q < wn S → m 230 q = nI (wc S q)) ∧ (∀ k, k < 6 → m 231 k = nI (pp S k)) ∧ (∀ a b, a < 26 → b < 26 → m 232 (26 * a + b) = nI (ww S a b)) ∧ m 226 9 = nI (kn S) ∧ (∀ q, q < kn S → m 233 q = nI (kl S q)) ∧ (∀ q k, q < kn S → k < kl S q → m 234 (12 * q + k) = nI (kt S q k)) ∧ ∀ a b, a < 60 → b < 60 → m 235 (60 * a + b) = if pa S a b then nI 1 else nI 0
theorem ms.xtn {m : mm_M} {S : sp_S} (h : ms m S) : m 226 1 = nI (tn S) := h.1
theorem ms.xtl {m : mm_M} {S : sp_S} (h : ms m S) : ∀ i, i < tn S → m 227 i = nI (tl S i) := h.2.1
theorem ms.xwn {m : mm_M} {S : sp_S} (h : ms m S) : m 226 3 = nI (wn S) := h.2.2.1
theorem ms.xwl {m : mm_M} {S : sp_S} (h : ms m S) : ∀ q, q < wn S → m 228 q = nI (wl S q) := h.2.2.2.1
theorem ms.xwt {m : mm_M} {S : sp_S} (h : ms m S) : ∀ q k, q < wn S → k < wl S q → m 229 (12 * q + k) = nI (wt S q k) := h.2.2.2.2.1
theorem ms.xwc {m : mm_M} {S : sp_S} (h : ms m S) : ∀ q, q < wn S → m 230 q = nI (wc S q) := h.2.2.2.2.2.1
theorem ms.xpp {m : mm_M} {S : sp_S} (h : ms m S) : ∀ k, k < 6 → m 231 k = nI (pp S k) := h.2.2.2.2.2.2.1
theorem ms.xww {m : mm_M} {S : sp_S} (h : ms m S) : ∀ a b, a < 26 → b < 26 → m 232 (26 * a + b) = nI (ww S a b) := h.2.2.2.2.2.2.2.1
theorem ms.xkn {m : mm_M} {S : sp_S} (h : ms m S) : m 226 9 = nI (kn S) := h.2.2.2.2.2.2.2.2.1
theorem ms.xkl {m : mm_M} {S : sp_S} (h : ms m S) : ∀ q, q < kn S → m 233 q = nI (kl S q) := h.2.2.2.2.2.2.2.2.2.1
theorem ms.xkt {m : mm_M} {S : sp_S} (h : ms m S) : ∀ q k, q < kn S → k < kl S q → m 234 (12 * q + k) = nI (kt S q k) := h.2.2.2.2.2.2.2.2.2.2.1
theorem ms.xpa {m : mm_M} {S : sp_S} (h : ms m S) : ∀ a b, a < 60 → b < 60 → m 235 (60 * a + b) = if pa S a b then nI 1 else nI 0 := h.2.2.2.2.2.2.2.2.2.2.2
theorem ms.of {m m' : mm_M} {S : sp_S} (h : ms m S) (h1 : ∀ a, 227 ≤ a → a < 236 → m' a = m a) (e1 : m' 226 1 = m 226 1) (e3 : m' 226 3 = m 226 3) (e9 : m' 226 9 = m 226 9) : ms m' S := by
  unfold ms
  rw [e1, e3, e9, h1 227 (by omega) (by omega), h1 228 (by omega) (by omega), h1 229 (by omega) (by omega), h1 230 (by omega) (by omega), h1 231 (by omega) (by omega), h1 232 (by omega) (by omega), h1 233 (by omega) (by omega), h1 234 (by omega) (by omega), h1 235 (by omega) (by omega)]
  exact h
/-- what the reference's reading leaves as it was -/
def mf (m m' : mm_M) : Prop := (∀ a, a < 226 ∨ (227 ≤ a ∧ a < 236) → m' a = m a) ∧ m' 226 0 = m 226 0 ∧ m' 226 1 = m 226 1 ∧ m' 226 3 = m 226 3 ∧ m' 226 9 = m 226 9
theorem mf.rf (m : mm_M) : mf m m := ⟨fun _ _ => rfl, rfl, rfl, rfl, rfl⟩
theorem mf.tr {m m1 m2 : mm_M} (h : mf m m1) (h2 : mf m1 m2) : mf m m2 := ⟨fun a ha => (h2.1 a ha).trans (h.1 a ha), h2.2.1.trans h.2.1, h2.2.2.1.trans h.2.2.1, h2.2.2.2.1.trans h.2.2.2.1, h2.2.2.2.2.trans h.2.2.2.2⟩
theorem mf.msS {m m' : mm_M} {S : sp_S} (h : mf m m') (hm : ms m S) : ms m' S := hm.of (fun a h1 h2 => h.1 a (Or.inr ⟨h1, h2⟩)) h.2.2.1 h.2.2.2.1 h.2.2.2.2
theorem mf.wrS {m m1 : mm_M} {k j : Nat} {x : Int32} (h : mf m m1) (hk : (k = 226 ∧ j ≠ 0 ∧ j ≠ 1 ∧ j ≠ 3 ∧ j ≠ 9) ∨ 236 ≤ k) : mf m (wr m1 k j x) := by
  refine ⟨fun a ha => by rw [wr_off _ _ (by omega)]; exact h.1 a ha, ?_, ?_, ?_, ?_⟩
  · rw [wr_ne _ _ (by omega)]; exact h.2.1
  · rw [wr_ne _ _ (by omega)]; exact h.2.2.1
  · rw [wr_ne _ _ (by omega)]; exact h.2.2.2.1
  · rw [wr_ne _ _ (by omega)]; exact h.2.2.2.2
/-- nothing of the class's is another -/
def fw (m m' : mm_M) : Prop := ∀ a, a < 226 → m' a = m a
theorem fw.rf (m : mm_M) : fw m m := fun _ _ => rfl
theorem fw.tr {m m1 m2 : mm_M} (h : fw m m1) (h2 : fw m1 m2) : fw m m2 := fun a ha => (h2 a ha).trans (h a ha)
theorem fw.wrS {m m1 : mm_M} {k j : Nat} {x : Int32} (h : fw m m1) (hk : 226 ≤ k) : fw m (wr m1 k j x) := fun a ha => by rw [wr_off _ _ (by omega)]; exact h a ha
theorem mf.fwS {m m' : mm_M} (h : mf m m') : fw m m' := fun a ha => h.1 a (Or.inl ha)
/-- the start of each of the reference's methods -/
theorem ms_th {m : mm_M} {S : sp_S} {x : Int32} (h : ms m S) : ∃ m1, wr m 226 0 x = m1 ∧ ms m1 S ∧ fw m m1 ∧ m1 226 0 = x := ⟨_, rfl, h.of (fun a h1 h2 => wr_off _ _ (by omega)) (wr_ne _ _ (by omega)) (wr_ne _ _ (by omega)) (wr_ne _ _ (by omega)), (fw.rf m).wrS (by omega), wr_same _ _ _ _⟩
theorem inr_pred {x : Int32} {n : Nat} (hn : n < 2 ^ 30) : inr x 0 (nI n - 1) ↔ ∃ q, q < n ∧ x = nI q := by
  cases n with
  | zero =>
    constructor
    · intro h
      have h1 := Int32.le_trans h.1 h.2
      exact absurd h1 (by decide)
    · rintro ⟨q, h, -⟩; omega
  | succ n =>
    rw [nI_pred]
    constructor
    · intro h
      obtain ⟨q, -, h2, h3⟩ := inr_nat (lo := 0) (hi := n) h (by omega) (by omega)
      exact ⟨q, by omega, h3⟩
    · rintro ⟨q, h, rfl⟩
      exact ⟨nI_pos' (by omega), (nI_leI (by omega) (by omega)).mpr (by omega)⟩
theorem low1 {x : Int32} (h : -1 ≤ x) : x = -1 ∨ 0 ≤ x := by
  have a1 := Int32.le_iff_toInt_le.mp h
  rw [show (-1 : Int32).toInt = -1 by decide] at a1
  by_cases e : x.toInt = -1
  · exact Or.inl (Int32.toInt_inj.mp (by rw [e]; rfl))
  · exact Or.inr (Int32.le_iff_toInt_le.mpr (by rw [show (0 : Int32).toInt = 0 by decide]; omega))
theorem low2 {x : Int32} (h : -2 ≤ x) : x = -2 ∨ x = -1 ∨ 0 ≤ x := by
  have a1 := Int32.le_iff_toInt_le.mp h
  rw [show (-2 : Int32).toInt = -2 by decide] at a1
  by_cases e : x.toInt = -2
  · exact Or.inl (Int32.toInt_inj.mp (by rw [e]; rfl))
  · exact Or.inr (low1 (Int32.le_iff_toInt_le.mpr (by rw [show (-1 : Int32).toInt = -1 by decide]; omega)))
theorem m1_le {n : Nat} (hn : n < 2 ^ 30) : (-1 : Int32) ≤ nI n - 1 := by
  have h3 := pk_sub_toInt (a := n) (b := 1) (by omega) (by omega)
  rw [show nI 1 = (1 : Int32) from rfl] at h3
  exact Int32.le_iff_toInt_le.mpr (by rw [h3, show (-1 : Int32).toInt = -1 by decide]; omega)
theorem inr_pred1 {x : Int32} {n : Nat} (hn : n < 2 ^ 30) : inr x (-1) (nI n - 1) ↔ x = -1 ∨ ∃ q, q < n ∧ x = nI q := by
  constructor
  · intro h
    rcases low1 h.1 with e | e
    · exact Or.inl e
    · exact Or.inr ((inr_pred hn).mp ⟨e, h.2⟩)
  · rintro (rfl | h)
    · exact ⟨by decide, m1_le hn⟩
    · have h1 := (inr_pred hn).mpr h
      exact ⟨Int32.le_trans (by decide) h1.1, h1.2⟩
theorem inr_pred2 {x : Int32} {n : Nat} (hn : n < 2 ^ 30) : inr x (-2) (nI n - 1) ↔ x = -2 ∨ x = -1 ∨ ∃ q, q < n ∧ x = nI q := by
  constructor
  · intro h
    rcases low2 h.1 with e | e | e
    · exact Or.inl e
    · exact Or.inr (Or.inl e)
    · exact Or.inr (Or.inr ((inr_pred hn).mp ⟨e, h.2⟩))
  · rintro (rfl | rfl | h)
    · exact ⟨by decide, Int32.le_trans (by decide) (m1_le hn)⟩
    · exact ⟨by decide, m1_le hn⟩
    · have h1 := (inr_pred hn).mpr h
      exact ⟨Int32.le_trans (by decide) h1.1, h1.2⟩
section REF
variable {l : Launch} {D : va_G} {kA : FieldType → ClassId} {B sz : Nat} {o : Int64}
set_option maxRecDepth 100000 in
theorem r_in (m : mm_M) (x lo hi : Int32) : mm_F l D kA B sz o 0 0 mX10_in [.int x, .int lo, .int hi] m (fun v m' => m' = m ∧ ((v = some (.int (nI 1)) ∧ inr x lo hi) ∨ (v = some (.int (nI 0)) ∧ ¬ inr x lo hi))) := by
  refine mm_F.of ?_
  refine e_iload_n dX10_in_0 rfl rfl ?_
  refine e_iload_n dX10_in_1 rfl rfl ?_
  refine e_icmp_lt 14 dX10_in_2 (by decide) (fun g1 => ?_) (fun g1 => ?_)
  · refine e_iconst (v := nI 0) dX10_in_14 (by decide) ?_
    exact m_zret dX10_in_15 rfl (by first | rfl | decide | assumption) (Nat.le_refl _) (Nat.le_refl _) (⟨rfl, Or.inr ⟨rfl, fun q => Int32.not_lt.mpr q.1 g1⟩⟩)
  · refine e_iload_n dX10_in_5 rfl rfl ?_
    refine e_iload_n dX10_in_6 rfl rfl ?_
    refine e_icmp_gt 14 dX10_in_7 (by decide) (fun g2 => ?_) (fun g2 => ?_)
    · refine e_iconst (v := nI 0) dX10_in_14 (by decide) ?_
      exact m_zret dX10_in_15 rfl (by first | rfl | decide | assumption) (Nat.le_refl _) (Nat.le_refl _) (⟨rfl, Or.inr ⟨rfl, fun q => Int32.not_lt.mpr q.2 g2⟩⟩)
    · refine e_iconst (v := nI 1) dX10_in_10 (by decide) ?_
      refine e_goto 15 dX10_in_11 (by decide) ?_
      exact m_zret dX10_in_15 rfl (by first | rfl | decide | assumption) (Nat.le_refl _) (Nat.le_refl _) (⟨rfl, Or.inl ⟨rfl, Int32.not_lt.mp g1, Int32.not_lt.mp g2⟩⟩)
set_option maxRecDepth 100000 in
theorem r_isWord (m : mm_M) {S : sp_S} (hk : ok S) (hm : ms m S) (x : Int32) : mm_F l D kA B sz o 1 22 mX10_isWord [.ref (B + 226), .int x] m (fun v m' => m' = m ∧ ((v = some (.int (nI 1)) ∧ ∃ q, q < wn S ∧ x = nI q) ∨ (v = some (.int (nI 0)) ∧ ∀ q, q < wn S → x ≠ nI q))) := by
  have n60 := hk.2.2.1
  refine mm_F.of ?_
  refine e_iload_n dX10_isWord_0 rfl rfl ?_
  refine e_iconst (v := nI 0) dX10_isWord_1 (by decide) ?_
  refine e_aload_n dX10_isWord_2 rfl rfl ?_
  refine m_get 10 3 lf_X10_66 dX10_isWord_3 (ly_226 B _ _) rfl ?_
  refine e_top (w := nI (wn S)) (hm.xwn) ?_
  refine e_iconst (v := nI 1) dX10_isWord_6 (by decide) ?_
  refine e_isub dX10_isWord_7 ?_
  refine m_callS (As := [_, _, _]) lc_X10_69 dX10_isWord_8 rfl rfl (by simp [Value.category]) (Nat.le_of_ble_eq_true rfl) (Nat.le_of_ble_eq_true rfl) ⟨Nat.le_of_ble_eq_true rfl, Nat.le_of_ble_eq_true rfl⟩ ⟨Nat.le_of_ble_eq_true rfl, Nat.le_of_ble_eq_true rfl⟩ (r_in m x (nI 0) (nI (wn S) - nI 1)) (fun v9 m9 hp9 => ?_)
  obtain ⟨rfl, ⟨rfl, h1⟩ | ⟨rfl, h1⟩⟩ := hp9
  · exact m_zret dX10_isWord_11 rfl (by first | rfl | decide | assumption) (Nat.le_refl _) (Nat.le_refl _) (⟨rfl, Or.inl ⟨rfl, (inr_pred (by omega)).mp h1⟩⟩)
  · exact m_zret dX10_isWord_11 rfl (by first | rfl | decide | assumption) (Nat.le_refl _) (Nat.le_refl _) (⟨rfl, Or.inr ⟨rfl, fun q hq e => h1 ((inr_pred (by omega)).mpr ⟨q, hq, e⟩)⟩⟩)
theorem ms_typed {m m' : mm_M} {S : sp_S} {n : Nat} {r : Nat → Nat} (h : ms m S) (h1 : ∀ a, 228 ≤ a → a < 236 → m' a = m a) (e3 : m' 226 3 = m 226 3) (e9 : m' 226 9 = m 226 9) (hn : m' 226 1 = nI n) (hr : ∀ i, i < n → m' 227 i = nI (r i)) : ms m' ((n, r), S.2) := by
  refine ⟨hn, hr, ?_⟩
  rw [e3, e9, h1 228 (by omega) (by omega), h1 229 (by omega) (by omega), h1 230 (by omega) (by omega), h1 231 (by omega) (by omega), h1 232 (by omega) (by omega), h1 233 (by omega) (by omega), h1 234 (by omega) (by omega), h1 235 (by omega) (by omega)]
  exact h.2.2
set_option maxRecDepth 100000 in
theorem r_letter (m : mm_M) {S : sp_S} (hk : ok S) (hm : ms m S) (x : Int32) : mm_F l D kA B sz o 1 22 mX10_letter [.ref (B + 226), .int x] m (fun v m' => ∃ y S', v = some (.int y) ∧ R_letter S x y S' ∧ ms m' S' ∧ fw m m') := by
  have t12 := hk.1
  refine mm_F.of ?_
  refine e_aload_n dX10_letter_0 rfl rfl ?_
  refine e_iconst (v := nI 0) dX10_letter_1 (by decide) ?_
  refine m_puti 10 0 lp_X10_62 dX10_letter_2 (ly_226 B _ _) (Nat.le_of_ble_eq_true rfl) (ly_226 B _ _) rfl ?_
  obtain ⟨m1, e1, hs, f1, -⟩ := ms_th (x := nI 0) hm
  rw [e1]
  refine e_iload_n dX10_letter_5 rfl rfl ?_
  refine e_iconst (v := nI 0) dX10_letter_6 (by decide) ?_
  refine e_bipush (v := nI 25) dX10_letter_7 (by decide) ?_
  refine m_callS (As := [_, _, _]) lc_X10_69 dX10_letter_9 rfl rfl (by simp [Value.category]) (Nat.le_of_ble_eq_true rfl) (Nat.le_of_ble_eq_true rfl) ⟨Nat.le_of_ble_eq_true rfl, Nat.le_of_ble_eq_true rfl⟩ ⟨Nat.le_of_ble_eq_true rfl, Nat.le_of_ble_eq_true rfl⟩ (r_in m1 x (nI 0) (nI 25)) (fun v9 m9 hp9 => ?_)
  obtain ⟨rfl, ⟨rfl, h1⟩ | ⟨rfl, h1⟩⟩ := hp9
  · refine e_if_ne 17 dX10_letter_12 (by decide) (fun g1 => ?_) (fun g1 => ?_)
    · obtain ⟨a, -, a2, rfl⟩ := inr_nat (lo := 0) (hi := 25) h1 (by omega) (by omega)
      refine e_aload_n dX10_letter_17 rfl rfl ?_
      refine m_get 10 1 lf_X10_73 dX10_letter_18 (ly_226 B _ _) rfl ?_
      refine e_top (w := nI (tn S)) (hs.xtn) ?_
      refine e_bipush (v := nI 12) dX10_letter_21 (by decide) ?_
      refine n_icmp_ne 29 dX10_letter_23 (by decide) (by omega) (by omega) (fun g2 => ?_) (fun g2 => ?_)
      · refine e_aload_n dX10_letter_29 rfl rfl ?_
        refine m_get 10 2 lf_X10_7 dX10_letter_30 (ly_226 B _ _) rfl ?_
        refine e_aload_n dX10_letter_33 rfl rfl ?_
        refine m_get 10 1 lf_X10_73 dX10_letter_34 (ly_226 B _ _) rfl ?_
        refine e_top (w := nI (tn S)) (hs.xtn) ?_
        refine e_iload_n dX10_letter_37 rfl rfl ?_
        refine m_iast (tn S) dX10_letter_38 (fun m => ly_227 B m _) (rfl) (by omega) (by decide) ?_
        refine e_aload_n dX10_letter_39 rfl rfl ?_
        refine e_dup dX10_letter_40 rfl ?_
        refine m_get 10 1 lf_X10_73 dX10_letter_41 (ly_226 B _ _) rfl ?_
        refine e_top (w := nI (tn S)) ((wr_ne _ _ (Or.inl (by omega))).trans hs.xtn) ?_
        refine e_iconst (v := nI 1) dX10_letter_44 (by decide) ?_
        refine e_iadd dX10_letter_45 ?_
        refine e_top (w := nI ((tn S) + 1)) (nI_add _ _) ?_
        refine m_puti 10 1 lp_X10_73 dX10_letter_46 (ly_226 B _ _) (Nat.le_of_ble_eq_true rfl) (ly_226 B _ _) rfl ?_
        refine e_aload_n dX10_letter_49 rfl rfl ?_
        refine m_get 10 1 lf_X10_73 dX10_letter_50 (ly_226 B _ _) rfl ?_
        refine e_top (w := nI (tn S + 1)) (wr_same _ _ _ _) ?_
        refine m_iret dX10_letter_53 rfl (Nat.le_refl _) (Nat.le_refl _) ⟨_, _, rfl, Or.inr (Or.inr ⟨a, a2, rfl, by omega, rfl, rfl⟩), ms_typed hs (fun b b1 b2 => by rw [wr_off _ _ (by omega), wr_off _ _ (by omega)]) (by rw [wr_ne _ _ (by omega), wr_ne _ _ (by omega)]) (by rw [wr_ne _ _ (by omega), wr_ne _ _ (by omega)]) (wr_same _ _ _ _) (fun i hi => ?_), (f1.wrS (by omega)).wrS (by omega)⟩
        rw [wr_off _ _ (by omega)]
        by_cases e2 : i = tn S
        · rw [e2, wr_same, va_up_self]
        · rw [wr_ne _ _ (Or.inr e2), va_up_ne _ _ e2]; exact hs.xtl i (by omega)
      · refine e_bipush (v := -4) dX10_letter_26 (by decide) ?_
        exact m_iret dX10_letter_28 rfl (Nat.le_refl _) (Nat.le_refl _) (⟨_, _, rfl, Or.inr (Or.inl ⟨a, a2, rfl, g2, rfl, rfl⟩), hs, f1⟩)
    · exact absurd g1 (by decide)
  · refine e_if_ne 17 dX10_letter_12 (by decide) (fun g1 => ?_) (fun g1 => ?_)
    · exact absurd rfl g1
    · refine e_iconst (v := -1) dX10_letter_15 (by decide) ?_
      exact m_iret dX10_letter_16 rfl (Nat.le_refl _) (Nat.le_refl _) (⟨_, _, rfl, Or.inl ⟨h1, rfl, rfl⟩, hs, f1⟩)
set_option maxRecDepth 100000 in
theorem r_clear (m : mm_M) {S : sp_S} (hm : ms m S) : mm_F l D kA B sz o 0 0 mX10_clear [.ref (B + 226)] m (fun v m' => v = some (.int (nI (tn S))) ∧ ms m' (clrT S) ∧ fw m m') := by
  refine mm_F.of ?_
  refine e_aload_n dX10_clear_0 rfl rfl ?_
  refine e_iconst (v := nI 0) dX10_clear_1 (by decide) ?_
  refine m_puti 10 0 lp_X10_62 dX10_clear_2 (ly_226 B _ _) (Nat.le_of_ble_eq_true rfl) (ly_226 B _ _) rfl ?_
  obtain ⟨m1, e1, hs, f1, -⟩ := ms_th (x := nI 0) hm
  rw [e1]
  refine e_aload_n dX10_clear_5 rfl rfl ?_
  refine m_get 10 1 lf_X10_73 dX10_clear_6 (ly_226 B _ _) rfl ?_
  refine e_top (w := nI (tn S)) (hs.xtn) ?_
  refine e_istore_n dX10_clear_9 rfl (by decide) rfl ?_
  refine e_aload_n dX10_clear_10 rfl rfl ?_
  refine e_iconst (v := nI 0) dX10_clear_11 (by decide) ?_
  refine m_puti 10 1 lp_X10_73 dX10_clear_12 (ly_226 B _ _) (Nat.le_of_ble_eq_true rfl) (ly_226 B _ _) rfl ?_
  refine e_iload_n dX10_clear_15 rfl rfl ?_
  exact m_iret dX10_clear_16 rfl (Nat.le_refl _) (Nat.le_refl _) (⟨rfl, ms_typed hs (fun b b1 b2 => wr_off _ _ (by omega)) (wr_ne _ _ (by omega)) (wr_ne _ _ (by omega)) (wr_same _ _ _ _) (fun i hi => absurd hi (Nat.not_lt_zero i)), f1.wrS (by omega)⟩)
set_option maxRecDepth 100000 in
theorem r_count (m : mm_M) {S : sp_S} (hk : ok S) (hm : ms m S) (w n : Int32) : mm_F l D kA B sz o 2 43 mX10_count [.ref (B + 226), .int w, .int n] m (fun v m' => ∃ y S', v = some (.int y) ∧ R_count S w n y S' ∧ ms m' S' ∧ fw m m') := by
  have n60 := hk.2.2.1
  refine mm_F.of ?_
  refine e_aload_n dX10_count_0 rfl rfl ?_
  refine e_iconst (v := nI 0) dX10_count_1 (by decide) ?_
  refine m_puti 10 0 lp_X10_62 dX10_count_2 (ly_226 B _ _) (Nat.le_of_ble_eq_true rfl) (ly_226 B _ _) rfl ?_
  obtain ⟨m1, e1, hs, f1, -⟩ := ms_th (x := nI 0) hm
  rw [e1]
  refine e_aload_n dX10_count_5 rfl rfl ?_
  refine e_iload_n dX10_count_6 rfl rfl ?_
  refine m_callV (As := [_]) lc_X10_76 dX10_count_7 (ly_226 B _ _) rfl rfl (by simp [Value.category]) (Nat.le_of_ble_eq_true rfl) (Nat.le_of_ble_eq_true rfl) ⟨Nat.le_of_ble_eq_true rfl, Nat.le_of_ble_eq_true rfl⟩ ⟨Nat.le_of_ble_eq_true rfl, Nat.le_of_ble_eq_true rfl⟩ (r_isWord m1 hk hs w) (fun v9 m9 hp9 => ?_)
  obtain ⟨rfl, ⟨rfl, q, q1, rfl⟩ | ⟨rfl, h1⟩⟩ := hp9
  · refine e_if_ne 15 dX10_count_10 (by decide) (fun g1 => ?_) (fun g1 => ?_)
    · refine e_iload_n dX10_count_15 rfl rfl ?_
      refine e_iconst (v := nI 1) dX10_count_16 (by decide) ?_
      refine e_sipush (v := nI 1000) dX10_count_17 (by decide) ?_
      refine m_callS (As := [_, _, _]) lc_X10_69 dX10_count_20 rfl rfl (by simp [Value.category]) (Nat.le_of_ble_eq_true rfl) (Nat.le_of_ble_eq_true rfl) ⟨Nat.le_of_ble_eq_true rfl, Nat.le_of_ble_eq_true rfl⟩ ⟨Nat.le_of_ble_eq_true rfl, Nat.le_of_ble_eq_true rfl⟩ (r_in m9 n (nI 1) (nI 1000)) (fun v9 m2 hp9 => ?_)
      obtain ⟨rfl, ⟨rfl, h2⟩ | ⟨rfl, h2⟩⟩ := hp9
      · refine e_if_ne 29 dX10_count_23 (by decide) (fun g2 => ?_) (fun g2 => ?_)
        · obtain ⟨k, k1, k2, rfl⟩ := inr_nat (lo := 1) (hi := 1000) h2 (by omega) (by omega)
          refine e_aload_n dX10_count_29 rfl rfl ?_
          refine m_get 10 6 lf_X10_19 dX10_count_30 (ly_226 B _ _) rfl ?_
          refine e_iload_n dX10_count_33 rfl rfl ?_
          refine m_iald (q) dX10_count_34 (ly_230 B _ _) (rfl) (by omega) (by decide) ?_
          refine e_top (w := nI (wc S q)) (hs.xwc q q1) ?_
          refine e_istore_n dX10_count_35 rfl (by decide) rfl ?_
          refine e_aload_n dX10_count_36 rfl rfl ?_
          refine m_get 10 6 lf_X10_19 dX10_count_37 (ly_226 B _ _) rfl ?_
          refine e_iload_n dX10_count_40 rfl rfl ?_
          refine e_iload_n dX10_count_41 rfl rfl ?_
          refine m_iast (q) dX10_count_42 (fun m => ly_230 B m _) (rfl) (by omega) (by decide) ?_
          refine e_iload_n dX10_count_43 rfl rfl ?_
          refine m_iret dX10_count_44 rfl (Nat.le_refl _) (Nat.le_refl _) ⟨_, _, rfl, Or.inr ⟨q, q1, rfl, Or.inr ⟨k, k1, k2, rfl, rfl, rfl⟩⟩, ?_, f1.wrS (by omega)⟩
          have ho : ∀ a, a ≠ 230 → wr m2 230 q (nI k) a = m2 a := fun a ha => wr_off _ _ ha
          refine ⟨by rw [ho _ (by omega)]; exact hs.xtn, by rw [ho _ (by omega)]; exact hs.xtl, by rw [ho _ (by omega)]; exact hs.xwn, by rw [ho _ (by omega)]; exact hs.xwl, by rw [ho _ (by omega)]; exact hs.xwt, fun p hp => ?_, by rw [ho _ (by omega)]; exact hs.xpp, by rw [ho _ (by omega)]; exact hs.xww, by rw [ho _ (by omega)]; exact hs.xkn, by rw [ho _ (by omega)]; exact hs.xkl, by rw [ho _ (by omega)]; exact hs.xkt, by rw [ho _ (by omega)]; exact hs.xpa⟩
          show wr m2 230 q (nI k) 230 p = nI (va_up (wc S) q k p)
          by_cases e : p = q
          · rw [e, va_up_self, wr_same]
          · rw [va_up_ne _ _ e, wr_ne _ _ (Or.inr e)]; exact hs.xwc p hp
        · exact absurd g2 (by decide)
      · refine e_if_ne 29 dX10_count_23 (by decide) (fun g2 => ?_) (fun g2 => ?_)
        · exact absurd rfl g2
        · refine e_bipush (v := -2) dX10_count_26 (by decide) ?_
          exact m_iret dX10_count_28 rfl (Nat.le_refl _) (Nat.le_refl _) (⟨_, _, rfl, Or.inr ⟨q, q1, rfl, Or.inl ⟨h2, rfl, rfl⟩⟩, hs, f1⟩)
    · exact absurd g1 (by decide)
  · refine e_if_ne 15 dX10_count_10 (by decide) (fun g1 => ?_) (fun g1 => ?_)
    · exact absurd rfl g1
    · refine e_iconst (v := -1) dX10_count_13 (by decide) ?_
      exact m_iret dX10_count_14 rfl (Nat.le_refl _) (Nat.le_refl _) (⟨_, _, rfl, Or.inl ⟨h1, rfl, rfl⟩, hs, f1⟩)
end REF
