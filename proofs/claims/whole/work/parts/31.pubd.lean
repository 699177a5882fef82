section PUD
variable {l : Launch} {D : va_G} {kA : FieldType → ClassId} {B sz : Nat} {o : Int64}
theorem cs_price {m m' : mm_M} {S : sp_S} {p : Nat → Nat} {w : Nat → Nat → Nat} (h : cs m S) (h1 : ∀ a, a < 4 ∨ 32 ≤ a → m' a = m a) (hr : pr_at m' p w) : cs m' (S.1, S.2.1, (p, w), S.2.2.2) := by
  obtain ⟨a1, a2, a3, a4, a5, ⟨f, a6⟩, a7, a8, a9⟩ := h
  exact ⟨⟨a1.1, a1.2.1, a1.2.2.1, a1.2.2.2.1, a1.2.2.2.2.1, hr.2.1, hr.2.2.1, hr.2.2.2.1, hr.2.2.2.2.2, a1.2.2.2.2.2.2.2.2.2⟩, a2.of (h1 1 (by omega)) (h1 2 (by omega)), hr, (congrFun (h1 32 (by omega)) 4).trans a4, fun q hq => ⟨(a5 q hq).1.of (h1 _ (by omega)) (h1 _ (by omega)), (congrFun (h1 34 (by omega)) q).trans (a5 q hq).2⟩, ⟨f, a6.of (h1 35 (by omega))⟩, fun a b ha hb => (congrFun (h1 36 (by omega)) _).trans (a7 a b ha hb), (congrFun (h1 157 (by omega)) 1).trans a8, fun q hq => (a9 q hq).of (h1 _ (by omega)) (h1 _ (by omega))⟩
set_option maxRecDepth 100000 in
/-- SuggestSpell.price -/
theorem c_price (m : mm_M) {S : sp_S} (k x : Int32) (hc : cs m S) : mm_F l D kA B sz o 0 0 mX9_price [.ref (B + 0), .int k, .int x] m (fun v m' => ∃ y S', v = some (.int y) ∧ R_price S k x y S' ∧ cs m' S' ∧ frm m m') := by
  refine mm_F.of ?_
  refine e_iload_n dX9_price_0 rfl rfl ?_
  refine e_if_lt 10 dX9_price_1 (by decide) (fun g1 => ?_) (fun g1 => ?_)
  · refine e_bipush (v := -2) dX9_price_10 (by decide) ?_
    exact m_iret dX9_price_12 rfl (Nat.le_refl _) (Nat.le_refl _) (⟨_, _, rfl, Or.inl ⟨fun z hz e => nI_pos (n := z) (by omega) (e ▸ g1), rfl, rfl⟩, hc, fun b hb => rfl⟩)
  · obtain ⟨q, q1, rfl⟩ := nI_of g1
    refine e_iload_n dX9_price_4 rfl rfl ?_
    refine e_bipush (v := nI 6) dX9_price_5 (by decide) ?_
    refine n_icmp_lt 13 dX9_price_7 (by decide) (by omega) (by omega) (fun g2 => ?_) (fun g2 => ?_)
    · have at30 : ∀ t : Nat, t = mostP q → mm_G l D kA B sz o 0 0 mX9_price (fun v m' => ∃ y S', v = some (.int y) ∧ R_price S (nI q) x y S' ∧ cs m' S' ∧ frm m m') 30 [some (.ref (B + 0)), some (.int (nI q)), some (.int x), none, none] [.int (nI t)] m := by
        rintro t rfl
        have m50 : mostP q ≤ 50 := by unfold mostP; split <;> omega
        refine e_istore_n dX9_price_30 rfl (by decide) rfl ?_
        refine e_iload_n dX9_price_31 rfl rfl ?_
        refine e_if_lt 40 dX9_price_32 (by decide) (fun g3 => ?_) (fun g3 => ?_)
        · refine e_bipush (v := -2) dX9_price_40 (by decide) ?_
          exact m_iret dX9_price_42 rfl (Nat.le_refl _) (Nat.le_refl _) (⟨_, _, rfl, Or.inr ⟨q, g2, rfl, Or.inl ⟨fun z => Int32.not_lt.mpr z.1 g3, rfl, rfl⟩⟩, hc, fun b hb => rfl⟩)
        · obtain ⟨y, y1, rfl⟩ := nI_of g3
          refine e_iload_n dX9_price_35 rfl rfl ?_
          refine e_iload_n dX9_price_36 rfl rfl ?_
          refine n_icmp_le 43 dX9_price_37 (by decide) (by omega) (by omega) (fun g4 => ?_) (fun g4 => ?_)
          · refine e_aload_n dX9_price_43 rfl rfl ?_
            refine m_get 9 1 lf_X9_19 dX9_price_44 (ly_0 B _ _) rfl ?_
            refine m_get 3 0 lf_X9_109 dX9_price_47 (ly_3 B _ _) rfl ?_
            refine e_iload_n dX9_price_50 rfl rfl ?_
            refine m_iald (q) dX9_price_51 (ly_4 B _ _) (rfl) (by omega) (by decide) ?_
            refine e_top (w := nI (pp S q)) (hc.2.2.1.1 q g2) ?_
            refine e_istore dX9_price_52 (by decide) rfl ?_
            refine e_aload_n dX9_price_54 rfl rfl ?_
            refine m_get 9 1 lf_X9_19 dX9_price_55 (ly_0 B _ _) rfl ?_
            refine m_get 3 0 lf_X9_109 dX9_price_58 (ly_3 B _ _) rfl ?_
            refine e_iload_n dX9_price_61 rfl rfl ?_
            refine e_iload_n dX9_price_62 rfl rfl ?_
            refine m_iast (q) dX9_price_63 (fun m => ly_4 B m _) (rfl) (by omega) (by decide) ?_
            refine e_iload dX9_price_64 rfl ?_
            refine m_iret dX9_price_66 rfl (Nat.le_refl _) (Nat.le_refl _) ⟨_, _, rfl, Or.inr ⟨q, g2, rfl, Or.inr ⟨y, g4, rfl, rfl, rfl⟩⟩, cs_price hc (fun a ha => wr_off _ _ (by omega)) ?_, fun b hb => wr_off _ _ (by omega)⟩
            obtain ⟨b1, b2, b3, b4, b5, b6⟩ := hc.2.2.1
            unfold mostP at g4
            refine ⟨fun k hk => ?_, fun k hk => ?_, ?_, ?_, fun a b ha hb => by rw [wr_off _ _ (by omega)]; exact b5 a b ha hb, b6⟩
            · by_cases e : k = q
              · rw [e, wr_same, va_up_self]
              · rw [wr_ne _ _ (Or.inr e), va_up_ne _ _ e]; exact b1 k hk
            · by_cases e : k = q
              · rw [e, va_up_self]; rw [if_pos (by omega)] at g4; exact g4
              · rw [va_up_ne _ _ e]; exact b2 k hk
            · by_cases e : 4 = q
              · rw [← e, va_up_self]; rw [if_neg (by omega)] at g4; exact g4
              · rw [va_up_ne _ _ e]; exact b3
            · by_cases e : 5 = q
              · rw [← e, va_up_self]; rw [if_neg (by omega)] at g4; exact g4
              · rw [va_up_ne _ _ e]; exact b4
          · refine e_bipush (v := -2) dX9_price_40 (by decide) ?_
            exact m_iret dX9_price_42 rfl (Nat.le_refl _) (Nat.le_refl _) (⟨_, _, rfl, Or.inr ⟨q, g2, rfl, Or.inl ⟨fun z => g4 ((nI_leI y1 (by omega)).mp z.2), rfl, rfl⟩⟩, hc, fun b hb => rfl⟩)
      refine e_iload_n dX9_price_13 rfl rfl ?_
      refine e_iconst (v := nI 4) dX9_price_14 (by decide) ?_
      refine n_icmp_eq 23 dX9_price_15 (by decide) (by omega) (by omega) (fun g3 => ?_) (fun g3 => ?_)
      · refine e_bipush (v := nI 50) dX9_price_23 (by decide) ?_
        refine e_goto 30 dX9_price_25 (by decide) ?_
        exact at30 50 (by rw [g3]; rfl)
      · refine e_iload_n dX9_price_18 rfl rfl ?_
        refine e_iconst (v := nI 5) dX9_price_19 (by decide) ?_
        refine n_icmp_ne 28 dX9_price_20 (by decide) (by omega) (by omega) (fun g4 => ?_) (fun g4 => ?_)
        · refine e_bipush (v := nI 9) dX9_price_28 (by decide) ?_
          exact at30 9 (by unfold mostP; rw [if_pos (by omega)])
        · refine e_bipush (v := nI 50) dX9_price_23 (by decide) ?_
          refine e_goto 30 dX9_price_25 (by decide) ?_
          exact at30 50 (by rw [g4]; rfl)
    · refine e_bipush (v := -2) dX9_price_10 (by decide) ?_
      exact m_iret dX9_price_12 rfl (Nat.le_refl _) (Nat.le_refl _) (⟨_, _, rfl, Or.inl ⟨fun z hz e => by have := (nI_eq q1 (by omega)).mp e; omega, rfl, rfl⟩, hc, fun b hb => rfl⟩)
theorem m1_nat {x : Int32} (h1 : -1 ≤ x) (h2 : x ≤ 9) : ∃ y, y ≤ 10 ∧ x = nI y - 1 := by
  have a1 := Int32.le_iff_toInt_le.mp h1
  have a2 := Int32.le_iff_toInt_le.mp h2
  rw [show (-1 : Int32).toInt = -1 by decide] at a1
  rw [show (9 : Int32).toInt = 9 by decide] at a2
  obtain ⟨z, hz⟩ : ∃ z : Nat, (z : Int) = x.toInt + 1 := ⟨(x.toInt + 1).toNat, by omega⟩
  refine ⟨z, by omega, Int32.toInt_inj.mp ?_⟩
  have h3 := pk_sub_toInt (a := z) (b := 1) (by omega) (by omega)
  rw [show nI 1 = (1 : Int32) from rfl] at h3
  rw [h3]
  omega
theorem ownM {y : Nat} : nI y - 1 = if y = 0 then (-1 : Int32) else nI (y - 1) := by
  cases y with
  | zero => rfl
  | succ y => rw [if_neg (by omega), nI_pred, Nat.add_sub_cancel]
theorem m1_ne {y : Nat} (hy : y < 2 ^ 31) : nI y ≠ -1 := fun q => by
  have : ¬ nI y < 0 := nI_pos hy
  rw [q] at this
  exact this (by decide)
set_option maxRecDepth 100000 in
/-- SuggestSpell.near -/
theorem c_near (m : mm_M) {S : sp_S} (a b x : Int32) (hc : cs m S) : mm_F l D kA B sz o 1 20 mX9_near [.ref (B + 0), .int a, .int b, .int x] m (fun v m' => ∃ y S', v = some (.int y) ∧ R_near S a b x y S' ∧ cs m' S' ∧ frm m m') := by
  refine mm_F.of ?_
  refine e_iload_n dX9_near_0 rfl rfl ?_
  refine m_callS (As := [_]) lc_X9_67 dX9_near_1 rfl rfl (by simp [Value.category]) (Nat.le_of_ble_eq_true rfl) (Nat.le_of_ble_eq_true rfl) ⟨Nat.le_of_ble_eq_true rfl, Nat.le_of_ble_eq_true rfl⟩ ⟨Nat.le_of_ble_eq_true rfl, Nat.le_of_ble_eq_true rfl⟩ (c_isLetter m a) (fun v9 m9 hp9 => ?_)
  obtain ⟨rfl, ⟨rfl, h1⟩ | ⟨rfl, h1⟩⟩ := hp9
  · refine e_if_eq 19 dX9_near_4 (by decide) (fun g1 => ?_) (fun g1 => ?_)
    · exact absurd g1 (by decide)
    · refine e_iload_n dX9_near_7 rfl rfl ?_
      refine m_callS (As := [_]) lc_X9_67 dX9_near_8 rfl rfl (by simp [Value.category]) (Nat.le_of_ble_eq_true rfl) (Nat.le_of_ble_eq_true rfl) ⟨Nat.le_of_ble_eq_true rfl, Nat.le_of_ble_eq_true rfl⟩ ⟨Nat.le_of_ble_eq_true rfl, Nat.le_of_ble_eq_true rfl⟩ (c_isLetter m9 b) (fun v9 m1 hp9 => ?_)
      obtain ⟨rfl, ⟨rfl, h2⟩ | ⟨rfl, h2⟩⟩ := hp9
      · refine e_if_eq 19 dX9_near_11 (by decide) (fun g2 => ?_) (fun g2 => ?_)
        · exact absurd g2 (by decide)
        · obtain ⟨p, -, p2, rfl⟩ := inr_nat (lo := 0) (hi := 25) h1 (by omega) (by omega)
          obtain ⟨q, -, q2, rfl⟩ := inr_nat (lo := 0) (hi := 25) h2 (by omega) (by omega)
          refine e_iload_n dX9_near_14 rfl rfl ?_
          refine e_iload_n dX9_near_15 rfl rfl ?_
          refine n_icmp_ne 21 dX9_near_16 (by decide) (by omega) (by omega) (fun g3 => ?_) (fun g3 => ?_)
          · refine e_iload_n dX9_near_21 rfl rfl ?_
            refine e_iconst (v := -1) dX9_near_22 (by decide) ?_
            refine e_icmp_lt 32 dX9_near_23 (by decide) (fun g4 => ?_) (fun g4 => ?_)
            · refine e_bipush (v := -2) dX9_near_32 (by decide) ?_
              exact m_iret dX9_near_34 rfl (Nat.le_refl _) (Nat.le_refl _) (⟨_, _, rfl, Or.inr ⟨p, q, p2, q2, rfl, rfl, g3, Or.inl ⟨fun z => Int32.not_lt.mpr z.1 g4, rfl, rfl⟩⟩, hc, fun b hb => rfl⟩)
            · refine e_iload_n dX9_near_26 rfl rfl ?_
              refine e_bipush (v := nI 9) dX9_near_27 (by decide) ?_
              refine e_icmp_le 35 dX9_near_29 (by decide) (fun g5 => ?_) (fun g5 => ?_)
              · obtain ⟨y, y1, rfl⟩ := m1_nat (Int32.not_lt.mp g4) g5
                have hw := hc.2.2.1.2.2.2.2.1 p q (by omega) (by omega)
                have hu := hc.2.2.1.2.2.2.2.2 p q
                have hcs : cs (wr m1 (6 + p) q (nI y - 1)) (setN S p q y) := by
                  obtain ⟨b1, b2, b3, b4, b5, b6⟩ := hc.2.2.1
                  refine cs_price hc (fun a ha => wr_off _ _ (by omega)) ⟨fun k hk => by rw [wr_off _ _ (by omega)]; exact b1 k hk, b2, b3, b4, fun c d hc' hd => ?_, fun c d => ?_⟩
                  · by_cases e : c = p
                    · subst e
                      rw [va_up_self]
                      by_cases e2 : d = q
                      · rw [e2, va_up_self, wr_same]; exact ownM
                      · rw [va_up_ne _ _ e2, wr_ne _ _ (Or.inr e2)]; exact b5 c d hc' hd
                    · rw [va_up_ne _ _ e, wr_ne _ _ (Or.inl (by omega))]; exact b5 c d hc' hd
                  · by_cases e : c = p
                    · subst e
                      rw [va_up_self]
                      by_cases e2 : d = q
                      · rw [e2, va_up_self]; exact y1
                      · rw [va_up_ne _ _ e2]; exact b6 c d
                    · rw [va_up_ne _ _ e]; exact b6 c d
                refine e_aload_n dX9_near_35 rfl rfl ?_
                refine m_get 9 1 lf_X9_19 dX9_near_36 (ly_0 B _ _) rfl ?_
                refine m_get 3 1 lf_X9_112 dX9_near_39 (ly_3 B _ _) rfl ?_
                refine e_iload_n dX9_near_42 rfl rfl ?_
                refine m_aald (r := 6 + p) (p) dX9_near_43 (by decide) rfl (ly_5 B _ _) (rfl) (by omega) (by decide) (if_pos (by omega)) ?_
                refine e_iload_n dX9_near_44 rfl rfl ?_
                refine m_iald (q) dX9_near_45 (ly_own B _ _ (i := p) (by omega)) (rfl) (by omega) (by decide) ?_
                refine e_top (w := if ww S p q = 0 then -1 else nI (ww S p q - 1)) hw ?_
                refine e_istore dX9_near_46 (by decide) rfl ?_
                refine e_aload_n dX9_near_48 rfl rfl ?_
                refine m_get 9 1 lf_X9_19 dX9_near_49 (ly_0 B _ _) rfl ?_
                refine m_get 3 1 lf_X9_112 dX9_near_52 (ly_3 B _ _) rfl ?_
                refine e_iload_n dX9_near_55 rfl rfl ?_
                refine m_aald (r := 6 + p) (p) dX9_near_56 (by decide) rfl (ly_5 B _ _) (rfl) (by omega) (by decide) (if_pos (by omega)) ?_
                refine e_iload_n dX9_near_57 rfl rfl ?_
                refine e_iload_n dX9_near_58 rfl rfl ?_
                refine m_iast (q) dX9_near_59 (fun m => ly_own B m _ (i := p) (by omega)) (rfl) (by omega) (by decide) ?_
                refine e_iload dX9_near_60 rfl ?_
                refine e_iconst (v := -1) dX9_near_62 (by decide) ?_
                by_cases e : ww S p q = 0
                · rw [if_pos e]
                  refine e_icmp_ne 71 dX9_near_63 (by decide) (fun g6 => ?_) (fun g6 => ?_)
                  · exact absurd rfl g6
                  · refine e_bipush (v := -3) dX9_near_66 (by decide) ?_
                    refine e_goto 73 dX9_near_68 (by decide) ?_
                    exact m_iret dX9_near_73 rfl (Nat.le_refl _) (Nat.le_refl _) (⟨_, _, rfl, Or.inr ⟨p, q, p2, q2, rfl, rfl, g3, Or.inr ⟨y, y1, rfl, by unfold ownV; rw [if_pos e], rfl⟩⟩, hcs, fun b hb => wr_off _ _ (by omega)⟩)
                · rw [if_neg e]
                  refine e_icmp_ne 71 dX9_near_63 (by decide) (fun g6 => ?_) (fun g6 => ?_)
                  · refine e_iload dX9_near_71 rfl ?_
                    exact m_iret dX9_near_73 rfl (Nat.le_refl _) (Nat.le_refl _) (⟨_, _, rfl, Or.inr ⟨p, q, p2, q2, rfl, rfl, g3, Or.inr ⟨y, y1, rfl, by unfold ownV; rw [if_neg e], rfl⟩⟩, hcs, fun b hb => wr_off _ _ (by omega)⟩)
                  · exact absurd g6 (m1_ne (by omega))
              · refine e_bipush (v := -2) dX9_near_32 (by decide) ?_
                exact m_iret dX9_near_34 rfl (Nat.le_refl _) (Nat.le_refl _) (⟨_, _, rfl, Or.inr ⟨p, q, p2, q2, rfl, rfl, g3, Or.inl ⟨fun z => g5 z.2, rfl, rfl⟩⟩, hc, fun b hb => rfl⟩)
          · subst g3
            refine e_iconst (v := -1) dX9_near_19 (by decide) ?_
            exact m_iret dX9_near_20 rfl (Nat.le_refl _) (Nat.le_refl _) (⟨_, _, rfl, Or.inl ⟨fun z => z.2.2 rfl, rfl, rfl⟩, hc, fun b hb => rfl⟩)
      · refine e_if_eq 19 dX9_near_11 (by decide) (fun g2 => ?_) (fun g2 => ?_)
        · refine e_iconst (v := -1) dX9_near_19 (by decide) ?_
          exact m_iret dX9_near_20 rfl (Nat.le_refl _) (Nat.le_refl _) (⟨_, _, rfl, Or.inl ⟨fun z => h2 z.2.1, rfl, rfl⟩, hc, fun b hb => rfl⟩)
        · exact absurd rfl g2
  · refine e_if_eq 19 dX9_near_4 (by decide) (fun g1 => ?_) (fun g1 => ?_)
    · refine e_iconst (v := -1) dX9_near_19 (by decide) ?_
      exact m_iret dX9_near_20 rfl (Nat.le_refl _) (Nat.le_refl _) (⟨_, _, rfl, Or.inl ⟨fun z => h1 z.1, rfl, rfl⟩, hc, fun b hb => rfl⟩)
    · exact absurd rfl g1
set_option maxRecDepth 100000 in
/-- SuggestSpell.distance -/
theorem c_distance (m : mm_M) {S : sp_S} (w : Int32) (hc : cs m S) : mm_F l D kA B sz o 6 133 mX9_distance [.ref (B + 0), .int w] m (fun v m' => (∃ y, v = some (.int y) ∧ R_dist S (ds S) w y) ∧ fr m m') := by
  have n60 := hc.1.2.2.1
  refine mm_F.of ?_
  refine e_aload_n dX9_distance_0 rfl rfl ?_
  refine m_get 9 2 lf_X9_26 dX9_distance_1 (ly_0 B _ _) rfl ?_
  refine e_iload_n dX9_distance_4 rfl rfl ?_
  refine m_callV (As := [_]) lc_X9_91 dX9_distance_5 (ly_32 B _ _) rfl rfl (by simp [Value.category]) (Nat.le_of_ble_eq_true rfl) (Nat.le_of_ble_eq_true rfl) ⟨Nat.le_of_ble_eq_true rfl, Nat.le_of_ble_eq_true rfl⟩ ⟨Nat.le_of_ble_eq_true rfl, Nat.le_of_ble_eq_true rfl⟩ (c_has m hc.2.2.2.1 n60 w) (fun v9 m9 hp9 => ?_)
  obtain ⟨rfl, ⟨rfl, q, q1, rfl⟩ | ⟨rfl, h1⟩⟩ := hp9
  · refine e_if_ne 13 dX9_distance_8 (by decide) (fun g1 => ?_) (fun g1 => ?_)
    · refine e_aload_n dX9_distance_13 rfl rfl ?_
      refine e_iload_n dX9_distance_14 rfl rfl ?_
      refine m_callV (As := [_]) lc_X9_116 dX9_distance_15 (ly_0 B _ _) rfl rfl (by simp [Value.category]) (Nat.le_of_ble_eq_true rfl) (Nat.le_of_ble_eq_true rfl) ⟨Nat.le_of_ble_eq_true rfl, Nat.le_of_ble_eq_true rfl⟩ ⟨Nat.le_of_ble_eq_true rfl, Nat.le_of_ble_eq_true rfl⟩ (c_priceOfWord m9 hc q1) (fun v9 m1 hp9 => ?_)
      obtain ⟨rfl, a1⟩ := hp9
      exact m_iret dX9_distance_18 rfl (Nat.le_refl _) (Nat.le_refl _) (⟨⟨_, rfl, Or.inr ⟨q, q1, rfl, rfl⟩⟩, a1.fr⟩)
    · exact absurd g1 (by decide)
  · refine e_if_ne 13 dX9_distance_8 (by decide) (fun g1 => ?_) (fun g1 => ?_)
    · exact absurd rfl g1
    · refine e_iconst (v := -1) dX9_distance_11 (by decide) ?_
      exact m_iret dX9_distance_12 rfl (Nat.le_refl _) (Nat.le_refl _) (⟨⟨_, rfl, Or.inl ⟨h1, rfl⟩⟩, fr.rf _⟩)
set_option maxRecDepth 100000 in
/-- SuggestSpell.begins -/
theorem c_begins (m : mm_M) {S : sp_S} (w : Int32) (hc : cs m S) : mm_F l D kA B sz o 5 112 mX9_begins [.ref (B + 0), .int w] m (fun v m' => (∃ y, v = some (.int y) ∧ R_dist S (bg S) w y) ∧ fr m m') := by
  have n60 := hc.1.2.2.1
  refine mm_F.of ?_
  refine e_aload_n dX9_begins_0 rfl rfl ?_
  refine m_get 9 2 lf_X9_26 dX9_begins_1 (ly_0 B _ _) rfl ?_
  refine e_iload_n dX9_begins_4 rfl rfl ?_
  refine m_callV (As := [_]) lc_X9_91 dX9_begins_5 (ly_32 B _ _) rfl rfl (by simp [Value.category]) (Nat.le_of_ble_eq_true rfl) (Nat.le_of_ble_eq_true rfl) ⟨Nat.le_of_ble_eq_true rfl, Nat.le_of_ble_eq_true rfl⟩ ⟨Nat.le_of_ble_eq_true rfl, Nat.le_of_ble_eq_true rfl⟩ (c_has m hc.2.2.2.1 n60 w) (fun v9 m9 hp9 => ?_)
  obtain ⟨rfl, ⟨rfl, q, q1, rfl⟩ | ⟨rfl, h1⟩⟩ := hp9
  · refine e_if_ne 13 dX9_begins_8 (by decide) (fun g1 => ?_) (fun g1 => ?_)
    · have w12 := (hc.1.2.2.2.1 q q1).2.1
      have t12 := hc.1.1
      refine e_aload_n dX9_begins_13 rfl rfl ?_
      refine m_get 9 4 lf_X9_42 dX9_begins_14 (ly_0 B _ _) rfl ?_
      refine e_aload_n dX9_begins_17 rfl rfl ?_
      refine m_get 9 0 lf_X9_10 dX9_begins_18 (ly_0 B _ _) rfl ?_
      refine e_aload_n dX9_begins_21 rfl rfl ?_
      refine m_get 9 2 lf_X9_26 dX9_begins_22 (ly_0 B _ _) rfl ?_
      refine m_get 8 0 lf_X9_98 dX9_begins_25 (ly_32 B _ _) rfl ?_
      refine e_iload_n dX9_begins_28 rfl rfl ?_
      refine m_aald (r := 37 + 2 * q) (q) dX9_begins_29 (by decide) rfl (ly_33 B _ _) (rfl) (by omega) (by decide) (if_pos (by omega)) ?_
      refine m_callV (As := [_, _]) lc_X9_119 dX9_begins_30 (ly_171 B _ _) rfl rfl (by simp [Value.category]) (Nat.le_of_ble_eq_true rfl) (Nat.le_of_ble_eq_true rfl) ⟨Nat.le_of_ble_eq_true rfl, Nat.le_of_ble_eq_true rfl⟩ ⟨Nat.le_of_ble_eq_true rfl, Nat.le_of_ble_eq_true rfl⟩ (c_measure m9 hc.2.2.1 (isRow_1 B) (isRow_w B (i := q) (by omega)) (by omega) (by omega) (by omega) (by omega) hc.2.1 (hc.2.2.2.2.1 q q1).1) (fun v9 m1 hp9 => ?_)
      obtain ⟨rfl, a1, a2, a3, a4⟩ := hp9
      refine e_pop dX9_begins_33 rfl ?_
      refine e_aload_n dX9_begins_34 rfl rfl ?_
      refine m_get 9 4 lf_X9_42 dX9_begins_35 (ly_0 B _ _) rfl ?_
      refine m_callV (As := []) lc_X9_123 dX9_begins_38 (ly_171 B _ _) rfl rfl (by simp [Value.category]) (Nat.le_of_ble_eq_true rfl) (Nat.le_of_ble_eq_true rfl) ⟨Nat.le_of_ble_eq_true rfl, Nat.le_of_ble_eq_true rfl⟩ ⟨Nat.le_of_ble_eq_true rfl, Nat.le_of_ble_eq_true rfl⟩ (c_leastOf m1 (f := fun j => dd (pp S) (ww S) (tl S) (wt S q) (tn S) j) a1.1 a2.1 t12 w12 (fun b hb => ⟨a3 _ b (Nat.le_refl _) hb, by have := dd_le (w := ww S) (tl S) (wt S q) (hc.1.2.2.2.2.2.1 0 (by omega)) (hc.1.2.2.2.2.2.1 1 (by omega)) (tn S) b; omega⟩)) (fun v9 m2 hp9 => ?_)
      obtain ⟨rfl, rfl⟩ := hp9
      have a5 : frT _ _ := a4
      exact m_iret dX9_begins_41 rfl (Nat.le_refl _) (Nat.le_refl _) (⟨⟨_, rfl, Or.inr ⟨q, q1, rfl, rfl⟩⟩, a5.fr⟩)
    · exact absurd g1 (by decide)
  · refine e_if_ne 13 dX9_begins_8 (by decide) (fun g1 => ?_) (fun g1 => ?_)
    · exact absurd rfl g1
    · refine e_iconst (v := -1) dX9_begins_11 (by decide) ?_
      exact m_iret dX9_begins_12 rfl (Nat.le_refl _) (Nat.le_refl _) (⟨⟨_, rfl, Or.inl ⟨h1, rfl⟩⟩, fr.rf _⟩)
theorem eds_len {S : sp_S} (h : ok S) {q : Nat} (hq : q < wn S) : (eds S q).length ≤ 24 := by
  have h1 := ed_len (pp S) (ww S) (tl S) (wt S q) (tn S + wl S q) (tn S) (wl S q) (Nat.le_refl _)
  have := h.1
  have := (h.2.2.2.1 q hq).2.1
  unfold eds
  omega
theorem eds_get {S : sp_S} {q z : Nat} (hz : z < (eds S q).length) : ∃ x, (eds S q)[(eds S q).length - 1 - z]? = some x := ⟨_, List.getElem?_eq_getElem (by omega)⟩
set_option maxRecDepth 100000 in
/-- SuggestSpell.edit -/
theorem c_edit (m : mm_M) {S : sp_S} (w k : Int32) (hc : cs m S) : mm_F l D kA B sz o 6 133 mX9_edit [.ref (B + 0), .int w, .int k] m (fun v m' => (∃ y, v = some (.int y) ∧ R_edit S w k y) ∧ fr m m') := by
  have n60 := hc.1.2.2.1
  refine mm_F.of ?_
  refine e_aload_n dX9_edit_0 rfl rfl ?_
  refine m_get 9 2 lf_X9_26 dX9_edit_1 (ly_0 B _ _) rfl ?_
  refine e_iload_n dX9_edit_4 rfl rfl ?_
  refine m_callV (As := [_]) lc_X9_91 dX9_edit_5 (ly_32 B _ _) rfl rfl (by simp [Value.category]) (Nat.le_of_ble_eq_true rfl) (Nat.le_of_ble_eq_true rfl) ⟨Nat.le_of_ble_eq_true rfl, Nat.le_of_ble_eq_true rfl⟩ ⟨Nat.le_of_ble_eq_true rfl, Nat.le_of_ble_eq_true rfl⟩ (c_has m hc.2.2.2.1 n60 w) (fun v9 m9 hp9 => ?_)
  obtain ⟨rfl, ⟨rfl, q, q1, rfl⟩ | ⟨rfl, h1⟩⟩ := hp9
  · refine e_if_ne 13 dX9_edit_8 (by decide) (fun g1 => ?_) (fun g1 => ?_)
    · have len := eds_len hc.1 q1
      refine e_aload_n dX9_edit_13 rfl rfl ?_
      refine e_iload_n dX9_edit_14 rfl rfl ?_
      refine m_callV (As := [_]) lc_X9_127 dX9_edit_15 (ly_0 B _ _) rfl rfl (by simp [Value.category]) (Nat.le_of_ble_eq_true rfl) (Nat.le_of_ble_eq_true rfl) ⟨Nat.le_of_ble_eq_true rfl, Nat.le_of_ble_eq_true rfl⟩ ⟨Nat.le_of_ble_eq_true rfl, Nat.le_of_ble_eq_true rfl⟩ (c_findEdits m9 hc q1) (fun v9 m1 hp9 => ?_)
      obtain ⟨rfl, a1, a2⟩ := hp9
      change ed_at m1 (eds S q) at a1
      refine e_iload_n dX9_edit_18 rfl rfl ?_
      refine e_iconst (v := -1) dX9_edit_19 (by decide) ?_
      refine e_icmp_ne 31 dX9_edit_20 (by decide) (fun g2 => ?_) (fun g2 => ?_)
      · refine e_iload_n dX9_edit_31 rfl rfl ?_
        refine e_if_lt 46 dX9_edit_32 (by decide) (fun g3 => ?_) (fun g3 => ?_)
        · refine e_iconst (v := -1) dX9_edit_46 (by decide) ?_
          exact m_iret dX9_edit_47 rfl (Nat.le_refl _) (Nat.le_refl _) (⟨⟨_, rfl, Or.inr ⟨q, q1, rfl, Or.inr (Or.inr ⟨g2, fun z hz e => nI_pos (n := z) (by omega) (e ▸ g3), rfl⟩)⟩⟩, a2⟩)
        · obtain ⟨z, z1, rfl⟩ := nI_of g3
          refine e_iload_n dX9_edit_35 rfl rfl ?_
          refine e_aload_n dX9_edit_36 rfl rfl ?_
          refine m_get 9 4 lf_X9_42 dX9_edit_37 (ly_0 B _ _) rfl ?_
          refine m_get 7 6 lf_X9_131 dX9_edit_40 (ly_171 B _ _) rfl ?_
          refine e_top (w := nI ((eds S q).length)) (a1.1) ?_
          refine n_icmp_lt 48 dX9_edit_43 (by decide) (by omega) (by omega) (fun g4 => ?_) (fun g4 => ?_)
          · obtain ⟨x, hx⟩ := eds_get (S := S) (q := q) g4
            refine e_aload_n dX9_edit_48 rfl rfl ?_
            refine m_get 9 4 lf_X9_42 dX9_edit_49 (ly_0 B _ _) rfl ?_
            refine e_iload_n dX9_edit_52 rfl rfl ?_
            refine m_callV (As := [_]) lc_X9_134 dX9_edit_53 (ly_171 B _ _) rfl rfl (by simp [Value.category]) (Nat.le_of_ble_eq_true rfl) (Nat.le_of_ble_eq_true rfl) ⟨Nat.le_of_ble_eq_true rfl, Nat.le_of_ble_eq_true rfl⟩ ⟨Nat.le_of_ble_eq_true rfl, Nat.le_of_ble_eq_true rfl⟩ (c_kindOf m1 a1 len g4) (fun v9 m2 hp9 => ?_)
            obtain ⟨rfl, rfl⟩ := hp9
            exact m_iret dX9_edit_56 rfl (Nat.le_refl _) (Nat.le_refl _) (⟨⟨_, rfl, Or.inr ⟨q, q1, rfl, Or.inr (Or.inl ⟨z, x, g4, rfl, hx, (a1.2 _ x hx).1⟩)⟩⟩, a2⟩)
          · refine e_iconst (v := -1) dX9_edit_46 (by decide) ?_
            exact m_iret dX9_edit_47 rfl (Nat.le_refl _) (Nat.le_refl _) (⟨⟨_, rfl, Or.inr ⟨q, q1, rfl, Or.inr (Or.inr ⟨g2, fun y hy e => by have := (nI_eq z1 (by omega)).mp e; omega, rfl⟩)⟩⟩, a2⟩)
      · subst g2
        refine e_aload_n dX9_edit_23 rfl rfl ?_
        refine m_get 9 4 lf_X9_42 dX9_edit_24 (ly_0 B _ _) rfl ?_
        refine m_get 7 6 lf_X9_131 dX9_edit_27 (ly_171 B _ _) rfl ?_
        refine e_top (w := nI ((eds S q).length)) (a1.1) ?_
        exact m_iret dX9_edit_30 rfl (Nat.le_refl _) (Nat.le_refl _) (⟨⟨_, rfl, Or.inr ⟨q, q1, rfl, Or.inl ⟨rfl, rfl⟩⟩⟩, a2⟩)
    · exact absurd g1 (by decide)
  · refine e_if_ne 13 dX9_edit_8 (by decide) (fun g1 => ?_) (fun g1 => ?_)
    · exact absurd rfl g1
    · refine e_iconst (v := -1) dX9_edit_11 (by decide) ?_
      exact m_iret dX9_edit_12 rfl (Nat.le_refl _) (Nat.le_refl _) (⟨⟨_, rfl, Or.inl ⟨h1, rfl⟩⟩, fr.rf _⟩)
set_option maxRecDepth 100000 in
/-- SuggestSpell.place -/
theorem c_place (m : mm_M) {S : sp_S} (w k : Int32) (hc : cs m S) : mm_F l D kA B sz o 6 133 mX9_place [.ref (B + 0), .int w, .int k] m (fun v m' => (∃ y, v = some (.int y) ∧ R_place S w k y) ∧ fr m m') := by
  have n60 := hc.1.2.2.1
  refine mm_F.of ?_
  refine e_aload_n dX9_place_0 rfl rfl ?_
  refine m_get 9 2 lf_X9_26 dX9_place_1 (ly_0 B _ _) rfl ?_
  refine e_iload_n dX9_place_4 rfl rfl ?_
  refine m_callV (As := [_]) lc_X9_91 dX9_place_5 (ly_32 B _ _) rfl rfl (by simp [Value.category]) (Nat.le_of_ble_eq_true rfl) (Nat.le_of_ble_eq_true rfl) ⟨Nat.le_of_ble_eq_true rfl, Nat.le_of_ble_eq_true rfl⟩ ⟨Nat.le_of_ble_eq_true rfl, Nat.le_of_ble_eq_true rfl⟩ (c_has m hc.2.2.2.1 n60 w) (fun v9 m9 hp9 => ?_)
  obtain ⟨rfl, ⟨rfl, q, q1, rfl⟩ | ⟨rfl, h1⟩⟩ := hp9
  · refine e_if_ne 13 dX9_place_8 (by decide) (fun g1 => ?_) (fun g1 => ?_)
    · have len := eds_len hc.1 q1
      refine e_aload_n dX9_place_13 rfl rfl ?_
      refine e_iload_n dX9_place_14 rfl rfl ?_
      refine m_callV (As := [_]) lc_X9_127 dX9_place_15 (ly_0 B _ _) rfl rfl (by simp [Value.category]) (Nat.le_of_ble_eq_true rfl) (Nat.le_of_ble_eq_true rfl) ⟨Nat.le_of_ble_eq_true rfl, Nat.le_of_ble_eq_true rfl⟩ ⟨Nat.le_of_ble_eq_true rfl, Nat.le_of_ble_eq_true rfl⟩ (c_findEdits m9 hc q1) (fun v9 m1 hp9 => ?_)
      obtain ⟨rfl, a1, a2⟩ := hp9
      change ed_at m1 (eds S q) at a1
      refine e_iload_n dX9_place_18 rfl rfl ?_
      refine e_if_lt 33 dX9_place_19 (by decide) (fun g3 => ?_) (fun g3 => ?_)
      · refine e_iconst (v := -1) dX9_place_33 (by decide) ?_
        exact m_iret dX9_place_34 rfl (Nat.le_refl _) (Nat.le_refl _) (⟨⟨_, rfl, Or.inr ⟨q, q1, rfl, Or.inr ⟨fun z hz e => nI_pos (n := z) (by omega) (e ▸ g3), rfl⟩⟩⟩, a2⟩)
      · obtain ⟨z, z1, rfl⟩ := nI_of g3
        refine e_iload_n dX9_place_22 rfl rfl ?_
        refine e_aload_n dX9_place_23 rfl rfl ?_
        refine m_get 9 4 lf_X9_42 dX9_place_24 (ly_0 B _ _) rfl ?_
        refine m_get 7 6 lf_X9_131 dX9_place_27 (ly_171 B _ _) rfl ?_
        refine e_top (w := nI ((eds S q).length)) (a1.1) ?_
        refine n_icmp_lt 35 dX9_place_30 (by decide) (by omega) (by omega) (fun g4 => ?_) (fun g4 => ?_)
        · obtain ⟨x, hx⟩ := eds_get (S := S) (q := q) g4
          refine e_aload_n dX9_place_35 rfl rfl ?_
          refine m_get 9 4 lf_X9_42 dX9_place_36 (ly_0 B _ _) rfl ?_
          refine e_iload_n dX9_place_39 rfl rfl ?_
          refine m_callV (As := [_]) lc_X9_137 dX9_place_40 (ly_171 B _ _) rfl rfl (by simp [Value.category]) (Nat.le_of_ble_eq_true rfl) (Nat.le_of_ble_eq_true rfl) ⟨Nat.le_of_ble_eq_true rfl, Nat.le_of_ble_eq_true rfl⟩ ⟨Nat.le_of_ble_eq_true rfl, Nat.le_of_ble_eq_true rfl⟩ (c_placeOf m1 a1 len g4) (fun v9 m2 hp9 => ?_)
          obtain ⟨rfl, rfl⟩ := hp9
          exact m_iret dX9_place_43 rfl (Nat.le_refl _) (Nat.le_refl _) (⟨⟨_, rfl, Or.inr ⟨q, q1, rfl, Or.inl ⟨z, x, g4, rfl, hx, (a1.2 _ x hx).2⟩⟩⟩, a2⟩)
        · refine e_iconst (v := -1) dX9_place_33 (by decide) ?_
          exact m_iret dX9_place_34 rfl (Nat.le_refl _) (Nat.le_refl _) (⟨⟨_, rfl, Or.inr ⟨q, q1, rfl, Or.inr ⟨fun y hy e => by have := (nI_eq z1 (by omega)).mp e; omega, rfl⟩⟩⟩, a2⟩)
    · exact absurd g1 (by decide)
  · refine e_if_ne 13 dX9_place_8 (by decide) (fun g1 => ?_) (fun g1 => ?_)
    · exact absurd rfl g1
    · refine e_iconst (v := -1) dX9_place_11 (by decide) ?_
      exact m_iret dX9_place_12 rfl (Nat.le_refl _) (Nat.le_refl _) (⟨⟨_, rfl, Or.inl ⟨h1, rfl⟩⟩, fr.rf _⟩)
set_option maxRecDepth 100000 in
/-- SuggestSpell.token -/
theorem c_token (m : mm_M) {S : sp_S} (hc : cs m S) : mm_F l D kA B sz o 3 64 mX9_token [.ref (B + 0)] m (fun v m' => ∃ y S', v = some (.int y) ∧ R_token S y S' ∧ cs m' S' ∧ frm m m') := by
  have t12 := hc.1.1
  have n60 := hc.1.2.2.1
  have k6 := hc.1.2.2.2.2.2.2.2.2.2.1
  refine mm_F.of ?_
  refine e_aload_n dX9_token_0 rfl rfl ?_
  refine m_get 9 0 lf_X9_10 dX9_token_1 (ly_0 B _ _) rfl ?_
  refine m_get 5 1 lf_X9_74 dX9_token_4 (ly_1 B _ _) rfl ?_
  refine e_top (w := nI (tn S)) (hc.2.1.1) ?_
  refine n_if_ne 13 dX9_token_7 (by decide) (by omega) (fun g1 => ?_) (fun g1 => ?_)
  · refine e_aload_n dX9_token_13 rfl rfl ?_
    refine m_get 9 3 lf_X9_33 dX9_token_14 (ly_0 B _ _) rfl ?_
    refine e_aload_n dX9_token_17 rfl rfl ?_
    refine m_get 9 0 lf_X9_10 dX9_token_18 (ly_0 B _ _) rfl ?_
    refine m_callV (As := [_]) lc_X9_164 dX9_token_21 (ly_157 B _ _) rfl rfl (by simp [Value.category]) (Nat.le_of_ble_eq_true rfl) (Nat.le_of_ble_eq_true rfl) ⟨Nat.le_of_ble_eq_true rfl, Nat.le_of_ble_eq_true rfl⟩ ⟨Nat.le_of_ble_eq_true rfl, Nat.le_of_ble_eq_true rfl⟩ (c_Line_add m hc.2.2.2.2.2.2.2.1 k6 hc.2.1) (fun v9 m1 hp9 => ?_)
    by_cases e : kn S < 6
    · rw [if_pos e] at hp9
      obtain ⟨rfl, b1, b2, b3⟩ := hp9
      refine e_if_ne 30 dX9_token_24 (by decide) (fun g2 => ?_) (fun g2 => ?_)
      · refine e_aload_n dX9_token_30 rfl rfl ?_
        refine m_get 9 0 lf_X9_10 dX9_token_31 (ly_0 B _ _) rfl ?_
        refine e_iconst (v := nI 0) dX9_token_34 (by decide) ?_
        refine m_puti 5 1 lp_X9_74 dX9_token_35 (ly_1 B _ _) (Nat.le_of_ble_eq_true rfl) (ly_1 B _ _) rfl ?_
        refine e_aload_n dX9_token_38 rfl rfl ?_
        refine m_get 9 3 lf_X9_33 dX9_token_39 (ly_0 B _ _) rfl ?_
        refine m_get 1 1 lf_X9_166 dX9_token_42 (ly_157 B _ _) rfl ?_
        refine e_top (w := nI (kn S + 1)) (by rw [wr_off _ _ (by omega)]; exact b1) ?_
        refine m_iret dX9_token_45 rfl (Nat.le_refl _) (Nat.le_refl _) ⟨_, _, rfl, Or.inr (Or.inr ⟨by omega, e, rfl, rfl⟩), ?_, fun b hb => by rw [wr_off _ _ (by omega)]; exact b3 b (by omega) (by omega) (by omega)⟩
        have hoff : ∀ a, a ≠ 1 → a ≠ 157 → a ≠ 159 + 2 * kn S → a ≠ 160 + 2 * kn S → wr m1 1 1 (nI 0) a = m a := fun a h1 h2 h3 h4 => by rw [wr_off _ _ h1]; exact b3 a h2 h3 h4
        obtain ⟨a1, a2, a3, a4, a5, ⟨f, a6⟩, a7, a8, a9⟩ := hc
        refine ⟨⟨Nat.zero_le _, fun i hi => absurd hi (Nat.not_lt_zero i), a1.2.2.1, a1.2.2.2.1, a1.2.2.2.2.1, a1.2.2.2.2.2.1, a1.2.2.2.2.2.2.1, a1.2.2.2.2.2.2.2.1, a1.2.2.2.2.2.2.2.2.1, by show kn S + 1 ≤ 6; omega, fun q hq => ?_⟩, ⟨wr_same _ _ _ _, Nat.zero_le _, fun i hi => absurd hi (Nat.not_lt_zero i)⟩, a3.of (fun a _ _ => hoff a (by omega) (by omega) (by omega) (by omega)), (congrFun (hoff 32 (by omega) (by omega) (by omega) (by omega)) 4).trans a4, fun q hq => ⟨(a5 q hq).1.of (hoff _ (by omega) (by have : q < wn S := hq; omega) (by have : q < wn S := hq; omega) (by have : q < wn S := hq; omega)) (hoff _ (by omega) (by have : q < wn S := hq; omega) (by have : q < wn S := hq; omega) (by have : q < wn S := hq; omega)), (congrFun (hoff 34 (by omega) (by omega) (by omega) (by omega)) q).trans (a5 q hq).2⟩, ⟨f, a6.of (hoff 35 (by omega) (by omega) (by omega) (by omega))⟩, fun a b ha hb => (congrFun (hoff 36 (by omega) (by omega) (by omega) (by omega)) _).trans (a7 a b ha hb), (congrFun (wr_off _ _ (by omega)) 1).trans b1, fun q hq => ?_⟩
        · show 1 ≤ va_up (kl S) (kn S) (tn S) q ∧ va_up (kl S) (kn S) (tn S) q ≤ 12 ∧ ∀ i, i < va_up (kl S) (kn S) (tn S) q → va_up (kt S) (kn S) (tl S) q i < 26
          have hq' : q < kn S + 1 := hq
          by_cases e2 : q = kn S
          · subst e2
            rw [va_up_self, va_up_self]; exact ⟨by omega, t12, a1.2.1⟩
          · rw [va_up_ne _ _ e2, va_up_ne _ _ e2]; exact a1.2.2.2.2.2.2.2.2.2.2 q (by omega)
        · have hq' : q < kn S + 1 := hq
          show rw_at (wr m1 1 1 (nI 0)) (159 + 2 * q) (160 + 2 * q) (va_up (kl S) (kn S) (tn S) q) (va_up (kt S) (kn S) (tl S) q)
          by_cases e2 : q = kn S
          · subst e2
            rw [va_up_self, va_up_self]; exact b2.of (wr_off _ _ (by omega)) (wr_off _ _ (by omega))
          · rw [va_up_ne _ _ e2, va_up_ne _ _ e2]; exact (a9 q (by omega)).of (hoff _ (by omega) (by omega) (by omega) (by omega)) (hoff _ (by omega) (by omega) (by omega) (by omega))
      · exact absurd g2 (by decide)
    · rw [if_neg e] at hp9
      obtain ⟨rfl, rfl⟩ := hp9
      refine e_if_ne 30 dX9_token_24 (by decide) (fun g2 => ?_) (fun g2 => ?_)
      · exact absurd rfl g2
      · refine e_bipush (v := -4) dX9_token_27 (by decide) ?_
        exact m_iret dX9_token_29 rfl (Nat.le_refl _) (Nat.le_refl _) (⟨_, _, rfl, Or.inr (Or.inl ⟨by omega, by omega, rfl, rfl⟩), hc, fun b hb => rfl⟩)
  · refine e_bipush (v := -2) dX9_token_10 (by decide) ?_
    exact m_iret dX9_token_12 rfl (Nat.le_refl _) (Nat.le_refl _) (⟨_, _, rfl, Or.inl ⟨g1, rfl, rfl⟩, hc, fun b hb => rfl⟩)
set_option maxRecDepth 100000 in
/-- SuggestSpell.line -/
theorem c_line (m : mm_M) {S : sp_S} (hc : cs m S) : mm_F l D kA B sz o 0 0 mX9_line [.ref (B + 0)] m (fun v m' => v = some (.int (nI (kn S))) ∧ cs m' (clrK S) ∧ frm m m') := by
  have n60 := hc.1.2.2.1
  refine mm_F.of ?_
  refine e_aload_n dX9_line_0 rfl rfl ?_
  refine m_get 9 3 lf_X9_33 dX9_line_1 (ly_0 B _ _) rfl ?_
  refine m_get 1 1 lf_X9_166 dX9_line_4 (ly_157 B _ _) rfl ?_
  refine e_top (w := nI (kn S)) (hc.2.2.2.2.2.2.2.1) ?_
  refine e_istore_n dX9_line_7 rfl (by decide) rfl ?_
  refine e_aload_n dX9_line_8 rfl rfl ?_
  refine m_get 9 3 lf_X9_33 dX9_line_9 (ly_0 B _ _) rfl ?_
  refine e_iconst (v := nI 0) dX9_line_12 (by decide) ?_
  refine m_puti 1 1 lp_X9_166 dX9_line_13 (ly_157 B _ _) (Nat.le_of_ble_eq_true rfl) (ly_157 B _ _) rfl ?_
  refine e_iload_n dX9_line_16 rfl rfl ?_
  refine m_iret dX9_line_17 rfl (Nat.le_refl _) (Nat.le_refl _) ⟨rfl, ?_, fun b hb => wr_off _ _ (by omega)⟩
  obtain ⟨a1, a2, a3, a4, a5, ⟨f, a6⟩, a7, a8, a9⟩ := hc
  exact ⟨⟨a1.1, a1.2.1, a1.2.2.1, a1.2.2.2.1, a1.2.2.2.2.1, a1.2.2.2.2.2.1, a1.2.2.2.2.2.2.1, a1.2.2.2.2.2.2.2.1, a1.2.2.2.2.2.2.2.2.1, Nat.zero_le _, fun q hq => absurd hq (Nat.not_lt_zero q)⟩, a2.of (wr_off _ _ (by omega)) (wr_off _ _ (by omega)), a3.of (fun a _ _ => wr_off _ _ (by omega)), (congrFun (wr_off _ _ (by omega)) 4).trans a4, fun q hq => ⟨(a5 q hq).1.of (wr_off _ _ (by have : q < wn S := hq; omega)) (wr_off _ _ (by have : q < wn S := hq; omega)), (congrFun (wr_off _ _ (by omega)) q).trans (a5 q hq).2⟩, ⟨f, a6.of (wr_off _ _ (by omega))⟩, fun a b ha hb => (congrFun (wr_off _ _ (by omega)) _).trans (a7 a b ha hb), wr_same _ _ _ _, fun q hq => absurd hq (Nat.not_lt_zero q)⟩
set_option maxRecDepth 100000 in
/-- SuggestSpell.pair -/
theorem c_pair (m : mm_M) {S : sp_S} (a b : Int32) (on : Bool) (hc : cs m S) : mm_F l D kA B sz o 2 46 mX9_pair [.ref (B + 0), .int a, .int b, .int (if on then nI 1 else nI 0)] m (fun v m' => ∃ y S', v = some (.int y) ∧ R_pair S a b on y S' ∧ cs m' S' ∧ frm m m') := by
  have n60 := hc.1.2.2.1
  have k6 := hc.1.2.2.2.2.2.2.2.2.2.1
  refine mm_F.of ?_
  refine e_aload_n dX9_pair_0 rfl rfl ?_
  refine m_get 9 2 lf_X9_26 dX9_pair_1 (ly_0 B _ _) rfl ?_
  refine e_iload_n dX9_pair_4 rfl rfl ?_
  refine m_callV (As := [_]) lc_X9_91 dX9_pair_5 (ly_32 B _ _) rfl rfl (by simp [Value.category]) (Nat.le_of_ble_eq_true rfl) (Nat.le_of_ble_eq_true rfl) ⟨Nat.le_of_ble_eq_true rfl, Nat.le_of_ble_eq_true rfl⟩ ⟨Nat.le_of_ble_eq_true rfl, Nat.le_of_ble_eq_true rfl⟩ (c_has m hc.2.2.2.1 n60 a) (fun v9 m9 hp9 => ?_)
  obtain ⟨rfl, ⟨rfl, p, p1, rfl⟩ | ⟨rfl, h1⟩⟩ := hp9
  · refine e_if_eq 22 dX9_pair_8 (by decide) (fun g1 => ?_) (fun g1 => ?_)
    · exact absurd g1 (by decide)
    · refine e_aload_n dX9_pair_11 rfl rfl ?_
      refine m_get 9 2 lf_X9_26 dX9_pair_12 (ly_0 B _ _) rfl ?_
      refine e_iload_n dX9_pair_15 rfl rfl ?_
      refine m_callV (As := [_]) lc_X9_91 dX9_pair_16 (ly_32 B _ _) rfl rfl (by simp [Value.category]) (Nat.le_of_ble_eq_true rfl) (Nat.le_of_ble_eq_true rfl) ⟨Nat.le_of_ble_eq_true rfl, Nat.le_of_ble_eq_true rfl⟩ ⟨Nat.le_of_ble_eq_true rfl, Nat.le_of_ble_eq_true rfl⟩ (c_has m9 hc.2.2.2.1 n60 b) (fun v9 m1 hp9 => ?_)
      obtain ⟨rfl, ⟨rfl, q, q1, rfl⟩ | ⟨rfl, h2⟩⟩ := hp9
      · refine e_if_ne 24 dX9_pair_19 (by decide) (fun g2 => ?_) (fun g2 => ?_)
        · refine e_aload_n dX9_pair_24 rfl rfl ?_
          refine m_get 9 2 lf_X9_26 dX9_pair_25 (ly_0 B _ _) rfl ?_
          refine e_iload_n dX9_pair_28 rfl rfl ?_
          refine e_iload_n dX9_pair_29 rfl rfl ?_
          refine e_iload_n dX9_pair_30 rfl rfl ?_
          refine m_callV (As := [_, _, _]) lc_X9_167 dX9_pair_31 (ly_32 B _ _) rfl rfl (by simp [Value.category]) (Nat.le_of_ble_eq_true rfl) (Nat.le_of_ble_eq_true rfl) ⟨Nat.le_of_ble_eq_true rfl, Nat.le_of_ble_eq_true rfl⟩ ⟨Nat.le_of_ble_eq_true rfl, Nat.le_of_ble_eq_true rfl⟩ (c_setPair m1 on hc.2.2.2.2.2.2.1 (a := p) (b := q) (by omega) (by omega)) (fun v9 m2 hp9 => ?_)
          obtain ⟨rfl, rfl⟩ := hp9
          have hcs : cs (wr m1 36 (p * 60 + q) (if on then nI 1 else nI 0)) (setA S p q on) := by
            obtain ⟨a1, a2, a3, a4, a5, ⟨f, a6⟩, a7, a8, a9⟩ := hc
            refine ⟨a1, a2.of (wr_off _ _ (by omega)) (wr_off _ _ (by omega)), a3.of (fun a _ _ => wr_off _ _ (by omega)), (congrFun (wr_off _ _ (by omega)) 4).trans a4, fun z hz => ⟨(a5 z hz).1.of (wr_off _ _ (by omega)) (wr_off _ _ (by omega)), (congrFun (wr_off _ _ (by omega)) z).trans (a5 z hz).2⟩, ⟨f, a6.of (wr_off _ _ (by omega))⟩, fun c d hc' hd => ?_, (congrFun (wr_off _ _ (by omega)) 1).trans a8, fun z hz => (a9 z hz).of (wr_off _ _ (by omega)) (wr_off _ _ (by omega))⟩
            show wr m1 36 (p * 60 + q) (if on then nI 1 else nI 0) 36 (c * 60 + d) = if va_up (pa S) p (va_up (pa S p) q on) c d then nI 1 else nI 0
            by_cases e : c = p
            · subst e
              rw [va_up_self]
              by_cases e2 : d = q
              · rw [e2, va_up_self, wr_same]
              · rw [va_up_ne _ _ e2, wr_ne _ _ (Or.inr (by omega))]; exact a7 c d hc' hd
            · rw [va_up_ne _ _ e, wr_ne _ _ (Or.inr (by omega))]; exact a7 c d hc' hd
          by_cases e : pa S p q = on
          · rw [if_pos e]
            refine e_if_eq 41 dX9_pair_34 (by decide) (fun g3 => ?_) (fun g3 => ?_)
            · refine e_iconst (v := nI 0) dX9_pair_41 (by decide) ?_
              exact m_iret dX9_pair_42 rfl (Nat.le_refl _) (Nat.le_refl _) (⟨_, _, rfl, Or.inr ⟨p, q, p1, q1, rfl, rfl, by rw [if_pos e], rfl⟩, hcs, fun b hb => wr_off _ _ (by omega)⟩)
            · exact absurd rfl g3
          · rw [if_neg e]
            refine e_if_eq 41 dX9_pair_34 (by decide) (fun g3 => ?_) (fun g3 => ?_)
            · exact absurd g3 (by decide)
            · refine e_iconst (v := nI 1) dX9_pair_37 (by decide) ?_
              refine e_goto 42 dX9_pair_38 (by decide) ?_
              exact m_iret dX9_pair_42 rfl (Nat.le_refl _) (Nat.le_refl _) (⟨_, _, rfl, Or.inr ⟨p, q, p1, q1, rfl, rfl, by rw [if_neg e], rfl⟩, hcs, fun b hb => wr_off _ _ (by omega)⟩)
        · exact absurd g2 (by decide)
      · refine e_if_ne 24 dX9_pair_19 (by decide) (fun g2 => ?_) (fun g2 => ?_)
        · exact absurd rfl g2
        · refine e_iconst (v := -1) dX9_pair_22 (by decide) ?_
          exact m_iret dX9_pair_23 rfl (Nat.le_refl _) (Nat.le_refl _) (⟨_, _, rfl, Or.inl ⟨Or.inr h2, rfl, rfl⟩, hc, fun b hb => rfl⟩)
  · refine e_if_eq 22 dX9_pair_8 (by decide) (fun g1 => ?_) (fun g1 => ?_)
    · refine e_iconst (v := -1) dX9_pair_22 (by decide) ?_
      exact m_iret dX9_pair_23 rfl (Nat.le_refl _) (Nat.le_refl _) (⟨_, _, rfl, Or.inl ⟨Or.inl h1, rfl, rfl⟩, hc, fun b hb => rfl⟩)
    · exact absurd rfl g1
end PUD
