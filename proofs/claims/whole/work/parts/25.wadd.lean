/-- the ORDER: f lists the words, each once, what is first being ahead -/
def or_at (m : mm_M) (nn : Nat) (f wl : Nat → Nat) (wt : Nat → Nat → Nat) : Prop := (∀ i, i < nn → m 35 i = nI (f i) ∧ f i < nn) ∧ (∀ i j, i < j → j < nn → ah (wl (f i)) (wt (f i)) (wl (f j)) (wt (f j))) ∧ ∀ q, q < nn → ∃ k, k < nn ∧ f k = q
section WAD
variable {l : Launch} {D : va_G} {kA : FieldType → ClassId} {B sz : Nat} {o : Int64}
def P_wadd (m : mm_M) (nn n cn : Nat) (r wl : Nat → Nat) (wt : Nat → Nat → Nat) (v : Option Value) (m' : mm_M) : Prop := v = some (.int (nI nn)) ∧ m' 32 4 = nI (nn + 1) ∧ rw_at m' (37 + 2 * nn) (38 + 2 * nn) n r ∧ m' 34 nn = nI cn ∧ (∀ i, i ≠ nn → m' 34 i = m 34 i) ∧ (∃ f', or_at m' (nn + 1) f' (va_up wl nn n) (va_up wt nn r)) ∧ ∀ a, a ≠ 32 → a ≠ 34 → a ≠ 35 → a ≠ 37 + 2 * nn → a ≠ 38 + 2 * nn → m' a = m a
set_option maxRecDepth 100000 in
set_option maxHeartbeats 2000000 in
/-- Words.add -/
theorem c_Words_add (m : mm_M) {nn n cn : Nat} {r f wl : Nat → Nat} {wt : Nat → Nat → Nat} (hn : m 32 4 = nI nn) (n60 : nn < 60) (hr : rw_at m 1 2 n r) (hw : ∀ i, i < nn → rw_at m (37 + 2 * i) (38 + 2 * i) (wl i) (wt i)) (ho : or_at m nn f wl wt) (hd0 : ∀ q, q < nn → ¬ sm (wl q) (wt q) n r) : mm_F l D kA B sz o 2 44 mX8_add [.ref (B + 32), .ref (B + 1), .int (nI cn)] m (P_wadd m nn n cn r wl wt) := by
  obtain ⟨o1, o2, o3⟩ := ho
  refine mm_F.of ?_
  refine e_aload_n dX8_add_0 rfl rfl ?_
  refine m_get 8 4 lf_X8_28 dX8_add_1 (ly_32 B _ _) rfl ?_
  refine e_top (w := nI nn) (hn) ?_
  refine e_istore_n dX8_add_4 rfl (by decide) rfl ?_
  refine e_aload_n dX8_add_5 rfl rfl ?_
  refine m_get 8 0 lf_X8_11 dX8_add_6 (ly_32 B _ _) rfl ?_
  refine e_iload_n dX8_add_9 rfl rfl ?_
  refine m_aald (r := 37 + 2 * nn) (nn) dX8_add_10 (by decide) rfl (ly_33 B _ _) (rfl) (by omega) (by decide) (if_pos (by omega)) ?_
  refine e_aload_n dX8_add_11 rfl rfl ?_
  refine m_callV (As := [_]) lc_X8_37 dX8_add_12 (ly_wr B _ _ (i := nn) (by omega)) rfl rfl (by simp [Value.category]) (Nat.le_of_ble_eq_true rfl) (Nat.le_of_ble_eq_true rfl) ⟨Nat.le_of_ble_eq_true rfl, Nat.le_of_ble_eq_true rfl⟩ ⟨Nat.le_of_ble_eq_true rfl, Nat.le_of_ble_eq_true rfl⟩ (c_copyOf m (isRow_w B (i := nn) n60) (isRow_1 B) (by omega) (by omega) (by omega) (by omega) (by omega) hr.1 hr.2.1) (fun v9 m1 hp9 => ?_)
  obtain ⟨rfl, a1, a2, a3⟩ := hp9
  refine e_aload_n dX8_add_15 rfl rfl ?_
  refine m_get 8 1 lf_X8_17 dX8_add_16 (ly_32 B _ _) rfl ?_
  refine e_iload_n dX8_add_19 rfl rfl ?_
  refine e_iload_n dX8_add_20 rfl rfl ?_
  refine m_iast (nn) dX8_add_21 (fun m => ly_34 B m _) (rfl) (by omega) (by decide) ?_
  refine e_aload_n dX8_add_22 rfl rfl ?_
  refine m_get 8 4 lf_X8_28 dX8_add_23 (ly_32 B _ _) rfl ?_
  refine e_top (w := nI nn) (by rw [wr_off _ _ (by omega), a3 32 (by omega) (by omega)]; exact hn) ?_
  refine e_istore dX8_add_26 (by decide) rfl ?_
  have fin : ∀ (c : Nat) (m2 : mm_M), c ≤ nn → (∀ i, i < c → m2 35 i = m 35 i) → (∀ i, c < i → i ≤ nn → m2 35 i = nI (f (i - 1))) → (∀ i, c ≤ i → i < nn → ah n r (wl (f i)) (wt (f i))) → (0 < c → ah (wl (f (c - 1))) (wt (f (c - 1))) n r) → (∀ a, a ≠ 35 → m2 a = wr m1 34 nn (nI cn) a) → mm_G l D kA B sz o 2 44 mX8_add (P_wadd m nn n cn r wl wt) 76 [some (.ref (B + 32)), some (.ref (B + 1)), some (.int (nI cn)), some (.int (nI nn)), some (.int (nI c))] [] m2 := by
    intro c m2 c1 c2 c3 c4 c5 c6
    refine e_aload_n dX8_add_76 rfl rfl ?_
    refine m_get 8 2 lf_X8_21 dX8_add_77 (ly_32 B _ _) rfl ?_
    refine e_iload dX8_add_80 rfl ?_
    refine e_iload_n dX8_add_82 rfl rfl ?_
    refine m_iast (c) dX8_add_83 (fun m => ly_35 B m _) (rfl) (by omega) (by decide) ?_
    refine e_aload_n dX8_add_84 rfl rfl ?_
    refine e_dup dX8_add_85 rfl ?_
    refine m_get 8 4 lf_X8_28 dX8_add_86 (ly_32 B _ _) rfl ?_
    refine e_top (w := nI nn) (by rw [wr_off _ _ (by omega), c6 32 (by omega), wr_off _ _ (by omega), a3 32 (by omega) (by omega)]; exact hn) ?_
    refine e_iconst (v := nI 1) dX8_add_89 (by decide) ?_
    refine e_iadd dX8_add_90 ?_
    refine e_top (w := nI (nn + 1)) (nI_add _ _) ?_
    refine m_puti 8 4 lp_X8_28 dX8_add_91 (ly_32 B _ _) (Nat.le_of_ble_eq_true rfl) (ly_32 B _ _) rfl ?_
    refine e_iload_n dX8_add_94 rfl rfl ?_
    refine m_iret dX8_add_95 rfl (Nat.le_refl _) (Nat.le_refl _) ?_
    have hoff : ∀ a, a ≠ 32 → a ≠ 35 → wr (wr m2 35 c (nI nn)) 32 4 (nI (nn + 1)) a = wr m1 34 nn (nI cn) a := fun a h1 h2 => by rw [wr_off _ _ h1, wr_off _ _ h2]; exact c6 a h2
    refine ⟨rfl, wr_same _ _ _ _, ⟨?_, hr.2.1, fun i hi => ?_⟩, ?_, fun i hi => ?_, ?_, fun a h1 h2 h3 h4 h5 => ?_⟩
    · rw [hoff _ (by omega) (by omega), wr_off _ _ (by omega)]; exact a1
    · rw [hoff _ (by omega) (by omega), wr_off _ _ (by omega), a2 i hi]; exact hr.2.2 i hi
    · rw [hoff _ (by omega) (by omega), wr_same]
    · rw [hoff _ (by omega) (by omega), wr_ne _ _ (Or.inr hi), a3 34 (by omega) (by omega)]
    · have hm : ∀ i, wr (wr m2 35 c (nI nn)) 32 4 (nI (nn + 1)) 35 i = if i = c then nI nn else m2 35 i := fun i => by
        rw [wr_off _ _ (show (35 : Nat) ≠ 32 by omega)]
        by_cases e : i = c
        · rw [e, wr_same, if_pos rfl]
        · rw [wr_ne _ _ (Or.inr e), if_neg e]
      refine ⟨fun i => if i < c then f i else if i = c then nn else f (i - 1), ⟨fun i hi => ?_, fun i j hij hj => ?_, fun q hq => ?_⟩⟩
      · rw [hm]
        dsimp only
        by_cases e1 : i < c
        · rw [if_neg (by omega), if_pos e1, c2 i e1]
          have := o1 i (by omega)
          exact ⟨this.1, by omega⟩
        · rw [if_neg e1]
          by_cases e2 : i = c
          · rw [if_pos e2, if_pos e2]; exact ⟨rfl, by omega⟩
          · rw [if_neg e2, if_neg e2, c3 i (by omega) (by omega)]
            have := o1 (i - 1) (by omega)
            exact ⟨rfl, by omega⟩
      · have fl : ∀ i, i < nn → f i ≠ nn := fun i hi => by have := (o1 i hi).2; omega
        dsimp only
        by_cases e1 : i < c
        · rw [if_pos e1, va_up_ne _ _ (fl i (by omega)), va_up_ne _ _ (fl i (by omega))]
          by_cases e2 : j < c
          · rw [if_pos e2, va_up_ne _ _ (fl j (by omega)), va_up_ne _ _ (fl j (by omega))]
            exact o2 i j hij (by omega)
          · rw [if_neg e2]
            by_cases e3 : j = c
            · rw [if_pos e3, va_up_self, va_up_self]
              by_cases e4 : i = c - 1
              · rw [e4]; exact c5 (by omega)
              · exact ah_trans (o2 i (c - 1) (by omega) (by omega)) (c5 (by omega))
            · rw [if_neg e3, va_up_ne _ _ (fl (j - 1) (by omega)), va_up_ne _ _ (fl (j - 1) (by omega))]
              exact o2 i (j - 1) (by omega) (by omega)
        · rw [if_neg e1, if_neg (show ¬ j < c by omega), if_neg (show ¬ j = c by omega), va_up_ne _ _ (fl (j - 1) (by omega)), va_up_ne _ _ (fl (j - 1) (by omega))]
          by_cases e2 : i = c
          · rw [if_pos e2, va_up_self, va_up_self]
            exact c4 (j - 1) (by omega) (by omega)
          · rw [if_neg e2, va_up_ne _ _ (fl (i - 1) (by omega)), va_up_ne _ _ (fl (i - 1) (by omega))]
            exact o2 (i - 1) (j - 1) (by omega) (by omega)
      · by_cases e : q = nn
        · exact ⟨c, by omega, by dsimp only; rw [if_neg (by omega), if_pos rfl, e]⟩
        · obtain ⟨k, k1, k2⟩ := o3 q (by omega)
          by_cases e1 : k < c
          · exact ⟨k, by omega, by dsimp only; rw [if_pos e1]; exact k2⟩
          · exact ⟨k + 1, by omega, by dsimp only; rw [if_neg (by omega), if_neg (by omega), Nat.add_sub_cancel]; exact k2⟩
    · rw [hoff a h1 h3, wr_off _ _ h2]; exact a3 a h4 h5
  have loop : ∀ (c : Nat) (m2 : mm_M), c ≤ nn → (∀ i, i < c → m2 35 i = m 35 i) → (∀ i, c < i → i ≤ nn → m2 35 i = nI (f (i - 1))) → (∀ i, c ≤ i → i < nn → ah n r (wl (f i)) (wt (f i))) → (∀ a, a ≠ 35 → m2 a = wr m1 34 nn (nI cn) a) → mm_G l D kA B sz o 2 44 mX8_add (P_wadd m nn n cn r wl wt) 28 [some (.ref (B + 32)), some (.ref (B + 1)), some (.int (nI cn)), some (.int (nI nn)), some (.int (nI c))] [] m2 := by
    intro c
    induction c with
    | zero =>
      intro m2 c1 c2 c3 c4 c6
      refine e_iload dX8_add_28 rfl ?_
      refine n_if_le 76 dX8_add_30 (by decide) (by omega) (fun hc => ?_) (fun hc => ?_)
      · exact fin 0 m2 c1 c2 c3 c4 (fun h => by omega) c6
      · exact absurd (Nat.le_refl 0) hc
    | succ c ih =>
      intro m2 c1 c2 c3 c4 c6
      obtain ⟨g1, g2⟩ := o1 c (by omega)
      have f60 : f c < 60 := by omega
      have hrow : rw_at m2 (37 + 2 * (f c)) (38 + 2 * (f c)) (wl (f c)) (wt (f c)) := (hw (f c) g2).of (by rw [c6 _ (by omega), wr_off _ _ (by omega), a3 _ (by omega) (by omega)]) (by rw [c6 _ (by omega), wr_off _ _ (by omega), a3 _ (by omega) (by omega)])
      have htyp : rw_at m2 1 2 n r := hr.of (by rw [c6 _ (by omega), wr_off _ _ (by omega), a3 _ (by omega) (by omega)]) (by rw [c6 _ (by omega), wr_off _ _ (by omega), a3 _ (by omega) (by omega)])
      refine e_iload dX8_add_28 rfl ?_
      refine n_if_le 76 dX8_add_30 (by decide) (by omega) (fun hc => ?_) (fun hc => ?_)
      · exact absurd hc (by omega)
      · refine e_aload_n dX8_add_33 rfl rfl ?_
        refine e_aload_n dX8_add_34 rfl rfl ?_
        refine m_get 8 0 lf_X8_11 dX8_add_35 (ly_32 B _ _) rfl ?_
        refine e_aload_n dX8_add_38 rfl rfl ?_
        refine m_get 8 2 lf_X8_21 dX8_add_39 (ly_32 B _ _) rfl ?_
        refine e_iload dX8_add_42 rfl ?_
        refine e_iconst (v := nI 1) dX8_add_44 (by decide) ?_
        refine e_isub dX8_add_45 ?_
        refine e_top (w := nI ((c + 1) - 1)) (pk_sub (by omega)) ?_
        refine m_iald ((c + 1) - 1) dX8_add_46 (ly_35 B _ _) (rfl) (by omega) (by decide) ?_
        refine e_top (w := nI (f c)) ((by rw [Nat.add_sub_cancel, c2 c (by omega)]; exact g1)) ?_
        refine m_aald (r := 37 + 2 * (f c)) (f c) dX8_add_47 (by decide) rfl (ly_33 B _ _) (rfl) (by omega) (by decide) (if_pos (by omega)) ?_
        refine m_callV (As := [_]) lc_X8_33 dX8_add_48 (ly_1 B _ _) rfl rfl (by simp [Value.category]) (Nat.le_of_ble_eq_true rfl) (Nat.le_of_ble_eq_true rfl) ⟨Nat.le_of_ble_eq_true rfl, Nat.le_of_ble_eq_true rfl⟩ ⟨Nat.le_of_ble_eq_true rfl, Nat.le_of_ble_eq_true rfl⟩ (c_compareWith m2 (isRow_1 B) (isRow_w B f60) htyp hrow) (fun v9 m9 hp9 => ?_)
        obtain ⟨rfl, x, rfl, x1, x2⟩ := hp9
        refine e_if_ge 76 dX8_add_51 (by decide) (fun h2 => ?_) (fun h2 => ?_)
        · refine fin (c + 1) m9 c1 c2 c3 c4 (fun _ => ?_) c6
          rw [Nat.add_sub_cancel]
          rcases ah_tri n r (wl (f c)) (wt (f c)) with q | q | q
          · exact absurd (x2.mpr q) (Int32.not_lt.mpr h2)
          · exact absurd ⟨q.1.symm, fun i hi => (q.2 i (by rw [q.1]; exact hi)).symm⟩ (hd0 (f c) g2)
          · exact q
        · refine e_aload_n dX8_add_54 rfl rfl ?_
          refine m_get 8 2 lf_X8_21 dX8_add_55 (ly_32 B _ _) rfl ?_
          refine e_iload dX8_add_58 rfl ?_
          refine e_aload_n dX8_add_60 rfl rfl ?_
          refine m_get 8 2 lf_X8_21 dX8_add_61 (ly_32 B _ _) rfl ?_
          refine e_iload dX8_add_64 rfl ?_
          refine e_iconst (v := nI 1) dX8_add_66 (by decide) ?_
          refine e_isub dX8_add_67 ?_
          refine e_top (w := nI ((c + 1) - 1)) (pk_sub (by omega)) ?_
          refine m_iald ((c + 1) - 1) dX8_add_68 (ly_35 B _ _) (rfl) (by omega) (by decide) ?_
          refine e_top (w := nI (f c)) ((by rw [Nat.add_sub_cancel, c2 c (by omega)]; exact g1)) ?_
          refine m_iast (c + 1) dX8_add_69 (fun m => ly_35 B m _) (rfl) (by omega) (by decide) ?_
          refine e_iinc (v := nI (c + 1 - 1)) dX8_add_70 rfl (dec_nI (by decide) (by omega)) (by decide) rfl ?_
          refine e_goto 28 dX8_add_73 (by decide) ?_
          refine ih _ (by omega) (fun i hi => ?_) (fun i h1 h3 => ?_) (fun i h1 h3 => ?_) (fun a ha => by rw [wr_off _ _ ha]; exact c6 a ha)
          · rw [wr_ne _ _ (Or.inr (by omega))]; exact c2 i (by omega)
          · by_cases e : i = c + 1
            · rw [e, wr_same, Nat.add_sub_cancel]
            · rw [wr_ne _ _ (Or.inr e)]; exact c3 i (by omega) h3
          · by_cases e : i = c
            · rw [e]; exact x2.mp (Int32.not_le.mp h2)
            · exact c4 i (by omega) h3
  exact loop nn _ (Nat.le_refl _) (fun i hi => by rw [wr_off _ _ (by omega), a3 35 (by omega) (by omega)]) (fun i h1 h2 => by omega) (fun i h1 h2 => by omega) (fun a ha => rfl)
end WAD
