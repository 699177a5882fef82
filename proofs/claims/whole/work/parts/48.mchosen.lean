section MCH
variable {S : sp_S} {lim : Nat}
/-- the least of the first V words' rests, each with what N adds; -1 for none -/
def bt (S : sp_S) (lim d : Nat) (N : Nat → Nat) (V : Nat) (x : Int32) : Prop := (x = -1 ∧ ∀ v e, v < V → ¬ vr S lim d v e) ∨ ∃ v e, v < V ∧ vr S lim d v e ∧ x = nI (e + N v) ∧ ∀ u e', u < V → vr S lim d u e' → e + N v ≤ e' + N u
theorem bt_none {d V : Nat} {N : Nat → Nat} {x : Int32} (h : bt S lim d N V x) (hn : ∀ e, ¬ vr S lim d V e) : bt S lim d N (V + 1) x := by
  rcases h with ⟨h1, h2⟩ | ⟨v, e, h1, h2, h3, h4⟩
  · refine Or.inl ⟨h1, fun v e hv => ?_⟩
    by_cases e9 : v = V
    · subst e9; exact hn e
    · exact h2 v e (by omega)
  · refine Or.inr ⟨v, e, by omega, h2, h3, fun u e' hu hr => ?_⟩
    by_cases e9 : u = V
    · subst e9; exact absurd hr (hn e')
    · exact h4 u e' (by omega) hr
theorem bt_first {d V c : Nat} {N : Nat → Nat} (h : ∀ v e, v < V → ¬ vr S lim d v e) (hc : vr S lim d V c) : bt S lim d N (V + 1) (nI (c + N V)) := by
  refine Or.inr ⟨V, c, by omega, hc, rfl, fun u e' hu hr => ?_⟩
  by_cases e9 : u = V
  · subst e9; rw [vr_f hr hc]; exact Nat.le_refl _
  · exact absurd hr (h u e' (by omega))
theorem bt_less {d V c v e : Nat} {N : Nat → Nat} (h4 : ∀ u e', u < V → vr S lim d u e' → e + N v ≤ e' + N u) (hc : vr S lim d V c) (hl : c + N V < e + N v) : bt S lim d N (V + 1) (nI (c + N V)) := by
  refine Or.inr ⟨V, c, by omega, hc, rfl, fun u e' hu hr => ?_⟩
  by_cases e9 : u = V
  · subst e9; rw [vr_f hr hc]; exact Nat.le_refl _
  · have := h4 u e' (by omega) hr; omega
theorem bt_keep {d V c v e : Nat} {N : Nat → Nat} (h1 : v < V) (h2 : vr S lim d v e) (h4 : ∀ u e', u < V → vr S lim d u e' → e + N v ≤ e' + N u) (hc : vr S lim d V c) (hl : ¬ c + N V < e + N v) : bt S lim d N (V + 1) (nI (e + N v)) := by
  refine Or.inr ⟨v, e, by omega, h2, rfl, fun u e' hu hr => ?_⟩
  by_cases e9 : u = V
  · subst e9; rw [vr_f hr hc]; omega
  · exact h4 u e' (by omega) hr
/-- the first in ORDER of the first V words with P -/
def fo (S : sp_S) (P : Nat → Prop) (V w : Nat) : Prop := w < V ∧ P w ∧ ∀ u, u < V → P u → u = w ∨ wa S w u
theorem fo_no {P : Nat → Prop} {V w : Nat} (h : fo S P V w) (hn : ¬ P V) : fo S P (V + 1) w := by
  obtain ⟨h1, h2, h3⟩ := h
  refine ⟨by omega, h2, fun u hu hp => ?_⟩
  by_cases e : u = V
  · subst e; exact absurd hp hn
  · exact h3 u (by omega) hp
theorem fo_keep {P : Nat → Prop} {V w : Nat} (hk : ok S) (h : fo S P V w) (hV : V < wn S) (hn : ¬ wa S V w) : fo S P (V + 1) w := by
  obtain ⟨h1, h2, h3⟩ := h
  refine ⟨by omega, h2, fun u hu hp => ?_⟩
  by_cases e : u = V
  · subst e
    rcases ah_tri (wl S w) (wt S w) (wl S u) (wt S u) with e | e | e
    · exact Or.inr e
    · have := hk.2.2.2.2.1 w u (by omega) hV e; omega
    · exact absurd e hn
  · exact h3 u (by omega) hp
theorem fo_take {P : Nat → Prop} {V w : Nat} (h : fo S P V w) (hp : P V) (hn : wa S V w) : fo S P (V + 1) V := by
  obtain ⟨h1, h2, h3⟩ := h
  refine ⟨by omega, hp, fun u hu hp => ?_⟩
  by_cases e : u = V
  · exact Or.inl e
  · rcases h3 u (by omega) hp with z | z
    · rw [z]; exact Or.inr hn
    · exact Or.inr (ah_trans hn z)
theorem fo_first {P : Nat → Prop} {V : Nat} (h : ∀ u, u < V → ¬ P u) (hp : P V) : fo S P (V + 1) V := by
  refine ⟨by omega, hp, fun u hu hp => ?_⟩
  by_cases e : u = V
  · exact Or.inl e
  · exact absurd hp (h u (by omega))
theorem fo_ex (hk : ok S) {P : Nat → Prop} : ∀ V, V ≤ wn S → (∀ u, u < V → ¬ P u) ∨ ∃ w, fo S P V w
  | 0, _ => Or.inl fun u hu => by omega
  | V + 1, hV => by
    by_cases hp : P V
    · rcases fo_ex hk V (by omega) with h | ⟨w, h⟩
      · exact Or.inr ⟨V, fo_first h hp⟩
      · by_cases hn : wa S V w
        · exact Or.inr ⟨V, fo_take h hp hn⟩
        · exact Or.inr ⟨w, fo_keep hk h (by omega) hn⟩
    · rcases fo_ex hk V (by omega) with h | ⟨w, h⟩
      · refine Or.inl fun u hu => ?_
        by_cases e : u = V
        · subst e; exact hp
        · exact h u (by omega)
      · exact Or.inr ⟨w, fo_no h hp⟩
/-- the rest of a token and a word, in the numbers -/
def rs (m : mm_M) (S : sp_S) (lim t w : Nat) : Prop := (∃ c, vr S lim (kn S - 1 - t) w c ∧ m 243 (60 * t + w) = nI c) ∨ ((∀ c, ¬ vr S lim (kn S - 1 - t) w c) ∧ m 243 (60 * t + w) = -1)
def dn2 (m : mm_M) (S : sp_S) (lim t w : Nat) : Prop := m 242 (60 * t + w) = nI (dk S t w) ∧ rs m S lim t w
theorem dn2.of {m m' : mm_M} {t w : Nat} (h : dn2 m S lim t w) (h1 : m' 242 (60 * t + w) = m 242 (60 * t + w)) (h2 : m' 243 (60 * t + w) = m 243 (60 * t + w)) : dn2 m' S lim t w := by
  unfold dn2 rs
  rw [h1, h2]
  exact h
/-- what a step to a word costs beside its rest -/
def bp (S : sp_S) (y : Nat → Nat) (t v : Nat) : Nat := if t = 0 then 0 else np S (y (t - 1)) v
def gy (S : sp_S) (lim : Nat) (y : Nat → Nat) (t v e : Nat) : Prop := ∃ c, vr S lim (kn S - 1 - t) v c ∧ e = c + bp S y t v
/-- the step: what is due for the next token -/
theorem gy_next {y : Nat → Nat} {t w c : Nat} (ht : t + 1 < kn S) (hv : vr S lim (kn S - 1 - t) w c) (hy : y t = w) : dk S t w ≤ c ∧ (∃ v, gy S lim y (t + 1) v (c - dk S t w)) ∧ ∀ v e, gy S lim y (t + 1) v e → c - dk S t w ≤ e := by
  rw [show kn S - 1 - t = (kn S - 1 - (t + 1)) + 1 by omega] at hv
  obtain ⟨h1, h2, v, e, h3, h4, h5⟩ := hv
  rw [show kn S - 1 - (kn S - 1 - (t + 1) + 1) = t by omega] at h2 h4
  have hb : ∀ u, bp S y (t + 1) u = np S w u := fun u => by unfold bp; rw [if_neg (by omega), Nat.add_sub_cancel, hy]
  refine ⟨by omega, ⟨v, e, h3, by rw [hb]; omega⟩, fun u e' ⟨c', h6, h7⟩ => ?_⟩
  rw [hb] at h7
  have := h5 u c' h6
  omega
theorem dk_vr {t w c : Nat} (ht : t < kn S) (hv : vr S lim (kn S - 1 - t) w c) : dk S t w ≤ c := by
  by_cases e : t + 1 < kn S
  · exact (gy_next (y := fun _ => w) e hv rfl).1
  · rw [show kn S - 1 - t = 0 by omega] at hv
    obtain ⟨h1, h2, h3⟩ := hv
    rw [h3, show kn S - 1 = t by omega]
    exact Nat.le_refl _
/-- from a rest that is due to CHOSEN -/
theorem gy_fst {y : Nat → Nat} {t w e : Nat} (hf : fo S (fun u => gy S lim y t u e) (wn S) w) (hm : ∀ v e', gy S lim y t v e' → e ≤ e') : fstW S (gy S lim y t) w e := by
  obtain ⟨h1, h2, h3⟩ := hf
  refine ⟨h1, h2, fun z e' hz => ⟨hm z e' hz, fun he => h3 z (vr_w hz.choose_spec.1) (by rw [← he]; exact hz)⟩⟩
end MCH
section REN
variable {l : Launch} {D : va_G} {kA : FieldType → ClassId} {B sz : Nat} {o : Int64}
def P_mch (m : mm_M) (S : sp_S) (x k : Int32) (v : Option Value) (m' : mm_M) : Prop := (∃ y, v = some (.int y) ∧ R_ch S x k y) ∧ ms m' S ∧ fw m m'
def I_due (S : sp_S) (lim : Nat) (y : Nat → Nat) (c0 t e : Nat) : Prop := (t < kn S → (∃ v, gy S lim y t v e) ∧ ∀ v e', gy S lim y t v e' → e ≤ e') ∧ (t = 0 → e = c0) ∧ (0 < t → y (t - 1) < wn S ∧ chn S lim y c0 (t - 1))
def I_bst (S : sp_S) (P : Nat → Prop) (V : Nat) (x : Int32) : Prop := (x = -1 ∧ ∀ u, u < V → ¬ P u) ∨ ∃ w, fo S P V w ∧ x = nI w
set_option maxRecDepth 100000 in
set_option maxHeartbeats 4000000 in
/-- the words are chosen, from the tables -/
theorem r_chosenC (m : mm_M) {S : sp_S} {lim z c0 : Nat} (hk : ok S) (hl : lim ≤ 50) (hz : z < kn S) (m0 : mm_M) (hm : ms m S) (f0 : fw m0 m) (H : ∀ t w, t < kn S → w < wn S → dn2 m S lim t w) : ∀ (d t e : Nat) (y : Nat → Nat) (x3 : Int32) (x6 x7 x8 : Option Value), z + 1 - t = d → t ≤ z + 1 → (0 < t → x3 = nI (y (t - 1))) → I_due S lim y c0 t e → e ≤ 1000 → mm_G l D kA B sz o 2 50 mX10_chosen (P_mch m0 S (nI lim) (nI z)) 386 [some (.ref (B + 226)), some (.int (nI lim)), some (.int (nI z)), some (.int x3), some (.int (nI e)), some (.int (nI t)), x6, x7, x8] [] m := by
  have n60 := hk.2.2.1
  have k6 := hk.2.2.2.2.2.2.2.2.2.1
  have hin : inr (nI lim) 0 50 := ⟨nI_pos' (by omega), (nI_leI (b := 50) (by omega) (by omega)).mpr hl⟩
  have cl : (nI lim).toNatClampNeg = lim := nI_clamp (by omega)
  intro d
  induction d with
  | zero =>
    intro t e y x3 x6 x7 x8 hd ht h3 h4 h5
    have e9 : t = z + 1 := by omega
    subst e9
    have h3' := h3 (by omega)
    rw [Nat.add_sub_cancel] at h3'
    subst h3'
    have h6 := (h4.2.2 (by omega)).2
    rw [Nat.add_sub_cancel] at h6
    refine e_iload dX10_chosen_386 rfl ?_
    refine e_iload_n dX10_chosen_388 rfl rfl ?_
    refine n_icmp_gt 532 dX10_chosen_389 (by decide) (by omega) (by omega) (fun g1 => ?_) (fun g1 => ?_)
    · refine e_iload_n dX10_chosen_532 rfl rfl ?_
      exact m_iret dX10_chosen_533 rfl (Nat.le_refl _) (Nat.le_refl _) (⟨⟨_, rfl, Or.inr (Or.inr (Or.inr (Or.inr ⟨hin, z, hz, rfl, y, c0, by rw [cl]; exact h6, rfl⟩)))⟩, hm, f0⟩)
    · exact absurd g1 (by omega)
  | succ d ih =>
    intro t e y x3 x6 x7 x8 hd ht h3 h4 h5
    have ht2 : t < kn S := by omega
    obtain ⟨g2, g3⟩ := h4.1 ht2
    have y60 : 0 < t → y (t - 1) < 60 := fun q => by have := (h4.2.2 q).1; omega
    refine e_iload dX10_chosen_386 rfl ?_
    refine e_iload_n dX10_chosen_388 rfl rfl ?_
    refine n_icmp_gt 532 dX10_chosen_389 (by decide) (by omega) (by omega) (fun g1 => ?_) (fun g1 => ?_)
    · exact absurd g1 (by omega)
    · refine e_iconst (v := -1) dX10_chosen_392 (by decide) ?_
      refine e_istore dX10_chosen_393 (by decide) rfl ?_
      refine e_iconst (v := nI 0) dX10_chosen_395 (by decide) ?_
      refine e_istore dX10_chosen_396 (by decide) rfl ?_
      -- the words
      have wl : ∀ (f w : Nat) (x6 : Int32) (x8 : Option Value), wn S - w = f → w ≤ wn S → I_bst S (fun u => gy S lim y t u e) w x6 → mm_G l D kA B sz o 2 50 mX10_chosen (P_mch m0 S (nI lim) (nI z)) 398 [some (.ref (B + 226)), some (.int (nI lim)), some (.int (nI z)), some (.int x3), some (.int (nI e)), some (.int (nI t)), some (.int x6), some (.int (nI w)), x8] [] m := by
        intro f
        induction f with
        | zero =>
          intro w x6 x8 hf hw hb
          have e9 : w = wn S := by omega
          subst e9
          rcases hb with ⟨-, hb⟩ | ⟨q, hb, rfl⟩
          · obtain ⟨v, hv⟩ := g2
            exact absurd hv (hb v (vr_w hv.choose_spec.1))
          · have hq := hb.1
            have hfst := gy_fst hb g3
            obtain ⟨c, hc1, hc2⟩ := hb.2.1
            have hdk := dk_vr ht2 hc1
            have hdn := (H t q ht2 hq).1
            have vle := vr_le hk hl hc1
            refine e_iload dX10_chosen_398 rfl ?_
            refine e_aload_n dX10_chosen_400 rfl rfl ?_
            refine m_get 10 3 lf_X10_66 dX10_chosen_401 (ly_226 B _ _) rfl ?_
            refine e_top (w := nI (wn S)) (hm.xwn) ?_
            refine n_icmp_ge 488 dX10_chosen_404 (by decide) (by omega) (by omega) (fun g5 => ?_) (fun g5 => ?_)
            · refine e_iload dX10_chosen_488 rfl ?_
              refine e_iload dX10_chosen_490 rfl ?_
              -- behind what is paid
              have at506 : mm_G l D kA B sz o 2 50 mX10_chosen (P_mch m0 S (nI lim) (nI z)) 506 [some (.ref (B + 226)), some (.int (nI lim)), some (.int (nI z)), some (.int x3), some (.int (nI e)), some (.int (nI t)), some (.int (nI q)), some (.int (nI (wn S))), x8] [.int (nI (bp S y t q)), .int (nI e)] m := by
                refine e_aload_n dX10_chosen_506 rfl rfl ?_
                refine m_get 10 23 lf_X10_56 dX10_chosen_507 (ly_226 B _ _) rfl ?_
                refine e_bipush (v := nI 60) dX10_chosen_510 (by decide) ?_
                refine e_iload dX10_chosen_512 rfl ?_
                refine e_imul dX10_chosen_514 ?_
                refine e_top (w := nI (60 * t)) (pk_mul _ _) ?_
                refine e_iload dX10_chosen_515 rfl ?_
                refine e_iadd dX10_chosen_517 ?_
                refine e_top (w := nI ((60 * t) + q)) (nI_add _ _) ?_
                refine m_iald ((60 * t) + q) dX10_chosen_518 (ly_242 B _ _) (rfl) (by omega) (by decide) ?_
                refine e_top (w := nI (dk S t q)) (hdn) ?_
                refine e_iadd dX10_chosen_519 ?_
                refine e_top (w := nI ((bp S y t q) + (dk S t q))) (nI_add _ _) ?_
                refine e_isub dX10_chosen_520 ?_
                refine e_top (w := nI (e - ((bp S y t q) + (dk S t q)))) (pk_sub (by omega)) ?_
                refine e_istore dX10_chosen_521 (by decide) rfl ?_
                refine e_iload dX10_chosen_523 rfl ?_
                refine e_istore_n dX10_chosen_525 rfl (by decide) rfl ?_
                refine e_iinc (v := nI (t + 1)) dX10_chosen_526 rfl (nI_add _ _) (by decide) rfl ?_
                refine e_goto 386 dX10_chosen_529 (by decide) ?_
                have e2 : e - (bp S y t q + dk S t q) = c - dk S t q := by omega
                rw [e2]
                refine ih (t + 1) _ (va_up y t q) _ _ _ _ (by omega) (by omega) (fun _ => by rw [Nat.add_sub_cancel, va_up_self]) ⟨fun h9 => ?_, fun h9 => absurd h9 (by omega), fun _ => ⟨by rw [Nat.add_sub_cancel, va_up_self]; exact hq, ?_⟩⟩ (by omega)
                · have := gy_next (y := va_up y t q) h9 hc1 (va_up_self _ _ _)
                  exact this.2
                · rw [Nat.add_sub_cancel]
                  rcases Nat.eq_zero_or_pos t with z0 | z0
                  · subst z0
                    refine ⟨?_, fun t' ht' => by omega⟩
                    rw [va_up_self]
                    have e0 := h4.2.1 rfl
                    subst e0
                    obtain ⟨u1, u2, u3⟩ := hfst
                    have gv : ∀ v e', gy S lim y 0 v e' ↔ vr S lim (kn S - 1) v e' := fun v e' => by
                      unfold gy bp
                      rw [Nat.sub_zero, if_pos rfl]
                      exact ⟨fun ⟨c, a1, a2⟩ => by rw [a2]; exact a1, fun h => ⟨e', h, rfl⟩⟩
                    exact ⟨u1, (gv _ _).mp u2, fun z' e' hz' => u3 z' e' ((gv _ _).mpr hz')⟩
                  · obtain ⟨a1, a2, a3⟩ := h4.2.2 z0
                    refine ⟨by rw [va_up_ne _ _ (by omega)]; exact a2, fun t' ht' => ?_⟩
                    by_cases e8 : t' = t - 1
                    · subst e8
                      refine ⟨e, ?_⟩
                      rw [show t - 1 + 1 = t by omega, va_up_self, va_up_ne _ _ (by omega)]
                      obtain ⟨u1, u2, u3⟩ := hfst
                      have gv : ∀ v e', gy S lim y t v e' ↔ gn S lim (kn S - 1 - t) (y (t - 1)) v e' := fun v e' => by
                        unfold gy bp gn
                        rw [if_neg (by omega)]
                      exact ⟨u1, (gv _ _).mp u2, fun z' e' hz' => u3 z' e' ((gv _ _).mpr hz')⟩
                    · rw [va_up_ne _ _ (by omega), va_up_ne _ _ (by omega)]
                      exact a3 t' (by omega)
              refine n_if_ne 499 dX10_chosen_492 (by decide) (by omega) (fun g6 => ?_) (fun g6 => ?_)
              · have h3' := h3 (by omega)
                subst h3'
                refine e_aload_n dX10_chosen_499 rfl rfl ?_
                refine e_iload_n dX10_chosen_500 rfl rfl ?_
                refine e_iload dX10_chosen_501 rfl ?_
                refine m_callV (As := [_, _]) lc_X10_139 dX10_chosen_503 (ly_226 B _ _) rfl rfl (by simp [Value.category]) (Nat.le_of_ble_eq_true rfl) (Nat.le_of_ble_eq_true rfl) ⟨Nat.le_of_ble_eq_true rfl, Nat.le_of_ble_eq_true rfl⟩ ⟨Nat.le_of_ble_eq_true rfl, Nat.le_of_ble_eq_true rfl⟩ (r_nextTo m hm (a := y (t - 1)) (b := q) (y60 (by omega)) (by omega)) (fun v9 m9 hp9 => ?_)
                obtain ⟨rfl, rfl⟩ := hp9
                have e8 : np S (y (t - 1)) q = bp S y t q := by unfold bp; rw [if_neg g6]
                rw [e8]
                exact at506
              · refine e_iconst (v := nI 0) dX10_chosen_495 (by decide) ?_
                refine e_goto 506 dX10_chosen_496 (by decide) ?_
                have e8 : bp S y t q = 0 := by unfold bp; rw [if_pos g6]
                rw [e8] at at506
                exact at506
            · exact absurd g5 (by omega)
        | succ f ih2 =>
          intro w x6 x8 hf hw hb
          have hww : w < wn S := by omega
          have hrs := (H t w ht2 hww).2
          refine e_iload dX10_chosen_398 rfl ?_
          refine e_aload_n dX10_chosen_400 rfl rfl ?_
          refine m_get 10 3 lf_X10_66 dX10_chosen_401 (ly_226 B _ _) rfl ?_
          refine e_top (w := nI (wn S)) (hm.xwn) ?_
          refine n_icmp_ge 488 dX10_chosen_404 (by decide) (by omega) (by omega) (fun g5 => ?_) (fun g5 => ?_)
          · exact absurd g5 (by omega)
          · have at482 : ∀ (x6 : Int32) (x8 : Option Value), I_bst S (fun u => gy S lim y t u e) (w + 1) x6 → mm_G l D kA B sz o 2 50 mX10_chosen (P_mch m0 S (nI lim) (nI z)) 482 [some (.ref (B + 226)), some (.int (nI lim)), some (.int (nI z)), some (.int x3), some (.int (nI e)), some (.int (nI t)), some (.int x6), some (.int (nI w)), x8] [] m := by
              intro x6 x8 hb
              refine e_iinc (v := nI (w + 1)) dX10_chosen_482 rfl (nI_add _ _) (by decide) rfl ?_
              refine e_goto 398 dX10_chosen_485 (by decide) ?_
              exact ih2 (w + 1) _ _ (by omega) (by omega) hb
            have at423 : mm_G l D kA B sz o 2 50 mX10_chosen (P_mch m0 S (nI lim) (nI z)) 423 [some (.ref (B + 226)), some (.int (nI lim)), some (.int (nI z)), some (.int x3), some (.int (nI e)), some (.int (nI t)), some (.int x6), some (.int (nI w)), x8] [.int (nI (bp S y t w))] m := by
              have bb : bp S y t w ≤ 50 := by
                unfold bp
                split
                · omega
                · exact np_le hk _ _
              refine e_istore dX10_chosen_423 (by decide) rfl ?_
              refine e_aload_n dX10_chosen_425 rfl rfl ?_
              refine m_get 10 24 lf_X10_59 dX10_chosen_426 (ly_226 B _ _) rfl ?_
              refine e_bipush (v := nI 60) dX10_chosen_429 (by decide) ?_
              refine e_iload dX10_chosen_431 rfl ?_
              refine e_imul dX10_chosen_433 ?_
              refine e_top (w := nI (60 * t)) (pk_mul _ _) ?_
              refine e_iload dX10_chosen_434 rfl ?_
              refine e_iadd dX10_chosen_436 ?_
              refine e_top (w := nI ((60 * t) + w)) (nI_add _ _) ?_
              refine m_iald ((60 * t) + w) dX10_chosen_437 (ly_243 B _ _) (rfl) (by omega) (by decide) ?_
              rcases hrs with ⟨c, r1, r2⟩ | ⟨r1, r2⟩
              · have vle := vr_le hk hl r1
                rw [r2]
                refine n_if_lt 482 dX10_chosen_438 (by decide) (by omega) (fun g6 => ?_) (fun g6 => ?_)
                · exact absurd g6 (by omega)
                · refine e_aload_n dX10_chosen_441 rfl rfl ?_
                  refine m_get 10 24 lf_X10_59 dX10_chosen_442 (ly_226 B _ _) rfl ?_
                  refine e_bipush (v := nI 60) dX10_chosen_445 (by decide) ?_
                  refine e_iload dX10_chosen_447 rfl ?_
                  refine e_imul dX10_chosen_449 ?_
                  refine e_top (w := nI (60 * t)) (pk_mul _ _) ?_
                  refine e_iload dX10_chosen_450 rfl ?_
                  refine e_iadd dX10_chosen_452 ?_
                  refine e_top (w := nI ((60 * t) + w)) (nI_add _ _) ?_
                  refine m_iald ((60 * t) + w) dX10_chosen_453 (ly_243 B _ _) (rfl) (by omega) (by decide) ?_
                  refine e_top (w := nI c) (r2) ?_
                  refine e_iload dX10_chosen_454 rfl ?_
                  refine e_iadd dX10_chosen_456 ?_
                  refine e_top (w := nI (c + (bp S y t w))) (nI_add _ _) ?_
                  refine e_iload dX10_chosen_457 rfl ?_
                  refine n_icmp_ne 482 dX10_chosen_459 (by decide) (by omega) (by omega) (fun g7 => ?_) (fun g7 => ?_)
                  · refine at482 _ _ ?_
                    have no : ¬ gy S lim y t w e := fun ⟨c', q1, q2⟩ => g7 (by rw [q2, vr_f q1 r1])
                    rcases hb with ⟨rfl, hb⟩ | ⟨q, hb, rfl⟩
                    · refine Or.inl ⟨rfl, fun u hu => ?_⟩
                      by_cases e9 : u = w
                      · subst e9; exact no
                      · exact hb u (by omega)
                    · exact Or.inr ⟨q, fo_no hb no, rfl⟩
                  · have yes : gy S lim y t w e := ⟨c, r1, g7.symm⟩
                    rcases hb with ⟨rfl, hb⟩ | ⟨q, hb, rfl⟩
                    · refine e_iload dX10_chosen_462 rfl ?_
                      refine e_if_lt 478 dX10_chosen_464 (by decide) (fun g8 => ?_) (fun g8 => ?_)
                      · refine e_iload dX10_chosen_478 rfl ?_
                        refine e_istore dX10_chosen_480 (by decide) rfl ?_
                        exact at482 _ _ (Or.inr ⟨w, fo_first hb yes, rfl⟩)
                      · exact absurd (by decide) g8
                    · have hq := hb.1
                      refine e_iload dX10_chosen_462 rfl ?_
                      refine n_if_lt 478 dX10_chosen_464 (by decide) (by omega) (fun g8 => ?_) (fun g8 => ?_)
                      · exact absurd g8 (by omega)
                      · refine e_aload_n dX10_chosen_467 rfl rfl ?_
                        refine e_iload dX10_chosen_468 rfl ?_
                        refine e_iload dX10_chosen_470 rfl ?_
                        refine m_callV (As := [_, _]) lc_X10_80 dX10_chosen_472 (ly_226 B _ _) rfl rfl (by simp [Value.category]) (Nat.le_of_ble_eq_true rfl) (Nat.le_of_ble_eq_true rfl) ⟨Nat.le_of_ble_eq_true rfl, Nat.le_of_ble_eq_true rfl⟩ ⟨Nat.le_of_ble_eq_true rfl, Nat.le_of_ble_eq_true rfl⟩ (r_isAhead m hk hm (a := w) (b := q) hww (by omega)) (fun v9 m9 hp9 => ?_)
                        obtain ⟨rfl, ⟨rfl, h9⟩ | ⟨rfl, h9⟩⟩ := hp9
                        · refine e_if_eq 482 dX10_chosen_475 (by decide) (fun g9 => ?_) (fun g9 => ?_)
                          · exact absurd g9 (by decide)
                          · refine e_iload dX10_chosen_478 rfl ?_
                            refine e_istore dX10_chosen_480 (by decide) rfl ?_
                            exact at482 _ _ (Or.inr ⟨w, fo_take hb yes h9, rfl⟩)
                        · refine e_if_eq 482 dX10_chosen_475 (by decide) (fun g9 => ?_) (fun g9 => ?_)
                          · exact at482 _ _ (Or.inr ⟨q, fo_keep hk hb hww h9, rfl⟩)
                          · exact absurd rfl g9
              · rw [r2]
                refine e_if_lt 482 dX10_chosen_438 (by decide) (fun g6 => ?_) (fun g6 => ?_)
                · refine at482 _ _ ?_
                  have no : ¬ gy S lim y t w e := fun ⟨c', q1, q2⟩ => r1 c' q1
                  rcases hb with ⟨rfl, hb⟩ | ⟨q, hb, rfl⟩
                  · refine Or.inl ⟨rfl, fun u hu => ?_⟩
                    by_cases e9 : u = w
                    · subst e9; exact no
                    · exact hb u (by omega)
                  · exact Or.inr ⟨q, fo_no hb no, rfl⟩
                · exact absurd (by decide) g6
            refine e_iload dX10_chosen_407 rfl ?_
            refine n_if_ne 416 dX10_chosen_409 (by decide) (by omega) (fun g6 => ?_) (fun g6 => ?_)
            · have h3' := h3 (by omega)
              subst h3'
              refine e_aload_n dX10_chosen_416 rfl rfl ?_
              refine e_iload_n dX10_chosen_417 rfl rfl ?_
              refine e_iload dX10_chosen_418 rfl ?_
              refine m_callV (As := [_, _]) lc_X10_139 dX10_chosen_420 (ly_226 B _ _) rfl rfl (by simp [Value.category]) (Nat.le_of_ble_eq_true rfl) (Nat.le_of_ble_eq_true rfl) ⟨Nat.le_of_ble_eq_true rfl, Nat.le_of_ble_eq_true rfl⟩ ⟨Nat.le_of_ble_eq_true rfl, Nat.le_of_ble_eq_true rfl⟩ (r_nextTo m hm (a := y (t - 1)) (b := w) (y60 (by omega)) (by omega)) (fun v9 m9 hp9 => ?_)
              obtain ⟨rfl, rfl⟩ := hp9
              have e8 : np S (y (t - 1)) w = bp S y t w := by unfold bp; rw [if_neg g6]
              rw [e8]
              exact at423
            · refine e_iconst (v := nI 0) dX10_chosen_412 (by decide) ?_
              refine e_goto 423 dX10_chosen_413 (by decide) ?_
              have e8 : bp S y t w = 0 := by unfold bp; rw [if_pos g6]
              rw [e8] at at423
              exact at423
      exact wl (wn S) 0 _ _ (by omega) (by omega) (Or.inl ⟨rfl, fun u hu => by omega⟩)
end REN
