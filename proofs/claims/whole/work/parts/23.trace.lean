/-- THE EDITS, from the end: kind and place -/
def ed (p : Nat → Nat) (w : Nat → Nat → Nat) (r t : Nat → Nat) (i j : Nat) : List (Nat × Nat) :=
  if i = 0 ∧ j = 0 then []
  else if h1 : 0 < i ∧ 0 < j ∧ dd p w r t i j = dd p w r t (i - 1) (j - 1) + bc p w (r (i - 1)) (t (j - 1)) then (if r (i - 1) = t (j - 1) then [] else [(2, i - 1)]) ++ ed p w r t (i - 1) (j - 1)
  else if h2 : (1 < i ∧ 1 < j ∧ r (i - 2) = t (j - 1) ∧ r (i - 1) = t (j - 2)) ∧ dd p w r t i j = dd p w r t (i - 2) (j - 2) + p 3 then (3, i - 2) :: ed p w r t (i - 2) (j - 2)
  else if h3 : 0 < i ∧ dd p w r t i j = dd p w r t (i - 1) j + p 1 then (1, i - 1) :: ed p w r t (i - 1) j
  else if h4 : 0 < j then (0, i) :: ed p w r t i (j - 1) else []
  termination_by i + j
  decreasing_by all_goals omega
theorem ed_0 (p : Nat → Nat) (w : Nat → Nat → Nat) (r t : Nat → Nat) : ed p w r t 0 0 = [] := by rw [ed]; simp
theorem ed_1 {p : Nat → Nat} {w : Nat → Nat → Nat} {r t : Nat → Nat} {i j : Nat} (h1 : 0 < i ∧ 0 < j ∧ dd p w r t i j = dd p w r t (i - 1) (j - 1) + bc p w (r (i - 1)) (t (j - 1))) : ed p w r t i j = (if r (i - 1) = t (j - 1) then [] else [(2, i - 1)]) ++ ed p w r t (i - 1) (j - 1) := by
  rw [ed, if_neg (by omega), dif_pos h1]
theorem ed_2 {p : Nat → Nat} {w : Nat → Nat → Nat} {r t : Nat → Nat} {i j : Nat} (h1 : ¬ (0 < i ∧ 0 < j ∧ dd p w r t i j = dd p w r t (i - 1) (j - 1) + bc p w (r (i - 1)) (t (j - 1)))) (h2 : (1 < i ∧ 1 < j ∧ r (i - 2) = t (j - 1) ∧ r (i - 1) = t (j - 2)) ∧ dd p w r t i j = dd p w r t (i - 2) (j - 2) + p 3) : ed p w r t i j = (3, i - 2) :: ed p w r t (i - 2) (j - 2) := by
  rw [ed, if_neg (by omega), dif_neg h1, dif_pos h2]
theorem ed_3 {p : Nat → Nat} {w : Nat → Nat → Nat} {r t : Nat → Nat} {i j : Nat} (h1 : ¬ (0 < i ∧ 0 < j ∧ dd p w r t i j = dd p w r t (i - 1) (j - 1) + bc p w (r (i - 1)) (t (j - 1)))) (h2 : ¬ ((1 < i ∧ 1 < j ∧ r (i - 2) = t (j - 1) ∧ r (i - 1) = t (j - 2)) ∧ dd p w r t i j = dd p w r t (i - 2) (j - 2) + p 3)) (h3 : 0 < i ∧ dd p w r t i j = dd p w r t (i - 1) j + p 1) : ed p w r t i j = (1, i - 1) :: ed p w r t (i - 1) j := by
  rw [ed, if_neg (by omega), dif_neg h1, dif_neg h2, dif_pos h3]
theorem ed_4 {p : Nat → Nat} {w : Nat → Nat → Nat} {r t : Nat → Nat} {i j : Nat} (h1 : ¬ (0 < i ∧ 0 < j ∧ dd p w r t i j = dd p w r t (i - 1) (j - 1) + bc p w (r (i - 1)) (t (j - 1)))) (h2 : ¬ ((1 < i ∧ 1 < j ∧ r (i - 2) = t (j - 1) ∧ r (i - 1) = t (j - 2)) ∧ dd p w r t i j = dd p w r t (i - 2) (j - 2) + p 3)) (h3 : ¬ (0 < i ∧ dd p w r t i j = dd p w r t (i - 1) j + p 1)) (h4 : 0 < j) : ed p w r t i j = (0, i) :: ed p w r t i (j - 1) := by
  rw [ed, if_neg (by omega), dif_neg h1, dif_neg h2, dif_neg h3, dif_pos h4]
/-- where a letter is left of r alone, it goes -/
theorem dd_col (p : Nat → Nat) (w : Nat → Nat → Nat) (r t : Nat → Nat) {i : Nat} (hi : 0 < i) : dd p w r t i 0 = dd p w r t (i - 1) 0 + p 1 := by
  obtain ⟨q, rfl⟩ : ∃ q, i = q + 1 := ⟨i - 1, by omega⟩
  rw [dd_i0, Nat.add_sub_cancel]
theorem ed_len (p : Nat → Nat) (w : Nat → Nat → Nat) (r t : Nat → Nat) : ∀ (N i j : Nat), i + j ≤ N → (ed p w r t i j).length ≤ i + j := by
  intro N
  induction N with
  | zero =>
    intro i j h
    rw [show i = 0 by omega, show j = 0 by omega, ed_0]
    simp
  | succ N ih =>
    intro i j h
    by_cases h0 : i = 0 ∧ j = 0
    · rw [h0.1, h0.2, ed_0]; simp
    by_cases h1 : 0 < i ∧ 0 < j ∧ dd p w r t i j = dd p w r t (i - 1) (j - 1) + bc p w (r (i - 1)) (t (j - 1))
    · rw [ed_1 h1, List.length_append]
      have := ih (i - 1) (j - 1) (by omega)
      have h9 : (if r (i - 1) = t (j - 1) then ([] : List (Nat × Nat)) else [(2, i - 1)]).length ≤ 1 := by split <;> simp
      omega
    by_cases h2 : (1 < i ∧ 1 < j ∧ r (i - 2) = t (j - 1) ∧ r (i - 1) = t (j - 2)) ∧ dd p w r t i j = dd p w r t (i - 2) (j - 2) + p 3
    · rw [ed_2 h1 h2, List.length_cons]
      have := ih (i - 2) (j - 2) (by omega)
      omega
    by_cases h3 : 0 < i ∧ dd p w r t i j = dd p w r t (i - 1) j + p 1
    · rw [ed_3 h1 h2 h3, List.length_cons]
      have := ih (i - 1) j (by omega)
      omega
    · have h4 : 0 < j := by
        rcases Nat.eq_zero_or_pos j with e | e
        · subst e; exact absurd ⟨by omega, dd_col p w r t (by omega)⟩ h3
        · exact e
      rw [ed_4 h1 h2 h3 h4, List.length_cons]
      have := ih i (j - 1) (by omega)
      omega
section TRC
variable {l : Launch} {D : va_G} {kA : FieldType → ClassId} {B sz : Nat} {o : Int64}
set_option maxRecDepth 100000 in
/-- Table.note -/
theorem c_note (m : mm_M) {e a b : Nat} (he : m 171 6 = nI e) (he2 : e < 24) : mm_F l D kA B sz o 0 0 mX7_note [.ref (B + 171), .int (nI a), .int (nI b)] m (fun v m' => v = none ∧ m' = wr (wr (wr m 190 e (nI a)) 191 e (nI b)) 171 6 (nI (e + 1))) := by
  refine mm_F.of ?_
  refine e_aload_n dX7_note_0 rfl rfl ?_
  refine m_get 7 4 lf_X7_26 dX7_note_1 (ly_171 B _ _) rfl ?_
  refine e_aload_n dX7_note_4 rfl rfl ?_
  refine m_get 7 6 lf_X7_33 dX7_note_5 (ly_171 B _ _) rfl ?_
  refine e_top (w := nI e) (he) ?_
  refine e_iload_n dX7_note_8 rfl rfl ?_
  refine m_iast (e) dX7_note_9 (fun m => ly_190 B m _) (rfl) (by omega) (by decide) ?_
  refine e_aload_n dX7_note_10 rfl rfl ?_
  refine m_get 7 5 lf_X7_30 dX7_note_11 (ly_171 B _ _) rfl ?_
  refine e_aload_n dX7_note_14 rfl rfl ?_
  refine m_get 7 6 lf_X7_33 dX7_note_15 (ly_171 B _ _) rfl ?_
  refine e_top (w := nI e) ((wr_ne _ _ (Or.inl (by omega))).trans he) ?_
  refine e_iload_n dX7_note_18 rfl rfl ?_
  refine m_iast (e) dX7_note_19 (fun m => ly_191 B m _) (rfl) (by omega) (by decide) ?_
  refine e_aload_n dX7_note_20 rfl rfl ?_
  refine e_dup dX7_note_21 rfl ?_
  refine m_get 7 6 lf_X7_33 dX7_note_22 (ly_171 B _ _) rfl ?_
  refine e_top (w := nI e) ((wr_ne _ _ (Or.inl (by omega))).trans ((wr_ne _ _ (Or.inl (by omega))).trans he)) ?_
  refine e_iconst (v := nI 1) dX7_note_25 (by decide) ?_
  refine e_iadd dX7_note_26 ?_
  refine e_top (w := nI (e + 1)) (nI_add _ _) ?_
  refine m_puti 7 6 lp_X7_33 dX7_note_27 (ly_171 B _ _) (Nat.le_of_ble_eq_true rfl) (ly_171 B _ _) rfl ?_
  exact m_vret dX7_note_30 rfl (Nat.le_refl _) (Nat.le_refl _) (⟨rfl, rfl⟩)
/-- the arrays hold the EDITS of a list -/
def ed_at (m : mm_M) (E : List (Nat × Nat)) : Prop := m 171 6 = nI E.length ∧ ∀ q x, E[q]? = some x → m 190 q = nI x.1 ∧ m 191 q = nI x.2
theorem ed_at.note {m : mm_M} {E : List (Nat × Nat)} (h : ed_at m E) (a b : Nat) : ed_at (wr (wr (wr m 190 E.length (nI a)) 191 E.length (nI b)) 171 6 (nI (E.length + 1))) (E ++ [(a, b)]) := by
  refine ⟨by rw [wr_same]; simp, fun q x hq => ?_⟩
  have g1 : wr (wr (wr m 190 E.length (nI a)) 191 E.length (nI b)) 171 6 (nI (E.length + 1)) 190 q = wr m 190 E.length (nI a) 190 q := by rw [wr_off _ _ (show (190 : Nat) ≠ 171 by omega), wr_off _ _ (show (190 : Nat) ≠ 191 by omega)]
  have g2 : wr (wr (wr m 190 E.length (nI a)) 191 E.length (nI b)) 171 6 (nI (E.length + 1)) 191 q = wr (wr m 190 E.length (nI a)) 191 E.length (nI b) 191 q := by rw [wr_off _ _ (show (191 : Nat) ≠ 171 by omega)]
  rw [g1, g2]
  by_cases hl : q < E.length
  · rw [List.getElem?_append_left hl] at hq
    rw [wr_ne _ _ (Or.inr (show q ≠ E.length by omega)), wr_ne _ _ (Or.inr (show q ≠ E.length by omega)), wr_off _ _ (show (191 : Nat) ≠ 190 by omega)]
    exact h.2 q x hq
  · rw [List.getElem?_append_right (by omega)] at hq
    have h9 : q - E.length < 1 := (List.getElem?_eq_some_iff.mp hq).1
    have : q = E.length := by omega
    subst this
    rw [Nat.sub_self] at hq
    cases hq
    exact ⟨wr_same _ _ _ _, wr_same _ _ _ _⟩
def P_tr (m : mm_M) (E : List (Nat × Nat)) (v : Option Value) (m' : mm_M) : Prop := v = none ∧ ed_at m' E ∧ ∀ a, a ≠ 171 → a ≠ 190 → a ≠ 191 → m' a = m a
set_option maxRecDepth 100000 in
set_option maxHeartbeats 4000000 in
/-- Table.trace: THE EDITS -/
theorem c_trace (m : mm_M) {p : Nat → Nat} {w : Nat → Nat → Nat} {n k : Nat} {r t : Nat → Nat} (hp : pr_at m p w) (hr : rw_at m 172 173 n r) (ht : rw_at m 174 175 k t) (H : ∀ a b, a ≤ n → b ≤ k → m (177 + a) b = nI (dd p w r t a b)) : mm_F l D kA B sz o 2 45 mX7_trace [.ref (B + 171)] m (P_tr m (ed p w r t n k)) := by
  have n12 := hr.2.1
  have k12 := ht.2.1
  have p0 := hp.2.1 0 (by omega)
  have p1 := hp.2.1 1 (by omega)
  have p3 := hp.2.1 3 (by omega)
  have len := ed_len p w r t (n + k) n k (by omega)
  have loop : ∀ (N i j s : Nat) (m' : mm_M) (x4 : Option Value) (E : List (Nat × Nat)), i + j ≤ N → i ≤ n → j ≤ k → s + i + j ≤ n + k → E ++ ed p w r t i j = ed p w r t n k → ed_at m' E → (∀ a, a ≠ 171 → a ≠ 190 → a ≠ 191 → m' a = m a) → mm_G l D kA B sz o 2 45 mX7_trace (P_tr m (ed p w r t n k)) 23 [some (.ref (B + 171)), some (.int (nI i)), some (.int (nI j)), some (.int (nI s)), x4] [] m' := by
    intro N
    induction N with
    | zero =>
      intro i j s m' x4 E h0 h1 h2 h3 h4 h5 h6
      have hi : i = 0 := by omega
      have hj : j = 0 := by omega
      subst hi; subst hj
      rw [ed_0, List.append_nil] at h4
      subst h4
      refine e_iload_n dX7_trace_23 rfl rfl ?_
      refine e_bipush (v := nI 24) dX7_trace_24 (by decide) ?_
      refine n_icmp_ge 195 dX7_trace_26 (by decide) (by omega) (by omega) (fun hc => ?_) (fun hc => ?_)
      · exact m_vret dX7_trace_195 rfl (Nat.le_refl _) (Nat.le_refl _) (⟨rfl, h5, h6⟩)
      · refine e_iload_n dX7_trace_29 rfl rfl ?_
        refine e_iload_n dX7_trace_30 rfl rfl ?_
        refine e_iadd dX7_trace_31 ?_
        refine e_top (w := nI (0 + 0)) (nI_add _ _) ?_
        refine n_if_le 195 dX7_trace_32 (by decide) (by omega) (fun h9 => ?_) (fun h9 => ?_)
        · exact m_vret dX7_trace_195 rfl (Nat.le_refl _) (Nat.le_refl _) (⟨rfl, h5, h6⟩)
        · exact absurd (Nat.le_refl _) h9
    | succ N ih =>
      intro i j s m' x4 E h0 h1 h2 h3 h4 h5 h6
      refine e_iload_n dX7_trace_23 rfl rfl ?_
      refine e_bipush (v := nI 24) dX7_trace_24 (by decide) ?_
      refine n_icmp_ge 195 dX7_trace_26 (by decide) (by omega) (by omega) (fun hc => ?_) (fun hc => ?_)
      · have hi : i = 0 := by omega
        have hj : j = 0 := by omega
        subst hi; subst hj
        rw [ed_0, List.append_nil] at h4
        subst h4
        exact m_vret dX7_trace_195 rfl (Nat.le_refl _) (Nat.le_refl _) (⟨rfl, h5, h6⟩)
      · refine e_iload_n dX7_trace_29 rfl rfl ?_
        refine e_iload_n dX7_trace_30 rfl rfl ?_
        refine e_iadd dX7_trace_31 ?_
        refine e_top (w := nI (i + j)) (nI_add _ _) ?_
        refine n_if_le 195 dX7_trace_32 (by decide) (by omega) (fun h9 => ?_) (fun h9 => ?_)
        · have hi : i = 0 := by omega
          have hj : j = 0 := by omega
          subst hi; subst hj
          rw [ed_0, List.append_nil] at h4
          subst h4
          exact m_vret dX7_trace_195 rfl (Nat.le_refl _) (Nat.le_refl _) (⟨rfl, h5, h6⟩)
        · have dij := dd_le (w := w) r t p0 p1 i j
          have hp' : pr_at m' p w := hp.of (fun a _ _ => h6 a (by omega) (by omega) (by omega))
          have hr' : rw_at m' 172 173 n r := hr.of (h6 172 (by omega) (by omega) (by omega)) (h6 173 (by omega) (by omega) (by omega))
          have ht' : rw_at m' 174 175 k t := ht.of (h6 174 (by omega) (by omega) (by omega)) (h6 175 (by omega) (by omega) (by omega))
          have H' : ∀ a b, a ≤ n → b ≤ k → m' (177 + a) b = nI (dd p w r t a b) := fun a b ha hb => by rw [h6 (177 + a) (by omega) (by omega) (by omega)]; exact H a b ha hb
          have hlen : E.length + (ed p w r t i j).length ≤ 24 := by
            have := congrArg List.length h4
            rw [List.length_append] at this
            omega
          refine e_aload_n dX7_trace_35 rfl rfl ?_
          refine m_get 7 3 lf_X7_23 dX7_trace_36 (ly_171 B _ _) rfl ?_
          refine e_iload_n dX7_trace_39 rfl rfl ?_
          refine m_aald (r := 177 + i) (i) dX7_trace_40 (by decide) rfl (ly_176 B _ _) (rfl) (by omega) (by decide) (if_pos (by omega)) ?_
          refine e_iload_n dX7_trace_41 rfl rfl ?_
          refine m_iald (j) dX7_trace_42 (ly_le B _ _ (i := i) (by omega)) (rfl) (by omega) (by decide) ?_
          refine e_top (w := nI (dd p w r t i j)) (H' i j h1 h2) ?_
          refine e_istore dX7_trace_43 (by decide) rfl ?_
          -- what follows a step
          have tail : ∀ (i' j' : Nat) (m2 : mm_M) (E2 : List (Nat × Nat)), i' + j' < i + j → i' ≤ n → j' ≤ k → E2 ++ ed p w r t i' j' = ed p w r t n k → ed_at m2 E2 → (∀ a, a ≠ 171 → a ≠ 190 → a ≠ 191 → m2 a = m a) → mm_G l D kA B sz o 2 45 mX7_trace (P_tr m (ed p w r t n k)) 189 [some (.ref (B + 171)), some (.int (nI i')), some (.int (nI j')), some (.int (nI s)), some (.int (nI (dd p w r t i j)))] [] m2 := by
            intro i' j' m2 E2 g1 g2 g3 g4 g5 g6
            refine e_iinc (v := nI (s + 1)) dX7_trace_189 rfl (nI_add _ _) (by decide) rfl ?_
            refine e_goto 23 dX7_trace_192 (by decide) ?_
            exact ih i' j' (s + 1) m2 _ E2 (by omega) g2 g3 (by omega) g4 g5 g6
          -- a step that is noted
          have noted : ∀ (i' j' a b : Nat), i' + j' < i + j → i' ≤ n → j' ≤ k → ed p w r t i j = (a, b) :: ed p w r t i' j' → mm_G l D kA B sz o 2 45 mX7_trace (P_tr m (ed p w r t n k)) 189 [some (.ref (B + 171)), some (.int (nI i')), some (.int (nI j')), some (.int (nI s)), some (.int (nI (dd p w r t i j)))] [] (wr (wr (wr m' 190 E.length (nI a)) 191 E.length (nI b)) 171 6 (nI (E.length + 1))) := by
            intro i' j' a b g1 g2 g3 g4
            refine tail i' j' _ (E ++ [(a, b)]) g1 g2 g3 (by rw [← h4, g4]; simp) (h5.note a b) (fun c c1 c2 c3 => ?_)
            rw [wr_off _ _ c1, wr_off _ _ c3, wr_off _ _ c2]
            exact h6 c c1 c2 c3
          -- pc 176: one is put in
          have at176 : ∀ (h1 : ¬ (0 < i ∧ 0 < j ∧ dd p w r t i j = dd p w r t (i - 1) (j - 1) + bc p w (r (i - 1)) (t (j - 1)))) (h2 : ¬ ((1 < i ∧ 1 < j ∧ r (i - 2) = t (j - 1) ∧ r (i - 1) = t (j - 2)) ∧ dd p w r t i j = dd p w r t (i - 2) (j - 2) + p 3)) (h3 : ¬ (0 < i ∧ dd p w r t i j = dd p w r t (i - 1) j + p 1)), mm_G l D kA B sz o 2 45 mX7_trace (P_tr m (ed p w r t n k)) 176 [some (.ref (B + 171)), some (.int (nI i)), some (.int (nI j)), some (.int (nI s)), some (.int (nI (dd p w r t i j)))] [] m' := by
            intro c1 c2 c3
            have h4j : 0 < j := by
              rcases Nat.eq_zero_or_pos j with e | e
              · subst e; exact absurd ⟨by omega, dd_col p w r t (by omega)⟩ c3
              · exact e
            have e4 := ed_4 c1 c2 c3 h4j
            rw [e4, List.length_cons] at hlen
            refine e_iload_n dX7_trace_176 rfl rfl ?_
            refine n_if_le 189 dX7_trace_177 (by decide) (by omega) (fun c4 => ?_) (fun c4 => ?_)
            · exact absurd c4 (by omega)
            · refine e_iinc (v := nI (j - 1)) dX7_trace_180 rfl (dec_nI (by decide) (by omega)) (by decide) rfl ?_
              refine e_aload_n dX7_trace_183 rfl rfl ?_
              refine e_iconst (v := nI 0) dX7_trace_184 (by decide) ?_
              refine e_iload_n dX7_trace_185 rfl rfl ?_
              refine m_callV (As := [_, _]) lc_X7_71 dX7_trace_186 (ly_171 B _ _) rfl rfl (by simp [Value.category]) (Nat.le_of_ble_eq_true rfl) (Nat.le_of_ble_eq_true rfl) ⟨Nat.le_of_ble_eq_true rfl, Nat.le_of_ble_eq_true rfl⟩ ⟨Nat.le_of_ble_eq_true rfl, Nat.le_of_ble_eq_true rfl⟩ (c_note m' (e := E.length) (a := 0) (b := i) h5.1 (by omega)) (fun v9 m9 hp9 => ?_)
              obtain ⟨rfl, rfl⟩ := hp9
              exact noted i (j - 1) 0 i (by omega) h1 (by omega) e4
          -- pc 135: one is left out
          have at135 : ∀ (h1 : ¬ (0 < i ∧ 0 < j ∧ dd p w r t i j = dd p w r t (i - 1) (j - 1) + bc p w (r (i - 1)) (t (j - 1)))) (h2 : ¬ ((1 < i ∧ 1 < j ∧ r (i - 2) = t (j - 1) ∧ r (i - 1) = t (j - 2)) ∧ dd p w r t i j = dd p w r t (i - 2) (j - 2) + p 3)), mm_G l D kA B sz o 2 45 mX7_trace (P_tr m (ed p w r t n k)) 135 [some (.ref (B + 171)), some (.int (nI i)), some (.int (nI j)), some (.int (nI s)), some (.int (nI (dd p w r t i j)))] [] m' := by
            intro c1 c2
            refine e_iload_n dX7_trace_135 rfl rfl ?_
            refine n_if_le 176 dX7_trace_136 (by decide) (by omega) (fun c4 => ?_) (fun c4 => ?_)
            · exact at176 c1 c2 (fun q => by omega)
            · have d2 := dd_le (w := w) r t p0 p1 (i - 1) j
              refine e_iload dX7_trace_139 rfl ?_
              refine e_aload_n dX7_trace_141 rfl rfl ?_
              refine m_get 7 3 lf_X7_23 dX7_trace_142 (ly_171 B _ _) rfl ?_
              refine e_iload_n dX7_trace_145 rfl rfl ?_
              refine e_iconst (v := nI 1) dX7_trace_146 (by decide) ?_
              refine e_isub dX7_trace_147 ?_
              refine e_top (w := nI (i - 1)) (pk_sub (by omega)) ?_
              refine m_aald (r := 177 + (i - 1)) (i - 1) dX7_trace_148 (by decide) rfl (ly_176 B _ _) (rfl) (by omega) (by decide) (if_pos (by omega)) ?_
              refine e_iload_n dX7_trace_149 rfl rfl ?_
              refine m_iald (j) dX7_trace_150 (ly_le B _ _ (i := (i - 1)) (by omega)) (rfl) (by omega) (by decide) ?_
              refine e_top (w := nI (dd p w r t (i - 1) j)) (H' (i - 1) j (by omega) h2) ?_
              refine e_aload_n dX7_trace_151 rfl rfl ?_
              refine m_get 7 0 lf_X7_37 dX7_trace_152 (ly_171 B _ _) rfl ?_
              refine m_get 3 0 lf_X7_82 dX7_trace_155 (ly_3 B _ _) rfl ?_
              refine e_iconst (v := nI 1) dX7_trace_158 (by decide) ?_
              refine m_iald (1) dX7_trace_159 (ly_4 B _ _) (rfl) (by omega) (by decide) ?_
              refine e_top (w := nI (p 1)) (hp'.1 1 (by omega)) ?_
              refine e_iadd dX7_trace_160 ?_
              refine e_top (w := nI ((dd p w r t (i - 1) j) + (p 1))) (nI_add _ _) ?_
              refine n_icmp_ne 176 dX7_trace_161 (by decide) (by omega) (by omega) (fun c5 => ?_) (fun c5 => ?_)
              · exact at176 c1 c2 (fun q => c5 q.2)
              · have e3 := ed_3 c1 c2 ⟨by omega, c5⟩
                rw [e3, List.length_cons] at hlen
                refine e_iinc (v := nI (i - 1)) dX7_trace_164 rfl (dec_nI (by decide) (by omega)) (by decide) rfl ?_
                refine e_aload_n dX7_trace_167 rfl rfl ?_
                refine e_iconst (v := nI 1) dX7_trace_168 (by decide) ?_
                refine e_iload_n dX7_trace_169 rfl rfl ?_
                refine m_callV (As := [_, _]) lc_X7_71 dX7_trace_170 (ly_171 B _ _) rfl rfl (by simp [Value.category]) (Nat.le_of_ble_eq_true rfl) (Nat.le_of_ble_eq_true rfl) ⟨Nat.le_of_ble_eq_true rfl, Nat.le_of_ble_eq_true rfl⟩ ⟨Nat.le_of_ble_eq_true rfl, Nat.le_of_ble_eq_true rfl⟩ (c_note m' (e := E.length) (a := 1) (b := i - 1) h5.1 (by omega)) (fun v9 m9 hp9 => ?_)
                obtain ⟨rfl, rfl⟩ := hp9
                refine e_goto 189 dX7_trace_173 (by decide) ?_
                exact noted (i - 1) j 1 (i - 1) (by omega) (by omega) h2 e3
          -- pc 100: two change places
          have at100 : ∀ (h1 : ¬ (0 < i ∧ 0 < j ∧ dd p w r t i j = dd p w r t (i - 1) (j - 1) + bc p w (r (i - 1)) (t (j - 1)))), mm_G l D kA B sz o 2 45 mX7_trace (P_tr m (ed p w r t n k)) 100 [some (.ref (B + 171)), some (.int (nI i)), some (.int (nI j)), some (.int (nI s)), some (.int (nI (dd p w r t i j)))] [] m' := by
            intro c1
            refine e_aload_n dX7_trace_100 rfl rfl ?_
            refine e_iload_n dX7_trace_101 rfl rfl ?_
            refine e_iload_n dX7_trace_102 rfl rfl ?_
            refine m_callV (As := [_, _]) lc_X7_75 dX7_trace_103 (ly_171 B _ _) rfl rfl (by simp [Value.category]) (Nat.le_of_ble_eq_true rfl) (Nat.le_of_ble_eq_true rfl) ⟨Nat.le_of_ble_eq_true rfl, Nat.le_of_ble_eq_true rfl⟩ ⟨Nat.le_of_ble_eq_true rfl, Nat.le_of_ble_eq_true rfl⟩ (c_mayChange2 m' hr' ht' h1 h2) (fun v9 m9 hp9 => ?_)
            obtain ⟨rfl, rfl⟩ := hp9
            by_cases hT : 1 < i ∧ 1 < j ∧ r (i - 2) = t (j - 1) ∧ r (i - 1) = t (j - 2)
            · rw [if_pos hT]
              refine e_if_eq 135 dX7_trace_106 (by decide) (fun hc => ?_) (fun hc => ?_)
              · exact absurd hc (by decide)
              · have d2 := dd_le (w := w) r t p0 p1 (i - 2) (j - 2)
                refine e_iload dX7_trace_109 rfl ?_
                refine e_aload_n dX7_trace_111 rfl rfl ?_
                refine e_iload_n dX7_trace_112 rfl rfl ?_
                refine e_iload_n dX7_trace_113 rfl rfl ?_
                refine m_callV (As := [_, _]) lc_X7_79 dX7_trace_114 (ly_171 B _ _) rfl rfl (by simp [Value.category]) (Nat.le_of_ble_eq_true rfl) (Nat.le_of_ble_eq_true rfl) ⟨Nat.le_of_ble_eq_true rfl, Nat.le_of_ble_eq_true rfl⟩ ⟨Nat.le_of_ble_eq_true rfl, Nat.le_of_ble_eq_true rfl⟩ (c_byChange m9 (i := i) (j := j) (by omega) (by omega) (by omega) (by omega)) (fun v9 m8 hp9 => ?_)
                obtain ⟨rfl, rfl⟩ := hp9
                refine e_top (w := nI (dd p w r t (i - 2) (j - 2) + p 3)) ((by rw [H' (i - 2) (j - 2) (by omega) (by omega), hp'.1 3 (by omega), nI_add])) ?_
                refine n_icmp_ne 135 dX7_trace_117 (by decide) (by omega) (by omega) (fun c5 => ?_) (fun c5 => ?_)
                · exact at135 c1 (fun q => c5 q.2)
                · have e2 := ed_2 c1 ⟨hT, c5⟩
                  rw [e2, List.length_cons] at hlen
                  refine e_iinc (v := nI (i - 2)) dX7_trace_120 rfl (dec_nI (by decide) (by omega)) (by decide) rfl ?_
                  refine e_iinc (v := nI (j - 2)) dX7_trace_123 rfl (dec_nI (by decide) (by omega)) (by decide) rfl ?_
                  refine e_aload_n dX7_trace_126 rfl rfl ?_
                  refine e_iconst (v := nI 3) dX7_trace_127 (by decide) ?_
                  refine e_iload_n dX7_trace_128 rfl rfl ?_
                  refine m_callV (As := [_, _]) lc_X7_71 dX7_trace_129 (ly_171 B _ _) rfl rfl (by simp [Value.category]) (Nat.le_of_ble_eq_true rfl) (Nat.le_of_ble_eq_true rfl) ⟨Nat.le_of_ble_eq_true rfl, Nat.le_of_ble_eq_true rfl⟩ ⟨Nat.le_of_ble_eq_true rfl, Nat.le_of_ble_eq_true rfl⟩ (c_note m8 (e := E.length) (a := 3) (b := i - 2) h5.1 (by omega)) (fun v9 m7 hp9 => ?_)
                  obtain ⟨rfl, rfl⟩ := hp9
                  refine e_goto 189 dX7_trace_132 (by decide) ?_
                  exact noted (i - 2) (j - 2) 3 (i - 2) (by omega) (by omega) (by omega) e2
            · rw [if_neg hT]
              refine e_if_eq 135 dX7_trace_106 (by decide) (fun hc => ?_) (fun hc => ?_)
              · exact at135 c1 (fun q => hT q.1)
              · exact absurd rfl hc
          -- pc 45: the last ones stand for each other
          refine e_iload_n dX7_trace_45 rfl rfl ?_
          refine n_if_le 100 dX7_trace_46 (by decide) (by omega) (fun c4 => ?_) (fun c4 => ?_)
          · exact at100 (fun q => by omega)
          · refine e_iload_n dX7_trace_49 rfl rfl ?_
            refine n_if_le 100 dX7_trace_50 (by decide) (by omega) (fun c5 => ?_) (fun c5 => ?_)
            · exact at100 (fun q => by omega)
            · obtain ⟨x1, x2⟩ := hr'.2.2 (i - 1) (by omega)
              obtain ⟨y1, y2⟩ := ht'.2.2 (j - 1) (by omega)
              have b9 := bc_le hp (r (i - 1)) (t (j - 1))
              have d2 := dd_le (w := w) r t p0 p1 (i - 1) (j - 1)
              refine e_iload dX7_trace_53 rfl ?_
              refine e_aload_n dX7_trace_55 rfl rfl ?_
              refine e_iload_n dX7_trace_56 rfl rfl ?_
              refine e_iload_n dX7_trace_57 rfl rfl ?_
              refine m_callV (As := [_, _]) lc_X7_65 dX7_trace_58 (ly_171 B _ _) rfl rfl (by simp [Value.category]) (Nat.le_of_ble_eq_true rfl) (Nat.le_of_ble_eq_true rfl) ⟨Nat.le_of_ble_eq_true rfl, Nat.le_of_ble_eq_true rfl⟩ ⟨Nat.le_of_ble_eq_true rfl, Nat.le_of_ble_eq_true rfl⟩ (c_byLast m' (i := i) (j := j) (by omega) (by omega) (by omega) (by omega) x2 y2 x1 y1) (fun v9 m9 hp9 => ?_)
              obtain ⟨rfl, rfl⟩ := hp9
              refine e_top (w := nI (dd p w r t (i - 1) (j - 1) + bc p w (r (i - 1)) (t (j - 1)))) ((by rw [bc_val hp' x2 y2, H' (i - 1) (j - 1) (by omega) (by omega), nI_add])) ?_
              refine n_icmp_ne 100 dX7_trace_61 (by decide) (by omega) (by omega) (fun c6 => ?_) (fun c6 => ?_)
              · exact at100 (fun q => c6 q.2.2)
              · have e1 := ed_1 ⟨by omega, by omega, c6⟩
                refine e_iinc (v := nI (i - 1)) dX7_trace_64 rfl (dec_nI (by decide) (by omega)) (by decide) rfl ?_
                refine e_iinc (v := nI (j - 1)) dX7_trace_67 rfl (dec_nI (by decide) (by omega)) (by decide) rfl ?_
                refine e_aload_n dX7_trace_70 rfl rfl ?_
                refine m_get 7 1 lf_X7_12 dX7_trace_71 (ly_171 B _ _) rfl ?_
                refine m_get 5 0 lf_X7_68 dX7_trace_74 (ly_172 B _ _) rfl ?_
                refine e_iload_n dX7_trace_77 rfl rfl ?_
                refine m_iald (i - 1) dX7_trace_78 (ly_173 B _ _) (rfl) (by omega) (by decide) ?_
                refine e_top (w := nI (r (i - 1))) (x1) ?_
                refine e_aload_n dX7_trace_79 rfl rfl ?_
                refine m_get 7 2 lf_X7_18 dX7_trace_80 (ly_171 B _ _) rfl ?_
                refine m_get 5 0 lf_X7_68 dX7_trace_83 (ly_174 B _ _) rfl ?_
                refine e_iload_n dX7_trace_86 rfl rfl ?_
                refine m_iald (j - 1) dX7_trace_87 (ly_175 B _ _) (rfl) (by omega) (by decide) ?_
                refine e_top (w := nI (t (j - 1))) (y1) ?_
                refine n_icmp_eq 189 dX7_trace_88 (by decide) (by omega) (by omega) (fun c7 => ?_) (fun c7 => ?_)
                · rw [if_pos c7, List.nil_append] at e1
                  exact tail (i - 1) (j - 1) m9 E (by omega) (by omega) (by omega) (by rw [← e1]; exact h4) h5 h6
                · rw [if_neg c7, List.singleton_append] at e1
                  rw [e1, List.length_cons] at hlen
                  refine e_aload_n dX7_trace_91 rfl rfl ?_
                  refine e_iconst (v := nI 2) dX7_trace_92 (by decide) ?_
                  refine e_iload_n dX7_trace_93 rfl rfl ?_
                  refine m_callV (As := [_, _]) lc_X7_71 dX7_trace_94 (ly_171 B _ _) rfl rfl (by simp [Value.category]) (Nat.le_of_ble_eq_true rfl) (Nat.le_of_ble_eq_true rfl) ⟨Nat.le_of_ble_eq_true rfl, Nat.le_of_ble_eq_true rfl⟩ ⟨Nat.le_of_ble_eq_true rfl, Nat.le_of_ble_eq_true rfl⟩ (c_note m9 (e := E.length) (a := 2) (b := i - 1) h5.1 (by omega)) (fun v9 m8 hp9 => ?_)
                  obtain ⟨rfl, rfl⟩ := hp9
                  refine e_goto 189 dX7_trace_97 (by decide) ?_
                  exact noted (i - 1) (j - 1) 2 (i - 1) (by omega) (by omega) (by omega) e1
  refine mm_F.of ?_
  refine e_aload_n dX7_trace_0 rfl rfl ?_
  refine e_iconst (v := nI 0) dX7_trace_1 (by decide) ?_
  refine m_puti 7 6 lp_X7_33 dX7_trace_2 (ly_171 B _ _) (Nat.le_of_ble_eq_true rfl) (ly_171 B _ _) rfl ?_
  refine e_aload_n dX7_trace_5 rfl rfl ?_
  refine m_get 7 1 lf_X7_12 dX7_trace_6 (ly_171 B _ _) rfl ?_
  refine m_get 5 1 lf_X7_48 dX7_trace_9 (ly_172 B _ _) rfl ?_
  refine e_top (w := nI n) ((wr_ne _ _ (Or.inl (by omega))).trans hr.1) ?_
  refine e_istore_n dX7_trace_12 rfl (by decide) rfl ?_
  refine e_aload_n dX7_trace_13 rfl rfl ?_
  refine m_get 7 2 lf_X7_18 dX7_trace_14 (ly_171 B _ _) rfl ?_
  refine m_get 5 1 lf_X7_48 dX7_trace_17 (ly_174 B _ _) rfl ?_
  refine e_top (w := nI k) ((wr_ne _ _ (Or.inl (by omega))).trans ht.1) ?_
  refine e_istore_n dX7_trace_20 rfl (by decide) rfl ?_
  refine e_iconst (v := nI 0) dX7_trace_21 (by decide) ?_
  refine e_istore_n dX7_trace_22 rfl (by decide) rfl ?_
  exact loop (n + k) n k 0 _ none [] (by omega) (by omega) (by omega) (by omega) rfl ⟨wr_same _ _ _ _, fun q x hq => by simp at hq⟩ (fun a h1 h2 h3 => wr_off _ _ h1)
end TRC
