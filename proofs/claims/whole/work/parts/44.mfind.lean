section REJ
variable {l : Launch} {D : va_G} {kA : FieldType → ClassId} {B sz : Nat} {o : Int64}
def med (m : mm_M) (E : List (Nat × Nat)) : Prop := m 226 16 = nI E.length ∧ ∀ q x, E[q]? = some x → m 238 q = nI x.1 ∧ m 239 q = nI x.2
theorem med.note {m : mm_M} {E : List (Nat × Nat)} (h : med m E) (a b : Nat) : med (wr (wr (wr m 238 E.length (nI a)) 239 E.length (nI b)) 226 16 (nI (E.length + 1))) (E ++ [(a, b)]) := by
  refine ⟨by rw [wr_same, List.length_append]; rfl, fun q x hq => ?_⟩
  rw [wr_off _ _ (show (238 : Nat) ≠ 226 by omega), wr_off _ _ (show (239 : Nat) ≠ 226 by omega), wr_off _ _ (show (238 : Nat) ≠ 239 by omega)]
  by_cases e : q < E.length
  · rw [List.getElem?_append_left e] at hq
    have h2 := h.2 q x hq
    rw [wr_ne _ _ (Or.inr (by omega)), wr_ne _ _ (Or.inr (by omega)), wr_off _ _ (by omega)]
    exact h2
  · have hq2 : q = E.length := by
      rcases Nat.lt_or_ge q (E.length + 1) with c | c
      · omega
      · rw [List.getElem?_eq_none (by simp; omega)] at hq
        cases hq
    subst hq2
    rw [List.getElem?_append_right (Nat.le_refl _), Nat.sub_self] at hq
    cases hq
    exact ⟨wr_same _ _ _ _, wr_same _ _ _ _⟩
/-- only the notes are others -/
def nf (m m' : mm_M) : Prop := (∀ a, a ≠ 226 → a ≠ 238 → a ≠ 239 → m' a = m a) ∧ ∀ i, i ≠ 16 → m' 226 i = m 226 i
theorem nf.mfS {m m' : mm_M} (h : nf m m') : mf m m' := ⟨fun a ha => h.1 a (by omega) (by omega) (by omega), h.2 0 (by omega), h.2 1 (by omega), h.2 3 (by omega), h.2 9 (by omega)⟩
theorem nf.mrS {m m' : mm_M} {n : Nat} {r : Nat → Nat} (h : nf m m') (hr : mr m n r) : mr m' n r := by
  unfold mr
  rw [h.2 15 (by omega), h.1 237 (by omega) (by omega) (by omega)]
  exact hr
theorem nf.note {m m' : mm_M} (h : nf m m') {e x : Nat} {a b : Int32} : nf m (wr (wr (wr m' 238 e a) 239 e b) 226 16 (nI x)) := by
  refine ⟨fun c c1 c2 c3 => ?_, fun i hi => ?_⟩
  · rw [wr_off _ _ c1, wr_off _ _ c3, wr_off _ _ c2]; exact h.1 c c1 c2 c3
  · rw [wr_ne _ _ (Or.inr hi), wr_off _ _ (by omega), wr_off _ _ (by omega)]; exact h.2 i hi
theorem m2_ne {y : Nat} (hy : y < 2 ^ 31) : nI y ≠ -2 := fun q => by
  have : ¬ nI y < 0 := nI_pos hy
  rw [q] at this
  exact this (by decide)
set_option maxRecDepth 100000 in
theorem r_note (m : mm_M) {e a b : Nat} (he : m 226 16 = nI e) (he2 : e < 24) : mm_F l D kA B sz o 0 0 mX10_note [.ref (B + 226), .int (nI a), .int (nI b)] m (fun v m' => v = none ∧ m' = wr (wr (wr m 238 e (nI a)) 239 e (nI b)) 226 16 (nI (e + 1))) := by
  refine mm_F.of ?_
  refine e_aload_n dX10_note_0 rfl rfl ?_
  refine m_get 10 17 lf_X10_44 dX10_note_1 (ly_226 B _ _) rfl ?_
  refine e_aload_n dX10_note_4 rfl rfl ?_
  refine m_get 10 16 lf_X10_109 dX10_note_5 (ly_226 B _ _) rfl ?_
  refine e_top (w := nI e) (he) ?_
  refine e_iload_n dX10_note_8 rfl rfl ?_
  refine m_iast (e) dX10_note_9 (fun m => ly_238 B m _) (rfl) (by omega) (by decide) ?_
  refine e_aload_n dX10_note_10 rfl rfl ?_
  refine m_get 10 18 lf_X10_47 dX10_note_11 (ly_226 B _ _) rfl ?_
  refine e_aload_n dX10_note_14 rfl rfl ?_
  refine m_get 10 16 lf_X10_109 dX10_note_15 (ly_226 B _ _) rfl ?_
  refine e_top (w := nI e) ((wr_ne _ _ (Or.inl (by omega))).trans he) ?_
  refine e_iload_n dX10_note_18 rfl rfl ?_
  refine m_iast (e) dX10_note_19 (fun m => ly_239 B m _) (rfl) (by omega) (by decide) ?_
  refine e_aload_n dX10_note_20 rfl rfl ?_
  refine e_dup dX10_note_21 rfl ?_
  refine m_get 10 16 lf_X10_109 dX10_note_22 (ly_226 B _ _) rfl ?_
  refine e_top (w := nI e) (((wr_ne _ _ (Or.inl (by omega))).trans (wr_ne _ _ (Or.inl (by omega)))).trans he) ?_
  refine e_iconst (v := nI 1) dX10_note_25 (by decide) ?_
  refine e_iadd dX10_note_26 ?_
  refine e_top (w := nI (e + 1)) (nI_add _ _) ?_
  refine m_puti 10 16 lp_X10_109 dX10_note_27 (ly_226 B _ _) (Nat.le_of_ble_eq_true rfl) (ly_226 B _ _) rfl ?_
  exact m_vret dX10_note_30 rfl (Nat.le_refl _) (Nat.le_refl _) (⟨rfl, rfl⟩)
def P_find (m : mm_M) (E : List (Nat × Nat)) (v : Option Value) (m' : mm_M) : Prop := v = none ∧ med m' E ∧ mf m m'
set_option maxRecDepth 100000 in
set_option maxHeartbeats 4000000 in
theorem r_find (m : mm_M) {S : sp_S} (hk : ok S) (hm : ms m S) {q : Nat} (hq : q < wn S) : mm_F l D kA B sz o 2 50 mX10_find [.ref (B + 226), .int (nI q)] m (P_find m (eds S q)) := by
  have t12 := hk.1
  have n60 := hk.2.2.1
  have w12 := (hk.2.2.2.1 q hq).2.1
  have p0 := hk.2.2.2.2.2.1 0 (by omega)
  have p1 := hk.2.2.2.2.2.1 1 (by omega)
  have p2 := hk.2.2.2.2.2.1 2 (by omega)
  have p3 := hk.2.2.2.2.2.1 3 (by omega)
  have tl9 : ∀ a b, tb S (tl S) q a b ≤ 9 * (a + b) := fun a b => dd_le (w := ww S) (tl S) (wt S q) p0 p1 a b
  have len := ed_len (pp S) (ww S) (tl S) (wt S q) (tn S + wl S q) (tn S) (wl S q) (by omega)
  refine mm_F.of ?_
  refine e_aload_n dX10_find_0 rfl rfl ?_
  refine e_iconst (v := nI 0) dX10_find_1 (by decide) ?_
  refine e_aload_n dX10_find_2 rfl rfl ?_
  refine m_get 10 1 lf_X10_73 dX10_find_3 (ly_226 B _ _) rfl ?_
  refine e_top (w := nI (tn S)) (hm.xtn) ?_
  refine m_callV (As := [_, _]) lc_X10_102 dX10_find_6 (ly_226 B _ _) rfl rfl (by simp [Value.category]) (Nat.le_of_ble_eq_true rfl) (Nat.le_of_ble_eq_true rfl) ⟨Nat.le_of_ble_eq_true rfl, Nat.le_of_ble_eq_true rfl⟩ ⟨Nat.le_of_ble_eq_true rfl, Nat.le_of_ble_eq_true rfl⟩ (r_takeTyped m hk hm (a := 0) (b := tn S) (r := tl S) (by omega) (by omega) (fun i hi => by rw [Nat.zero_add])) (fun v9 m1 hp9 => ?_)
  obtain ⟨rfl, hr1, f1⟩ := hp9
  rw [Nat.sub_zero] at hr1
  have hm1 := f1.msS hm
  refine e_aload_n dX10_find_9 rfl rfl ?_
  refine e_iload_n dX10_find_10 rfl rfl ?_
  refine m_callV (As := [_]) lc_X10_99 dX10_find_11 (ly_226 B _ _) rfl rfl (by simp [Value.category]) (Nat.le_of_ble_eq_true rfl) (Nat.le_of_ble_eq_true rfl) ⟨Nat.le_of_ble_eq_true rfl, Nat.le_of_ble_eq_true rfl⟩ ⟨Nat.le_of_ble_eq_true rfl, Nat.le_of_ble_eq_true rfl⟩ (r_fill m1 hk hm1 hq hr1) (fun v9 m2 hp9 => ?_)
  obtain ⟨rfl, H, f2⟩ := hp9
  have hm2 := hm1.of6 f2
  have hr2 := hr1.of f2
  have fm2 : mf m m2 := f1.tr (mf.of6 f2)
  -- the loop
  have loop : ∀ (N i j : Nat) (m' : mm_M) (x2 x5 x6 x7 : Option Value) (E : List (Nat × Nat)), i + j ≤ N → i ≤ tn S → j ≤ wl S q → E ++ ed (pp S) (ww S) (tl S) (wt S q) i j = eds S q → med m' E → nf m2 m' → mm_G l D kA B sz o 2 50 mX10_find (P_find m (eds S q)) 33 [some (.ref (B + 226)), some (.int (nI q)), x2, some (.int (nI i)), some (.int (nI j)), x5, x6, x7] [] m' := by
    intro N
    induction N with
    | zero =>
      intro i j m' x2 x5 x6 x7 E h0 h1 h2 h4 h5 h6
      have hi : i = 0 := by omega
      have hj : j = 0 := by omega
      subst hi; subst hj
      rw [ed_0, List.append_nil] at h4
      subst h4
      refine e_iload_n dX10_find_33 rfl rfl ?_
      refine n_if_gt 42 dX10_find_34 (by decide) (by omega) (fun g1 => ?_) (fun g1 => ?_)
      · exact absurd g1 (by omega)
      · refine e_iload dX10_find_37 rfl ?_
        refine n_if_le 311 dX10_find_39 (by decide) (by omega) (fun g2 => ?_) (fun g2 => ?_)
        · exact m_vret dX10_find_311 rfl (Nat.le_refl _) (Nat.le_refl _) (⟨rfl, h5, fm2.tr h6.mfS⟩)
        · exact absurd g2 (by omega)
    | succ N ih =>
      intro i j m' x2 x5 x6 x7 E h0 h1 h2 h4 h5 h6
      have hm' := h6.mfS.msS hm2
      have hr' := h6.mrS hr2
      have H' : ∀ a b, a ≤ tn S → b ≤ wl S q → m' 236 (13 * a + b) = nI (tb S (tl S) q a b) := fun a b ha hb => by rw [h6.1 236 (by omega) (by omega) (by omega)]; exact H a b ha hb
      have dij := tl9 i j
      have hlen : E.length + (ed (pp S) (ww S) (tl S) (wt S q) i j).length ≤ 24 := by
        have := congrArg List.length h4
        rw [List.length_append] at this
        unfold eds at this
        omega
      -- a step that is noted
      have noted : ∀ (i' j' a b : Nat) (x5 x6 x7 : Option Value), i' + j' < i + j → i' ≤ tn S → j' ≤ wl S q → ed (pp S) (ww S) (tl S) (wt S q) i j = (a, b) :: ed (pp S) (ww S) (tl S) (wt S q) i' j' → mm_G l D kA B sz o 2 50 mX10_find (P_find m (eds S q)) 33 [some (.ref (B + 226)), some (.int (nI q)), some (.int (nI (tb S (tl S) q i j))), some (.int (nI i')), some (.int (nI j')), x5, x6, x7] [] (wr (wr (wr m' 238 E.length (nI a)) 239 E.length (nI b)) 226 16 (nI (E.length + 1))) := by
        intro i' j' a b x5 x6 x7 g1 g2 g3 g4
        exact ih i' j' _ _ _ _ _ (E ++ [(a, b)]) (by omega) g2 g3 (by rw [← h4, g4]; simp) (h5.note a b) h6.note
      have at299 : ∀ (x5 x6 x7 : Option Value) (hp : 0 < i + j) (h1 : ¬ (0 < i ∧ 0 < j ∧ tb S (tl S) q i j = tb S (tl S) q (i - 1) (j - 1) + bc (pp S) (ww S) (tl S (i - 1)) (wt S q (j - 1)))) (h2 : ¬ ((1 < i ∧ 1 < j ∧ tl S (i - 2) = wt S q (j - 1) ∧ tl S (i - 1) = wt S q (j - 2)) ∧ tb S (tl S) q i j = tb S (tl S) q (i - 2) (j - 2) + pp S 3)) (h3 : ¬ (0 < i ∧ tb S (tl S) q i j = tb S (tl S) q (i - 1) j + pp S 1)), mm_G l D kA B sz o 2 50 mX10_find (P_find m (eds S q)) 299 [some (.ref (B + 226)), some (.int (nI q)), some (.int (nI (tb S (tl S) q i j))), some (.int (nI i)), some (.int (nI j)), x5, x6, x7] [] m' := by
        intro x5 x6 x7 hp c1 c2 c3
        have h4j : 0 < j := by
          rcases Nat.eq_zero_or_pos j with e | e
          · subst e; exact absurd ⟨by omega, dd_col (pp S) (ww S) (tl S) (wt S q) (by omega)⟩ c3
          · exact e
        have e4 := ed_4 c1 c2 c3 h4j
        rw [e4, List.length_cons] at hlen
        refine e_aload_n dX10_find_299 rfl rfl ?_
        refine e_iconst (v := nI 0) dX10_find_300 (by decide) ?_
        refine e_iload_n dX10_find_301 rfl rfl ?_
        refine m_callV (As := [_, _]) lc_X10_112 dX10_find_302 (ly_226 B _ _) rfl rfl (by simp [Value.category]) (Nat.le_of_ble_eq_true rfl) (Nat.le_of_ble_eq_true rfl) ⟨Nat.le_of_ble_eq_true rfl, Nat.le_of_ble_eq_true rfl⟩ ⟨Nat.le_of_ble_eq_true rfl, Nat.le_of_ble_eq_true rfl⟩ (r_note m' (e := E.length) (a := 0) (b := i) h5.1 (by omega)) (fun v9 m9 hp9 => ?_)
        obtain ⟨rfl, rfl⟩ := hp9
        refine e_iinc (v := nI (j - 1)) dX10_find_305 rfl (dec_nI (by decide) (by omega)) (by decide) rfl ?_
        refine e_goto 33 dX10_find_308 (by decide) ?_
        exact noted i (j - 1) 0 i _ _ _ (by omega) h1 (by omega) e4
      have at256 : ∀ (x5 x6 x7 : Option Value) (hp : 0 < i + j) (h1 : ¬ (0 < i ∧ 0 < j ∧ tb S (tl S) q i j = tb S (tl S) q (i - 1) (j - 1) + bc (pp S) (ww S) (tl S (i - 1)) (wt S q (j - 1)))) (h2 : ¬ ((1 < i ∧ 1 < j ∧ tl S (i - 2) = wt S q (j - 1) ∧ tl S (i - 1) = wt S q (j - 2)) ∧ tb S (tl S) q i j = tb S (tl S) q (i - 2) (j - 2) + pp S 3)), mm_G l D kA B sz o 2 50 mX10_find (P_find m (eds S q)) 256 [some (.ref (B + 226)), some (.int (nI q)), some (.int (nI (tb S (tl S) q i j))), some (.int (nI i)), some (.int (nI j)), x5, x6, x7] [] m' := by
        intro x5 x6 x7 hp c1 c2
        refine e_iload_n dX10_find_256 rfl rfl ?_
        refine n_if_le 299 dX10_find_257 (by decide) (by omega) (fun c4 => ?_) (fun c4 => ?_)
        · exact at299 _ _ _ hp c1 c2 (fun q => by omega)
        · have d2 := tl9 (i - 1) j
          refine e_aload_n dX10_find_260 rfl rfl ?_
          refine m_get 10 13 lf_X10_38 dX10_find_261 (ly_226 B _ _) rfl ?_
          refine e_bipush (v := nI 13) dX10_find_264 (by decide) ?_
          refine e_iload_n dX10_find_266 rfl rfl ?_
          refine e_iconst (v := nI 1) dX10_find_267 (by decide) ?_
          refine e_isub dX10_find_268 ?_
          refine e_top (w := nI (i - 1)) (pk_sub (by omega)) ?_
          refine e_imul dX10_find_269 ?_
          refine e_top (w := nI (13 * (i - 1))) (pk_mul _ _) ?_
          refine e_iload dX10_find_270 rfl ?_
          refine e_iadd dX10_find_272 ?_
          refine e_top (w := nI ((13 * (i - 1)) + j)) (nI_add _ _) ?_
          refine m_iald ((13 * (i - 1)) + j) dX10_find_273 (ly_236 B _ _) (rfl) (by omega) (by decide) ?_
          refine e_top (w := nI (tb S (tl S) q (i - 1) j)) (H' (i - 1) j (by omega) h2) ?_
          refine e_aload_n dX10_find_274 rfl rfl ?_
          refine m_get 10 7 lf_X10_22 dX10_find_275 (ly_226 B _ _) rfl ?_
          refine e_iconst (v := nI 1) dX10_find_278 (by decide) ?_
          refine m_iald (1) dX10_find_279 (ly_231 B _ _) (rfl) (by omega) (by decide) ?_
          refine e_top (w := nI (pp S 1)) (hm'.xpp 1 (by omega)) ?_
          refine e_iadd dX10_find_280 ?_
          refine e_top (w := nI ((tb S (tl S) q (i - 1) j) + (pp S 1))) (nI_add _ _) ?_
          refine e_iload_n dX10_find_281 rfl rfl ?_
          refine n_icmp_ne 299 dX10_find_282 (by decide) (by omega) (by omega) (fun c5 => ?_) (fun c5 => ?_)
          · exact at299 _ _ _ hp c1 c2 (fun q => c5 q.2.symm)
          · have e3 := ed_3 c1 c2 ⟨by omega, c5.symm⟩
            rw [e3, List.length_cons] at hlen
            refine e_aload_n dX10_find_285 rfl rfl ?_
            refine e_iconst (v := nI 1) dX10_find_286 (by decide) ?_
            refine e_iload_n dX10_find_287 rfl rfl ?_
            refine e_iconst (v := nI 1) dX10_find_288 (by decide) ?_
            refine e_isub dX10_find_289 ?_
            refine e_top (w := nI (i - 1)) (pk_sub (by omega)) ?_
            refine m_callV (As := [_, _]) lc_X10_112 dX10_find_290 (ly_226 B _ _) rfl rfl (by simp [Value.category]) (Nat.le_of_ble_eq_true rfl) (Nat.le_of_ble_eq_true rfl) ⟨Nat.le_of_ble_eq_true rfl, Nat.le_of_ble_eq_true rfl⟩ ⟨Nat.le_of_ble_eq_true rfl, Nat.le_of_ble_eq_true rfl⟩ (r_note m' (e := E.length) (a := 1) (b := i - 1) h5.1 (by omega)) (fun v9 m9 hp9 => ?_)
            obtain ⟨rfl, rfl⟩ := hp9
            refine e_iinc (v := nI (i - 1)) dX10_find_293 rfl (dec_nI (by decide) (by omega)) (by decide) rfl ?_
            refine e_goto 308 dX10_find_296 (by decide) ?_
            refine e_goto 33 dX10_find_308 (by decide) ?_
            exact noted (i - 1) j 1 (i - 1) _ _ _ (by omega) (by omega) h2 e3
      have at201 : ∀ (x5 x6 x7 : Option Value) (hp : 0 < i + j) (h1 : ¬ (0 < i ∧ 0 < j ∧ tb S (tl S) q i j = tb S (tl S) q (i - 1) (j - 1) + bc (pp S) (ww S) (tl S (i - 1)) (wt S q (j - 1)))), mm_G l D kA B sz o 2 50 mX10_find (P_find m (eds S q)) 201 [some (.ref (B + 226)), some (.int (nI q)), some (.int (nI (tb S (tl S) q i j))), some (.int (nI i)), some (.int (nI j)), x5, x6, x7] [] m' := by
        intro x5 x6 x7 hp c1
        refine e_aload_n dX10_find_201 rfl rfl ?_
        refine e_iload_n dX10_find_202 rfl rfl ?_
        refine e_iload_n dX10_find_203 rfl rfl ?_
        refine e_iload dX10_find_204 rfl ?_
        refine m_callV (As := [_, _, _]) lc_X10_96 dX10_find_206 (ly_226 B _ _) rfl rfl (by simp [Value.category]) (Nat.le_of_ble_eq_true rfl) (Nat.le_of_ble_eq_true rfl) ⟨Nat.le_of_ble_eq_true rfl, Nat.le_of_ble_eq_true rfl⟩ ⟨Nat.le_of_ble_eq_true rfl, Nat.le_of_ble_eq_true rfl⟩ (r_isTurned m' hk hm' hq hr' h1 h2) (fun v9 m9 hp9 => ?_)
        obtain ⟨rfl, rfl⟩ := hp9
        by_cases hT : 1 < i ∧ 1 < j ∧ tl S (i - 2) = wt S q (j - 1) ∧ tl S (i - 1) = wt S q (j - 2)
        · rw [if_pos hT]
          refine e_if_eq 256 dX10_find_209 (by decide) (fun hc => ?_) (fun hc => ?_)
          · exact absurd hc (by decide)
          · have d2 := tl9 (i - 2) (j - 2)
            refine e_aload_n dX10_find_212 rfl rfl ?_
            refine m_get 10 13 lf_X10_38 dX10_find_213 (ly_226 B _ _) rfl ?_
            refine e_bipush (v := nI 13) dX10_find_216 (by decide) ?_
            refine e_iload_n dX10_find_218 rfl rfl ?_
            refine e_iconst (v := nI 2) dX10_find_219 (by decide) ?_
            refine e_isub dX10_find_220 ?_
            refine e_top (w := nI (i - 2)) (pk_sub (by omega)) ?_
            refine e_imul dX10_find_221 ?_
            refine e_top (w := nI (13 * (i - 2))) (pk_mul _ _) ?_
            refine e_iload dX10_find_222 rfl ?_
            refine e_iadd dX10_find_224 ?_
            refine e_top (w := nI ((13 * (i - 2)) + j)) (nI_add _ _) ?_
            refine e_iconst (v := nI 2) dX10_find_225 (by decide) ?_
            refine e_isub dX10_find_226 ?_
            refine e_top (w := nI (((13 * (i - 2)) + j) - 2)) (pk_sub (by omega)) ?_
            refine m_iald (((13 * (i - 2)) + j) - 2) dX10_find_227 (ly_236 B _ _) (rfl) (by omega) (by decide) ?_
            refine e_top (w := nI (tb S (tl S) q (i - 2) (j - 2))) ((by rw [show 13 * (i - 2) + j - 2 = 13 * (i - 2) + (j - 2) by omega]; exact H' (i - 2) (j - 2) (by omega) (by omega))) ?_
            refine e_aload_n dX10_find_228 rfl rfl ?_
            refine m_get 10 7 lf_X10_22 dX10_find_229 (ly_226 B _ _) rfl ?_
            refine e_iconst (v := nI 3) dX10_find_232 (by decide) ?_
            refine m_iald (3) dX10_find_233 (ly_231 B _ _) (rfl) (by omega) (by decide) ?_
            refine e_top (w := nI (pp S 3)) (hm'.xpp 3 (by omega)) ?_
            refine e_iadd dX10_find_234 ?_
            refine e_top (w := nI ((tb S (tl S) q (i - 2) (j - 2)) + (pp S 3))) (nI_add _ _) ?_
            refine e_iload_n dX10_find_235 rfl rfl ?_
            refine n_icmp_ne 256 dX10_find_236 (by decide) (by omega) (by omega) (fun c5 => ?_) (fun c5 => ?_)
            · exact at256 _ _ _ hp c1 (fun q => c5 q.2.symm)
            · have e2 := ed_2 c1 ⟨hT, c5.symm⟩
              rw [e2, List.length_cons] at hlen
              refine e_aload_n dX10_find_239 rfl rfl ?_
              refine e_iconst (v := nI 3) dX10_find_240 (by decide) ?_
              refine e_iload_n dX10_find_241 rfl rfl ?_
              refine e_iconst (v := nI 2) dX10_find_242 (by decide) ?_
              refine e_isub dX10_find_243 ?_
              refine e_top (w := nI (i - 2)) (pk_sub (by omega)) ?_
              refine m_callV (As := [_, _]) lc_X10_112 dX10_find_244 (ly_226 B _ _) rfl rfl (by simp [Value.category]) (Nat.le_of_ble_eq_true rfl) (Nat.le_of_ble_eq_true rfl) ⟨Nat.le_of_ble_eq_true rfl, Nat.le_of_ble_eq_true rfl⟩ ⟨Nat.le_of_ble_eq_true rfl, Nat.le_of_ble_eq_true rfl⟩ (r_note m9 (e := E.length) (a := 3) (b := i - 2) h5.1 (by omega)) (fun v9 m7 hp9 => ?_)
              obtain ⟨rfl, rfl⟩ := hp9
              refine e_iinc (v := nI (i - 2)) dX10_find_247 rfl (dec_nI (by decide) (by omega)) (by decide) rfl ?_
              refine e_iinc (v := nI (j - 2)) dX10_find_250 rfl (dec_nI (by decide) (by omega)) (by decide) rfl ?_
              refine e_goto 308 dX10_find_253 (by decide) ?_
              refine e_goto 33 dX10_find_308 (by decide) ?_
              exact noted (i - 2) (j - 2) 3 (i - 2) _ _ _ (by omega) (by omega) (by omega) e2
        · rw [if_neg hT]
          refine e_if_eq 256 dX10_find_209 (by decide) (fun hc => ?_) (fun hc => ?_)
          · exact at256 _ _ _ hp c1 (fun q => hT q.1)
          · exact absurd rfl hc
      have at131n : ∀ (a b : Int32) (x7 : Option Value), a ≠ b → 0 < i + j → (i = 0 ∨ j = 0) → mm_G l D kA B sz o 2 50 mX10_find (P_find m (eds S q)) 131 [some (.ref (B + 226)), some (.int (nI q)), some (.int (nI (tb S (tl S) q i j))), some (.int (nI i)), some (.int (nI j)), some (.int a), some (.int b), x7] [] m' := by
        intro a b x7 hab hp hz
        refine e_iload dX10_find_131 rfl ?_
        refine e_iload dX10_find_133 rfl ?_
        refine e_icmp_ne 153 dX10_find_135 (by decide) (fun c1 => ?_) (fun c1 => ?_)
        · refine e_iload_n dX10_find_153 rfl rfl ?_
          refine n_if_le 201 dX10_find_154 (by decide) (by omega) (fun c2 => ?_) (fun c2 => ?_)
          · exact at201 _ _ _ hp (fun z => by omega)
          · refine e_iload dX10_find_157 rfl ?_
            refine n_if_le 201 dX10_find_159 (by decide) (by omega) (fun c3 => ?_) (fun c3 => ?_)
            · exact at201 _ _ _ hp (fun z => by omega)
            · exact absurd hz (by omega)
        · exact absurd c1 hab
      have at42 : 0 < i + j → mm_G l D kA B sz o 2 50 mX10_find (P_find m (eds S q)) 42 [some (.ref (B + 226)), some (.int (nI q)), x2, some (.int (nI i)), some (.int (nI j)), x5, x6, x7] [] m' := by
        intro hp
        refine e_aload_n dX10_find_42 rfl rfl ?_
        refine m_get 10 13 lf_X10_38 dX10_find_43 (ly_226 B _ _) rfl ?_
        refine e_bipush (v := nI 13) dX10_find_46 (by decide) ?_
        refine e_iload_n dX10_find_48 rfl rfl ?_
        refine e_imul dX10_find_49 ?_
        refine e_top (w := nI (13 * i)) (pk_mul _ _) ?_
        refine e_iload dX10_find_50 rfl ?_
        refine e_iadd dX10_find_52 ?_
        refine e_top (w := nI ((13 * i) + j)) (nI_add _ _) ?_
        refine m_iald ((13 * i) + j) dX10_find_53 (ly_236 B _ _) (rfl) (by omega) (by decide) ?_
        refine e_top (w := nI (tb S (tl S) q i j)) (H' i j h1 h2) ?_
        refine e_istore_n dX10_find_54 rfl (by decide) rfl ?_
        refine e_iload_n dX10_find_55 rfl rfl ?_
        refine n_if_le 70 dX10_find_56 (by decide) (by omega) (fun c1 => ?_) (fun c1 => ?_)
        · refine e_iconst (v := -1) dX10_find_70 (by decide) ?_
          refine e_istore dX10_find_71 (by decide) rfl ?_
          refine e_iload dX10_find_73 rfl ?_
          refine n_if_le 95 dX10_find_75 (by decide) (by omega) (fun c2 => ?_) (fun c2 => ?_)
          · exact absurd hp (by omega)
          · have y3 := (hk.2.2.2.1 q hq).2.2.1 (j - 1) (by omega)
            refine e_aload_n dX10_find_78 rfl rfl ?_
            refine m_get 10 5 lf_X10_16 dX10_find_79 (ly_226 B _ _) rfl ?_
            refine e_bipush (v := nI 12) dX10_find_82 (by decide) ?_
            refine e_iload_n dX10_find_84 rfl rfl ?_
            refine e_imul dX10_find_85 ?_
            refine e_top (w := nI (12 * q)) (pk_mul _ _) ?_
            refine e_iload dX10_find_86 rfl ?_
            refine e_iadd dX10_find_88 ?_
            refine e_top (w := nI ((12 * q) + j)) (nI_add _ _) ?_
            refine e_iconst (v := nI 1) dX10_find_89 (by decide) ?_
            refine e_isub dX10_find_90 ?_
            refine e_top (w := nI (((12 * q) + j) - 1)) (pk_sub (by omega)) ?_
            refine m_iald (((12 * q) + j) - 1) dX10_find_91 (ly_229 B _ _) (rfl) (by omega) (by decide) ?_
            refine e_top (w := nI (wt S q (j - 1))) ((by rw [show 12 * q + j - 1 = 12 * q + (j - 1) by omega]; exact hm'.xwt q (j - 1) hq (by omega))) ?_
            refine e_goto 97 dX10_find_92 (by decide) ?_
            refine e_istore dX10_find_97 (by decide) rfl ?_
            refine e_iload_n dX10_find_99 rfl rfl ?_
            refine n_if_le 127 dX10_find_100 (by decide) (by omega) (fun c3 => ?_) (fun c3 => ?_)
            · refine e_ldc dX10_find_127 lk_X10_91 ?_
              refine e_istore dX10_find_129 (by decide) rfl ?_
              exact at131n _ _ _ (m1_ne (by omega)).symm hp (Or.inl (by omega))
            · exact absurd c1 (by omega)
        · obtain ⟨y1, y2⟩ := hr'.2.2 (i - 1) (by omega)
          refine e_aload_n dX10_find_59 rfl rfl ?_
          refine m_get 10 14 lf_X10_41 dX10_find_60 (ly_226 B _ _) rfl ?_
          refine e_iload_n dX10_find_63 rfl rfl ?_
          refine e_iconst (v := nI 1) dX10_find_64 (by decide) ?_
          refine e_isub dX10_find_65 ?_
          refine e_top (w := nI (i - 1)) (pk_sub (by omega)) ?_
          refine m_iald (i - 1) dX10_find_66 (ly_237 B _ _) (rfl) (by omega) (by decide) ?_
          refine e_top (w := nI (tl S (i - 1))) (y1) ?_
          refine e_goto 71 dX10_find_67 (by decide) ?_
          refine e_istore dX10_find_71 (by decide) rfl ?_
          refine e_iload dX10_find_73 rfl ?_
          refine n_if_le 95 dX10_find_75 (by decide) (by omega) (fun c2 => ?_) (fun c2 => ?_)
          · refine e_bipush (v := -2) dX10_find_95 (by decide) ?_
            refine e_istore dX10_find_97 (by decide) rfl ?_
            refine e_iload_n dX10_find_99 rfl rfl ?_
            refine n_if_le 127 dX10_find_100 (by decide) (by omega) (fun c3 => ?_) (fun c3 => ?_)
            · exact absurd c3 (by omega)
            · refine e_iload dX10_find_103 rfl ?_
              refine n_if_le 127 dX10_find_105 (by decide) (by omega) (fun c4 => ?_) (fun c4 => ?_)
              · refine e_ldc dX10_find_127 lk_X10_91 ?_
                refine e_istore dX10_find_129 (by decide) rfl ?_
                exact at131n _ _ _ (m2_ne (by omega)) hp (Or.inr (by omega))
              · exact absurd c2 (by omega)
          · have y3 := (hk.2.2.2.1 q hq).2.2.1 (j - 1) (by omega)
            refine e_aload_n dX10_find_78 rfl rfl ?_
            refine m_get 10 5 lf_X10_16 dX10_find_79 (ly_226 B _ _) rfl ?_
            refine e_bipush (v := nI 12) dX10_find_82 (by decide) ?_
            refine e_iload_n dX10_find_84 rfl rfl ?_
            refine e_imul dX10_find_85 ?_
            refine e_top (w := nI (12 * q)) (pk_mul _ _) ?_
            refine e_iload dX10_find_86 rfl ?_
            refine e_iadd dX10_find_88 ?_
            refine e_top (w := nI ((12 * q) + j)) (nI_add _ _) ?_
            refine e_iconst (v := nI 1) dX10_find_89 (by decide) ?_
            refine e_isub dX10_find_90 ?_
            refine e_top (w := nI (((12 * q) + j) - 1)) (pk_sub (by omega)) ?_
            refine m_iald (((12 * q) + j) - 1) dX10_find_91 (ly_229 B _ _) (rfl) (by omega) (by decide) ?_
            refine e_top (w := nI (wt S q (j - 1))) ((by rw [show 12 * q + j - 1 = 12 * q + (j - 1) by omega]; exact hm'.xwt q (j - 1) hq (by omega))) ?_
            refine e_goto 97 dX10_find_92 (by decide) ?_
            refine e_istore dX10_find_97 (by decide) rfl ?_
            refine e_iload_n dX10_find_99 rfl rfl ?_
            refine n_if_le 127 dX10_find_100 (by decide) (by omega) (fun c3 => ?_) (fun c3 => ?_)
            · exact absurd c3 (by omega)
            · refine e_iload dX10_find_103 rfl ?_
              refine n_if_le 127 dX10_find_105 (by decide) (by omega) (fun c4 => ?_) (fun c4 => ?_)
              · exact absurd c4 (by omega)
              · have d2 := tl9 (i - 1) (j - 1)
                have b9 : bc (pp S) (ww S) (tl S (i - 1)) (wt S q (j - 1)) ≤ 9 := by
                  have := hk.2.2.2.2.2.2.2.2.1 (tl S (i - 1)) (wt S q (j - 1))
                  unfold bc
                  split
                  · omega
                  · split <;> omega
                refine e_aload_n dX10_find_108 rfl rfl ?_
                refine m_get 10 13 lf_X10_38 dX10_find_109 (ly_226 B _ _) rfl ?_
                refine e_bipush (v := nI 13) dX10_find_112 (by decide) ?_
                refine e_iload_n dX10_find_114 rfl rfl ?_
                refine e_iconst (v := nI 1) dX10_find_115 (by decide) ?_
                refine e_isub dX10_find_116 ?_
                refine e_top (w := nI (i - 1)) (pk_sub (by omega)) ?_
                refine e_imul dX10_find_117 ?_
                refine e_top (w := nI (13 * (i - 1))) (pk_mul _ _) ?_
                refine e_iload dX10_find_118 rfl ?_
                refine e_iadd dX10_find_120 ?_
                refine e_top (w := nI ((13 * (i - 1)) + j)) (nI_add _ _) ?_
                refine e_iconst (v := nI 1) dX10_find_121 (by decide) ?_
                refine e_isub dX10_find_122 ?_
                refine e_top (w := nI (((13 * (i - 1)) + j) - 1)) (pk_sub (by omega)) ?_
                refine m_iald (((13 * (i - 1)) + j) - 1) dX10_find_123 (ly_236 B _ _) (rfl) (by omega) (by decide) ?_
                refine e_top (w := nI (tb S (tl S) q (i - 1) (j - 1))) ((by rw [show 13 * (i - 1) + j - 1 = 13 * (i - 1) + (j - 1) by omega]; exact H' (i - 1) (j - 1) (by omega) (by omega))) ?_
                refine e_goto 129 dX10_find_124 (by decide) ?_
                refine e_istore dX10_find_129 (by decide) rfl ?_
                refine e_iload dX10_find_131 rfl ?_
                refine e_iload dX10_find_133 rfl ?_
                refine n_icmp_ne 153 dX10_find_135 (by decide) (by omega) (by omega) (fun c5 => ?_) (fun c5 => ?_)
                · refine e_iload_n dX10_find_153 rfl rfl ?_
                  refine n_if_le 201 dX10_find_154 (by decide) (by omega) (fun c6 => ?_) (fun c6 => ?_)
                  · exact absurd c6 (by omega)
                  · refine e_iload dX10_find_157 rfl ?_
                    refine n_if_le 201 dX10_find_159 (by decide) (by omega) (fun c7 => ?_) (fun c7 => ?_)
                    · exact absurd c7 (by omega)
                    · refine e_iload dX10_find_162 rfl ?_
                      refine e_iload dX10_find_164 rfl ?_
                      refine n_icmp_eq 201 dX10_find_166 (by decide) (by omega) (by omega) (fun c8 => ?_) (fun c8 => ?_)
                      · exact absurd c8 c5
                      · refine e_iload dX10_find_169 rfl ?_
                        refine e_aload_n dX10_find_171 rfl rfl ?_
                        refine e_iload dX10_find_172 rfl ?_
                        refine e_iload dX10_find_174 rfl ?_
                        refine m_callV (As := [_, _]) lc_X10_92 dX10_find_176 (ly_226 B _ _) rfl rfl (by simp [Value.category]) (Nat.le_of_ble_eq_true rfl) (Nat.le_of_ble_eq_true rfl) ⟨Nat.le_of_ble_eq_true rfl, Nat.le_of_ble_eq_true rfl⟩ ⟨Nat.le_of_ble_eq_true rfl, Nat.le_of_ble_eq_true rfl⟩ (r_becomes m' hk hm' y2 y3 c5) (fun v9 m9 hp9 => ?_)
                        obtain ⟨rfl, rfl⟩ := hp9
                        refine e_iadd dX10_find_179 ?_
                        refine e_top (w := nI ((tb S (tl S) q (i - 1) (j - 1)) + (bc (pp S) (ww S) (tl S (i - 1)) (wt S q (j - 1))))) (nI_add _ _) ?_
                        refine e_iload_n dX10_find_180 rfl rfl ?_
                        refine n_icmp_ne 201 dX10_find_181 (by decide) (by omega) (by omega) (fun c9 => ?_) (fun c9 => ?_)
                        · exact at201 _ _ _ hp (fun z => c9 z.2.2.symm)
                        · have e1 := ed_1 ⟨by omega, by omega, c9.symm⟩
                          rw [if_neg c5, List.singleton_append] at e1
                          rw [e1, List.length_cons] at hlen
                          refine e_aload_n dX10_find_184 rfl rfl ?_
                          refine e_iconst (v := nI 2) dX10_find_185 (by decide) ?_
                          refine e_iload_n dX10_find_186 rfl rfl ?_
                          refine e_iconst (v := nI 1) dX10_find_187 (by decide) ?_
                          refine e_isub dX10_find_188 ?_
                          refine e_top (w := nI (i - 1)) (pk_sub (by omega)) ?_
                          refine m_callV (As := [_, _]) lc_X10_112 dX10_find_189 (ly_226 B _ _) rfl rfl (by simp [Value.category]) (Nat.le_of_ble_eq_true rfl) (Nat.le_of_ble_eq_true rfl) ⟨Nat.le_of_ble_eq_true rfl, Nat.le_of_ble_eq_true rfl⟩ ⟨Nat.le_of_ble_eq_true rfl, Nat.le_of_ble_eq_true rfl⟩ (r_note m9 (e := E.length) (a := 2) (b := i - 1) h5.1 (by omega)) (fun v9 m7 hp9 => ?_)
                          obtain ⟨rfl, rfl⟩ := hp9
                          refine e_iinc (v := nI (i - 1)) dX10_find_192 rfl (dec_nI (by decide) (by omega)) (by decide) rfl ?_
                          refine e_iinc (v := nI (j - 1)) dX10_find_195 rfl (dec_nI (by decide) (by omega)) (by decide) rfl ?_
                          refine e_goto 308 dX10_find_198 (by decide) ?_
                          refine e_goto 33 dX10_find_308 (by decide) ?_
                          exact noted (i - 1) (j - 1) 2 (i - 1) _ _ _ (by omega) (by omega) (by omega) e1
                · have b0 : bc (pp S) (ww S) (tl S (i - 1)) (wt S q (j - 1)) = 0 := by unfold bc; rw [if_pos c5]
                  refine e_iload dX10_find_138 rfl ?_
                  refine e_iload_n dX10_find_140 rfl rfl ?_
                  refine n_icmp_ne 153 dX10_find_141 (by decide) (by omega) (by omega) (fun c6 => ?_) (fun c6 => ?_)
                  · refine e_iload_n dX10_find_153 rfl rfl ?_
                    refine n_if_le 201 dX10_find_154 (by decide) (by omega) (fun c7 => ?_) (fun c7 => ?_)
                    · exact absurd c7 (by omega)
                    · refine e_iload dX10_find_157 rfl ?_
                      refine n_if_le 201 dX10_find_159 (by decide) (by omega) (fun c8 => ?_) (fun c8 => ?_)
                      · exact absurd c8 (by omega)
                      · refine e_iload dX10_find_162 rfl ?_
                        refine e_iload dX10_find_164 rfl ?_
                        refine n_icmp_eq 201 dX10_find_166 (by decide) (by omega) (by omega) (fun c9 => ?_) (fun c9 => ?_)
                        · exact at201 _ _ _ hp (fun z => c6 (by rw [z.2.2, b0]; rfl))
                        · exact absurd c5 c9
                  · have e1 := ed_1 (i := i) (j := j) (p := pp S) (w := ww S) (r := tl S) (t := wt S q) ⟨by omega, by omega, by rw [b0]; exact c6.symm⟩
                    rw [if_pos c5, List.nil_append] at e1
                    refine e_iinc (v := nI (i - 1)) dX10_find_144 rfl (dec_nI (by decide) (by omega)) (by decide) rfl ?_
                    refine e_iinc (v := nI (j - 1)) dX10_find_147 rfl (dec_nI (by decide) (by omega)) (by decide) rfl ?_
                    refine e_goto 308 dX10_find_150 (by decide) ?_
                    refine e_goto 33 dX10_find_308 (by decide) ?_
                    exact ih (i - 1) (j - 1) m' _ _ _ _ E (by omega) (by omega) (by omega) (by rw [← e1]; exact h4) h5 h6
      refine e_iload_n dX10_find_33 rfl rfl ?_
      refine n_if_gt 42 dX10_find_34 (by decide) (by omega) (fun g1 => ?_) (fun g1 => ?_)
      · exact at42 (by omega)
      · refine e_iload dX10_find_37 rfl ?_
        refine n_if_le 311 dX10_find_39 (by decide) (by omega) (fun g2 => ?_) (fun g2 => ?_)
        · have hi : i = 0 := by omega
          have hj : j = 0 := by omega
          subst hi; subst hj
          rw [ed_0, List.append_nil] at h4
          subst h4
          exact m_vret dX10_find_311 rfl (Nat.le_refl _) (Nat.le_refl _) (⟨rfl, h5, fm2.tr h6.mfS⟩)
        · exact at42 (by omega)
  refine e_istore_n dX10_find_14 rfl (by decide) rfl ?_
  refine e_aload_n dX10_find_15 rfl rfl ?_
  refine e_iconst (v := nI 0) dX10_find_16 (by decide) ?_
  refine m_puti 10 16 lp_X10_109 dX10_find_17 (ly_226 B _ _) (Nat.le_of_ble_eq_true rfl) (ly_226 B _ _) rfl ?_
  have n2 : nf m2 (wr m2 226 16 (nI 0)) := ⟨fun a a1 _ _ => wr_off _ _ a1, fun i hi => wr_ne _ _ (Or.inr hi)⟩
  refine e_aload_n dX10_find_20 rfl rfl ?_
  refine m_get 10 15 lf_X10_88 dX10_find_21 (ly_226 B _ _) rfl ?_
  refine e_top (w := nI (tn S)) ((n2.mrS hr2).1) ?_
  refine e_istore_n dX10_find_24 rfl (by decide) rfl ?_
  refine e_aload_n dX10_find_25 rfl rfl ?_
  refine m_get 10 4 lf_X10_13 dX10_find_26 (ly_226 B _ _) rfl ?_
  refine e_iload_n dX10_find_29 rfl rfl ?_
  refine m_iald (q) dX10_find_30 (ly_228 B _ _) (rfl) (by omega) (by decide) ?_
  refine e_top (w := nI (wl S q)) ((n2.mfS.msS hm2).xwl q hq) ?_
  refine e_istore dX10_find_31 (by decide) rfl ?_
  exact loop (tn S + wl S q) (tn S) (wl S q) _ _ _ _ _ [] (by omega) (by omega) (by omega) rfl ⟨wr_same _ _ _ _, fun q x hq => by simp at hq⟩ n2
set_option maxRecDepth 100000 in
theorem r_edit (m : mm_M) {S : sp_S} (hk : ok S) (hm : ms m S) (w k : Int32) : mm_F l D kA B sz o 3 77 mX10_edit [.ref (B + 226), .int w, .int k] m (fun v m' => (∃ y, v = some (.int y) ∧ R_edit S w k y) ∧ ms m' S ∧ fw m m') := by
  refine mm_F.of ?_
  refine e_aload_n dX10_edit_0 rfl rfl ?_
  refine e_iconst (v := nI 0) dX10_edit_1 (by decide) ?_
  refine m_puti 10 0 lp_X10_62 dX10_edit_2 (ly_226 B _ _) (Nat.le_of_ble_eq_true rfl) (ly_226 B _ _) rfl ?_
  obtain ⟨m1, e1, hs, f1, -⟩ := ms_th (x := nI 0) hm
  rw [e1]
  refine e_aload_n dX10_edit_5 rfl rfl ?_
  refine e_iload_n dX10_edit_6 rfl rfl ?_
  refine m_callV (As := [_]) lc_X10_76 dX10_edit_7 (ly_226 B _ _) rfl rfl (by simp [Value.category]) (Nat.le_of_ble_eq_true rfl) (Nat.le_of_ble_eq_true rfl) ⟨Nat.le_of_ble_eq_true rfl, Nat.le_of_ble_eq_true rfl⟩ ⟨Nat.le_of_ble_eq_true rfl, Nat.le_of_ble_eq_true rfl⟩ (r_isWord m1 hk hs w) (fun v9 m9 hp9 => ?_)
  obtain ⟨rfl, ⟨rfl, q, q1, rfl⟩ | ⟨rfl, h1⟩⟩ := hp9
  · have len := eds_len hk q1
    refine e_if_ne 15 dX10_edit_10 (by decide) (fun g1 => ?_) (fun g1 => ?_)
    · refine e_aload_n dX10_edit_15 rfl rfl ?_
      refine e_iload_n dX10_edit_16 rfl rfl ?_
      refine m_callV (As := [_]) lc_X10_115 dX10_edit_17 (ly_226 B _ _) rfl rfl (by simp [Value.category]) (Nat.le_of_ble_eq_true rfl) (Nat.le_of_ble_eq_true rfl) ⟨Nat.le_of_ble_eq_true rfl, Nat.le_of_ble_eq_true rfl⟩ ⟨Nat.le_of_ble_eq_true rfl, Nat.le_of_ble_eq_true rfl⟩ (r_find m9 hk hs q1) (fun v9 m2 hp9 => ?_)
      obtain ⟨rfl, a1, a2⟩ := hp9
      have f2 := f1.tr a2.fwS
      have hs2 := a2.msS hs
      refine e_iload_n dX10_edit_20 rfl rfl ?_
      refine e_iconst (v := -1) dX10_edit_21 (by decide) ?_
      refine e_icmp_ne 32 dX10_edit_22 (by decide) (fun g2 => ?_) (fun g2 => ?_)
      · refine e_iload_n dX10_edit_32 rfl rfl ?_
        refine e_iconst (v := nI 0) dX10_edit_33 (by decide) ?_
        refine e_aload_n dX10_edit_34 rfl rfl ?_
        refine m_get 10 16 lf_X10_109 dX10_edit_35 (ly_226 B _ _) rfl ?_
        refine e_top (w := nI ((eds S q).length)) (a1.1) ?_
        refine e_iconst (v := nI 1) dX10_edit_38 (by decide) ?_
        refine e_isub dX10_edit_39 ?_
        refine m_callS (As := [_, _, _]) lc_X10_69 dX10_edit_40 rfl rfl (by simp [Value.category]) (Nat.le_of_ble_eq_true rfl) (Nat.le_of_ble_eq_true rfl) ⟨Nat.le_of_ble_eq_true rfl, Nat.le_of_ble_eq_true rfl⟩ ⟨Nat.le_of_ble_eq_true rfl, Nat.le_of_ble_eq_true rfl⟩ (r_in m2 k (nI 0) (nI (eds S q).length - nI 1)) (fun v9 m3 hp9 => ?_)
        obtain ⟨rfl, ⟨rfl, h2⟩ | ⟨rfl, h2⟩⟩ := hp9
        · obtain ⟨z, z1, rfl⟩ := (inr_pred (by omega)).mp h2
          obtain ⟨x, hx⟩ := eds_get (S := S) (q := q) z1
          refine e_if_eq 62 dX10_edit_43 (by decide) (fun g3 => ?_) (fun g3 => ?_)
          · exact absurd g3 (by decide)
          · refine e_aload_n dX10_edit_46 rfl rfl ?_
            refine m_get 10 17 lf_X10_44 dX10_edit_47 (ly_226 B _ _) rfl ?_
            refine e_aload_n dX10_edit_50 rfl rfl ?_
            refine m_get 10 16 lf_X10_109 dX10_edit_51 (ly_226 B _ _) rfl ?_
            refine e_top (w := nI ((eds S q).length)) (a1.1) ?_
            refine e_iconst (v := nI 1) dX10_edit_54 (by decide) ?_
            refine e_isub dX10_edit_55 ?_
            refine e_top (w := nI (((eds S q).length) - 1)) (pk_sub (by omega)) ?_
            refine e_iload_n dX10_edit_56 rfl rfl ?_
            refine e_isub dX10_edit_57 ?_
            refine e_top (w := nI ((((eds S q).length) - 1) - z)) (pk_sub (by omega)) ?_
            refine m_iald ((((eds S q).length) - 1) - z) dX10_edit_58 (ly_238 B _ _) (rfl) (by omega) (by decide) ?_
            refine e_goto 63 dX10_edit_59 (by decide) ?_
            exact m_iret dX10_edit_63 rfl (Nat.le_refl _) (Nat.le_refl _) (⟨⟨_, rfl, Or.inr ⟨q, q1, rfl, Or.inr (Or.inl ⟨z, x, z1, rfl, hx, (a1.2 _ x hx).1⟩)⟩⟩, hs2, f2⟩)
        · refine e_if_eq 62 dX10_edit_43 (by decide) (fun g3 => ?_) (fun g3 => ?_)
          · refine e_iconst (v := -1) dX10_edit_62 (by decide) ?_
            exact m_iret dX10_edit_63 rfl (Nat.le_refl _) (Nat.le_refl _) (⟨⟨_, rfl, Or.inr ⟨q, q1, rfl, Or.inr (Or.inr ⟨g2, fun z hz e => h2 ((inr_pred (by omega)).mpr ⟨z, hz, e⟩), rfl⟩)⟩⟩, hs2, f2⟩)
          · exact absurd rfl g3
      · subst g2
        refine e_aload_n dX10_edit_25 rfl rfl ?_
        refine m_get 10 16 lf_X10_109 dX10_edit_26 (ly_226 B _ _) rfl ?_
        refine e_top (w := nI ((eds S q).length)) (a1.1) ?_
        refine e_goto 63 dX10_edit_29 (by decide) ?_
        exact m_iret dX10_edit_63 rfl (Nat.le_refl _) (Nat.le_refl _) (⟨⟨_, rfl, Or.inr ⟨q, q1, rfl, Or.inl ⟨rfl, rfl⟩⟩⟩, hs2, f2⟩)
    · exact absurd g1 (by decide)
  · refine e_if_ne 15 dX10_edit_10 (by decide) (fun g1 => ?_) (fun g1 => ?_)
    · exact absurd rfl g1
    · refine e_iconst (v := -1) dX10_edit_13 (by decide) ?_
      exact m_iret dX10_edit_14 rfl (Nat.le_refl _) (Nat.le_refl _) (⟨⟨_, rfl, Or.inl ⟨h1, rfl⟩⟩, hs, f1⟩)
set_option maxRecDepth 100000 in
theorem r_place (m : mm_M) {S : sp_S} (hk : ok S) (hm : ms m S) (w k : Int32) : mm_F l D kA B sz o 3 77 mX10_place [.ref (B + 226), .int w, .int k] m (fun v m' => (∃ y, v = some (.int y) ∧ R_place S w k y) ∧ ms m' S ∧ fw m m') := by
  refine mm_F.of ?_
  refine e_aload_n dX10_place_0 rfl rfl ?_
  refine e_iconst (v := nI 0) dX10_place_1 (by decide) ?_
  refine m_puti 10 0 lp_X10_62 dX10_place_2 (ly_226 B _ _) (Nat.le_of_ble_eq_true rfl) (ly_226 B _ _) rfl ?_
  obtain ⟨m1, e1, hs, f1, -⟩ := ms_th (x := nI 0) hm
  rw [e1]
  refine e_aload_n dX10_place_5 rfl rfl ?_
  refine e_iload_n dX10_place_6 rfl rfl ?_
  refine m_callV (As := [_]) lc_X10_76 dX10_place_7 (ly_226 B _ _) rfl rfl (by simp [Value.category]) (Nat.le_of_ble_eq_true rfl) (Nat.le_of_ble_eq_true rfl) ⟨Nat.le_of_ble_eq_true rfl, Nat.le_of_ble_eq_true rfl⟩ ⟨Nat.le_of_ble_eq_true rfl, Nat.le_of_ble_eq_true rfl⟩ (r_isWord m1 hk hs w) (fun v9 m9 hp9 => ?_)
  obtain ⟨rfl, ⟨rfl, q, q1, rfl⟩ | ⟨rfl, h1⟩⟩ := hp9
  · have len := eds_len hk q1
    refine e_if_ne 15 dX10_place_10 (by decide) (fun g1 => ?_) (fun g1 => ?_)
    · refine e_aload_n dX10_place_15 rfl rfl ?_
      refine e_iload_n dX10_place_16 rfl rfl ?_
      refine m_callV (As := [_]) lc_X10_115 dX10_place_17 (ly_226 B _ _) rfl rfl (by simp [Value.category]) (Nat.le_of_ble_eq_true rfl) (Nat.le_of_ble_eq_true rfl) ⟨Nat.le_of_ble_eq_true rfl, Nat.le_of_ble_eq_true rfl⟩ ⟨Nat.le_of_ble_eq_true rfl, Nat.le_of_ble_eq_true rfl⟩ (r_find m9 hk hs q1) (fun v9 m2 hp9 => ?_)
      obtain ⟨rfl, a1, a2⟩ := hp9
      have f2 := f1.tr a2.fwS
      have hs2 := a2.msS hs
      refine e_iload_n dX10_place_20 rfl rfl ?_
      refine e_iconst (v := nI 0) dX10_place_21 (by decide) ?_
      refine e_aload_n dX10_place_22 rfl rfl ?_
      refine m_get 10 16 lf_X10_109 dX10_place_23 (ly_226 B _ _) rfl ?_
      refine e_top (w := nI ((eds S q).length)) (a1.1) ?_
      refine e_iconst (v := nI 1) dX10_place_26 (by decide) ?_
      refine e_isub dX10_place_27 ?_
      refine m_callS (As := [_, _, _]) lc_X10_69 dX10_place_28 rfl rfl (by simp [Value.category]) (Nat.le_of_ble_eq_true rfl) (Nat.le_of_ble_eq_true rfl) ⟨Nat.le_of_ble_eq_true rfl, Nat.le_of_ble_eq_true rfl⟩ ⟨Nat.le_of_ble_eq_true rfl, Nat.le_of_ble_eq_true rfl⟩ (r_in m2 k (nI 0) (nI (eds S q).length - nI 1)) (fun v9 m3 hp9 => ?_)
      obtain ⟨rfl, ⟨rfl, h2⟩ | ⟨rfl, h2⟩⟩ := hp9
      · obtain ⟨z, z1, rfl⟩ := (inr_pred (by omega)).mp h2
        obtain ⟨x, hx⟩ := eds_get (S := S) (q := q) z1
        refine e_if_eq 50 dX10_place_31 (by decide) (fun g3 => ?_) (fun g3 => ?_)
        · exact absurd g3 (by decide)
        · refine e_aload_n dX10_place_34 rfl rfl ?_
          refine m_get 10 18 lf_X10_47 dX10_place_35 (ly_226 B _ _) rfl ?_
          refine e_aload_n dX10_place_38 rfl rfl ?_
          refine m_get 10 16 lf_X10_109 dX10_place_39 (ly_226 B _ _) rfl ?_
          refine e_top (w := nI ((eds S q).length)) (a1.1) ?_
          refine e_iconst (v := nI 1) dX10_place_42 (by decide) ?_
          refine e_isub dX10_place_43 ?_
          refine e_top (w := nI (((eds S q).length) - 1)) (pk_sub (by omega)) ?_
          refine e_iload_n dX10_place_44 rfl rfl ?_
          refine e_isub dX10_place_45 ?_
          refine e_top (w := nI ((((eds S q).length) - 1) - z)) (pk_sub (by omega)) ?_
          refine m_iald ((((eds S q).length) - 1) - z) dX10_place_46 (ly_239 B _ _) (rfl) (by omega) (by decide) ?_
          refine e_goto 51 dX10_place_47 (by decide) ?_
          exact m_iret dX10_place_51 rfl (Nat.le_refl _) (Nat.le_refl _) (⟨⟨_, rfl, Or.inr ⟨q, q1, rfl, Or.inl ⟨z, x, z1, rfl, hx, (a1.2 _ x hx).2⟩⟩⟩, hs2, f2⟩)
      · refine e_if_eq 50 dX10_place_31 (by decide) (fun g3 => ?_) (fun g3 => ?_)
        · refine e_iconst (v := -1) dX10_place_50 (by decide) ?_
          exact m_iret dX10_place_51 rfl (Nat.le_refl _) (Nat.le_refl _) (⟨⟨_, rfl, Or.inr ⟨q, q1, rfl, Or.inr ⟨fun z hz e => h2 ((inr_pred (by omega)).mpr ⟨z, hz, e⟩), rfl⟩⟩⟩, hs2, f2⟩)
        · exact absurd rfl g3
    · exact absurd g1 (by decide)
  · refine e_if_ne 15 dX10_place_10 (by decide) (fun g1 => ?_) (fun g1 => ?_)
    · exact absurd rfl g1
    · refine e_iconst (v := -1) dX10_place_13 (by decide) ?_
      exact m_iret dX10_place_14 rfl (Nat.le_refl _) (Nat.le_refl _) (⟨⟨_, rfl, Or.inl ⟨h1, rfl⟩⟩, hs, f1⟩)
end REJ
