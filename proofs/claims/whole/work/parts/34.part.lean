section PRT
variable {l : Launch} {D : va_G} {kA : FieldType → ClassId} {B sz : Nat} {o : Int64}
/-- DISTANCE of the first a typed, of the last b, to a word -/
def gL (S : sp_S) (a q : Nat) : Nat := dd (pp S) (ww S) (tl S) (wt S q) a (wl S q)
def gR (S : sp_S) (b q : Nat) : Nat := dd (pp S) (ww S) (fun i => tl S (tn S - b + i)) (wt S q) b (wl S q)
theorem gL_le {S : sp_S} (h : ok S) {a q : Nat} (ha : a ≤ 12) (hq : q < wn S) : gL S a q ≤ 216 := by
  have h1 := dd_le (w := ww S) (tl S) (wt S q) (h.2.2.2.2.2.1 0 (by omega)) (h.2.2.2.2.2.1 1 (by omega)) a (wl S q)
  have := (h.2.2.2.1 q hq).2.1
  unfold gL
  omega
theorem gR_le {S : sp_S} (h : ok S) {a q : Nat} (ha : a ≤ 12) (hq : q < wn S) : gR S a q ≤ 216 := by
  have h1 := dd_le (w := ww S) (fun i => tl S (tn S - a + i)) (wt S q) (h.2.2.2.2.2.1 0 (by omega)) (h.2.2.2.2.2.1 1 (by omega)) a (wl S q)
  have := (h.2.2.2.1 q hq).2.1
  unfold gR
  omega
/-- only table and sides are others -/
def frS (m m' : mm_M) : Prop := ∀ a, a < 172 ∨ (190 ≤ a ∧ a < 198) ∨ a = 200 ∨ 203 ≤ a → m' a = m a
set_option maxRecDepth 100000 in
set_option maxHeartbeats 2000000 in
/-- Parting.fillSides -/
theorem c_fillSides (m : mm_M) {S : sp_S} {f : Nat → Nat} (hc : cs m S) (hf : or_at m (wn S) f (wl S) (wt S)) (t1 : 1 ≤ tn S) : mm_F l D kA B sz o 5 112 mX2_fillSides [.ref (B + 196), .ref (B + 1), .ref (B + 32), .ref (B + 171)] m (fun v m' => v = none ∧ sd m' 198 199 f (wn S) (gL S) (tn S - 1) ∧ sd m' 201 202 f (wn S) (gR S) (tn S - 1) ∧ frS m m') := by
  have hok := hc.1
  have n60 := hok.2.2.1
  have t12 := hok.1
  obtain ⟨o1, o2, o3⟩ := hf
  refine mm_F.of ?_
  refine e_aload_n dX2_fillSides_0 rfl rfl ?_
  refine m_get 2 0 lf_X2_12 dX2_fillSides_1 (ly_196 B _ _) rfl ?_
  refine m_callV (As := []) lc_X2_51 dX2_fillSides_4 (ly_197 B _ _) rfl rfl (by simp [Value.category]) (Nat.le_of_ble_eq_true rfl) (Nat.le_of_ble_eq_true rfl) ⟨Nat.le_of_ble_eq_true rfl, Nat.le_of_ble_eq_true rfl⟩ ⟨Nat.le_of_ble_eq_true rfl, Nat.le_of_ble_eq_true rfl⟩ (c_empty m (isSide_l B)) (fun v9 m1 hp9 => ?_)
  obtain ⟨rfl, a1, a2⟩ := hp9
  refine e_aload_n dX2_fillSides_7 rfl rfl ?_
  refine m_get 2 1 lf_X2_18 dX2_fillSides_8 (ly_196 B _ _) rfl ?_
  refine m_callV (As := []) lc_X2_51 dX2_fillSides_11 (ly_200 B _ _) rfl rfl (by simp [Value.category]) (Nat.le_of_ble_eq_true rfl) (Nat.le_of_ble_eq_true rfl) ⟨Nat.le_of_ble_eq_true rfl, Nat.le_of_ble_eq_true rfl⟩ ⟨Nat.le_of_ble_eq_true rfl, Nat.le_of_ble_eq_true rfl⟩ (c_empty m1 (isSide_r B)) (fun v9 m2 hp9 => ?_)
  obtain ⟨rfl, b1, b2⟩ := hp9
  refine e_iconst (v := nI 0) dX2_fillSides_14 (by decide) ?_
  refine e_istore dX2_fillSides_15 (by decide) rfl ?_
  have loop : ∀ (z i : Nat) (m' : mm_M) (x5 : Option Value), wn S - i = z → i ≤ wn S → sd m' 198 199 f i (gL S) (tn S - 1) → sd m' 201 202 f i (gR S) (tn S - 1) → frS m m' → mm_G l D kA B sz o 5 112 mX2_fillSides (fun v m' => v = none ∧ sd m' 198 199 f (wn S) (gL S) (tn S - 1) ∧ sd m' 201 202 f (wn S) (gR S) (tn S - 1) ∧ frS m m') 17 [some (.ref (B + 196)), some (.ref (B + 1)), some (.ref (B + 32)), some (.ref (B + 171)), some (.int (nI i)), x5] [] m' := by
    intro z
    induction z with
    | zero =>
      intro i m' x5 h1 h2 h3 h4 h5
      refine e_iload dX2_fillSides_17 rfl ?_
      refine e_aload_n dX2_fillSides_19 rfl rfl ?_
      refine m_get 8 4 lf_X2_54 dX2_fillSides_20 (ly_32 B _ _) rfl ?_
      refine e_top (w := nI (wn S)) ((by rw [h5 32 (by omega)]; exact hc.2.2.2.1)) ?_
      refine n_icmp_ge 98 dX2_fillSides_23 (by decide) (by omega) (by omega) (fun g1 => ?_) (fun g1 => ?_)
      · have : i = wn S := by omega
        subst this
        exact m_vret dX2_fillSides_98 rfl (Nat.le_refl _) (Nat.le_refl _) (⟨rfl, h3, h4, h5⟩)
      · exact absurd g1 (by omega)
    | succ z ih =>
      intro i m' x5 h1 h2 h3 h4 h5
      obtain ⟨f1, f2⟩ := o1 i (by omega)
      have f60 : f i < 60 := by omega
      have w12 := (hok.2.2.2.1 (f i) f2).2.1
      have hc' : cs m' S := hc.of (fun a ha => h5 a (by omega))
      have bL : ∀ a j, a ≤ tn S - 1 → j < i → gL S a (f j) < 1000000 := fun a j ha hj => by
        have := gL_le hok (a := a) (q := f j) (by omega) (o1 j (by omega)).2
        omega
      have bR : ∀ a j, a ≤ tn S - 1 → j < i → gR S a (f j) < 1000000 := fun a j ha hj => by
        have := gR_le hok (a := a) (q := f j) (by omega) (o1 j (by omega)).2
        omega
      refine e_iload dX2_fillSides_17 rfl ?_
      refine e_aload_n dX2_fillSides_19 rfl rfl ?_
      refine m_get 8 4 lf_X2_54 dX2_fillSides_20 (ly_32 B _ _) rfl ?_
      refine e_top (w := nI (wn S)) ((by rw [h5 32 (by omega)]; exact hc.2.2.2.1)) ?_
      refine n_icmp_ge 98 dX2_fillSides_23 (by decide) (by omega) (by omega) (fun g1 => ?_) (fun g1 => ?_)
      · exact absurd g1 (by omega)
      · refine e_aload_n dX2_fillSides_26 rfl rfl ?_
        refine m_get 8 2 lf_X2_59 dX2_fillSides_27 (ly_32 B _ _) rfl ?_
        refine e_iload dX2_fillSides_30 rfl ?_
        refine m_iald (i) dX2_fillSides_32 (ly_35 B _ _) (rfl) (by omega) (by decide) ?_
        refine e_top (w := nI (f i)) ((by rw [h5 35 (by omega)]; exact f1)) ?_
        refine e_istore dX2_fillSides_33 (by decide) rfl ?_
        refine e_aload_n dX2_fillSides_35 rfl rfl ?_
        refine e_aload_n dX2_fillSides_36 rfl rfl ?_
        refine e_aload_n dX2_fillSides_37 rfl rfl ?_
        refine m_get 8 0 lf_X2_62 dX2_fillSides_38 (ly_32 B _ _) rfl ?_
        refine e_iload dX2_fillSides_41 rfl ?_
        refine m_aald (r := 37 + 2 * (f i)) (f i) dX2_fillSides_43 (by decide) rfl (ly_33 B _ _) (rfl) (by omega) (by decide) (if_pos (by omega)) ?_
        refine m_callV (As := [_, _]) lc_X2_66 dX2_fillSides_44 (ly_171 B _ _) rfl rfl (by simp [Value.category]) (Nat.le_of_ble_eq_true rfl) (Nat.le_of_ble_eq_true rfl) ⟨Nat.le_of_ble_eq_true rfl, Nat.le_of_ble_eq_true rfl⟩ ⟨Nat.le_of_ble_eq_true rfl, Nat.le_of_ble_eq_true rfl⟩ (c_measure m' hc'.2.2.1 (isRow_1 B) (isRow_w B f60) (by omega) (by omega) (by omega) (by omega) hc'.2.1 (hc'.2.2.2.2.1 (f i) f2).1) (fun v9 m3 hp9 => ?_)
        obtain ⟨rfl, c1, c2, c3, c4⟩ := hp9
        have h3' : sd m3 198 199 f i (gL S) (tn S - 1) := h3.of (c4 198 (by omega)) (c4 199 (by omega))
        have h4' : sd m3 201 202 f i (gR S) (tn S - 1) := h4.of (c4 201 (by omega)) (c4 202 (by omega))
        obtain ⟨co, hco⟩ := h3'.co (fun a j ha hj => Nat.le_of_lt (bL a j ha hj))
        refine e_pop dX2_fillSides_47 rfl ?_
        refine e_aload_n dX2_fillSides_48 rfl rfl ?_
        refine m_get 2 0 lf_X2_12 dX2_fillSides_49 (ly_196 B _ _) rfl ?_
        refine e_iload dX2_fillSides_52 rfl ?_
        refine e_aload_n dX2_fillSides_54 rfl rfl ?_
        refine e_aload_n dX2_fillSides_55 rfl rfl ?_
        refine m_get 5 1 lf_X2_39 dX2_fillSides_56 (ly_1 B _ _) rfl ?_
        refine e_top (w := nI (tn S)) ((by rw [c4 1 (by omega)]; exact hc'.2.1.1)) ?_
        refine e_iconst (v := nI 1) dX2_fillSides_59 (by decide) ?_
        refine e_isub dX2_fillSides_60 ?_
        refine e_top (w := nI ((tn S) - 1)) (pk_sub (by omega)) ?_
        refine m_callV (As := [_, _, _]) lc_X2_72 dX2_fillSides_61 (ly_197 B _ _) rfl rfl (by simp [Value.category]) (Nat.le_of_ble_eq_true rfl) (Nat.le_of_ble_eq_true rfl) ⟨Nat.le_of_ble_eq_true rfl, Nat.le_of_ble_eq_true rfl⟩ ⟨Nat.le_of_ble_eq_true rfl, Nat.le_of_ble_eq_true rfl⟩ (c_offer m3 (x := f i) (d := fun a => gL S a (f i)) (co := co) (isSide_l B) (by omega) (by omega) (by omega) c1.1 c2.1 t12 w12 (T := tn S - 1) (by omega) (fun a ha => ⟨c3 a _ ha (Nat.le_refl _), by have := gL_le hok (a := a) (q := f i) (by omega) f2; omega⟩) hco) (fun v9 m4 hp9 => ?_)
        have s1 := h3'.step (fun a _ => rfl) (fun a ha => by have := gL_le hok (a := a) (q := f i) (by omega) f2; omega) bL hco hp9
        obtain ⟨rfl, -, d2⟩ := hp9
        have fr4 : ∀ a, a < 172 ∨ (190 ≤ a ∧ a < 198) ∨ 200 ≤ a → m4 a = m' a := fun a ha => by rw [d2 a (by omega) (by omega)]; exact c4 a (by omega)
        have hc4 : cs m4 S := hc'.of (fun a ha => fr4 a (by omega))
        refine e_aload_n dX2_fillSides_64 rfl rfl ?_
        refine e_aload_n dX2_fillSides_65 rfl rfl ?_
        refine e_aload_n dX2_fillSides_66 rfl rfl ?_
        refine m_get 8 0 lf_X2_62 dX2_fillSides_67 (ly_32 B _ _) rfl ?_
        refine e_iload dX2_fillSides_70 rfl ?_
        refine m_aald (r := 37 + 2 * (f i)) (f i) dX2_fillSides_72 (by decide) rfl (ly_33 B _ _) (rfl) (by omega) (by decide) (if_pos (by omega)) ?_
        refine m_callV (As := [_, _]) lc_X2_76 dX2_fillSides_73 (ly_171 B _ _) rfl rfl (by simp [Value.category]) (Nat.le_of_ble_eq_true rfl) (Nat.le_of_ble_eq_true rfl) ⟨Nat.le_of_ble_eq_true rfl, Nat.le_of_ble_eq_true rfl⟩ ⟨Nat.le_of_ble_eq_true rfl, Nat.le_of_ble_eq_true rfl⟩ (c_measureM m4 hc4.2.2.1 (isRow_1 B) (isRow_w B f60) (by omega) (by omega) (by omega) (by omega) hc4.2.1 (hc4.2.2.2.2.1 (f i) f2).1) (fun v9 m5 hp9 => ?_)
        obtain ⟨rfl, e1, e2, e3, e4⟩ := hp9
        have h3'' : sd m5 198 199 f (i + 1) (gL S) (tn S - 1) := s1.of (e4 198 (by omega)) (e4 199 (by omega))
        have h4'' : sd m5 201 202 f i (gR S) (tn S - 1) := h4'.of (by rw [e4 201 (by omega), d2 201 (by omega) (by omega)]) (by rw [e4 202 (by omega), d2 202 (by omega) (by omega)])
        obtain ⟨co2, hco2⟩ := h4''.co (fun a j ha hj => Nat.le_of_lt (bR a j ha hj))
        refine e_aload_n dX2_fillSides_76 rfl rfl ?_
        refine m_get 2 1 lf_X2_18 dX2_fillSides_77 (ly_196 B _ _) rfl ?_
        refine e_iload dX2_fillSides_80 rfl ?_
        refine e_aload_n dX2_fillSides_82 rfl rfl ?_
        refine e_aload_n dX2_fillSides_83 rfl rfl ?_
        refine m_get 5 1 lf_X2_39 dX2_fillSides_84 (ly_1 B _ _) rfl ?_
        refine e_top (w := nI (tn S)) ((by rw [e4 1 (by omega)]; exact hc4.2.1.1)) ?_
        refine e_iconst (v := nI 1) dX2_fillSides_87 (by decide) ?_
        refine e_isub dX2_fillSides_88 ?_
        refine e_top (w := nI ((tn S) - 1)) (pk_sub (by omega)) ?_
        refine m_callV (As := [_, _, _]) lc_X2_72 dX2_fillSides_89 (ly_200 B _ _) rfl rfl (by simp [Value.category]) (Nat.le_of_ble_eq_true rfl) (Nat.le_of_ble_eq_true rfl) ⟨Nat.le_of_ble_eq_true rfl, Nat.le_of_ble_eq_true rfl⟩ ⟨Nat.le_of_ble_eq_true rfl, Nat.le_of_ble_eq_true rfl⟩ (c_offer m5 (x := f i) (d := fun a => dd (pp S) (ww S) (fun i => tl S (tn S - 1 - i)) (fun j => wt S (f i) (wl S (f i) - 1 - j)) a (wl S (f i))) (co := co2) (isSide_r B) (by omega) (by omega) (by omega) e1.1 e2.1 t12 w12 (T := tn S - 1) (by omega) (fun a ha => ⟨e3 a _ ha (Nat.le_refl _), by rw [dd_tail _ _ _ _ _ ha]; have := gR_le hok (a := a) (q := f i) (by omega) f2; unfold gR at this; omega⟩) hco2) (fun v9 m6 hp9 => ?_)
        have s2 := h4''.step (fun a ha => dd_tail (pp S) (ww S) (tl S) (wt S (f i)) (wl S (f i)) (n := tn S) (b := a) (by omega)) (fun a ha => by have := gR_le hok (a := a) (q := f i) (by omega) f2; omega) bR hco2 hp9
        obtain ⟨rfl, -, g2⟩ := hp9
        refine e_iinc (v := nI (i + 1)) dX2_fillSides_92 rfl (nI_add _ _) (by decide) rfl ?_
        refine e_goto 17 dX2_fillSides_95 (by decide) ?_
        exact ih (i + 1) m6 _ (by omega) (by omega) (h3''.of (g2 198 (by omega) (by omega)) (g2 199 (by omega) (by omega))) s2 (fun a ha => by rw [g2 a (by omega) (by omega), e4 a (by omega), fr4 a (by omega)]; exact h5 a ha)
  exact loop (wn S) 0 m2 none (by omega) (by omega) (fun a a1' a2' => Or.inl ⟨rfl, by rw [b2 199 (by omega)]; exact a1 a (by omega)⟩) (fun a a1' a2' => Or.inl ⟨rfl, b1 a (by omega)⟩) (fun a ha => by rw [b2 a (by omega)]; exact a2 a (by omega))
/-- the closest word, of like ones the first in ORDER -/
def bst (S : sp_S) (g : Nat → Nat) (c q : Nat) : Prop := q < wn S ∧ g q = c ∧ ∀ z, z < wn S → c ≤ g z ∧ (g z = c → z = q ∨ wa S q z)
theorem bst_uniq {S : sp_S} {g : Nat → Nat} {c c' q q' : Nat} (h : bst S g c q) (h' : bst S g c' q') : c = c' ∧ q = q' := by
  obtain ⟨a1, a2, a3⟩ := h
  obtain ⟨b1, b2, b3⟩ := h'
  have e1 := (a3 q' b1).1
  have e2 := (b3 q a1).1
  have ec : c = c' := by omega
  subst ec
  refine ⟨rfl, ?_⟩
  rcases (a3 q' b1).2 b2 with e | e
  · exact e.symm
  · rcases (b3 q a1).2 a2 with e3 | e3
    · exact e3
    · exact (ah_asym e e3).elim
theorem sd.bst {m : mm_M} {S : sp_S} {s1 s2 T : Nat} {f : Nat → Nat} {g : Nat → Nat → Nat} (hf : or_at m (wn S) f (wl S) (wt S)) (h : sd m s1 s2 f (wn S) g T) (hw : 0 < wn S) {a : Nat} (a1 : 1 ≤ a) (a2 : a ≤ T) : ∃ c q, bst S (g a) c q ∧ m s1 a = nI q ∧ m s2 a = nI c := by
  rcases h a a1 a2 with ⟨e, -⟩ | ⟨j0, j1, j2, j3, j4⟩
  · omega
  · refine ⟨g a (f j0), f j0, ⟨(hf.1 j0 j1).2, rfl, fun z hz => ?_⟩, j2, j3⟩
    obtain ⟨k, k1, rfl⟩ := hf.2.2 z hz
    refine ⟨(j4 k k1).1, fun e => ?_⟩
    rcases Nat.lt_trichotomy k j0 with c | c | c
    · have := (j4 k k1).2 c; omega
    · exact Or.inl (by rw [c])
    · exact Or.inr (hf.2.1 j0 k c k1)
/-- the best PARTING -/
def R_best (S : sp_S) (co a q1 q2 : Nat) : Prop := 1 ≤ a ∧ a < tn S ∧ ∃ c1 c2, bst S (gL S a) c1 q1 ∧ bst S (gR S (tn S - a)) c2 q2 ∧ co = c1 + c2 + pp S 4 ∧ ∀ b d1 d2 z1 z2, 1 ≤ b → b < tn S → bst S (gL S b) d1 z1 → bst S (gR S (tn S - b)) d2 z2 → co ≤ d1 + d2 + pp S 4 ∧ (b < a → co < d1 + d2 + pp S 4)
theorem R_best_uniq {S : sp_S} {co a q1 q2 co' a' q1' q2' : Nat} (h : R_best S co a q1 q2) (h' : R_best S co' a' q1' q2') : co = co' ∧ a = a' ∧ q1 = q1' ∧ q2 = q2' := by
  obtain ⟨a1, a2, c1, c2, a3, a4, a5, a6⟩ := h
  obtain ⟨b1, b2, d1, d2, b3, b4, b5, b6⟩ := h'
  have e1 := a6 a' d1 d2 q1' q2' b1 b2 b3 b4
  have e2 := b6 a c1 c2 q1 q2 a1 a2 a3 a4
  have ea : a = a' := by
    rcases Nat.lt_trichotomy a a' with e | e | e
    · have := e2.2 e; omega
    · exact e
    · have := e1.2 e; omega
  subst ea
  obtain ⟨rfl, rfl⟩ := bst_uniq a3 b3
  obtain ⟨rfl, rfl⟩ := bst_uniq a4 b4
  exact ⟨by omega, rfl, rfl, rfl⟩
set_option maxRecDepth 100000 in
set_option maxHeartbeats 2000000 in
/-- Parting.find -/
theorem c_find (m : mm_M) {S : sp_S} (hc : cs m S) (hw : 0 < wn S) (t2 : 2 ≤ tn S) : mm_F l D kA B sz o 6 137 mX2_find [.ref (B + 196), .ref (B + 1), .ref (B + 32), .ref (B + 171), .int (nI (pp S 4))] m (fun v m' => v = none ∧ (∃ co a q1 q2, R_best S co a q1 q2 ∧ m' 196 2 = nI co ∧ m' 196 3 = nI a ∧ m' 196 4 = nI q1 ∧ m' 196 5 = nI q2) ∧ fr m m') := by
  have hok := hc.1
  have n60 := hok.2.2.1
  have t12 := hok.1
  have p4 := hok.2.2.2.2.2.2.1
  obtain ⟨f, hf⟩ := hc.2.2.2.2.2.1
  refine mm_F.of ?_
  refine e_aload_n dX2_find_0 rfl rfl ?_
  refine e_aload_n dX2_find_1 rfl rfl ?_
  refine e_aload_n dX2_find_2 rfl rfl ?_
  refine e_aload_n dX2_find_3 rfl rfl ?_
  refine m_callV (As := [_, _, _]) lc_X2_35 dX2_find_4 (ly_196 B _ _) rfl rfl (by simp [Value.category]) (Nat.le_of_ble_eq_true rfl) (Nat.le_of_ble_eq_true rfl) ⟨Nat.le_of_ble_eq_true rfl, Nat.le_of_ble_eq_true rfl⟩ ⟨Nat.le_of_ble_eq_true rfl, Nat.le_of_ble_eq_true rfl⟩ (c_fillSides m hc hf (by omega)) (fun v9 m1 hp9 => ?_)
  obtain ⟨rfl, s1, s2, s3⟩ := hp9
  have hf1 : or_at m1 (wn S) f (wl S) (wt S) := hf.of (s3 35 (by omega))
  refine e_aload_n dX2_find_7 rfl rfl ?_
  refine e_ldc dX2_find_8 lk_X2_21 ?_
  refine m_puti 2 2 lp_X2_22 dX2_find_10 (ly_196 B _ _) (Nat.le_of_ble_eq_true rfl) (ly_196 B _ _) rfl ?_
  refine e_iconst (v := nI 1) dX2_find_13 (by decide) ?_
  refine e_istore dX2_find_14 (by decide) rfl ?_
  have loop : ∀ (z b : Nat) (m' : mm_M) (x6 x7 : Option Value), tn S - b = z → 1 ≤ b → b ≤ tn S → ((b = 1 ∧ m' 196 2 = nI 1000000) ∨ ∃ co a q1 q2 c1 c2, 1 ≤ a ∧ a < b ∧ bst S (gL S a) c1 q1 ∧ bst S (gR S (tn S - a)) c2 q2 ∧ co = c1 + c2 + pp S 4 ∧ m' 196 2 = nI co ∧ m' 196 3 = nI a ∧ m' 196 4 = nI q1 ∧ m' 196 5 = nI q2 ∧ ∀ b' d1 d2 z1 z2, 1 ≤ b' → b' < b → bst S (gL S b') d1 z1 → bst S (gR S (tn S - b')) d2 z2 → co ≤ d1 + d2 + pp S 4 ∧ (b' < a → co < d1 + d2 + pp S 4)) → (∀ a, a ≠ 196 → m' a = m1 a) → mm_G l D kA B sz o 6 137 mX2_find (fun v m' => v = none ∧ (∃ co a q1 q2, R_best S co a q1 q2 ∧ m' 196 2 = nI co ∧ m' 196 3 = nI a ∧ m' 196 4 = nI q1 ∧ m' 196 5 = nI q2) ∧ fr m m') 16 [some (.ref (B + 196)), some (.ref (B + 1)), some (.ref (B + 32)), some (.ref (B + 171)), some (.int (nI (pp S 4))), some (.int (nI b)), x6, x7] [] m' := by
    intro z
    induction z with
    | zero =>
      intro b m' x6 x7 h1 h2 h3 h4 h5
      refine e_iload dX2_find_16 rfl ?_
      refine e_aload_n dX2_find_18 rfl rfl ?_
      refine m_get 5 1 lf_X2_39 dX2_find_19 (ly_1 B _ _) rfl ?_
      refine e_top (w := nI (tn S)) ((by rw [h5 1 (by omega), s3 1 (by omega)]; exact hc.2.1.1)) ?_
      refine n_icmp_ge 115 dX2_find_22 (by decide) (by omega) (by omega) (fun g1 => ?_) (fun g1 => ?_)
      · have : b = tn S := by omega
        subst this
        rcases h4 with ⟨e, -⟩ | ⟨co, a, q1, q2, c1, c2, r1, r2, r3, r4, r5, r6, r7, r8, r9, r10⟩
        · omega
        · exact m_vret dX2_find_115 rfl (Nat.le_refl _) (Nat.le_refl _) (⟨rfl, ⟨co, a, q1, q2, ⟨r1, r2, c1, c2, r3, r4, r5, r10⟩, r6, r7, r8, r9⟩, fun a ha => by rw [h5 a (by omega)]; exact s3 a (by omega)⟩)
      · exact absurd g1 (by omega)
    | succ z ih =>
      intro b m' x6 x7 h1 h2 h3 h4 h5
      have y1 : tn S - (b + 1) = z := by clear h4; omega
      have y2 : 1 ≤ b + 1 := by clear h4; omega
      have y3 : b + 1 ≤ tn S := by clear h4; omega
      obtain ⟨c1, q1, k1, k2, k3⟩ := s1.bst hf1 hw (a := b) h2 (by omega)
      obtain ⟨c2, q2, l1, l2, l3⟩ := s2.bst hf1 hw (a := tn S - b) (by omega) (by omega)
      have u1 := gL_le hok (a := b) (q := q1) (by omega) k1.1
      have u2 := gR_le hok (a := tn S - b) (q := q2) (by omega) l1.1
      have u3 := k1.2.1
      have u4 := l1.2.1
      refine e_iload dX2_find_16 rfl ?_
      refine e_aload_n dX2_find_18 rfl rfl ?_
      refine m_get 5 1 lf_X2_39 dX2_find_19 (ly_1 B _ _) rfl ?_
      refine e_top (w := nI (tn S)) ((by rw [h5 1 (by omega), s3 1 (by omega)]; exact hc.2.1.1)) ?_
      refine n_icmp_ge 115 dX2_find_22 (by decide) (by omega) (by omega) (fun g1 => ?_) (fun g1 => ?_)
      · exact absurd g1 (by omega)
      · refine e_aload_n dX2_find_25 rfl rfl ?_
        refine m_get 5 1 lf_X2_39 dX2_find_26 (ly_1 B _ _) rfl ?_
        refine e_top (w := nI (tn S)) ((by rw [h5 1 (by omega), s3 1 (by omega)]; exact hc.2.1.1)) ?_
        refine e_iload dX2_find_29 rfl ?_
        refine e_isub dX2_find_31 ?_
        refine e_top (w := nI ((tn S) - b)) (pk_sub (by omega)) ?_
        refine e_istore dX2_find_32 (by decide) rfl ?_
        refine e_aload_n dX2_find_34 rfl rfl ?_
        refine m_get 2 0 lf_X2_12 dX2_find_35 (ly_196 B _ _) rfl ?_
        refine m_get 6 1 lf_X2_44 dX2_find_38 (ly_197 B _ _) rfl ?_
        refine e_iload dX2_find_41 rfl ?_
        refine m_iald (b) dX2_find_43 (ly_199 B _ _) (rfl) (by omega) (by decide) ?_
        refine e_top (w := nI c1) ((by rw [h5 199 (by omega)]; exact k3)) ?_
        refine e_aload_n dX2_find_44 rfl rfl ?_
        refine m_get 2 1 lf_X2_18 dX2_find_45 (ly_196 B _ _) rfl ?_
        refine m_get 6 1 lf_X2_44 dX2_find_48 (ly_200 B _ _) rfl ?_
        refine e_iload dX2_find_51 rfl ?_
        refine m_iald ((tn S) - b) dX2_find_53 (ly_202 B _ _) (rfl) (by omega) (by decide) ?_
        refine e_top (w := nI c2) ((by rw [h5 202 (by omega)]; exact l3)) ?_
        refine e_iadd dX2_find_54 ?_
        refine e_top (w := nI (c1 + c2)) (nI_add _ _) ?_
        refine e_iload dX2_find_55 rfl ?_
        refine e_iadd dX2_find_57 ?_
        refine e_top (w := nI ((c1 + c2) + (pp S 4))) (nI_add _ _) ?_
        refine e_istore dX2_find_58 (by decide) rfl ?_
        refine e_iload dX2_find_60 rfl ?_
        refine e_aload_n dX2_find_62 rfl rfl ?_
        refine m_get 2 2 lf_X2_22 dX2_find_63 (ly_196 B _ _) rfl ?_
        -- the best so far
        have cur : ∃ bc, m' 196 2 = nI bc ∧ bc ≤ 1000000 ∧ ∀ b' d1 d2 z1 z2, 1 ≤ b' → b' < b → bst S (gL S b') d1 z1 → bst S (gR S (tn S - b')) d2 z2 → bc ≤ d1 + d2 + pp S 4 := by
          rcases h4 with ⟨e, e2⟩ | ⟨co, a, y1, y2, e1, e2, r1, r2, r3, r4, r5, r6, r7, r8, r9, r10⟩
          · exact ⟨1000000, e2, Nat.le_refl _, fun b' d1 d2 z1 z2 h7 h8 => by omega⟩
          · have v1 := gL_le hok (a := a) (q := y1) (by omega) r3.1
            have v2 := gR_le hok (a := tn S - a) (q := y2) (by omega) r4.1
            have v3 := r3.2.1
            have v4 := r4.2.1
            exact ⟨co, r6, by omega, fun b' d1 d2 z1 z2 h7 h8 h9 h10 => (r10 b' d1 d2 z1 z2 h7 h8 h9 h10).1⟩
        obtain ⟨cb, e1, e2, e3⟩ := cur
        refine e_top (w := nI cb) (e1) ?_
        refine n_icmp_ge 109 dX2_find_66 (by decide) (by omega) (by omega) (fun g2 => ?_) (fun g2 => ?_)
        · refine e_iinc (v := nI (b + 1)) dX2_find_109 rfl (nI_add _ _) (by decide) rfl ?_
          refine e_goto 16 dX2_find_112 (by decide) ?_
          refine ih (b + 1) m' _ _ y1 y2 y3 ?_ h5
          rcases h4 with ⟨e, e4⟩ | ⟨co, a, y1, y2, w1, w2, r1, r2, r3, r4, r5, r6, r7, r8, r9, r10⟩
          · have : cb = 1000000 := (nI_eq (by omega) (by omega)).mp (e1.symm.trans e4)
            omega
          · have v1 := gL_le hok (a := a) (q := y1) (by omega) r3.1
            have v2 := gR_le hok (a := tn S - a) (q := y2) (by omega) r4.1
            have v3 := r3.2.1
            have v4 := r4.2.1
            have : cb = co := (nI_eq (by omega) (by omega)).mp (e1.symm.trans r6)
            refine Or.inr ⟨co, a, y1, y2, w1, w2, r1, by omega, r3, r4, r5, r6, r7, r8, r9, fun b' d1 d2 z1 z2 h7 h8 h9 h10 => ?_⟩
            by_cases eb : b' = b
            · subst eb
              obtain ⟨rfl, rfl⟩ := bst_uniq h9 k1
              obtain ⟨rfl, rfl⟩ := bst_uniq h10 l1
              exact ⟨by omega, fun _ => by omega⟩
            · exact r10 b' d1 d2 z1 z2 h7 (by omega) h9 h10
        · refine e_aload_n dX2_find_69 rfl rfl ?_
          refine e_iload dX2_find_70 rfl ?_
          refine m_puti 2 2 lp_X2_22 dX2_find_72 (ly_196 B _ _) (Nat.le_of_ble_eq_true rfl) (ly_196 B _ _) rfl ?_
          refine e_aload_n dX2_find_75 rfl rfl ?_
          refine e_iload dX2_find_76 rfl ?_
          refine m_puti 2 3 lp_X2_26 dX2_find_78 (ly_196 B _ _) (Nat.le_of_ble_eq_true rfl) (ly_196 B _ _) rfl ?_
          refine e_aload_n dX2_find_81 rfl rfl ?_
          refine e_aload_n dX2_find_82 rfl rfl ?_
          refine m_get 2 0 lf_X2_12 dX2_find_83 (ly_196 B _ _) rfl ?_
          refine m_get 6 0 lf_X2_48 dX2_find_86 (ly_197 B _ _) rfl ?_
          refine e_iload dX2_find_89 rfl ?_
          refine m_iald (b) dX2_find_91 (ly_198 B _ _) (rfl) (by omega) (by decide) ?_
          refine e_top (w := nI q1) (by rw [wr_off _ _ (by omega), wr_off _ _ (by omega), h5 198 (by omega)]; exact k2) ?_
          refine m_puti 2 4 lp_X2_29 dX2_find_92 (ly_196 B _ _) (Nat.le_of_ble_eq_true rfl) (ly_196 B _ _) rfl ?_
          refine e_aload_n dX2_find_95 rfl rfl ?_
          refine e_aload_n dX2_find_96 rfl rfl ?_
          refine m_get 2 1 lf_X2_18 dX2_find_97 (ly_196 B _ _) rfl ?_
          refine m_get 6 0 lf_X2_48 dX2_find_100 (ly_200 B _ _) rfl ?_
          refine e_iload dX2_find_103 rfl ?_
          refine m_iald ((tn S) - b) dX2_find_105 (ly_201 B _ _) (rfl) (by omega) (by decide) ?_
          refine e_top (w := nI q2) (by rw [wr_off _ _ (by omega), wr_off _ _ (by omega), wr_off _ _ (by omega), h5 201 (by omega)]; exact l2) ?_
          refine m_puti 2 5 lp_X2_32 dX2_find_106 (ly_196 B _ _) (Nat.le_of_ble_eq_true rfl) (ly_196 B _ _) rfl ?_
          refine e_iinc (v := nI (b + 1)) dX2_find_109 rfl (nI_add _ _) (by decide) rfl ?_
          refine e_goto 16 dX2_find_112 (by decide) ?_
          refine ih (b + 1) _ _ _ y1 y2 y3 (Or.inr ⟨c1 + c2 + pp S 4, b, q1, q2, c1, c2, h2, Nat.lt_succ_self b, k1, l1, rfl, ?_, ?_, ?_, ?_, fun b' d1 d2 z1 z2 h7 h8 h9 h10 => ?_⟩) (fun a ha => by rw [wr_off _ _ ha, wr_off _ _ ha, wr_off _ _ ha, wr_off _ _ ha]; exact h5 a ha)
          · simp [wr]
          · simp [wr]
          · simp [wr]
          · simp [wr]
          · by_cases eb : b' = b
            · subst eb
              obtain ⟨rfl, rfl⟩ := bst_uniq h9 k1
              obtain ⟨rfl, rfl⟩ := bst_uniq h10 l1
              exact ⟨Nat.le_refl _, fun h => by omega⟩
            · have := e3 b' d1 d2 z1 z2 h7 (by omega) h9 h10
              exact ⟨by omega, fun _ => by omega⟩
  exact loop (tn S - 1) 1 _ none none (by omega) (by omega) (by omega) (Or.inl ⟨rfl, wr_same _ _ _ _⟩) (fun a ha => wr_off _ _ ha)
def R_part (S : sp_S) (x v : Int32) : Prop := ((∀ k, k < 4 → x ≠ nI k) ∧ v = -2) ∨ (∃ k, k < 4 ∧ x = nI k ∧ (((wn S = 0 ∨ tn S < 2) ∧ v = -3) ∨ (0 < wn S ∧ 2 ≤ tn S ∧ ∃ co a q1 q2, R_best S co a q1 q2 ∧ v = nI (if k = 0 then co else if k = 1 then a else if k = 2 then q1 else q2))))
set_option maxRecDepth 100000 in
set_option maxHeartbeats 1000000 in
/-- SuggestSpell.parting -/
theorem c_parting (m : mm_M) {S : sp_S} (x : Int32) (hc : cs m S) : mm_F l D kA B sz o 7 164 mX9_parting [.ref (B + 0), .int x] m (fun v m' => (∃ y, v = some (.int y) ∧ R_part S x y) ∧ fr m m') := by
  have n60 := hc.1.2.2.1
  have t12 := hc.1.1
  refine mm_F.of ?_
  refine e_iload_n dX9_parting_0 rfl rfl ?_
  refine e_if_lt 9 dX9_parting_1 (by decide) (fun g1 => ?_) (fun g1 => ?_)
  · refine e_bipush (v := -2) dX9_parting_9 (by decide) ?_
    exact m_iret dX9_parting_11 rfl (Nat.le_refl _) (Nat.le_refl _) (⟨⟨_, rfl, Or.inl ⟨fun z hz e => nI_pos (n := z) (by omega) (e ▸ g1), rfl⟩⟩, fr.rf _⟩)
  · obtain ⟨k, k1, rfl⟩ := nI_of g1
    refine e_iload_n dX9_parting_4 rfl rfl ?_
    refine e_iconst (v := nI 3) dX9_parting_5 (by decide) ?_
    refine n_icmp_le 12 dX9_parting_6 (by decide) (by omega) (by omega) (fun g2 => ?_) (fun g2 => ?_)
    · refine e_aload_n dX9_parting_12 rfl rfl ?_
      refine m_get 9 2 lf_X9_26 dX9_parting_13 (ly_0 B _ _) rfl ?_
      refine m_get 8 4 lf_X9_85 dX9_parting_16 (ly_32 B _ _) rfl ?_
      refine e_top (w := nI (wn S)) (hc.2.2.2.1) ?_
      refine n_if_eq 33 dX9_parting_19 (by decide) (by omega) (fun g3 => ?_) (fun g3 => ?_)
      · refine e_bipush (v := -3) dX9_parting_33 (by decide) ?_
        exact m_iret dX9_parting_35 rfl (Nat.le_refl _) (Nat.le_refl _) (⟨⟨_, rfl, Or.inr ⟨k, by omega, rfl, Or.inl ⟨Or.inl g3, rfl⟩⟩⟩, fr.rf _⟩)
      · refine e_aload_n dX9_parting_22 rfl rfl ?_
        refine m_get 9 0 lf_X9_10 dX9_parting_23 (ly_0 B _ _) rfl ?_
        refine m_get 5 1 lf_X9_74 dX9_parting_26 (ly_1 B _ _) rfl ?_
        refine e_top (w := nI (tn S)) (hc.2.1.1) ?_
        refine e_iconst (v := nI 2) dX9_parting_29 (by decide) ?_
        refine n_icmp_ge 36 dX9_parting_30 (by decide) (by omega) (by omega) (fun g4 => ?_) (fun g4 => ?_)
        · refine e_aload_n dX9_parting_36 rfl rfl ?_
          refine m_get 9 6 lf_X9_56 dX9_parting_37 (ly_0 B _ _) rfl ?_
          refine e_aload_n dX9_parting_40 rfl rfl ?_
          refine m_get 9 0 lf_X9_10 dX9_parting_41 (ly_0 B _ _) rfl ?_
          refine e_aload_n dX9_parting_44 rfl rfl ?_
          refine m_get 9 2 lf_X9_26 dX9_parting_45 (ly_0 B _ _) rfl ?_
          refine e_aload_n dX9_parting_48 rfl rfl ?_
          refine m_get 9 4 lf_X9_42 dX9_parting_49 (ly_0 B _ _) rfl ?_
          refine e_aload_n dX9_parting_52 rfl rfl ?_
          refine m_get 9 1 lf_X9_19 dX9_parting_53 (ly_0 B _ _) rfl ?_
          refine m_get 3 0 lf_X9_109 dX9_parting_56 (ly_3 B _ _) rfl ?_
          refine e_iconst (v := nI 4) dX9_parting_59 (by decide) ?_
          refine m_iald (4) dX9_parting_60 (ly_4 B _ _) (rfl) (by omega) (by decide) ?_
          refine e_top (w := nI (pp S 4)) (hc.2.2.1.1 4 (by omega)) ?_
          refine m_callV (As := [_, _, _, _]) lc_X9_148 dX9_parting_61 (ly_196 B _ _) rfl rfl (by simp [Value.category]) (Nat.le_of_ble_eq_true rfl) (Nat.le_of_ble_eq_true rfl) ⟨Nat.le_of_ble_eq_true rfl, Nat.le_of_ble_eq_true rfl⟩ ⟨Nat.le_of_ble_eq_true rfl, Nat.le_of_ble_eq_true rfl⟩ (c_find m hc (by omega) g4) (fun v9 m1 hp9 => ?_)
          obtain ⟨rfl, ⟨co, a, q1, q2, b1, b2, b3, b4, b5⟩, b6⟩ := hp9
          refine e_iload_n dX9_parting_64 rfl rfl ?_
          have tk : (nI k).toInt = (k : Int) := nI_toInt k1
          rcases (show k = 0 ∨ k = 1 ∨ k = 2 ∨ k = 3 by omega) with rfl | rfl | rfl | rfl
          · refine e_tblIn 92 dX9_parting_65 (by rw [tk]; decide) (by rw [tk]; decide) (by rw [tk]; rfl) (by decide) ?_
            refine e_aload_n dX9_parting_92 rfl rfl ?_
            refine m_get 9 6 lf_X9_56 dX9_parting_93 (ly_0 B _ _) rfl ?_
            refine m_get 2 2 lf_X9_152 dX9_parting_96 (ly_196 B _ _) rfl ?_
            exact m_iret dX9_parting_99 rfl (Nat.le_refl _) (Nat.le_refl _) (⟨⟨_, rfl, Or.inr ⟨0, by omega, rfl, Or.inr ⟨by omega, g4, co, a, q1, q2, b1, b2⟩⟩⟩, b6⟩)
          · refine e_tblIn 100 dX9_parting_65 (by rw [tk]; decide) (by rw [tk]; decide) (by rw [tk]; rfl) (by decide) ?_
            refine e_aload_n dX9_parting_100 rfl rfl ?_
            refine m_get 9 6 lf_X9_56 dX9_parting_101 (ly_0 B _ _) rfl ?_
            refine m_get 2 3 lf_X9_155 dX9_parting_104 (ly_196 B _ _) rfl ?_
            exact m_iret dX9_parting_107 rfl (Nat.le_refl _) (Nat.le_refl _) (⟨⟨_, rfl, Or.inr ⟨1, by omega, rfl, Or.inr ⟨by omega, g4, co, a, q1, q2, b1, b3⟩⟩⟩, b6⟩)
          · refine e_tblIn 108 dX9_parting_65 (by rw [tk]; decide) (by rw [tk]; decide) (by rw [tk]; rfl) (by decide) ?_
            refine e_aload_n dX9_parting_108 rfl rfl ?_
            refine m_get 9 6 lf_X9_56 dX9_parting_109 (ly_0 B _ _) rfl ?_
            refine m_get 2 4 lf_X9_158 dX9_parting_112 (ly_196 B _ _) rfl ?_
            exact m_iret dX9_parting_115 rfl (Nat.le_refl _) (Nat.le_refl _) (⟨⟨_, rfl, Or.inr ⟨2, by omega, rfl, Or.inr ⟨by omega, g4, co, a, q1, q2, b1, b4⟩⟩⟩, b6⟩)
          · refine e_tblOut 116 dX9_parting_65 (by rw [tk]; decide) (by decide) ?_
            refine e_aload_n dX9_parting_116 rfl rfl ?_
            refine m_get 9 6 lf_X9_56 dX9_parting_117 (ly_0 B _ _) rfl ?_
            refine m_get 2 5 lf_X9_161 dX9_parting_120 (ly_196 B _ _) rfl ?_
            exact m_iret dX9_parting_123 rfl (Nat.le_refl _) (Nat.le_refl _) (⟨⟨_, rfl, Or.inr ⟨3, by omega, rfl, Or.inr ⟨by omega, g4, co, a, q1, q2, b1, b5⟩⟩⟩, b6⟩)
        · refine e_bipush (v := -3) dX9_parting_33 (by decide) ?_
          exact m_iret dX9_parting_35 rfl (Nat.le_refl _) (Nat.le_refl _) (⟨⟨_, rfl, Or.inr ⟨k, by omega, rfl, Or.inl ⟨Or.inr (by omega), rfl⟩⟩⟩, fr.rf _⟩)
    · refine e_bipush (v := -2) dX9_parting_9 (by decide) ?_
      exact m_iret dX9_parting_11 rfl (Nat.le_refl _) (Nat.le_refl _) (⟨⟨_, rfl, Or.inl ⟨fun z hz e => by have := (nI_eq k1 (by omega)).mp e; omega, rfl⟩⟩, fr.rf _⟩)
end PRT
