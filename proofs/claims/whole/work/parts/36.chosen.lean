theorem skol {P : Nat → Nat → Prop} {n : Nat} (h : ∀ j, j < n → ∃ x, P j x) : ∃ f : Nat → Nat, ∀ j, j < n → P j (f j) := by
  have h2 : ∀ j, ∃ x, j < n → P j x := fun j => by
    by_cases e : j < n
    · obtain ⟨x, hx⟩ := h j e
      exact ⟨x, fun _ => hx⟩
    · exact ⟨0, fun z => absurd z e⟩
  exact ⟨fun j => Classical.choose (h2 j), fun j hj => Classical.choose_spec (h2 j) hj⟩
/-- c is what the rest of THE LINE costs from the token on that d tokens follow, with word q there -/
def vr (S : sp_S) (lim : Nat) : Nat → Nat → Nat → Prop
  | 0, q, c => q < wn S ∧ dk S (kn S - 1) q ≤ lim ∧ c = dk S (kn S - 1) q
  | d + 1, q, c => q < wn S ∧ dk S (kn S - 1 - (d + 1)) q ≤ lim ∧ ∃ v e, vr S lim d v e ∧ c = dk S (kn S - 1 - (d + 1)) q + (e + np S q v) ∧ ∀ u e', vr S lim d u e' → e + np S q v ≤ e' + np S q u
theorem vr_w {S : sp_S} {lim : Nat} : ∀ {d q c : Nat}, vr S lim d q c → q < wn S
  | 0, _, _, h => h.1
  | _ + 1, _, _, h => h.1
theorem vr_f {S : sp_S} {lim : Nat} : ∀ {d q c c' : Nat}, vr S lim d q c → vr S lim d q c' → c = c'
  | 0, _, _, _, h, h' => h.2.2.trans h'.2.2.symm
  | _ + 1, _, _, _, ⟨_, _, v, e, a1, a2, a3⟩, ⟨_, _, u, e', b1, b2, b3⟩ => by
    have := a3 u e' b1
    have := b3 v e a1
    omega
theorem np_le {S : sp_S} (h : ok S) (a b : Nat) : np S a b ≤ 50 := by
  have := h.2.2.2.2.2.2.2.1
  unfold np
  split <;> omega
theorem vr_le {S : sp_S} {lim : Nat} (h : ok S) (hl : lim ≤ 50) : ∀ {d q c : Nat}, vr S lim d q c → c ≤ 100 * (d + 1)
  | 0, _, _, ⟨_, a, b⟩ => by omega
  | d + 1, q, _, ⟨_, a, v, e, b1, b2, _⟩ => by
    have := vr_le h hl b1
    have := np_le h q v
    omega
/-- the least, of like ones the first in ORDER -/
def fstW (S : sp_S) (G : Nat → Nat → Prop) (q c : Nat) : Prop := q < wn S ∧ G q c ∧ ∀ z e, G z e → c ≤ e ∧ (e = c → z = q ∨ wa S q z)
theorem fstW_uniq {S : sp_S} {G : Nat → Nat → Prop} {q q' c c' : Nat} (h : fstW S G q c) (h' : fstW S G q' c') : q = q' ∧ c = c' := by
  obtain ⟨a1, a2, a3⟩ := h
  obtain ⟨b1, b2, b3⟩ := h'
  have e1 := a3 q' c' b2
  have e2 := b3 q c a2
  have ec : c = c' := by omega
  subst ec
  refine ⟨?_, rfl⟩
  rcases e1.2 rfl with e | e
  · exact e.symm
  · rcases e2.2 rfl with e3 | e3
    · exact e3
    · exact (ah_asym e e3).elim
/-- what may follow word a, with d tokens behind -/
def gn (S : sp_S) (lim d a : Nat) (v e : Nat) : Prop := ∃ c, vr S lim d v c ∧ e = c + np S a v
/-- CHOSEN, up to token z -/
def chn (S : sp_S) (lim : Nat) (x : Nat → Nat) (c z : Nat) : Prop := fstW S (vr S lim (kn S - 1)) (x 0) c ∧ ∀ t, t < z → ∃ e, fstW S (gn S lim (kn S - 1 - (t + 1)) (x t)) (x (t + 1)) e
theorem chn_uniq {S : sp_S} {lim : Nat} {x y : Nat → Nat} {c c' z z' : Nat} (h : chn S lim x c z) (h' : chn S lim y c' z') : c = c' ∧ ∀ t, t ≤ z → t ≤ z' → x t = y t := by
  obtain ⟨a1, a2⟩ := h
  obtain ⟨b1, b2⟩ := h'
  obtain ⟨e1, e2⟩ := fstW_uniq a1 b1
  refine ⟨e2, fun t => ?_⟩
  induction t with
  | zero => exact fun _ _ => e1
  | succ t ih =>
    intro h1 h2
    obtain ⟨e, f1⟩ := a2 t (by omega)
    obtain ⟨e', f2⟩ := b2 t (by omega)
    rw [ih (by omega) (by omega)] at f1
    exact (fstW_uniq f1 f2).1
def R_ch (S : sp_S) (x k v : Int32) : Prop := (¬ inr x 0 50 ∧ v = -2) ∨ (inr x 0 50 ∧ k ≠ -1 ∧ (∀ z, z < kn S → k ≠ nI z) ∧ v = -1) ∨ (inr x 0 50 ∧ (k = -1 ∨ ∃ z, z < kn S ∧ k = nI z) ∧ (kn S = 0 ∨ ∀ q c, ¬ vr S x.toNatClampNeg (kn S - 1) q c) ∧ v = -3) ∨ (inr x 0 50 ∧ k = -1 ∧ 0 < kn S ∧ ∃ y c, chn S x.toNatClampNeg y c 0 ∧ v = nI c) ∨ (inr x 0 50 ∧ ∃ z, z < kn S ∧ k = nI z ∧ ∃ y c, chn S x.toNatClampNeg y c z ∧ v = nI (y z))
section CHS
variable {l : Launch} {D : va_G} {kA : FieldType → ClassId} {B sz : Nat} {o : Int64}
/-- what the costs say at token k, place j -/
def crp (S : sp_S) (lim : Nat) (f : Nat → Nat) (k j x : Nat) : Prop := x ≤ 1000000 + 200 * (kn S - 1 - k) ∧ (vr S lim (kn S - 1 - k) (f j) x ∨ ((∀ c, ¬ vr S lim (kn S - 1 - k) (f j) c) ∧ 1000000 ≤ x))
/-- a row of the tables that is done -/
def dn (m : mm_M) (S : sp_S) (lim : Nat) (f : Nat → Nat) (k j : Nat) : Prop := (∃ x, m (212 + k) j = nI x ∧ crp S lim f k j x) ∧ (k + 1 < kn S → (∃ c, vr S lim (kn S - 1 - k) (f j) c) → ∃ j0, j0 < wn S ∧ m (219 + k) j = nI j0 ∧ ∃ e, fstW S (gn S lim (kn S - 1 - (k + 1)) (f j)) (f j0) e)
theorem dn.of {m m' : mm_M} {S : sp_S} {lim k j : Nat} {f : Nat → Nat} (h : dn m S lim f k j) (h1 : m' (212 + k) j = m (212 + k) j) (h2 : m' (219 + k) j = m (219 + k) j) : dn m' S lim f k j := by
  unfold dn
  rw [h1, h2]
  exact h
/-- the step of the tables -/
theorem crp_step {m : mm_M} {S : sp_S} {lim k i j0 : Nat} {f x : Nat → Nat} (hok : ok S) (hl : lim ≤ 50) (hf : or_at m (wn S) f (wl S) (wt S)) (hk : k + 1 < kn S) (hi : i < wn S) (hd : dk S k (f i) ≤ lim) (hx : ∀ j, j < wn S → crp S lim f (k + 1) j (x j)) (hj : fm (fun j => x j + np S (f i) (f j)) (wn S) j0) :
    crp S lim f k i (dk S k (f i) + (x j0 + np S (f i) (f j0))) ∧ ((∃ c, vr S lim (kn S - 1 - k) (f i) c) → ∃ e, fstW S (gn S lim (kn S - 1 - (k + 1)) (f i)) (f j0) e) := by
  obtain ⟨o1, o2, o3⟩ := hf
  obtain ⟨jl, jm⟩ := hj
  have ed : kn S - 1 - k = (kn S - 1 - (k + 1)) + 1 := by omega
  have ek : kn S - 1 - (kn S - 1 - (k + 1) + 1) = k := by omega
  have k6 := hok.2.2.2.2.2.2.2.2.2.1
  have nb := np_le hok (f i) (f j0)
  have xb := (hx j0 jl).1
  by_cases hex : ∃ v c, vr S lim (kn S - 1 - (k + 1)) v c
  · have key : vr S lim (kn S - 1 - (k + 1)) (f j0) (x j0) := by
      obtain ⟨v, c, hv⟩ := hex
      obtain ⟨j1, j2, rfl⟩ := o3 v (vr_w hv)
      have b1 := vr_le hok hl hv
      have nb1 := np_le hok (f i) (f j1)
      have h1 := (jm j1 j2).1
      dsimp only at h1
      have x1 : x j1 = c := by
        rcases (hx j1 j2).2 with e | ⟨e, -⟩
        · exact vr_f e hv
        · exact absurd hv (e c)
      rcases (hx j0 jl).2 with e | ⟨-, e⟩
      · exact e
      · omega
    have all : ∀ u e', vr S lim (kn S - 1 - (k + 1)) u e' → x j0 + np S (f i) (f j0) ≤ e' + np S (f i) u ∧ (e' + np S (f i) u = x j0 + np S (f i) (f j0) → u = f j0 ∨ wa S (f j0) u) := fun u e' hu => by
      obtain ⟨j1, j2, rfl⟩ := o3 u (vr_w hu)
      have x1 : x j1 = e' := by
        rcases (hx j1 j2).2 with e | ⟨e, -⟩
        · exact vr_f e hu
        · exact absurd hu (e e')
      have h1 := jm j1 j2
      dsimp only at h1
      rw [x1] at h1
      refine ⟨h1.1, fun e => ?_⟩
      rcases Nat.lt_trichotomy j1 j0 with c | c | c
      · have := h1.2 c; omega
      · exact Or.inl (by rw [c])
      · exact Or.inr (o2 j0 j1 c j2)
    refine ⟨⟨by omega, Or.inl ?_⟩, fun _ => ⟨_, (o1 j0 jl).2, ⟨_, key, rfl⟩, fun z e ⟨c, hc, he⟩ => ?_⟩⟩
    · rw [ed]
      refine ⟨(o1 i hi).2, by rw [ek]; exact hd, f j0, x j0, key, by rw [ek], fun u e' hu => (all u e' hu).1⟩
    · subst he
      exact all z c hc
  · have none9 : ∀ c, ¬ vr S lim (kn S - 1 - k) (f i) c := fun c hc => by
      rw [ed] at hc
      obtain ⟨-, -, v, e, h1, -⟩ := hc
      exact hex ⟨v, e, h1⟩
    refine ⟨⟨by omega, Or.inr ⟨none9, ?_⟩⟩, fun ⟨c, hc⟩ => absurd hc (none9 c)⟩
    rcases (hx j0 jl).2 with e | ⟨-, e⟩
    · exact absurd ⟨_, _, e⟩ hex
    · omega
def P_chs (m : mm_M) (S : sp_S) (lim : Nat) (v : Option Value) (m' : mm_M) : Prop := (∃ r, r ≤ 1002000 ∧ v = some (.int (nI r)) ∧ ((1000000 ≤ r ∧ (kn S = 0 ∨ ∀ q c, ¬ vr S lim (kn S - 1) q c)) ∨ (r < 1000000 ∧ 0 < kn S ∧ ∃ y, chn S lim y r (kn S - 1) ∧ ∀ t, t < kn S → m' 225 t = nI (y t)))) ∧ fr m m'
set_option maxRecDepth 100000 in
set_option maxHeartbeats 4000000 in
/-- Choice.choose -/
theorem c_choose (m : mm_M) {S : sp_S} {f : Nat → Nat} {lim : Nat} (hc : cs m S) (hf : or_at m (wn S) f (wl S) (wt S)) (hl : lim ≤ 50) (hd : ∀ t j, t < kn S → j < wn S → m (205 + t) j = nI (nv S lim t (f j))) : mm_F l D kA B sz o 2 50 mX0_choose [.ref (B + 203), .int (nI (kn S)), .ref (B + 32), .int (nI (pp S 5))] m (P_chs m S lim) := by
  have hok := hc.1
  have n60 := hok.2.2.1
  have k6 := hok.2.2.2.2.2.2.2.2.2.1
  obtain ⟨o1, o2, o3⟩ := id hf
  refine mm_F.of ?_
  refine e_iload_n dX0_choose_0 rfl rfl ?_
  refine e_iconst (v := nI 1) dX0_choose_1 (by decide) ?_
  refine n_icmp_lt 13 dX0_choose_2 (by decide) (by omega) (by omega) (fun g1 => ?_) (fun g1 => ?_)
  · refine e_ldc dX0_choose_13 lk_X0_49 ?_
    exact m_iret dX0_choose_15 rfl (Nat.le_refl _) (Nat.le_refl _) ⟨⟨1000000, by omega, rfl, Or.inl ⟨by omega, Or.inl (by omega)⟩⟩, fr.rf _⟩
  · refine e_aload_n dX0_choose_5 rfl rfl ?_
    refine m_get 8 4 lf_X0_32 dX0_choose_6 (ly_32 B _ _) rfl ?_
    refine e_top (w := nI (wn S)) (hc.2.2.2.1) ?_
    refine e_iconst (v := nI 1) dX0_choose_9 (by decide) ?_
    refine n_icmp_ge 16 dX0_choose_10 (by decide) (by omega) (by omega) (fun g2 => ?_) (fun g2 => ?_)
    · refine e_iload_n dX0_choose_16 rfl rfl ?_
      refine e_iconst (v := nI 1) dX0_choose_17 (by decide) ?_
      refine e_isub dX0_choose_18 ?_
      refine e_top (w := nI ((kn S) - 1)) (pk_sub (by omega)) ?_
      refine e_istore dX0_choose_19 (by decide) rfl ?_
      -- behind the tables
      have at103 : ∀ (m' : mm_M) (x4 x5 : Option Value), (∀ k j, k < kn S → j < wn S → dn m' S lim f k j) → (∀ a, a < 212 ∨ 225 ≤ a → m' a = m a) → mm_G l D kA B sz o 2 50 mX0_choose (P_chs m S lim) 103 [some (.ref (B + 203)), some (.int (nI (kn S))), some (.ref (B + 32)), some (.int (nI (pp S 5))), x4, x5] [] m' := by
        intro m' x4 x5 h1 h2
        obtain ⟨x, hx⟩ := skol (fun j hj => (h1 0 j (by omega) hj).1)
        refine e_aload_n dX0_choose_103 rfl rfl ?_
        refine e_aload_n dX0_choose_104 rfl rfl ?_
        refine m_get 8 4 lf_X0_32 dX0_choose_105 (ly_32 B _ _) rfl ?_
        refine e_top (w := nI (wn S)) ((by rw [h2 32 (by omega)]; exact hc.2.2.2.1)) ?_
        refine m_callV (As := [_]) lc_X0_54 dX0_choose_108 (ly_203 B _ _) rfl rfl (by simp [Value.category]) (Nat.le_of_ble_eq_true rfl) (Nat.le_of_ble_eq_true rfl) ⟨Nat.le_of_ble_eq_true rfl, Nat.le_of_ble_eq_true rfl⟩ ⟨Nat.le_of_ble_eq_true rfl, Nat.le_of_ble_eq_true rfl⟩ (c_cheapestFirst m' (x := x) g2 n60 (fun j hj => ⟨(hx j hj).1, by have := (hx j hj).2.1; omega⟩)) (fun v9 m2 hp9 => ?_)
        obtain ⟨rfl, j0, j1, rfl⟩ := hp9
        obtain ⟨x1, x2⟩ := hx j0 j1.1
        have j60 := j1.1
        have xb := x2.1
        have hf2 : or_at m2 (wn S) f (wl S) (wt S) := hf.of (h2 35 (by omega))
        refine e_istore dX0_choose_111 (by decide) rfl ?_
        refine e_aload_n dX0_choose_113 rfl rfl ?_
        refine m_get 0 1 lf_X0_16 dX0_choose_114 (ly_203 B _ _) rfl ?_
        refine e_iconst (v := nI 0) dX0_choose_117 (by decide) ?_
        refine m_aald (r := 212 + 0) (0) dX0_choose_118 (by decide) rfl (ly_211 B _ _) (rfl) (by omega) (by decide) (if_pos (by omega)) ?_
        refine e_iload dX0_choose_119 rfl ?_
        refine m_iald (j0) dX0_choose_121 (ly_cc B _ _ (i := 0) (by omega)) (rfl) (by omega) (by decide) ?_
        refine e_top (w := nI (x j0)) (x1) ?_
        refine e_ldc dX0_choose_122 lk_X0_49 ?_
        refine e_top (w := nI 1000000) rfl ?_
        refine n_icmp_ge 135 dX0_choose_124 (by decide) (by omega) (by omega) (fun g3 => ?_) (fun g3 => ?_)
        · refine e_aload_n dX0_choose_135 rfl rfl ?_
          refine m_get 0 1 lf_X0_16 dX0_choose_136 (ly_203 B _ _) rfl ?_
          refine e_iconst (v := nI 0) dX0_choose_139 (by decide) ?_
          refine m_aald (r := 212 + 0) (0) dX0_choose_140 (by decide) rfl (ly_211 B _ _) (rfl) (by omega) (by decide) (if_pos (by omega)) ?_
          refine e_iload dX0_choose_141 rfl ?_
          refine m_iald (j0) dX0_choose_143 (ly_cc B _ _ (i := 0) (by omega)) (rfl) (by omega) (by decide) ?_
          refine e_top (w := nI (x j0)) (x1) ?_
          refine m_iret dX0_choose_144 rfl (Nat.le_refl _) (Nat.le_refl _) ⟨⟨x j0, by omega, rfl, Or.inl ⟨g3, Or.inr (fun q c hq => ?_)⟩⟩, fun a ha => h2 a (by omega)⟩
          obtain ⟨jq, jq1, rfl⟩ := o3 q (vr_w hq)
          have b1 := vr_le hok hl hq
          have b2 := (j1.2 jq jq1).1
          rcases (hx jq jq1).2.2 with e | ⟨e, -⟩
          · rw [Nat.sub_zero] at e
            have := vr_f e hq
            omega
          · rw [Nat.sub_zero] at e
            exact e c hq
        · have v0 : vr S lim (kn S - 1) (f j0) (x j0) := by
            rcases x2.2 with e | ⟨-, e⟩
            · rw [Nat.sub_zero] at e; exact e
            · omega
          -- the pointers, where there is a way
          have hnx : ∃ nx : Nat → Nat → Nat, ∀ t j, t + 1 < kn S → j < wn S → (∃ c, vr S lim (kn S - 1 - t) (f j) c) → nx t j < wn S ∧ m2 (219 + t) j = nI (nx t j) ∧ ∃ e, fstW S (gn S lim (kn S - 1 - (t + 1)) (f j)) (f (nx t j)) e := by
            have : ∀ t j, ∃ y, t + 1 < kn S → j < wn S → (∃ c, vr S lim (kn S - 1 - t) (f j) c) → y < wn S ∧ m2 (219 + t) j = nI y ∧ ∃ e, fstW S (gn S lim (kn S - 1 - (t + 1)) (f j)) (f y) e := fun t j => by
              by_cases e : t + 1 < kn S ∧ j < wn S ∧ ∃ c, vr S lim (kn S - 1 - t) (f j) c
              · obtain ⟨y, y1, y2, y3⟩ := (h1 t j (by omega) e.2.1).2 e.1 e.2.2
                exact ⟨y, fun _ _ _ => ⟨y1, y2, y3⟩⟩
              · exact ⟨0, fun a b c => absurd ⟨a, b, c⟩ e⟩
            exact ⟨fun t j => Classical.choose (this t j), fun t j => Classical.choose_spec (this t j)⟩
          obtain ⟨nx, hnx⟩ := hnx
          have rw9 : ∀ t, t < kn S → rp nx j0 t < wn S ∧ ∃ c, vr S lim (kn S - 1 - t) (f (rp nx j0 t)) c := fun t => by
            induction t with
            | zero => exact fun _ => ⟨j1.1, x j0, by rw [Nat.sub_zero]; exact v0⟩
            | succ t ih =>
              intro ht
              obtain ⟨a1, a2⟩ := ih (by omega)
              obtain ⟨b1, -, e, b3⟩ := hnx t _ ht a1 a2
              obtain ⟨c, c1, -⟩ := b3.2.1
              exact ⟨b1, c, c1⟩
          refine e_aload_n dX0_choose_127 rfl rfl ?_
          refine e_iload dX0_choose_128 rfl ?_
          refine e_iload_n dX0_choose_130 rfl rfl ?_
          refine e_aload_n dX0_choose_131 rfl rfl ?_
          refine m_callV (As := [_, _, _]) lc_X0_58 dX0_choose_132 (ly_203 B _ _) rfl rfl (by simp [Value.category]) (Nat.le_of_ble_eq_true rfl) (Nat.le_of_ble_eq_true rfl) ⟨Nat.le_of_ble_eq_true rfl, Nat.le_of_ble_eq_true rfl⟩ ⟨Nat.le_of_ble_eq_true rfl, Nat.le_of_ble_eq_true rfl⟩ (c_keepRow m2 (f := f) (nx := nx) (j0 := j0) hf2 n60 k6 (by omega) j1.1 (fun t ht => by obtain ⟨a1, a2⟩ := rw9 t (by omega); obtain ⟨b1, b2, -⟩ := hnx t _ ht a1 a2; exact ⟨b2, b1⟩)) (fun v9 m3 hp9 => ?_)
          obtain ⟨rfl, r1, r2⟩ := hp9
          refine e_aload_n dX0_choose_135 rfl rfl ?_
          refine m_get 0 1 lf_X0_16 dX0_choose_136 (ly_203 B _ _) rfl ?_
          refine e_iconst (v := nI 0) dX0_choose_139 (by decide) ?_
          refine m_aald (r := 212 + 0) (0) dX0_choose_140 (by decide) rfl (ly_211 B _ _) (rfl) (by omega) (by decide) (if_pos (by omega)) ?_
          refine e_iload dX0_choose_141 rfl ?_
          refine m_iald (j0) dX0_choose_143 (ly_cc B _ _ (i := 0) (by omega)) (rfl) (by omega) (by decide) ?_
          refine e_top (w := nI (x j0)) ((by rw [r2 (212 + 0) (by omega)]; exact x1)) ?_
          refine m_iret dX0_choose_144 rfl (Nat.le_refl _) (Nat.le_refl _) ⟨⟨x j0, by omega, rfl, Or.inr ⟨by omega, by omega, fun t => f (rp nx j0 t), ⟨⟨(o1 j0 j1.1).2, v0, fun q c hq => ?_⟩, fun t ht => ?_⟩, r1⟩⟩, fun a ha => by rw [r2 a (by omega)]; exact h2 a (by omega)⟩
          · obtain ⟨jq, jq1, rfl⟩ := o3 q (vr_w hq)
            have b2 := j1.2 jq jq1
            have xq : x jq = c := by
              rcases (hx jq jq1).2.2 with e | ⟨e, -⟩
              · rw [Nat.sub_zero] at e; exact vr_f e hq
              · rw [Nat.sub_zero] at e; exact absurd hq (e c)
            refine ⟨by omega, fun e => ?_⟩
            rcases Nat.lt_trichotomy jq j0 with d | d | d
            · have := b2.2 d; omega
            · exact Or.inl (by rw [d]; rfl)
            · exact Or.inr (o2 j0 jq d jq1)
          · obtain ⟨a1, a2⟩ := rw9 t (by omega)
            obtain ⟨-, -, b3⟩ := hnx t _ (by omega) a1 a2
            exact b3
      -- from the last token to the first
      have outer : ∀ (k' : Nat) (m' : mm_M) (x5 : Option Value), k' ≤ kn S → (∀ k j, k' ≤ k → k < kn S → j < wn S → dn m' S lim f k j) → (∀ a, a < 212 ∨ 225 ≤ a → m' a = m a) → mm_G l D kA B sz o 2 50 mX0_choose (P_chs m S lim) 21 [some (.ref (B + 203)), some (.int (nI (kn S))), some (.ref (B + 32)), some (.int (nI (pp S 5))), some (.int (nI k' - 1)), x5] [] m' := by
        intro k'
        induction k' with
        | zero =>
          intro m' x5 h0 h1 h2
          refine e_iload dX0_choose_21 rfl ?_
          refine e_if_lt 103 dX0_choose_23 (by decide) (fun g3 => ?_) (fun g3 => ?_)
          · exact at103 m' _ _ (fun k j hk hj => h1 k j (by omega) hk hj) h2
          · exact absurd ((neg1_lt (by omega)).mpr rfl) g3
        | succ k ih =>
          intro m' x5 h0 h1 h2
          rw [nI_pred]
          refine e_iload dX0_choose_21 rfl ?_
          refine n_if_lt 103 dX0_choose_23 (by decide) (by omega) (fun g3 => ?_) (fun g3 => ?_)
          · exact absurd g3 (by omega)
          · refine e_iconst (v := nI 0) dX0_choose_26 (by decide) ?_
            refine e_istore dX0_choose_27 (by decide) rfl ?_
            have inner : ∀ (z i : Nat) (m2 : mm_M), wn S - i = z → i ≤ wn S → (∀ t j, k + 1 ≤ t → t < kn S → j < wn S → dn m2 S lim f t j) → (∀ j, j < i → dn m2 S lim f k j) → (∀ a, a < 212 ∨ 225 ≤ a → m2 a = m a) → mm_G l D kA B sz o 2 50 mX0_choose (P_chs m S lim) 29 [some (.ref (B + 203)), some (.int (nI (kn S))), some (.ref (B + 32)), some (.int (nI (pp S 5))), some (.int (nI k)), some (.int (nI i))] [] m2 := by
              intro z
              induction z with
              | zero =>
                intro i m2 e1 e2 e3 e4 e5
                refine e_iload dX0_choose_29 rfl ?_
                refine e_aload_n dX0_choose_31 rfl rfl ?_
                refine m_get 8 4 lf_X0_32 dX0_choose_32 (ly_32 B _ _) rfl ?_
                refine e_top (w := nI (wn S)) ((by rw [e5 32 (by omega)]; exact hc.2.2.2.1)) ?_
                refine n_icmp_ge 97 dX0_choose_35 (by decide) (by omega) (by omega) (fun g4 => ?_) (fun g4 => ?_)
                · refine e_iinc (v := nI k - 1) dX0_choose_97 rfl (by rw [Int32.sub_eq_add_neg]; rfl) (by decide) rfl ?_
                  refine e_goto 21 dX0_choose_100 (by decide) ?_
                  refine ih m2 _ (by omega) (fun t j a b c => ?_) e5
                  by_cases e : t = k
                  · subst e; exact e4 j (by omega)
                  · exact e3 t j (by omega) b c
                · exact absurd g4 (by omega)
              | succ z ih2 =>
                intro i m2 e1 e2 e3 e4 e5
                have iw : i < wn S := by omega
                have kk : k < kn S := by omega
                have dl := dk_le hok (t := k) (q := f i) kk (o1 i iw).2
                have nvb : nv S lim k (f i) ≤ 1000000 := by unfold nv; split <;> omega
                refine e_iload dX0_choose_29 rfl ?_
                refine e_aload_n dX0_choose_31 rfl rfl ?_
                refine m_get 8 4 lf_X0_32 dX0_choose_32 (ly_32 B _ _) rfl ?_
                refine e_top (w := nI (wn S)) ((by rw [e5 32 (by omega)]; exact hc.2.2.2.1)) ?_
                refine n_icmp_ge 97 dX0_choose_35 (by decide) (by omega) (by omega) (fun g4 => ?_) (fun g4 => ?_)
                · exact absurd g4 (by omega)
                · refine e_aload_n dX0_choose_38 rfl rfl ?_
                  refine m_get 0 1 lf_X0_16 dX0_choose_39 (ly_203 B _ _) rfl ?_
                  refine e_iload dX0_choose_42 rfl ?_
                  refine m_aald (r := 212 + k) (k) dX0_choose_44 (by decide) rfl (ly_211 B _ _) (rfl) (by omega) (by decide) (if_pos (by omega)) ?_
                  refine e_iload dX0_choose_45 rfl ?_
                  refine e_aload_n dX0_choose_47 rfl rfl ?_
                  refine m_get 0 0 lf_X0_11 dX0_choose_48 (ly_203 B _ _) rfl ?_
                  refine e_iload dX0_choose_51 rfl ?_
                  refine m_aald (r := 205 + k) (k) dX0_choose_53 (by decide) rfl (ly_204 B _ _) (rfl) (by omega) (by decide) (if_pos (by omega)) ?_
                  refine e_iload dX0_choose_54 rfl ?_
                  refine m_iald (i) dX0_choose_56 (ly_cd B _ _ (i := k) (by omega)) (rfl) (by omega) (by decide) ?_
                  refine e_top (w := nI (nv S lim k (f i))) ((by rw [e5 (205 + k) (by omega)]; exact hd k i kk iw)) ?_
                  refine m_iast (i) dX0_choose_57 (fun m => ly_cc B m _ (i := k) (by omega)) (rfl) (by omega) (by decide) ?_
                  refine e_aload_n dX0_choose_58 rfl rfl ?_
                  refine m_get 0 1 lf_X0_16 dX0_choose_59 (ly_203 B _ _) rfl ?_
                  refine e_iload dX0_choose_62 rfl ?_
                  refine m_aald (r := 212 + k) (k) dX0_choose_64 (by decide) rfl (ly_211 B _ _) (rfl) (by omega) (by decide) (if_pos (by omega)) ?_
                  refine e_iload dX0_choose_65 rfl ?_
                  refine m_iald (i) dX0_choose_67 (ly_cc B _ _ (i := k) (by omega)) (rfl) (by omega) (by decide) ?_
                  refine e_top (w := nI (nv S lim k (f i))) (wr_same _ _ _ _) ?_
                  -- the next place
                  have nxt : ∀ m3 : mm_M, dn m3 S lim f k i → (∀ j, j ≠ i → m3 (212 + k) j = m2 (212 + k) j ∧ m3 (219 + k) j = m2 (219 + k) j) → (∀ a, a ≠ 212 + k → a ≠ 219 + k → m3 a = m2 a) → mm_G l D kA B sz o 2 50 mX0_choose (P_chs m S lim) 91 [some (.ref (B + 203)), some (.int (nI (kn S))), some (.ref (B + 32)), some (.int (nI (pp S 5))), some (.int (nI k)), some (.int (nI i))] [] m3 := by
                    intro m3 d1 d2 d3
                    refine e_iinc (v := nI (i + 1)) dX0_choose_91 rfl (nI_add _ _) (by decide) rfl ?_
                    refine e_goto 29 dX0_choose_94 (by decide) ?_
                    refine ih2 (i + 1) m3 (by omega) (by omega) (fun t j a b c => (e3 t j a b c).of (by rw [d3 (212 + t) (by omega) (by omega)]) (by rw [d3 (219 + t) (by omega) (by omega)])) (fun j hj => ?_) (fun a ha => by rw [d3 a (by omega) (by omega)]; exact e5 a ha)
                    by_cases e : j = i
                    · subst e; exact d1
                    · exact (e4 j (by omega)).of (d2 j e).1 (d2 j e).2
                  refine e_ldc dX0_choose_68 lk_X0_49 ?_
                  refine e_top (w := nI 1000000) rfl ?_
                  refine n_icmp_ge 91 dX0_choose_70 (by decide) (by omega) (by omega) (fun g5 => ?_) (fun g5 => ?_)
                  · refine nxt _ ⟨⟨_, wr_same _ _ _ _, by omega, Or.inr ⟨fun c hcv => ?_, g5⟩⟩, fun _ ⟨c, hcv⟩ => ?_⟩ (fun j hj => ⟨wr_ne _ _ (Or.inr hj), by rw [wr_off _ _ (by omega)]⟩) (fun a a1 a2 => wr_off _ _ a1)
                    all_goals
                      have hle : dk S k (f i) ≤ lim := by
                        rcases Nat.eq_zero_or_pos (kn S - 1 - k) with e | e
                        · rw [e] at hcv
                          have := hcv.2.1
                          rw [show kn S - 1 = k by omega] at this
                          exact this
                        · rw [show kn S - 1 - k = (kn S - 1 - k - 1) + 1 by omega] at hcv
                          have := hcv.2.1
                          rw [show kn S - 1 - (kn S - 1 - k - 1 + 1) = k by omega] at this
                          exact this
                      unfold nv at g5
                      rw [if_pos hle] at g5
                      omega
                  · have hle : dk S k (f i) ≤ lim := by
                      rcases Nat.lt_or_ge lim (dk S k (f i)) with e | e
                      · unfold nv at g5
                        rw [if_neg (by omega)] at g5
                        omega
                      · exact e
                    have nve : nv S lim k (f i) = dk S k (f i) := by unfold nv; rw [if_pos hle]
                    refine e_iload dX0_choose_73 rfl ?_
                    refine e_iconst (v := nI 1) dX0_choose_75 (by decide) ?_
                    refine e_iadd dX0_choose_76 ?_
                    refine e_top (w := nI (k + 1)) (nI_add _ _) ?_
                    refine e_iload_n dX0_choose_77 rfl rfl ?_
                    refine n_icmp_ge 91 dX0_choose_78 (by decide) (by omega) (by omega) (fun g6 => ?_) (fun g6 => ?_)
                    · have ek : kn S - 1 = k := by omega
                      refine nxt _ ⟨⟨_, wr_same _ _ _ _, by omega, Or.inl ?_⟩, fun h => by omega⟩ (fun j hj => ⟨wr_ne _ _ (Or.inr hj), by rw [wr_off _ _ (by omega)]⟩) (fun a a1 a2 => wr_off _ _ a1)
                      rw [show kn S - 1 - k = 0 by omega, nve]
                      exact ⟨(o1 i iw).2, by rw [ek]; exact hle, by rw [ek]⟩
                    · have k5 : k + 1 < kn S := by omega
                      obtain ⟨x, hx⟩ := skol (fun j hj => (e3 (k + 1) j (by omega) k5 hj).1)
                      have hcw : cs (wr m2 (212 + k) i (nI (nv S lim k (f i)))) S := hc.of (fun a ha => by rw [wr_off _ _ (by omega)]; exact e5 a (by omega))
                      have hfw : or_at (wr m2 (212 + k) i (nI (nv S lim k (f i)))) (wn S) f (wl S) (wt S) := hf.of (by rw [wr_off _ _ (by omega)]; exact e5 35 (by omega))
                      refine e_aload_n dX0_choose_81 rfl rfl ?_
                      refine e_iload dX0_choose_82 rfl ?_
                      refine e_iload dX0_choose_84 rfl ?_
                      refine e_aload_n dX0_choose_86 rfl rfl ?_
                      refine e_iload_n dX0_choose_87 rfl rfl ?_
                      refine m_callV (As := [_, _, _, _]) lc_X0_50 dX0_choose_88 (ly_203 B _ _) rfl rfl (by simp [Value.category]) (Nat.le_of_ble_eq_true rfl) (Nat.le_of_ble_eq_true rfl) ⟨Nat.le_of_ble_eq_true rfl, Nat.le_of_ble_eq_true rfl⟩ ⟨Nat.le_of_ble_eq_true rfl, Nat.le_of_ble_eq_true rfl⟩ (c_goOn _ (f := f) (x := x) (k := k) (i := i) (c := dk S k (f i)) hcw hfw (by omega) iw (fun j hj => ⟨by rw [wr_off _ _ (by omega)]; exact (hx j hj).1, by have := (hx j hj).2.1; omega⟩) (by rw [wr_same, nve]) (by omega)) (fun v9 m3 hp9 => ?_)
                      obtain ⟨rfl, ⟨j0, q1, q2, q3⟩, q4, q5⟩ := hp9
                      obtain ⟨st1, st2⟩ := crp_step hok hl hf k5 iw hle (fun j hj => (hx j hj).2) q1
                      refine nxt m3 ⟨⟨_, q3, st1⟩, fun _ hcv => ⟨j0, q1.1, q2, st2 hcv⟩⟩ (fun j hj => ⟨by rw [(q4 j hj).2, wr_ne _ _ (Or.inr hj)], by rw [(q4 j hj).1, wr_off _ _ (by omega)]⟩) (fun a a1 a2 => by rw [q5 a a2 a1, wr_off _ _ a1])
            exact inner (wn S) 0 m' (by omega) (by omega) (fun t j a b c => h1 t j a b c) (fun j hj => by omega) h2
      have h9 := outer (kn S) m none (Nat.le_refl _) (fun k j a b c => by omega) (fun a _ => rfl)
      rw [show nI (kn S) - 1 = nI (kn S - 1) from by obtain ⟨q, hq⟩ : ∃ q, kn S = q + 1 := ⟨kn S - 1, by omega⟩; rw [hq, nI_pred, Nat.add_sub_cancel]] at h9
      exact h9
    · refine e_ldc dX0_choose_13 lk_X0_49 ?_
      exact m_iret dX0_choose_15 rfl (Nat.le_refl _) (Nat.le_refl _) ⟨⟨1000000, by omega, rfl, Or.inl ⟨by omega, Or.inr (fun q c hq => by have := vr_w hq; omega)⟩⟩, fr.rf _⟩
set_option maxRecDepth 100000 in
set_option maxHeartbeats 1000000 in
/-- SuggestSpell.chosen -/
theorem c_chosen (m : mm_M) {S : sp_S} (x k : Int32) (hc : cs m S) : mm_F l D kA B sz o 6 139 mX9_chosen [.ref (B + 0), .int x, .int k] m (fun v m' => (∃ y, v = some (.int y) ∧ R_ch S x k y) ∧ fr m m') := by
  have hok := hc.1
  have n60 := hok.2.2.1
  have k6 := hok.2.2.2.2.2.2.2.2.2.1
  refine mm_F.of ?_
  refine e_iload_n dX9_chosen_0 rfl rfl ?_
  refine m_callS (As := [_]) lc_X9_171 dX9_chosen_1 rfl rfl (by simp [Value.category]) (Nat.le_of_ble_eq_true rfl) (Nat.le_of_ble_eq_true rfl) ⟨Nat.le_of_ble_eq_true rfl, Nat.le_of_ble_eq_true rfl⟩ ⟨Nat.le_of_ble_eq_true rfl, Nat.le_of_ble_eq_true rfl⟩ (c_isLimit m x) (fun v9 m9 hp9 => ?_)
  obtain ⟨rfl, ⟨rfl, h1⟩ | ⟨rfl, h1⟩⟩ := hp9
  · refine e_if_ne 10 dX9_chosen_4 (by decide) (fun g1 => ?_) (fun g1 => ?_)
    · obtain ⟨lim, -, hl, rfl⟩ := inr_nat (lo := 0) (hi := 50) h1 (by omega) (by omega)
      have el : (nI lim).toNatClampNeg = lim := nI_clamp (by omega)
      -- within its bounds
      have go : (k = -1 ∨ ∃ z, z < kn S ∧ k = nI z) → mm_G l D kA B sz o 6 139 mX9_chosen (fun v m' => (∃ y, v = some (.int y) ∧ R_ch S (nI lim) k y) ∧ fr m9 m') 28 [some (.ref (B + 0)), some (.int (nI lim)), some (.int k), none] [] m9 := by
        intro hk
        obtain ⟨f, hf⟩ := hc.2.2.2.2.2.1
        refine e_aload_n dX9_chosen_28 rfl rfl ?_
        refine m_get 9 7 lf_X9_63 dX9_chosen_29 (ly_0 B _ _) rfl ?_
        refine e_aload_n dX9_chosen_32 rfl rfl ?_
        refine m_get 9 3 lf_X9_33 dX9_chosen_33 (ly_0 B _ _) rfl ?_
        refine e_aload_n dX9_chosen_36 rfl rfl ?_
        refine m_get 9 2 lf_X9_26 dX9_chosen_37 (ly_0 B _ _) rfl ?_
        refine e_aload_n dX9_chosen_40 rfl rfl ?_
        refine m_get 9 4 lf_X9_42 dX9_chosen_41 (ly_0 B _ _) rfl ?_
        refine e_iload_n dX9_chosen_44 rfl rfl ?_
        refine m_callV (As := [_, _, _, _]) lc_X9_174 dX9_chosen_45 (ly_203 B _ _) rfl rfl (by simp [Value.category]) (Nat.le_of_ble_eq_true rfl) (Nat.le_of_ble_eq_true rfl) ⟨Nat.le_of_ble_eq_true rfl, Nat.le_of_ble_eq_true rfl⟩ ⟨Nat.le_of_ble_eq_true rfl, Nat.le_of_ble_eq_true rfl⟩ (c_chMeasure m9 (lim := lim) hc hf hl) (fun v9 m1 hp9 => ?_)
        obtain ⟨rfl, a1, a2⟩ := hp9
        have fr1 : fr m9 m1 := fun a ha => a2 a (by omega)
        refine e_aload_n dX9_chosen_48 rfl rfl ?_
        refine m_get 9 7 lf_X9_63 dX9_chosen_49 (ly_0 B _ _) rfl ?_
        refine e_aload_n dX9_chosen_52 rfl rfl ?_
        refine m_get 9 3 lf_X9_33 dX9_chosen_53 (ly_0 B _ _) rfl ?_
        refine m_get 1 1 lf_X9_166 dX9_chosen_56 (ly_157 B _ _) rfl ?_
        refine e_top (w := nI (kn S)) ((by rw [fr1 157 (by omega)]; exact hc.2.2.2.2.2.2.2.1)) ?_
        refine e_aload_n dX9_chosen_59 rfl rfl ?_
        refine m_get 9 2 lf_X9_26 dX9_chosen_60 (ly_0 B _ _) rfl ?_
        refine e_aload_n dX9_chosen_63 rfl rfl ?_
        refine m_get 9 1 lf_X9_19 dX9_chosen_64 (ly_0 B _ _) rfl ?_
        refine m_get 3 0 lf_X9_109 dX9_chosen_67 (ly_3 B _ _) rfl ?_
        refine e_iconst (v := nI 5) dX9_chosen_70 (by decide) ?_
        refine m_iald (5) dX9_chosen_71 (ly_4 B _ _) (rfl) (by omega) (by decide) ?_
        refine e_top (w := nI (pp S 5)) ((by rw [fr1 4 (by omega)]; exact hc.2.2.1.1 5 (by omega))) ?_
        refine m_callV (As := [_, _, _]) lc_X9_177 dX9_chosen_72 (ly_203 B _ _) rfl rfl (by simp [Value.category]) (Nat.le_of_ble_eq_true rfl) (Nat.le_of_ble_eq_true rfl) ⟨Nat.le_of_ble_eq_true rfl, Nat.le_of_ble_eq_true rfl⟩ ⟨Nat.le_of_ble_eq_true rfl, Nat.le_of_ble_eq_true rfl⟩ (c_choose m1 (f := f) (lim := lim) (fr1.cs hc) (hf.of (fr1 35 (by omega))) hl a1) (fun v9 m2 hp9 => ?_)
        obtain ⟨⟨r, r1, rfl, r2⟩, r3⟩ := hp9
        have fr2 : fr m9 m2 := fr1.tr r3
        refine e_top (w := nI r) (rfl) ?_
        refine e_istore_n dX9_chosen_75 rfl (by decide) rfl ?_
        refine e_iload_n dX9_chosen_76 rfl rfl ?_
        refine e_ldc dX9_chosen_77 lk_X9_181 ?_
        refine e_top (w := nI 1000000) rfl ?_
        refine n_icmp_lt 85 dX9_chosen_79 (by decide) (by omega) (by omega) (fun g5 => ?_) (fun g5 => ?_)
        · have rr : r < 1000000 ∧ 0 < kn S ∧ ∃ y, chn S lim y r (kn S - 1) ∧ ∀ t, t < kn S → m2 225 t = nI (y t) := by
            rcases r2 with ⟨e, -⟩ | e
            · omega
            · exact e
          obtain ⟨-, k0, y, y1, y2⟩ := rr
          refine e_iload_n dX9_chosen_85 rfl rfl ?_
          refine e_iconst (v := -1) dX9_chosen_86 (by decide) ?_
          refine e_icmp_ne 94 dX9_chosen_87 (by decide) (fun g6 => ?_) (fun g6 => ?_)
          · rcases hk with rfl | ⟨z, z1, rfl⟩
            · exact absurd rfl g6
            · refine e_aload_n dX9_chosen_94 rfl rfl ?_
              refine m_get 9 7 lf_X9_63 dX9_chosen_95 (ly_0 B _ _) rfl ?_
              refine m_get 0 3 lf_X9_182 dX9_chosen_98 (ly_203 B _ _) rfl ?_
              refine e_iload_n dX9_chosen_101 rfl rfl ?_
              refine m_iald (z) dX9_chosen_102 (ly_225 B _ _) (rfl) (by omega) (by decide) ?_
              refine e_top (w := nI (y z)) (y2 z z1) ?_
              exact m_iret dX9_chosen_103 rfl (Nat.le_refl _) (Nat.le_refl _) (⟨⟨_, rfl, Or.inr (Or.inr (Or.inr (Or.inr ⟨h1, z, z1, rfl, y, r, ⟨by rw [el]; exact y1.1, fun t ht => by rw [el]; exact y1.2 t (by omega)⟩, rfl⟩)))⟩, fr2⟩)
          · subst g6
            refine e_iload_n dX9_chosen_90 rfl rfl ?_
            refine e_goto 103 dX9_chosen_91 (by decide) ?_
            exact m_iret dX9_chosen_103 rfl (Nat.le_refl _) (Nat.le_refl _) (⟨⟨_, rfl, Or.inr (Or.inr (Or.inr (Or.inl ⟨h1, rfl, k0, y, r, ⟨by rw [el]; exact y1.1, fun t ht => by omega⟩, rfl⟩)))⟩, fr2⟩)
        · have rr : kn S = 0 ∨ ∀ q c, ¬ vr S lim (kn S - 1) q c := by
            rcases r2 with ⟨-, e⟩ | ⟨e, -⟩
            · exact e
            · omega
          refine e_bipush (v := -3) dX9_chosen_82 (by decide) ?_
          exact m_iret dX9_chosen_84 rfl (Nat.le_refl _) (Nat.le_refl _) (⟨⟨_, rfl, Or.inr (Or.inr (Or.inl ⟨h1, hk, by rw [el]; exact rr, rfl⟩))⟩, fr2⟩)
      refine e_iload_n dX9_chosen_10 rfl rfl ?_
      refine e_iconst (v := -1) dX9_chosen_11 (by decide) ?_
      refine e_icmp_lt 26 dX9_chosen_12 (by decide) (fun g2 => ?_) (fun g2 => ?_)
      · have kn1 : k < 0 := Int32.lt_of_lt_of_le g2 (by decide)
        refine e_iconst (v := -1) dX9_chosen_26 (by decide) ?_
        exact m_iret dX9_chosen_27 rfl (Nat.le_refl _) (Nat.le_refl _) (⟨⟨_, rfl, Or.inr (Or.inl ⟨h1, fun e => by rw [e] at g2; exact Int32.lt_irrefl g2, fun z hz e => nI_pos (n := z) (by omega) (e ▸ kn1), rfl⟩)⟩, fr.rf _⟩)
      · refine e_iload_n dX9_chosen_15 rfl rfl ?_
        refine e_aload_n dX9_chosen_16 rfl rfl ?_
        refine m_get 9 3 lf_X9_33 dX9_chosen_17 (ly_0 B _ _) rfl ?_
        refine m_get 1 1 lf_X9_166 dX9_chosen_20 (ly_157 B _ _) rfl ?_
        refine e_top (w := nI (kn S)) (hc.2.2.2.2.2.2.2.1) ?_
        refine e_icmp_lt 28 dX9_chosen_23 (by decide) (fun g3 => ?_) (fun g3 => ?_)
        · refine go ?_
          by_cases e : k = -1
          · exact Or.inl e
          · have h0 : ¬ k < 0 := fun q => by
              have a1 := Int32.lt_iff_toInt_lt.mp q
              have a2 : ¬ k.toInt < (-1 : Int32).toInt := fun z => g2 (Int32.lt_iff_toInt_lt.mpr z)
              rw [show (-1 : Int32).toInt = -1 by decide] at a2
              rw [show (0 : Int32).toInt = 0 by decide] at a1
              have : k.toInt = -1 := by omega
              exact e (Int32.toInt_inj.mp (this.trans (by decide)))
            obtain ⟨z, z1, rfl⟩ := nI_of h0
            exact Or.inr ⟨z, (nI_ltI z1 (by omega)).mp g3, rfl⟩
        · refine e_iconst (v := -1) dX9_chosen_26 (by decide) ?_
          exact m_iret dX9_chosen_27 rfl (Nat.le_refl _) (Nat.le_refl _) (⟨⟨_, rfl, Or.inr (Or.inl ⟨h1, fun e => by rw [e] at g3; exact g3 (Int32.lt_of_lt_of_le (show (-1 : Int32) < 0 by decide) (nI_pos' (by omega))), fun z hz e => by rw [e] at g3; exact g3 (nI_lt hz (by omega)), rfl⟩)⟩, fr.rf _⟩)
    · exact absurd g1 (by decide)
  · refine e_if_ne 10 dX9_chosen_4 (by decide) (fun g1 => ?_) (fun g1 => ?_)
    · exact absurd rfl g1
    · refine e_bipush (v := -2) dX9_chosen_7 (by decide) ?_
      exact m_iret dX9_chosen_9 rfl (Nat.le_refl _) (Nat.le_refl _) (⟨⟨_, rfl, Or.inl ⟨h1, rfl⟩⟩, fr.rf _⟩)
end CHS
