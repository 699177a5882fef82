/-! THE STATE: what is typed, the words, the prices, the pairs, the line -/
abbrev sp_S : Type := (Nat × (Nat → Nat)) × (Nat × (Nat → Nat) × (Nat → Nat → Nat) × (Nat → Nat)) × ((Nat → Nat) × (Nat → Nat → Nat)) × (Nat → Nat → Bool) × (Nat × (Nat → Nat) × (Nat → Nat → Nat))
def tn (S : sp_S) : Nat := S.1.1
def tl (S : sp_S) : Nat → Nat := S.1.2
def wn (S : sp_S) : Nat := S.2.1.1
def wl (S : sp_S) : Nat → Nat := S.2.1.2.1
def wt (S : sp_S) : Nat → Nat → Nat := S.2.1.2.2.1
def wc (S : sp_S) : Nat → Nat := S.2.1.2.2.2
def pp (S : sp_S) : Nat → Nat := S.2.2.1.1
def ww (S : sp_S) : Nat → Nat → Nat := S.2.2.1.2
def pa (S : sp_S) : Nat → Nat → Bool := S.2.2.2.1
def kn (S : sp_S) : Nat := S.2.2.2.2.1
def kl (S : sp_S) : Nat → Nat := S.2.2.2.2.2.1
def kt (S : sp_S) : Nat → Nat → Nat := S.2.2.2.2.2.2
/-- word a is ahead of word b in ORDER -/
def wa (S : sp_S) (a b : Nat) : Prop := ah (wl S a) (wt S a) (wl S b) (wt S b)
/-- what the state itself keeps to -/
def ok (S : sp_S) : Prop := tn S ≤ 12 ∧ (∀ i, i < tn S → tl S i < 26) ∧ wn S ≤ 60 ∧ (∀ q, q < wn S → 1 ≤ wl S q ∧ wl S q ≤ 12 ∧ (∀ i, i < wl S q → wt S q i < 26) ∧ 1 ≤ wc S q ∧ wc S q ≤ 1000) ∧ (∀ a b, a < wn S → b < wn S → sm (wl S a) (wt S a) (wl S b) (wt S b) → a = b) ∧ (∀ k, k < 4 → pp S k ≤ 9) ∧ pp S 4 ≤ 50 ∧ pp S 5 ≤ 50 ∧ (∀ a b, ww S a b ≤ 10) ∧ kn S ≤ 6 ∧ ∀ q, q < kn S → 1 ≤ kl S q ∧ kl S q ≤ 12 ∧ ∀ i, i < kl S q → kt S q i < 26
/-- the class's own numbers hold the state -/
def cs (m : mm_M) (S : sp_S) : Prop := ok S ∧ rw_at m 1 2 (tn S) (tl S) ∧ pr_at m (pp S) (ww S) ∧ m 32 4 = nI (wn S) ∧ (∀ q, q < wn S → rw_at m (37 + 2 * q) (38 + 2 * q) (wl S q) (wt S q) ∧ m 34 q = nI (wc S q)) ∧ (∃ f, or_at m (wn S) f (wl S) (wt S)) ∧ pa_at m 36 (pa S) ∧ m 157 1 = nI (kn S) ∧ ∀ q, q < kn S → rw_at m (159 + 2 * q) (160 + 2 * q) (kl S q) (kt S q)
theorem or_at.of {m m' : mm_M} {nn : Nat} {f wl : Nat → Nat} {wt : Nat → Nat → Nat} (h : or_at m nn f wl wt) (h1 : m' 35 = m 35) : or_at m' nn f wl wt := by
  obtain ⟨a, b, c⟩ := h
  exact ⟨fun i hi => by rw [h1]; exact a i hi, b, c⟩
theorem cs.of {m m' : mm_M} {S : sp_S} (h : cs m S) (h1 : ∀ a, a < 171 → m' a = m a) : cs m' S := by
  obtain ⟨a1, a2, a3, a4, a5, ⟨f, a6⟩, a7, a8, a9⟩ := h
  have n60 := a1.2.2.1
  have k6 := a1.2.2.2.2.2.2.2.2.2.1
  exact ⟨a1, a2.of (h1 1 (by omega)) (h1 2 (by omega)), a3.of (fun a _ _ => h1 a (by omega)), by rw [h1 32 (by omega)]; exact a4, fun q hq => ⟨(a5 q hq).1.of (h1 _ (by omega)) (h1 _ (by omega)), by rw [h1 34 (by omega)]; exact (a5 q hq).2⟩, ⟨f, a6.of (h1 35 (by omega))⟩, fun a b ha hb => by rw [h1 36 (by omega)]; exact a7 a b ha hb, by rw [h1 157 (by omega)]; exact a8, fun q hq => (a9 q hq).of (h1 _ (by omega)) (h1 _ (by omega))⟩
/-- nothing of the class's state and nothing of the reference's is another -/
def fr (m m' : mm_M) : Prop := ∀ a, a < 171 ∨ 226 ≤ a → m' a = m a
theorem fr.rf (m : mm_M) : fr m m := fun _ _ => rfl
theorem fr.tr {m m1 m2 : mm_M} (h : fr m m1) (h2 : fr m1 m2) : fr m m2 := fun a ha => (h2 a ha).trans (h a ha)
theorem fr.cs {m m' : mm_M} {S : sp_S} (h : fr m m') (hc : cs m S) : cs m' S := hc.of (fun a ha => h a (Or.inl ha))
/-- DISTANCE of what is typed to a word; to a beginning of it -/
def ds (S : sp_S) (q : Nat) : Nat := dd (pp S) (ww S) (tl S) (wt S q) (tn S) (wl S q)
def bg (S : sp_S) (q : Nat) : Nat := mx (fun j => dd (pp S) (ww S) (tl S) (wt S q) (tn S) j) (wl S q + 1)
theorem ds_le {S : sp_S} (h : ok S) {q : Nat} (hq : q < wn S) : ds S q ≤ 216 := by
  have h1 := dd_le (w := ww S) (tl S) (wt S q) (h.2.2.2.2.2.1 0 (by omega)) (h.2.2.2.2.2.1 1 (by omega)) (tn S) (wl S q)
  have := h.1
  have := (h.2.2.2.1 q hq).2.1
  unfold ds
  omega
theorem mx_lt {f : Nat → Nat} : ∀ {j i : Nat}, i < j → mx f j ≤ f i
  | j + 1, i, h => by
    show min (mx f j) (f j) ≤ _
    by_cases e : i = j
    · rw [e]; omega
    · have := mx_lt (f := f) (j := j) (i := i) (by omega)
      omega
theorem bg_le {S : sp_S} (h : ok S) {q : Nat} (hq : q < wn S) : bg S q ≤ 216 := by
  have h1 := mx_lt (f := fun j => dd (pp S) (ww S) (tl S) (wt S q) (tn S) j) (j := wl S q + 1) (i := wl S q) (by omega)
  have := ds_le h hq
  unfold ds at this
  unfold bg
  omega
/-! rows in a strict order: there is but one -/
def so (bef : Nat → Nat → Prop) (n : Nat) (g : Nat → Nat) : Prop := ∀ i j, i < j → j < n → bef (g i) (g j)
theorem so_uniq {bef : Nat → Nat → Prop} (irr : ∀ a, ¬ bef a a) (asy : ∀ a b, bef a b → ¬ bef b a) {n1 n2 : Nat} {g1 g2 : Nat → Nat} (s1 : so bef n1 g1) (s2 : so bef n2 g2) (mem : ∀ x, (∃ q, q < n1 ∧ g1 q = x) ↔ ∃ q, q < n2 ∧ g2 q = x) : n1 = n2 ∧ ∀ q, q < n1 → g1 q = g2 q := by
  have inj : ∀ {n : Nat} {g : Nat → Nat}, so bef n g → ∀ i j, i < n → j < n → g i = g j → i = j := by
    intro n g s i j hi hj e
    rcases Nat.lt_trichotomy i j with c | c | c
    · exact absurd (e ▸ s i j c hj) (irr _)
    · exact c
    · exact absurd (e ▸ s j i c hi) (irr _)
  have key : ∀ q, (∀ i, i < q → i < n1 → i < n2 → g1 i = g2 i) → q < n1 → q < n2 → g1 q = g2 q := by
    intro q ih h1 h2
    obtain ⟨s, s3, s4⟩ := (mem (g1 q)).mp ⟨q, h1, rfl⟩
    obtain ⟨t, t3, t4⟩ := (mem (g2 q)).mpr ⟨q, h2, rfl⟩
    rcases Nat.lt_trichotomy s q with c | c | c
    · have := ih s c (by omega) s3
      have := inj s1 s q (by omega) h1 (by rw [this, s4])
      omega
    · rw [← s4, c]
    · rcases Nat.lt_trichotomy t q with d | d | d
      · have := ih t d t3 (by omega)
        have := inj s2 t q (by omega) h2 (by rw [← this, t4])
        omega
      · rw [← t4, d]
      · have b1 := s2 q s c s3
        have b2 := s1 q t d t3
        rw [s4] at b1
        rw [t4] at b2
        exact absurd b2 (asy _ _ b1)
  have all : ∀ q, q < n1 → q < n2 → g1 q = g2 q := by
    intro q
    induction q using Nat.strongRecOn with
    | ind q ih => exact fun h1 h2 => key q (fun i hi a b => ih i hi a b) h1 h2
  have hn : n1 = n2 := by
    rcases Nat.lt_trichotomy n1 n2 with c | c | c
    · obtain ⟨s, s3, s4⟩ := (mem (g2 n1)).mpr ⟨n1, c, rfl⟩
      have := inj s2 s n1 (by omega) c (by rw [← all s s3 (by omega), s4])
      omega
    · exact c
    · obtain ⟨s, s3, s4⟩ := (mem (g1 n2)).mp ⟨n2, c, rfl⟩
      have := inj s1 s n2 (by omega) c (by rw [all s (by omega) s3, s4])
      omega
  exact ⟨hn, fun q hq => all q hq (by omega)⟩
/-- which of two words stands first among SUGGESTIONS of the costs c -/
def bf (S : sp_S) (c : Nat → Nat) (a b : Nat) : Prop := c a < c b ∨ (c a = c b ∧ (wc S b < wc S a ∨ (wc S a = wc S b ∧ wa S a b)))
theorem bf_irr (S : sp_S) (c : Nat → Nat) (a : Nat) : ¬ bf S c a a := by
  rintro (h | ⟨-, h | ⟨-, h⟩⟩)
  · omega
  · omega
  · exact ah_irr h ⟨rfl, fun _ _ => rfl⟩
theorem bf_asy (S : sp_S) (c : Nat → Nat) (a b : Nat) (h1 : bf S c a b) : ¬ bf S c b a := by
  intro h2
  rcases h1 with h1 | ⟨h1, h3 | ⟨h3, h4⟩⟩ <;> rcases h2 with h2 | ⟨h2, h5 | ⟨h5, h6⟩⟩ <;> first | omega | exact ah_asym h4 h6
theorem bf_tr (S : sp_S) (c : Nat → Nat) {a b d : Nat} (h1 : bf S c a b) (h2 : bf S c b d) : bf S c a d := by
  unfold bf at *
  rcases h1 with h1 | ⟨h1, h3 | ⟨h3, h4⟩⟩ <;> rcases h2 with h2 | ⟨h2, h5 | ⟨h5, h6⟩⟩ <;> first | (left; omega) | (right; refine ⟨by omega, Or.inl (by omega)⟩) | (right; exact ⟨by omega, Or.inr ⟨by omega, ah_trans h4 h6⟩⟩)
theorem bf_tot (S : sp_S) (c : Nat → Nat) {a b : Nat} (hne : ¬ sm (wl S a) (wt S a) (wl S b) (wt S b)) : bf S c a b ∨ bf S c b a := by
  unfold bf wa
  rcases Nat.lt_trichotomy (c a) (c b) with h | h | h
  · exact Or.inl (Or.inl h)
  · rcases Nat.lt_trichotomy (wc S a) (wc S b) with g | g | g
    · exact Or.inr (Or.inr ⟨h.symm, Or.inl g⟩)
    · rcases ah_tri (wl S a) (wt S a) (wl S b) (wt S b) with e | e | e
      · exact Or.inl (Or.inr ⟨h, Or.inr ⟨g, e⟩⟩)
      · exact absurd e hne
      · exact Or.inr (Or.inr ⟨h.symm, Or.inr ⟨g.symm, e⟩⟩)
    · exact Or.inl (Or.inr ⟨h, Or.inl g⟩)
  · exact Or.inr (Or.inl h)
/-- SUGGESTIONS: all words within a limit, in their row -/
def sug (S : sp_S) (c : Nat → Nat) (lim n : Nat) (g : Nat → Nat) : Prop := so (bf S c) n g ∧ ∀ x, (∃ q, q < n ∧ g q = x) ↔ x < wn S ∧ c x ≤ lim
theorem sug_uniq {S : sp_S} {c : Nat → Nat} {lim n1 n2 : Nat} {g1 g2 : Nat → Nat} (h1 : sug S c lim n1 g1) (h2 : sug S c lim n2 g2) : n1 = n2 ∧ ∀ q, q < n1 → g1 q = g2 q := so_uniq (bf_irr S c) (bf_asy S c) h1.1 h2.1 (fun x => (h1.2 x).trans (h2.2 x).symm)
/-- a new one comes into the row at place i -/
def ins (g : Nat → Nat) (i x : Nat) : Nat → Nat := fun q => if q < i then g q else if q = i then x else g (q - 1)
theorem so_ins {bef : Nat → Nat → Prop} {n i x : Nat} {g : Nat → Nat} (s : so bef n g) (hi : i ≤ n) (h1 : ∀ q, q < i → bef (g q) x) (h2 : ∀ q, i ≤ q → q < n → bef x (g q)) : so bef (n + 1) (ins g i x) := by
  intro a b hab hb
  unfold ins
  by_cases e1 : a < i
  · rw [if_pos e1]
    by_cases e2 : b < i
    · rw [if_pos e2]; exact s a b hab (by omega)
    · rw [if_neg e2]
      by_cases e3 : b = i
      · rw [if_pos e3]; exact h1 a e1
      · rw [if_neg e3]; exact s a (b - 1) (by omega) (by omega)
  · rw [if_neg e1, if_neg (show ¬ b < i by omega), if_neg (show ¬ b = i by omega)]
    by_cases e3 : a = i
    · rw [if_pos e3]; exact h2 (b - 1) (by omega) (by omega)
    · rw [if_neg e3]; exact s (a - 1) (b - 1) (by omega) (by omega)
theorem ins_mem {n i x : Nat} {g : Nat → Nat} (hi : i ≤ n) (y : Nat) : (∃ q, q < n + 1 ∧ ins g i x q = y) ↔ (∃ q, q < n ∧ g q = y) ∨ y = x := by
  constructor
  · rintro ⟨q, h1, h2⟩
    unfold ins at h2
    by_cases e1 : q < i
    · rw [if_pos e1] at h2; exact Or.inl ⟨q, by omega, h2⟩
    · rw [if_neg e1] at h2
      by_cases e2 : q = i
      · rw [if_pos e2] at h2; exact Or.inr h2.symm
      · rw [if_neg e2] at h2; exact Or.inl ⟨q - 1, by omega, h2⟩
  · rintro (⟨q, h1, h2⟩ | h)
    · by_cases e1 : q < i
      · exact ⟨q, by omega, by unfold ins; rw [if_pos e1]; exact h2⟩
      · exact ⟨q + 1, by omega, by unfold ins; rw [if_neg (by omega), if_neg (by omega), Nat.add_sub_cancel]; exact h2⟩
    · exact ⟨i, by omega, by unfold ins; rw [if_neg (by omega), if_pos rfl, h]⟩
