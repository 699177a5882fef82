theorem dec_nI {n : Nat} {k : Int} {c : Nat} (hk : Int32.ofInt k = -nI c) (h : c ≤ n) : nI n + Int32.ofInt k = nI (n - c) := by
  rw [hk, ← pk_sub h, Int32.sub_eq_add_neg]
theorem min_nI {a b : Nat} (ha : a < 2 ^ 31) (hb : b < 2 ^ 31) : (if nI b < nI a then nI b else nI a) = nI (min a b) := by
  by_cases h : b < a
  · rw [if_pos ((nI_ltI hb ha).mpr h), Nat.min_eq_right (by omega)]
  · rw [if_neg (fun q => h ((nI_ltI hb ha).mp q)), Nat.min_eq_left (by omega)]
theorem nI_lit (n : Nat) : nI n = Int32.ofNat n := rfl
theorem neg1_lt {k : Nat} (hk : k < 2 ^ 31) : nI k - 1 < 0 ↔ k = 0 := by
  cases k with
  | zero => exact ⟨fun _ => rfl, fun _ => by decide⟩
  | succ k =>
    rw [nI_pred]
    exact ⟨fun h => absurd h (nI_pos (by omega)), fun h => by omega⟩
/-- a Row: the object, its letters -/
def isRow (B k k1 : Nat) : Prop := (∀ (m : Nat → Int32) (o : Int64), ly B m o k = some (.inr (5, [.ref (B + k1), .int (m 1)]))) ∧ ∀ (m : Nat → Int32) (o : Int64), ly B m o k1 = some (.inl (.int, 12, .inl m))
theorem isRow_1 (B : Nat) : isRow B 1 2 := ⟨fun m o => ly_1 B m o, fun m o => ly_2 B m o⟩
theorem isRow_172 (B : Nat) : isRow B 172 173 := ⟨fun m o => ly_172 B m o, fun m o => ly_173 B m o⟩
theorem isRow_174 (B : Nat) : isRow B 174 175 := ⟨fun m o => ly_174 B m o, fun m o => ly_175 B m o⟩
theorem isRow_w (B : Nat) {i : Nat} (hi : i < 60) : isRow B (37 + 2 * i) (38 + 2 * i) := ⟨fun m o => ly_wr B m o hi, fun m o => ly_wl B m o hi⟩
theorem isRow_t (B : Nat) {i : Nat} (hi : i < 6) : isRow B (159 + 2 * i) (160 + 2 * i) := ⟨fun m o => ly_tr B m o hi, fun m o => ly_tl B m o hi⟩
/-- what a Row holds: n letters r -/
def rw_at (m : mm_M) (k k1 n : Nat) (r : Nat → Nat) : Prop := m k 1 = nI n ∧ n ≤ 12 ∧ ∀ i, i < n → m k1 i = nI (r i) ∧ r i < 26
theorem rw_at.of {m m' : mm_M} {k k1 n : Nat} {r : Nat → Nat} (h : rw_at m k k1 n r) (h1 : m' k = m k) (h2 : m' k1 = m k1) : rw_at m' k k1 n r := by
  obtain ⟨a, b, c⟩ := h
  exact ⟨by rw [h1]; exact a, b, fun i hi => by rw [h2]; exact c i hi⟩
theorem rw_at.ext {m : mm_M} {k k1 n : Nat} {r r' : Nat → Nat} (h : rw_at m k k1 n r) (he : ∀ i, i < n → r' i = r i) : rw_at m k k1 n r' := by
  obtain ⟨a, b, c⟩ := h
  exact ⟨a, b, fun i hi => by rw [he i hi]; exact c i hi⟩
/-- the PRICES, and those of a letter's own (0: none, else one more) -/
def pr_at (m : mm_M) (p : Nat → Nat) (w : Nat → Nat → Nat) : Prop := (∀ k, k < 6 → m 4 k = nI (p k)) ∧ (∀ k, k < 4 → p k ≤ 9) ∧ p 4 ≤ 50 ∧ p 5 ≤ 50 ∧ (∀ a b, a < 26 → b < 26 → m (6 + a) b = if w a b = 0 then -1 else nI (w a b - 1)) ∧ ∀ a b, w a b ≤ 10
theorem pr_at.of {m m' : mm_M} {p : Nat → Nat} {w : Nat → Nat → Nat} (h : pr_at m p w) (h1 : ∀ a, 4 ≤ a → a < 32 → m' a = m a) : pr_at m' p w := by
  obtain ⟨a1, a2, a3, a4, a5, a6⟩ := h
  exact ⟨fun k hk => by rw [h1 4 (by omega) (by omega)]; exact a1 k hk, a2, a3, a4, fun a b ha hb => by rw [h1 (6 + a) (by omega) (by omega)]; exact a5 a b ha hb, a6⟩
/-- the price at which a becomes b -/
def bc (p : Nat → Nat) (w : Nat → Nat → Nat) (a b : Nat) : Nat := if a = b then 0 else if w a b = 0 then p 2 else w a b - 1
theorem bc_le {m : mm_M} {p : Nat → Nat} {w : Nat → Nat → Nat} (h : pr_at m p w) (a b : Nat) : bc p w a b ≤ 9 := by
  unfold bc
  have h2 := h.2.1 2 (by omega)
  have h3 := h.2.2.2.2.2 a b
  split
  · omega
  · split <;> omega
/-- two neighbours that change places -/
def tu (r t : Nat → Nat) (i j : Nat) : Prop := 1 < i ∧ 1 < j ∧ r (i - 2) = t (j - 1) ∧ r (i - 1) = t (j - 2)
/-- DISTANCE of the first i of r to the first j of t -/
def dd (p : Nat → Nat) (w : Nat → Nat → Nat) (r t : Nat → Nat) : Nat → Nat → Nat
  | 0, j => j * p 0
  | i + 1, 0 => dd p w r t i 0 + p 1
  | i + 1, j + 1 => min (min (min (dd p w r t i j + bc p w (r i) (t j)) (dd p w r t i (j + 1) + p 1)) (dd p w r t (i + 1) j + p 0)) (if 0 < i ∧ 0 < j ∧ r (i - 1) = t j ∧ r i = t (j - 1) then dd p w r t (i - 1) (j - 1) + p 3 else dd p w r t i j + bc p w (r i) (t j))
  termination_by i j => i + j
theorem dd_0 (p : Nat → Nat) (w : Nat → Nat → Nat) (r t : Nat → Nat) (j : Nat) : dd p w r t 0 j = j * p 0 := by rw [dd]
theorem dd_i0 (p : Nat → Nat) (w : Nat → Nat → Nat) (r t : Nat → Nat) (i : Nat) : dd p w r t (i + 1) 0 = dd p w r t i 0 + p 1 := by rw [dd]
theorem dd_ij (p : Nat → Nat) (w : Nat → Nat → Nat) (r t : Nat → Nat) (i j : Nat) : dd p w r t (i + 1) (j + 1) = min (min (min (dd p w r t i j + bc p w (r i) (t j)) (dd p w r t i (j + 1) + p 1)) (dd p w r t (i + 1) j + p 0)) (if 0 < i ∧ 0 < j ∧ r (i - 1) = t j ∧ r i = t (j - 1) then dd p w r t (i - 1) (j - 1) + p 3 else dd p w r t i j + bc p w (r i) (t j)) := by rw [dd]
theorem dd_le {p : Nat → Nat} {w : Nat → Nat → Nat} (r t : Nat → Nat) (h0 : p 0 ≤ 9) (h1 : p 1 ≤ 9) : ∀ i j, dd p w r t i j ≤ 9 * (i + j)
  | 0, j => by
    rw [dd_0, Nat.mul_comm]
    have := Nat.mul_le_mul_right j h0
    omega
  | i + 1, 0 => by
    rw [dd_i0]
    have := dd_le (w := w) r t h0 h1 i 0
    omega
  | i + 1, j + 1 => by
    rw [dd_ij]
    have := dd_le (w := w) r t h0 h1 i (j + 1)
    omega
theorem dd_ext {p : Nat → Nat} {w : Nat → Nat → Nat} {r r' t t' : Nat → Nat} : ∀ i j, (∀ k, k < i → r k = r' k) → (∀ k, k < j → t k = t' k) → dd p w r t i j = dd p w r' t' i j
  | 0, j, _, _ => by rw [dd_0, dd_0]
  | i + 1, 0, hr, ht => by
    rw [dd_i0, dd_i0, dd_ext i 0 (fun k hk => hr k (by omega)) ht]
  | i + 1, j + 1, hr, ht => by
    rw [dd_ij, dd_ij, dd_ext i j (fun k hk => hr k (by omega)) (fun k hk => ht k (by omega)), dd_ext i (j + 1) (fun k hk => hr k (by omega)) ht, dd_ext (i + 1) j hr (fun k hk => ht k (by omega)), dd_ext (i - 1) (j - 1) (fun k hk => hr k (by omega)) (fun k hk => ht k (by omega)), hr i (by omega), ht j (by omega), hr (i - 1) (by omega), ht (j - 1) (by omega)]
  termination_by i j => i + j
/-- two rows of letters are alike; the one is ahead of the other in ORDER -/
def sm (n : Nat) (r : Nat → Nat) (n' : Nat) (r' : Nat → Nat) : Prop := n = n' ∧ ∀ i, i < n → r i = r' i
def ah (n : Nat) (r : Nat → Nat) (n' : Nat) (r' : Nat → Nat) : Prop := ∃ k, k ≤ n ∧ k ≤ n' ∧ (∀ i, i < k → r i = r' i) ∧ ((k = n ∧ k < n') ∨ (k < n ∧ k < n' ∧ r k < r' k))
theorem ah_irr {n : Nat} {r : Nat → Nat} {n' : Nat} {r' : Nat → Nat} (h : ah n r n' r') (h2 : sm n r n' r') : False := by
  obtain ⟨k, h1, -, -, h3 | h3⟩ := h
  · have := h2.1; omega
  · have := h2.2 k (by omega); omega
theorem ah_asym {n : Nat} {r : Nat → Nat} {n' : Nat} {r' : Nat → Nat} (h : ah n r n' r') (h2 : ah n' r' n r) : False := by
  obtain ⟨k, a1, a2, a3, a4⟩ := h
  obtain ⟨q, b1, b2, b3, b4⟩ := h2
  rcases Nat.lt_trichotomy k q with c | c | c
  · have := b3 k c
    rcases a4 with a4 | a4 <;> rcases b4 with b4 | b4 <;> omega
  · subst c
    rcases a4 with a4 | a4 <;> rcases b4 with b4 | b4 <;> omega
  · have := a3 q c
    rcases a4 with a4 | a4 <;> rcases b4 with b4 | b4 <;> omega
theorem ah_tri (n : Nat) (r : Nat → Nat) (n' : Nat) (r' : Nat → Nat) : ah n r n' r' ∨ sm n r n' r' ∨ ah n' r' n r := by
  by_cases hd : ∃ k, k < n ∧ k < n' ∧ r k ≠ r' k
  · obtain ⟨k, ⟨h1, h2, h3⟩, hk⟩ := pk_least _ hd
    have he : ∀ i, i < k → r i = r' i := fun i hi => by
      have := hk i hi
      exact Classical.byContradiction fun q => this ⟨by omega, by omega, q⟩
    rcases Nat.lt_or_gt_of_ne h3 with c | c
    · exact Or.inl ⟨k, by omega, by omega, he, Or.inr ⟨h1, h2, c⟩⟩
    · exact Or.inr (Or.inr ⟨k, by omega, by omega, fun i hi => (he i hi).symm, Or.inr ⟨h2, h1, c⟩⟩)
  · have he : ∀ i, i < n → i < n' → r i = r' i := fun i h1 h2 => Classical.byContradiction fun q => hd ⟨i, h1, h2, q⟩
    rcases Nat.lt_trichotomy n n' with c | c | c
    · exact Or.inl ⟨n, by omega, by omega, fun i hi => he i hi (by omega), Or.inl ⟨rfl, c⟩⟩
    · exact Or.inr (Or.inl ⟨c, fun i hi => he i hi (by omega)⟩)
    · exact Or.inr (Or.inr ⟨n', by omega, by omega, fun i hi => (he i (by omega) hi).symm, Or.inl ⟨rfl, c⟩⟩)
theorem ah_trans {n : Nat} {r : Nat → Nat} {n' : Nat} {r' : Nat → Nat} {n2 : Nat} {r2 : Nat → Nat} (h : ah n r n' r') (h2 : ah n' r' n2 r2) : ah n r n2 r2 := by
  obtain ⟨k, a1, a2, a3, a4⟩ := h
  obtain ⟨q, b1, b2, b3, b4⟩ := h2
  rcases Nat.lt_trichotomy k q with c | c | c
  · have := b3 k c
    refine ⟨k, a1, by omega, fun i hi => (a3 i hi).trans (b3 i (by omega)), ?_⟩
    rcases a4 with a4 | a4
    · exact Or.inl ⟨a4.1, by omega⟩
    · exact Or.inr ⟨a4.1, by omega, by omega⟩
  · subst c
    refine ⟨k, a1, by omega, fun i hi => (a3 i hi).trans (b3 i (by omega)), ?_⟩
    rcases a4 with a4 | a4 <;> rcases b4 with b4 | b4
    · exact Or.inl ⟨a4.1, by omega⟩
    · exact Or.inl ⟨a4.1, by omega⟩
    · omega
    · exact Or.inr ⟨a4.1, by omega, by omega⟩
  · have := a3 q c
    refine ⟨q, by omega, b2, fun i hi => (a3 i (by omega)).trans (b3 i hi), ?_⟩
    rcases b4 with b4 | b4
    · exact absurd b4.1 (by omega)
    · exact Or.inr ⟨by omega, by omega, by omega⟩
theorem sub_neg {a b : Nat} (ha : a < 2 ^ 30) (hb : b < 2 ^ 30) : nI a - nI b < 0 ↔ a < b := by
  rw [Int32.lt_iff_toInt_lt, pk_sub_toInt ha hb]
  have : (0 : Int32).toInt = 0 := by decide
  omega
theorem sub_zero {a b : Nat} (ha : a < 2 ^ 30) (hb : b < 2 ^ 30) : nI a - nI b = 0 ↔ a = b := by
  constructor
  · intro h
    have h1 := pk_sub_toInt ha hb
    rw [h] at h1
    have : (0 : Int32).toInt = 0 := by decide
    omega
  · rintro rfl
    exact Int32.sub_self _
