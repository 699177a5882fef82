/-! DISTANCE from the other end -/
section MIR
variable {p : Nat → Nat} {w : Nat → Nat → Nat} {r t : Nat → Nat}
theorem dl_1 (i j : Nat) : dd p w r t (i + 1) j ≤ dd p w r t i j + p 1 := by
  cases j with
  | zero => rw [dd_i0]; omega
  | succ j => rw [dd_ij]; omega
theorem dl_2 (i j : Nat) : dd p w r t i (j + 1) ≤ dd p w r t i j + p 0 := by
  cases i with
  | zero => rw [dd_0, dd_0, Nat.succ_mul]; omega
  | succ i => rw [dd_ij]; omega
theorem dl_3 (i j : Nat) : dd p w r t (i + 1) (j + 1) ≤ dd p w r t i j + bc p w (r i) (t j) := by
  rw [dd_ij]; omega
theorem dl_4 (i j : Nat) (h1 : r i = t (j + 1)) (h2 : r (i + 1) = t j) : dd p w r t (i + 2) (j + 2) ≤ dd p w r t i j + p 3 := by
  rw [dd_ij, if_pos ⟨by omega, by omega, by simpa using h1, by simpa using h2⟩]
  rw [show i + 1 - 1 = i by omega, show j + 1 - 1 = j by omega]
  omega
theorem dl_a (i j : Nat) (h : 0 < i + j) : (∃ i', i = i' + 1 ∧ dd p w r t i j = dd p w r t i' j + p 1) ∨ (∃ j', j = j' + 1 ∧ dd p w r t i j = dd p w r t i j' + p 0) ∨ (∃ i' j', i = i' + 1 ∧ j = j' + 1 ∧ dd p w r t i j = dd p w r t i' j' + bc p w (r i') (t j')) ∨ (∃ i' j', i = i' + 2 ∧ j = j' + 2 ∧ r i' = t (j' + 1) ∧ r (i' + 1) = t j' ∧ dd p w r t i j = dd p w r t i' j' + p 3) := by
  cases i with
  | zero =>
    cases j with
    | zero => omega
    | succ j => exact Or.inr (Or.inl ⟨j, rfl, by rw [dd_0, dd_0, Nat.succ_mul]⟩)
  | succ i =>
    cases j with
    | zero => exact Or.inl ⟨i, rfl, dd_i0 p w r t i⟩
    | succ j =>
      have e := dd_ij p w r t i j
      by_cases hT : 0 < i ∧ 0 < j ∧ r (i - 1) = t j ∧ r i = t (j - 1)
      · rw [if_pos hT] at e
        obtain ⟨a, b, c, d⟩ := hT
        obtain ⟨i', rfl⟩ : ∃ q, i = q + 1 := ⟨i - 1, by omega⟩
        obtain ⟨j', rfl⟩ : ∃ q, j = q + 1 := ⟨j - 1, by omega⟩
        rw [Nat.add_sub_cancel] at c d e
        rw [Nat.add_sub_cancel] at e
        by_cases e1 : dd p w r t (i' + 1 + 1) (j' + 1 + 1) = dd p w r t i' j' + p 3
        · exact Or.inr (Or.inr (Or.inr ⟨i', j', rfl, rfl, c, d, e1⟩))
        · by_cases e2 : dd p w r t (i' + 1 + 1) (j' + 1 + 1) = dd p w r t (i' + 1) (j' + 1 + 1) + p 1
          · exact Or.inl ⟨i' + 1, rfl, e2⟩
          · by_cases e3 : dd p w r t (i' + 1 + 1) (j' + 1 + 1) = dd p w r t (i' + 1 + 1) (j' + 1) + p 0
            · exact Or.inr (Or.inl ⟨j' + 1, rfl, e3⟩)
            · exact Or.inr (Or.inr (Or.inl ⟨i' + 1, j' + 1, rfl, rfl, by omega⟩))
      · rw [if_neg hT] at e
        by_cases e2 : dd p w r t (i + 1) (j + 1) = dd p w r t i (j + 1) + p 1
        · exact Or.inl ⟨i, rfl, e2⟩
        · by_cases e3 : dd p w r t (i + 1) (j + 1) = dd p w r t (i + 1) j + p 0
          · exact Or.inr (Or.inl ⟨j, rfl, e3⟩)
          · exact Or.inr (Or.inr (Or.inl ⟨i, j, rfl, rfl, by omega⟩))
end MIR
/-- the same, read from behind -/
theorem dd_mirror (p : Nat → Nat) (w : Nat → Nat → Nat) (r t : Nat → Nat) (n k : Nat) : dd p w (fun i => r (n - 1 - i)) (fun j => t (k - 1 - j)) n k = dd p w r t n k := by
  have z0 : ∀ (r t : Nat → Nat), dd p w r t 0 0 = 0 := fun r t => by rw [dd_0, Nat.zero_mul]
  -- up: what is left, from behind, is dear enough
  have up : ∀ (N i j : Nat), (n - i) + (k - j) ≤ N → i ≤ n → j ≤ k → dd p w r t n k ≤ dd p w r t i j + dd p w (fun i => r (n - 1 - i)) (fun j => t (k - 1 - j)) (n - i) (k - j) := by
    intro N
    induction N with
    | zero =>
      intro i j h1 h2 h3
      rw [show i = n by omega, show j = k by omega, Nat.sub_self, Nat.sub_self, z0]
      omega
    | succ N ih =>
      intro i j h1 h2 h3
      by_cases h0 : (n - i) + (k - j) = 0
      · rw [show i = n by omega, show j = k by omega, Nat.sub_self, Nat.sub_self, z0]
        omega
      · rcases dl_a (p := p) (w := w) (r := fun i => r (n - 1 - i)) (t := fun j => t (k - 1 - j)) (n - i) (k - j) (by omega) with ⟨i', e1, e2⟩ | ⟨j', e1, e2⟩ | ⟨i', j', e1, e2, e3⟩ | ⟨i', j', e1, e2, e4, e5, e3⟩
        · have := ih (i + 1) j (by omega) (by omega) h3
          rw [show n - (i + 1) = i' by omega] at this
          have := dl_1 (p := p) (w := w) (r := r) (t := t) i j
          omega
        · have := ih i (j + 1) (by omega) h2 (by omega)
          rw [show k - (j + 1) = j' by omega] at this
          have := dl_2 (p := p) (w := w) (r := r) (t := t) i j
          omega
        · have := ih (i + 1) (j + 1) (by omega) (by omega) (by omega)
          rw [show n - (i + 1) = i' by omega, show k - (j + 1) = j' by omega] at this
          have h9 := dl_3 (p := p) (w := w) (r := r) (t := t) i j
          rw [show n - 1 - i' = i by omega, show k - 1 - j' = j by omega] at e3
          omega
        · have := ih (i + 2) (j + 2) (by omega) (by omega) (by omega)
          rw [show n - (i + 2) = i' by omega, show k - (j + 2) = j' by omega] at this
          rw [show n - 1 - i' = i + 1 by omega, show k - 1 - (j' + 1) = j by omega] at e4
          rw [show n - 1 - (i' + 1) = i by omega, show k - 1 - j' = j + 1 by omega] at e5
          have h9 := dl_4 (p := p) (w := w) (r := r) (t := t) i j e5 e4
          omega
  have dn : ∀ (N i j : Nat), i + j ≤ N → i ≤ n → j ≤ k → dd p w (fun i => r (n - 1 - i)) (fun j => t (k - 1 - j)) n k ≤ dd p w r t i j + dd p w (fun i => r (n - 1 - i)) (fun j => t (k - 1 - j)) (n - i) (k - j) := by
    intro N
    induction N with
    | zero =>
      intro i j h1 h2 h3
      rw [show i = 0 by omega, show j = 0 by omega, Nat.sub_zero, Nat.sub_zero]
      omega
    | succ N ih =>
      intro i j h1 h2 h3
      by_cases h0 : i + j = 0
      · rw [show i = 0 by omega, show j = 0 by omega, Nat.sub_zero, Nat.sub_zero]
        omega
      · rcases dl_a (p := p) (w := w) (r := r) (t := t) i j (by omega) with ⟨i', e1, e2⟩ | ⟨j', e1, e2⟩ | ⟨i', j', e1, e2, e3⟩ | ⟨i', j', e1, e2, e4, e5, e3⟩
        · have := ih i' j (by omega) (by omega) h3
          have h9 := dl_1 (p := p) (w := w) (r := fun i => r (n - 1 - i)) (t := fun j => t (k - 1 - j)) (n - i) (k - j)
          rw [show n - i + 1 = n - i' by omega] at h9
          omega
        · have := ih i j' (by omega) h2 (by omega)
          have h9 := dl_2 (p := p) (w := w) (r := fun i => r (n - 1 - i)) (t := fun j => t (k - 1 - j)) (n - i) (k - j)
          rw [show k - j + 1 = k - j' by omega] at h9
          omega
        · have := ih i' j' (by omega) (by omega) (by omega)
          have h9 := dl_3 (p := p) (w := w) (r := fun i => r (n - 1 - i)) (t := fun j => t (k - 1 - j)) (n - i) (k - j)
          rw [show n - i + 1 = n - i' by omega, show k - j + 1 = k - j' by omega, show n - 1 - (n - i) = i' by omega, show k - 1 - (k - j) = j' by omega] at h9
          omega
        · have := ih i' j' (by omega) (by omega) (by omega)
          have h9 := dl_4 (p := p) (w := w) (r := fun i => r (n - 1 - i)) (t := fun j => t (k - 1 - j)) (n - i) (k - j) (by rw [show n - 1 - (n - i) = i' + 1 by omega, show k - 1 - (k - j + 1) = j' by omega]; exact e5) (by rw [show n - 1 - (n - i + 1) = i' by omega, show k - 1 - (k - j) = j' + 1 by omega]; exact e4)
          rw [show n - i + 2 = n - i' by omega, show k - j + 2 = k - j' by omega] at h9
          omega
  have a := up (n + k) 0 0 (by omega) (by omega) (by omega)
  have b := dn (n + k) n k (by omega) (by omega) (by omega)
  rw [z0, Nat.sub_zero, Nat.sub_zero] at a
  rw [Nat.sub_self, Nat.sub_self, z0] at b
  omega
/-- the last b of a row, from behind -/
theorem dd_tail (p : Nat → Nat) (w : Nat → Nat → Nat) (r t : Nat → Nat) {n b : Nat} (k : Nat) (hb : b ≤ n) : dd p w (fun i => r (n - 1 - i)) (fun j => t (k - 1 - j)) b k = dd p w (fun i => r (n - b + i)) t b k := by
  rw [← dd_mirror p w (fun i => r (n - b + i)) t b k]
  refine dd_ext b k (fun i hi => ?_) (fun j hj => rfl)
  rw [show n - b + (b - 1 - i) = n - 1 - i by omega]
