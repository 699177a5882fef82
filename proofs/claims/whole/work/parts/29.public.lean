/-! the answers and the next state, for what is simple -/
def pushT (S : sp_S) (a : Nat) : sp_S := ((tn S + 1, va_up (tl S) (tn S) a), S.2)
def clrT (S : sp_S) : sp_S := ((0, tl S), S.2)
def addW (S : sp_S) (n : Nat) : sp_S := (S.1, (wn S + 1, va_up (wl S) (wn S) (tn S), va_up (wt S) (wn S) (tl S), va_up (wc S) (wn S) n), S.2.2)
def setC (S : sp_S) (q n : Nat) : sp_S := (S.1, (wn S, wl S, wt S, va_up (wc S) q n), S.2.2)
def setP (S : sp_S) (k v : Nat) : sp_S := (S.1, S.2.1, (va_up (pp S) k v, ww S), S.2.2.2)
def setN (S : sp_S) (a b v : Nat) : sp_S := (S.1, S.2.1, (pp S, va_up (ww S) a (va_up (ww S a) b v)), S.2.2.2)
def setA (S : sp_S) (a b : Nat) (on : Bool) : sp_S := (S.1, S.2.1, S.2.2.1, va_up (pa S) a (va_up (pa S a) b on), S.2.2.2.2)
def addK (S : sp_S) : sp_S := ((0, tl S), S.2.1, S.2.2.1, S.2.2.2.1, (kn S + 1, va_up (kl S) (kn S) (tn S), va_up (kt S) (kn S) (tl S)))
def clrK (S : sp_S) : sp_S := (S.1, S.2.1, S.2.2.1, S.2.2.2.1, (0, kl S, kt S))
/-- nothing of the reference's is another -/
def frm (m m' : mm_M) : Prop := ∀ a, 226 ≤ a → m' a = m a
theorem fr.frm {m m' : mm_M} (h : fr m m') : frm m m' := fun a ha => h a (Or.inr ha)
def R_letter (S : sp_S) (c v : Int32) (S' : sp_S) : Prop := (¬ inr c 0 25 ∧ v = -1 ∧ S' = S) ∨ (∃ a, a ≤ 25 ∧ c = nI a ∧ tn S = 12 ∧ v = -4 ∧ S' = S) ∨ (∃ a, a ≤ 25 ∧ c = nI a ∧ tn S < 12 ∧ v = nI (tn S + 1) ∧ S' = pushT S a)
def R_word (S : sp_S) (c v : Int32) (S' : sp_S) : Prop := ((¬ inr c 1 1000 ∨ tn S = 0) ∧ v = -2 ∧ S' = S) ∨ (inr c 1 1000 ∧ 0 < tn S ∧ (∃ q, q < wn S ∧ sm (wl S q) (wt S q) (tn S) (tl S)) ∧ v = -3 ∧ S' = S) ∨ (inr c 1 1000 ∧ 0 < tn S ∧ (∀ q, q < wn S → ¬ sm (wl S q) (wt S q) (tn S) (tl S)) ∧ wn S = 60 ∧ v = -4 ∧ S' = S) ∨ (∃ n, 1 ≤ n ∧ n ≤ 1000 ∧ c = nI n ∧ 0 < tn S ∧ (∀ q, q < wn S → ¬ sm (wl S q) (wt S q) (tn S) (tl S)) ∧ wn S < 60 ∧ v = nI (wn S) ∧ S' = addW S n)
def R_count (S : sp_S) (w n v : Int32) (S' : sp_S) : Prop := ((∀ q, q < wn S → w ≠ nI q) ∧ v = -1 ∧ S' = S) ∨ (∃ q, q < wn S ∧ w = nI q ∧ ((¬ inr n 1 1000 ∧ v = -2 ∧ S' = S) ∨ ∃ k, 1 ≤ k ∧ k ≤ 1000 ∧ n = nI k ∧ v = nI (wc S q) ∧ S' = setC S q k))
/-- how many words are ahead of a word -/
noncomputable def ct (P : Nat → Prop) : Nat → Nat
  | 0 => 0
  | n + 1 => ct P n + @ite _ (P n) (Classical.propDecidable _) 1 0
noncomputable def rnk (S : sp_S) (q : Nat) : Nat := ct (fun w => wa S w q) (wn S)
def R_at (S : sp_S) (w i v : Int32) : Prop := ((∀ q, q < wn S → w ≠ nI q) ∧ v = -1) ∨ (∃ q, q < wn S ∧ w = nI q ∧ ((i = -1 ∧ v = nI (rnk S q)) ∨ (i = -2 ∧ v = nI (wl S q)) ∨ (∃ k, k < wl S q ∧ i = nI k ∧ v = nI (wt S q k)) ∨ (i ≠ -1 ∧ i ≠ -2 ∧ (∀ k, k < wl S q → i ≠ nI k) ∧ v = -1)))
def mostP (k : Nat) : Nat := if k < 4 then 9 else 50
def R_price (S : sp_S) (k x v : Int32) (S' : sp_S) : Prop := ((∀ q, q < 6 → k ≠ nI q) ∧ v = -2 ∧ S' = S) ∨ (∃ q, q < 6 ∧ k = nI q ∧ ((¬ inr x 0 (nI (mostP q)) ∧ v = -2 ∧ S' = S) ∨ ∃ y, y ≤ mostP q ∧ x = nI y ∧ v = nI (pp S q) ∧ S' = setP S q y))
/-- what a letter's own price is said to be -/
def ownV (u : Nat) : Int32 := if u = 0 then -3 else nI (u - 1)
def R_near (S : sp_S) (a b x v : Int32) (S' : sp_S) : Prop := ((¬ (inr a 0 25 ∧ inr b 0 25 ∧ a ≠ b)) ∧ v = -1 ∧ S' = S) ∨ (∃ p q, p ≤ 25 ∧ q ≤ 25 ∧ a = nI p ∧ b = nI q ∧ p ≠ q ∧ ((¬ inr x (-1) 9 ∧ v = -2 ∧ S' = S) ∨ ∃ y, y ≤ 10 ∧ x = nI y - 1 ∧ v = ownV (ww S p q) ∧ S' = setN S p q y))
def R_dist (S : sp_S) (f : Nat → Nat) (w v : Int32) : Prop := ((∀ q, q < wn S → w ≠ nI q) ∧ v = -1) ∨ (∃ q, q < wn S ∧ w = nI q ∧ v = nI (f q))
def eds (S : sp_S) (q : Nat) : List (Nat × Nat) := ed (pp S) (ww S) (tl S) (wt S q) (tn S) (wl S q)
def R_edit (S : sp_S) (w k v : Int32) : Prop := ((∀ q, q < wn S → w ≠ nI q) ∧ v = -1) ∨ (∃ q, q < wn S ∧ w = nI q ∧ ((k = -1 ∧ v = nI (eds S q).length) ∨ (∃ z x, z < (eds S q).length ∧ k = nI z ∧ (eds S q)[(eds S q).length - 1 - z]? = some x ∧ v = nI x.1) ∨ (k ≠ -1 ∧ (∀ z, z < (eds S q).length → k ≠ nI z) ∧ v = -1)))
def R_place (S : sp_S) (w k v : Int32) : Prop := ((∀ q, q < wn S → w ≠ nI q) ∧ v = -1) ∨ (∃ q, q < wn S ∧ w = nI q ∧ ((∃ z x, z < (eds S q).length ∧ k = nI z ∧ (eds S q)[(eds S q).length - 1 - z]? = some x ∧ v = nI x.2) ∨ ((∀ z, z < (eds S q).length → k ≠ nI z) ∧ v = -1)))
def R_token (S : sp_S) (v : Int32) (S' : sp_S) : Prop := (tn S = 0 ∧ v = -2 ∧ S' = S) ∨ (0 < tn S ∧ kn S = 6 ∧ v = -4 ∧ S' = S) ∨ (0 < tn S ∧ kn S < 6 ∧ v = nI (kn S + 1) ∧ S' = addK S)
def R_pair (S : sp_S) (a b : Int32) (on : Bool) (v : Int32) (S' : sp_S) : Prop := (((∀ q, q < wn S → a ≠ nI q) ∨ (∀ q, q < wn S → b ≠ nI q)) ∧ v = -1 ∧ S' = S) ∨ (∃ p q, p < wn S ∧ q < wn S ∧ a = nI p ∧ b = nI q ∧ v = (if pa S p q = on then nI 0 else nI 1) ∧ S' = setA S p q on)
theorem ct_add {P : Nat → Prop} {a : Nat} (hP : ¬ P a) : ∀ {n : Nat}, ct (fun w => P w ∨ w = a) n = ct P n + if a < n then 1 else 0
  | 0 => by simp [ct]
  | n + 1 => by
    have ih := ct_add hP (n := n)
    unfold ct
    rw [ih]
    by_cases e : n = a
    · subst e
      rw [if_pos (Or.inr rfl), if_neg hP, if_neg (by omega), if_pos (by omega)]
    · by_cases h : P n
      · rw [if_pos (Or.inl h), if_pos h]
        by_cases h2 : a < n
        · rw [if_pos h2, if_pos (by omega)] <;> omega
        · rw [if_neg h2, if_neg (by omega)]
      · rw [if_neg (show ¬ (P n ∨ n = a) from fun q => q.elim h e), if_neg h]
        by_cases h2 : a < n
        · rw [if_pos h2, if_pos (by omega)] <;> omega
        · rw [if_neg h2, if_neg (by omega)] <;> omega
theorem ct_ext {P Q : Nat → Prop} : ∀ {n : Nat}, (∀ w, w < n → (P w ↔ Q w)) → ct P n = ct Q n
  | 0, _ => rfl
  | n + 1, h => by
    unfold ct
    rw [ct_ext (n := n) (fun w hw => h w (by omega))]
    by_cases e : P n
    · rw [if_pos e, if_pos ((h n (by omega)).mp e)]
    · rw [if_neg e, if_neg (fun q => e ((h n (by omega)).mpr q))]
theorem ct_img {f : Nat → Nat} {n : Nat} (inj : ∀ i j, i < n → j < n → f i = f j → i = j) (hf : ∀ i, i < n → f i < n) : ∀ k, k ≤ n → ct (fun w => ∃ i, i < k ∧ f i = w) n = k
  | 0, _ => by
    have : ∀ n, ct (fun w => ∃ i, i < 0 ∧ f i = w) n = 0 := fun n => by
      induction n with
      | zero => rfl
      | succ n ih => unfold ct; rw [ih, if_neg (fun ⟨i, h, _⟩ => by omega)]
    exact this n
  | k + 1, hk => by
    have ih := ct_img inj hf k (by omega)
    have h1 : ct (fun w => ∃ i, i < k + 1 ∧ f i = w) n = ct (fun w => (∃ i, i < k ∧ f i = w) ∨ w = f k) n := ct_ext (fun w _ => ⟨fun ⟨i, a, b⟩ => by
      by_cases e : i = k
      · subst e; exact Or.inr b.symm
      · exact Or.inl ⟨i, by omega, b⟩, fun h => by
      rcases h with ⟨i, a, b⟩ | h
      · exact ⟨i, by omega, b⟩
      · exact ⟨k, by omega, h.symm⟩⟩)
    rw [h1, ct_add (fun ⟨i, a, b⟩ => by have := inj i k (by omega) (by omega) b; omega), ih, if_pos (hf k (by omega))]
theorem rnk_of {m : mm_M} {S : sp_S} {f : Nat → Nat} (h : or_at m (wn S) f (wl S) (wt S)) {k : Nat} (hk : k < wn S) : rnk S (f k) = k := by
  obtain ⟨h1, h2, h3⟩ := h
  have inj : ∀ i j, i < wn S → j < wn S → f i = f j → i = j := fun i j hi hj e => by
    rcases Nat.lt_trichotomy i j with c | c | c
    · exact absurd ⟨rfl, fun _ _ => rfl⟩ (fun z => ah_irr (e ▸ h2 i j c hj) z)
    · exact c
    · exact absurd ⟨rfl, fun _ _ => rfl⟩ (fun z => ah_irr (e ▸ h2 j i c hi) z)
  unfold rnk
  rw [ct_ext (Q := fun w => ∃ i, i < k ∧ f i = w) (fun w hw => ?_), ct_img inj (fun i hi => (h1 i hi).2) k (by omega)]
  obtain ⟨i, i1, rfl⟩ := h3 w hw
  constructor
  · intro e
    refine ⟨i, ?_, rfl⟩
    rcases Nat.lt_trichotomy i k with c | c | c
    · exact c
    · subst c; exact absurd ⟨rfl, fun _ _ => rfl⟩ (fun z => ah_irr e z)
    · exact (ah_asym e (h2 k i c i1)).elim
  · rintro ⟨j, j1, j2⟩
    rw [← j2]
    exact h2 j k j1 hk
