/-! THE ANSWERS ARE ONE: what the class and the reference may answer, and their next states, are the same -/
theorem inr_of {q lo hi : Nat} (h1 : lo ≤ q) (h2 : q ≤ hi) (hh : hi < 2 ^ 31) : inr (nI q) (nI lo) (nI hi) := ⟨(nI_leI (by omega) (by omega)).mpr h1, (nI_leI (by omega) (by omega)).mpr h2⟩
theorem nI_u {a b : Nat} (h : nI a = nI b) (ha : a < 2000000) (hb : b < 2000000) : a = b := (nI_eq (by omega) (by omega)).mp h
theorem R_letter_uniq {S S1 S2 : sp_S} {c v1 v2 : Int32} (h : R_letter S c v1 S1) (h' : R_letter S c v2 S2) : v1 = v2 ∧ S1 = S2 := by
  rcases h with ⟨a1, rfl, rfl⟩ | ⟨a, a1, rfl, a2, rfl, rfl⟩ | ⟨a, a1, rfl, a2, rfl, rfl⟩ <;> rcases h' with ⟨b1, rfl, rfl⟩ | ⟨b, b1, b0, b2, rfl, rfl⟩ | ⟨b, b1, b0, b2, rfl, rfl⟩
  · exact ⟨rfl, rfl⟩
  · subst b0; exact absurd (inr_of (Nat.zero_le _) b1 (by decide)) a1
  · subst b0; exact absurd (inr_of (Nat.zero_le _) b1 (by decide)) a1
  · exact absurd (inr_of (Nat.zero_le _) a1 (by decide)) b1
  · exact ⟨rfl, rfl⟩
  · omega
  · exact absurd (inr_of (Nat.zero_le _) a1 (by decide)) b1
  · omega
  · have := nI_u b0 (by omega) (by omega)
    subst this
    exact ⟨rfl, rfl⟩
theorem R_word_uniq {S S1 S2 : sp_S} {c v1 v2 : Int32} (h : R_word S c v1 S1) (h' : R_word S c v2 S2) : v1 = v2 ∧ S1 = S2 := by
  rcases h with ⟨a1, rfl, rfl⟩ | ⟨a1, a2, ⟨q, q1, q2⟩, rfl, rfl⟩ | ⟨a1, a2, a3, a4, rfl, rfl⟩ | ⟨n, n1, n2, rfl, a2, a3, a4, rfl, rfl⟩ <;> rcases h' with ⟨b1, rfl, rfl⟩ | ⟨b1, b2, ⟨z, z1, z2⟩, rfl, rfl⟩ | ⟨b1, b2, b3, b4, rfl, rfl⟩ | ⟨k, k1, k2, k0, b2, b3, b4, rfl, rfl⟩
  · exact ⟨rfl, rfl⟩
  · rcases a1 with a1 | a1
    · exact absurd b1 a1
    · omega
  · rcases a1 with a1 | a1
    · exact absurd b1 a1
    · omega
  · subst k0
    rcases a1 with a1 | a1
    · exact absurd (inr_of k1 k2 (by decide)) a1
    · omega
  · rcases b1 with b1 | b1
    · exact absurd a1 b1
    · omega
  · exact ⟨rfl, rfl⟩
  · exact absurd q2 (b3 q q1)
  · exact absurd q2 (b3 q q1)
  · rcases b1 with b1 | b1
    · exact absurd a1 b1
    · omega
  · exact absurd z2 (a3 z z1)
  · exact ⟨rfl, rfl⟩
  · omega
  · rcases b1 with b1 | b1
    · exact absurd (inr_of n1 n2 (by decide)) b1
    · omega
  · exact absurd z2 (a3 z z1)
  · omega
  · have := nI_u k0 (by omega) (by omega)
    subst this
    exact ⟨rfl, rfl⟩
theorem R_count_uniq {S S1 S2 : sp_S} {w n v1 v2 : Int32} (hk : ok S) (h : R_count S w n v1 S1) (h' : R_count S w n v2 S2) : v1 = v2 ∧ S1 = S2 := by
  have hw := hk.2.2.1
  rcases h with ⟨a1, rfl, rfl⟩ | ⟨q, q1, rfl, h⟩ <;> rcases h' with ⟨b1, rfl, rfl⟩ | ⟨z, z1, z0, h'⟩
  · exact ⟨rfl, rfl⟩
  · exact absurd z0 (a1 z z1)
  · exact absurd rfl (b1 q q1)
  · have := nI_u z0 (by omega) (by omega)
    subst this
    rcases h with ⟨a1, rfl, rfl⟩ | ⟨k, k1, k2, rfl, rfl, rfl⟩ <;> rcases h' with ⟨b1, rfl, rfl⟩ | ⟨j, j1, j2, j0, rfl, rfl⟩
    · exact ⟨rfl, rfl⟩
    · subst j0; exact absurd (inr_of j1 j2 (by decide)) a1
    · exact absurd (inr_of k1 k2 (by decide)) b1
    · have := nI_u j0 (by omega) (by omega)
      subst this
      exact ⟨rfl, rfl⟩
theorem R_at_uniq {S : sp_S} {w i v1 v2 : Int32} (hk : ok S) (h : R_at S w i v1) (h' : R_at S w i v2) : v1 = v2 := by
  have hw := hk.2.2.1
  rcases h with ⟨a1, rfl⟩ | ⟨q, q1, rfl, h⟩ <;> rcases h' with ⟨b1, rfl⟩ | ⟨z, z1, z0, h'⟩
  · rfl
  · exact absurd z0 (a1 z z1)
  · exact absurd rfl (b1 q q1)
  · have := nI_u z0 (by omega) (by omega)
    subst this
    have hl := (hk.2.2.2.1 q q1).2.1
    rcases h with ⟨rfl, rfl⟩ | ⟨rfl, rfl⟩ | ⟨k, k1, rfl, rfl⟩ | ⟨a1, a2, a3, rfl⟩ <;> rcases h' with ⟨b0, rfl⟩ | ⟨b0, rfl⟩ | ⟨j, j1, j0, rfl⟩ | ⟨b1, b2, b3, rfl⟩
    · rfl
    · exact absurd b0 (by decide)
    · exact absurd j0.symm (m1_ne (by omega))
    · exact absurd rfl b1
    · exact absurd b0 (by decide)
    · rfl
    · exact absurd j0.symm (m2_ne (by omega))
    · exact absurd rfl b2
    · exact absurd b0 (m1_ne (by omega))
    · exact absurd b0 (m2_ne (by omega))
    · have := nI_u j0 (by omega) (by omega)
      subst this
      rfl
    · exact absurd rfl (b3 k k1)
    · exact absurd b0 a1
    · exact absurd b0 a2
    · exact absurd j0 (a3 j j1)
    · rfl
theorem R_price_uniq {S S1 S2 : sp_S} {k x v1 v2 : Int32} (h : R_price S k x v1 S1) (h' : R_price S k x v2 S2) : v1 = v2 ∧ S1 = S2 := by
  rcases h with ⟨a1, rfl, rfl⟩ | ⟨q, q1, rfl, h⟩ <;> rcases h' with ⟨b1, rfl, rfl⟩ | ⟨z, z1, z0, h'⟩
  · exact ⟨rfl, rfl⟩
  · exact absurd z0 (a1 z z1)
  · exact absurd rfl (b1 q q1)
  · have := nI_u z0 (by omega) (by omega)
    subst this
    have hm : mostP q ≤ 50 := by unfold mostP; split <;> omega
    rcases h with ⟨a1, rfl, rfl⟩ | ⟨k, k2, rfl, rfl, rfl⟩ <;> rcases h' with ⟨b1, rfl, rfl⟩ | ⟨j, j2, j0, rfl, rfl⟩
    · exact ⟨rfl, rfl⟩
    · subst j0; exact absurd (inr_of (Nat.zero_le _) j2 (by omega)) a1
    · exact absurd (inr_of (Nat.zero_le _) k2 (by omega)) b1
    · have := nI_u j0 (by omega) (by omega)
      subst this
      exact ⟨rfl, rfl⟩
theorem nI_m1 {y : Nat} (hy : y ≤ 10) : inr (nI y - 1) (-1) 9 := by
  have : ∀ y : Fin 11, (-1 : Int32) ≤ nI y.1 - 1 ∧ nI y.1 - 1 ≤ 9 := by decide
  exact this ⟨y, by omega⟩
theorem nI_m1e {y z : Nat} (hy : y ≤ 10) (hz : z ≤ 10) (h : nI y - 1 = nI z - 1) : y = z := by
  have e : nI y = nI z := by
    have := congrArg (fun t : Int32 => t + 1) h
    simpa using this
  exact nI_u e (by omega) (by omega)
theorem R_near_uniq {S S1 S2 : sp_S} {a b x v1 v2 : Int32} (h : R_near S a b x v1 S1) (h' : R_near S a b x v2 S2) : v1 = v2 ∧ S1 = S2 := by
  have key : ∀ {p q : Nat}, p ≤ 25 → q ≤ 25 → p ≠ q → inr (nI p) 0 25 ∧ inr (nI q) 0 25 ∧ nI p ≠ nI q := fun h1 h2 h3 => ⟨inr_of (Nat.zero_le _) h1 (by decide), inr_of (Nat.zero_le _) h2 (by decide), fun e => h3 (nI_u e (by omega) (by omega))⟩
  rcases h with ⟨a1, rfl, rfl⟩ | ⟨p, q, p1, q1, rfl, rfl, pq, h⟩ <;> rcases h' with ⟨b1, rfl, rfl⟩ | ⟨y, z, y1, z1, y0, z0, yz, h'⟩
  · exact ⟨rfl, rfl⟩
  · subst y0; subst z0; exact absurd (key y1 z1 yz) a1
  · exact absurd (key p1 q1 pq) b1
  · have e1 := nI_u y0 (by omega) (by omega)
    have e2 := nI_u z0 (by omega) (by omega)
    subst e1
    subst e2
    rcases h with ⟨a1, rfl, rfl⟩ | ⟨k, k2, rfl, rfl, rfl⟩ <;> rcases h' with ⟨b1, rfl, rfl⟩ | ⟨j, j2, j0, rfl, rfl⟩
    · exact ⟨rfl, rfl⟩
    · subst j0; exact absurd (nI_m1 j2) a1
    · exact absurd (nI_m1 k2) b1
    · have := nI_m1e k2 j2 j0
      subst this
      exact ⟨rfl, rfl⟩
theorem R_dist_uniq {S : sp_S} {f : Nat → Nat} {w v1 v2 : Int32} (hk : ok S) (h : R_dist S f w v1) (h' : R_dist S f w v2) : v1 = v2 := by
  have hw := hk.2.2.1
  rcases h with ⟨a1, rfl⟩ | ⟨q, q1, rfl, rfl⟩ <;> rcases h' with ⟨b1, rfl⟩ | ⟨z, z1, z0, rfl⟩
  · rfl
  · exact absurd z0 (a1 z z1)
  · exact absurd rfl (b1 q q1)
  · have := nI_u z0 (by omega) (by omega)
    subst this
    rfl
theorem eds_l100 {S : sp_S} (hk : ok S) : ∀ q, q < wn S → (eds S q).length ≤ 100 := fun q hq => by
  have h1 := ed_len (pp S) (ww S) (tl S) (wt S q) (tn S + wl S q) (tn S) (wl S q) (Nat.le_refl _)
  have h2 := hk.1
  have h3 := (hk.2.2.2.1 q hq).2.1
  unfold eds
  omega
theorem R_edit_uniq {S : sp_S} {w k v1 v2 : Int32} (hk : ok S) (h : R_edit S w k v1) (h' : R_edit S w k v2) : v1 = v2 := by
  have hw := hk.2.2.1
  rcases h with ⟨a1, rfl⟩ | ⟨q, q1, rfl, h⟩ <;> rcases h' with ⟨b1, rfl⟩ | ⟨z, z1, z0, h'⟩
  · rfl
  · exact absurd z0 (a1 z z1)
  · exact absurd rfl (b1 q q1)
  · have := nI_u z0 (by omega) (by omega)
    subst this
    have hl := eds_l100 hk q q1
    rcases h with ⟨rfl, rfl⟩ | ⟨y, x, y1, rfl, y2, rfl⟩ | ⟨a1, a2, rfl⟩ <;> rcases h' with ⟨b0, rfl⟩ | ⟨j, x', j1, j0, j2, rfl⟩ | ⟨b1, b2, rfl⟩
    · rfl
    · exact absurd j0.symm (m1_ne (by omega))
    · exact absurd rfl b1
    · exact absurd b0 (m1_ne (by omega))
    · have := nI_u j0 (by omega) (by omega)
      subst this
      rw [y2] at j2
      cases j2
      rfl
    · exact absurd rfl (b2 y y1)
    · exact absurd b0 a1
    · exact absurd j0 (a2 j j1)
    · rfl
theorem R_place_uniq {S : sp_S} {w k v1 v2 : Int32} (hk : ok S) (h : R_place S w k v1) (h' : R_place S w k v2) : v1 = v2 := by
  have hw := hk.2.2.1
  rcases h with ⟨a1, rfl⟩ | ⟨q, q1, rfl, h⟩ <;> rcases h' with ⟨b1, rfl⟩ | ⟨z, z1, z0, h'⟩
  · rfl
  · exact absurd z0 (a1 z z1)
  · exact absurd rfl (b1 q q1)
  · have := nI_u z0 (by omega) (by omega)
    subst this
    have hl := eds_l100 hk q q1
    rcases h with ⟨y, x, y1, rfl, y2, rfl⟩ | ⟨a2, rfl⟩ <;> rcases h' with ⟨j, x', j1, j0, j2, rfl⟩ | ⟨b2, rfl⟩
    · have := nI_u j0 (by omega) (by omega)
      subst this
      rw [y2] at j2
      cases j2
      rfl
    · exact absurd rfl (b2 y y1)
    · exact absurd j0 (a2 j j1)
    · rfl
theorem R_token_uniq {S S1 S2 : sp_S} {v1 v2 : Int32} (h : R_token S v1 S1) (h' : R_token S v2 S2) : v1 = v2 ∧ S1 = S2 := by
  rcases h with ⟨a1, rfl, rfl⟩ | ⟨a1, a2, rfl, rfl⟩ | ⟨a1, a2, rfl, rfl⟩ <;> rcases h' with ⟨b1, rfl, rfl⟩ | ⟨b1, b2, rfl, rfl⟩ | ⟨b1, b2, rfl, rfl⟩ <;> first | exact ⟨rfl, rfl⟩ | omega
theorem R_pair_uniq {S S1 S2 : sp_S} {a b v1 v2 : Int32} {on : Bool} (hk : ok S) (h : R_pair S a b on v1 S1) (h' : R_pair S a b on v2 S2) : v1 = v2 ∧ S1 = S2 := by
  have hw := hk.2.2.1
  rcases h with ⟨a1, rfl, rfl⟩ | ⟨p, q, p1, q1, rfl, rfl, rfl, rfl⟩ <;> rcases h' with ⟨b1, rfl, rfl⟩ | ⟨y, z, y1, z1, y0, z0, rfl, rfl⟩
  · exact ⟨rfl, rfl⟩
  · rcases a1 with a1 | a1
    · exact absurd y0 (a1 y y1)
    · exact absurd z0 (a1 z z1)
  · rcases b1 with b1 | b1
    · exact absurd rfl (b1 p p1)
    · exact absurd rfl (b1 q q1)
  · have e1 := nI_u y0 (by omega) (by omega)
    have e2 := nI_u z0 (by omega) (by omega)
    subst e1
    subst e2
    exact ⟨rfl, rfl⟩
theorem R_part_uniq {S : sp_S} {x v1 v2 : Int32} (h : R_part S x v1) (h' : R_part S x v2) : v1 = v2 := by
  rcases h with ⟨a1, rfl⟩ | ⟨q, q1, rfl, h⟩ <;> rcases h' with ⟨b1, rfl⟩ | ⟨z, z1, z0, h'⟩
  · rfl
  · exact absurd z0 (a1 z z1)
  · exact absurd rfl (b1 q q1)
  · have := nI_u z0 (by omega) (by omega)
    subst this
    rcases h with ⟨a1, rfl⟩ | ⟨a1, a2, co, a, y1, y2, r, rfl⟩ <;> rcases h' with ⟨b1, rfl⟩ | ⟨b1, b2, co', a', z1, z2, r', rfl⟩
    · rfl
    · omega
    · omega
    · obtain ⟨e1, e2, e3, e4⟩ := R_best_uniq r r'
      subst e1 e2 e3 e4
      rfl
theorem R_ch_uniq {S : sp_S} {x k v1 v2 : Int32} (hk : ok S) (h : R_ch S x k v1) (h' : R_ch S x k v2) : v1 = v2 := by
  have hw := hk.2.2.2.2.2.2.2.2.2.1
  have hmm : ∀ {y : Nat → Nat} {c z : Nat}, chn S x.toNatClampNeg y c z → ∃ q c, vr S x.toNatClampNeg (kn S - 1) q c := fun h => ⟨_, _, h.1.2.1⟩
  rcases h with ⟨a1, rfl⟩ | ⟨a1, a2, a3, rfl⟩ | ⟨a1, a2, a3, rfl⟩ | ⟨a1, a2, a3, y, c, a4, rfl⟩ | ⟨a1, z, a2, a3, y, c, a4, rfl⟩ <;> rcases h' with ⟨b1, rfl⟩ | ⟨b1, b2, b3, rfl⟩ | ⟨b1, b2, b3, rfl⟩ | ⟨b1, b2, b3, y', c', b4, rfl⟩ | ⟨b1, z', b2, b3, y', c', b4, rfl⟩
  · rfl
  · exact absurd b1 a1
  · exact absurd b1 a1
  · exact absurd b1 a1
  · exact absurd b1 a1
  · exact absurd a1 b1
  · rfl
  · rcases b2 with b2 | ⟨z, z1, z2⟩
    · exact absurd b2 a2
    · exact absurd z2 (a3 z z1)
  · exact absurd b2 a2
  · exact absurd b3 (a3 z' b2)
  · exact absurd a1 b1
  · rcases a2 with a2 | ⟨z, z1, z2⟩
    · exact absurd a2 b2
    · exact absurd z2 (b3 z z1)
  · rfl
  · rcases a3 with a3 | a3
    · omega
    · obtain ⟨q, c9, h9⟩ := hmm b4
      exact absurd h9 (a3 q c9)
  · rcases a3 with a3 | a3
    · omega
    · obtain ⟨q, c9, h9⟩ := hmm b4
      exact absurd h9 (a3 q c9)
  · exact absurd a1 b1
  · exact absurd a2 b2
  · rcases b3 with b3 | b3
    · omega
    · obtain ⟨q, c9, h9⟩ := hmm a4
      exact absurd h9 (b3 q c9)
  · rw [(chn_uniq a4 b4).1]
  · rw [a2] at b3
    exact absurd b3.symm (m1_ne (by omega))
  · exact absurd a1 b1
  · exact absurd a3 (b3 z a2)
  · rcases b3 with b3 | b3
    · omega
    · obtain ⟨q, c9, h9⟩ := hmm a4
      exact absurd h9 (b3 q c9)
  · rw [a3] at b2
    exact absurd b2 (m1_ne (by omega))
  · have := nI_u (a3.symm.trans b3) (by omega) (by omega)
    subst this
    rw [(chn_uniq a4 b4).2 z (Nat.le_refl _) (Nat.le_refl _)]
theorem R_sh_uniq {S : sp_S} {w : Int32} {t1 t2 : Bool} {v1 v2 : Int32} (hk : ok S) (h : R_sh S w t1 v1) (h' : R_sh S w t2 v2) : t1 = t2 ∧ v1 = v2 := by
  have hw := hk.2.2.1
  rcases h with ⟨a1, rfl, rfl⟩ | ⟨q, q1, rfl, h⟩ <;> rcases h' with ⟨b1, rfl, rfl⟩ | ⟨z, z1, z0, h'⟩
  · exact ⟨rfl, rfl⟩
  · exact absurd z0 (a1 z z1)
  · exact absurd rfl (b1 q q1)
  · have := nI_u z0 (by omega) (by omega)
    subst this
    rcases h with ⟨a1, rfl, rfl⟩ | ⟨a1, rfl, rfl⟩ <;> rcases h' with ⟨b1, rfl, rfl⟩ | ⟨b1, rfl, rfl⟩
    · exact ⟨rfl, rfl⟩
    · omega
    · omega
    · exact ⟨rfl, rfl⟩
theorem ms.frm {m m' : mm_M} {S : sp_S} (h : ms m S) (h1 : frm m m') : ms m' S := h.of (fun a h2 _ => h1 a (by omega)) (by rw [h1 226 (by omega)]) (by rw [h1 226 (by omega)]) (by rw [h1 226 (by omega)])
theorem cs.fw {m m' : mm_M} {S : sp_S} (h : cs m S) (h1 : fw m m') : cs m' S := h.of (fun a h2 => h1 a (by omega))
theorem cs.fr {m m' : mm_M} {S : sp_S} (h : cs m S) (h1 : fr m m') : cs m' S := h.of (fun a h2 => h1 a (Or.inl h2))
