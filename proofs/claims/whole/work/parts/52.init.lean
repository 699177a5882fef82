abbrev rowN : ec_C := .inr (5, [.null, .int 0])
abbrev rowC (z : Nat) : ec_C := .inr (5, [.ref z, .int (nI 0)])
abbrev fzC (N : Nat) (x : Int32) : ec_C := .inl (.int, N, .inl (fun j => if j < N then x else 0))
abbrev bzC (N : Nat) : ec_C := .inl (.boolean, N, .inl (fun _ => 0))
abbrev rfG (N : Nat) (g : Nat → Option Nat) : ec_C := .inl (.object "SuggestSpell$Row", N, .inr (.inr (.inr (.inr g))))
/-- a row of Rows, the first i there, each two cells on -/
abbrev rfC (z N i : Nat) : ec_C := .inl (.object "SuggestSpell$Row", N, .inr (.inr (.inr (.inr (fun j => if j < i then some (z + 2 * j) else none)))))
def rws (z : Nat) : Nat → List ec_C
  | 0 => []
  | i + 1 => rws z i ++ [rowC (z + (2 * i + 1)), ec_ic 12]
theorem rws_len (z : Nat) : ∀ i, (rws z i).length = 2 * i
  | 0 => rfl
  | i + 1 => by
    show (rws z i ++ _).length = _
    rw [List.length_append, rws_len z i]
    simp
    omega
theorem set_last {α : Type} : ∀ (xs : List α) (y z : α) (k : Nat), xs.length = k → (xs ++ [y]).set k z = xs ++ [z]
  | [], _, _, 0, _ => rfl
  | x :: xs, y, z, k + 1, h => by
    show x :: (xs ++ [y]).set k z = x :: (xs ++ [z])
    rw [set_last xs y z k (by simpa using h)]
theorem rf_up (z N i : Nat) : va_up (fun j => if j < i then some (z + 2 * j) else none) i (some (z + 2 * i)) = (fun j => if j < i + 1 then some (z + 2 * j) else none) := by
  funext j
  unfold va_up
  by_cases e : j = i
  · subst e; simp
  · simp [e]
    by_cases e2 : j < i
    · rw [if_pos e2, if_pos (by omega)]
    · rw [if_neg e2, if_neg (by omega)]
theorem rf_0 : (fun (_ : Nat) => (none : Option Nat)) = (fun j => if j < 0 then some (0 + 2 * j) else none) := by
  funext j; simp
section INI
variable {l : Launch} {D : va_G} {kA : FieldType → ClassId} {B : Nat}
set_option maxRecDepth 100000 in
theorem k_Row {h : ec_H} {a : Nat} (ha : a < h.1) (hB : B ≤ h.1) (hc : h.2 a = some (.inr (5, [.null, .int 0]))) : ec_FI l D kA B 1 20 1 12 mX5_init [] h a [ec_ic 12] (rowC h.1) := by
  refine x_start hc ?_
  refine e_aload_n dX5_init_0 rfl rfl ?_
  refine e_obj dX5_init_1 lo_X5_3 wo_i wo_c (Nat.le_of_ble_eq_true rfl) (Nat.le_of_ble_eq_true rfl) ?_
  refine e_aload_n dX5_init_4 rfl rfl ?_
  refine e_bipush (v := nI 12) dX5_init_5 (by decide) ?_
  refine x_newa (q := 0) (a0 := (12, .inl (fun _ => 0))) ha dX5_init_7 rfl wa_int (by decide) (fun _ => rfl) (by decide) (by decide) (by decide) (Nat.le_of_ble_eq_true rfl) (Nat.le_of_ble_eq_true rfl) hB rfl rfl ?_
  refine x_put 5 0 true lp_X5_9 (fun _ => rfl) dX5_init_9 rfl rfl (Nat.le_of_ble_eq_true rfl) rfl ?_
  refine e_aload_n dX5_init_12 rfl rfl ?_
  refine e_iconst (v := nI 0) dX5_init_13 (by decide) ?_
  refine x_put 5 1 false lp_X5_15 (fun _ => rfl) dX5_init_14 rfl rfl (Nat.le_of_ble_eq_true rfl) rfl ?_
  exact e_vret dX5_init_17 rfl (Nat.le_of_ble_eq_true rfl) (Nat.le_of_ble_eq_true rfl) ⟨rfl, rfl⟩
set_option maxRecDepth 100000 in
theorem k_Ranking {h : ec_H} {a : Nat} (ha : a < h.1) (hB : B ≤ h.1) (hc : h.2 a = some (.inr (4, [.null, .null, .null, .int 0]))) : ec_FI l D kA B 1 20 3 180 mX4_init [] h a [ec_ic 60, ec_ic 60, ec_ic 60] (.inr (4, [.ref (h.1 + 0), .ref (h.1 + 1), .ref (h.1 + 2), .int (nI 0)])) := by
  refine x_start hc ?_
  refine e_aload_n dX4_init_0 rfl rfl ?_
  refine e_obj dX4_init_1 lo_X4_3 wo_i wo_c (Nat.le_of_ble_eq_true rfl) (Nat.le_of_ble_eq_true rfl) ?_
  refine e_aload_n dX4_init_4 rfl rfl ?_
  refine e_bipush (v := nI 60) dX4_init_5 (by decide) ?_
  refine x_newa (q := 0) (a0 := (60, .inl (fun _ => 0))) ha dX4_init_7 rfl wa_int (by decide) (fun _ => rfl) (by decide) (by decide) (by decide) (Nat.le_of_ble_eq_true rfl) (Nat.le_of_ble_eq_true rfl) hB rfl rfl ?_
  refine x_put 4 0 true lp_X4_9 (fun _ => rfl) dX4_init_9 rfl rfl (Nat.le_of_ble_eq_true rfl) rfl ?_
  refine e_aload_n dX4_init_12 rfl rfl ?_
  refine e_bipush (v := nI 60) dX4_init_13 (by decide) ?_
  refine x_newa (q := 1) (a0 := (60, .inl (fun _ => 0))) ha dX4_init_15 rfl wa_int (by decide) (fun _ => rfl) (by decide) (by decide) (by decide) (Nat.le_of_ble_eq_true rfl) (Nat.le_of_ble_eq_true rfl) hB rfl rfl ?_
  refine x_put 4 1 true lp_X4_15 (fun _ => rfl) dX4_init_17 rfl rfl (Nat.le_of_ble_eq_true rfl) rfl ?_
  refine e_aload_n dX4_init_20 rfl rfl ?_
  refine e_bipush (v := nI 60) dX4_init_21 (by decide) ?_
  refine x_newa (q := 2) (a0 := (60, .inl (fun _ => 0))) ha dX4_init_23 rfl wa_int (by decide) (fun _ => rfl) (by decide) (by decide) (by decide) (Nat.le_of_ble_eq_true rfl) (Nat.le_of_ble_eq_true rfl) hB rfl rfl ?_
  refine x_put 4 2 true lp_X4_18 (fun _ => rfl) dX4_init_25 rfl rfl (Nat.le_of_ble_eq_true rfl) rfl ?_
  refine e_aload_n dX4_init_28 rfl rfl ?_
  refine e_iconst (v := nI 0) dX4_init_29 (by decide) ?_
  refine x_put 4 3 false lp_X4_21 (fun _ => rfl) dX4_init_30 rfl rfl (Nat.le_of_ble_eq_true rfl) rfl ?_
  exact e_vret dX4_init_33 rfl (Nat.le_of_ble_eq_true rfl) (Nat.le_of_ble_eq_true rfl) ⟨rfl, rfl⟩
abbrev sideC (z : Nat) : ec_C := .inr (6, [.ref (z + 0), .ref (z + 1)])
set_option maxRecDepth 100000 in
theorem k_Side {h : ec_H} {a : Nat} (ha : a < h.1) (hB : B ≤ h.1) (hc : h.2 a = some (.inr (6, [.null, .null]))) : ec_FI l D kA B 1 20 2 26 mX6_init [] h a [ec_ic 13, ec_ic 13] (sideC h.1) := by
  refine x_start hc ?_
  refine e_aload_n dX6_init_0 rfl rfl ?_
  refine e_obj dX6_init_1 lo_X6_3 wo_i wo_c (Nat.le_of_ble_eq_true rfl) (Nat.le_of_ble_eq_true rfl) ?_
  refine e_aload_n dX6_init_4 rfl rfl ?_
  refine e_bipush (v := nI 13) dX6_init_5 (by decide) ?_
  refine x_newa (q := 0) (a0 := (13, .inl (fun _ => 0))) ha dX6_init_7 rfl wa_int (by decide) (fun _ => rfl) (by decide) (by decide) (by decide) (Nat.le_of_ble_eq_true rfl) (Nat.le_of_ble_eq_true rfl) hB rfl rfl ?_
  refine x_put 6 0 true lp_X6_9 (fun _ => rfl) dX6_init_9 rfl rfl (Nat.le_of_ble_eq_true rfl) rfl ?_
  refine e_aload_n dX6_init_12 rfl rfl ?_
  refine e_bipush (v := nI 13) dX6_init_13 (by decide) ?_
  refine x_newa (q := 1) (a0 := (13, .inl (fun _ => 0))) ha dX6_init_15 rfl wa_int (by decide) (fun _ => rfl) (by decide) (by decide) (by decide) (Nat.le_of_ble_eq_true rfl) (Nat.le_of_ble_eq_true rfl) hB rfl rfl ?_
  refine x_put 6 1 true lp_X6_15 (fun _ => rfl) dX6_init_17 rfl rfl (Nat.le_of_ble_eq_true rfl) rfl ?_
  exact e_vret dX6_init_20 rfl (Nat.le_of_ble_eq_true rfl) (Nat.le_of_ble_eq_true rfl) ⟨rfl, rfl⟩
set_option maxRecDepth 100000 in
theorem k_Parting {h : ec_H} {a : Nat} (ha : a < h.1) (hB : B ≤ h.1) (hc : h.2 a = some (.inr (2, [.null, .null, .int 0, .int 0, .int 0, .int 0]))) : ec_FI l D kA B 2 40 6 56 mX2_init [] h a [sideC (h.1 + 1), ec_ic 13, ec_ic 13, sideC (h.1 + 4), ec_ic 13, ec_ic 13] (.inr (2, [.ref (h.1 + 0), .ref (h.1 + 3), .int 1000000, .int (nI 0), .int (nI 0), .int (nI 0)])) := by
  refine x_start hc ?_
  refine e_aload_n dX2_init_0 rfl rfl ?_
  refine e_obj dX2_init_1 lo_X2_3 wo_i wo_c (Nat.le_of_ble_eq_true rfl) (Nat.le_of_ble_eq_true rfl) ?_
  refine e_aload_n dX2_init_4 rfl rfl ?_
  refine x_new (q := 0) ha ld_X2_9 dX2_init_5 (Nat.le_of_ble_eq_true rfl) (Nat.le_of_ble_eq_true rfl) hB rfl rfl ?_
  refine e_dup dX2_init_8 rfl ?_
  refine x_callN (q := 0) (As := []) ha "SuggestSpell" ln_X2_11 dX2_init_9 (Nat.le_of_ble_eq_true rfl) rfl rfl (by simp [Value.category]) (Nat.le_of_ble_eq_true rfl) (Nat.le_of_ble_eq_true rfl) ⟨(Nat.le_of_ble_eq_true rfl), (Nat.le_of_ble_eq_true rfl)⟩ ⟨(Nat.le_of_ble_eq_true rfl), (Nat.le_of_ble_eq_true rfl)⟩ (k_Side (by show _ < h.1 + _; simp) (by show _ ≤ h.1 + _; omega) ((ec_x_k ha).trans rfl)) rfl ?_
  refine x_put 2 0 true lp_X2_12 (fun _ => rfl) dX2_init_12 rfl rfl (Nat.le_of_ble_eq_true rfl) rfl ?_
  refine e_aload_n dX2_init_15 rfl rfl ?_
  refine x_new (q := 3) ha ld_X2_9 dX2_init_16 (Nat.le_of_ble_eq_true rfl) (Nat.le_of_ble_eq_true rfl) hB rfl rfl ?_
  refine e_dup dX2_init_19 rfl ?_
  refine x_callN (q := 3) (As := []) ha "SuggestSpell" ln_X2_11 dX2_init_20 (Nat.le_of_ble_eq_true rfl) rfl rfl (by simp [Value.category]) (Nat.le_of_ble_eq_true rfl) (Nat.le_of_ble_eq_true rfl) ⟨(Nat.le_of_ble_eq_true rfl), (Nat.le_of_ble_eq_true rfl)⟩ ⟨(Nat.le_of_ble_eq_true rfl), (Nat.le_of_ble_eq_true rfl)⟩ (k_Side (by show _ < h.1 + _; simp) (by show _ ≤ h.1 + _; omega) ((ec_x_k ha).trans rfl)) rfl ?_
  refine x_put 2 1 true lp_X2_18 (fun _ => rfl) dX2_init_23 rfl rfl (Nat.le_of_ble_eq_true rfl) rfl ?_
  refine e_aload_n dX2_init_26 rfl rfl ?_
  refine e_ldc dX2_init_27 lk_X2_21 ?_
  refine x_put 2 2 false lp_X2_22 (fun _ => rfl) dX2_init_29 rfl rfl (Nat.le_of_ble_eq_true rfl) rfl ?_
  refine e_aload_n dX2_init_32 rfl rfl ?_
  refine e_iconst (v := nI 0) dX2_init_33 (by decide) ?_
  refine x_put 2 3 false lp_X2_26 (fun _ => rfl) dX2_init_34 rfl rfl (Nat.le_of_ble_eq_true rfl) rfl ?_
  refine e_aload_n dX2_init_37 rfl rfl ?_
  refine e_iconst (v := nI 0) dX2_init_38 (by decide) ?_
  refine x_put 2 4 false lp_X2_29 (fun _ => rfl) dX2_init_39 rfl rfl (Nat.le_of_ble_eq_true rfl) rfl ?_
  refine e_aload_n dX2_init_42 rfl rfl ?_
  refine e_iconst (v := nI 0) dX2_init_43 (by decide) ?_
  refine x_put 2 5 false lp_X2_32 (fun _ => rfl) dX2_init_44 rfl rfl (Nat.le_of_ble_eq_true rfl) rfl ?_
  exact e_vret dX2_init_47 rfl (Nat.le_of_ble_eq_true rfl) (Nat.le_of_ble_eq_true rfl) ⟨rfl, rfl⟩
set_option maxRecDepth 100000 in
theorem k_Choice {h : ec_H} {a : Nat} (ha : a < h.1) (hB : B ≤ h.1) (hc : h.2 a = some (.inr (0, [.null, .null, .null, .null]))) : ec_FI l D kA B 1 20 22 1104 mX0_init [] h a (ec_oc (h.1 + 0) 6 :: List.replicate 6 (ec_ic 60) ++ (ec_oc (h.1 + 7) 6 :: List.replicate 6 (ec_ic 60) ++ (ec_oc (h.1 + 14) 6 :: List.replicate 6 (ec_ic 60) ++ [ec_ic 6]))) (.inr (0, [.ref (h.1 + 0), .ref (h.1 + 7), .ref (h.1 + 14), .ref (h.1 + 21)])) := by
  refine x_start hc ?_
  refine e_aload_n dX0_init_0 rfl rfl ?_
  refine e_obj dX0_init_1 lo_X0_3 wo_i wo_c (Nat.le_of_ble_eq_true rfl) (Nat.le_of_ble_eq_true rfl) ?_
  refine e_aload_n dX0_init_4 rfl rfl ?_
  refine e_bipush (v := nI 6) dX0_init_5 (by decide) ?_
  refine e_bipush (v := nI 60) dX0_init_7 (by decide) ?_
  refine x_mna (q := 0) (N := 6) (K := 60) ha dX0_init_9 lw_X0_9 (by decide) (by decide) (by decide) (by decide) (by decide) (by decide) (Nat.le_of_ble_eq_true rfl) (Nat.le_of_ble_eq_true rfl) hB rfl rfl ?_
  refine x_put 0 0 true lp_X0_11 (fun _ => rfl) dX0_init_13 rfl rfl (Nat.le_of_ble_eq_true rfl) rfl ?_
  refine e_aload_n dX0_init_16 rfl rfl ?_
  refine e_bipush (v := nI 6) dX0_init_17 (by decide) ?_
  refine e_bipush (v := nI 60) dX0_init_19 (by decide) ?_
  refine x_mna (q := 7) (N := 6) (K := 60) ha dX0_init_21 lw_X0_9 (by decide) (by decide) (by decide) (by decide) (by decide) (by decide) (Nat.le_of_ble_eq_true rfl) (Nat.le_of_ble_eq_true rfl) hB rfl rfl ?_
  refine x_put 0 1 true lp_X0_16 (fun _ => rfl) dX0_init_25 rfl rfl (Nat.le_of_ble_eq_true rfl) rfl ?_
  refine e_aload_n dX0_init_28 rfl rfl ?_
  refine e_bipush (v := nI 6) dX0_init_29 (by decide) ?_
  refine e_bipush (v := nI 60) dX0_init_31 (by decide) ?_
  refine x_mna (q := 14) (N := 6) (K := 60) ha dX0_init_33 lw_X0_9 (by decide) (by decide) (by decide) (by decide) (by decide) (by decide) (Nat.le_of_ble_eq_true rfl) (Nat.le_of_ble_eq_true rfl) hB rfl rfl ?_
  refine x_put 0 2 true lp_X0_19 (fun _ => rfl) dX0_init_37 rfl rfl (Nat.le_of_ble_eq_true rfl) rfl ?_
  refine e_aload_n dX0_init_40 rfl rfl ?_
  refine e_bipush (v := nI 6) dX0_init_41 (by decide) ?_
  refine x_newa (q := 21) (a0 := (6, .inl (fun _ => 0))) ha dX0_init_43 rfl wa_int (by decide) (fun _ => rfl) (by decide) (by decide) (by decide) (Nat.le_of_ble_eq_true rfl) (Nat.le_of_ble_eq_true rfl) hB rfl rfl ?_
  refine x_put 0 3 true lp_X0_22 (fun _ => rfl) dX0_init_45 rfl rfl (Nat.le_of_ble_eq_true rfl) rfl ?_
  exact e_vret dX0_init_48 rfl (Nat.le_of_ble_eq_true rfl) (Nat.le_of_ble_eq_true rfl) ⟨rfl, rfl⟩
set_option maxRecDepth 100000 in
theorem k_Table {h : ec_H} {a p : Nat} (ha : a < h.1) (hB : B ≤ h.1) (hc : h.2 a = some (.inr (7, [.null, .null, .null, .null, .null, .null, .int 0]))) : ec_FI l D kA B 2 40 20 258 mX7_init [.ref p] h a (rowC (h.1 + 1) :: ec_ic 12 :: rowC (h.1 + 3) :: ec_ic 12 :: ec_oc (h.1 + 4) 13 :: List.replicate 13 (ec_ic 13) ++ [ec_ic 24, ec_ic 24]) (.inr (7, [.ref p, .ref (h.1 + 0), .ref (h.1 + 2), .ref (h.1 + 4), .ref (h.1 + 18), .ref (h.1 + 19), .int (nI 0)])) := by
  refine x_start hc ?_
  refine e_aload_n dX7_init_0 rfl rfl ?_
  refine e_obj dX7_init_1 lo_X7_3 wo_i wo_c (Nat.le_of_ble_eq_true rfl) (Nat.le_of_ble_eq_true rfl) ?_
  refine e_aload_n dX7_init_4 rfl rfl ?_
  refine x_new (q := 0) ha ld_X7_9 dX7_init_5 (Nat.le_of_ble_eq_true rfl) (Nat.le_of_ble_eq_true rfl) hB rfl rfl ?_
  refine e_dup dX7_init_8 rfl ?_
  refine x_callN (q := 0) (As := []) ha "SuggestSpell" ln_X7_11 dX7_init_9 (Nat.le_of_ble_eq_true rfl) rfl rfl (by simp [Value.category]) (Nat.le_of_ble_eq_true rfl) (Nat.le_of_ble_eq_true rfl) ⟨(Nat.le_of_ble_eq_true rfl), (Nat.le_of_ble_eq_true rfl)⟩ ⟨(Nat.le_of_ble_eq_true rfl), (Nat.le_of_ble_eq_true rfl)⟩ (k_Row (by show _ < h.1 + _; simp) (by show _ ≤ h.1 + _; omega) ((ec_x_k ha).trans rfl)) rfl ?_
  refine x_put 7 1 true lp_X7_12 (fun _ => rfl) dX7_init_12 rfl rfl (Nat.le_of_ble_eq_true rfl) rfl ?_
  refine e_aload_n dX7_init_15 rfl rfl ?_
  refine x_new (q := 2) ha ld_X7_9 dX7_init_16 (Nat.le_of_ble_eq_true rfl) (Nat.le_of_ble_eq_true rfl) hB rfl rfl ?_
  refine e_dup dX7_init_19 rfl ?_
  refine x_callN (q := 2) (As := []) ha "SuggestSpell" ln_X7_11 dX7_init_20 (Nat.le_of_ble_eq_true rfl) rfl rfl (by simp [Value.category]) (Nat.le_of_ble_eq_true rfl) (Nat.le_of_ble_eq_true rfl) ⟨(Nat.le_of_ble_eq_true rfl), (Nat.le_of_ble_eq_true rfl)⟩ ⟨(Nat.le_of_ble_eq_true rfl), (Nat.le_of_ble_eq_true rfl)⟩ (k_Row (by show _ < h.1 + _; simp) (by show _ ≤ h.1 + _; omega) ((ec_x_k ha).trans rfl)) rfl ?_
  refine x_put 7 2 true lp_X7_18 (fun _ => rfl) dX7_init_23 rfl rfl (Nat.le_of_ble_eq_true rfl) rfl ?_
  refine e_aload_n dX7_init_26 rfl rfl ?_
  refine e_bipush (v := nI 13) dX7_init_27 (by decide) ?_
  refine e_bipush (v := nI 13) dX7_init_29 (by decide) ?_
  refine x_mna (q := 4) (N := 13) (K := 13) ha dX7_init_31 lw_X7_21 (by decide) (by decide) (by decide) (by decide) (by decide) (by decide) (Nat.le_of_ble_eq_true rfl) (Nat.le_of_ble_eq_true rfl) hB rfl rfl ?_
  refine x_put 7 3 true lp_X7_23 (fun _ => rfl) dX7_init_35 rfl rfl (Nat.le_of_ble_eq_true rfl) rfl ?_
  refine e_aload_n dX7_init_38 rfl rfl ?_
  refine e_bipush (v := nI 24) dX7_init_39 (by decide) ?_
  refine x_newa (q := 18) (a0 := (24, .inl (fun _ => 0))) ha dX7_init_41 rfl wa_int (by decide) (fun _ => rfl) (by decide) (by decide) (by decide) (Nat.le_of_ble_eq_true rfl) (Nat.le_of_ble_eq_true rfl) hB rfl rfl ?_
  refine x_put 7 4 true lp_X7_26 (fun _ => rfl) dX7_init_43 rfl rfl (Nat.le_of_ble_eq_true rfl) rfl ?_
  refine e_aload_n dX7_init_46 rfl rfl ?_
  refine e_bipush (v := nI 24) dX7_init_47 (by decide) ?_
  refine x_newa (q := 19) (a0 := (24, .inl (fun _ => 0))) ha dX7_init_49 rfl wa_int (by decide) (fun _ => rfl) (by decide) (by decide) (by decide) (Nat.le_of_ble_eq_true rfl) (Nat.le_of_ble_eq_true rfl) hB rfl rfl ?_
  refine x_put 7 5 true lp_X7_30 (fun _ => rfl) dX7_init_51 rfl rfl (Nat.le_of_ble_eq_true rfl) rfl ?_
  refine e_aload_n dX7_init_54 rfl rfl ?_
  refine e_iconst (v := nI 0) dX7_init_55 (by decide) ?_
  refine x_put 7 6 false lp_X7_33 (fun _ => rfl) dX7_init_56 rfl rfl (Nat.le_of_ble_eq_true rfl) rfl ?_
  refine e_aload_n dX7_init_59 rfl rfl ?_
  refine e_aload_n dX7_init_60 rfl rfl ?_
  refine x_put 7 0 true lp_X7_37 (fun _ => rfl) dX7_init_61 rfl rfl (Nat.le_of_ble_eq_true rfl) rfl ?_
  exact e_vret dX7_init_64 rfl (Nat.le_of_ble_eq_true rfl) (Nat.le_of_ble_eq_true rfl) ⟨rfl, rfl⟩
abbrev fI (N : Nat) (f : Nat → Int32) : ec_C := .inl (.int, N, .inl f)
set_option maxRecDepth 100000 in
/-- Arrays.fill over any heap -/
theorem k_fill {h : ec_H} {r N : Nat} {f : Nat → Int32} (x : Int32) (hr : h.2 r = some (fI N f)) (hN : N < 10000) : ec_F l D kA B 0 0 0 0 mJ7_fill_53178 [.ref r, .int x] h (fun v h1 => v = none ∧ h1 = ec_up h r (fI N (fun j => if j < N then x else f j))) := by
  refine e_weak (h' := ec_up h r (fI N (fun j => if j < 0 then x else f j))) rfl (fun b c hb => ?_) ?_
  · change (if b = r then some (fI N (fun j => if j < 0 then x else f j)) else h.2 b) = some c at hb
    split at hb
    next e =>
      subst e
      cases hb
      rw [hr]
      exact congrArg (fun g => some (fI N g)) (funext fun j => (if_neg (Nat.not_lt_zero j)).symm)
    next e => exact hb
  refine e_iconst (v := nI 0) dJ7_fill_53178_0 (by decide) ?_
  refine e_istore_n dJ7_fill_53178_1 rfl (by decide) rfl ?_
  refine e_aload_n dJ7_fill_53178_2 rfl rfl ?_
  refine e_alen (v := nI N) dJ7_fill_53178_3 (by decide) (if_pos rfl) rfl ?_
  refine e_istore_n dJ7_fill_53178_4 rfl (by decide) rfl ?_
  have loop : ∀ (d i : Nat), N - i = d → i ≤ N → ec_W l D kA B (fun _ => True) (ec_room 0 0 0 0) (ec_Z D kA B (fun v h1 => v = none ∧ h1 = ec_up h r (fI N (fun j => if j < N then x else f j))) 0 0) mJ7_fill_53178 0 0 5 [some (.ref r), some (.int x), some (.int (nI i)), some (.int (nI N))] [] (ec_up h r (fI N (fun j => if j < i then x else f j))) := by
    intro d
    induction d with
    | zero =>
      intro i h1 h2
      refine e_iload_n dJ7_fill_53178_5 rfl rfl ?_
      refine e_iload_n dJ7_fill_53178_6 rfl rfl ?_
      refine n_icmp_ge 20 dJ7_fill_53178_7 (by decide) (by omega) (by omega) (fun g1 => ?_) (fun g1 => ?_)
      · refine e_vret dJ7_fill_53178_20 rfl (Nat.le_refl _) (Nat.le_refl _) ⟨rfl, ?_⟩
        rw [show i = N by omega]
      · exact absurd g1 (by omega)
    | succ d ih =>
      intro i h1 h2
      refine e_iload_n dJ7_fill_53178_5 rfl rfl ?_
      refine e_iload_n dJ7_fill_53178_6 rfl rfl ?_
      refine n_icmp_ge 20 dJ7_fill_53178_7 (by decide) (by omega) (by omega) (fun g1 => ?_) (fun g1 => ?_)
      · exact absurd g1 (by omega)
      · refine e_aload_n dJ7_fill_53178_10 rfl rfl ?_
        refine e_iload_n dJ7_fill_53178_11 rfl rfl ?_
        refine e_iload_n dJ7_fill_53178_12 rfl rfl ?_
        refine e_iast dJ7_fill_53178_13 (if_pos rfl) (vp_in_nI (by omega) (by omega)) ?_
        rw [nI_clamp (by omega)]
        refine e_iinc (v := nI (i + 1)) dJ7_fill_53178_14 rfl (nI_add _ _) (by decide) rfl ?_
        refine e_goto 5 dJ7_fill_53178_17 (by decide) ?_
        have e9 : ec_up (ec_up h r (fI N (fun j => if j < i then x else f j))) r (fI N (upd (fun j => if j < i then x else f j) i x)) = ec_up h r (fI N (fun j => if j < i + 1 then x else f j)) := by
          unfold ec_up
          refine Prod.ext rfl (funext fun b => ?_)
          dsimp only
          by_cases e : b = r
          · rw [if_pos e, if_pos e]
            refine congrArg (fun g => some (fI N g)) (funext fun j => ?_)
            unfold upd
            by_cases e2 : j = i
            · rw [if_pos e2, if_pos (by omega)]
            · rw [if_neg e2]
              show (if j < i then x else f j) = _
              by_cases e3 : j < i
              · rw [if_pos e3, if_pos (by omega)]
              · rw [if_neg e3, if_neg (by omega)]
          · rw [if_neg e, if_neg e, if_neg e]
        rw [e9]
        exact ih (i + 1) (by omega) (by omega)
  exact loop N 0 (by omega) (by omega)
abbrev p6 : Nat → Int32 := upd (upd (upd (upd (upd (upd (fun _ => 0) 0 (nI 2)) 1 (nI 2)) 2 (nI 3)) 3 (nI 1)) 4 (nI 5)) 5 (nI 4)
theorem rep_set {α : Type} (A Z : α) : ∀ i d : Nat, (List.replicate i A ++ List.replicate (d + 1) Z).set i A = List.replicate (i + 1) A ++ List.replicate d Z
  | 0, _ => rfl
  | i + 1, d => congrArg (A :: ·) (rep_set A Z i d)
theorem rep_get {α : Type} (A Z : α) : ∀ i d : Nat, (List.replicate i A ++ List.replicate (d + 1) Z)[i]? = some Z
  | 0, _ => rfl
  | i + 1, d => rep_get A Z i d
abbrev prc (z : Nat) (i d : Nat) : List ec_C := fI 6 p6 :: ec_oc (z + 1) 26 :: (List.replicate i (fzC 26 (-1)) ++ List.replicate d (ec_ic 26))
abbrev prO (z : Nat) : ec_C := .inr (3, [.ref (z + 0), .ref (z + 1)])
set_option maxRecDepth 100000 in
theorem k_Prices {h : ec_H} {a : Nat} (ha : a < h.1) (hB : B ≤ h.1) (hc : h.2 a = some (.inr (3, [.null, .null]))) : ec_FI l D kA B 1 23 28 708 mX3_init [] h a (prc h.1 26 0) (prO h.1) := by
  refine x_start hc ?_
  refine e_aload_n dX3_init_0 rfl rfl ?_
  refine e_obj dX3_init_1 lo_X3_3 wo_i wo_c (Nat.le_of_ble_eq_true rfl) (Nat.le_of_ble_eq_true rfl) ?_
  refine e_aload_n dX3_init_4 rfl rfl ?_
  refine e_bipush (v := nI 6) dX3_init_5 (by decide) ?_
  refine x_newa (q := 0) (a0 := (6, .inl (fun _ => 0))) ha dX3_init_7 rfl wa_int (by decide) (fun _ => rfl) (by decide) (by decide) (by decide) (Nat.le_of_ble_eq_true rfl) (Nat.le_of_ble_eq_true rfl) hB rfl rfl ?_
  refine e_dup dX3_init_9 rfl ?_
  refine e_iconst (v := nI 0) dX3_init_10 (by decide) ?_
  refine e_iconst (v := nI 2) dX3_init_11 (by decide) ?_
  refine x_iast (n := 0) ha dX3_init_12 rfl rfl (by decide) (by decide) rfl ?_
  refine e_dup dX3_init_13 rfl ?_
  refine e_iconst (v := nI 1) dX3_init_14 (by decide) ?_
  refine e_iconst (v := nI 2) dX3_init_15 (by decide) ?_
  refine x_iast (n := 1) ha dX3_init_16 rfl rfl (by decide) (by decide) rfl ?_
  refine e_dup dX3_init_17 rfl ?_
  refine e_iconst (v := nI 2) dX3_init_18 (by decide) ?_
  refine e_iconst (v := nI 3) dX3_init_19 (by decide) ?_
  refine x_iast (n := 2) ha dX3_init_20 rfl rfl (by decide) (by decide) rfl ?_
  refine e_dup dX3_init_21 rfl ?_
  refine e_iconst (v := nI 3) dX3_init_22 (by decide) ?_
  refine e_iconst (v := nI 1) dX3_init_23 (by decide) ?_
  refine x_iast (n := 3) ha dX3_init_24 rfl rfl (by decide) (by decide) rfl ?_
  refine e_dup dX3_init_25 rfl ?_
  refine e_iconst (v := nI 4) dX3_init_26 (by decide) ?_
  refine e_iconst (v := nI 5) dX3_init_27 (by decide) ?_
  refine x_iast (n := 4) ha dX3_init_28 rfl rfl (by decide) (by decide) rfl ?_
  refine e_dup dX3_init_29 rfl ?_
  refine e_iconst (v := nI 5) dX3_init_30 (by decide) ?_
  refine e_iconst (v := nI 4) dX3_init_31 (by decide) ?_
  refine x_iast (n := 5) ha dX3_init_32 rfl rfl (by decide) (by decide) rfl ?_
  refine x_put 3 0 true lp_X3_9 (fun _ => rfl) dX3_init_33 rfl rfl (Nat.le_of_ble_eq_true rfl) rfl ?_
  refine e_aload_n dX3_init_36 rfl rfl ?_
  refine e_bipush (v := nI 26) dX3_init_37 (by decide) ?_
  refine e_bipush (v := nI 26) dX3_init_39 (by decide) ?_
  refine x_mna (q := 1) (N := 26) (K := 26) ha dX3_init_41 lw_X3_15 (by decide) (by decide) (by decide) (by decide) (by decide) (by decide) (Nat.le_of_ble_eq_true rfl) (Nat.le_of_ble_eq_true rfl) hB rfl rfl ?_
  refine x_put 3 1 true lp_X3_17 (fun _ => rfl) dX3_init_45 rfl rfl (Nat.le_of_ble_eq_true rfl) rfl ?_
  refine e_iconst (v := nI 0) dX3_init_48 (by decide) ?_
  refine e_istore_n dX3_init_49 rfl (by decide) rfl ?_
  have loop : ∀ (d i : Nat), i + d = 26 → ec_W l D kA B (fun _ => True) (ec_room 1 23 28 708) (ec_Z D kA B (fun v h1 => v = none ∧ h1 = ec_x h (prc h.1 26 0) a (prO h.1)) 28 708) mX3_init 28 708 50 [some (.ref a), some (.int (nI i))] [] (ec_x h (prc h.1 i d) a (prO h.1)) := by
    intro d
    induction d with
    | zero =>
      intro i h1
      refine e_iload_n dX3_init_50 rfl rfl ?_
      refine e_bipush (v := nI 26) dX3_init_51 (by decide) ?_
      refine n_icmp_ge 72 dX3_init_53 (by decide) (by omega) (by omega) (fun g1 => ?_) (fun g1 => ?_)
      · refine e_vret dX3_init_72 rfl (Nat.le_of_ble_eq_true rfl) (Nat.le_of_ble_eq_true rfl) ⟨rfl, ?_⟩
        rw [show i = 26 by omega]
      · exact absurd g1 (by omega)
    | succ d ih =>
      intro i h1
      refine e_iload_n dX3_init_50 rfl rfl ?_
      refine e_bipush (v := nI 26) dX3_init_51 (by decide) ?_
      refine n_icmp_ge 72 dX3_init_53 (by decide) (by omega) (by omega) (fun g1 => ?_) (fun g1 => ?_)
      · exact absurd g1 (by omega)
      · refine e_aload_n dX3_init_56 rfl rfl ?_
        refine x_get 3 1 lf_X3_17 dX3_init_57 rfl ?_
        refine e_iload_n dX3_init_60 rfl rfl ?_
        have hi : i < 26 := by omega
        refine e_aald (v := .ref (h.1 + (i + 2))) dX3_init_61 (by decide) rfl (ec_x_k ha) (vp_in_nI hi (by decide)) (by
          rw [nI_clamp (by omega)]
          rw [if_pos hi]
          show Value.ref (h.1 + 1 + 1 + i) = _
          rw [show h.1 + 1 + 1 + i = h.1 + (i + 2) by omega]) ?_
        refine e_iconst (v := -1) dX3_init_62 (by decide) ?_
        refine e_callS (As := [.ref (h.1 + (i + 2)), .int (-1)]) lc_X3_20 dX3_init_63 rfl rfl (by simp [Value.category]) (Nat.le_of_ble_eq_true rfl) (Nat.le_of_ble_eq_true rfl) ⟨Nat.le_of_ble_eq_true rfl, Nat.le_of_ble_eq_true rfl⟩ ⟨Nat.le_of_ble_eq_true rfl, Nat.le_of_ble_eq_true rfl⟩ (k_fill (-1) ((ec_x_k ha).trans (rep_get _ _ i d)) (by decide)) (fun v9 h9 hp9 => ?_)
        obtain ⟨rfl, rfl⟩ := hp9
        rw [ec_x_upk ha (by simp)]
        refine e_iinc (v := nI (i + 1)) dX3_init_66 rfl (nI_add _ _) (by decide) rfl ?_
        refine e_goto 50 dX3_init_69 (by decide) ?_
        have e9 : (prc h.1 i (d + 1)).set (i + 2) (fI 26 (fun j => if j < 26 then -1 else (fun _ => 0) j)) = prc h.1 (i + 1) d := by
          show fI 6 p6 :: ec_oc (h.1 + 1) 26 :: (List.replicate i (fzC 26 (-1)) ++ List.replicate (d + 1) (ec_ic 26)).set i (fzC 26 (-1)) = _
          rw [rep_set]
        rw [e9]
        exact ih (i + 1) (by omega)
  exact loop 26 0 (by omega)
abbrev wdsc (z i : Nat) : List ec_C := rfC (z + 4) 60 i :: ec_ic 60 :: ec_ic 60 :: bzC 3600 :: rws (z + 4) i
abbrev wdsO (z : Nat) : ec_C := .inr (8, [.ref (z + 0), .ref (z + 1), .ref (z + 2), .ref (z + 3), .int (nI 0)])
theorem wds_len (z i : Nat) : (wdsc z i).length = 2 * i + 4 := by simp [rws_len]
theorem wds_st (z i : Nat) : (wdsc z i ++ [rowN]).set (2 * i + 4) (rowC (z + 4 + (2 * i + 1))) ++ [ec_ic 12] = rfC (z + 4) 60 i :: ec_ic 60 :: ec_ic 60 :: bzC 3600 :: rws (z + 4) (i + 1) := by
  show rfC (z + 4) 60 i :: ec_ic 60 :: ec_ic 60 :: bzC 3600 :: ((rws (z + 4) i ++ [rowN]).set (2 * i) (rowC (z + 4 + (2 * i + 1))) ++ [ec_ic 12]) = _
  rw [set_last _ _ _ _ (rws_len _ i), List.append_assoc]
  rfl
set_option maxRecDepth 100000 in
theorem k_Words {h : ec_H} {a : Nat} (ha : a < h.1) (hB : B ≤ h.1) (hc : h.2 a = some (.inr (8, [.null, .null, .null, .null, .int 0]))) : ec_FI l D kA B 2 40 124 4620 mX8_init [] h a (wdsc h.1 60) (wdsO h.1) := by
  refine x_start hc ?_
  refine e_aload_n dX8_init_0 rfl rfl ?_
  refine e_obj dX8_init_1 lo_X8_3 wo_i wo_c (Nat.le_of_ble_eq_true rfl) (Nat.le_of_ble_eq_true rfl) ?_
  refine e_aload_n dX8_init_4 rfl rfl ?_
  refine e_bipush (v := nI 60) dX8_init_5 (by decide) ?_
  refine x_anew (q := 0) (N := 60) ha dX8_init_7 lw_X8_9 (by decide) (by decide) (by decide) (Nat.le_of_ble_eq_true rfl) (Nat.le_of_ble_eq_true rfl) hB rfl rfl ?_
  refine x_put 8 0 true lp_X8_11 (fun _ => rfl) dX8_init_10 rfl rfl (Nat.le_of_ble_eq_true rfl) rfl ?_
  refine e_aload_n dX8_init_13 rfl rfl ?_
  refine e_bipush (v := nI 60) dX8_init_14 (by decide) ?_
  refine x_newa (q := 1) (a0 := (60, .inl (fun _ => 0))) ha dX8_init_16 rfl wa_int (by decide) (fun _ => rfl) (by decide) (by decide) (by decide) (Nat.le_of_ble_eq_true rfl) (Nat.le_of_ble_eq_true rfl) hB rfl rfl ?_
  refine x_put 8 1 true lp_X8_17 (fun _ => rfl) dX8_init_18 rfl rfl (Nat.le_of_ble_eq_true rfl) rfl ?_
  refine e_aload_n dX8_init_21 rfl rfl ?_
  refine e_bipush (v := nI 60) dX8_init_22 (by decide) ?_
  refine x_newa (q := 2) (a0 := (60, .inl (fun _ => 0))) ha dX8_init_24 rfl wa_int (by decide) (fun _ => rfl) (by decide) (by decide) (by decide) (Nat.le_of_ble_eq_true rfl) (Nat.le_of_ble_eq_true rfl) hB rfl rfl ?_
  refine x_put 8 2 true lp_X8_21 (fun _ => rfl) dX8_init_26 rfl rfl (Nat.le_of_ble_eq_true rfl) rfl ?_
  refine e_aload_n dX8_init_29 rfl rfl ?_
  refine e_sipush (v := nI 3600) dX8_init_30 (by decide) ?_
  refine x_newa (q := 3) (a0 := (3600, .inl (fun _ => 0))) ha dX8_init_33 rfl wa_boolean (by decide) (fun _ => rfl) (by decide) (by decide) (by decide) (Nat.le_of_ble_eq_true rfl) (Nat.le_of_ble_eq_true rfl) hB rfl rfl ?_
  refine x_put 8 3 true lp_X8_24 (fun _ => rfl) dX8_init_35 rfl rfl (Nat.le_of_ble_eq_true rfl) rfl ?_
  refine e_aload_n dX8_init_38 rfl rfl ?_
  refine e_iconst (v := nI 0) dX8_init_39 (by decide) ?_
  refine x_put 8 4 false lp_X8_28 (fun _ => rfl) dX8_init_40 rfl rfl (Nat.le_of_ble_eq_true rfl) rfl ?_
  refine e_iconst (v := nI 0) dX8_init_43 (by decide) ?_
  refine e_istore_n dX8_init_44 rfl (by decide) rfl ?_
  refine e_weak (h' := ec_x h (wdsc h.1 0) a (wdsO h.1)) rfl (fun b c hb => ?_) ?_
  · have e0 : rfC (h.1 + 4) 60 0 = .inl (.object "SuggestSpell$Row", 60, .inr (.inr (.inr (.inr (fun _ => none))))) := by
      unfold rfC
      congr 4
    have e1 : wdsc h.1 0 = .inl (.object "SuggestSpell$Row", 60, .inr (.inr (.inr (.inr (fun _ => none))))) :: ec_ic 60 :: ec_ic 60 :: bzC 3600 :: [] := by
      unfold wdsc
      rw [e0]
      rfl
    rw [e1] at hb
    exact hb
  have loop : ∀ (d i : Nat), i + d = 60 → ec_W l D kA B (fun _ => True) (ec_room 2 40 124 4620) (ec_Z D kA B (fun v h1 => v = none ∧ h1 = ec_x h (wdsc h.1 60) a (wdsO h.1)) 124 4620) mX8_init (4 + 2 * i) (3780 + 14 * i) 45 [some (.ref a), some (.int (nI i))] [] (ec_x h (wdsc h.1 i) a (wdsO h.1)) := by
    intro d
    induction d with
    | zero =>
      intro i h1
      refine e_iload_n dX8_init_45 rfl rfl ?_
      refine e_bipush (v := nI 60) dX8_init_46 (by decide) ?_
      refine n_icmp_ge 70 dX8_init_48 (by decide) (by omega) (by omega) (fun g1 => ?_) (fun g1 => ?_)
      · refine e_vret dX8_init_70 rfl (by show _ ≤ 124; omega) (by show _ ≤ 4620; omega) ⟨rfl, ?_⟩
        rw [show i = 60 by omega]
      · exact absurd g1 (by omega)
    | succ d ih =>
      intro i h1
      refine e_iload_n dX8_init_45 rfl rfl ?_
      refine e_bipush (v := nI 60) dX8_init_46 (by decide) ?_
      refine n_icmp_ge 70 dX8_init_48 (by decide) (by omega) (by omega) (fun g1 => ?_) (fun g1 => ?_)
      · exact absurd g1 (by omega)
      · refine e_aload_n dX8_init_51 rfl rfl ?_
        refine x_get 8 0 lf_X8_11 dX8_init_52 rfl ?_
        refine e_iload_n dX8_init_55 rfl rfl ?_
        have hi : i < 60 := by omega
        refine x_new (q := 2 * i + 4) ha ld_X8_9 dX8_init_56 (by show _ ≤ 124; omega) (by show _ ≤ 4620; omega) hB (wds_len h.1 i) rfl ?_
        refine e_dup dX8_init_59 rfl ?_
        have hlen : (ec_x h (wdsc h.1 i ++ [rowN]) a (wdsO h.1)).1 = h.1 + 4 + (2 * i + 1) := by
          show h.1 + (wdsc h.1 i ++ [rowN]).length = _
          rw [List.length_append, wds_len]
          simp
          omega
        have hrow := k_Row (l := l) (D := D) (kA := kA) (B := B) (h := ec_x h (wdsc h.1 i ++ [rowN]) a (wdsO h.1)) (a := h.1 + (2 * i + 4)) (by rw [hlen]; omega) (by rw [hlen]; omega) ((ec_x_k ha).trans (by
          rw [List.getElem?_append_right (by rw [wds_len]; omega), wds_len, Nat.sub_self]
          rfl))
        rw [hlen] at hrow
        refine x_callN (q := 2 * i + 4) (As := []) ha "SuggestSpell" ln_X8_32 dX8_init_60 (by rw [List.length_append, wds_len]; simp) rfl rfl (by simp) (Nat.le_of_ble_eq_true rfl) (Nat.le_of_ble_eq_true rfl) ⟨Nat.le_of_ble_eq_true rfl, Nat.le_of_ble_eq_true rfl⟩ ⟨by show _ ≤ 124; omega, by show _ ≤ 4620; omega⟩ hrow (wds_st h.1 i) ?_
        refine x_aast (q := 0) (v := 2 * i + 4) (n := i) (N := 60) (fs := [.ref (h.1 + 4 + (2 * i + 1)), .int (nI 0)]) ha dX8_init_63 rfl ?_ rfl hi (by decide) (cs' := wdsc h.1 (i + 1)) ?_ ?_
        · show (rws (h.1 + 4) i ++ [rowC (h.1 + 4 + (2 * i + 1)), ec_ic 12])[2 * i]? = _
          rw [List.getElem?_append_right (by rw [rws_len]; omega), rws_len, Nat.sub_self]
          rfl
        · show rfG 60 (va_up _ i (some (h.1 + (2 * i + 4)))) :: _ = _
          rw [show h.1 + (2 * i + 4) = h.1 + 4 + 2 * i by omega, rf_up _ 0]
        · refine e_iinc (v := nI (i + 1)) dX8_init_64 rfl (nI_add _ _) (by decide) rfl ?_
          refine e_goto 45 dX8_init_67 (by decide) ?_
          rw [show 4 + 2 * i + 1 + 1 = 4 + 2 * (i + 1) by omega, show 3780 + 14 * i + 2 + 12 = 3780 + 14 * (i + 1) by omega]
          exact ih (i + 1) (by omega)
  exact loop 60 0 (by omega)
abbrev linc (z i : Nat) : List ec_C := rfC (z + 1) 6 i :: rws (z + 1) i
abbrev linO (z : Nat) : ec_C := .inr (1, [.ref (z + 0), .int (nI 0)])
theorem lin_len (z i : Nat) : (linc z i).length = 2 * i + 1 := by simp [rws_len]
theorem lin_st (z i : Nat) : (linc z i ++ [rowN]).set (2 * i + 1) (rowC (z + 1 + (2 * i + 1))) ++ [ec_ic 12] = rfC (z + 1) 6 i :: rws (z + 1) (i + 1) := by
  show rfC (z + 1) 6 i :: ((rws (z + 1) i ++ [rowN]).set (2 * i) (rowC (z + 1 + (2 * i + 1))) ++ [ec_ic 12]) = _
  rw [set_last _ _ _ _ (rws_len _ i), List.append_assoc]
  rfl
set_option maxRecDepth 100000 in
theorem k_Line {h : ec_H} {a : Nat} (ha : a < h.1) (hB : B ≤ h.1) (hc : h.2 a = some (.inr (1, [.null, .int 0]))) : ec_FI l D kA B 2 40 13 90 mX1_init [] h a (linc h.1 6) (linO h.1) := by
  refine x_start hc ?_
  refine e_aload_n dX1_init_0 rfl rfl ?_
  refine e_obj dX1_init_1 lo_X1_3 wo_i wo_c (Nat.le_of_ble_eq_true rfl) (Nat.le_of_ble_eq_true rfl) ?_
  refine e_aload_n dX1_init_4 rfl rfl ?_
  refine e_bipush (v := nI 6) dX1_init_5 (by decide) ?_
  refine x_anew (q := 0) (N := 6) ha dX1_init_7 lw_X1_9 (by decide) (by decide) (by decide) (Nat.le_of_ble_eq_true rfl) (Nat.le_of_ble_eq_true rfl) hB rfl rfl ?_
  refine x_put 1 0 true lp_X1_11 (fun _ => rfl) dX1_init_10 rfl rfl (Nat.le_of_ble_eq_true rfl) rfl ?_
  refine e_aload_n dX1_init_13 rfl rfl ?_
  refine e_iconst (v := nI 0) dX1_init_14 (by decide) ?_
  refine x_put 1 1 false lp_X1_17 (fun _ => rfl) dX1_init_15 rfl rfl (Nat.le_of_ble_eq_true rfl) rfl ?_
  refine e_iconst (v := nI 0) dX1_init_18 (by decide) ?_
  refine e_istore_n dX1_init_19 rfl (by decide) rfl ?_
  refine e_weak (h' := ec_x h (linc h.1 0) a (linO h.1)) rfl (fun b c hb => ?_) ?_
  · have e0 : rfC (h.1 + 1) 6 0 = .inl (.object "SuggestSpell$Row", 6, .inr (.inr (.inr (.inr (fun _ => none))))) := by
      unfold rfC
      congr 4
    have e1 : linc h.1 0 = .inl (.object "SuggestSpell$Row", 6, .inr (.inr (.inr (.inr (fun _ => none))))) :: [] := by
      unfold linc
      rw [e0]
      rfl
    rw [e1] at hb
    exact hb
  have loop : ∀ (d i : Nat), i + d = 6 → ec_W l D kA B (fun _ => True) (ec_room 2 40 13 90) (ec_Z D kA B (fun v h1 => v = none ∧ h1 = ec_x h (linc h.1 6) a (linO h.1)) 13 90) mX1_init (1 + 2 * i) (6 + 14 * i) 20 [some (.ref a), some (.int (nI i))] [] (ec_x h (linc h.1 i) a (linO h.1)) := by
    intro d
    induction d with
    | zero =>
      intro i h1
      refine e_iload_n dX1_init_20 rfl rfl ?_
      refine e_bipush (v := nI 6) dX1_init_21 (by decide) ?_
      refine n_icmp_ge 45 dX1_init_23 (by decide) (by omega) (by omega) (fun g1 => ?_) (fun g1 => ?_)
      · refine e_vret dX1_init_45 rfl (by show _ ≤ 13; omega) (by show _ ≤ 90; omega) ⟨rfl, ?_⟩
        rw [show i = 6 by omega]
      · exact absurd g1 (by omega)
    | succ d ih =>
      intro i h1
      refine e_iload_n dX1_init_20 rfl rfl ?_
      refine e_bipush (v := nI 6) dX1_init_21 (by decide) ?_
      refine n_icmp_ge 45 dX1_init_23 (by decide) (by omega) (by omega) (fun g1 => ?_) (fun g1 => ?_)
      · exact absurd g1 (by omega)
      · refine e_aload_n dX1_init_26 rfl rfl ?_
        refine x_get 1 0 lf_X1_11 dX1_init_27 rfl ?_
        refine e_iload_n dX1_init_30 rfl rfl ?_
        have hi : i < 6 := by omega
        refine x_new (q := 2 * i + 1) ha ld_X1_9 dX1_init_31 (by show _ ≤ 13; omega) (by show _ ≤ 90; omega) hB (lin_len h.1 i) rfl ?_
        refine e_dup dX1_init_34 rfl ?_
        have hlen : (ec_x h (linc h.1 i ++ [rowN]) a (linO h.1)).1 = h.1 + 1 + (2 * i + 1) := by
          show h.1 + (linc h.1 i ++ [rowN]).length = _
          rw [List.length_append, lin_len]
          simp
          omega
        have hrow := k_Row (l := l) (D := D) (kA := kA) (B := B) (h := ec_x h (linc h.1 i ++ [rowN]) a (linO h.1)) (a := h.1 + (2 * i + 1)) (by rw [hlen]; omega) (by rw [hlen]; omega) ((ec_x_k ha).trans (by
          rw [List.getElem?_append_right (by rw [lin_len]; omega), lin_len, Nat.sub_self]
          rfl))
        rw [hlen] at hrow
        refine x_callN (q := 2 * i + 1) (As := []) ha "SuggestSpell" ln_X1_21 dX1_init_35 (by rw [List.length_append, lin_len]; simp) rfl rfl (by simp) (Nat.le_of_ble_eq_true rfl) (Nat.le_of_ble_eq_true rfl) ⟨Nat.le_of_ble_eq_true rfl, Nat.le_of_ble_eq_true rfl⟩ ⟨by show _ ≤ 13; omega, by show _ ≤ 90; omega⟩ hrow (lin_st h.1 i) ?_
        refine x_aast (q := 0) (v := 2 * i + 1) (n := i) (N := 6) (fs := [.ref (h.1 + 1 + (2 * i + 1)), .int (nI 0)]) ha dX1_init_38 rfl ?_ rfl hi (by decide) (cs' := linc h.1 (i + 1)) ?_ ?_
        · show (rws (h.1 + 1) i ++ [rowC (h.1 + 1 + (2 * i + 1)), ec_ic 12])[2 * i]? = _
          rw [List.getElem?_append_right (by rw [rws_len]; omega), rws_len, Nat.sub_self]
          rfl
        · show rfG 6 (va_up _ i (some (h.1 + (2 * i + 1)))) :: _ = _
          rw [show h.1 + (2 * i + 1) = h.1 + 1 + 2 * i by omega, rf_up _ 0]
        · refine e_iinc (v := nI (i + 1)) dX1_init_39 rfl (nI_add _ _) (by decide) rfl ?_
          refine e_goto 20 dX1_init_42 (by decide) ?_
          rw [show 1 + 2 * i + 1 + 1 = 1 + 2 * (i + 1) by omega, show 6 + 14 * i + 2 + 12 = 6 + 14 * (i + 1) by omega]
          exact ih (i + 1) (by omega)
  exact loop 6 0 (by omega)
theorem set_app {α : Type} (xs ys : List α) (y z : α) {q : Nat} (hq : xs.length = q) : (xs ++ [y]).set q z ++ ys = xs ++ z :: ys := by
  rw [set_last xs y z q hq, List.append_assoc]
  rfl
variable {X : State → Prop} {R : Room} {Z : Array Value → State → List Frame → State → Prop} {M : ec_M} {uc us pc : Nat} {L : List (Option Value)} {st : List Value}
theorem e_heap {h h2 : ec_H} (e : h = h2) (kk : ec_W l D kA B X R Z M uc us pc L st h2) : ec_W l D kA B X R Z M uc us pc L st h := by
  rw [e]
  exact kk
theorem x_newE {h : ec_H} {a idx ci N q : Nat} {fs : List Value} {cs : List ec_C} {c : ec_C} (ha : a < h.1) (hf : ec_cn M.1.cls idx ci N fs) (hd : decode M.2.1 pc = .ok (.new idx, 3)) (hc : uc + 1 ≤ R.cells) (hs : us + N ≤ R.slots) (hB9 : B ≤ h.1) (hq : cs.length = q)
    (kk : ec_W l D kA B X R Z M (uc + 1) (us + N) (pc + 3) L (.ref (h.1 + q) :: st) (ec_x h (cs ++ [.inr (ci, fs)]) a c)) : ec_W l D kA B X R Z M uc us pc L st (ec_x h cs a c) := x_new ha hf hd hc hs hB9 hq rfl kk
theorem x_callE {h : ec_H} {a idx : Nat} {M' : ec_M} {n q f lo mc ms : Nat} {As rest : List Value} {cs cs1 : List ec_C} {c c0 c1 : ec_C} (ha : a < h.1) (host : String) (hc : ec_cN M.1.cls idx M' n host) (hd : decode M.2.1 pc = .ok (.invokespecial idx, 3)) (hq : cs.length = q) (hst : st = As.reverse ++ .ref (h.1 + q) :: rest) (hn : As.length = n) (hca : ∀ v ∈ As, v.category = 1) (hle : As.length + 1 ≤ M'.2.2.1) (hcat : (rest.map fun v => v.category).sum ≤ 8)
    (hR : f + 1 ≤ R.frames ∧ 8 + (M'.2.2.1 + 11) + lo ≤ R.locals) (hR2 : uc + mc ≤ R.cells ∧ us + ms ≤ R.slots) (hF : ∀ h9 : ec_H, h9.1 = h.1 + (q + 1) → h9.2 (h.1 + q) = some c0 → ec_FI l D kA B f lo mc ms M' As h9 (h.1 + q) cs1 c1)
    (kk : ec_W l D kA B X R Z M (uc + mc) (us + ms) (pc + 3) L rest (ec_x h (cs ++ c1 :: cs1) a c)) : ec_W l D kA B X R Z M uc us pc L st (ec_x h (cs ++ [c0]) a c) := by
  refine x_callN ha host hc hd (by simp [hq]) hst hn hca hle hcat hR hR2 (hF _ ?_ ((ec_x_k ha).trans ?_)) (set_app cs cs1 c0 c1 hq) kk
  · show h.1 + (cs ++ [c0]).length = _
    rw [List.length_append, hq]
    rfl
  · rw [List.getElem?_append_right (by omega), hq, Nat.sub_self]
    rfl
theorem x_callF {h : ec_H} {a idx : Nat} {M' : ec_M} {n q f lo mc ms : Nat} {As rest : List Value} {cs cs1 : List ec_C} {c c0 c1 : ec_C} (ha : a < h.1) (hc : ec_cI M.1.cls idx M' n) (hd : decode M.2.1 pc = .ok (.invokespecial idx, 3)) (hq : cs.length = q) (hst : st = As.reverse ++ .ref (h.1 + q) :: rest) (hn : As.length = n) (hca : ∀ v ∈ As, v.category = 1) (hle : As.length + 1 ≤ M'.2.2.1) (hcat : (rest.map fun v => v.category).sum ≤ 8)
    (hR : f + 1 ≤ R.frames ∧ 8 + (M'.2.2.1 + 11) + lo ≤ R.locals) (hR2 : uc + mc ≤ R.cells ∧ us + ms ≤ R.slots) (hF : ∀ h9 : ec_H, h9.1 = h.1 + (q + 1) → h9.2 (h.1 + q) = some c0 → ec_FI l D kA B f lo mc ms M' As h9 (h.1 + q) cs1 c1)
    (kk : ec_W l D kA B X R Z M (uc + mc) (us + ms) (pc + 3) L rest (ec_x h (cs ++ c1 :: cs1) a c)) : ec_W l D kA B X R Z M uc us pc L st (ec_x h (cs ++ [c0]) a c) := by
  refine x_callI ha hc hd (by simp [hq]) hst hn hca hle hcat hR hR2 (hF _ ?_ ((ec_x_k ha).trans ?_)) (set_app cs cs1 c0 c1 hq) kk
  · show h.1 + (cs ++ [c0]).length = _
    rw [List.length_append, hq]
    rfl
  · rw [List.getElem?_append_right (by omega), hq, Nat.sub_self]
    rfl
abbrev tabC (z p : Nat) : ec_C := .inr (7, [.ref p, .ref (z + 0), .ref (z + 2), .ref (z + 4), .ref (z + 18), .ref (z + 19), .int (nI 0)])
abbrev tabc (z : Nat) : List ec_C := rowC (z + 1) :: ec_ic 12 :: rowC (z + 3) :: ec_ic 12 :: ec_oc (z + 4) 13 :: List.replicate 13 (ec_ic 13) ++ [ec_ic 24, ec_ic 24]
abbrev rnkC (z : Nat) : ec_C := .inr (4, [.ref (z + 0), .ref (z + 1), .ref (z + 2), .int (nI 0)])
abbrev prtC (z : Nat) : ec_C := .inr (2, [.ref (z + 0), .ref (z + 3), .int 1000000, .int (nI 0), .int (nI 0), .int (nI 0)])
abbrev prtc (z : Nat) : List ec_C := [sideC (z + 1), ec_ic 13, ec_ic 13, sideC (z + 4), ec_ic 13, ec_ic 13]
abbrev choC (z : Nat) : ec_C := .inr (0, [.ref (z + 0), .ref (z + 7), .ref (z + 14), .ref (z + 21)])
abbrev choc (z : Nat) : List ec_C := ec_oc (z + 0) 6 :: List.replicate 6 (ec_ic 60) ++ (ec_oc (z + 7) 6 :: List.replicate 6 (ec_ic 60) ++ (ec_oc (z + 14) 6 :: List.replicate 6 (ec_ic 60) ++ [ec_ic 6]))
def sb1 (z : Nat) : List ec_C := rowC (z + 1) :: [ec_ic 12]
def sb2 (z : Nat) : List ec_C := prO (z + 3) :: prc (z + 3) 26 0
def sb3 (z : Nat) : List ec_C := wdsO (z + 32) :: wdsc (z + 32) 60
def sb4 (z : Nat) : List ec_C := linO (z + 157) :: linc (z + 157) 6
def sb5 (z : Nat) : List ec_C := tabC (z + 171) (z + 2) :: tabc (z + 171)
def sb6 (z : Nat) : List ec_C := rnkC (z + 192) :: [ec_ic 60, ec_ic 60, ec_ic 60]
def sb7 (z : Nat) : List ec_C := prtC (z + 196) :: prtc (z + 196)
def sb8 (z : Nat) : List ec_C := choC (z + 203) :: choc (z + 203)
def sa1 (z : Nat) : List ec_C := [] ++ sb1 z
theorem sb1_len (z : Nat) : (sb1 z).length = 2 := by simp [sb1]
theorem sa1_len (z : Nat) : (sa1 z).length = 2 := by
  unfold sa1
  rw [List.length_append, sb1_len]
  rfl
def sa2 (z : Nat) : List ec_C := sa1 z ++ sb2 z
theorem sb2_len (z : Nat) : (sb2 z).length = 29 := by simp [sb2]
theorem sa2_len (z : Nat) : (sa2 z).length = 31 := by
  unfold sa2
  rw [List.length_append, sa1_len, sb2_len]
def sa3 (z : Nat) : List ec_C := sa2 z ++ sb3 z
theorem sb3_len (z : Nat) : (sb3 z).length = 125 := by simp [sb3, rws_len]
theorem sa3_len (z : Nat) : (sa3 z).length = 156 := by
  unfold sa3
  rw [List.length_append, sa2_len, sb3_len]
def sa4 (z : Nat) : List ec_C := sa3 z ++ sb4 z
theorem sb4_len (z : Nat) : (sb4 z).length = 14 := by simp [sb4, rws_len]
theorem sa4_len (z : Nat) : (sa4 z).length = 170 := by
  unfold sa4
  rw [List.length_append, sa3_len, sb4_len]
def sa5 (z : Nat) : List ec_C := sa4 z ++ sb5 z
theorem sb5_len (z : Nat) : (sb5 z).length = 21 := by simp [sb5]
theorem sa5_len (z : Nat) : (sa5 z).length = 191 := by
  unfold sa5
  rw [List.length_append, sa4_len, sb5_len]
def sa6 (z : Nat) : List ec_C := sa5 z ++ sb6 z
theorem sb6_len (z : Nat) : (sb6 z).length = 4 := by simp [sb6]
theorem sa6_len (z : Nat) : (sa6 z).length = 195 := by
  unfold sa6
  rw [List.length_append, sa5_len, sb6_len]
def sa7 (z : Nat) : List ec_C := sa6 z ++ sb7 z
theorem sb7_len (z : Nat) : (sb7 z).length = 7 := by simp [sb7]
theorem sa7_len (z : Nat) : (sa7 z).length = 202 := by
  unfold sa7
  rw [List.length_append, sa6_len, sb7_len]
def sa8 (z : Nat) : List ec_C := sa7 z ++ sb8 z
theorem sb8_len (z : Nat) : (sb8 z).length = 23 := by simp [sb8]
theorem sa8_len (z : Nat) : (sa8 z).length = 225 := by
  unfold sa8
  rw [List.length_append, sa7_len, sb8_len]
set_option maxRecDepth 100000 in
theorem k_SuggestSpell {h : ec_H} {a : Nat} (ha : a < h.1) (hB : B ≤ h.1) (hc : h.2 a = some (.inr (9, [.null, .null, .null, .null, .null, .null, .null, .null]))) : ec_FI l D kA B 3 61 225 7060 mX9_init [] h a (sa8 h.1) (.inr (9, [.ref (h.1 + 0), .ref (h.1 + 2), .ref (h.1 + 31), .ref (h.1 + 156), .ref (h.1 + 170), .ref (h.1 + 191), .ref (h.1 + 195), .ref (h.1 + 202)])) := by
  refine x_start hc ?_
  refine e_aload_n dX9_init_0 rfl rfl ?_
  refine e_obj dX9_init_1 lo_X9_1 wo_i wo_c (Nat.le_of_ble_eq_true rfl) (Nat.le_of_ble_eq_true rfl) ?_
  refine e_aload_n dX9_init_4 rfl rfl ?_
  refine x_newE (q := 0) ha ld_X9_7 dX9_init_5 (Nat.le_of_ble_eq_true rfl) (Nat.le_of_ble_eq_true rfl) hB rfl ?_
  refine e_dup dX9_init_8 rfl ?_
  refine x_callE (mc := 1) (ms := 12) (f := 1) (lo := 20) (q := 0) (As := []) (c1 := (sb1 h.1).head (by simp [sb1])) (cs1 := (sb1 h.1).tail) ha "SuggestSpell" ln_X9_9 dX9_init_9 rfl rfl rfl (by simp [Value.category]) (Nat.le_of_ble_eq_true rfl) (Nat.le_of_ble_eq_true rfl) ⟨(Nat.le_of_ble_eq_true rfl), (Nat.le_of_ble_eq_true rfl)⟩ ⟨(Nat.le_of_ble_eq_true rfl), (Nat.le_of_ble_eq_true rfl)⟩ (fun h9 e1 e2 => ?_) ?_
  · have k9 := k_Row (l := l) (D := D) (kA := kA) (B := B) (h := h9) (a := h.1 + 0) (by omega) (by omega) e2
    rw [e1] at k9
    exact k9
  refine e_heap (h2 := ec_x h (sa1 h.1) a _) rfl ?_
  refine x_put 9 0 true lp_X9_10 (fun _ => rfl) dX9_init_12 rfl rfl (Nat.le_of_ble_eq_true rfl) rfl ?_
  refine e_aload_n dX9_init_15 rfl rfl ?_
  refine x_newE (q := 2) ha ld_X9_16 dX9_init_16 (Nat.le_of_ble_eq_true rfl) (Nat.le_of_ble_eq_true rfl) hB (sa1_len h.1) ?_
  refine e_dup dX9_init_19 rfl ?_
  refine x_callF (mc := 28) (ms := 708) (f := 1) (lo := 23) (q := 2) (As := []) (c1 := (sb2 h.1).head (by simp [sb2])) (cs1 := (sb2 h.1).tail) ha lc_X9_18 dX9_init_20 (sa1_len h.1) rfl rfl (by simp [Value.category]) (Nat.le_of_ble_eq_true rfl) (Nat.le_of_ble_eq_true rfl) ⟨(Nat.le_of_ble_eq_true rfl), (Nat.le_of_ble_eq_true rfl)⟩ ⟨(Nat.le_of_ble_eq_true rfl), (Nat.le_of_ble_eq_true rfl)⟩ (fun h9 e1 e2 => ?_) ?_
  · have k9 := k_Prices (l := l) (D := D) (kA := kA) (B := B) (h := h9) (a := h.1 + 2) (by omega) (by omega) e2
    rw [e1] at k9
    exact k9
  refine e_heap (h2 := ec_x h (sa2 h.1) a _) rfl ?_
  refine x_put 9 1 true lp_X9_19 (fun _ => rfl) dX9_init_23 rfl rfl (Nat.le_of_ble_eq_true rfl) rfl ?_
  refine e_aload_n dX9_init_26 rfl rfl ?_
  refine x_newE (q := 31) ha ld_X9_23 dX9_init_27 (Nat.le_of_ble_eq_true rfl) (Nat.le_of_ble_eq_true rfl) hB (sa2_len h.1) ?_
  refine e_dup dX9_init_30 rfl ?_
  refine x_callF (mc := 124) (ms := 4620) (f := 2) (lo := 40) (q := 31) (As := []) (c1 := (sb3 h.1).head (by simp [sb3])) (cs1 := (sb3 h.1).tail) ha lc_X9_25 dX9_init_31 (sa2_len h.1) rfl rfl (by simp [Value.category]) (Nat.le_of_ble_eq_true rfl) (Nat.le_of_ble_eq_true rfl) ⟨(Nat.le_of_ble_eq_true rfl), (Nat.le_of_ble_eq_true rfl)⟩ ⟨(Nat.le_of_ble_eq_true rfl), (Nat.le_of_ble_eq_true rfl)⟩ (fun h9 e1 e2 => ?_) ?_
  · have k9 := k_Words (l := l) (D := D) (kA := kA) (B := B) (h := h9) (a := h.1 + 31) (by omega) (by omega) e2
    rw [e1] at k9
    exact k9
  refine e_heap (h2 := ec_x h (sa3 h.1) a _) rfl ?_
  refine x_put 9 2 true lp_X9_26 (fun _ => rfl) dX9_init_34 rfl rfl (Nat.le_of_ble_eq_true rfl) rfl ?_
  refine e_aload_n dX9_init_37 rfl rfl ?_
  refine x_newE (q := 156) ha ld_X9_30 dX9_init_38 (Nat.le_of_ble_eq_true rfl) (Nat.le_of_ble_eq_true rfl) hB (sa3_len h.1) ?_
  refine e_dup dX9_init_41 rfl ?_
  refine x_callF (mc := 13) (ms := 90) (f := 2) (lo := 40) (q := 156) (As := []) (c1 := (sb4 h.1).head (by simp [sb4])) (cs1 := (sb4 h.1).tail) ha lc_X9_32 dX9_init_42 (sa3_len h.1) rfl rfl (by simp [Value.category]) (Nat.le_of_ble_eq_true rfl) (Nat.le_of_ble_eq_true rfl) ⟨(Nat.le_of_ble_eq_true rfl), (Nat.le_of_ble_eq_true rfl)⟩ ⟨(Nat.le_of_ble_eq_true rfl), (Nat.le_of_ble_eq_true rfl)⟩ (fun h9 e1 e2 => ?_) ?_
  · have k9 := k_Line (l := l) (D := D) (kA := kA) (B := B) (h := h9) (a := h.1 + 156) (by omega) (by omega) e2
    rw [e1] at k9
    exact k9
  refine e_heap (h2 := ec_x h (sa4 h.1) a _) rfl ?_
  refine x_put 9 3 true lp_X9_33 (fun _ => rfl) dX9_init_45 rfl rfl (Nat.le_of_ble_eq_true rfl) rfl ?_
  refine e_aload_n dX9_init_48 rfl rfl ?_
  refine x_newE (q := 170) ha ld_X9_37 dX9_init_49 (Nat.le_of_ble_eq_true rfl) (Nat.le_of_ble_eq_true rfl) hB (sa4_len h.1) ?_
  refine e_dup dX9_init_52 rfl ?_
  refine e_aload_n dX9_init_53 rfl rfl ?_
  refine x_get 9 1 lf_X9_19 dX9_init_54 rfl ?_
  refine x_callF (mc := 20) (ms := 258) (f := 2) (lo := 40) (q := 170) (As := [.ref (h.1 + 2)]) (c1 := (sb5 h.1).head (by simp [sb5])) (cs1 := (sb5 h.1).tail) ha lc_X9_39 dX9_init_57 (sa4_len h.1) rfl rfl (by simp [Value.category]) (Nat.le_of_ble_eq_true rfl) (Nat.le_of_ble_eq_true rfl) ⟨(Nat.le_of_ble_eq_true rfl), (Nat.le_of_ble_eq_true rfl)⟩ ⟨(Nat.le_of_ble_eq_true rfl), (Nat.le_of_ble_eq_true rfl)⟩ (fun h9 e1 e2 => ?_) ?_
  · have k9 := k_Table (l := l) (D := D) (kA := kA) (B := B) (h := h9) (a := h.1 + 170) (p := h.1 + 2) (by omega) (by omega) e2
    rw [e1] at k9
    exact k9
  refine e_heap (h2 := ec_x h (sa5 h.1) a _) rfl ?_
  refine x_put 9 4 true lp_X9_42 (fun _ => rfl) dX9_init_60 rfl rfl (Nat.le_of_ble_eq_true rfl) rfl ?_
  refine e_aload_n dX9_init_63 rfl rfl ?_
  refine x_newE (q := 191) ha ld_X9_46 dX9_init_64 (Nat.le_of_ble_eq_true rfl) (Nat.le_of_ble_eq_true rfl) hB (sa5_len h.1) ?_
  refine e_dup dX9_init_67 rfl ?_
  refine x_callE (mc := 3) (ms := 180) (f := 1) (lo := 20) (q := 191) (As := []) (c1 := (sb6 h.1).head (by simp [sb6])) (cs1 := (sb6 h.1).tail) ha "SuggestSpell" ln_X9_48 dX9_init_68 (sa5_len h.1) rfl rfl (by simp [Value.category]) (Nat.le_of_ble_eq_true rfl) (Nat.le_of_ble_eq_true rfl) ⟨(Nat.le_of_ble_eq_true rfl), (Nat.le_of_ble_eq_true rfl)⟩ ⟨(Nat.le_of_ble_eq_true rfl), (Nat.le_of_ble_eq_true rfl)⟩ (fun h9 e1 e2 => ?_) ?_
  · have k9 := k_Ranking (l := l) (D := D) (kA := kA) (B := B) (h := h9) (a := h.1 + 191) (by omega) (by omega) e2
    rw [e1] at k9
    exact k9
  refine e_heap (h2 := ec_x h (sa6 h.1) a _) rfl ?_
  refine x_put 9 5 true lp_X9_49 (fun _ => rfl) dX9_init_71 rfl rfl (Nat.le_of_ble_eq_true rfl) rfl ?_
  refine e_aload_n dX9_init_74 rfl rfl ?_
  refine x_newE (q := 195) ha ld_X9_53 dX9_init_75 (Nat.le_of_ble_eq_true rfl) (Nat.le_of_ble_eq_true rfl) hB (sa6_len h.1) ?_
  refine e_dup dX9_init_78 rfl ?_
  refine x_callE (mc := 6) (ms := 56) (f := 2) (lo := 40) (q := 195) (As := []) (c1 := (sb7 h.1).head (by simp [sb7])) (cs1 := (sb7 h.1).tail) ha "SuggestSpell" ln_X9_55 dX9_init_79 (sa6_len h.1) rfl rfl (by simp [Value.category]) (Nat.le_of_ble_eq_true rfl) (Nat.le_of_ble_eq_true rfl) ⟨(Nat.le_of_ble_eq_true rfl), (Nat.le_of_ble_eq_true rfl)⟩ ⟨(Nat.le_of_ble_eq_true rfl), (Nat.le_of_ble_eq_true rfl)⟩ (fun h9 e1 e2 => ?_) ?_
  · have k9 := k_Parting (l := l) (D := D) (kA := kA) (B := B) (h := h9) (a := h.1 + 195) (by omega) (by omega) e2
    rw [e1] at k9
    exact k9
  refine e_heap (h2 := ec_x h (sa7 h.1) a _) rfl ?_
  refine x_put 9 6 true lp_X9_56 (fun _ => rfl) dX9_init_82 rfl rfl (Nat.le_of_ble_eq_true rfl) rfl ?_
  refine e_aload_n dX9_init_85 rfl rfl ?_
  refine x_newE (q := 202) ha ld_X9_60 dX9_init_86 (Nat.le_of_ble_eq_true rfl) (Nat.le_of_ble_eq_true rfl) hB (sa7_len h.1) ?_
  refine e_dup dX9_init_89 rfl ?_
  refine x_callE (mc := 22) (ms := 1104) (f := 1) (lo := 20) (q := 202) (As := []) (c1 := (sb8 h.1).head (by simp [sb8])) (cs1 := (sb8 h.1).tail) ha "SuggestSpell" ln_X9_62 dX9_init_90 (sa7_len h.1) rfl rfl (by simp [Value.category]) (Nat.le_of_ble_eq_true rfl) (Nat.le_of_ble_eq_true rfl) ⟨(Nat.le_of_ble_eq_true rfl), (Nat.le_of_ble_eq_true rfl)⟩ ⟨(Nat.le_of_ble_eq_true rfl), (Nat.le_of_ble_eq_true rfl)⟩ (fun h9 e1 e2 => ?_) ?_
  · have k9 := k_Choice (l := l) (D := D) (kA := kA) (B := B) (h := h9) (a := h.1 + 202) (by omega) (by omega) e2
    rw [e1] at k9
    exact k9
  refine e_heap (h2 := ec_x h (sa8 h.1) a _) rfl ?_
  refine x_put 9 7 true lp_X9_63 (fun _ => rfl) dX9_init_93 rfl rfl (Nat.le_of_ble_eq_true rfl) rfl ?_
  exact e_vret dX9_init_96 rfl (Nat.le_of_ble_eq_true rfl) (Nat.le_of_ble_eq_true rfl) ⟨rfl, rfl⟩
abbrev modC (z : Nat) : ec_C := .inr (10, [.int 0, .int 0, .ref (z + 0), .int 0, .ref (z + 1), .ref (z + 2), .ref (z + 3), .ref (z + 4), .ref (z + 5), .int 0, .ref (z + 6), .ref (z + 7), .ref (z + 8), .ref (z + 9), .ref (z + 10), .int 0, .int 0, .ref (z + 11), .ref (z + 12), .int 0, .ref (z + 13), .ref (z + 14), .int 0, .ref (z + 15), .ref (z + 16)])
abbrev modc : List ec_C := [ec_ic 12, ec_ic 60, ec_ic 720, ec_ic 60, fI 6 p6, ec_ic 676, ec_ic 6, ec_ic 72, bzC 3600, ec_ic 169, ec_ic 12, ec_ic 24, ec_ic 24, ec_ic 60, ec_ic 60, ec_ic 360, ec_ic 360]
set_option maxRecDepth 100000 in
theorem k_Model {h : ec_H} {a : Nat} (ha : a < h.1) (hB : B ≤ h.1) (hc : h.2 a = some (.inr (10, [.int 0, .int 0, .null, .int 0, .null, .null, .null, .null, .null, .int 0, .null, .null, .null, .null, .null, .int 0, .int 0, .null, .null, .int 0, .null, .null, .int 0, .null, .null]))) : ec_FI l D kA B 1 20 17 6281 mX10_init [] h a modc (modC h.1) := by
  refine x_start hc ?_
  refine e_aload_n dX10_init_0 rfl rfl ?_
  refine e_obj dX10_init_1 lo_X10_1 wo_i wo_c (Nat.le_of_ble_eq_true rfl) (Nat.le_of_ble_eq_true rfl) ?_
  refine e_aload_n dX10_init_4 rfl rfl ?_
  refine e_bipush (v := nI 12) dX10_init_5 (by decide) ?_
  refine x_newa (q := 0) (a0 := (12, .inl (fun _ => 0))) (cs' := [ec_ic 12]) ha dX10_init_7 rfl wa_int (by decide) (fun _ => rfl) (by decide) (by decide) (by decide) (Nat.le_of_ble_eq_true rfl) (Nat.le_of_ble_eq_true rfl) hB rfl rfl ?_
  refine x_put 10 2 true (fs' := [.int 0, .int 0, .ref (h.1 + 0), .int 0, .null, .null, .null, .null, .null, .int 0, .null, .null, .null, .null, .null, .int 0, .int 0, .null, .null, .int 0, .null, .null, .int 0, .null, .null]) lp_X10_7 (fun _ => rfl) dX10_init_9 rfl rfl (Nat.le_of_ble_eq_true rfl) rfl ?_
  refine e_aload_n dX10_init_12 rfl rfl ?_
  refine e_bipush (v := nI 60) dX10_init_13 (by decide) ?_
  refine x_newa (q := 1) (a0 := (60, .inl (fun _ => 0))) (cs' := [ec_ic 12, ec_ic 60]) ha dX10_init_15 rfl wa_int (by decide) (fun _ => rfl) (by decide) (by decide) (by decide) (Nat.le_of_ble_eq_true rfl) (Nat.le_of_ble_eq_true rfl) hB rfl rfl ?_
  refine x_put 10 4 true (fs' := [.int 0, .int 0, .ref (h.1 + 0), .int 0, .ref (h.1 + 1), .null, .null, .null, .null, .int 0, .null, .null, .null, .null, .null, .int 0, .int 0, .null, .null, .int 0, .null, .null, .int 0, .null, .null]) lp_X10_13 (fun _ => rfl) dX10_init_17 rfl rfl (Nat.le_of_ble_eq_true rfl) rfl ?_
  refine e_aload_n dX10_init_20 rfl rfl ?_
  refine e_sipush (v := nI 720) dX10_init_21 (by decide) ?_
  refine x_newa (q := 2) (a0 := (720, .inl (fun _ => 0))) (cs' := [ec_ic 12, ec_ic 60, ec_ic 720]) ha dX10_init_24 rfl wa_int (by decide) (fun _ => rfl) (by decide) (by decide) (by decide) (Nat.le_of_ble_eq_true rfl) (Nat.le_of_ble_eq_true rfl) hB rfl rfl ?_
  refine x_put 10 5 true (fs' := [.int 0, .int 0, .ref (h.1 + 0), .int 0, .ref (h.1 + 1), .ref (h.1 + 2), .null, .null, .null, .int 0, .null, .null, .null, .null, .null, .int 0, .int 0, .null, .null, .int 0, .null, .null, .int 0, .null, .null]) lp_X10_16 (fun _ => rfl) dX10_init_26 rfl rfl (Nat.le_of_ble_eq_true rfl) rfl ?_
  refine e_aload_n dX10_init_29 rfl rfl ?_
  refine e_bipush (v := nI 60) dX10_init_30 (by decide) ?_
  refine x_newa (q := 3) (a0 := (60, .inl (fun _ => 0))) (cs' := [ec_ic 12, ec_ic 60, ec_ic 720, ec_ic 60]) ha dX10_init_32 rfl wa_int (by decide) (fun _ => rfl) (by decide) (by decide) (by decide) (Nat.le_of_ble_eq_true rfl) (Nat.le_of_ble_eq_true rfl) hB rfl rfl ?_
  refine x_put 10 6 true (fs' := [.int 0, .int 0, .ref (h.1 + 0), .int 0, .ref (h.1 + 1), .ref (h.1 + 2), .ref (h.1 + 3), .null, .null, .int 0, .null, .null, .null, .null, .null, .int 0, .int 0, .null, .null, .int 0, .null, .null, .int 0, .null, .null]) lp_X10_19 (fun _ => rfl) dX10_init_34 rfl rfl (Nat.le_of_ble_eq_true rfl) rfl ?_
  refine e_aload_n dX10_init_37 rfl rfl ?_
  refine e_bipush (v := nI 6) dX10_init_38 (by decide) ?_
  refine x_newa (q := 4) (a0 := (6, .inl (fun _ => 0))) (cs' := [ec_ic 12, ec_ic 60, ec_ic 720, ec_ic 60, ec_ic 6]) ha dX10_init_40 rfl wa_int (by decide) (fun _ => rfl) (by decide) (by decide) (by decide) (Nat.le_of_ble_eq_true rfl) (Nat.le_of_ble_eq_true rfl) hB rfl rfl ?_
  refine x_put 10 7 true (fs' := [.int 0, .int 0, .ref (h.1 + 0), .int 0, .ref (h.1 + 1), .ref (h.1 + 2), .ref (h.1 + 3), .ref (h.1 + 4), .null, .int 0, .null, .null, .null, .null, .null, .int 0, .int 0, .null, .null, .int 0, .null, .null, .int 0, .null, .null]) lp_X10_22 (fun _ => rfl) dX10_init_42 rfl rfl (Nat.le_of_ble_eq_true rfl) rfl ?_
  refine e_aload_n dX10_init_45 rfl rfl ?_
  refine e_sipush (v := nI 676) dX10_init_46 (by decide) ?_
  refine x_newa (q := 5) (a0 := (676, .inl (fun _ => 0))) (cs' := [ec_ic 12, ec_ic 60, ec_ic 720, ec_ic 60, ec_ic 6, ec_ic 676]) ha dX10_init_49 rfl wa_int (by decide) (fun _ => rfl) (by decide) (by decide) (by decide) (Nat.le_of_ble_eq_true rfl) (Nat.le_of_ble_eq_true rfl) hB rfl rfl ?_
  refine x_put 10 8 true (fs' := [.int 0, .int 0, .ref (h.1 + 0), .int 0, .ref (h.1 + 1), .ref (h.1 + 2), .ref (h.1 + 3), .ref (h.1 + 4), .ref (h.1 + 5), .int 0, .null, .null, .null, .null, .null, .int 0, .int 0, .null, .null, .int 0, .null, .null, .int 0, .null, .null]) lp_X10_25 (fun _ => rfl) dX10_init_51 rfl rfl (Nat.le_of_ble_eq_true rfl) rfl ?_
  refine e_aload_n dX10_init_54 rfl rfl ?_
  refine e_bipush (v := nI 6) dX10_init_55 (by decide) ?_
  refine x_newa (q := 6) (a0 := (6, .inl (fun _ => 0))) (cs' := [ec_ic 12, ec_ic 60, ec_ic 720, ec_ic 60, ec_ic 6, ec_ic 676, ec_ic 6]) ha dX10_init_57 rfl wa_int (by decide) (fun _ => rfl) (by decide) (by decide) (by decide) (Nat.le_of_ble_eq_true rfl) (Nat.le_of_ble_eq_true rfl) hB rfl rfl ?_
  refine x_put 10 10 true (fs' := [.int 0, .int 0, .ref (h.1 + 0), .int 0, .ref (h.1 + 1), .ref (h.1 + 2), .ref (h.1 + 3), .ref (h.1 + 4), .ref (h.1 + 5), .int 0, .ref (h.1 + 6), .null, .null, .null, .null, .int 0, .int 0, .null, .null, .int 0, .null, .null, .int 0, .null, .null]) lp_X10_28 (fun _ => rfl) dX10_init_59 rfl rfl (Nat.le_of_ble_eq_true rfl) rfl ?_
  refine e_aload_n dX10_init_62 rfl rfl ?_
  refine e_bipush (v := nI 72) dX10_init_63 (by decide) ?_
  refine x_newa (q := 7) (a0 := (72, .inl (fun _ => 0))) (cs' := [ec_ic 12, ec_ic 60, ec_ic 720, ec_ic 60, ec_ic 6, ec_ic 676, ec_ic 6, ec_ic 72]) ha dX10_init_65 rfl wa_int (by decide) (fun _ => rfl) (by decide) (by decide) (by decide) (Nat.le_of_ble_eq_true rfl) (Nat.le_of_ble_eq_true rfl) hB rfl rfl ?_
  refine x_put 10 11 true (fs' := [.int 0, .int 0, .ref (h.1 + 0), .int 0, .ref (h.1 + 1), .ref (h.1 + 2), .ref (h.1 + 3), .ref (h.1 + 4), .ref (h.1 + 5), .int 0, .ref (h.1 + 6), .ref (h.1 + 7), .null, .null, .null, .int 0, .int 0, .null, .null, .int 0, .null, .null, .int 0, .null, .null]) lp_X10_31 (fun _ => rfl) dX10_init_67 rfl rfl (Nat.le_of_ble_eq_true rfl) rfl ?_
  refine e_aload_n dX10_init_70 rfl rfl ?_
  refine e_sipush (v := nI 3600) dX10_init_71 (by decide) ?_
  refine x_newa (q := 8) (a0 := (3600, .inl (fun _ => 0))) (cs' := [ec_ic 12, ec_ic 60, ec_ic 720, ec_ic 60, ec_ic 6, ec_ic 676, ec_ic 6, ec_ic 72, bzC 3600]) ha dX10_init_74 rfl wa_boolean (by decide) (fun _ => rfl) (by decide) (by decide) (by decide) (Nat.le_of_ble_eq_true rfl) (Nat.le_of_ble_eq_true rfl) hB rfl rfl ?_
  refine x_put 10 12 true (fs' := [.int 0, .int 0, .ref (h.1 + 0), .int 0, .ref (h.1 + 1), .ref (h.1 + 2), .ref (h.1 + 3), .ref (h.1 + 4), .ref (h.1 + 5), .int 0, .ref (h.1 + 6), .ref (h.1 + 7), .ref (h.1 + 8), .null, .null, .int 0, .int 0, .null, .null, .int 0, .null, .null, .int 0, .null, .null]) lp_X10_34 (fun _ => rfl) dX10_init_76 rfl rfl (Nat.le_of_ble_eq_true rfl) rfl ?_
  refine e_aload_n dX10_init_79 rfl rfl ?_
  refine e_sipush (v := nI 169) dX10_init_80 (by decide) ?_
  refine x_newa (q := 9) (a0 := (169, .inl (fun _ => 0))) (cs' := [ec_ic 12, ec_ic 60, ec_ic 720, ec_ic 60, ec_ic 6, ec_ic 676, ec_ic 6, ec_ic 72, bzC 3600, ec_ic 169]) ha dX10_init_83 rfl wa_int (by decide) (fun _ => rfl) (by decide) (by decide) (by decide) (Nat.le_of_ble_eq_true rfl) (Nat.le_of_ble_eq_true rfl) hB rfl rfl ?_
  refine x_put 10 13 true (fs' := [.int 0, .int 0, .ref (h.1 + 0), .int 0, .ref (h.1 + 1), .ref (h.1 + 2), .ref (h.1 + 3), .ref (h.1 + 4), .ref (h.1 + 5), .int 0, .ref (h.1 + 6), .ref (h.1 + 7), .ref (h.1 + 8), .ref (h.1 + 9), .null, .int 0, .int 0, .null, .null, .int 0, .null, .null, .int 0, .null, .null]) lp_X10_38 (fun _ => rfl) dX10_init_85 rfl rfl (Nat.le_of_ble_eq_true rfl) rfl ?_
  refine e_aload_n dX10_init_88 rfl rfl ?_
  refine e_bipush (v := nI 12) dX10_init_89 (by decide) ?_
  refine x_newa (q := 10) (a0 := (12, .inl (fun _ => 0))) (cs' := [ec_ic 12, ec_ic 60, ec_ic 720, ec_ic 60, ec_ic 6, ec_ic 676, ec_ic 6, ec_ic 72, bzC 3600, ec_ic 169, ec_ic 12]) ha dX10_init_91 rfl wa_int (by decide) (fun _ => rfl) (by decide) (by decide) (by decide) (Nat.le_of_ble_eq_true rfl) (Nat.le_of_ble_eq_true rfl) hB rfl rfl ?_
  refine x_put 10 14 true (fs' := [.int 0, .int 0, .ref (h.1 + 0), .int 0, .ref (h.1 + 1), .ref (h.1 + 2), .ref (h.1 + 3), .ref (h.1 + 4), .ref (h.1 + 5), .int 0, .ref (h.1 + 6), .ref (h.1 + 7), .ref (h.1 + 8), .ref (h.1 + 9), .ref (h.1 + 10), .int 0, .int 0, .null, .null, .int 0, .null, .null, .int 0, .null, .null]) lp_X10_41 (fun _ => rfl) dX10_init_93 rfl rfl (Nat.le_of_ble_eq_true rfl) rfl ?_
  refine e_aload_n dX10_init_96 rfl rfl ?_
  refine e_bipush (v := nI 24) dX10_init_97 (by decide) ?_
  refine x_newa (q := 11) (a0 := (24, .inl (fun _ => 0))) (cs' := [ec_ic 12, ec_ic 60, ec_ic 720, ec_ic 60, ec_ic 6, ec_ic 676, ec_ic 6, ec_ic 72, bzC 3600, ec_ic 169, ec_ic 12, ec_ic 24]) ha dX10_init_99 rfl wa_int (by decide) (fun _ => rfl) (by decide) (by decide) (by decide) (Nat.le_of_ble_eq_true rfl) (Nat.le_of_ble_eq_true rfl) hB rfl rfl ?_
  refine x_put 10 17 true (fs' := [.int 0, .int 0, .ref (h.1 + 0), .int 0, .ref (h.1 + 1), .ref (h.1 + 2), .ref (h.1 + 3), .ref (h.1 + 4), .ref (h.1 + 5), .int 0, .ref (h.1 + 6), .ref (h.1 + 7), .ref (h.1 + 8), .ref (h.1 + 9), .ref (h.1 + 10), .int 0, .int 0, .ref (h.1 + 11), .null, .int 0, .null, .null, .int 0, .null, .null]) lp_X10_44 (fun _ => rfl) dX10_init_101 rfl rfl (Nat.le_of_ble_eq_true rfl) rfl ?_
  refine e_aload_n dX10_init_104 rfl rfl ?_
  refine e_bipush (v := nI 24) dX10_init_105 (by decide) ?_
  refine x_newa (q := 12) (a0 := (24, .inl (fun _ => 0))) (cs' := [ec_ic 12, ec_ic 60, ec_ic 720, ec_ic 60, ec_ic 6, ec_ic 676, ec_ic 6, ec_ic 72, bzC 3600, ec_ic 169, ec_ic 12, ec_ic 24, ec_ic 24]) ha dX10_init_107 rfl wa_int (by decide) (fun _ => rfl) (by decide) (by decide) (by decide) (Nat.le_of_ble_eq_true rfl) (Nat.le_of_ble_eq_true rfl) hB rfl rfl ?_
  refine x_put 10 18 true (fs' := [.int 0, .int 0, .ref (h.1 + 0), .int 0, .ref (h.1 + 1), .ref (h.1 + 2), .ref (h.1 + 3), .ref (h.1 + 4), .ref (h.1 + 5), .int 0, .ref (h.1 + 6), .ref (h.1 + 7), .ref (h.1 + 8), .ref (h.1 + 9), .ref (h.1 + 10), .int 0, .int 0, .ref (h.1 + 11), .ref (h.1 + 12), .int 0, .null, .null, .int 0, .null, .null]) lp_X10_47 (fun _ => rfl) dX10_init_109 rfl rfl (Nat.le_of_ble_eq_true rfl) rfl ?_
  refine e_aload_n dX10_init_112 rfl rfl ?_
  refine e_bipush (v := nI 60) dX10_init_113 (by decide) ?_
  refine x_newa (q := 13) (a0 := (60, .inl (fun _ => 0))) (cs' := [ec_ic 12, ec_ic 60, ec_ic 720, ec_ic 60, ec_ic 6, ec_ic 676, ec_ic 6, ec_ic 72, bzC 3600, ec_ic 169, ec_ic 12, ec_ic 24, ec_ic 24, ec_ic 60]) ha dX10_init_115 rfl wa_int (by decide) (fun _ => rfl) (by decide) (by decide) (by decide) (Nat.le_of_ble_eq_true rfl) (Nat.le_of_ble_eq_true rfl) hB rfl rfl ?_
  refine x_put 10 20 true (fs' := [.int 0, .int 0, .ref (h.1 + 0), .int 0, .ref (h.1 + 1), .ref (h.1 + 2), .ref (h.1 + 3), .ref (h.1 + 4), .ref (h.1 + 5), .int 0, .ref (h.1 + 6), .ref (h.1 + 7), .ref (h.1 + 8), .ref (h.1 + 9), .ref (h.1 + 10), .int 0, .int 0, .ref (h.1 + 11), .ref (h.1 + 12), .int 0, .ref (h.1 + 13), .null, .int 0, .null, .null]) lp_X10_50 (fun _ => rfl) dX10_init_117 rfl rfl (Nat.le_of_ble_eq_true rfl) rfl ?_
  refine e_aload_n dX10_init_120 rfl rfl ?_
  refine e_bipush (v := nI 60) dX10_init_121 (by decide) ?_
  refine x_newa (q := 14) (a0 := (60, .inl (fun _ => 0))) (cs' := [ec_ic 12, ec_ic 60, ec_ic 720, ec_ic 60, ec_ic 6, ec_ic 676, ec_ic 6, ec_ic 72, bzC 3600, ec_ic 169, ec_ic 12, ec_ic 24, ec_ic 24, ec_ic 60, ec_ic 60]) ha dX10_init_123 rfl wa_int (by decide) (fun _ => rfl) (by decide) (by decide) (by decide) (Nat.le_of_ble_eq_true rfl) (Nat.le_of_ble_eq_true rfl) hB rfl rfl ?_
  refine x_put 10 21 true (fs' := [.int 0, .int 0, .ref (h.1 + 0), .int 0, .ref (h.1 + 1), .ref (h.1 + 2), .ref (h.1 + 3), .ref (h.1 + 4), .ref (h.1 + 5), .int 0, .ref (h.1 + 6), .ref (h.1 + 7), .ref (h.1 + 8), .ref (h.1 + 9), .ref (h.1 + 10), .int 0, .int 0, .ref (h.1 + 11), .ref (h.1 + 12), .int 0, .ref (h.1 + 13), .ref (h.1 + 14), .int 0, .null, .null]) lp_X10_53 (fun _ => rfl) dX10_init_125 rfl rfl (Nat.le_of_ble_eq_true rfl) rfl ?_
  refine e_aload_n dX10_init_128 rfl rfl ?_
  refine e_sipush (v := nI 360) dX10_init_129 (by decide) ?_
  refine x_newa (q := 15) (a0 := (360, .inl (fun _ => 0))) (cs' := [ec_ic 12, ec_ic 60, ec_ic 720, ec_ic 60, ec_ic 6, ec_ic 676, ec_ic 6, ec_ic 72, bzC 3600, ec_ic 169, ec_ic 12, ec_ic 24, ec_ic 24, ec_ic 60, ec_ic 60, ec_ic 360]) ha dX10_init_132 rfl wa_int (by decide) (fun _ => rfl) (by decide) (by decide) (by decide) (Nat.le_of_ble_eq_true rfl) (Nat.le_of_ble_eq_true rfl) hB rfl rfl ?_
  refine x_put 10 23 true (fs' := [.int 0, .int 0, .ref (h.1 + 0), .int 0, .ref (h.1 + 1), .ref (h.1 + 2), .ref (h.1 + 3), .ref (h.1 + 4), .ref (h.1 + 5), .int 0, .ref (h.1 + 6), .ref (h.1 + 7), .ref (h.1 + 8), .ref (h.1 + 9), .ref (h.1 + 10), .int 0, .int 0, .ref (h.1 + 11), .ref (h.1 + 12), .int 0, .ref (h.1 + 13), .ref (h.1 + 14), .int 0, .ref (h.1 + 15), .null]) lp_X10_56 (fun _ => rfl) dX10_init_134 rfl rfl (Nat.le_of_ble_eq_true rfl) rfl ?_
  refine e_aload_n dX10_init_137 rfl rfl ?_
  refine e_sipush (v := nI 360) dX10_init_138 (by decide) ?_
  refine x_newa (q := 16) (a0 := (360, .inl (fun _ => 0))) (cs' := [ec_ic 12, ec_ic 60, ec_ic 720, ec_ic 60, ec_ic 6, ec_ic 676, ec_ic 6, ec_ic 72, bzC 3600, ec_ic 169, ec_ic 12, ec_ic 24, ec_ic 24, ec_ic 60, ec_ic 60, ec_ic 360, ec_ic 360]) ha dX10_init_141 rfl wa_int (by decide) (fun _ => rfl) (by decide) (by decide) (by decide) (Nat.le_of_ble_eq_true rfl) (Nat.le_of_ble_eq_true rfl) hB rfl rfl ?_
  refine x_put 10 24 true (fs' := [.int 0, .int 0, .ref (h.1 + 0), .int 0, .ref (h.1 + 1), .ref (h.1 + 2), .ref (h.1 + 3), .ref (h.1 + 4), .ref (h.1 + 5), .int 0, .ref (h.1 + 6), .ref (h.1 + 7), .ref (h.1 + 8), .ref (h.1 + 9), .ref (h.1 + 10), .int 0, .int 0, .ref (h.1 + 11), .ref (h.1 + 12), .int 0, .ref (h.1 + 13), .ref (h.1 + 14), .int 0, .ref (h.1 + 15), .ref (h.1 + 16)]) lp_X10_59 (fun _ => rfl) dX10_init_143 rfl rfl (Nat.le_of_ble_eq_true rfl) rfl ?_
  refine e_aload_n dX10_init_146 rfl rfl ?_
  refine x_get 10 7 lf_X10_22 dX10_init_147 rfl ?_
  refine e_iconst (v := nI 0) dX10_init_150 (by decide) ?_
  refine e_iconst (v := nI 2) dX10_init_151 (by decide) ?_
  refine x_iast (n := 0) (cs' := [ec_ic 12, ec_ic 60, ec_ic 720, ec_ic 60, fI 6 (upd (fun _ => 0) 0 (nI 2)), ec_ic 676, ec_ic 6, ec_ic 72, bzC 3600, ec_ic 169, ec_ic 12, ec_ic 24, ec_ic 24, ec_ic 60, ec_ic 60, ec_ic 360, ec_ic 360]) ha dX10_init_152 rfl rfl (by decide) (by decide) rfl ?_
  refine e_aload_n dX10_init_153 rfl rfl ?_
  refine x_get 10 7 lf_X10_22 dX10_init_154 rfl ?_
  refine e_iconst (v := nI 1) dX10_init_157 (by decide) ?_
  refine e_iconst (v := nI 2) dX10_init_158 (by decide) ?_
  refine x_iast (n := 1) (cs' := [ec_ic 12, ec_ic 60, ec_ic 720, ec_ic 60, fI 6 (upd (upd (fun _ => 0) 0 (nI 2)) 1 (nI 2)), ec_ic 676, ec_ic 6, ec_ic 72, bzC 3600, ec_ic 169, ec_ic 12, ec_ic 24, ec_ic 24, ec_ic 60, ec_ic 60, ec_ic 360, ec_ic 360]) ha dX10_init_159 rfl rfl (by decide) (by decide) rfl ?_
  refine e_aload_n dX10_init_160 rfl rfl ?_
  refine x_get 10 7 lf_X10_22 dX10_init_161 rfl ?_
  refine e_iconst (v := nI 2) dX10_init_164 (by decide) ?_
  refine e_iconst (v := nI 3) dX10_init_165 (by decide) ?_
  refine x_iast (n := 2) (cs' := [ec_ic 12, ec_ic 60, ec_ic 720, ec_ic 60, fI 6 (upd (upd (upd (fun _ => 0) 0 (nI 2)) 1 (nI 2)) 2 (nI 3)), ec_ic 676, ec_ic 6, ec_ic 72, bzC 3600, ec_ic 169, ec_ic 12, ec_ic 24, ec_ic 24, ec_ic 60, ec_ic 60, ec_ic 360, ec_ic 360]) ha dX10_init_166 rfl rfl (by decide) (by decide) rfl ?_
  refine e_aload_n dX10_init_167 rfl rfl ?_
  refine x_get 10 7 lf_X10_22 dX10_init_168 rfl ?_
  refine e_iconst (v := nI 3) dX10_init_171 (by decide) ?_
  refine e_iconst (v := nI 1) dX10_init_172 (by decide) ?_
  refine x_iast (n := 3) (cs' := [ec_ic 12, ec_ic 60, ec_ic 720, ec_ic 60, fI 6 (upd (upd (upd (upd (fun _ => 0) 0 (nI 2)) 1 (nI 2)) 2 (nI 3)) 3 (nI 1)), ec_ic 676, ec_ic 6, ec_ic 72, bzC 3600, ec_ic 169, ec_ic 12, ec_ic 24, ec_ic 24, ec_ic 60, ec_ic 60, ec_ic 360, ec_ic 360]) ha dX10_init_173 rfl rfl (by decide) (by decide) rfl ?_
  refine e_aload_n dX10_init_174 rfl rfl ?_
  refine x_get 10 7 lf_X10_22 dX10_init_175 rfl ?_
  refine e_iconst (v := nI 4) dX10_init_178 (by decide) ?_
  refine e_iconst (v := nI 5) dX10_init_179 (by decide) ?_
  refine x_iast (n := 4) (cs' := [ec_ic 12, ec_ic 60, ec_ic 720, ec_ic 60, fI 6 (upd (upd (upd (upd (upd (fun _ => 0) 0 (nI 2)) 1 (nI 2)) 2 (nI 3)) 3 (nI 1)) 4 (nI 5)), ec_ic 676, ec_ic 6, ec_ic 72, bzC 3600, ec_ic 169, ec_ic 12, ec_ic 24, ec_ic 24, ec_ic 60, ec_ic 60, ec_ic 360, ec_ic 360]) ha dX10_init_180 rfl rfl (by decide) (by decide) rfl ?_
  refine e_aload_n dX10_init_181 rfl rfl ?_
  refine x_get 10 7 lf_X10_22 dX10_init_182 rfl ?_
  refine e_iconst (v := nI 5) dX10_init_185 (by decide) ?_
  refine e_iconst (v := nI 4) dX10_init_186 (by decide) ?_
  refine x_iast (n := 5) (cs' := [ec_ic 12, ec_ic 60, ec_ic 720, ec_ic 60, fI 6 (upd (upd (upd (upd (upd (upd (fun _ => 0) 0 (nI 2)) 1 (nI 2)) 2 (nI 3)) 3 (nI 1)) 4 (nI 5)) 5 (nI 4)), ec_ic 676, ec_ic 6, ec_ic 72, bzC 3600, ec_ic 169, ec_ic 12, ec_ic 24, ec_ic 24, ec_ic 60, ec_ic 60, ec_ic 360, ec_ic 360]) ha dX10_init_187 rfl rfl (by decide) (by decide) rfl ?_
  exact e_vret dX10_init_188 rfl (Nat.le_of_ble_eq_true rfl) (Nat.le_of_ble_eq_true rfl) ⟨rfl, rfl⟩
end INI
