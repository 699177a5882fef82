abbrev rowC (z : Nat) : ec_C := .inr (5, [.ref z, .int (nI 0)])
abbrev fzC (N : Nat) (x : Int32) : ec_C := .inl (.int, N, .inl (fun j => if j < N then x else 0))
abbrev bzC (N : Nat) : ec_C := .inl (.boolean, N, .inl (fun _ => 0))
/-- a row of Rows, the first i there, each two cells on -/
abbrev rfC (z N i : Nat) : ec_C := .inl (.object "SuggestSpell$Row", N, .inr (.inr (.inr (.inr (fun j => if j < i then some (z + 2 * j) else none)))))
def rws (z : Nat) : Nat → List ec_C
  | 0 => []
  | i + 1 => rws z i ++ [rowC (z + (2 * i + 1)), ec_ic 12]
theorem rws_len (z : Nat) : ∀ i, (rws z i).length = 2 * i
  | 0 => rfl
  | i + 1 => by
    show (rws z i ++ _).length = _
    rw [List.length_append, rws_len z i]
    simp
    omega
theorem set_last {α : Type} : ∀ (xs : List α) (y z : α) (k : Nat), xs.length = k → (xs ++ [y]).set k z = xs ++ [z]
  | [], _, _, 0, _ => rfl
  | x :: xs, y, z, k + 1, h => by
    show x :: (xs ++ [y]).set k z = x :: (xs ++ [z])
    rw [set_last xs y z k (by simpa using h)]
theorem rf_up (z N i : Nat) : va_up (fun j => if j < i then some (z + 2 * j) else none) i (some (z + 2 * i)) = (fun j => if j < i + 1 then some (z + 2 * j) else none) := by
  funext j
  unfold va_up
  by_cases e : j = i
  · subst e; simp
  · simp [e]
    by_cases e2 : j < i
    · rw [if_pos e2, if_pos (by omega)]
    · rw [if_neg e2, if_neg (by omega)]
theorem rf_0 : (fun (_ : Nat) => (none : Option Nat)) = (fun j => if j < 0 then some (0 + 2 * j) else none) := by
  funext j; simp
section INI
variable {l : Launch} {D : va_G} {kA : FieldType → ClassId} {B : Nat}
set_option maxRecDepth 100000 in
theorem k_Row {h : ec_H} {a : Nat} (ha : a < h.1) (hB : B ≤ h.1) (hc : h.2 a = some (.inr (5, [.null, .int 0]))) : ec_FI l D kA B 1 20 1 12 mX5_init [] h a [ec_ic 12] (rowC h.1) := by
  refine x_start hc ?_
  refine e_aload_n dX5_init_0 rfl rfl ?_
  refine e_obj dX5_init_1 lo_X5_3 wo_i wo_c (Nat.le_of_ble_eq_true rfl) (Nat.le_of_ble_eq_true rfl) ?_
  refine e_aload_n dX5_init_4 rfl rfl ?_
  refine e_bipush (v := nI 12) dX5_init_5 (by decide) ?_
  refine x_newa (q := 0) (a0 := (12, .inl (fun _ => 0))) ha dX5_init_7 rfl wa_int (by decide) (fun _ => rfl) (by decide) (by decide) (by decide) (Nat.le_of_ble_eq_true rfl) (Nat.le_of_ble_eq_true rfl) hB rfl rfl ?_
  refine x_put 5 0 true lp_X5_9 (fun _ => rfl) dX5_init_9 rfl rfl (Nat.le_of_ble_eq_true rfl) rfl ?_
  refine e_aload_n dX5_init_12 rfl rfl ?_
  refine e_iconst (v := nI 0) dX5_init_13 (by decide) ?_
  refine x_put 5 1 false lp_X5_15 (fun _ => rfl) dX5_init_14 rfl rfl (Nat.le_of_ble_eq_true rfl) rfl ?_
  exact e_vret dX5_init_17 rfl (Nat.le_of_ble_eq_true rfl) (Nat.le_of_ble_eq_true rfl) ⟨rfl, rfl⟩
set_option maxRecDepth 100000 in
theorem k_Ranking {h : ec_H} {a : Nat} (ha : a < h.1) (hB : B ≤ h.1) (hc : h.2 a = some (.inr (4, [.null, .null, .null, .int 0]))) : ec_FI l D kA B 1 20 3 180 mX4_init [] h a [ec_ic 60, ec_ic 60, ec_ic 60] (.inr (4, [.ref (h.1 + 0), .ref (h.1 + 1), .ref (h.1 + 2), .int (nI 0)])) := by
  refine x_start hc ?_
  refine e_aload_n dX4_init_0 rfl rfl ?_
  refine e_obj dX4_init_1 lo_X4_3 wo_i wo_c (Nat.le_of_ble_eq_true rfl) (Nat.le_of_ble_eq_true rfl) ?_
  refine e_aload_n dX4_init_4 rfl rfl ?_
  refine e_bipush (v := nI 60) dX4_init_5 (by decide) ?_
  refine x_newa (q := 0) (a0 := (60, .inl (fun _ => 0))) ha dX4_init_7 rfl wa_int (by decide) (fun _ => rfl) (by decide) (by decide) (by decide) (Nat.le_of_ble_eq_true rfl) (Nat.le_of_ble_eq_true rfl) hB rfl rfl ?_
  refine x_put 4 0 true lp_X4_9 (fun _ => rfl) dX4_init_9 rfl rfl (Nat.le_of_ble_eq_true rfl) rfl ?_
  refine e_aload_n dX4_init_12 rfl rfl ?_
  refine e_bipush (v := nI 60) dX4_init_13 (by decide) ?_
  refine x_newa (q := 1) (a0 := (60, .inl (fun _ => 0))) ha dX4_init_15 rfl wa_int (by decide) (fun _ => rfl) (by decide) (by decide) (by decide) (Nat.le_of_ble_eq_true rfl) (Nat.le_of_ble_eq_true rfl) hB rfl rfl ?_
  refine x_put 4 1 true lp_X4_15 (fun _ => rfl) dX4_init_17 rfl rfl (Nat.le_of_ble_eq_true rfl) rfl ?_
  refine e_aload_n dX4_init_20 rfl rfl ?_
  refine e_bipush (v := nI 60) dX4_init_21 (by decide) ?_
  refine x_newa (q := 2) (a0 := (60, .inl (fun _ => 0))) ha dX4_init_23 rfl wa_int (by decide) (fun _ => rfl) (by decide) (by decide) (by decide) (Nat.le_of_ble_eq_true rfl) (Nat.le_of_ble_eq_true rfl) hB rfl rfl ?_
  refine x_put 4 2 true lp_X4_18 (fun _ => rfl) dX4_init_25 rfl rfl (Nat.le_of_ble_eq_true rfl) rfl ?_
  refine e_aload_n dX4_init_28 rfl rfl ?_
  refine e_iconst (v := nI 0) dX4_init_29 (by decide) ?_
  refine x_put 4 3 false lp_X4_21 (fun _ => rfl) dX4_init_30 rfl rfl (Nat.le_of_ble_eq_true rfl) rfl ?_
  exact e_vret dX4_init_33 rfl (Nat.le_of_ble_eq_true rfl) (Nat.le_of_ble_eq_true rfl) ⟨rfl, rfl⟩
abbrev sideC (z : Nat) : ec_C := .inr (6, [.ref (z + 0), .ref (z + 1)])
set_option maxRecDepth 100000 in
theorem k_Side {h : ec_H} {a : Nat} (ha : a < h.1) (hB : B ≤ h.1) (hc : h.2 a = some (.inr (6, [.null, .null]))) : ec_FI l D kA B 1 20 2 26 mX6_init [] h a [ec_ic 13, ec_ic 13] (sideC h.1) := by
  refine x_start hc ?_
  refine e_aload_n dX6_init_0 rfl rfl ?_
  refine e_obj dX6_init_1 lo_X6_3 wo_i wo_c (Nat.le_of_ble_eq_true rfl) (Nat.le_of_ble_eq_true rfl) ?_
  refine e_aload_n dX6_init_4 rfl rfl ?_
  refine e_bipush (v := nI 13) dX6_init_5 (by decide) ?_
  refine x_newa (q := 0) (a0 := (13, .inl (fun _ => 0))) ha dX6_init_7 rfl wa_int (by decide) (fun _ => rfl) (by decide) (by decide) (by decide) (Nat.le_of_ble_eq_true rfl) (Nat.le_of_ble_eq_true rfl) hB rfl rfl ?_
  refine x_put 6 0 true lp_X6_9 (fun _ => rfl) dX6_init_9 rfl rfl (Nat.le_of_ble_eq_true rfl) rfl ?_
  refine e_aload_n dX6_init_12 rfl rfl ?_
  refine e_bipush (v := nI 13) dX6_init_13 (by decide) ?_
  refine x_newa (q := 1) (a0 := (13, .inl (fun _ => 0))) ha dX6_init_15 rfl wa_int (by decide) (fun _ => rfl) (by decide) (by decide) (by decide) (Nat.le_of_ble_eq_true rfl) (Nat.le_of_ble_eq_true rfl) hB rfl rfl ?_
  refine x_put 6 1 true lp_X6_15 (fun _ => rfl) dX6_init_17 rfl rfl (Nat.le_of_ble_eq_true rfl) rfl ?_
  exact e_vret dX6_init_20 rfl (Nat.le_of_ble_eq_true rfl) (Nat.le_of_ble_eq_true rfl) ⟨rfl, rfl⟩
set_option maxRecDepth 100000 in
theorem k_Parting {h : ec_H} {a : Nat} (ha : a < h.1) (hB : B ≤ h.1) (hc : h.2 a = some (.inr (2, [.null, .null, .int 0, .int 0, .int 0, .int 0]))) : ec_FI l D kA B 2 40 6 56 mX2_init [] h a [sideC (h.1 + 1), ec_ic 13, ec_ic 13, sideC (h.1 + 4), ec_ic 13, ec_ic 13] (.inr (2, [.ref (h.1 + 0), .ref (h.1 + 3), .int 1000000, .int (nI 0), .int (nI 0), .int (nI 0)])) := by
  refine x_start hc ?_
  refine e_aload_n dX2_init_0 rfl rfl ?_
  refine e_obj dX2_init_1 lo_X2_3 wo_i wo_c (Nat.le_of_ble_eq_true rfl) (Nat.le_of_ble_eq_true rfl) ?_
  refine e_aload_n dX2_init_4 rfl rfl ?_
  refine x_new (q := 0) ha ld_X2_9 dX2_init_5 (Nat.le_of_ble_eq_true rfl) (Nat.le_of_ble_eq_true rfl) hB rfl rfl ?_
  refine e_dup dX2_init_8 rfl ?_
  refine x_callN (q := 0) (As := []) ha "SuggestSpell" ln_X2_11 dX2_init_9 (by decide) rfl rfl (by simp [Value.category]) (Nat.le_of_ble_eq_true rfl) (Nat.le_of_ble_eq_true rfl) ⟨(Nat.le_of_ble_eq_true rfl), (Nat.le_of_ble_eq_true rfl)⟩ ⟨(Nat.le_of_ble_eq_true rfl), (Nat.le_of_ble_eq_true rfl)⟩ (k_Side (by show _ < h.1 + _; simp) (by show _ ≤ h.1 + _; omega) ((ec_x_k ha).trans rfl)) rfl ?_
  refine x_put 2 0 true lp_X2_12 (fun _ => rfl) dX2_init_12 rfl rfl (Nat.le_of_ble_eq_true rfl) rfl ?_
  refine e_aload_n dX2_init_15 rfl rfl ?_
  refine x_new (q := 3) ha ld_X2_9 dX2_init_16 (Nat.le_of_ble_eq_true rfl) (Nat.le_of_ble_eq_true rfl) hB rfl rfl ?_
  refine e_dup dX2_init_19 rfl ?_
  refine x_callN (q := 3) (As := []) ha "SuggestSpell" ln_X2_11 dX2_init_20 (by decide) rfl rfl (by simp [Value.category]) (Nat.le_of_ble_eq_true rfl) (Nat.le_of_ble_eq_true rfl) ⟨(Nat.le_of_ble_eq_true rfl), (Nat.le_of_ble_eq_true rfl)⟩ ⟨(Nat.le_of_ble_eq_true rfl), (Nat.le_of_ble_eq_true rfl)⟩ (k_Side (by show _ < h.1 + _; simp) (by show _ ≤ h.1 + _; omega) ((ec_x_k ha).trans rfl)) rfl ?_
  refine x_put 2 1 true lp_X2_18 (fun _ => rfl) dX2_init_23 rfl rfl (Nat.le_of_ble_eq_true rfl) rfl ?_
  refine e_aload_n dX2_init_26 rfl rfl ?_
  refine e_ldc dX2_init_27 lk_X2_21 ?_
  refine x_put 2 2 false lp_X2_22 (fun _ => rfl) dX2_init_29 rfl rfl (Nat.le_of_ble_eq_true rfl) rfl ?_
  refine e_aload_n dX2_init_32 rfl rfl ?_
  refine e_iconst (v := nI 0) dX2_init_33 (by decide) ?_
  refine x_put 2 3 false lp_X2_26 (fun _ => rfl) dX2_init_34 rfl rfl (Nat.le_of_ble_eq_true rfl) rfl ?_
  refine e_aload_n dX2_init_37 rfl rfl ?_
  refine e_iconst (v := nI 0) dX2_init_38 (by decide) ?_
  refine x_put 2 4 false lp_X2_29 (fun _ => rfl) dX2_init_39 rfl rfl (Nat.le_of_ble_eq_true rfl) rfl ?_
  refine e_aload_n dX2_init_42 rfl rfl ?_
  refine e_iconst (v := nI 0) dX2_init_43 (by decide) ?_
  refine x_put 2 5 false lp_X2_32 (fun _ => rfl) dX2_init_44 rfl rfl (Nat.le_of_ble_eq_true rfl) rfl ?_
  exact e_vret dX2_init_47 rfl (Nat.le_of_ble_eq_true rfl) (Nat.le_of_ble_eq_true rfl) ⟨rfl, rfl⟩
set_option maxRecDepth 100000 in
theorem k_Choice {h : ec_H} {a : Nat} (ha : a < h.1) (hB : B ≤ h.1) (hc : h.2 a = some (.inr (0, [.null, .null, .null, .null]))) : ec_FI l D kA B 1 20 22 1104 mX0_init [] h a (ec_oc (h.1 + 0) 6 :: List.replicate 6 (ec_ic 60) ++ (ec_oc (h.1 + 7) 6 :: List.replicate 6 (ec_ic 60) ++ (ec_oc (h.1 + 14) 6 :: List.replicate 6 (ec_ic 60) ++ [ec_ic 6]))) (.inr (0, [.ref (h.1 + 0), .ref (h.1 + 7), .ref (h.1 + 14), .ref (h.1 + 21)])) := by
  refine x_start hc ?_
  refine e_aload_n dX0_init_0 rfl rfl ?_
  refine e_obj dX0_init_1 lo_X0_3 wo_i wo_c (Nat.le_of_ble_eq_true rfl) (Nat.le_of_ble_eq_true rfl) ?_
  refine e_aload_n dX0_init_4 rfl rfl ?_
  refine e_bipush (v := nI 6) dX0_init_5 (by decide) ?_
  refine e_bipush (v := nI 60) dX0_init_7 (by decide) ?_
  refine x_mna (q := 0) ha dX0_init_9 lw_X0_9 (by decide) (by decide) (by decide) (by decide) (by decide) (by decide) (Nat.le_of_ble_eq_true rfl) (Nat.le_of_ble_eq_true rfl) hB rfl rfl ?_
  refine x_put 0 0 true lp_X0_11 (fun _ => rfl) dX0_init_13 rfl rfl (Nat.le_of_ble_eq_true rfl) rfl ?_
  refine e_aload_n dX0_init_16 rfl rfl ?_
  refine e_bipush (v := nI 6) dX0_init_17 (by decide) ?_
  refine e_bipush (v := nI 60) dX0_init_19 (by decide) ?_
  refine x_mna (q := 7) ha dX0_init_21 lw_X0_9 (by decide) (by decide) (by decide) (by decide) (by decide) (by decide) (Nat.le_of_ble_eq_true rfl) (Nat.le_of_ble_eq_true rfl) hB rfl rfl ?_
  refine x_put 0 1 true lp_X0_16 (fun _ => rfl) dX0_init_25 rfl rfl (Nat.le_of_ble_eq_true rfl) rfl ?_
  refine e_aload_n dX0_init_28 rfl rfl ?_
  refine e_bipush (v := nI 6) dX0_init_29 (by decide) ?_
  refine e_bipush (v := nI 60) dX0_init_31 (by decide) ?_
  refine x_mna (q := 14) ha dX0_init_33 lw_X0_9 (by decide) (by decide) (by decide) (by decide) (by decide) (by decide) (Nat.le_of_ble_eq_true rfl) (Nat.le_of_ble_eq_true rfl) hB rfl rfl ?_
  refine x_put 0 2 true lp_X0_19 (fun _ => rfl) dX0_init_37 rfl rfl (Nat.le_of_ble_eq_true rfl) rfl ?_
  refine e_aload_n dX0_init_40 rfl rfl ?_
  refine e_bipush (v := nI 6) dX0_init_41 (by decide) ?_
  refine x_newa (q := 21) (a0 := (6, .inl (fun _ => 0))) ha dX0_init_43 rfl wa_int (by decide) (fun _ => rfl) (by decide) (by decide) (by decide) (Nat.le_of_ble_eq_true rfl) (Nat.le_of_ble_eq_true rfl) hB rfl rfl ?_
  refine x_put 0 3 true lp_X0_22 (fun _ => rfl) dX0_init_45 rfl rfl (Nat.le_of_ble_eq_true rfl) rfl ?_
  exact e_vret dX0_init_48 rfl (Nat.le_of_ble_eq_true rfl) (Nat.le_of_ble_eq_true rfl) ⟨rfl, rfl⟩
set_option maxRecDepth 100000 in
theorem k_Table {h : ec_H} {a p : Nat} (ha : a < h.1) (hB : B ≤ h.1) (hc : h.2 a = some (.inr (7, [.null, .null, .null, .null, .null, .null, .int 0]))) : ec_FI l D kA B 2 40 20 258 mX7_init [.ref p] h a (rowC (h.1 + 1) :: ec_ic 12 :: rowC (h.1 + 3) :: ec_ic 12 :: ec_oc (h.1 + 4) 13 :: List.replicate 13 (ec_ic 13) ++ [ec_ic 24, ec_ic 24]) (.inr (7, [.ref p, .ref (h.1 + 0), .ref (h.1 + 2), .ref (h.1 + 4), .ref (h.1 + 18), .ref (h.1 + 19), .int (nI 0)])) := by
  refine x_start hc ?_
  refine e_aload_n dX7_init_0 rfl rfl ?_
  refine e_obj dX7_init_1 lo_X7_3 wo_i wo_c (Nat.le_of_ble_eq_true rfl) (Nat.le_of_ble_eq_true rfl) ?_
  refine e_aload_n dX7_init_4 rfl rfl ?_
  refine x_new (q := 0) ha ld_X7_9 dX7_init_5 (Nat.le_of_ble_eq_true rfl) (Nat.le_of_ble_eq_true rfl) hB rfl rfl ?_
  refine e_dup dX7_init_8 rfl ?_
  refine x_callN (q := 0) (As := []) ha "SuggestSpell" ln_X7_11 dX7_init_9 (by decide) rfl rfl (by simp [Value.category]) (Nat.le_of_ble_eq_true rfl) (Nat.le_of_ble_eq_true rfl) ⟨(Nat.le_of_ble_eq_true rfl), (Nat.le_of_ble_eq_true rfl)⟩ ⟨(Nat.le_of_ble_eq_true rfl), (Nat.le_of_ble_eq_true rfl)⟩ (k_Row (by show _ < h.1 + _; simp) (by show _ ≤ h.1 + _; omega) ((ec_x_k ha).trans rfl)) rfl ?_
  refine x_put 7 1 true lp_X7_12 (fun _ => rfl) dX7_init_12 rfl rfl (Nat.le_of_ble_eq_true rfl) rfl ?_
  refine e_aload_n dX7_init_15 rfl rfl ?_
  refine x_new (q := 2) ha ld_X7_9 dX7_init_16 (Nat.le_of_ble_eq_true rfl) (Nat.le_of_ble_eq_true rfl) hB rfl rfl ?_
  refine e_dup dX7_init_19 rfl ?_
  refine x_callN (q := 2) (As := []) ha "SuggestSpell" ln_X7_11 dX7_init_20 (by decide) rfl rfl (by simp [Value.category]) (Nat.le_of_ble_eq_true rfl) (Nat.le_of_ble_eq_true rfl) ⟨(Nat.le_of_ble_eq_true rfl), (Nat.le_of_ble_eq_true rfl)⟩ ⟨(Nat.le_of_ble_eq_true rfl), (Nat.le_of_ble_eq_true rfl)⟩ (k_Row (by show _ < h.1 + _; simp) (by show _ ≤ h.1 + _; omega) ((ec_x_k ha).trans rfl)) rfl ?_
  refine x_put 7 2 true lp_X7_18 (fun _ => rfl) dX7_init_23 rfl rfl (Nat.le_of_ble_eq_true rfl) rfl ?_
  refine e_aload_n dX7_init_26 rfl rfl ?_
  refine e_bipush (v := nI 13) dX7_init_27 (by decide) ?_
  refine e_bipush (v := nI 13) dX7_init_29 (by decide) ?_
  refine x_mna (q := 4) ha dX7_init_31 lw_X7_21 (by decide) (by decide) (by decide) (by decide) (by decide) (by decide) (Nat.le_of_ble_eq_true rfl) (Nat.le_of_ble_eq_true rfl) hB rfl rfl ?_
  refine x_put 7 3 true lp_X7_23 (fun _ => rfl) dX7_init_35 rfl rfl (Nat.le_of_ble_eq_true rfl) rfl ?_
  refine e_aload_n dX7_init_38 rfl rfl ?_
  refine e_bipush (v := nI 24) dX7_init_39 (by decide) ?_
  refine x_newa (q := 18) (a0 := (24, .inl (fun _ => 0))) ha dX7_init_41 rfl wa_int (by decide) (fun _ => rfl) (by decide) (by decide) (by decide) (Nat.le_of_ble_eq_true rfl) (Nat.le_of_ble_eq_true rfl) hB rfl rfl ?_
  refine x_put 7 4 true lp_X7_26 (fun _ => rfl) dX7_init_43 rfl rfl (Nat.le_of_ble_eq_true rfl) rfl ?_
  refine e_aload_n dX7_init_46 rfl rfl ?_
  refine e_bipush (v := nI 24) dX7_init_47 (by decide) ?_
  refine x_newa (q := 19) (a0 := (24, .inl (fun _ => 0))) ha dX7_init_49 rfl wa_int (by decide) (fun _ => rfl) (by decide) (by decide) (by decide) (Nat.le_of_ble_eq_true rfl) (Nat.le_of_ble_eq_true rfl) hB rfl rfl ?_
  refine x_put 7 5 true lp_X7_30 (fun _ => rfl) dX7_init_51 rfl rfl (Nat.le_of_ble_eq_true rfl) rfl ?_
  refine e_aload_n dX7_init_54 rfl rfl ?_
  refine e_iconst (v := nI 0) dX7_init_55 (by decide) ?_
  refine x_put 7 6 false lp_X7_33 (fun _ => rfl) dX7_init_56 rfl rfl (Nat.le_of_ble_eq_true rfl) rfl ?_
  refine e_aload_n dX7_init_59 rfl rfl ?_
  refine e_aload_n dX7_init_60 rfl rfl ?_
  refine x_put 7 0 true lp_X7_37 (fun _ => rfl) dX7_init_61 rfl rfl (Nat.le_of_ble_eq_true rfl) rfl ?_
  exact e_vret dX7_init_64 rfl (Nat.le_of_ble_eq_true rfl) (Nat.le_of_ble_eq_true rfl) ⟨rfl, rfl⟩
end INI
