def ly_a (B : Nat) (m : Nat → Int32) (o : Int64) (k : Nat) : Option ec_C :=
  if k = 0 then some (.inr (9, [.ref (B + 1), .ref (B + 3), .ref (B + 32), .ref (B + 157), .ref (B + 171), .ref (B + 192), .ref (B + 196), .ref (B + 203)])) else
  if k = 1 then some (.inr (5, [.ref (B + 2), .int (m 1)])) else
  if k = 2 then some (.inl (.int, 12, .inl m)) else
  if k = 3 then some (.inr (3, [.ref (B + 4), .ref (B + 5)])) else
  if k = 4 then some (.inl (.int, 6, .inl m)) else
  if k = 5 then some (.inl (.array .int, 26, .inr (.inr (.inr (.inr (fun i => if i < 26 then some (B + (6 + i)) else none)))))) else
  if k < 32 then some (.inl (.int, 26, .inl m)) else
  if k = 32 then some (.inr (8, [.ref (B + 33), .ref (B + 34), .ref (B + 35), .ref (B + 36), .int (m 4)])) else
  if k = 33 then some (.inl (.object "SuggestSpell$Row", 60, .inr (.inr (.inr (.inr (fun i => if i < 60 then some (B + (37 + 2 * i)) else none)))))) else
  if k = 34 then some (.inl (.int, 60, .inl m)) else
  if k = 35 then some (.inl (.int, 60, .inl m)) else
  if k = 36 then some (.inl (.boolean, 3600, .inl m)) else
  none
def ly_b (B : Nat) (m : Nat → Int32) (o : Int64) (k : Nat) : Option ec_C :=
  if k < 157 then (if (k - 37) % 2 = 0 then some (.inr (5, [.ref (B + (k + 1)), .int (m 1)])) else some (.inl (.int, 12, .inl m))) else
  none
def ly_c (B : Nat) (m : Nat → Int32) (o : Int64) (k : Nat) : Option ec_C :=
  if k = 157 then some (.inr (1, [.ref (B + 158), .int (m 1)])) else
  if k = 158 then some (.inl (.object "SuggestSpell$Row", 6, .inr (.inr (.inr (.inr (fun i => if i < 6 then some (B + (159 + 2 * i)) else none)))))) else
  if k < 171 then (if (k - 159) % 2 = 0 then some (.inr (5, [.ref (B + (k + 1)), .int (m 1)])) else some (.inl (.int, 12, .inl m))) else
  none
def ly_d (B : Nat) (m : Nat → Int32) (o : Int64) (k : Nat) : Option ec_C :=
  if k = 171 then some (.inr (7, [.ref (B + 3), .ref (B + 172), .ref (B + 174), .ref (B + 176), .ref (B + 190), .ref (B + 191), .int (m 6)])) else
  if k = 172 then some (.inr (5, [.ref (B + 173), .int (m 1)])) else
  if k = 173 then some (.inl (.int, 12, .inl m)) else
  if k = 174 then some (.inr (5, [.ref (B + 175), .int (m 1)])) else
  if k = 175 then some (.inl (.int, 12, .inl m)) else
  if k = 176 then some (.inl (.array .int, 13, .inr (.inr (.inr (.inr (fun i => if i < 13 then some (B + (177 + i)) else none)))))) else
  if k < 190 then some (.inl (.int, 13, .inl m)) else
  if k = 190 then some (.inl (.int, 24, .inl m)) else
  if k = 191 then some (.inl (.int, 24, .inl m)) else
  if k = 192 then some (.inr (4, [.ref (B + 193), .ref (B + 194), .ref (B + 195), .int (m 3)])) else
  if k = 193 then some (.inl (.int, 60, .inl m)) else
  if k = 194 then some (.inl (.int, 60, .inl m)) else
  if k = 195 then some (.inl (.int, 60, .inl m)) else
  if k = 196 then some (.inr (2, [.ref (B + 197), .ref (B + 200), .int (m 2), .int (m 3), .int (m 4), .int (m 5)])) else
  if k = 197 then some (.inr (6, [.ref (B + 198), .ref (B + 199)])) else
  if k = 198 then some (.inl (.int, 13, .inl m)) else
  if k = 199 then some (.inl (.int, 13, .inl m)) else
  if k = 200 then some (.inr (6, [.ref (B + 201), .ref (B + 202)])) else
  if k = 201 then some (.inl (.int, 13, .inl m)) else
  if k = 202 then some (.inl (.int, 13, .inl m)) else
  if k = 203 then some (.inr (0, [.ref (B + 204), .ref (B + 211), .ref (B + 218), .ref (B + 225)])) else
  none
def ly_e (B : Nat) (m : Nat → Int32) (o : Int64) (k : Nat) : Option ec_C :=
  if k = 204 then some (.inl (.array .int, 6, .inr (.inr (.inr (.inr (fun i => if i < 6 then some (B + (205 + i)) else none)))))) else
  if k < 211 then some (.inl (.int, 60, .inl m)) else
  if k = 211 then some (.inl (.array .int, 6, .inr (.inr (.inr (.inr (fun i => if i < 6 then some (B + (212 + i)) else none)))))) else
  if k < 218 then some (.inl (.int, 60, .inl m)) else
  if k = 218 then some (.inl (.array .int, 6, .inr (.inr (.inr (.inr (fun i => if i < 6 then some (B + (219 + i)) else none)))))) else
  if k < 225 then some (.inl (.int, 60, .inl m)) else
  if k = 225 then some (.inl (.int, 6, .inl m)) else
  none
def ly_f (B : Nat) (m : Nat → Int32) (o : Int64) (k : Nat) : Option ec_C :=
  if k = 226 then some (.inr (10, [.int (m 0), .int (m 1), .ref (B + 227), .int (m 3), .ref (B + 228), .ref (B + 229), .ref (B + 230), .ref (B + 231), .ref (B + 232), .int (m 9), .ref (B + 233), .ref (B + 234), .ref (B + 235), .ref (B + 236), .ref (B + 237), .int (m 15), .int (m 16), .ref (B + 238), .ref (B + 239), .int (m 19), .ref (B + 240), .ref (B + 241), .int (m 22), .ref (B + 242), .ref (B + 243)])) else
  if k = 227 then some (.inl (.int, 12, .inl m)) else
  if k = 228 then some (.inl (.int, 60, .inl m)) else
  if k = 229 then some (.inl (.int, 720, .inl m)) else
  if k = 230 then some (.inl (.int, 60, .inl m)) else
  if k = 231 then some (.inl (.int, 6, .inl m)) else
  if k = 232 then some (.inl (.int, 676, .inl m)) else
  if k = 233 then some (.inl (.int, 6, .inl m)) else
  if k = 234 then some (.inl (.int, 72, .inl m)) else
  if k = 235 then some (.inl (.boolean, 3600, .inl m)) else
  if k = 236 then some (.inl (.int, 169, .inl m)) else
  if k = 237 then some (.inl (.int, 12, .inl m)) else
  if k = 238 then some (.inl (.int, 24, .inl m)) else
  if k = 239 then some (.inl (.int, 24, .inl m)) else
  if k = 240 then some (.inl (.int, 60, .inl m)) else
  if k = 241 then some (.inl (.int, 60, .inl m)) else
  if k = 242 then some (.inl (.int, 360, .inl m)) else
  if k = 243 then some (.inl (.int, 360, .inl m)) else
  if k = 244 then some (.inl (.long, 1, .inr (.inl (fun _ => o)))) else
  none
/-- the cell at an offset, with the numbers m in it -/
def ly (B : Nat) (m : Nat → Int32) (o : Int64) (k : Nat) : Option ec_C := if k < 37 then ly_a B m o k else if k < 157 then ly_b B m o k else if k < 171 then ly_c B m o k else if k < 204 then ly_d B m o k else if k < 226 then ly_e B m o k else ly_f B m o k
theorem ly_0 (B : Nat) (m : Nat → Int32) (o : Int64) : ly B m o 0 = some (.inr (9, [.ref (B + 1), .ref (B + 3), .ref (B + 32), .ref (B + 157), .ref (B + 171), .ref (B + 192), .ref (B + 196), .ref (B + 203)])) := rfl
theorem ly_1 (B : Nat) (m : Nat → Int32) (o : Int64) : ly B m o 1 = some (.inr (5, [.ref (B + 2), .int (m 1)])) := rfl
theorem ly_2 (B : Nat) (m : Nat → Int32) (o : Int64) : ly B m o 2 = some (.inl (.int, 12, .inl m)) := rfl
theorem ly_3 (B : Nat) (m : Nat → Int32) (o : Int64) : ly B m o 3 = some (.inr (3, [.ref (B + 4), .ref (B + 5)])) := rfl
theorem ly_4 (B : Nat) (m : Nat → Int32) (o : Int64) : ly B m o 4 = some (.inl (.int, 6, .inl m)) := rfl
theorem ly_5 (B : Nat) (m : Nat → Int32) (o : Int64) : ly B m o 5 = some (.inl (.array .int, 26, .inr (.inr (.inr (.inr (fun i => if i < 26 then some (B + (6 + i)) else none)))))) := rfl
theorem ly_32 (B : Nat) (m : Nat → Int32) (o : Int64) : ly B m o 32 = some (.inr (8, [.ref (B + 33), .ref (B + 34), .ref (B + 35), .ref (B + 36), .int (m 4)])) := rfl
theorem ly_33 (B : Nat) (m : Nat → Int32) (o : Int64) : ly B m o 33 = some (.inl (.object "SuggestSpell$Row", 60, .inr (.inr (.inr (.inr (fun i => if i < 60 then some (B + (37 + 2 * i)) else none)))))) := rfl
theorem ly_34 (B : Nat) (m : Nat → Int32) (o : Int64) : ly B m o 34 = some (.inl (.int, 60, .inl m)) := rfl
theorem ly_35 (B : Nat) (m : Nat → Int32) (o : Int64) : ly B m o 35 = some (.inl (.int, 60, .inl m)) := rfl
theorem ly_36 (B : Nat) (m : Nat → Int32) (o : Int64) : ly B m o 36 = some (.inl (.boolean, 3600, .inl m)) := rfl
theorem ly_157 (B : Nat) (m : Nat → Int32) (o : Int64) : ly B m o 157 = some (.inr (1, [.ref (B + 158), .int (m 1)])) := rfl
theorem ly_158 (B : Nat) (m : Nat → Int32) (o : Int64) : ly B m o 158 = some (.inl (.object "SuggestSpell$Row", 6, .inr (.inr (.inr (.inr (fun i => if i < 6 then some (B + (159 + 2 * i)) else none)))))) := rfl
theorem ly_171 (B : Nat) (m : Nat → Int32) (o : Int64) : ly B m o 171 = some (.inr (7, [.ref (B + 3), .ref (B + 172), .ref (B + 174), .ref (B + 176), .ref (B + 190), .ref (B + 191), .int (m 6)])) := rfl
theorem ly_172 (B : Nat) (m : Nat → Int32) (o : Int64) : ly B m o 172 = some (.inr (5, [.ref (B + 173), .int (m 1)])) := rfl
theorem ly_173 (B : Nat) (m : Nat → Int32) (o : Int64) : ly B m o 173 = some (.inl (.int, 12, .inl m)) := rfl
theorem ly_174 (B : Nat) (m : Nat → Int32) (o : Int64) : ly B m o 174 = some (.inr (5, [.ref (B + 175), .int (m 1)])) := rfl
theorem ly_175 (B : Nat) (m : Nat → Int32) (o : Int64) : ly B m o 175 = some (.inl (.int, 12, .inl m)) := rfl
theorem ly_176 (B : Nat) (m : Nat → Int32) (o : Int64) : ly B m o 176 = some (.inl (.array .int, 13, .inr (.inr (.inr (.inr (fun i => if i < 13 then some (B + (177 + i)) else none)))))) := rfl
theorem ly_190 (B : Nat) (m : Nat → Int32) (o : Int64) : ly B m o 190 = some (.inl (.int, 24, .inl m)) := rfl
theorem ly_191 (B : Nat) (m : Nat → Int32) (o : Int64) : ly B m o 191 = some (.inl (.int, 24, .inl m)) := rfl
theorem ly_192 (B : Nat) (m : Nat → Int32) (o : Int64) : ly B m o 192 = some (.inr (4, [.ref (B + 193), .ref (B + 194), .ref (B + 195), .int (m 3)])) := rfl
theorem ly_193 (B : Nat) (m : Nat → Int32) (o : Int64) : ly B m o 193 = some (.inl (.int, 60, .inl m)) := rfl
theorem ly_194 (B : Nat) (m : Nat → Int32) (o : Int64) : ly B m o 194 = some (.inl (.int, 60, .inl m)) := rfl
theorem ly_195 (B : Nat) (m : Nat → Int32) (o : Int64) : ly B m o 195 = some (.inl (.int, 60, .inl m)) := rfl
theorem ly_196 (B : Nat) (m : Nat → Int32) (o : Int64) : ly B m o 196 = some (.inr (2, [.ref (B + 197), .ref (B + 200), .int (m 2), .int (m 3), .int (m 4), .int (m 5)])) := rfl
theorem ly_197 (B : Nat) (m : Nat → Int32) (o : Int64) : ly B m o 197 = some (.inr (6, [.ref (B + 198), .ref (B + 199)])) := rfl
theorem ly_198 (B : Nat) (m : Nat → Int32) (o : Int64) : ly B m o 198 = some (.inl (.int, 13, .inl m)) := rfl
theorem ly_199 (B : Nat) (m : Nat → Int32) (o : Int64) : ly B m o 199 = some (.inl (.int, 13, .inl m)) := rfl
theorem ly_200 (B : Nat) (m : Nat → Int32) (o : Int64) : ly B m o 200 = some (.inr (6, [.ref (B + 201), .ref (B + 202)])) := rfl
theorem ly_201 (B : Nat) (m : Nat → Int32) (o : Int64) : ly B m o 201 = some (.inl (.int, 13, .inl m)) := rfl
theorem ly_202 (B : Nat) (m : Nat → Int32) (o : Int64) : ly B m o 202 = some (.inl (.int, 13, .inl m)) := rfl
theorem ly_203 (B : Nat) (m : Nat → Int32) (o : Int64) : ly B m o 203 = some (.inr (0, [.ref (B + 204), .ref (B + 211), .ref (B + 218), .ref (B + 225)])) := rfl
theorem ly_204 (B : Nat) (m : Nat → Int32) (o : Int64) : ly B m o 204 = some (.inl (.array .int, 6, .inr (.inr (.inr (.inr (fun i => if i < 6 then some (B + (205 + i)) else none)))))) := rfl
theorem ly_211 (B : Nat) (m : Nat → Int32) (o : Int64) : ly B m o 211 = some (.inl (.array .int, 6, .inr (.inr (.inr (.inr (fun i => if i < 6 then some (B + (212 + i)) else none)))))) := rfl
theorem ly_218 (B : Nat) (m : Nat → Int32) (o : Int64) : ly B m o 218 = some (.inl (.array .int, 6, .inr (.inr (.inr (.inr (fun i => if i < 6 then some (B + (219 + i)) else none)))))) := rfl
theorem ly_225 (B : Nat) (m : Nat → Int32) (o : Int64) : ly B m o 225 = some (.inl (.int, 6, .inl m)) := rfl
theorem ly_226 (B : Nat) (m : Nat → Int32) (o : Int64) : ly B m o 226 = some (.inr (10, [.int (m 0), .int (m 1), .ref (B + 227), .int (m 3), .ref (B + 228), .ref (B + 229), .ref (B + 230), .ref (B + 231), .ref (B + 232), .int (m 9), .ref (B + 233), .ref (B + 234), .ref (B + 235), .ref (B + 236), .ref (B + 237), .int (m 15), .int (m 16), .ref (B + 238), .ref (B + 239), .int (m 19), .ref (B + 240), .ref (B + 241), .int (m 22), .ref (B + 242), .ref (B + 243)])) := rfl
theorem ly_227 (B : Nat) (m : Nat → Int32) (o : Int64) : ly B m o 227 = some (.inl (.int, 12, .inl m)) := rfl
theorem ly_228 (B : Nat) (m : Nat → Int32) (o : Int64) : ly B m o 228 = some (.inl (.int, 60, .inl m)) := rfl
theorem ly_229 (B : Nat) (m : Nat → Int32) (o : Int64) : ly B m o 229 = some (.inl (.int, 720, .inl m)) := rfl
theorem ly_230 (B : Nat) (m : Nat → Int32) (o : Int64) : ly B m o 230 = some (.inl (.int, 60, .inl m)) := rfl
theorem ly_231 (B : Nat) (m : Nat → Int32) (o : Int64) : ly B m o 231 = some (.inl (.int, 6, .inl m)) := rfl
theorem ly_232 (B : Nat) (m : Nat → Int32) (o : Int64) : ly B m o 232 = some (.inl (.int, 676, .inl m)) := rfl
theorem ly_233 (B : Nat) (m : Nat → Int32) (o : Int64) : ly B m o 233 = some (.inl (.int, 6, .inl m)) := rfl
theorem ly_234 (B : Nat) (m : Nat → Int32) (o : Int64) : ly B m o 234 = some (.inl (.int, 72, .inl m)) := rfl
theorem ly_235 (B : Nat) (m : Nat → Int32) (o : Int64) : ly B m o 235 = some (.inl (.boolean, 3600, .inl m)) := rfl
theorem ly_236 (B : Nat) (m : Nat → Int32) (o : Int64) : ly B m o 236 = some (.inl (.int, 169, .inl m)) := rfl
theorem ly_237 (B : Nat) (m : Nat → Int32) (o : Int64) : ly B m o 237 = some (.inl (.int, 12, .inl m)) := rfl
theorem ly_238 (B : Nat) (m : Nat → Int32) (o : Int64) : ly B m o 238 = some (.inl (.int, 24, .inl m)) := rfl
theorem ly_239 (B : Nat) (m : Nat → Int32) (o : Int64) : ly B m o 239 = some (.inl (.int, 24, .inl m)) := rfl
theorem ly_240 (B : Nat) (m : Nat → Int32) (o : Int64) : ly B m o 240 = some (.inl (.int, 60, .inl m)) := rfl
theorem ly_241 (B : Nat) (m : Nat → Int32) (o : Int64) : ly B m o 241 = some (.inl (.int, 60, .inl m)) := rfl
theorem ly_242 (B : Nat) (m : Nat → Int32) (o : Int64) : ly B m o 242 = some (.inl (.int, 360, .inl m)) := rfl
theorem ly_243 (B : Nat) (m : Nat → Int32) (o : Int64) : ly B m o 243 = some (.inl (.int, 360, .inl m)) := rfl
theorem ly_244 (B : Nat) (m : Nat → Int32) (o : Int64) : ly B m o 244 = some (.inl (.long, 1, .inr (.inl (fun _ => o)))) := rfl
theorem ly_own (B : Nat) (m : Nat → Int32) (o : Int64) {i : Nat} (hi : i < 26) : ly B m o (6 + i) = some (.inl (.int, 26, .inl m)) := by
  unfold ly ly_a ly_b ly_c ly_d ly_e
  repeat (first | rw [if_neg (by omega)] | rw [if_pos (by omega)])
  all_goals first | rfl | (rw [show 6 + i + 1 = 6 + i by omega])
theorem ly_wr (B : Nat) (m : Nat → Int32) (o : Int64) {i : Nat} (hi : i < 60) : ly B m o (37 + 2 * i) = some (.inr (5, [.ref (B + (38 + 2 * i)), .int (m 1)])) := by
  unfold ly ly_a ly_b ly_c ly_d ly_e
  repeat (first | rw [if_neg (by omega)] | rw [if_pos (by omega)])
  all_goals first | rfl | (rw [show 37 + 2 * i + 1 = 38 + 2 * i by omega])
theorem ly_wl (B : Nat) (m : Nat → Int32) (o : Int64) {i : Nat} (hi : i < 60) : ly B m o (38 + 2 * i) = some (.inl (.int, 12, .inl m)) := by
  unfold ly ly_a ly_b ly_c ly_d ly_e
  repeat (first | rw [if_neg (by omega)] | rw [if_pos (by omega)])
  all_goals first | rfl | (rw [show 38 + 2 * i + 1 = 38 + 2 * i by omega])
theorem ly_tr (B : Nat) (m : Nat → Int32) (o : Int64) {i : Nat} (hi : i < 6) : ly B m o (159 + 2 * i) = some (.inr (5, [.ref (B + (160 + 2 * i)), .int (m 1)])) := by
  unfold ly ly_a ly_b ly_c ly_d ly_e
  repeat (first | rw [if_neg (by omega)] | rw [if_pos (by omega)])
  all_goals first | rfl | (rw [show 159 + 2 * i + 1 = 160 + 2 * i by omega])
theorem ly_tl (B : Nat) (m : Nat → Int32) (o : Int64) {i : Nat} (hi : i < 6) : ly B m o (160 + 2 * i) = some (.inl (.int, 12, .inl m)) := by
  unfold ly ly_a ly_b ly_c ly_d ly_e
  repeat (first | rw [if_neg (by omega)] | rw [if_pos (by omega)])
  all_goals first | rfl | (rw [show 160 + 2 * i + 1 = 160 + 2 * i by omega])
theorem ly_le (B : Nat) (m : Nat → Int32) (o : Int64) {i : Nat} (hi : i < 13) : ly B m o (177 + i) = some (.inl (.int, 13, .inl m)) := by
  unfold ly ly_a ly_b ly_c ly_d ly_e
  repeat (first | rw [if_neg (by omega)] | rw [if_pos (by omega)])
  all_goals first | rfl | (rw [show 177 + i + 1 = 177 + i by omega])
theorem ly_cd (B : Nat) (m : Nat → Int32) (o : Int64) {i : Nat} (hi : i < 6) : ly B m o (205 + i) = some (.inl (.int, 60, .inl m)) := by
  unfold ly ly_a ly_b ly_c ly_d ly_e
  repeat (first | rw [if_neg (by omega)] | rw [if_pos (by omega)])
  all_goals first | rfl | (rw [show 205 + i + 1 = 205 + i by omega])
theorem ly_cc (B : Nat) (m : Nat → Int32) (o : Int64) {i : Nat} (hi : i < 6) : ly B m o (212 + i) = some (.inl (.int, 60, .inl m)) := by
  unfold ly ly_a ly_b ly_c ly_d ly_e
  repeat (first | rw [if_neg (by omega)] | rw [if_pos (by omega)])
  all_goals first | rfl | (rw [show 212 + i + 1 = 212 + i by omega])
theorem ly_cx (B : Nat) (m : Nat → Int32) (o : Int64) {i : Nat} (hi : i < 6) : ly B m o (219 + i) = some (.inl (.int, 60, .inl m)) := by
  unfold ly ly_a ly_b ly_c ly_d ly_e
  repeat (first | rw [if_neg (by omega)] | rw [if_pos (by omega)])
  all_goals first | rfl | (rw [show 219 + i + 1 = 219 + i by omega])
/-- the numbers in the cells: an offset, a place -/
abbrev mm_M : Type := Nat → Nat → Int32
/-- the heap behind the constructors, of a size, with the numbers m, and o in the law's long array -/
def lay (B sz : Nat) (o : Int64) (m : mm_M) : ec_H := (sz, fun a => if B ≤ a then ly B (m (a - B)) o (a - B) else none)
def wr (m : mm_M) (k j : Nat) (x : Int32) : mm_M := fun a i => if a = k ∧ i = j then x else m a i
theorem wr_same (m : mm_M) (k j : Nat) (x : Int32) : wr m k j x k j = x := by simp [wr]
theorem wr_row (m : mm_M) (k j : Nat) (x : Int32) : wr m k j x k = upd (m k) j x := by funext i; simp [wr, upd]
theorem wr_off (m : mm_M) {k j a : Nat} (x : Int32) (h : a ≠ k) : wr m k j x a = m a := by funext i; simp [wr, h]
theorem wr_ne (m : mm_M) {k j a i : Nat} (x : Int32) (h : a ≠ k ∨ i ≠ j) : wr m k j x a i = m a i := by
  unfold wr
  rw [if_neg]
  rintro ⟨h1, h2⟩
  rcases h with h | h
  · exact h h1
  · exact h h2
theorem lay_at {B sz : Nat} {o : Int64} {m : mm_M} {k : Nat} : (lay B sz o m).2 (B + k) = ly B (m k) o k := by
  simp [lay]
theorem lay_up {B sz : Nat} {o : Int64} {m : mm_M} {k j : Nat} {x : Int32} {c : ec_C} (hc : ly B (upd (m k) j x) o k = some c) : ec_up (lay B sz o m) (B + k) c = lay B sz o (wr m k j x) := by
  unfold ec_up lay
  congr 1
  funext a
  by_cases h : a = B + k
  · subst h
    rw [if_pos rfl, if_pos (Nat.le_add_right _ _), Nat.add_sub_cancel_left, wr_row, hc]
  · rw [if_neg h]
    dsimp only
    by_cases hB : B ≤ a
    · rw [if_pos hB, if_pos hB, wr_off _ _ (by omega)]
    · rw [if_neg hB, if_neg hB]
section MMR
variable {l : Launch} {D : va_G} {kA : FieldType → ClassId} {B : Nat} {X : State → Prop} {R : Room} {Z : Array Value → State → List Frame → State → Prop} {M : ec_M} {uc us pc : Nat} {L : List (Option Value)} {st : List Value} {sz : Nat} {o : Int64} {m : mm_M}
theorem m_get {idx k : Nat} {fs : List Value} {v : Value} (ci j : Nat) (hf : ec_fl M.1.cls idx ci j) (hd : decode M.2.1 pc = .ok (.getfield idx, 3)) (hc : ly B (m k) o k = some (.inr (ci, fs))) (hv : fs[j]? = some v) (kk : ec_W l D kA B X R Z M uc us (pc + 3) L (v :: st) (lay B sz o m)) : ec_W l D kA B X R Z M uc us pc L (.ref (B + k) :: st) (lay B sz o m) := e_get ci j hf hd (lay_at.trans hc) hv kk
theorem m_puti {idx k : Nat} {fs fs' : List Value} {x : Int32} (ci j : Nat) (hf : ec_fp M.1.cls idx ci j false .int) (hd : decode M.2.1 pc = .ok (.putfield idx, 3)) (hc : ly B (m k) o k = some (.inr (ci, fs))) (hlt : j < fs.length) (hc' : ly B (upd (m k) j x) o k = some (.inr (ci, fs'))) (hfs : fs.set j (.int x) = fs') (kk : ec_W l D kA B X R Z M uc us (pc + 3) L st (lay B sz o (wr m k j x))) : ec_W l D kA B X R Z M uc us pc L (.int x :: .ref (B + k) :: st) (lay B sz o m) := by
  refine e_put ci j false hf (fun h => by cases h) hd (lay_at.trans hc) rfl rfl hlt ?_
  rw [lay_up (hc'.trans (by rw [hfs]))]
  exact kk
theorem m_iald {k N : Nat} {i : Int32} (n : Nat) (hd : decode M.2.1 pc = .ok (.iaload, 1)) (hc : ly B (m k) o k = some (.inl (.int, N, .inl (m k)))) (hi : i = nI n) (hn : n < N) (hN : N < 2 ^ 31) (kk : ec_W l D kA B X R Z M uc us (pc + 1) L (.int (m k n) :: st) (lay B sz o m)) : ec_W l D kA B X R Z M uc us pc L (.int i :: .ref (B + k) :: st) (lay B sz o m) := by
  subst hi
  exact e_iald hd (lay_at.trans hc) (vp_in_nI hn hN) (by rw [nI_clamp (by omega)]) kk
theorem m_zald {k N : Nat} {i : Int32} (n : Nat) (hd : decode M.2.1 pc = .ok (.baload, 1)) (hc : ly B (m k) o k = some (.inl (.boolean, N, .inl (m k)))) (hi : i = nI n) (hn : n < N) (hN : N < 2 ^ 31) (kk : ec_W l D kA B X R Z M uc us (pc + 1) L (.int (m k n) :: st) (lay B sz o m)) : ec_W l D kA B X R Z M uc us pc L (.int i :: .ref (B + k) :: st) (lay B sz o m) := by
  subst hi
  exact e_zald hd (lay_at.trans hc) (vp_in_nI hn hN) (by rw [nI_clamp (by omega)]) kk
theorem m_iast {k N : Nat} {i x : Int32} (n : Nat) (hd : decode M.2.1 pc = .ok (.iastore, 1)) (hc : ∀ m : Nat → Int32, ly B m o k = some (.inl (.int, N, .inl m))) (hi : i = nI n) (hn : n < N) (hN : N < 2 ^ 31) (kk : ec_W l D kA B X R Z M uc us (pc + 1) L st (lay B sz o (wr m k n x))) : ec_W l D kA B X R Z M uc us pc L (.int x :: .int i :: .ref (B + k) :: st) (lay B sz o m) := by
  subst hi
  refine e_iast hd (lay_at.trans (hc _)) (vp_in_nI hn hN) ?_
  rw [nI_clamp (by omega), lay_up (hc _)]
  exact kk
theorem m_zast {k N : Nat} {i x : Int32} (n : Nat) (hd : decode M.2.1 pc = .ok (.bastore, 1)) (hc : ∀ m : Nat → Int32, ly B m o k = some (.inl (.boolean, N, .inl m))) (hi : i = nI n) (hn : n < N) (hN : N < 2 ^ 31) (hx : vp_nar .boolean x = x) (kk : ec_W l D kA B X R Z M uc us (pc + 1) L st (lay B sz o (wr m k n x))) : ec_W l D kA B X R Z M uc us pc L (.int x :: .int i :: .ref (B + k) :: st) (lay B sz o m) := by
  subst hi
  refine e_zast hd (lay_at.trans (hc _)) (vp_in_nI hn hN) hx ?_
  rw [nI_clamp (by omega), lay_up (hc _)]
  exact kk
theorem m_aald {k N r : Nat} {ty : FieldType} {f : Nat → Option Nat} {i : Int32} (n : Nat) (hd : decode M.2.1 pc = .ok (.aaload, 1)) (hty : ty ∈ ec_tys) (href : ty.isReference = true) (hc : ly B (m k) o k = some (.inl (ty, N, .inr (.inr (.inr (.inr f)))))) (hi : i = nI n) (hn : n < N) (hN : N < 2 ^ 31) (hr : f n = some (B + r)) (kk : ec_W l D kA B X R Z M uc us (pc + 1) L (.ref (B + r) :: st) (lay B sz o m)) : ec_W l D kA B X R Z M uc us pc L (.int i :: .ref (B + k) :: st) (lay B sz o m) := by
  subst hi
  exact e_aald hd hty href (lay_at.trans hc) (vp_in_nI hn hN) (by rw [nI_clamp (by omega), hr]; rfl) kk
theorem e_top {v w : Int32} {h : ec_H} (hv : v = w) (kk : ec_W l D kA B X R Z M uc us pc L (.int w :: st) h) : ec_W l D kA B X R Z M uc us pc L (.int v :: st) h := hv ▸ kk
/-- what a method leaves, by the numbers -/
def mq (B sz : Nat) (o : Int64) (P : Option Value → mm_M → Prop) : Option Value → ec_H → Prop := fun v h1 => ∃ m' : mm_M, h1 = lay B sz o m' ∧ P v m'
/-- a method's contract over the numbers: no new cells -/
def mm_F (l : Launch) (D : va_G) (kA : FieldType → ClassId) (B sz : Nat) (o : Int64) (f lo : Nat) (M : ec_M) (as : List Value) (m : mm_M) (P : Option Value → mm_M → Prop) : Prop := ec_F l D kA B f lo 0 0 M as (lay B sz o m) (mq B sz o P)
theorem mm_F.imp {f lo : Nat} {M : ec_M} {as : List Value} {P P' : Option Value → mm_M → Prop} (h : mm_F l D kA B sz o f lo M as m P) (hi : ∀ v m', P v m' → P' v m') : mm_F l D kA B sz o f lo M as m P' := by
  intro p e s m9 args below meth c H locs ls hx hb hr hml hown hts hlk hnm hK hX hB hP hS hl
  intro T hT X9
  obtain ⟨t, a1, o9, b1, b2, b3, b4⟩ := h p e s m9 args below meth c H locs ls hx hb hr hml hown hts hlk hnm hK hX hB hP hS hl T hT X9
  obtain ⟨⟨v, h1, c1, ⟨m', c2, c3⟩, c4⟩, c5⟩ := b3
  exact ⟨t, a1, o9, b1, b2, ⟨⟨v, h1, c1, ⟨m', c2, hi v m' c3⟩, c4⟩, c5⟩, b4⟩
variable {P : Option Value → mm_M → Prop}
theorem m_iret {v : Int32} {uc us mc ms : Nat} (hd : decode M.2.1 pc = .ok (.ireturn, 1)) (hr9 : M.2.2.2 = some .int) (h1 : uc ≤ mc) (h2 : us ≤ ms) (hq : P (some (.int v)) m) : ec_W l D kA B X R (ec_Z D kA B (mq B sz o P) mc ms) M uc us pc L [.int v] (lay B sz o m) := e_iret hd hr9 h1 h2 ⟨m, rfl, hq⟩
theorem m_zret {v : Int32} {uc us mc ms : Nat} (hd : decode M.2.1 pc = .ok (.ireturn, 1)) (hr9 : M.2.2.2 = some .boolean) (hn : narrow .boolean (.int v) = .int v) (h1 : uc ≤ mc) (h2 : us ≤ ms) (hq : P (some (.int v)) m) : ec_W l D kA B X R (ec_Z D kA B (mq B sz o P) mc ms) M uc us pc L [.int v] (lay B sz o m) := e_zret hd hr9 hn h1 h2 ⟨m, rfl, hq⟩
theorem m_vret {uc us mc ms : Nat} (hd : decode M.2.1 pc = .ok (.return_, 1)) (hr9 : M.2.2.2 = none) (h1 : uc ≤ mc) (h2 : us ≤ ms) (hq : P none m) : ec_W l D kA B X R (ec_Z D kA B (mq B sz o P) mc ms) M uc us pc L [] (lay B sz o m) := e_vret hd hr9 h1 h2 ⟨m, rfl, hq⟩
theorem m_callV {idx k : Nat} {M' : ec_M} {n ci f lo : Nat} {As rest fs : List Value} (hc : ec_cV M.1.cls idx M' n ci) (hd : decode M.2.1 pc = .ok (.invokevirtual idx, 3)) (hb9 : ly B (m k) o k = some (.inr (ci, fs))) (hst : st = As.reverse ++ .ref (B + k) :: rest) (hn : As.length = n) (hca : ∀ v ∈ As, v.category = 1) (hle : As.length + 1 ≤ M'.2.2.1) (hcat : (rest.map fun v => v.category).sum ≤ 8)
    (hR : f + 1 ≤ R.frames ∧ 8 + (M'.2.2.1 + 11) + lo ≤ R.locals) (hR2 : uc + 0 ≤ R.cells ∧ us + 0 ≤ R.slots) (hF : mm_F l D kA B sz o f lo M' (.ref (B + k) :: As) m P)
    (kk : ∀ (v : Option Value) (m' : mm_M), P v m' → ec_W l D kA B X R Z M uc us (pc + 3) L (v.toList ++ rest) (lay B sz o m')) : ec_W l D kA B X R Z M uc us pc L st (lay B sz o m) :=
  e_callV hc hd (lay_at.trans hb9) hst hn hca hle hcat hR hR2 hF (fun v h1 ⟨m', e, hp⟩ => by subst e; exact kk v m' hp)
theorem m_callS {idx : Nat} {M' : ec_M} {n f lo : Nat} {As rest : List Value} (hc : ec_cS M.1.cls idx M' n) (hd : decode M.2.1 pc = .ok (.invokestatic idx, 3)) (hst : st = As.reverse ++ rest) (hn : As.length = n) (hca : ∀ v ∈ As, v.category = 1) (hle : As.length ≤ M'.2.2.1) (hcat : (rest.map fun v => v.category).sum ≤ 8)
    (hR : f + 1 ≤ R.frames ∧ 8 + (M'.2.2.1 + 11) + lo ≤ R.locals) (hR2 : uc + 0 ≤ R.cells ∧ us + 0 ≤ R.slots) (hF : mm_F l D kA B sz o f lo M' As m P)
    (kk : ∀ (v : Option Value) (m' : mm_M), P v m' → ec_W l D kA B X R Z M uc us (pc + 3) L (v.toList ++ rest) (lay B sz o m')) : ec_W l D kA B X R Z M uc us pc L st (lay B sz o m) :=
  e_callS hc hd hst hn hca hle hcat hR hR2 hF (fun v h1 ⟨m', e, hp⟩ => by subst e; exact kk v m' hp)
end MMR

