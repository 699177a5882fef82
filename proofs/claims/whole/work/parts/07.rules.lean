section ECR
variable {l : Launch} {D : va_G} {kA : FieldType → ClassId} {B : Nat} {X : State → Prop} {R : Room} {Z : Array Value → State → List Frame → State → Prop} {M : ec_M} {uc us pc : Nat} {L : List (Option Value)} {st : List Value} {h : ec_H}
theorem e_iconst {n : Int} {v : Int32} (hd : decode M.2.1 pc = .ok (.iconst n, 1)) (hv : Int32.ofInt n = v) (kk : ec_W l D kA B X R Z M uc us (pc + 1) L (.int v :: st) h) : ec_W l D kA B X R Z M uc us pc L st h := by
  intro p e s m args below meth c H locs ls hx hb hr hml hown hts hlk hnm hK hX hB hP hS hl
  exact lv_iconst hx hb hd hv (kk p e s m args below meth c H locs ls hx hb hr hml hown hts hlk hnm hK hX hB hP hS hl)
theorem e_bipush {n : Int} {v : Int32} (hd : decode M.2.1 pc = .ok (.bipush n, 2)) (hv : (Int8.ofInt n).toInt32 = v) (kk : ec_W l D kA B X R Z M uc us (pc + 2) L (.int v :: st) h) : ec_W l D kA B X R Z M uc us pc L st h := by
  intro p e s m args below meth c H locs ls hx hb hr hml hown hts hlk hnm hK hX hB hP hS hl
  exact lv_bipush hx hb hd hv (kk p e s m args below meth c H locs ls hx hb hr hml hown hts hlk hnm hK hX hB hP hS hl)
theorem e_sipush {n : Int} {v : Int32} (hd : decode M.2.1 pc = .ok (.sipush n, 3)) (hv : (Int16.ofInt n).toInt32 = v) (kk : ec_W l D kA B X R Z M uc us (pc + 3) L (.int v :: st) h) : ec_W l D kA B X R Z M uc us pc L st h := by
  intro p e s m args below meth c H locs ls hx hb hr hml hown hts hlk hnm hK hX hB hP hS hl
  exact lv_sipush hx hb hd hv (kk p e s m args below meth c H locs ls hx hb hr hml hown hts hlk hnm hK hX hB hP hS hl)
theorem e_lconst {n : Fin 2} {v : Int64} (hd : decode M.2.1 pc = .ok (.lconst n, 1)) (hv : Int64.ofNat (n : Nat) = v) (kk : ec_W l D kA B X R Z M uc us (pc + 1) L (.long v :: st) h) : ec_W l D kA B X R Z M uc us pc L st h := by
  intro p e s m args below meth c H locs ls hx hb hr hml hown hts hlk hnm hK hX hB hP hS hl
  exact lv_lconst hx hb hd hv (kk p e s m args below meth c H locs ls hx hb hr hml hown hts hlk hnm hK hX hB hP hS hl)
theorem e_ldc {i : Nat} {v : Int32} (hd : decode M.2.1 pc = .ok (.ldc i, 2)) (hw : Jvm.Cond.constant M.1.cls i v ∈ ec_tb) (kk : ec_W l D kA B X R Z M uc us (pc + 2) L (.int v :: st) h) : ec_W l D kA B X R Z M uc us pc L st h := by
  intro p e s m args below meth c H locs ls hx hb hr hml hown hts hlk hnm hK hX hB hP hS hl
  exact lv_ldc hx hb hown (hts _ hw) hd (kk p e s m args below meth c H locs ls hx hb hr hml hown hts hlk hnm hK hX hB hP hS hl)
theorem e_null (hd : decode M.2.1 pc = .ok (.aconst_null, 1)) (kk : ec_W l D kA B X R Z M uc us (pc + 1) L (.null :: st) h) : ec_W l D kA B X R Z M uc us pc L st h := by
  intro p e s m args below meth c H locs ls hx hb hr hml hown hts hlk hnm hK hX hB hP hS hl
  exact lv_null hx hb hd (kk p e s m args below meth c H locs ls hx hb hr hml hown hts hlk hnm hK hX hB hP hS hl)
theorem e_iload_n {k : Fin 4} {i : Nat} {x : Int32} (hd : decode M.2.1 pc = .ok (.iload_n k, 1)) (hi : (k : Nat) = i) (hv : L[i]? = some (some (.int x))) (kk : ec_W l D kA B X R Z M uc us (pc + 1) L (.int x :: st) h) : ec_W l D kA B X R Z M uc us pc L st h := by
  intro p e s m args below meth c H locs ls hx hb hr hml hown hts hlk hnm hK hX hB hP hS hl
  exact lv_iload_n hx hb hd hi (ec_ld hl hv) (kk p e s m args below meth c H locs ls hx hb hr hml hown hts hlk hnm hK hX hB hP hS hl)
theorem e_iload {i : Nat} {x : Int32} (hd : decode M.2.1 pc = .ok (.iload i, 2)) (hv : L[i]? = some (some (.int x))) (kk : ec_W l D kA B X R Z M uc us (pc + 2) L (.int x :: st) h) : ec_W l D kA B X R Z M uc us pc L st h := by
  intro p e s m args below meth c H locs ls hx hb hr hml hown hts hlk hnm hK hX hB hP hS hl
  exact lv_iload hx hb hd (ec_ld hl hv) (kk p e s m args below meth c H locs ls hx hb hr hml hown hts hlk hnm hK hX hB hP hS hl)
theorem e_istore_n {k : Fin 4} {i : Nat} {x : Int32} (hd : decode M.2.1 pc = .ok (.istore_n k, 1)) (hi : (k : Nat) = i) (hn : i < M.2.2.1) (hc : ec_c1 L i = true) (kk : ec_W l D kA B X R Z M uc us (pc + 1) (L.set i (some (.int x))) st h) : ec_W l D kA B X R Z M uc us pc L (.int x :: st) h := by
  intro p e s m args below meth c H locs ls hx hb hr hml hown hts hlk hnm hK hX hB hP hS hl
  exact lv_istore_n hx hb hd hi hl hn rfl (fun ls' hl' => kk p e s m args below meth c H locs ls' hx hb hr hml hown hts hlk hnm hK hX hB hP hS (ec_st hl' hc))
theorem e_istore {i : Nat} {x : Int32} (hd : decode M.2.1 pc = .ok (.istore i, 2)) (hn : i < M.2.2.1) (hc : ec_c1 L i = true) (kk : ec_W l D kA B X R Z M uc us (pc + 2) (L.set i (some (.int x))) st h) : ec_W l D kA B X R Z M uc us pc L (.int x :: st) h := by
  intro p e s m args below meth c H locs ls hx hb hr hml hown hts hlk hnm hK hX hB hP hS hl
  exact lv_istore hx hb hd hl hn rfl (fun ls' hl' => kk p e s m args below meth c H locs ls' hx hb hr hml hown hts hlk hnm hK hX hB hP hS (ec_st hl' hc))
theorem e_aload_n {k : Fin 4} {i : Nat} {x : Nat} (hd : decode M.2.1 pc = .ok (.aload_n k, 1)) (hi : (k : Nat) = i) (hv : L[i]? = some (some (.ref x))) (kk : ec_W l D kA B X R Z M uc us (pc + 1) L (.ref x :: st) h) : ec_W l D kA B X R Z M uc us pc L st h := by
  intro p e s m args below meth c H locs ls hx hb hr hml hown hts hlk hnm hK hX hB hP hS hl
  exact lv_aload_n hx hb hd hi (ec_ld hl hv) (kk p e s m args below meth c H locs ls hx hb hr hml hown hts hlk hnm hK hX hB hP hS hl)
theorem e_aload {i : Nat} {x : Nat} (hd : decode M.2.1 pc = .ok (.aload i, 2)) (hv : L[i]? = some (some (.ref x))) (kk : ec_W l D kA B X R Z M uc us (pc + 2) L (.ref x :: st) h) : ec_W l D kA B X R Z M uc us pc L st h := by
  intro p e s m args below meth c H locs ls hx hb hr hml hown hts hlk hnm hK hX hB hP hS hl
  exact lv_aload hx hb hd (ec_ld hl hv) (kk p e s m args below meth c H locs ls hx hb hr hml hown hts hlk hnm hK hX hB hP hS hl)
theorem e_astore_n {k : Fin 4} {i : Nat} {x : Nat} (hd : decode M.2.1 pc = .ok (.astore_n k, 1)) (hi : (k : Nat) = i) (hn : i < M.2.2.1) (hc : ec_c1 L i = true) (kk : ec_W l D kA B X R Z M uc us (pc + 1) (L.set i (some (.ref x))) st h) : ec_W l D kA B X R Z M uc us pc L (.ref x :: st) h := by
  intro p e s m args below meth c H locs ls hx hb hr hml hown hts hlk hnm hK hX hB hP hS hl
  exact lv_astore_n hx hb hd hi hl hn rfl (fun ls' hl' => kk p e s m args below meth c H locs ls' hx hb hr hml hown hts hlk hnm hK hX hB hP hS (ec_st hl' hc))
theorem e_astore {i : Nat} {x : Nat} (hd : decode M.2.1 pc = .ok (.astore i, 2)) (hn : i < M.2.2.1) (hc : ec_c1 L i = true) (kk : ec_W l D kA B X R Z M uc us (pc + 2) (L.set i (some (.ref x))) st h) : ec_W l D kA B X R Z M uc us pc L (.ref x :: st) h := by
  intro p e s m args below meth c H locs ls hx hb hr hml hown hts hlk hnm hK hX hB hP hS hl
  exact lv_astore hx hb hd hl hn rfl (fun ls' hl' => kk p e s m args below meth c H locs ls' hx hb hr hml hown hts hlk hnm hK hX hB hP hS (ec_st hl' hc))
theorem e_iinc {i : Nat} {n : Int} {x v : Int32} (hd : decode M.2.1 pc = .ok (.iinc i n, 3)) (hv : L[i]? = some (some (.int x))) (hx0 : x + Int32.ofInt n = v) (hn : i < M.2.2.1) (hc : ec_c1 L i = true) (kk : ec_W l D kA B X R Z M uc us (pc + 3) (L.set i (some (.int v))) st h) : ec_W l D kA B X R Z M uc us pc L st h := by
  intro p e s m args below meth c H locs ls hx hb hr hml hown hts hlk hnm hK hX hB hP hS hl
  obtain ⟨k, hk⟩ := List.getElem?_of_mem (ec_lv_mem hv)
  exact lv_iinc hx hb hd hl hk hx0 hn rfl (fun ls' hl' => kk p e s m args below meth c H locs ls' hx hb hr hml hown hts hlk hnm hK hX hB hP hS (ec_st hl' hc))
theorem e_iadd {x y : Int32} (hd : decode M.2.1 pc = .ok (.iadd, 1)) (kk : ec_W l D kA B X R Z M uc us (pc + 1) L (.int (x + y) :: st) h) : ec_W l D kA B X R Z M uc us pc L (.int y :: .int x :: st) h := by
  intro p e s m args below meth c H locs ls hx hb hr hml hown hts hlk hnm hK hX hB hP hS hl
  exact lv_iadd hx hb hd (kk p e s m args below meth c H locs ls hx hb hr hml hown hts hlk hnm hK hX hB hP hS hl)
theorem e_isub {x y : Int32} (hd : decode M.2.1 pc = .ok (.isub, 1)) (kk : ec_W l D kA B X R Z M uc us (pc + 1) L (.int (x - y) :: st) h) : ec_W l D kA B X R Z M uc us pc L (.int y :: .int x :: st) h := by
  intro p e s m args below meth c H locs ls hx hb hr hml hown hts hlk hnm hK hX hB hP hS hl
  exact lv_isub hx hb hd (kk p e s m args below meth c H locs ls hx hb hr hml hown hts hlk hnm hK hX hB hP hS hl)
theorem e_imul {x y : Int32} (hd : decode M.2.1 pc = .ok (.imul, 1)) (kk : ec_W l D kA B X R Z M uc us (pc + 1) L (.int (x * y) :: st) h) : ec_W l D kA B X R Z M uc us pc L (.int y :: .int x :: st) h := by
  intro p e s m args below meth c H locs ls hx hb hr hml hown hts hlk hnm hK hX hB hP hS hl
  exact lv_imul hx hb hd (kk p e s m args below meth c H locs ls hx hb hr hml hown hts hlk hnm hK hX hB hP hS hl)
theorem e_iand {x y : Int32} (hd : decode M.2.1 pc = .ok (.iand, 1)) (kk : ec_W l D kA B X R Z M uc us (pc + 1) L (.int (x &&& y) :: st) h) : ec_W l D kA B X R Z M uc us pc L (.int y :: .int x :: st) h := by
  intro p e s m args below meth c H locs ls hx hb hr hml hown hts hlk hnm hK hX hB hP hS hl
  exact lv_iand hx hb hd (kk p e s m args below meth c H locs ls hx hb hr hml hown hts hlk hnm hK hX hB hP hS hl)
theorem e_ior {x y : Int32} (hd : decode M.2.1 pc = .ok (.ior, 1)) (kk : ec_W l D kA B X R Z M uc us (pc + 1) L (.int (x ||| y) :: st) h) : ec_W l D kA B X R Z M uc us pc L (.int y :: .int x :: st) h := by
  intro p e s m args below meth c H locs ls hx hb hr hml hown hts hlk hnm hK hX hB hP hS hl
  exact lv_ior hx hb hd (kk p e s m args below meth c H locs ls hx hb hr hml hown hts hlk hnm hK hX hB hP hS hl)
theorem e_ixor {x y : Int32} (hd : decode M.2.1 pc = .ok (.ixor, 1)) (kk : ec_W l D kA B X R Z M uc us (pc + 1) L (.int (x ^^^ y) :: st) h) : ec_W l D kA B X R Z M uc us pc L (.int y :: .int x :: st) h := by
  intro p e s m args below meth c H locs ls hx hb hr hml hown hts hlk hnm hK hX hB hP hS hl
  exact lv_ixor hx hb hd (kk p e s m args below meth c H locs ls hx hb hr hml hown hts hlk hnm hK hX hB hP hS hl)
theorem e_idiv {x y : Int32} (hd : decode M.2.1 pc = .ok (.idiv, 1)) (hne : ¬ y = 0) (kk : ec_W l D kA B X R Z M uc us (pc + 1) L (.int (x / y) :: st) h) : ec_W l D kA B X R Z M uc us pc L (.int y :: .int x :: st) h := by
  intro p e s m args below meth c H locs ls hx hb hr hml hown hts hlk hnm hK hX hB hP hS hl
  exact lv_idiv hx hb hd hne (kk p e s m args below meth c H locs ls hx hb hr hml hown hts hlk hnm hK hX hB hP hS hl)
theorem e_irem {x y : Int32} (hd : decode M.2.1 pc = .ok (.irem, 1)) (hne : ¬ y = 0) (kk : ec_W l D kA B X R Z M uc us (pc + 1) L (.int (x - x / y * y) :: st) h) : ec_W l D kA B X R Z M uc us pc L (.int y :: .int x :: st) h := by
  intro p e s m args below meth c H locs ls hx hb hr hml hown hts hlk hnm hK hX hB hP hS hl
  exact lv_irem hx hb hd hne (kk p e s m args below meth c H locs ls hx hb hr hml hown hts hlk hnm hK hX hB hP hS hl)
theorem e_ineg {x : Int32} (hd : decode M.2.1 pc = .ok (.ineg, 1)) (kk : ec_W l D kA B X R Z M uc us (pc + 1) L (.int (-x) :: st) h) : ec_W l D kA B X R Z M uc us pc L (.int x :: st) h := by
  intro p e s m args below meth c H locs ls hx hb hr hml hown hts hlk hnm hK hX hB hP hS hl
  exact lv_ineg hx hb hd (kk p e s m args below meth c H locs ls hx hb hr hml hown hts hlk hnm hK hX hB hP hS hl)
theorem e_i2l {x : Int32} {v : Int64} (hd : decode M.2.1 pc = .ok (.i2l, 1)) (hv : x.toInt64 = v) (kk : ec_W l D kA B X R Z M uc us (pc + 1) L (.long v :: st) h) : ec_W l D kA B X R Z M uc us pc L (.int x :: st) h := by
  intro p e s m args below meth c H locs ls hx hb hr hml hown hts hlk hnm hK hX hB hP hS hl
  exact lv_i2l hx hb hd hv (kk p e s m args below meth c H locs ls hx hb hr hml hown hts hlk hnm hK hX hB hP hS hl)
theorem e_l2i {x : Int64} {v : Int32} (hd : decode M.2.1 pc = .ok (.l2i, 1)) (hv : x.toInt32 = v) (kk : ec_W l D kA B X R Z M uc us (pc + 1) L (.int v :: st) h) : ec_W l D kA B X R Z M uc us pc L (.long x :: st) h := by
  intro p e s m args below meth c H locs ls hx hb hr hml hown hts hlk hnm hK hX hB hP hS hl
  exact lv_l2i hx hb hd hv (kk p e s m args below meth c H locs ls hx hb hr hml hown hts hlk hnm hK hX hB hP hS hl)
theorem e_lcmp {x y : Int64} (hd : decode M.2.1 pc = .ok (.lcmp, 1)) (kk : ec_W l D kA B X R Z M uc us (pc + 1) L (.int (lg_cmp x y) :: st) h) : ec_W l D kA B X R Z M uc us pc L (.long y :: .long x :: st) h := by
  intro p e s m args below meth c H locs ls hx hb hr hml hown hts hlk hnm hK hX hB hP hS hl
  exact W.lcmp hx hb hd (kk p e s m args below meth c H locs ls hx hb hr hml hown hts hlk hnm hK hX hB hP hS hl)
theorem e_dup {v : Value} (hd : decode M.2.1 pc = .ok (.dup, 1)) (hv : v.category = 1) (kk : ec_W l D kA B X R Z M uc us (pc + 1) L (v :: v :: st) h) : ec_W l D kA B X R Z M uc us pc L (v :: st) h := by
  intro p e s m args below meth c H locs ls hx hb hr hml hown hts hlk hnm hK hX hB hP hS hl
  exact lv_dup hx hb hd hv (kk p e s m args below meth c H locs ls hx hb hr hml hown hts hlk hnm hK hX hB hP hS hl)
theorem e_pop {v : Value} (hd : decode M.2.1 pc = .ok (.pop, 1)) (hv : v.category = 1) (kk : ec_W l D kA B X R Z M uc us (pc + 1) L st h) : ec_W l D kA B X R Z M uc us pc L (v :: st) h := by
  intro p e s m args below meth c H locs ls hx hb hr hml hown hts hlk hnm hK hX hB hP hS hl
  exact lv_pop hx hb hd hv (kk p e s m args below meth c H locs ls hx hb hr hml hown hts hlk hnm hK hX hB hP hS hl)
theorem e_dup_x1 {v w : Value} (hd : decode M.2.1 pc = .ok (.dup_x1, 1)) (hv : v.category = 1) (hw : w.category = 1) (kk : ec_W l D kA B X R Z M uc us (pc + 1) L (v :: w :: v :: st) h) : ec_W l D kA B X R Z M uc us pc L (v :: w :: st) h := by
  intro p e s m args below meth c H locs ls hx hb hr hml hown hts hlk hnm hK hX hB hP hS hl
  exact lv_dup_x1 hx hb hd hv hw (kk p e s m args below meth c H locs ls hx hb hr hml hown hts hlk hnm hK hX hB hP hS hl)
theorem e_dup_x2 {v w u : Value} (hd : decode M.2.1 pc = .ok (.dup_x2, 1)) (hv : v.category = 1) (hw : w.category = 1) (hu : u.category = 1) (kk : ec_W l D kA B X R Z M uc us (pc + 1) L (v :: w :: u :: v :: st) h) : ec_W l D kA B X R Z M uc us pc L (v :: w :: u :: st) h := by
  intro p e s m args below meth c H locs ls hx hb hr hml hown hts hlk hnm hK hX hB hP hS hl
  exact lv_dup_x2 hx hb hd hv hw hu (kk p e s m args below meth c H locs ls hx hb hr hml hown hts hlk hnm hK hX hB hP hS hl)
theorem e_dup2 {v w : Value} (hd : decode M.2.1 pc = .ok (.dup2, 1)) (hv : v.category = 1) (hw : w.category = 1) (kk : ec_W l D kA B X R Z M uc us (pc + 1) L (v :: w :: v :: w :: st) h) : ec_W l D kA B X R Z M uc us pc L (v :: w :: st) h := by
  intro p e s m args below meth c H locs ls hx hb hr hml hown hts hlk hnm hK hX hB hP hS hl
  exact lv_dup2_11 hx hb hd hv hw (kk p e s m args below meth c H locs ls hx hb hr hml hown hts hlk hnm hK hX hB hP hS hl)
theorem e_if_eq {x : Int32} {off : Int} (tgt : Nat) (hd : decode M.2.1 pc = .ok (.ifCond .eq off, 3)) (ht : (pc : Int) + off = (tgt : Int)) (kt : x = 0 → ec_W l D kA B X R Z M uc us tgt L st h) (kf : ¬ x = 0 → ec_W l D kA B X R Z M uc us (pc + 3) L st h) : ec_W l D kA B X R Z M uc us pc L (.int x :: st) h := by
  intro p e s m args below meth c H locs ls hx hb hr hml hown hts hlk hnm hK hX hB hP hS hl
  exact lv_if_eq hx hb hd ht (fun hc => kt hc p e s m args below meth c H locs ls hx hb hr hml hown hts hlk hnm hK hX hB hP hS hl) (fun hc => kf hc p e s m args below meth c H locs ls hx hb hr hml hown hts hlk hnm hK hX hB hP hS hl)
theorem e_icmp_eq {x y : Int32} {off : Int} (tgt : Nat) (hd : decode M.2.1 pc = .ok (.if_icmp .eq off, 3)) (ht : (pc : Int) + off = (tgt : Int)) (kt : x = y → ec_W l D kA B X R Z M uc us tgt L st h) (kf : ¬ x = y → ec_W l D kA B X R Z M uc us (pc + 3) L st h) : ec_W l D kA B X R Z M uc us pc L (.int y :: .int x :: st) h := by
  intro p e s m args below meth c H locs ls hx hb hr hml hown hts hlk hnm hK hX hB hP hS hl
  exact lv_icmp_eq hx hb hd ht (fun hc => kt hc p e s m args below meth c H locs ls hx hb hr hml hown hts hlk hnm hK hX hB hP hS hl) (fun hc => kf hc p e s m args below meth c H locs ls hx hb hr hml hown hts hlk hnm hK hX hB hP hS hl)
theorem e_if_ne {x : Int32} {off : Int} (tgt : Nat) (hd : decode M.2.1 pc = .ok (.ifCond .ne off, 3)) (ht : (pc : Int) + off = (tgt : Int)) (kt : ¬ x = 0 → ec_W l D kA B X R Z M uc us tgt L st h) (kf : x = 0 → ec_W l D kA B X R Z M uc us (pc + 3) L st h) : ec_W l D kA B X R Z M uc us pc L (.int x :: st) h := by
  intro p e s m args below meth c H locs ls hx hb hr hml hown hts hlk hnm hK hX hB hP hS hl
  exact lv_if_ne hx hb hd ht (fun hc => kt hc p e s m args below meth c H locs ls hx hb hr hml hown hts hlk hnm hK hX hB hP hS hl) (fun hc => kf hc p e s m args below meth c H locs ls hx hb hr hml hown hts hlk hnm hK hX hB hP hS hl)
theorem e_icmp_ne {x y : Int32} {off : Int} (tgt : Nat) (hd : decode M.2.1 pc = .ok (.if_icmp .ne off, 3)) (ht : (pc : Int) + off = (tgt : Int)) (kt : ¬ x = y → ec_W l D kA B X R Z M uc us tgt L st h) (kf : x = y → ec_W l D kA B X R Z M uc us (pc + 3) L st h) : ec_W l D kA B X R Z M uc us pc L (.int y :: .int x :: st) h := by
  intro p e s m args below meth c H locs ls hx hb hr hml hown hts hlk hnm hK hX hB hP hS hl
  exact lv_icmp_ne hx hb hd ht (fun hc => kt hc p e s m args below meth c H locs ls hx hb hr hml hown hts hlk hnm hK hX hB hP hS hl) (fun hc => kf hc p e s m args below meth c H locs ls hx hb hr hml hown hts hlk hnm hK hX hB hP hS hl)
theorem e_if_lt {x : Int32} {off : Int} (tgt : Nat) (hd : decode M.2.1 pc = .ok (.ifCond .lt off, 3)) (ht : (pc : Int) + off = (tgt : Int)) (kt : x < 0 → ec_W l D kA B X R Z M uc us tgt L st h) (kf : ¬ x < 0 → ec_W l D kA B X R Z M uc us (pc + 3) L st h) : ec_W l D kA B X R Z M uc us pc L (.int x :: st) h := by
  intro p e s m args below meth c H locs ls hx hb hr hml hown hts hlk hnm hK hX hB hP hS hl
  exact lv_if_lt hx hb hd ht (fun hc => kt hc p e s m args below meth c H locs ls hx hb hr hml hown hts hlk hnm hK hX hB hP hS hl) (fun hc => kf hc p e s m args below meth c H locs ls hx hb hr hml hown hts hlk hnm hK hX hB hP hS hl)
theorem e_icmp_lt {x y : Int32} {off : Int} (tgt : Nat) (hd : decode M.2.1 pc = .ok (.if_icmp .lt off, 3)) (ht : (pc : Int) + off = (tgt : Int)) (kt : x < y → ec_W l D kA B X R Z M uc us tgt L st h) (kf : ¬ x < y → ec_W l D kA B X R Z M uc us (pc + 3) L st h) : ec_W l D kA B X R Z M uc us pc L (.int y :: .int x :: st) h := by
  intro p e s m args below meth c H locs ls hx hb hr hml hown hts hlk hnm hK hX hB hP hS hl
  exact lv_icmp_lt hx hb hd ht (fun hc => kt hc p e s m args below meth c H locs ls hx hb hr hml hown hts hlk hnm hK hX hB hP hS hl) (fun hc => kf hc p e s m args below meth c H locs ls hx hb hr hml hown hts hlk hnm hK hX hB hP hS hl)
theorem e_if_ge {x : Int32} {off : Int} (tgt : Nat) (hd : decode M.2.1 pc = .ok (.ifCond .ge off, 3)) (ht : (pc : Int) + off = (tgt : Int)) (kt : 0 ≤ x → ec_W l D kA B X R Z M uc us tgt L st h) (kf : ¬ 0 ≤ x → ec_W l D kA B X R Z M uc us (pc + 3) L st h) : ec_W l D kA B X R Z M uc us pc L (.int x :: st) h := by
  intro p e s m args below meth c H locs ls hx hb hr hml hown hts hlk hnm hK hX hB hP hS hl
  exact lv_if_ge hx hb hd ht (fun hc => kt hc p e s m args below meth c H locs ls hx hb hr hml hown hts hlk hnm hK hX hB hP hS hl) (fun hc => kf hc p e s m args below meth c H locs ls hx hb hr hml hown hts hlk hnm hK hX hB hP hS hl)
theorem e_icmp_ge {x y : Int32} {off : Int} (tgt : Nat) (hd : decode M.2.1 pc = .ok (.if_icmp .ge off, 3)) (ht : (pc : Int) + off = (tgt : Int)) (kt : y ≤ x → ec_W l D kA B X R Z M uc us tgt L st h) (kf : ¬ y ≤ x → ec_W l D kA B X R Z M uc us (pc + 3) L st h) : ec_W l D kA B X R Z M uc us pc L (.int y :: .int x :: st) h := by
  intro p e s m args below meth c H locs ls hx hb hr hml hown hts hlk hnm hK hX hB hP hS hl
  exact lv_icmp_ge hx hb hd ht (fun hc => kt hc p e s m args below meth c H locs ls hx hb hr hml hown hts hlk hnm hK hX hB hP hS hl) (fun hc => kf hc p e s m args below meth c H locs ls hx hb hr hml hown hts hlk hnm hK hX hB hP hS hl)
theorem e_if_gt {x : Int32} {off : Int} (tgt : Nat) (hd : decode M.2.1 pc = .ok (.ifCond .gt off, 3)) (ht : (pc : Int) + off = (tgt : Int)) (kt : 0 < x → ec_W l D kA B X R Z M uc us tgt L st h) (kf : ¬ 0 < x → ec_W l D kA B X R Z M uc us (pc + 3) L st h) : ec_W l D kA B X R Z M uc us pc L (.int x :: st) h := by
  intro p e s m args below meth c H locs ls hx hb hr hml hown hts hlk hnm hK hX hB hP hS hl
  exact lv_if_gt hx hb hd ht (fun hc => kt hc p e s m args below meth c H locs ls hx hb hr hml hown hts hlk hnm hK hX hB hP hS hl) (fun hc => kf hc p e s m args below meth c H locs ls hx hb hr hml hown hts hlk hnm hK hX hB hP hS hl)
theorem e_icmp_gt {x y : Int32} {off : Int} (tgt : Nat) (hd : decode M.2.1 pc = .ok (.if_icmp .gt off, 3)) (ht : (pc : Int) + off = (tgt : Int)) (kt : y < x → ec_W l D kA B X R Z M uc us tgt L st h) (kf : ¬ y < x → ec_W l D kA B X R Z M uc us (pc + 3) L st h) : ec_W l D kA B X R Z M uc us pc L (.int y :: .int x :: st) h := by
  intro p e s m args below meth c H locs ls hx hb hr hml hown hts hlk hnm hK hX hB hP hS hl
  exact lv_icmp_gt hx hb hd ht (fun hc => kt hc p e s m args below meth c H locs ls hx hb hr hml hown hts hlk hnm hK hX hB hP hS hl) (fun hc => kf hc p e s m args below meth c H locs ls hx hb hr hml hown hts hlk hnm hK hX hB hP hS hl)
theorem e_if_le {x : Int32} {off : Int} (tgt : Nat) (hd : decode M.2.1 pc = .ok (.ifCond .le off, 3)) (ht : (pc : Int) + off = (tgt : Int)) (kt : x ≤ 0 → ec_W l D kA B X R Z M uc us tgt L st h) (kf : ¬ x ≤ 0 → ec_W l D kA B X R Z M uc us (pc + 3) L st h) : ec_W l D kA B X R Z M uc us pc L (.int x :: st) h := by
  intro p e s m args below meth c H locs ls hx hb hr hml hown hts hlk hnm hK hX hB hP hS hl
  exact lv_if_le hx hb hd ht (fun hc => kt hc p e s m args below meth c H locs ls hx hb hr hml hown hts hlk hnm hK hX hB hP hS hl) (fun hc => kf hc p e s m args below meth c H locs ls hx hb hr hml hown hts hlk hnm hK hX hB hP hS hl)
theorem e_icmp_le {x y : Int32} {off : Int} (tgt : Nat) (hd : decode M.2.1 pc = .ok (.if_icmp .le off, 3)) (ht : (pc : Int) + off = (tgt : Int)) (kt : x ≤ y → ec_W l D kA B X R Z M uc us tgt L st h) (kf : ¬ x ≤ y → ec_W l D kA B X R Z M uc us (pc + 3) L st h) : ec_W l D kA B X R Z M uc us pc L (.int y :: .int x :: st) h := by
  intro p e s m args below meth c H locs ls hx hb hr hml hown hts hlk hnm hK hX hB hP hS hl
  exact lv_icmp_le hx hb hd ht (fun hc => kt hc p e s m args below meth c H locs ls hx hb hr hml hown hts hlk hnm hK hX hB hP hS hl) (fun hc => kf hc p e s m args below meth c H locs ls hx hb hr hml hown hts hlk hnm hK hX hB hP hS hl)
theorem e_goto {off : Int} (tgt : Nat) (hd : decode M.2.1 pc = .ok (.goto off, 3)) (ht : (pc : Int) + off = (tgt : Int)) (kk : ec_W l D kA B X R Z M uc us tgt L st h) : ec_W l D kA B X R Z M uc us pc L st h := by
  intro p e s m args below meth c H locs ls hx hb hr hml hown hts hlk hnm hK hX hB hP hS hl
  exact lv_goto hx hb hd ht (kk p e s m args below meth c H locs ls hx hb hr hml hown hts hlk hnm hK hX hB hP hS hl)
theorem e_tblOut {dflt lo hi : Int} {offs : Array Int} {len : Nat} {x : Int32} (tgt : Nat) (hd : decode M.2.1 pc = .ok (.tableswitch dflt lo hi offs, len)) (h0 : x.toInt < lo ∨ hi < x.toInt) (ht : (pc : Int) + dflt = (tgt : Int)) (kk : ec_W l D kA B X R Z M uc us tgt L st h) : ec_W l D kA B X R Z M uc us pc L (.int x :: st) h := by
  intro p e s m args below meth c H locs ls hx hb hr hml hown hts hlk hnm hK hX hB hP hS hl
  exact lv_tableOut hx hb hd h0 ht (kk p e s m args below meth c H locs ls hx hb hr hml hown hts hlk hnm hK hX hB hP hS hl)
theorem e_tblIn {dflt lo hi : Int} {offs : Array Int} {len : Nat} {x : Int32} {off : Int} (tgt : Nat) (hd : decode M.2.1 pc = .ok (.tableswitch dflt lo hi offs, len)) (h1 : ¬ x.toInt < lo) (h2 : ¬ hi < x.toInt) (ho : offs[(x.toInt - lo).toNat]? = some off) (ht : (pc : Int) + off = (tgt : Int)) (kk : ec_W l D kA B X R Z M uc us tgt L st h) : ec_W l D kA B X R Z M uc us pc L (.int x :: st) h := by
  intro p e s m args below meth c H locs ls hx hb hr hml hown hts hlk hnm hK hX hB hP hS hl
  exact lv_tableIn hx hb hd h1 h2 ho ht (kk p e s m args below meth c H locs ls hx hb hr hml hown hts hlk hnm hK hX hB hP hS hl)
theorem e_lookup {dflt : Int} {ps : Array (Int × Int)} {len : Nat} {x : Int32} {off : Int} (tgt : Nat) (hd : decode M.2.1 pc = .ok (.lookupswitch dflt ps, len)) (hp : (ps.toList.zip (ps.toList.drop 1)).all (fun (a, next) => a.1 < next.1) = true) (ho : Op.lookupswitch.offset ps.toList dflt x.toInt = off) (ht : (pc : Int) + off = (tgt : Int)) (kk : ec_W l D kA B X R Z M uc us tgt L st h) : ec_W l D kA B X R Z M uc us pc L (.int x :: st) h := by
  intro p e s m args below meth c H locs ls hx hb hr hml hown hts hlk hnm hK hX hB hP hS hl
  exact lv_lookup hx hb hd hp ho ht (kk p e s m args below meth c H locs ls hx hb hr hml hown hts hlk hnm hK hX hB hP hS hl)
end ECR
