section AW
variable {Y : ab_Y} {X : ab_X} {l : Launch} {Q : Option Value → Nat → ab_H → Prop} {pc : Nat} {L : List (Option Value)} {st : List Value} {m : Nat} {h : ab_H} {us : Nat × Nat}
theorem ab_v_cat (G : ab_G) (v : Value) : (ab_v G v).category = v.category := by cases v <;> rfl
theorem aw_iadd {x y : Int32} {nx : Nat} (hd0 : ab_dc Y pc (.iadd) 1 nx)  (k : ab_W Y X l Q nx L (.int (x + y) :: st) m h us) : ab_W Y X l Q pc L (.int y :: .int x :: st) m h us := by
  obtain ⟨hd, rfl⟩ := hd0
  exact fun G p e s mi args below meth c H locs ls Z C hL hP hS h1 h2 hF => lv_iadd C.1 C.2.1 hd  (k G p e s mi args below meth c H locs ls Z C hL hP hS h1 h2 hF)
theorem aw_isub {x y : Int32} {nx : Nat} (hd0 : ab_dc Y pc (.isub) 1 nx)  (k : ab_W Y X l Q nx L (.int (x - y) :: st) m h us) : ab_W Y X l Q pc L (.int y :: .int x :: st) m h us := by
  obtain ⟨hd, rfl⟩ := hd0
  exact fun G p e s mi args below meth c H locs ls Z C hL hP hS h1 h2 hF => lv_isub C.1 C.2.1 hd  (k G p e s mi args below meth c H locs ls Z C hL hP hS h1 h2 hF)
theorem aw_imul {x y : Int32} {nx : Nat} (hd0 : ab_dc Y pc (.imul) 1 nx)  (k : ab_W Y X l Q nx L (.int (x * y) :: st) m h us) : ab_W Y X l Q pc L (.int y :: .int x :: st) m h us := by
  obtain ⟨hd, rfl⟩ := hd0
  exact fun G p e s mi args below meth c H locs ls Z C hL hP hS h1 h2 hF => lv_imul C.1 C.2.1 hd  (k G p e s mi args below meth c H locs ls Z C hL hP hS h1 h2 hF)
theorem aw_iand {x y : Int32} {nx : Nat} (hd0 : ab_dc Y pc (.iand) 1 nx)  (k : ab_W Y X l Q nx L (.int (x &&& y) :: st) m h us) : ab_W Y X l Q pc L (.int y :: .int x :: st) m h us := by
  obtain ⟨hd, rfl⟩ := hd0
  exact fun G p e s mi args below meth c H locs ls Z C hL hP hS h1 h2 hF => lv_iand C.1 C.2.1 hd  (k G p e s mi args below meth c H locs ls Z C hL hP hS h1 h2 hF)
theorem aw_ior {x y : Int32} {nx : Nat} (hd0 : ab_dc Y pc (.ior) 1 nx)  (k : ab_W Y X l Q nx L (.int (x ||| y) :: st) m h us) : ab_W Y X l Q pc L (.int y :: .int x :: st) m h us := by
  obtain ⟨hd, rfl⟩ := hd0
  exact fun G p e s mi args below meth c H locs ls Z C hL hP hS h1 h2 hF => lv_ior C.1 C.2.1 hd  (k G p e s mi args below meth c H locs ls Z C hL hP hS h1 h2 hF)
theorem aw_ixor {x y : Int32} {nx : Nat} (hd0 : ab_dc Y pc (.ixor) 1 nx)  (k : ab_W Y X l Q nx L (.int (x ^^^ y) :: st) m h us) : ab_W Y X l Q pc L (.int y :: .int x :: st) m h us := by
  obtain ⟨hd, rfl⟩ := hd0
  exact fun G p e s mi args below meth c H locs ls Z C hL hP hS h1 h2 hF => lv_ixor C.1 C.2.1 hd  (k G p e s mi args below meth c H locs ls Z C hL hP hS h1 h2 hF)
theorem aw_ishl {x y : Int32} {nx : Nat} (hd0 : ab_dc Y pc (.ishl) 1 nx)  (k : ab_W Y X l Q nx L (.int (x <<< (y &&& 31)) :: st) m h us) : ab_W Y X l Q pc L (.int y :: .int x :: st) m h us := by
  obtain ⟨hd, rfl⟩ := hd0
  exact fun G p e s mi args below meth c H locs ls Z C hL hP hS h1 h2 hF => lv_ishl C.1 C.2.1 hd  (k G p e s mi args below meth c H locs ls Z C hL hP hS h1 h2 hF)
theorem aw_ishr {x y : Int32} {nx : Nat} (hd0 : ab_dc Y pc (.ishr) 1 nx)  (k : ab_W Y X l Q nx L (.int (x >>> (y &&& 31)) :: st) m h us) : ab_W Y X l Q pc L (.int y :: .int x :: st) m h us := by
  obtain ⟨hd, rfl⟩ := hd0
  exact fun G p e s mi args below meth c H locs ls Z C hL hP hS h1 h2 hF => lv_ishr C.1 C.2.1 hd  (k G p e s mi args below meth c H locs ls Z C hL hP hS h1 h2 hF)
theorem aw_idiv {x y : Int32} {nx : Nat} (hd0 : ab_dc Y pc (.idiv) 1 nx) (hne : ¬ y = 0) (k : ab_W Y X l Q nx L (.int (x / y) :: st) m h us) : ab_W Y X l Q pc L (.int y :: .int x :: st) m h us := by
  obtain ⟨hd, rfl⟩ := hd0
  exact fun G p e s mi args below meth c H locs ls Z C hL hP hS h1 h2 hF => lv_idiv C.1 C.2.1 hd hne (k G p e s mi args below meth c H locs ls Z C hL hP hS h1 h2 hF)
theorem aw_irem {x y : Int32} {nx : Nat} (hd0 : ab_dc Y pc (.irem) 1 nx) (hne : ¬ y = 0) (k : ab_W Y X l Q nx L (.int (x - x / y * y) :: st) m h us) : ab_W Y X l Q pc L (.int y :: .int x :: st) m h us := by
  obtain ⟨hd, rfl⟩ := hd0
  exact fun G p e s mi args below meth c H locs ls Z C hL hP hS h1 h2 hF => lv_irem C.1 C.2.1 hd hne (k G p e s mi args below meth c H locs ls Z C hL hP hS h1 h2 hF)
theorem aw_ineg {x : Int32} {nx : Nat} (hd0 : ab_dc Y pc (.ineg) 1 nx)  (k : ab_W Y X l Q nx L (.int (-x) :: st) m h us) : ab_W Y X l Q pc L (.int x :: st) m h us := by
  obtain ⟨hd, rfl⟩ := hd0
  exact fun G p e s mi args below meth c H locs ls Z C hL hP hS h1 h2 hF => lv_ineg C.1 C.2.1 hd  (k G p e s mi args below meth c H locs ls Z C hL hP hS h1 h2 hF)
theorem aw_iushr {x y : Int32} {nx : Nat} (hd0 : ab_dc Y pc (.iushr) 1 nx)  (k : ab_W Y X l Q nx L (.int (x.toUInt32 >>> (y.toUInt32 &&& Int32.toUInt32 31)).toInt32 :: st) m h us) : ab_W Y X l Q pc L (.int y :: .int x :: st) m h us := by
  obtain ⟨hd, rfl⟩ := hd0
  exact fun G p e s mi args below meth c H locs ls Z C hL hP hS h1 h2 hF => lv_iushr C.1 C.2.1 hd rfl (k G p e s mi args below meth c H locs ls Z C hL hP hS h1 h2 hF)
theorem aw_ladd {x y : Int64} {nx : Nat} (hd0 : ab_dc Y pc (.ladd) 1 nx)  (k : ab_W Y X l Q nx L (.long (x + y) :: st) m h us) : ab_W Y X l Q pc L (.long y :: .long x :: st) m h us := by
  obtain ⟨hd, rfl⟩ := hd0
  exact fun G p e s mi args below meth c H locs ls Z C hL hP hS h1 h2 hF => lv_ladd C.1 C.2.1 hd  (k G p e s mi args below meth c H locs ls Z C hL hP hS h1 h2 hF)
theorem aw_land {x y : Int64} {nx : Nat} (hd0 : ab_dc Y pc (.land) 1 nx)  (k : ab_W Y X l Q nx L (.long (x &&& y) :: st) m h us) : ab_W Y X l Q pc L (.long y :: .long x :: st) m h us := by
  obtain ⟨hd, rfl⟩ := hd0
  exact fun G p e s mi args below meth c H locs ls Z C hL hP hS h1 h2 hF => lv_land C.1 C.2.1 hd  (k G p e s mi args below meth c H locs ls Z C hL hP hS h1 h2 hF)
theorem aw_lor {x y : Int64} {nx : Nat} (hd0 : ab_dc Y pc (.lor) 1 nx)  (k : ab_W Y X l Q nx L (.long (x ||| y) :: st) m h us) : ab_W Y X l Q pc L (.long y :: .long x :: st) m h us := by
  obtain ⟨hd, rfl⟩ := hd0
  exact fun G p e s mi args below meth c H locs ls Z C hL hP hS h1 h2 hF => lv_lor C.1 C.2.1 hd  (k G p e s mi args below meth c H locs ls Z C hL hP hS h1 h2 hF)
theorem aw_lshl {x : Int64} {y : Int32} {nx : Nat} (hd0 : ab_dc Y pc (.lshl) 1 nx)  (k : ab_W Y X l Q nx L (.long (x <<< (y.toInt64 &&& 63)) :: st) m h us) : ab_W Y X l Q pc L (.int y :: .long x :: st) m h us := by
  obtain ⟨hd, rfl⟩ := hd0
  exact fun G p e s mi args below meth c H locs ls Z C hL hP hS h1 h2 hF => lv_lshl C.1 C.2.1 hd rfl (k G p e s mi args below meth c H locs ls Z C hL hP hS h1 h2 hF)
theorem aw_lshr {x : Int64} {y : Int32} {nx : Nat} (hd0 : ab_dc Y pc (.lshr) 1 nx)  (k : ab_W Y X l Q nx L (.long (x >>> (y.toInt64 &&& 63)) :: st) m h us) : ab_W Y X l Q pc L (.int y :: .long x :: st) m h us := by
  obtain ⟨hd, rfl⟩ := hd0
  exact fun G p e s mi args below meth c H locs ls Z C hL hP hS h1 h2 hF => lv_lshr C.1 C.2.1 hd rfl (k G p e s mi args below meth c H locs ls Z C hL hP hS h1 h2 hF)
theorem aw_lcmp {x y : Int64} {nx : Nat} (hd0 : ab_dc Y pc (.lcmp) 1 nx)  (k : ab_W Y X l Q nx L (.int (lg_cmp x y) :: st) m h us) : ab_W Y X l Q pc L (.long y :: .long x :: st) m h us := by
  obtain ⟨hd, rfl⟩ := hd0
  exact fun G p e s mi args below meth c H locs ls Z C hL hP hS h1 h2 hF => W.lcmp C.1 C.2.1 hd  (k G p e s mi args below meth c H locs ls Z C hL hP hS h1 h2 hF)
theorem aw_i2l {x : Int32} {nx : Nat} (hd0 : ab_dc Y pc (.i2l) 1 nx)  (k : ab_W Y X l Q nx L (.long x.toInt64 :: st) m h us) : ab_W Y X l Q pc L (.int x :: st) m h us := by
  obtain ⟨hd, rfl⟩ := hd0
  exact fun G p e s mi args below meth c H locs ls Z C hL hP hS h1 h2 hF => lv_i2l C.1 C.2.1 hd rfl (k G p e s mi args below meth c H locs ls Z C hL hP hS h1 h2 hF)
theorem aw_l2i {x : Int64} {nx : Nat} (hd0 : ab_dc Y pc (.l2i) 1 nx)  (k : ab_W Y X l Q nx L (.int x.toInt32 :: st) m h us) : ab_W Y X l Q pc L (.long x :: st) m h us := by
  obtain ⟨hd, rfl⟩ := hd0
  exact fun G p e s mi args below meth c H locs ls Z C hL hP hS h1 h2 hF => lv_l2i C.1 C.2.1 hd rfl (k G p e s mi args below meth c H locs ls Z C hL hP hS h1 h2 hF)
theorem aw_i2b {x : Int32} {nx : Nat} (hd0 : ab_dc Y pc (.i2b) 1 nx)  (k : ab_W Y X l Q nx L (.int x.toInt8.toInt32 :: st) m h us) : ab_W Y X l Q pc L (.int x :: st) m h us := by
  obtain ⟨hd, rfl⟩ := hd0
  exact fun G p e s mi args below meth c H locs ls Z C hL hP hS h1 h2 hF => lv_i2b C.1 C.2.1 hd rfl (k G p e s mi args below meth c H locs ls Z C hL hP hS h1 h2 hF)
theorem aw_i2s {x : Int32} {nx : Nat} (hd0 : ab_dc Y pc (.i2s) 1 nx)  (k : ab_W Y X l Q nx L (.int x.toInt16.toInt32 :: st) m h us) : ab_W Y X l Q pc L (.int x :: st) m h us := by
  obtain ⟨hd, rfl⟩ := hd0
  exact fun G p e s mi args below meth c H locs ls Z C hL hP hS h1 h2 hF => lv_i2s C.1 C.2.1 hd rfl (k G p e s mi args below meth c H locs ls Z C hL hP hS h1 h2 hF)
theorem aw_iconst {n : Int} {v : Int32} {nx : Nat} (hd0 : ab_dc Y pc (.iconst n) 1 nx) (hv : Int32.ofInt n = v) (k : ab_W Y X l Q nx L (.int v :: st) m h us) : ab_W Y X l Q pc L (st) m h us := by
  obtain ⟨hd, rfl⟩ := hd0
  exact fun G p e s mi args below meth c H locs ls Z C hL hP hS h1 h2 hF => lv_iconst C.1 C.2.1 hd hv (k G p e s mi args below meth c H locs ls Z C hL hP hS h1 h2 hF)
theorem aw_bipush {n : Int} {v : Int32} {nx : Nat} (hd0 : ab_dc Y pc (.bipush n) 2 nx) (hv : (Int8.ofInt n).toInt32 = v) (k : ab_W Y X l Q nx L (.int v :: st) m h us) : ab_W Y X l Q pc L (st) m h us := by
  obtain ⟨hd, rfl⟩ := hd0
  exact fun G p e s mi args below meth c H locs ls Z C hL hP hS h1 h2 hF => lv_bipush C.1 C.2.1 hd hv (k G p e s mi args below meth c H locs ls Z C hL hP hS h1 h2 hF)
theorem aw_sipush {n : Int} {v : Int32} {nx : Nat} (hd0 : ab_dc Y pc (.sipush n) 3 nx) (hv : (Int16.ofInt n).toInt32 = v) (k : ab_W Y X l Q nx L (.int v :: st) m h us) : ab_W Y X l Q pc L (st) m h us := by
  obtain ⟨hd, rfl⟩ := hd0
  exact fun G p e s mi args below meth c H locs ls Z C hL hP hS h1 h2 hF => lv_sipush C.1 C.2.1 hd hv (k G p e s mi args below meth c H locs ls Z C hL hP hS h1 h2 hF)
theorem aw_lconst {n : Fin 2} {v : Int64} {nx : Nat} (hd0 : ab_dc Y pc (.lconst n) 1 nx) (hv : Int64.ofNat (n : Nat) = v) (k : ab_W Y X l Q nx L (.long v :: st) m h us) : ab_W Y X l Q pc L (st) m h us := by
  obtain ⟨hd, rfl⟩ := hd0
  exact fun G p e s mi args below meth c H locs ls Z C hL hP hS h1 h2 hF => lv_lconst C.1 C.2.1 hd hv (k G p e s mi args below meth c H locs ls Z C hL hP hS h1 h2 hF)
theorem aw_dup {v : Value} {nx : Nat} (hd0 : ab_dc Y pc (.dup) 1 nx) (hv : v.category = 1) (k : ab_W Y X l Q nx L (v :: v :: st) m h us) : ab_W Y X l Q pc L (v :: st) m h us := by
  obtain ⟨hd, rfl⟩ := hd0
  exact fun G p e s mi args below meth c H locs ls Z C hL hP hS h1 h2 hF => lv_dup C.1 C.2.1 hd ((ab_v_cat G v).trans hv) (k G p e s mi args below meth c H locs ls Z C hL hP hS h1 h2 hF)
theorem aw_pop {v : Value} {nx : Nat} (hd0 : ab_dc Y pc (.pop) 1 nx) (hv : v.category = 1) (k : ab_W Y X l Q nx L (st) m h us) : ab_W Y X l Q pc L (v :: st) m h us := by
  obtain ⟨hd, rfl⟩ := hd0
  exact fun G p e s mi args below meth c H locs ls Z C hL hP hS h1 h2 hF => lv_pop C.1 C.2.1 hd ((ab_v_cat G v).trans hv) (k G p e s mi args below meth c H locs ls Z C hL hP hS h1 h2 hF)
theorem aw_dup2 {v w : Value} {nx : Nat} (hd0 : ab_dc Y pc (.dup2) 1 nx) (hv : v.category = 1) (hw : w.category = 1) (k : ab_W Y X l Q nx L (v :: w :: v :: w :: st) m h us) : ab_W Y X l Q pc L (v :: w :: st) m h us := by
  obtain ⟨hd, rfl⟩ := hd0
  exact fun G p e s mi args below meth c H locs ls Z C hL hP hS h1 h2 hF => lv_dup2_11 C.1 C.2.1 hd ((ab_v_cat G v).trans hv) ((ab_v_cat G w).trans hw) (k G p e s mi args below meth c H locs ls Z C hL hP hS h1 h2 hF)
theorem ab_word {Y : ab_Y} {X : ab_X} {G : ab_G} {p : Program} {s : State} {mi : MethodId} {args : Array Value} {meth : Method} {c : Code} (C : ab_Cx Y X G p s mi args meth c) {w : Cond} (hw : w ∈ lw_tbl ∧ goodWord w = true) : w.before args s = true := C.2.2.2.2.1 w (ab_gw_in hw)
theorem aw_ldc {i : Nat} {v : Int32} {nx : Nat} (hd0 : ab_dc Y pc (.ldc i) 2 nx) (hw : Cond.constant Y.1.cls i v ∈ lw_tbl ∧ goodWord (.constant Y.1.cls i v) = true) (k : ab_W Y X l Q nx L (.int v :: st) m h us) : ab_W Y X l Q pc L (st) m h us := by
  obtain ⟨hd, rfl⟩ := hd0
  exact fun G p e s mi args below meth c H locs ls Z C hL hP hS h1 h2 hF => (fun a b d => lv_ldc a b C.2.2.2.1 (ab_word C hw) d) C.1 C.2.1 hd  (k G p e s mi args below meth c H locs ls Z C hL hP hS h1 h2 hF)
theorem aw_ldc_w {i : Nat} {v : Int32} {nx : Nat} (hd0 : ab_dc Y pc (.ldc_w i) 3 nx) (hw : Cond.constant Y.1.cls i v ∈ lw_tbl ∧ goodWord (.constant Y.1.cls i v) = true) (k : ab_W Y X l Q nx L (.int v :: st) m h us) : ab_W Y X l Q pc L (st) m h us := by
  obtain ⟨hd, rfl⟩ := hd0
  exact fun G p e s mi args below meth c H locs ls Z C hL hP hS h1 h2 hF => (fun a b d => lv_ldcw a b C.2.2.2.1 (ab_word C hw) d) C.1 C.2.1 hd  (k G p e s mi args below meth c H locs ls Z C hL hP hS h1 h2 hF)
theorem aw_ldc2 {i : Nat} {v : Int64} {nx : Nat} (hd0 : ab_dc Y pc (.ldc2_w i) 3 nx) (hw : Cond.constantLong Y.1.cls i v ∈ lw_tbl ∧ goodWord (.constantLong Y.1.cls i v) = true) (k : ab_W Y X l Q nx L (.long v :: st) m h us) : ab_W Y X l Q pc L (st) m h us := by
  obtain ⟨hd, rfl⟩ := hd0
  exact fun G p e s mi args below meth c H locs ls Z C hL hP hS h1 h2 hF => (fun a b d => lv_ldc2 a b C.2.2.2.1 (ab_word C hw) d) C.1 C.2.1 hd  (k G p e s mi args below meth c H locs ls Z C hL hP hS h1 h2 hF)
theorem aw_iload {i : Nat} {x : Int32} {nx : Nat} (hd0 : ab_dc Y pc (.iload i) 2 nx) (hl : L[i]? = some (some (.int x))) (k : ab_W Y X l Q nx L (.int x :: st) m h us) : ab_W Y X l Q pc L st m h us := by
  obtain ⟨hd, rfl⟩ := hd0
  exact fun G p e s mi args below meth c H locs ls Z C hL hP hS h1 h2 hF => lv_iload C.1 C.2.1 hd (hL.2.2.2 _ _ hl) (k G p e s mi args below meth c H locs ls Z C hL hP hS h1 h2 hF)
theorem aw_iload_n {i : Fin 4} {x : Int32} {nx : Nat} (hd0 : ab_dc Y pc (.iload_n i) 1 nx) (hl : L[(i : Nat)]? = some (some (.int x))) (k : ab_W Y X l Q nx L (.int x :: st) m h us) : ab_W Y X l Q pc L st m h us := by
  obtain ⟨hd, rfl⟩ := hd0
  exact fun G p e s mi args below meth c H locs ls Z C hL hP hS h1 h2 hF => lv_iload_n C.1 C.2.1 hd rfl (hL.2.2.2 _ _ hl) (k G p e s mi args below meth c H locs ls Z C hL hP hS h1 h2 hF)
theorem aw_lload {i : Nat} {x : Int64} {nx : Nat} (hd0 : ab_dc Y pc (.lload i) 2 nx) (hl : L[i]? = some (some (.long x))) (k : ab_W Y X l Q nx L (.long x :: st) m h us) : ab_W Y X l Q pc L st m h us := by
  obtain ⟨hd, rfl⟩ := hd0
  exact fun G p e s mi args below meth c H locs ls Z C hL hP hS h1 h2 hF => lv_lload C.1 C.2.1 hd (hL.2.2.2 _ _ hl) (k G p e s mi args below meth c H locs ls Z C hL hP hS h1 h2 hF)
theorem aw_lload_n {i : Fin 4} {x : Int64} {nx : Nat} (hd0 : ab_dc Y pc (.lload_n i) 1 nx) (hl : L[(i : Nat)]? = some (some (.long x))) (k : ab_W Y X l Q nx L (.long x :: st) m h us) : ab_W Y X l Q pc L st m h us := by
  obtain ⟨hd, rfl⟩ := hd0
  exact fun G p e s mi args below meth c H locs ls Z C hL hP hS h1 h2 hF => lv_lload_n C.1 C.2.1 hd rfl (hL.2.2.2 _ _ hl) (k G p e s mi args below meth c H locs ls Z C hL hP hS h1 h2 hF)
theorem aw_aload {i : Nat} {x : Nat} {nx : Nat} (hd0 : ab_dc Y pc (.aload i) 2 nx) (hl : L[i]? = some (some (.ref x))) (k : ab_W Y X l Q nx L (.ref x :: st) m h us) : ab_W Y X l Q pc L st m h us := by
  obtain ⟨hd, rfl⟩ := hd0
  exact fun G p e s mi args below meth c H locs ls Z C hL hP hS h1 h2 hF => lv_aload C.1 C.2.1 hd (hL.2.2.2 _ _ hl) (k G p e s mi args below meth c H locs ls Z C hL hP hS h1 h2 hF)
theorem aw_aload_n {i : Fin 4} {x : Nat} {nx : Nat} (hd0 : ab_dc Y pc (.aload_n i) 1 nx) (hl : L[(i : Nat)]? = some (some (.ref x))) (k : ab_W Y X l Q nx L (.ref x :: st) m h us) : ab_W Y X l Q pc L st m h us := by
  obtain ⟨hd, rfl⟩ := hd0
  exact fun G p e s mi args below meth c H locs ls Z C hL hP hS h1 h2 hF => lv_aload_n C.1 C.2.1 hd rfl (hL.2.2.2 _ _ hl) (k G p e s mi args below meth c H locs ls Z C hL hP hS h1 h2 hF)
theorem aw_aload_nN {i : Fin 4} {nx : Nat} (hd0 : ab_dc Y pc (.aload_n i) 1 nx) (hl : L[(i : Nat)]? = some (some .null)) (k : ab_W Y X l Q nx L (.null :: st) m h us) : ab_W Y X l Q pc L st m h us := by
  obtain ⟨hd, rfl⟩ := hd0
  exact fun G p e s mi args below meth c H locs ls Z C hL hP hS h1 h2 hF => lv_aload_nN C.1 C.2.1 hd rfl (hL.2.2.2 _ _ hl) (k G p e s mi args below meth c H locs ls Z C hL hP hS h1 h2 hF)
def ab_as (G : ab_G) (L : List (Option Value)) : List (Nat × Value) := (List.range L.length).filterMap (fun i => match L[i]? with
  | some (some v) => some (i, ab_v G v)
  | _ => none)
theorem ab_as_mem {G : ab_G} {L : List (Option Value)} {q : Nat × Value} : q ∈ ab_as G L ↔ ∃ v, L[q.1]? = some (some v) ∧ q.2 = ab_v G v := by
  unfold ab_as
  rw [List.mem_filterMap]
  constructor
  · rintro ⟨i, -, hi⟩
    split at hi
    · next v hv =>
      cases hi
      exact ⟨v, hv, rfl⟩
    · cases hi
  · rintro ⟨v, h1, h2⟩
    obtain ⟨i, w⟩ := q
    dsimp only at h1 h2
    refine ⟨i, List.mem_range.mpr (List.getElem?_eq_some_iff.mp h1).1, ?_⟩
    rw [h1]
    simp [h2]
theorem ab_as_has {G : ab_G} {ls : Array Slot} {n : Nat} {L : List (Option Value)} (hL : ab_L G ls n L) : lv_has ls n (ab_as G L) := ⟨hL.1, hL.2.2.1, fun q hq => by
  obtain ⟨v, h1, h2⟩ := ab_as_mem.mp hq
  rw [h2]
  exact hL.2.2.2 _ _ h1⟩
/-- the place below is no long's -/
def ab_nl (L : List (Option Value)) (i : Nat) : Bool := match i with
  | 0 => true
  | j + 1 => match L[j]? with
    | some (some v) => v.category == 1
    | _ => true
theorem ab_stored {G : ab_G} {ls : Array Slot} {n i : Nat} {L L' : List (Option Value)} {v : Value} (hL : ab_L G ls n L) (hl : L.set i (some v) = L') (hn : ab_nl L i = true)
    {ls' : Array Slot} (h' : lv_has ls' n ((i, ab_v G v) :: (ab_as G L).filter (fun q => !(q.1 == i) && !(q.1 + 1 == i && q.2.category == 2)))) : ab_L G ls' n L' := by
  refine ⟨h'.1, by rw [← hl, List.length_set]; exact hL.2.1, h'.2.1, fun j w hj => ?_⟩
  rw [← hl] at hj
  by_cases e : j = i
  · subst e
    have hlt : j < L.length := by
      have := (List.getElem?_eq_some_iff.mp hj).1
      simpa using this
    rw [List.getElem?_set_self hlt] at hj
    cases hj
    exact h'.2.2 _ List.mem_cons_self
  · rw [List.getElem?_set_ne (Ne.symm e)] at hj
    refine h'.2.2 (j, ab_v G w) (List.mem_cons_of_mem _ (List.mem_filter.mpr ⟨ab_as_mem.mpr ⟨w, hj, rfl⟩, ?_⟩))
    simp only [Bool.and_eq_true, Bool.not_eq_true', beq_eq_false_iff_ne, ne_eq, Bool.and_eq_false_iff]
    refine ⟨e, ?_⟩
    by_cases e2 : j + 1 = i
    · right
      subst e2
      have hn : w.category = 1 := by simpa [ab_nl, hj] using hn
      rw [ab_v_cat]
      omega
    · left
      exact e2
theorem aw_istore {i : Nat} {x : Int32} {L' : List (Option Value)} {nx : Nat} (hd0 : ab_dc Y pc (.istore i) 2 nx) (hi : (i < Y.2.2.1 ∧ ab_nl L i = true)) (hl : L.set i (some (.int x)) = L') (k : ab_W Y X l Q nx L' st m h us) : ab_W Y X l Q pc L (.int x :: st) m h us := by
  obtain ⟨hd, rfl⟩ := hd0
  exact fun G p e s mi args below meth c H locs ls Z C hL hP hS h1 h2 hF => lv_istore C.1 C.2.1 hd (ab_as_has hL) hi.1 rfl (fun ls2 hl2 => k G p e s mi args below meth c H locs ls2 Z C (ab_stored (v := .int x) hL hl hi.2 hl2) hP hS h1 h2 hF)
theorem aw_istore_n {i : Fin 4} {x : Int32} {L' : List (Option Value)} {nx : Nat} (hd0 : ab_dc Y pc (.istore_n i) 1 nx) (hi : ((i : Nat) < Y.2.2.1 ∧ ab_nl L (i : Nat) = true)) (hl : L.set (i : Nat) (some (.int x)) = L') (k : ab_W Y X l Q nx L' st m h us) : ab_W Y X l Q pc L (.int x :: st) m h us := by
  obtain ⟨hd, rfl⟩ := hd0
  exact fun G p e s mi args below meth c H locs ls Z C hL hP hS h1 h2 hF => lv_istore_n C.1 C.2.1 hd rfl (ab_as_has hL) hi.1 rfl (fun ls2 hl2 => k G p e s mi args below meth c H locs ls2 Z C (ab_stored (v := .int x) hL hl hi.2 hl2) hP hS h1 h2 hF)
theorem aw_astore {i : Nat} {x : Nat} {L' : List (Option Value)} {nx : Nat} (hd0 : ab_dc Y pc (.astore i) 2 nx) (hi : (i < Y.2.2.1 ∧ ab_nl L i = true)) (hl : L.set i (some (.ref x)) = L') (k : ab_W Y X l Q nx L' st m h us) : ab_W Y X l Q pc L (.ref x :: st) m h us := by
  obtain ⟨hd, rfl⟩ := hd0
  exact fun G p e s mi args below meth c H locs ls Z C hL hP hS h1 h2 hF => lv_astore C.1 C.2.1 hd (ab_as_has hL) hi.1 rfl (fun ls2 hl2 => k G p e s mi args below meth c H locs ls2 Z C (ab_stored (v := .ref x) hL hl hi.2 hl2) hP hS h1 h2 hF)
theorem aw_astore_n {i : Fin 4} {x : Nat} {L' : List (Option Value)} {nx : Nat} (hd0 : ab_dc Y pc (.astore_n i) 1 nx) (hi : ((i : Nat) < Y.2.2.1 ∧ ab_nl L (i : Nat) = true)) (hl : L.set (i : Nat) (some (.ref x)) = L') (k : ab_W Y X l Q nx L' st m h us) : ab_W Y X l Q pc L (.ref x :: st) m h us := by
  obtain ⟨hd, rfl⟩ := hd0
  exact fun G p e s mi args below meth c H locs ls Z C hL hP hS h1 h2 hF => lv_astore_n C.1 C.2.1 hd rfl (ab_as_has hL) hi.1 rfl (fun ls2 hl2 => k G p e s mi args below meth c H locs ls2 Z C (ab_stored (v := .ref x) hL hl hi.2 hl2) hP hS h1 h2 hF)
theorem aw_astore_nN {i : Fin 4} {L' : List (Option Value)} {nx : Nat} (hd0 : ab_dc Y pc (.astore_n i) 1 nx) (hi : ((i : Nat) < Y.2.2.1 ∧ ab_nl L (i : Nat) = true)) (hl : L.set (i : Nat) (some .null) = L') (k : ab_W Y X l Q nx L' st m h us) : ab_W Y X l Q pc L (.null :: st) m h us := by
  obtain ⟨hd, rfl⟩ := hd0
  exact fun G p e s mi args below meth c H locs ls Z C hL hP hS h1 h2 hF => lv_astore_nN C.1 C.2.1 hd rfl (ab_as_has hL) hi.1 rfl (fun ls2 hl2 => k G p e s mi args below meth c H locs ls2 Z C (ab_stored (v := .null) hL hl hi.2 hl2) hP hS h1 h2 hF)
theorem aw_iinc {i : Nat} {n : Int} {x v : Int32} {L' : List (Option Value)} {nx : Nat} (hd0 : ab_dc Y pc (.iinc i n) 3 nx) (hx : L[i]? = some (some (.int x))) (hv : x + Int32.ofInt n = v) (hi : i < Y.2.2.1 ∧ ab_nl L i = true) (hl : L.set i (some (.int v)) = L') (k : ab_W Y X l Q nx L' st m h us) : ab_W Y X l Q pc L st m h us := by
  obtain ⟨hd, rfl⟩ := hd0
  intro G p e s mi args below meth c H locs ls Z C hL hP hS h1 h2 hF
  obtain ⟨j, hj⟩ := List.getElem?_of_mem ((ab_as_mem (G := G) (L := L) (q := (i, ab_v G (.int x)))).mpr ⟨_, hx, rfl⟩)
  exact lv_iinc C.1 C.2.1 hd (ab_as_has hL) (k := j) hj hv hi.1 rfl (fun ls2 hl2 => k G p e s mi args below meth c H locs ls2 Z C (ab_stored (v := .int v) hL hl hi.2 hl2) hP hS h1 h2 hF)
theorem aw_if_eq {x : Int32} {off : Int} {tgt : Nat} {nx : Nat} (hd0 : ab_dc Y pc (.ifCond .eq off) 3 nx) (ht : (pc : Int) + off = (tgt : Int)) (kt : x = 0 → ab_W Y X l Q tgt L st m h us) (kf : ¬ x = 0 → ab_W Y X l Q nx L st m h us) : ab_W Y X l Q pc L (.int x :: st) m h us := by
  obtain ⟨hd, rfl⟩ := hd0
  exact fun G p e s mi args below meth c H locs ls Z C hL hP hS h1 h2 hF => lv_if_eq C.1 C.2.1 hd ht (fun q => kt q G p e s mi args below meth c H locs ls Z C hL hP hS h1 h2 hF) (fun q => kf q G p e s mi args below meth c H locs ls Z C hL hP hS h1 h2 hF)
theorem aw_icmp_eq {x y : Int32} {off : Int} {tgt : Nat} {nx : Nat} (hd0 : ab_dc Y pc (.if_icmp .eq off) 3 nx) (ht : (pc : Int) + off = (tgt : Int)) (kt : x = y → ab_W Y X l Q tgt L st m h us) (kf : ¬ x = y → ab_W Y X l Q nx L st m h us) : ab_W Y X l Q pc L (.int y :: .int x :: st) m h us := by
  obtain ⟨hd, rfl⟩ := hd0
  exact fun G p e s mi args below meth c H locs ls Z C hL hP hS h1 h2 hF => lv_icmp_eq C.1 C.2.1 hd ht (fun q => kt q G p e s mi args below meth c H locs ls Z C hL hP hS h1 h2 hF) (fun q => kf q G p e s mi args below meth c H locs ls Z C hL hP hS h1 h2 hF)
theorem aw_if_ne {x : Int32} {off : Int} {tgt : Nat} {nx : Nat} (hd0 : ab_dc Y pc (.ifCond .ne off) 3 nx) (ht : (pc : Int) + off = (tgt : Int)) (kt : ¬ x = 0 → ab_W Y X l Q tgt L st m h us) (kf : x = 0 → ab_W Y X l Q nx L st m h us) : ab_W Y X l Q pc L (.int x :: st) m h us := by
  obtain ⟨hd, rfl⟩ := hd0
  exact fun G p e s mi args below meth c H locs ls Z C hL hP hS h1 h2 hF => lv_if_ne C.1 C.2.1 hd ht (fun q => kt q G p e s mi args below meth c H locs ls Z C hL hP hS h1 h2 hF) (fun q => kf q G p e s mi args below meth c H locs ls Z C hL hP hS h1 h2 hF)
theorem aw_icmp_ne {x y : Int32} {off : Int} {tgt : Nat} {nx : Nat} (hd0 : ab_dc Y pc (.if_icmp .ne off) 3 nx) (ht : (pc : Int) + off = (tgt : Int)) (kt : ¬ x = y → ab_W Y X l Q tgt L st m h us) (kf : x = y → ab_W Y X l Q nx L st m h us) : ab_W Y X l Q pc L (.int y :: .int x :: st) m h us := by
  obtain ⟨hd, rfl⟩ := hd0
  exact fun G p e s mi args below meth c H locs ls Z C hL hP hS h1 h2 hF => lv_icmp_ne C.1 C.2.1 hd ht (fun q => kt q G p e s mi args below meth c H locs ls Z C hL hP hS h1 h2 hF) (fun q => kf q G p e s mi args below meth c H locs ls Z C hL hP hS h1 h2 hF)
theorem aw_if_lt {x : Int32} {off : Int} {tgt : Nat} {nx : Nat} (hd0 : ab_dc Y pc (.ifCond .lt off) 3 nx) (ht : (pc : Int) + off = (tgt : Int)) (kt : x < 0 → ab_W Y X l Q tgt L st m h us) (kf : ¬ x < 0 → ab_W Y X l Q nx L st m h us) : ab_W Y X l Q pc L (.int x :: st) m h us := by
  obtain ⟨hd, rfl⟩ := hd0
  exact fun G p e s mi args below meth c H locs ls Z C hL hP hS h1 h2 hF => lv_if_lt C.1 C.2.1 hd ht (fun q => kt q G p e s mi args below meth c H locs ls Z C hL hP hS h1 h2 hF) (fun q => kf q G p e s mi args below meth c H locs ls Z C hL hP hS h1 h2 hF)
theorem aw_icmp_lt {x y : Int32} {off : Int} {tgt : Nat} {nx : Nat} (hd0 : ab_dc Y pc (.if_icmp .lt off) 3 nx) (ht : (pc : Int) + off = (tgt : Int)) (kt : x < y → ab_W Y X l Q tgt L st m h us) (kf : ¬ x < y → ab_W Y X l Q nx L st m h us) : ab_W Y X l Q pc L (.int y :: .int x :: st) m h us := by
  obtain ⟨hd, rfl⟩ := hd0
  exact fun G p e s mi args below meth c H locs ls Z C hL hP hS h1 h2 hF => lv_icmp_lt C.1 C.2.1 hd ht (fun q => kt q G p e s mi args below meth c H locs ls Z C hL hP hS h1 h2 hF) (fun q => kf q G p e s mi args below meth c H locs ls Z C hL hP hS h1 h2 hF)
theorem aw_if_ge {x : Int32} {off : Int} {tgt : Nat} {nx : Nat} (hd0 : ab_dc Y pc (.ifCond .ge off) 3 nx) (ht : (pc : Int) + off = (tgt : Int)) (kt : 0 ≤ x → ab_W Y X l Q tgt L st m h us) (kf : ¬ 0 ≤ x → ab_W Y X l Q nx L st m h us) : ab_W Y X l Q pc L (.int x :: st) m h us := by
  obtain ⟨hd, rfl⟩ := hd0
  exact fun G p e s mi args below meth c H locs ls Z C hL hP hS h1 h2 hF => lv_if_ge C.1 C.2.1 hd ht (fun q => kt q G p e s mi args below meth c H locs ls Z C hL hP hS h1 h2 hF) (fun q => kf q G p e s mi args below meth c H locs ls Z C hL hP hS h1 h2 hF)
theorem aw_icmp_ge {x y : Int32} {off : Int} {tgt : Nat} {nx : Nat} (hd0 : ab_dc Y pc (.if_icmp .ge off) 3 nx) (ht : (pc : Int) + off = (tgt : Int)) (kt : y ≤ x → ab_W Y X l Q tgt L st m h us) (kf : ¬ y ≤ x → ab_W Y X l Q nx L st m h us) : ab_W Y X l Q pc L (.int y :: .int x :: st) m h us := by
  obtain ⟨hd, rfl⟩ := hd0
  exact fun G p e s mi args below meth c H locs ls Z C hL hP hS h1 h2 hF => lv_icmp_ge C.1 C.2.1 hd ht (fun q => kt q G p e s mi args below meth c H locs ls Z C hL hP hS h1 h2 hF) (fun q => kf q G p e s mi args below meth c H locs ls Z C hL hP hS h1 h2 hF)
theorem aw_if_gt {x : Int32} {off : Int} {tgt : Nat} {nx : Nat} (hd0 : ab_dc Y pc (.ifCond .gt off) 3 nx) (ht : (pc : Int) + off = (tgt : Int)) (kt : 0 < x → ab_W Y X l Q tgt L st m h us) (kf : ¬ 0 < x → ab_W Y X l Q nx L st m h us) : ab_W Y X l Q pc L (.int x :: st) m h us := by
  obtain ⟨hd, rfl⟩ := hd0
  exact fun G p e s mi args below meth c H locs ls Z C hL hP hS h1 h2 hF => lv_if_gt C.1 C.2.1 hd ht (fun q => kt q G p e s mi args below meth c H locs ls Z C hL hP hS h1 h2 hF) (fun q => kf q G p e s mi args below meth c H locs ls Z C hL hP hS h1 h2 hF)
theorem aw_icmp_gt {x y : Int32} {off : Int} {tgt : Nat} {nx : Nat} (hd0 : ab_dc Y pc (.if_icmp .gt off) 3 nx) (ht : (pc : Int) + off = (tgt : Int)) (kt : y < x → ab_W Y X l Q tgt L st m h us) (kf : ¬ y < x → ab_W Y X l Q nx L st m h us) : ab_W Y X l Q pc L (.int y :: .int x :: st) m h us := by
  obtain ⟨hd, rfl⟩ := hd0
  exact fun G p e s mi args below meth c H locs ls Z C hL hP hS h1 h2 hF => lv_icmp_gt C.1 C.2.1 hd ht (fun q => kt q G p e s mi args below meth c H locs ls Z C hL hP hS h1 h2 hF) (fun q => kf q G p e s mi args below meth c H locs ls Z C hL hP hS h1 h2 hF)
theorem aw_if_le {x : Int32} {off : Int} {tgt : Nat} {nx : Nat} (hd0 : ab_dc Y pc (.ifCond .le off) 3 nx) (ht : (pc : Int) + off = (tgt : Int)) (kt : x ≤ 0 → ab_W Y X l Q tgt L st m h us) (kf : ¬ x ≤ 0 → ab_W Y X l Q nx L st m h us) : ab_W Y X l Q pc L (.int x :: st) m h us := by
  obtain ⟨hd, rfl⟩ := hd0
  exact fun G p e s mi args below meth c H locs ls Z C hL hP hS h1 h2 hF => lv_if_le C.1 C.2.1 hd ht (fun q => kt q G p e s mi args below meth c H locs ls Z C hL hP hS h1 h2 hF) (fun q => kf q G p e s mi args below meth c H locs ls Z C hL hP hS h1 h2 hF)
theorem aw_icmp_le {x y : Int32} {off : Int} {tgt : Nat} {nx : Nat} (hd0 : ab_dc Y pc (.if_icmp .le off) 3 nx) (ht : (pc : Int) + off = (tgt : Int)) (kt : x ≤ y → ab_W Y X l Q tgt L st m h us) (kf : ¬ x ≤ y → ab_W Y X l Q nx L st m h us) : ab_W Y X l Q pc L (.int y :: .int x :: st) m h us := by
  obtain ⟨hd, rfl⟩ := hd0
  exact fun G p e s mi args below meth c H locs ls Z C hL hP hS h1 h2 hF => lv_icmp_le C.1 C.2.1 hd ht (fun q => kt q G p e s mi args below meth c H locs ls Z C hL hP hS h1 h2 hF) (fun q => kf q G p e s mi args below meth c H locs ls Z C hL hP hS h1 h2 hF)
theorem aw_goto {off : Int} {tgt : Nat} {nx : Nat} (hd0 : ab_dc Y pc (.goto off) 3 nx) (ht : (pc : Int) + off = (tgt : Int)) (k : ab_W Y X l Q tgt L st m h us) : ab_W Y X l Q pc L st m h us := by
  obtain ⟨hd, rfl⟩ := hd0
  exact fun G p e s mi args below meth c H locs ls Z C hL hP hS h1 h2 hF => lv_goto C.1 C.2.1 hd ht (k G p e s mi args below meth c H locs ls Z C hL hP hS h1 h2 hF)
theorem aw_ifnonnull {x : Nat} {off : Int} {tgt : Nat} {nx : Nat} (hd0 : ab_dc Y pc (.ifnonnull off) 3 nx) (ht : (pc : Int) + off = (tgt : Int)) (k : ab_W Y X l Q tgt L st m h us) : ab_W Y X l Q pc L (.ref x :: st) m h us := by
  obtain ⟨hd, rfl⟩ := hd0
  exact fun G p e s mi args below meth c H locs ls Z C hL hP hS h1 h2 hF => lv_ifnonnull C.1 C.2.1 hd ht (k G p e s mi args below meth c H locs ls Z C hL hP hS h1 h2 hF)
theorem aw_ifnonnullN {off : Int} {nx : Nat} (hd0 : ab_dc Y pc (.ifnonnull off) 3 nx) (k : ab_W Y X l Q nx L st m h us) : ab_W Y X l Q pc L (.null :: st) m h us := by
  obtain ⟨hd, rfl⟩ := hd0
  exact fun G p e s mi args below meth c H locs ls Z C hL hP hS h1 h2 hF => lv_ifnonnullN C.1 C.2.1 hd (k G p e s mi args below meth c H locs ls Z C hL hP hS h1 h2 hF)
theorem aw_tableOut {dflt lo hi : Int} {offs : Array Int} {len : Nat} {x : Int32} {tgt : Nat} {nx : Nat} (hd0 : ab_dc Y pc (.tableswitch dflt lo hi offs) len nx) (hx : x.toInt < lo ∨ hi < x.toInt) (ht : (pc : Int) + dflt = (tgt : Int)) (k : ab_W Y X l Q tgt L st m h us) : ab_W Y X l Q pc L (.int x :: st) m h us := by
  obtain ⟨hd, rfl⟩ := hd0
  exact fun G p e s mi args below meth c H locs ls Z C hL hP hS h1 h2 hF => lv_tableOut C.1 C.2.1 hd hx ht (k G p e s mi args below meth c H locs ls Z C hL hP hS h1 h2 hF)
theorem aw_tableIn {dflt lo hi : Int} {offs : Array Int} {len : Nat} {x : Int32} {off : Int} {tgt : Nat} {nx : Nat} (hd0 : ab_dc Y pc (.tableswitch dflt lo hi offs) len nx) (hx : ¬ x.toInt < lo ∧ ¬ hi < x.toInt) (ho : offs[(x.toInt - lo).toNat]? = some off) (ht : (pc : Int) + off = (tgt : Int)) (k : ab_W Y X l Q tgt L st m h us) : ab_W Y X l Q pc L (.int x :: st) m h us := by
  obtain ⟨hd, rfl⟩ := hd0
  exact fun G p e s mi args below meth c H locs ls Z C hL hP hS h1 h2 hF => lv_tableIn C.1 C.2.1 hd hx.1 hx.2 ho ht (k G p e s mi args below meth c H locs ls Z C hL hP hS h1 h2 hF)
theorem aw_lookup {dflt : Int} {ps : Array (Int × Int)} {len : Nat} {x : Int32} {off : Int} {tgt : Nat} {nx : Nat} (hd0 : ab_dc Y pc (.lookupswitch dflt ps) len nx) (hp : (ps.toList.zip (ps.toList.drop 1)).all (fun (a, next) => a.1 < next.1) = true) (ho : Op.lookupswitch.offset ps.toList dflt x.toInt = off) (ht : (pc : Int) + off = (tgt : Int)) (k : ab_W Y X l Q tgt L st m h us) : ab_W Y X l Q pc L (.int x :: st) m h us := by
  obtain ⟨hd, rfl⟩ := hd0
  exact fun G p e s mi args below meth c H locs ls Z C hL hP hS h1 h2 hF => lv_lookup C.1 C.2.1 hd hp ho ht (k G p e s mi args below meth c H locs ls Z C hL hP hS h1 h2 hF)
theorem aw_ireturn {v : Int32} {ty : FieldType} {nx : Nat} (hd0 : ab_dc Y pc (.ireturn) 1 nx) (hr : Y.2.2.2.1 = some ty) (hn : narrow ty (.int v) = .int v) (hq : Q (some (.int v)) m h) : ab_W Y X l Q pc L [.int v] m h us := by
  obtain ⟨hd, rfl⟩ := hd0
  exact fun G p e s mi args below meth c H locs ls Z C hL hP hS h1 h2 hF => hF (some (.int v)) m h us H locs pc ls hq h1 h2 hP hS ⟨hd, ty, hr, hn⟩
theorem aw_return {nx : Nat} (hd0 : ab_dc Y pc (.return_) 1 nx) (hr : Y.2.2.2.1 = none) (hq : Q none m h) : ab_W Y X l Q pc L [] m h us := by
  obtain ⟨hd, rfl⟩ := hd0
  exact fun G p e s mi args below meth c H locs ls Z C hL hP hS h1 h2 hF => hF none m h us H locs pc ls hq h1 h2 hP hS ⟨hd, hr⟩
theorem aw_areturn {v : Nat} {n : String} {nx : Nat} (hd0 : ab_dc Y pc (.areturn) 1 nx) (hr : Y.2.2.2.1 = some (.object n)) (hq : Q (some (.ref v)) m h) : ab_W Y X l Q pc L [.ref v] m h us := by
  obtain ⟨hd, rfl⟩ := hd0
  exact fun G p e s mi args below meth c H locs ls Z C hL hP hS h1 h2 hF => hF (some (.ref v)) m h us H locs pc ls hq h1 h2 hP hS ⟨hd, n, hr⟩
end AW
