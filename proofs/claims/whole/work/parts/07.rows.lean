theorem tv_cats (ad : Nat → Nat) (st : List Value) : ((st.map (tv ad)).map fun v => v.category).sum = (st.map fun v => v.category).sum := by
  rw [List.map_map]
  congr 1
  apply List.map_congr_left
  intro v _
  exact tv_cat ad v
theorem wMaxS : Cond.static Lib.Math.max.name ∈ gtbl := tb_2 46 (by decide +kernel)
theorem wMinS : Cond.static Lib.Math.min.name ∈ gtbl := tb_1 209 (by decide +kernel)
theorem wMathI : Cond.initialized "java/lang/Math" ∈ gtbl := tb_1 8 (by decide +kernel)
theorem wSysI : Cond.initialized "java/lang/System" ∈ gtbl := tb_1 9 (by decide +kernel)
theorem wCopyN : Cond.native arraycopyName ∈ gtbl := tb_2 82 (by decide +kernel)
theorem wCopyS : Cond.static arraycopyName ∈ gtbl := tb_2 81 (by decide +kernel)
theorem wMaxC : Cond.code Lib.Math.max.name Lib.Math.max.code 2 (some .int) ∈ gtbl := tb_2 47 (by decide +kernel)
theorem wMinC : Cond.code Lib.Math.min.name Lib.Math.min.code 2 (some .int) ∈ gtbl := tb_1 210 (by decide +kernel)
/-! the rows of G: an instruction, a row -/
theorem G_pc {K : MI} {sh : Shp} {d : Nat} {Q : Option Value → Mem → Prop} {pc : Nat} {ls : List (Option Value)} {st : List Value} {M : Mem} (n : Nat) (h : pc = n) (k : G K sh d Q n ls st M) : G K sh d Q pc ls st M := h ▸ k
theorem G_mem {K : MI} {sh : Shp} {d : Nat} {Q : Option Value → Mem → Prop} {pc : Nat} {ls : List (Option Value)} {st : List Value} {M : Mem} {M2 : Mem} (h : M = M2) (k : G K sh d Q pc ls st M2) : G K sh d Q pc ls st M := h ▸ k
theorem G_st {K : MI} {sh : Shp} {d : Nat} {Q : Option Value → Mem → Prop} {pc : Nat} {ls : List (Option Value)} {st : List Value} {M : Mem} {st2 : List Value} (h : st = st2) (k : G K sh d Q pc ls st2 M) : G K sh d Q pc ls st M := h ▸ k
theorem G_ls {K : MI} {sh : Shp} {d : Nat} {Q : Option Value → Mem → Prop} {pc : Nat} {ls : List (Option Value)} {st : List Value} {M : Mem} {ls2 : List (Option Value)} (h : ls = ls2) (k : G K sh d Q pc ls2 st M) : G K sh d Q pc ls st M := h ▸ k
theorem G_iadd {K : MI} {sh : Shp} {d : Nat} {Q : Option Value → Mem → Prop} {pc : Nat} {ls : List (Option Value)} {st : List Value} {M : Mem} {x y : Int32} (hd : decode K.2.1 pc = .ok (.iadd, 1))  (k : G K sh d Q (pc + 1) ls (.int (x + y) :: st) M) : G K sh d Q pc ls (.int y :: .int x :: st) M := by
  intro p l e s m args below meth c D cts ad H locs lsA F hP hS hl
  exact lv_iadd F.1.1 F.1.2.1 hd (k F hP hS hl)
theorem G_isub {K : MI} {sh : Shp} {d : Nat} {Q : Option Value → Mem → Prop} {pc : Nat} {ls : List (Option Value)} {st : List Value} {M : Mem} {x y : Int32} (hd : decode K.2.1 pc = .ok (.isub, 1))  (k : G K sh d Q (pc + 1) ls (.int (x - y) :: st) M) : G K sh d Q pc ls (.int y :: .int x :: st) M := by
  intro p l e s m args below meth c D cts ad H locs lsA F hP hS hl
  exact lv_isub F.1.1 F.1.2.1 hd (k F hP hS hl)
theorem G_imul {K : MI} {sh : Shp} {d : Nat} {Q : Option Value → Mem → Prop} {pc : Nat} {ls : List (Option Value)} {st : List Value} {M : Mem} {x y : Int32} (hd : decode K.2.1 pc = .ok (.imul, 1))  (k : G K sh d Q (pc + 1) ls (.int (x * y) :: st) M) : G K sh d Q pc ls (.int y :: .int x :: st) M := by
  intro p l e s m args below meth c D cts ad H locs lsA F hP hS hl
  exact lv_imul F.1.1 F.1.2.1 hd (k F hP hS hl)
theorem G_iand {K : MI} {sh : Shp} {d : Nat} {Q : Option Value → Mem → Prop} {pc : Nat} {ls : List (Option Value)} {st : List Value} {M : Mem} {x y : Int32} (hd : decode K.2.1 pc = .ok (.iand, 1))  (k : G K sh d Q (pc + 1) ls (.int (x &&& y) :: st) M) : G K sh d Q pc ls (.int y :: .int x :: st) M := by
  intro p l e s m args below meth c D cts ad H locs lsA F hP hS hl
  exact lv_iand F.1.1 F.1.2.1 hd (k F hP hS hl)
theorem G_ior {K : MI} {sh : Shp} {d : Nat} {Q : Option Value → Mem → Prop} {pc : Nat} {ls : List (Option Value)} {st : List Value} {M : Mem} {x y : Int32} (hd : decode K.2.1 pc = .ok (.ior, 1))  (k : G K sh d Q (pc + 1) ls (.int (x ||| y) :: st) M) : G K sh d Q pc ls (.int y :: .int x :: st) M := by
  intro p l e s m args below meth c D cts ad H locs lsA F hP hS hl
  exact lv_ior F.1.1 F.1.2.1 hd (k F hP hS hl)
theorem G_ixor {K : MI} {sh : Shp} {d : Nat} {Q : Option Value → Mem → Prop} {pc : Nat} {ls : List (Option Value)} {st : List Value} {M : Mem} {x y : Int32} (hd : decode K.2.1 pc = .ok (.ixor, 1))  (k : G K sh d Q (pc + 1) ls (.int (x ^^^ y) :: st) M) : G K sh d Q pc ls (.int y :: .int x :: st) M := by
  intro p l e s m args below meth c D cts ad H locs lsA F hP hS hl
  exact lv_ixor F.1.1 F.1.2.1 hd (k F hP hS hl)
theorem G_ishl {K : MI} {sh : Shp} {d : Nat} {Q : Option Value → Mem → Prop} {pc : Nat} {ls : List (Option Value)} {st : List Value} {M : Mem} {x y : Int32} (hd : decode K.2.1 pc = .ok (.ishl, 1))  (k : G K sh d Q (pc + 1) ls (.int (x <<< (y &&& 31)) :: st) M) : G K sh d Q pc ls (.int y :: .int x :: st) M := by
  intro p l e s m args below meth c D cts ad H locs lsA F hP hS hl
  exact lv_ishl F.1.1 F.1.2.1 hd (k F hP hS hl)
theorem G_ishr {K : MI} {sh : Shp} {d : Nat} {Q : Option Value → Mem → Prop} {pc : Nat} {ls : List (Option Value)} {st : List Value} {M : Mem} {x y : Int32} (hd : decode K.2.1 pc = .ok (.ishr, 1))  (k : G K sh d Q (pc + 1) ls (.int (x >>> (y &&& 31)) :: st) M) : G K sh d Q pc ls (.int y :: .int x :: st) M := by
  intro p l e s m args below meth c D cts ad H locs lsA F hP hS hl
  exact lv_ishr F.1.1 F.1.2.1 hd (k F hP hS hl)
theorem G_iushr {K : MI} {sh : Shp} {d : Nat} {Q : Option Value → Mem → Prop} {pc : Nat} {ls : List (Option Value)} {st : List Value} {M : Mem} {x y : Int32} (hd : decode K.2.1 pc = .ok (.iushr, 1))  (k : G K sh d Q (pc + 1) ls (.int (x.toUInt32 >>> (y.toUInt32 &&& Int32.toUInt32 31)).toInt32 :: st) M) : G K sh d Q pc ls (.int y :: .int x :: st) M := by
  intro p l e s m args below meth c D cts ad H locs lsA F hP hS hl
  exact lv_iushr F.1.1 F.1.2.1 hd rfl (k F hP hS hl)
theorem G_idiv {K : MI} {sh : Shp} {d : Nat} {Q : Option Value → Mem → Prop} {pc : Nat} {ls : List (Option Value)} {st : List Value} {M : Mem} {x y : Int32} (hd : decode K.2.1 pc = .ok (.idiv, 1)) (hne : ¬ y = 0) (k : G K sh d Q (pc + 1) ls (.int (x / y) :: st) M) : G K sh d Q pc ls (.int y :: .int x :: st) M := by
  intro p l e s m args below meth c D cts ad H locs lsA F hP hS hl
  exact lv_idiv F.1.1 F.1.2.1 hd hne (k F hP hS hl)
theorem G_irem {K : MI} {sh : Shp} {d : Nat} {Q : Option Value → Mem → Prop} {pc : Nat} {ls : List (Option Value)} {st : List Value} {M : Mem} {x y : Int32} (hd : decode K.2.1 pc = .ok (.irem, 1)) (hne : ¬ y = 0) (k : G K sh d Q (pc + 1) ls (.int (x - x / y * y) :: st) M) : G K sh d Q pc ls (.int y :: .int x :: st) M := by
  intro p l e s m args below meth c D cts ad H locs lsA F hP hS hl
  exact lv_irem F.1.1 F.1.2.1 hd hne (k F hP hS hl)
theorem G_i2l {K : MI} {sh : Shp} {d : Nat} {Q : Option Value → Mem → Prop} {pc : Nat} {ls : List (Option Value)} {st : List Value} {M : Mem} {x : Int32} (hd : decode K.2.1 pc = .ok (.i2l, 1))  (k : G K sh d Q (pc + 1) ls (.long x.toInt64 :: st) M) : G K sh d Q pc ls (.int x :: st) M := by
  intro p l e s m args below meth c D cts ad H locs lsA F hP hS hl
  exact lv_i2l F.1.1 F.1.2.1 hd rfl (k F hP hS hl)
theorem G_i2b {K : MI} {sh : Shp} {d : Nat} {Q : Option Value → Mem → Prop} {pc : Nat} {ls : List (Option Value)} {st : List Value} {M : Mem} {x : Int32} (hd : decode K.2.1 pc = .ok (.i2b, 1))  (k : G K sh d Q (pc + 1) ls (.int x.toInt8.toInt32 :: st) M) : G K sh d Q pc ls (.int x :: st) M := by
  intro p l e s m args below meth c D cts ad H locs lsA F hP hS hl
  exact lv_i2b F.1.1 F.1.2.1 hd rfl (k F hP hS hl)
theorem G_i2s {K : MI} {sh : Shp} {d : Nat} {Q : Option Value → Mem → Prop} {pc : Nat} {ls : List (Option Value)} {st : List Value} {M : Mem} {x : Int32} (hd : decode K.2.1 pc = .ok (.i2s, 1))  (k : G K sh d Q (pc + 1) ls (.int x.toInt16.toInt32 :: st) M) : G K sh d Q pc ls (.int x :: st) M := by
  intro p l e s m args below meth c D cts ad H locs lsA F hP hS hl
  exact lv_i2s F.1.1 F.1.2.1 hd rfl (k F hP hS hl)
theorem G_ladd {K : MI} {sh : Shp} {d : Nat} {Q : Option Value → Mem → Prop} {pc : Nat} {ls : List (Option Value)} {st : List Value} {M : Mem} {x y : Int64} (hd : decode K.2.1 pc = .ok (.ladd, 1))  (k : G K sh d Q (pc + 1) ls (.long (x + y) :: st) M) : G K sh d Q pc ls (.long y :: .long x :: st) M := by
  intro p l e s m args below meth c D cts ad H locs lsA F hP hS hl
  exact lv_ladd F.1.1 F.1.2.1 hd (k F hP hS hl)
theorem G_lcmp {K : MI} {sh : Shp} {d : Nat} {Q : Option Value → Mem → Prop} {pc : Nat} {ls : List (Option Value)} {st : List Value} {M : Mem} {x y : Int64} (hd : decode K.2.1 pc = .ok (.lcmp, 1))  (k : G K sh d Q (pc + 1) ls (.int (lg_cmp x y) :: st) M) : G K sh d Q pc ls (.long y :: .long x :: st) M := by
  intro p l e s m args below meth c D cts ad H locs lsA F hP hS hl
  exact W.lcmp F.1.1 F.1.2.1 hd (k F hP hS hl)
theorem G_iconst {K : MI} {sh : Shp} {d : Nat} {Q : Option Value → Mem → Prop} {pc : Nat} {ls : List (Option Value)} {st : List Value} {M : Mem} {n : Int} {v : Int32} (hd : decode K.2.1 pc = .ok (.iconst n, 1)) (hv : Int32.ofInt n = v) (k : G K sh d Q (pc + 1) ls (.int v :: st) M) : G K sh d Q pc ls (st) M := by
  intro p l e s m args below meth c D cts ad H locs lsA F hP hS hl
  exact lv_iconst F.1.1 F.1.2.1 hd hv (k F hP hS hl)
theorem G_bipush {K : MI} {sh : Shp} {d : Nat} {Q : Option Value → Mem → Prop} {pc : Nat} {ls : List (Option Value)} {st : List Value} {M : Mem} {n : Int} {v : Int32} (hd : decode K.2.1 pc = .ok (.bipush n, 2)) (hv : (Int8.ofInt n).toInt32 = v) (k : G K sh d Q (pc + 2) ls (.int v :: st) M) : G K sh d Q pc ls (st) M := by
  intro p l e s m args below meth c D cts ad H locs lsA F hP hS hl
  exact lv_bipush F.1.1 F.1.2.1 hd hv (k F hP hS hl)
theorem G_sipush {K : MI} {sh : Shp} {d : Nat} {Q : Option Value → Mem → Prop} {pc : Nat} {ls : List (Option Value)} {st : List Value} {M : Mem} {n : Int} {v : Int32} (hd : decode K.2.1 pc = .ok (.sipush n, 3)) (hv : (Int16.ofInt n).toInt32 = v) (k : G K sh d Q (pc + 3) ls (.int v :: st) M) : G K sh d Q pc ls (st) M := by
  intro p l e s m args below meth c D cts ad H locs lsA F hP hS hl
  exact lv_sipush F.1.1 F.1.2.1 hd hv (k F hP hS hl)
theorem G_ldc {K : MI} {sh : Shp} {d : Nat} {Q : Option Value → Mem → Prop} {pc : Nat} {ls : List (Option Value)} {st : List Value} {M : Mem} {index : Nat} {v : Int32} (hd : decode K.2.1 pc = .ok (.ldc index, 2)) (hc : Jvm.Cond.constant K.1.cls index v ∈ gtbl) (k : G K sh d Q (pc + 2) ls (.int v :: st) M) : G K sh d Q pc ls (st) M := by
  intro p l e s m args below meth c D cts ad H locs lsA F hP hS hl
  exact lv_ldc F.1.1 F.1.2.1 F.1.2.2.2.1 (F.1.2.2.2.2.1 _ hc) hd (k F hP hS hl)
theorem G_ldcw {K : MI} {sh : Shp} {d : Nat} {Q : Option Value → Mem → Prop} {pc : Nat} {ls : List (Option Value)} {st : List Value} {M : Mem} {index : Nat} {v : Int32} (hd : decode K.2.1 pc = .ok (.ldc_w index, 3)) (hc : Jvm.Cond.constant K.1.cls index v ∈ gtbl) (k : G K sh d Q (pc + 3) ls (.int v :: st) M) : G K sh d Q pc ls (st) M := by
  intro p l e s m args below meth c D cts ad H locs lsA F hP hS hl
  exact lv_ldcw F.1.1 F.1.2.1 F.1.2.2.2.1 (F.1.2.2.2.2.1 _ hc) hd (k F hP hS hl)
theorem G_ldcs {K : MI} {sh : Shp} {d : Nat} {Q : Option Value → Mem → Prop} {pc : Nat} {ls : List (Option Value)} {st : List Value} {M : Mem} {index i : Nat} {tx : String} (hd : decode K.2.1 pc = .ok (.ldc index, 2)) (hc : (K.1.cls, index, tx, i) ∈ strRefs) (k : G K sh d Q (pc + 2) ls (.ref (1100 + i) :: st) M) : G K sh d Q pc ls (st) M := by
  intro p l e s m args below meth c D cts ad H locs lsA F hP hS hl
  exact va_ldcS F.1.1 F.1.2.1 F.1.2.2.2.1 (F.2.2.2.2.2.2.2.1 _ hc) hd (k F hP hS hl)
theorem G_null {K : MI} {sh : Shp} {d : Nat} {Q : Option Value → Mem → Prop} {pc : Nat} {ls : List (Option Value)} {st : List Value} {M : Mem}  (hd : decode K.2.1 pc = .ok (.aconst_null, 1))  (k : G K sh d Q (pc + 1) ls (.null :: st) M) : G K sh d Q pc ls (st) M := by
  intro p l e s m args below meth c D cts ad H locs lsA F hP hS hl
  exact lv_null F.1.1 F.1.2.1 hd (k F hP hS hl)
theorem G_iload_n {K : MI} {sh : Shp} {d : Nat} {Q : Option Value → Mem → Prop} {pc : Nat} {ls : List (Option Value)} {st : List Value} {M : Mem} {k : Fin 4} {i : Nat} {x : Int32} (hd : decode K.2.1 pc = .ok (.iload_n k, 1)) (hi : (k : Nat) = i) (hv : ls[i]? = some (some (.int x))) (kk : G K sh d Q (pc + 1) ls (.int x :: st) M) : G K sh d Q pc ls st M := by
  intro p l e s m args below meth c D cts ad H locs lsA F hP hS hl
  exact lv_iload_n F.1.1 F.1.2.1 hd hi (hl.at hv) (kk F hP hS hl)
theorem G_aload_n {K : MI} {sh : Shp} {d : Nat} {Q : Option Value → Mem → Prop} {pc : Nat} {ls : List (Option Value)} {st : List Value} {M : Mem} {k : Fin 4} {i : Nat} {x : Nat} (hd : decode K.2.1 pc = .ok (.aload_n k, 1)) (hi : (k : Nat) = i) (hv : ls[i]? = some (some (.ref x))) (kk : G K sh d Q (pc + 1) ls (.ref x :: st) M) : G K sh d Q pc ls st M := by
  intro p l e s m args below meth c D cts ad H locs lsA F hP hS hl
  exact lv_aload_n F.1.1 F.1.2.1 hd hi (hl.at hv) (kk F hP hS hl)
theorem G_aload_nN {K : MI} {sh : Shp} {d : Nat} {Q : Option Value → Mem → Prop} {pc : Nat} {ls : List (Option Value)} {st : List Value} {M : Mem} {k : Fin 4} {i : Nat} (hd : decode K.2.1 pc = .ok (.aload_n k, 1)) (hi : (k : Nat) = i) (hv : ls[i]? = some (some (.null))) (kk : G K sh d Q (pc + 1) ls (.null :: st) M) : G K sh d Q pc ls st M := by
  intro p l e s m args below meth c D cts ad H locs lsA F hP hS hl
  exact lv_aload_nN F.1.1 F.1.2.1 hd hi (hl.at hv) (kk F hP hS hl)
theorem G_istore_n {K : MI} {sh : Shp} {d : Nat} {Q : Option Value → Mem → Prop} {pc : Nat} {ls : List (Option Value)} {st : List Value} {M : Mem} {k : Fin 4} {i : Nat} {x : Int32} (hd : decode K.2.1 pc = .ok (.istore_n k, 1)) (hi : (k : Nat) = i) (hn : i < K.2.2.1) (kk : G K sh d Q (pc + 1) (ls.set i (some (.int x))) st M) : G K sh d Q pc ls (.int x :: st) M := by
  intro p l e s m args below meth c D cts ad H locs lsA F hP hS hl
  exact lv_istore_n F.1.1 F.1.2.1 hd hi hl.1 hn rfl (fun ls2 h2 => kk F hP hS (hl.set rfl h2))
theorem G_astore_n {K : MI} {sh : Shp} {d : Nat} {Q : Option Value → Mem → Prop} {pc : Nat} {ls : List (Option Value)} {st : List Value} {M : Mem} {k : Fin 4} {i : Nat} {x : Nat} (hd : decode K.2.1 pc = .ok (.astore_n k, 1)) (hi : (k : Nat) = i) (hn : i < K.2.2.1) (kk : G K sh d Q (pc + 1) (ls.set i (some (.ref x))) st M) : G K sh d Q pc ls (.ref x :: st) M := by
  intro p l e s m args below meth c D cts ad H locs lsA F hP hS hl
  exact lv_astore_n F.1.1 F.1.2.1 hd hi hl.1 hn rfl (fun ls2 h2 => kk F hP hS (hl.set (v := .ref x) rfl h2))
theorem G_astore_nN {K : MI} {sh : Shp} {d : Nat} {Q : Option Value → Mem → Prop} {pc : Nat} {ls : List (Option Value)} {st : List Value} {M : Mem} {k : Fin 4} {i : Nat} (hd : decode K.2.1 pc = .ok (.astore_n k, 1)) (hi : (k : Nat) = i) (hn : i < K.2.2.1) (kk : G K sh d Q (pc + 1) (ls.set i (some .null)) st M) : G K sh d Q pc ls (.null :: st) M := by
  intro p l e s m args below meth c D cts ad H locs lsA F hP hS hl
  exact lv_astore_nN F.1.1 F.1.2.1 hd hi hl.1 hn rfl (fun ls2 h2 => kk F hP hS (hl.set (v := .null) rfl h2))
theorem G_iload {K : MI} {sh : Shp} {d : Nat} {Q : Option Value → Mem → Prop} {pc : Nat} {ls : List (Option Value)} {st : List Value} {M : Mem} {i : Nat} {x : Int32} (hd : decode K.2.1 pc = .ok (.iload i, 2)) (hv : ls[i]? = some (some (.int x))) (kk : G K sh d Q (pc + 2) ls (.int x :: st) M) : G K sh d Q pc ls st M := by
  intro p l e s m args below meth c D cts ad H locs lsA F hP hS hl
  exact lv_iload F.1.1 F.1.2.1 hd (hl.at hv) (kk F hP hS hl)
theorem G_aload {K : MI} {sh : Shp} {d : Nat} {Q : Option Value → Mem → Prop} {pc : Nat} {ls : List (Option Value)} {st : List Value} {M : Mem} {i : Nat} {x : Nat} (hd : decode K.2.1 pc = .ok (.aload i, 2)) (hv : ls[i]? = some (some (.ref x))) (kk : G K sh d Q (pc + 2) ls (.ref x :: st) M) : G K sh d Q pc ls st M := by
  intro p l e s m args below meth c D cts ad H locs lsA F hP hS hl
  exact lv_aload F.1.1 F.1.2.1 hd (hl.at hv) (kk F hP hS hl)
theorem G_aloadN {K : MI} {sh : Shp} {d : Nat} {Q : Option Value → Mem → Prop} {pc : Nat} {ls : List (Option Value)} {st : List Value} {M : Mem} {i : Nat} (hd : decode K.2.1 pc = .ok (.aload i, 2)) (hv : ls[i]? = some (some (.null))) (kk : G K sh d Q (pc + 2) ls (.null :: st) M) : G K sh d Q pc ls st M := by
  intro p l e s m args below meth c D cts ad H locs lsA F hP hS hl
  exact lv_aloadN F.1.1 F.1.2.1 hd (hl.at hv) (kk F hP hS hl)
theorem G_istore {K : MI} {sh : Shp} {d : Nat} {Q : Option Value → Mem → Prop} {pc : Nat} {ls : List (Option Value)} {st : List Value} {M : Mem} {i : Nat} {x : Int32} (hd : decode K.2.1 pc = .ok (.istore i, 2)) (hn : i < K.2.2.1) (kk : G K sh d Q (pc + 2) (ls.set i (some (.int x))) st M) : G K sh d Q pc ls (.int x :: st) M := by
  intro p l e s m args below meth c D cts ad H locs lsA F hP hS hl
  exact lv_istore F.1.1 F.1.2.1 hd hl.1 hn rfl (fun ls2 h2 => kk F hP hS (hl.set rfl h2))
theorem G_astore {K : MI} {sh : Shp} {d : Nat} {Q : Option Value → Mem → Prop} {pc : Nat} {ls : List (Option Value)} {st : List Value} {M : Mem} {i : Nat} {x : Nat} (hd : decode K.2.1 pc = .ok (.astore i, 2)) (hn : i < K.2.2.1) (kk : G K sh d Q (pc + 2) (ls.set i (some (.ref x))) st M) : G K sh d Q pc ls (.ref x :: st) M := by
  intro p l e s m args below meth c D cts ad H locs lsA F hP hS hl
  exact lv_astore F.1.1 F.1.2.1 hd hl.1 hn rfl (fun ls2 h2 => kk F hP hS (hl.set (v := .ref x) rfl h2))
theorem G_astoreN {K : MI} {sh : Shp} {d : Nat} {Q : Option Value → Mem → Prop} {pc : Nat} {ls : List (Option Value)} {st : List Value} {M : Mem} {i : Nat} (hd : decode K.2.1 pc = .ok (.astore i, 2)) (hn : i < K.2.2.1) (kk : G K sh d Q (pc + 2) (ls.set i (some .null)) st M) : G K sh d Q pc ls (.null :: st) M := by
  intro p l e s m args below meth c D cts ad H locs lsA F hP hS hl
  exact lv_astoreN F.1.1 F.1.2.1 hd hl.1 hn rfl (fun ls2 h2 => kk F hP hS (hl.set (v := .null) rfl h2))
theorem G_iinc {K : MI} {sh : Shp} {d : Nat} {Q : Option Value → Mem → Prop} {pc : Nat} {ls : List (Option Value)} {st : List Value} {M : Mem} {i : Nat} {n : Int} {x v : Int32} (hd : decode K.2.1 pc = .ok (.iinc i n, 3)) (hn : i < K.2.2.1) (hx : ls[i]? = some (some (.int x))) (hv : x + Int32.ofInt n = v) (kk : G K sh d Q (pc + 3) (ls.set i (some (.int v))) st M) : G K sh d Q pc ls st M := by
  intro p l e s m args below meth c D cts ad H locs lsA F hP hS hl
  have hm : (i, tv ad (.int x)) ∈ lvl ad 0 ls := by
    have := lvl_in (ad := ad) ls 0 i _ hx
    rwa [Nat.zero_add] at this
  obtain ⟨k, hk⟩ := List.mem_iff_getElem?.mp hm
  exact lv_iinc F.1.1 F.1.2.1 hd hl.1 hk hv hn rfl (fun ls2 h2 => kk F hP hS (hl.set (v := .int v) rfl h2))
theorem G_iincN {K : MI} {sh : Shp} {d : Nat} {Q : Option Value → Mem → Prop} {pc : Nat} {ls : List (Option Value)} {st : List Value} {M : Mem} {i : Nat} {x : Nat} (hd : decode K.2.1 pc = .ok (.iinc i 1, 3)) (hn : i < K.2.2.1) (hx : ls[i]? = some (some (.int (nI x)))) (kk : G K sh d Q (pc + 3) (ls.set i (some (.int (nI (x + 1))))) st M) : G K sh d Q pc ls st M := G_iinc hd hn hx (nI_1 x) kk
theorem G_dup {K : MI} {sh : Shp} {d : Nat} {Q : Option Value → Mem → Prop} {pc : Nat} {ls : List (Option Value)} {st : List Value} {M : Mem} {v : Value} (hd : decode K.2.1 pc = .ok (.dup, 1)) (hv : v.category = 1) (k : G K sh d Q (pc + 1) ls (v :: v :: st) M) : G K sh d Q pc ls (v :: st) M := by
  intro p l e s m args below meth c D cts ad H locs lsA F hP hS hl
  exact lv_dup F.1.1 F.1.2.1 hd ((tv_cat ad v).trans hv) (k F hP hS hl)
theorem G_dup2 {K : MI} {sh : Shp} {d : Nat} {Q : Option Value → Mem → Prop} {pc : Nat} {ls : List (Option Value)} {st : List Value} {M : Mem} {v w : Value} (hd : decode K.2.1 pc = .ok (.dup2, 1)) (hv : v.category = 1) (hw : w.category = 1) (k : G K sh d Q (pc + 1) ls (v :: w :: v :: w :: st) M) : G K sh d Q pc ls (v :: w :: st) M := by
  intro p l e s m args below meth c D cts ad H locs lsA F hP hS hl
  exact lv_dup2_11 F.1.1 F.1.2.1 hd ((tv_cat ad v).trans hv) ((tv_cat ad w).trans hw) (k F hP hS hl)
theorem G_pop {K : MI} {sh : Shp} {d : Nat} {Q : Option Value → Mem → Prop} {pc : Nat} {ls : List (Option Value)} {st : List Value} {M : Mem} {v : Value} (hd : decode K.2.1 pc = .ok (.pop, 1)) (hv : v.category = 1) (k : G K sh d Q (pc + 1) ls st M) : G K sh d Q pc ls (v :: st) M := by
  intro p l e s m args below meth c D cts ad H locs lsA F hP hS hl
  exact lv_pop F.1.1 F.1.2.1 hd ((tv_cat ad v).trans hv) (k F hP hS hl)
theorem G_if_eq {K : MI} {sh : Shp} {d : Nat} {Q : Option Value → Mem → Prop} {pc : Nat} {ls : List (Option Value)} {st : List Value} {M : Mem} {x : Int32} {off : Int} {tgt : Nat} (hd : decode K.2.1 pc = .ok (.ifCond .eq off, 3)) (ht : (pc : Int) + off = (tgt : Int)) (kt : x = 0 → G K sh d Q tgt ls st M) (kf : ¬ x = 0 → G K sh d Q (pc + 3) ls st M) : G K sh d Q pc ls (.int x :: st) M := by
  intro p l e s m args below meth c D cts ad H locs lsA F hP hS hl
  exact lv_if_eq F.1.1 F.1.2.1 hd ht (fun q => kt q F hP hS hl) (fun q => kf q F hP hS hl)
theorem G_if_ne {K : MI} {sh : Shp} {d : Nat} {Q : Option Value → Mem → Prop} {pc : Nat} {ls : List (Option Value)} {st : List Value} {M : Mem} {x : Int32} {off : Int} {tgt : Nat} (hd : decode K.2.1 pc = .ok (.ifCond .ne off, 3)) (ht : (pc : Int) + off = (tgt : Int)) (kt : ¬ x = 0 → G K sh d Q tgt ls st M) (kf : x = 0 → G K sh d Q (pc + 3) ls st M) : G K sh d Q pc ls (.int x :: st) M := by
  intro p l e s m args below meth c D cts ad H locs lsA F hP hS hl
  exact lv_if_ne F.1.1 F.1.2.1 hd ht (fun q => kt q F hP hS hl) (fun q => kf q F hP hS hl)
theorem G_if_lt {K : MI} {sh : Shp} {d : Nat} {Q : Option Value → Mem → Prop} {pc : Nat} {ls : List (Option Value)} {st : List Value} {M : Mem} {x : Int32} {off : Int} {tgt : Nat} (hd : decode K.2.1 pc = .ok (.ifCond .lt off, 3)) (ht : (pc : Int) + off = (tgt : Int)) (kt : x < 0 → G K sh d Q tgt ls st M) (kf : ¬ x < 0 → G K sh d Q (pc + 3) ls st M) : G K sh d Q pc ls (.int x :: st) M := by
  intro p l e s m args below meth c D cts ad H locs lsA F hP hS hl
  exact lv_if_lt F.1.1 F.1.2.1 hd ht (fun q => kt q F hP hS hl) (fun q => kf q F hP hS hl)
theorem G_if_ge {K : MI} {sh : Shp} {d : Nat} {Q : Option Value → Mem → Prop} {pc : Nat} {ls : List (Option Value)} {st : List Value} {M : Mem} {x : Int32} {off : Int} {tgt : Nat} (hd : decode K.2.1 pc = .ok (.ifCond .ge off, 3)) (ht : (pc : Int) + off = (tgt : Int)) (kt : 0 ≤ x → G K sh d Q tgt ls st M) (kf : ¬ 0 ≤ x → G K sh d Q (pc + 3) ls st M) : G K sh d Q pc ls (.int x :: st) M := by
  intro p l e s m args below meth c D cts ad H locs lsA F hP hS hl
  exact lv_if_ge F.1.1 F.1.2.1 hd ht (fun q => kt q F hP hS hl) (fun q => kf q F hP hS hl)
theorem G_if_gt {K : MI} {sh : Shp} {d : Nat} {Q : Option Value → Mem → Prop} {pc : Nat} {ls : List (Option Value)} {st : List Value} {M : Mem} {x : Int32} {off : Int} {tgt : Nat} (hd : decode K.2.1 pc = .ok (.ifCond .gt off, 3)) (ht : (pc : Int) + off = (tgt : Int)) (kt : 0 < x → G K sh d Q tgt ls st M) (kf : ¬ 0 < x → G K sh d Q (pc + 3) ls st M) : G K sh d Q pc ls (.int x :: st) M := by
  intro p l e s m args below meth c D cts ad H locs lsA F hP hS hl
  exact lv_if_gt F.1.1 F.1.2.1 hd ht (fun q => kt q F hP hS hl) (fun q => kf q F hP hS hl)
theorem G_if_le {K : MI} {sh : Shp} {d : Nat} {Q : Option Value → Mem → Prop} {pc : Nat} {ls : List (Option Value)} {st : List Value} {M : Mem} {x : Int32} {off : Int} {tgt : Nat} (hd : decode K.2.1 pc = .ok (.ifCond .le off, 3)) (ht : (pc : Int) + off = (tgt : Int)) (kt : x ≤ 0 → G K sh d Q tgt ls st M) (kf : ¬ x ≤ 0 → G K sh d Q (pc + 3) ls st M) : G K sh d Q pc ls (.int x :: st) M := by
  intro p l e s m args below meth c D cts ad H locs lsA F hP hS hl
  exact lv_if_le F.1.1 F.1.2.1 hd ht (fun q => kt q F hP hS hl) (fun q => kf q F hP hS hl)
theorem G_icmp_eq {K : MI} {sh : Shp} {d : Nat} {Q : Option Value → Mem → Prop} {pc : Nat} {ls : List (Option Value)} {st : List Value} {M : Mem} {x y : Int32} {off : Int} {tgt : Nat} (hd : decode K.2.1 pc = .ok (.if_icmp .eq off, 3)) (ht : (pc : Int) + off = (tgt : Int)) (kt : x = y → G K sh d Q tgt ls st M) (kf : ¬ x = y → G K sh d Q (pc + 3) ls st M) : G K sh d Q pc ls (.int y :: .int x :: st) M := by
  intro p l e s m args below meth c D cts ad H locs lsA F hP hS hl
  exact lv_icmp_eq F.1.1 F.1.2.1 hd ht (fun q => kt q F hP hS hl) (fun q => kf q F hP hS hl)
theorem G_icmp_ne {K : MI} {sh : Shp} {d : Nat} {Q : Option Value → Mem → Prop} {pc : Nat} {ls : List (Option Value)} {st : List Value} {M : Mem} {x y : Int32} {off : Int} {tgt : Nat} (hd : decode K.2.1 pc = .ok (.if_icmp .ne off, 3)) (ht : (pc : Int) + off = (tgt : Int)) (kt : ¬ x = y → G K sh d Q tgt ls st M) (kf : x = y → G K sh d Q (pc + 3) ls st M) : G K sh d Q pc ls (.int y :: .int x :: st) M := by
  intro p l e s m args below meth c D cts ad H locs lsA F hP hS hl
  exact lv_icmp_ne F.1.1 F.1.2.1 hd ht (fun q => kt q F hP hS hl) (fun q => kf q F hP hS hl)
theorem G_icmp_lt {K : MI} {sh : Shp} {d : Nat} {Q : Option Value → Mem → Prop} {pc : Nat} {ls : List (Option Value)} {st : List Value} {M : Mem} {x y : Int32} {off : Int} {tgt : Nat} (hd : decode K.2.1 pc = .ok (.if_icmp .lt off, 3)) (ht : (pc : Int) + off = (tgt : Int)) (kt : x < y → G K sh d Q tgt ls st M) (kf : ¬ x < y → G K sh d Q (pc + 3) ls st M) : G K sh d Q pc ls (.int y :: .int x :: st) M := by
  intro p l e s m args below meth c D cts ad H locs lsA F hP hS hl
  exact lv_icmp_lt F.1.1 F.1.2.1 hd ht (fun q => kt q F hP hS hl) (fun q => kf q F hP hS hl)
theorem G_icmp_ge {K : MI} {sh : Shp} {d : Nat} {Q : Option Value → Mem → Prop} {pc : Nat} {ls : List (Option Value)} {st : List Value} {M : Mem} {x y : Int32} {off : Int} {tgt : Nat} (hd : decode K.2.1 pc = .ok (.if_icmp .ge off, 3)) (ht : (pc : Int) + off = (tgt : Int)) (kt : y ≤ x → G K sh d Q tgt ls st M) (kf : ¬ y ≤ x → G K sh d Q (pc + 3) ls st M) : G K sh d Q pc ls (.int y :: .int x :: st) M := by
  intro p l e s m args below meth c D cts ad H locs lsA F hP hS hl
  exact lv_icmp_ge F.1.1 F.1.2.1 hd ht (fun q => kt q F hP hS hl) (fun q => kf q F hP hS hl)
theorem G_icmp_gt {K : MI} {sh : Shp} {d : Nat} {Q : Option Value → Mem → Prop} {pc : Nat} {ls : List (Option Value)} {st : List Value} {M : Mem} {x y : Int32} {off : Int} {tgt : Nat} (hd : decode K.2.1 pc = .ok (.if_icmp .gt off, 3)) (ht : (pc : Int) + off = (tgt : Int)) (kt : y < x → G K sh d Q tgt ls st M) (kf : ¬ y < x → G K sh d Q (pc + 3) ls st M) : G K sh d Q pc ls (.int y :: .int x :: st) M := by
  intro p l e s m args below meth c D cts ad H locs lsA F hP hS hl
  exact lv_icmp_gt F.1.1 F.1.2.1 hd ht (fun q => kt q F hP hS hl) (fun q => kf q F hP hS hl)
theorem G_icmp_le {K : MI} {sh : Shp} {d : Nat} {Q : Option Value → Mem → Prop} {pc : Nat} {ls : List (Option Value)} {st : List Value} {M : Mem} {x y : Int32} {off : Int} {tgt : Nat} (hd : decode K.2.1 pc = .ok (.if_icmp .le off, 3)) (ht : (pc : Int) + off = (tgt : Int)) (kt : x ≤ y → G K sh d Q tgt ls st M) (kf : ¬ x ≤ y → G K sh d Q (pc + 3) ls st M) : G K sh d Q pc ls (.int y :: .int x :: st) M := by
  intro p l e s m args below meth c D cts ad H locs lsA F hP hS hl
  exact lv_icmp_le F.1.1 F.1.2.1 hd ht (fun q => kt q F hP hS hl) (fun q => kf q F hP hS hl)
theorem G_goto {K : MI} {sh : Shp} {d : Nat} {Q : Option Value → Mem → Prop} {pc : Nat} {ls : List (Option Value)} {st : List Value} {M : Mem} {off : Int} {tgt : Nat} (hd : decode K.2.1 pc = .ok (.goto off, 3)) (ht : (pc : Int) + off = (tgt : Int)) (k : G K sh d Q tgt ls st M) : G K sh d Q pc ls st M := by
  intro p l e s m args below meth c D cts ad H locs lsA F hP hS hl
  exact lv_goto F.1.1 F.1.2.1 hd ht (k F hP hS hl)
theorem G_ifnonnull {K : MI} {sh : Shp} {d : Nat} {Q : Option Value → Mem → Prop} {pc : Nat} {ls : List (Option Value)} {st : List Value} {M : Mem} {x : Nat} {off : Int} {tgt : Nat} (hd : decode K.2.1 pc = .ok (.ifnonnull off, 3)) (ht : (pc : Int) + off = (tgt : Int)) (k : G K sh d Q tgt ls st M) : G K sh d Q pc ls (.ref x :: st) M := by
  intro p l e s m args below meth c D cts ad H locs lsA F hP hS hl
  exact lv_ifnonnull F.1.1 F.1.2.1 hd ht (k F hP hS hl)
theorem G_ifnonnullN {K : MI} {sh : Shp} {d : Nat} {Q : Option Value → Mem → Prop} {pc : Nat} {ls : List (Option Value)} {st : List Value} {M : Mem} {off : Int} (hd : decode K.2.1 pc = .ok (.ifnonnull off, 3)) (k : G K sh d Q (pc + 3) ls st M) : G K sh d Q pc ls (.null :: st) M := by
  intro p l e s m args below meth c D cts ad H locs lsA F hP hS hl
  exact lv_ifnonnullN F.1.1 F.1.2.1 hd (k F hP hS hl)
theorem G_ifnull {K : MI} {sh : Shp} {d : Nat} {Q : Option Value → Mem → Prop} {pc : Nat} {ls : List (Option Value)} {st : List Value} {M : Mem} {x : Nat} {off : Int} (hd : decode K.2.1 pc = .ok (.ifnull off, 3)) (k : G K sh d Q (pc + 3) ls st M) : G K sh d Q pc ls (.ref x :: st) M := by
  intro p l e s m args below meth c D cts ad H locs lsA F hP hS hl
  exact lv_ifnull F.1.1 F.1.2.1 hd (k F hP hS hl)
theorem G_ifnullN {K : MI} {sh : Shp} {d : Nat} {Q : Option Value → Mem → Prop} {pc : Nat} {ls : List (Option Value)} {st : List Value} {M : Mem} {off : Int} {tgt : Nat} (hd : decode K.2.1 pc = .ok (.ifnull off, 3)) (ht : (pc : Int) + off = (tgt : Int)) (k : G K sh d Q tgt ls st M) : G K sh d Q pc ls (.null :: st) M := by
  intro p l e s m args below meth c D cts ad H locs lsA F hP hS hl
  exact lv_ifnullN F.1.1 F.1.2.1 hd ht (k F hP hS hl)
theorem G_tableIn {K : MI} {sh : Shp} {d : Nat} {Q : Option Value → Mem → Prop} {pc : Nat} {ls : List (Option Value)} {st : List Value} {M : Mem} {dflt lo hi : Int} {offs : Array Int} {len : Nat} {x : Int32} {off : Int} {tgt : Nat} (hd : decode K.2.1 pc = .ok (.tableswitch dflt lo hi offs, len)) (h1 : ¬ x.toInt < lo) (h2 : ¬ hi < x.toInt) (ho : offs[(x.toInt - lo).toNat]? = some off) (ht : (pc : Int) + off = (tgt : Int)) (k : G K sh d Q tgt ls st M) : G K sh d Q pc ls (.int x :: st) M := by
  intro p l e s m args below meth c D cts ad H locs lsA F hP hS hl
  exact lv_tableIn F.1.1 F.1.2.1 hd h1 h2 ho ht (k F hP hS hl)
theorem G_tableOut {K : MI} {sh : Shp} {d : Nat} {Q : Option Value → Mem → Prop} {pc : Nat} {ls : List (Option Value)} {st : List Value} {M : Mem} {dflt lo hi : Int} {offs : Array Int} {len : Nat} {x : Int32} {tgt : Nat} (hd : decode K.2.1 pc = .ok (.tableswitch dflt lo hi offs, len)) (h : x.toInt < lo ∨ hi < x.toInt) (ht : (pc : Int) + dflt = (tgt : Int)) (k : G K sh d Q tgt ls st M) : G K sh d Q pc ls (.int x :: st) M := by
  intro p l e s m args below meth c D cts ad H locs lsA F hP hS hl
  exact lv_tableOut F.1.1 F.1.2.1 hd h ht (k F hP hS hl)
/-! fields: FA says which field of which class a number of the pool is -/
def FA (own : String) (idx ci k : Nat) : Prop := ∃ (C : String) (T : u_T) (N : Nat) (ty : Nat → FieldType), vwCl[ci]? = some (C, T, N) ∧ (∀ w ∈ u_ws C T N, w ∈ gtbl) ∧ k < N ∧ Cond.fieldLink own idx (T k).1 (T k).2.1 (T k).2.2.1 ∈ gtbl ∧ (∀ k, k < N → parseFieldDescriptor (T k).2.2.1 = some (ty k)) ∧ (∀ a, a < N → ∀ b, b < N → a ≠ b → (T a).2.1 ≠ (T b).2.1)
/-- a field of that class that is written, of type ty -/
def FW (ci k : Nat) (ty : FieldType) : Prop := ∃ (C : String) (T : u_T) (N : Nat), vwCl[ci]? = some (C, T, N) ∧ (T k).2.2.2 = false ∧ parseFieldDescriptor (T k).2.2.1 = some ty
theorem G_getv {K : MI} {sh : Shp} {d : Nat} {Q : Option Value → Mem → Prop} {pc : Nat} {ls : List (Option Value)} {st : List Value} {M : Mem} {idx ci k j : Nat} {fs : List (Option Nat)} {f : Option Nat} (v : Value) (hv : ∀ ad, fvl ad M j k f = tv ad v) (fa : FA K.1.cls idx ci k) (hd : decode K.2.1 pc = .ok (.getfield idx, 3)) (hs : sh[j]? = some (.inl (ci, fs))) (hf : fs[k]? = some f) (kk : G K sh d Q (pc + 3) ls (v :: st) M) : G K sh d Q pc ls (.ref j :: st) M := by
  intro p l e s m args below meth c D cts ad H locs lsA F hP hS hl
  obtain ⟨C, T, N, ty, hc, hin, hk, hlink, hty, hnm⟩ := fa
  refine va_get F.1.1 F.1.2.1 F.1.2.2.2.2.1 hin F.1.2.2.2.1 F.2.1 hP j (fs := fs.mapIdx (fun k f => fvl ad M j k f)) (wld_at hs) hc k hk (F.1.2.2.2.2.1 _ hlink) (fun _ h => h) (v := tv ad v) ?_ hd (kk F hP hS hl)
  rw [List.getElem?_mapIdx, hf]
  exact congrArg some (hv ad)
theorem G_geti {K : MI} {sh : Shp} {d : Nat} {Q : Option Value → Mem → Prop} {pc : Nat} {ls : List (Option Value)} {st : List Value} {M : Mem} {idx ci k j : Nat} {fs : List (Option Nat)} (fa : FA K.1.cls idx ci k) (hd : decode K.2.1 pc = .ok (.getfield idx, 3)) (hs : sh[j]? = some (.inl (ci, fs))) (hf : fs[k]? = some none) (kk : G K sh d Q (pc + 3) ls (.int (M j k) :: st) M) : G K sh d Q pc ls (.ref j :: st) M := G_getv (.int (M j k)) (fun _ => rfl) fa hd hs hf kk
theorem G_getr {K : MI} {sh : Shp} {d : Nat} {Q : Option Value → Mem → Prop} {pc : Nat} {ls : List (Option Value)} {st : List Value} {M : Mem} {idx ci k j r : Nat} {fs : List (Option Nat)} (fa : FA K.1.cls idx ci k) (hd : decode K.2.1 pc = .ok (.getfield idx, 3)) (hs : sh[j]? = some (.inl (ci, fs))) (hf : fs[k]? = some (some r)) (kk : G K sh d Q (pc + 3) ls (.ref r :: st) M) : G K sh d Q pc ls (.ref j :: st) M := G_getv (.ref r) (fun _ => rfl) fa hd hs hf kk
theorem G_put {K : MI} {sh : Shp} {d : Nat} {Q : Option Value → Mem → Prop} {pc : Nat} {ls : List (Option Value)} {st : List Value} {M : Mem} {idx ci k j : Nat} {fs : List (Option Nat)} {x : Int32} {ty : FieldType} (fa : FA K.1.cls idx ci k) (fw : FW ci k ty) (hd : decode K.2.1 pc = .ok (.putfield idx, 3)) (hs : sh[j]? = some (.inl (ci, fs))) (hf : fs[k]? = some none) (hn : narrow ty (.int x) = .int x) (hfit : fits ty (.int x) = true) (kk : G K sh d Q (pc + 3) ls st (ups M j k x)) : G K sh d Q pc ls (.int x :: .ref j :: st) M := by
  intro p l e s m args below meth c D cts ad H locs lsA F hP hS hl
  obtain ⟨C, T, N, ty0, hc, hin, hk, hlink, hty, hnm⟩ := fa
  obtain ⟨C', T', N', hc', hfin, hpd⟩ := fw
  cases hc.symm.trans hc'
  refine va_put F.1.1 F.1.2.1 F.1.2.2.2.2.1 hin ty0 hty hnm F.1.2.2.2.1 F.2.1 hP (wld_D F.2.2.1) hS j (fs := fs.mapIdx (fun k f => fvl ad M j k f)) (wld_at hs) hc k hk (F.1.2.2.2.2.1 _ hlink) (fun _ h => h) hfin (v := .int x) hpd hn hfit (by rw [List.length_mapIdx]; exact (List.getElem?_eq_some_iff.mp hf).1) hd (fun H1 locs1 hP1 hD1 hS1 => ?_)
  rw [wld_put hs hf] at hP1
  exact kk F hP1 hS1 hl
theorem G_puti {K : MI} {sh : Shp} {d : Nat} {Q : Option Value → Mem → Prop} {pc : Nat} {ls : List (Option Value)} {st : List Value} {M : Mem} {idx ci k j : Nat} {fs : List (Option Nat)} {x : Int32} (fa : FA K.1.cls idx ci k) (fw : FW ci k .int) (hd : decode K.2.1 pc = .ok (.putfield idx, 3)) (hs : sh[j]? = some (.inl (ci, fs))) (hf : fs[k]? = some none) (kk : G K sh d Q (pc + 3) ls st (ups M j k x)) : G K sh d Q pc ls (.int x :: .ref j :: st) M := G_put fa fw hd hs hf rfl rfl kk
/-! arrays -/
theorem G_iald {K : MI} {sh : Shp} {d : Nat} {Q : Option Value → Mem → Prop} {pc : Nat} {ls : List (Option Value)} {st : List Value} {M : Mem} {j n : Nat} {i : Int32} (hs : sh[j]? = some (.inr (.inl n))) (hin : vp_in i n) (hd : decode K.2.1 pc = .ok (.iaload, 1)) (kk : G K sh d Q (pc + 1) ls (.int (M j i.toNatClampNeg) :: st) M) : G K sh d Q pc ls (.int i :: .ref j :: st) M := by
  intro p l e s m args below meth c D cts ad H locs lsA F hP hS hl
  exact va_iald F.1.1 F.1.2.1 F.2.1 hP j 0 (wld_at hs) rfl hin hd (kk F hP hS hl)
theorem G_iast {K : MI} {sh : Shp} {d : Nat} {Q : Option Value → Mem → Prop} {pc : Nat} {ls : List (Option Value)} {st : List Value} {M : Mem} {j n : Nat} {i x : Int32} (hs : sh[j]? = some (.inr (.inl n))) (hin : vp_in i n) (hd : decode K.2.1 pc = .ok (.iastore, 1)) (kk : G K sh d Q (pc + 1) ls st (ups M j i.toNatClampNeg x)) : G K sh d Q pc ls (.int x :: .int i :: .ref j :: st) M := by
  intro p l e s m args below meth c D cts ad H locs lsA F hP hS hl
  refine va_iast F.1.1 F.1.2.1 F.2.1 hP (wld_D F.2.2.1) hS j 0 (wld_at hs) rfl hin hd (fun H1 locs1 hP1 hD1 hS1 => ?_)
  rw [wld_st hs] at hP1
  exact kk F hP1 hS1 hl
theorem G_ld {K : MI} {sh : Shp} {d : Nat} {Q : Option Value → Mem → Prop} {pc : Nat} {ls : List (Option Value)} {st : List Value} {M : Mem} {j n : Nat} {i : Int32} (k : Nat) (hd : decode K.2.1 pc = .ok (.iaload, 1)) (hs : sh[j]? = some (.inr (.inl n))) (hi : i = nI k) (hk : k < n) (hn : n < 2147483648) (kk : G K sh d Q (pc + 1) ls (.int (M j k) :: st) M) : G K sh d Q pc ls (.int i :: .ref j :: st) M := by
  subst hi
  refine G_iald hs (vp_in_nI hk hn) hd ?_
  rw [nI_clamp (Nat.lt_trans hk hn)]
  exact kk
theorem G_sto {K : MI} {sh : Shp} {d : Nat} {Q : Option Value → Mem → Prop} {pc : Nat} {ls : List (Option Value)} {st : List Value} {M : Mem} {j n : Nat} {i x : Int32} (k : Nat) (hd : decode K.2.1 pc = .ok (.iastore, 1)) (hs : sh[j]? = some (.inr (.inl n))) (hi : i = nI k) (hk : k < n) (hn : n < 2147483648) (kk : G K sh d Q (pc + 1) ls st (ups M j k x)) : G K sh d Q pc ls (.int x :: .int i :: .ref j :: st) M := by
  subst hi
  refine G_iast hs (vp_in_nI hk hn) hd ?_
  rw [nI_clamp (Nat.lt_trans hk hn)]
  exact kk
theorem G_aald {K : MI} {sh : Shp} {d : Nat} {Q : Option Value → Mem → Prop} {pc : Nat} {ls : List (Option Value)} {st : List Value} {M : Mem} {j t r : Nat} {rs : List Nat} {i : Int32} (k : Nat) (hd : decode K.2.1 pc = .ok (.aaload, 1)) (hs : sh[j]? = some (.inr (.inr (t, rs)))) (hty : ∀ cts, ∃ C, (tysOf cts)[t]? = some (cts t, .object C)) (hi : i = nI k) (hr : rs[k]? = some r) (hn : rs.length < 2147483648) (kk : G K sh d Q (pc + 1) ls (.ref r :: st) M) : G K sh d Q pc ls (.int i :: .ref j :: st) M := by
  intro p l e s m args below meth c D cts ad H locs lsA F hP hS hl
  subst hi
  obtain ⟨C, hC⟩ := hty cts
  have hk : k < rs.length := (List.getElem?_eq_some_iff.mp hr).1
  refine va_aldq F.1.1 F.1.2.1 F.2.1 hP j t (wld_at hs) hC (vp_in_nI hk hn) hd ?_
  rw [nI_clamp (Nat.lt_trans hk hn), hr]
  exact kk F hP hS hl
theorem G_alen {K : MI} {sh : Shp} {d : Nat} {Q : Option Value → Mem → Prop} {pc : Nat} {ls : List (Option Value)} {st : List Value} {M : Mem} {j n : Nat} (hd : decode K.2.1 pc = .ok (.arraylength, 1)) (hs : sh[j]? = some (.inr (.inl n))) (kk : G K sh d Q (pc + 1) ls (.int (nI n) :: st) M) : G K sh d Q pc ls (.ref j :: st) M := by
  intro p l e s m args below meth c D cts ad H locs lsA F hP hS hl
  exact va_alen F.1.1 F.1.2.1 F.2.1 hP j 0 (wld_at hs) rfl rfl hd (kk F hP hS hl)
theorem G_alenR {K : MI} {sh : Shp} {d : Nat} {Q : Option Value → Mem → Prop} {pc : Nat} {ls : List (Option Value)} {st : List Value} {M : Mem} {j t : Nat} {rs : List Nat} (hd : decode K.2.1 pc = .ok (.arraylength, 1)) (hs : sh[j]? = some (.inr (.inr (t, rs)))) (hty : ∀ cts, ∃ C, (tysOf cts)[t]? = some (cts t, .object C)) (kk : G K sh d Q (pc + 1) ls (.int (nI rs.length) :: st) M) : G K sh d Q pc ls (.ref j :: st) M := by
  intro p l e s m args below meth c D cts ad H locs lsA F hP hS hl
  obtain ⟨C, hC⟩ := hty cts
  exact va_alen F.1.1 F.1.2.1 F.2.1 hP j t (wld_at hs) hC rfl hd (kk F hP hS hl)
/-! static tables -/
theorem G_gets {K : MI} {sh : Shp} {d : Nat} {Q : Option Value → Mem → Prop} {pc : Nat} {ls : List (Option Value)} {st : List Value} {M : Mem} {idx : Nat} (t : Nat) (ht : t < 3) (hlink : Cond.fieldLink K.1.cls idx "WarmWalls" (tnm t) "[I" ∈ gtbl) (hd : decode K.2.1 pc = .ok (.getstatic idx, 3)) (kk : G K sh d Q (pc + 3) ls (.ref (1000 + t) :: st) M) : G K sh d Q pc ls st M := by
  intro p l e s m args below meth c D cts ad H locs lsA F hP hS hl
  exact va_gets F.1.1 F.1.2.1 (F.2.2.2.1 t ht).1 hS F.1.2.2.2.1 (F.1.2.2.2.2.1 _ hlink) (fun _ h => h) hd (kk F hP hS hl)
theorem G_getsN {K : MI} {sh : Shp} {d : Nat} {Q : Option Value → Mem → Prop} {pc : Nat} {ls : List (Option Value)} {st : List Value} {M : Mem} {idx : Nat} (t : Nat) (ht : t < 3) (hlink : nst t = idx ∧ K.1.cls = "WarmWalls$House") (hd : decode K.2.1 pc = .ok (.getstatic idx, 3)) (kk : G K sh d Q (pc + 3) ls (.ref (1000 + t) :: st) M) : G K sh d Q pc ls st M := by
  intro p l e s m args below meth c D cts ad H locs lsA F hP hS hl
  obtain ⟨rfl, hcls⟩ := hlink
  have ho := F.1.2.2.2.1
  rw [hcls] at ho
  exact va_getsN F.1.1 F.1.2.1 (F.2.2.2.1 t ht).1 hS ho (va_Nw.use rfl (F.2.2.2.2.2.2.2.2.1 t ht)) (fun _ h => h) hd (kk F hP hS hl)
theorem G_tld {K : MI} {sh : Shp} {d : Nat} {Q : Option Value → Mem → Prop} {pc : Nat} {ls : List (Option Value)} {st : List Value} {M : Mem} {i : Int32} (t k : Nat) (ht : t < 3) (hd : decode K.2.1 pc = .ok (.iaload, 1)) (hi : i = nI k) (hk : k < (tvl t).length) (hn : (tvl t).length < 2147483648) (kk : G K sh d Q (pc + 1) ls (.int ((tvl t).getD k 0) :: st) M) : G K sh d Q pc ls (.int i :: .ref (1000 + t) :: st) M := by
  intro p l e s m args below meth c D cts ad H locs lsA F hP hS hl
  subst hi
  exact va_ti F.1.1 F.1.2.1 (F.2.2.2.1 t ht).2 hS (vp_in_nI hk hn) (by rw [nI_clamp (Nat.lt_trans hk hn)]; rfl) hd (kk F hP hS hl)
/-! ends -/
theorem G_iret {K : MI} {sh : Shp} {d : Nat} {Q : Option Value → Mem → Prop} {pc : Nat} {ls : List (Option Value)} {st : List Value} {M : Mem} {x : Int32} (hd : decode K.2.1 pc = .ok (.ireturn, 1)) (hr : K.2.2.2 = some .int) (hQ : Q (some (.int x)) M) : G K sh d Q pc ls [.int x] M := by
  intro p l e s m args below meth c D cts ad H locs lsA F hP hS hl
  exact W.iret F.1.1 F.1.2.1 (F.1.2.2.2.2.2.1.trans hr) (fun t ht _ => ⟨⟨some (.int x), M, rfl, hQ, by rw [ht]; exact hP⟩, hS.F ht⟩) hS.2.2 hd F.1.2.2.2.2.2.2
theorem G_zret {K : MI} {sh : Shp} {d : Nat} {Q : Option Value → Mem → Prop} {pc : Nat} {ls : List (Option Value)} {st : List Value} {M : Mem} {x : Int32} (hd : decode K.2.1 pc = .ok (.ireturn, 1)) (hr : K.2.2.2 = some .boolean) (hn : narrow .boolean (.int x) = .int x) (hQ : Q (some (.int x)) M) : G K sh d Q pc ls [.int x] M := by
  intro p l e s m args below meth c D cts ad H locs lsA F hP hS hl
  exact W.zret F.1.1 F.1.2.1 (F.1.2.2.2.2.2.1.trans hr) hn (fun t ht _ => ⟨⟨some (.int x), M, rfl, hQ, by rw [ht]; exact hP⟩, hS.F ht⟩) hS.2.2 hd F.1.2.2.2.2.2.2
theorem G_vret {K : MI} {sh : Shp} {d : Nat} {Q : Option Value → Mem → Prop} {pc : Nat} {ls : List (Option Value)} {st : List Value} {M : Mem} (hd : decode K.2.1 pc = .ok (.return_, 1)) (hr : K.2.2.2 = none) (hQ : Q none M) : G K sh d Q pc ls [] M := by
  intro p l e s m args below meth c D cts ad H locs lsA F hP hS hl
  exact W.vret F.1.1 F.1.2.1 (F.1.2.2.2.2.2.1.trans hr) (fun t ht _ => ⟨⟨none, M, rfl, hQ, by rw [ht]; exact hP⟩, hS.F ht⟩) hS.2.2 hd F.1.2.2.2.2.2.2
theorem G_aret {K : MI} {sh : Shp} {d : Nat} {Q : Option Value → Mem → Prop} {pc : Nat} {ls : List (Option Value)} {st : List Value} {M : Mem} {x : Nat} (hd : decode K.2.1 pc = .ok (.areturn, 1)) (hr : ∃ rt, K.2.2.2 = some rt ∧ ((∃ n, rt = .object n) ∨ ∃ t, rt = .array t)) (hQ : Q (some (.ref x)) M) : G K sh d Q pc ls [.ref x] M := by
  intro p l e s m args below meth c D cts ad H locs lsA F hP hS hl
  obtain ⟨rt, hr1, hr2⟩ := hr
  exact W.aret F.1.1 F.1.2.1 (F.1.2.2.2.2.2.1.trans hr1) hr2 (Or.inr ⟨_, rfl⟩) (fun t ht _ => ⟨⟨some (.ref x), M, rfl, hQ, by rw [ht]; exact hP⟩, hS.F ht⟩) hS.2.2 hd F.1.2.2.2.2.2.2
theorem G_aretN {K : MI} {sh : Shp} {d : Nat} {Q : Option Value → Mem → Prop} {pc : Nat} {ls : List (Option Value)} {st : List Value} {M : Mem} (hd : decode K.2.1 pc = .ok (.areturn, 1)) (hr : ∃ rt, K.2.2.2 = some rt ∧ ((∃ n, rt = .object n) ∨ ∃ t, rt = .array t)) (hQ : Q (some .null) M) : G K sh d Q pc ls [.null] M := by
  intro p l e s m args below meth c D cts ad H locs lsA F hP hS hl
  obtain ⟨rt, hr1, hr2⟩ := hr
  exact W.aret F.1.1 F.1.2.1 (F.1.2.2.2.2.2.1.trans hr1) hr2 (Or.inl rfl) (fun t ht _ => ⟨⟨some .null, M, rfl, hQ, by rw [ht]; exact hP⟩, hS.F ht⟩) hS.2.2 hd F.1.2.2.2.2.2.2
/-! Math, arraycopy -/
theorem G_max {K : MI} {sh : Shp} {d : Nat} {Q : Option Value → Mem → Prop} {pc : Nat} {ls : List (Option Value)} {st : List Value} {M : Mem} {idx : Nat} {x y : Int32} (hlink : Cond.methodLink K.1.cls idx Lib.Math.max.name ∈ gtbl) (hd : decode K.2.1 pc = .ok (.invokestatic idx, 3)) (hd1 : 1 ≤ d) (hst : (st.map fun v => v.category).sum ≤ 8) (kk : G K sh d Q (pc + 3) ls (.int (if x < y then y else x) :: st) M) : G K sh d Q pc ls (.int y :: .int x :: st) M := by
  intro p l e s m args below meth c D cts ad H locs lsA F hP hS hl
  refine va_mmax F.1.1 F.1.2.1 (F.1.2.2.1.trans hl.1.1.symm) F.1.2.2.2.1 (F.1.2.2.2.2.1 _ hlink) (F.1.2.2.2.2.1 _ wMaxS) (F.1.2.2.2.2.1 _ wMathI) (F.1.2.2.2.2.1 _ wMaxC) hd1 ?_ (Nat.le_refl 0) (Nat.le_refl 0) hd (kk F hP hS hl)
  rw [tv_cats]
  show _ + 13 ≤ 120 * d
  omega
theorem G_min {K : MI} {sh : Shp} {d : Nat} {Q : Option Value → Mem → Prop} {pc : Nat} {ls : List (Option Value)} {st : List Value} {M : Mem} {idx : Nat} {x y : Int32} (hlink : Cond.methodLink K.1.cls idx Lib.Math.min.name ∈ gtbl) (hd : decode K.2.1 pc = .ok (.invokestatic idx, 3)) (hd1 : 1 ≤ d) (hst : (st.map fun v => v.category).sum ≤ 8) (kk : G K sh d Q (pc + 3) ls (.int (if y < x then y else x) :: st) M) : G K sh d Q pc ls (.int y :: .int x :: st) M := by
  intro p l e s m args below meth c D cts ad H locs lsA F hP hS hl
  refine va_mmin F.1.1 F.1.2.1 (F.1.2.2.1.trans hl.1.1.symm) F.1.2.2.2.1 (F.1.2.2.2.2.1 _ hlink) (F.1.2.2.2.2.1 _ wMinS) (F.1.2.2.2.2.1 _ wMathI) (F.1.2.2.2.2.1 _ wMinC) hd1 ?_ (Nat.le_refl 0) (Nat.le_refl 0) hd (kk F hP hS hl)
  rw [tv_cats]
  show _ + 13 ≤ 120 * d
  omega
def cpyM (M : Mem) (j0 j1 n : Nat) : Mem := fun c i => if c = j1 ∧ i < n then M j0 i else M c i
theorem wld_cpy {cts : Nat → ClassId} {ad : Nat → Nat} {M : Mem} {sh : Shp} {j0 j1 n n1 : Nat} (hs : sh[j1]? = some (.inr (.inl n1))) :
    (wld cts ad M sh).set j1 (ad j1, .inl (cts 0, n1, .inl (va_cpy (M j0) (M j1) 0 0 n))) = wld cts ad (cpyM M j0 j1 n) sh := by
  apply List.ext_getElem?
  intro i
  by_cases hi : i = j1
  · subst hi
    have hl : i < (wld cts ad M sh).length := by rw [wld_len]; exact (List.getElem?_eq_some_iff.mp hs).1
    rw [List.getElem?_set_self hl, wld_at hs]
    congr 2
    show (Sum.inl _ : va_E) = Sum.inl _
    congr 3
    congr 1
    funext q
    unfold va_cpy cpyM
    by_cases hq : q < n
    · rw [if_pos ⟨Nat.zero_le _, by omega⟩, if_pos ⟨rfl, hq⟩]
      congr 1
      omega
    · rw [if_neg (by omega), if_neg (by omega)]
  · rw [List.getElem?_set_ne (fun q => hi q.symm)]
    rw [wld, wld, List.getElem?_mapIdx, List.getElem?_mapIdx]
    congr 1
    funext s
    have : cpyM M j0 j1 n i = M i := by
      funext q
      exact if_neg (fun z => hi z.1)
    rw [cel_ne this s]
theorem G_copy {K : MI} {sh : Shp} {d : Nat} {Q : Option Value → Mem → Prop} {pc : Nat} {ls : List (Option Value)} {st : List Value} {M : Mem} {idx j0 j1 n0 n1 : Nat} {x : Int32} (n : Nat) (hx : x = nI n) (hlink : Cond.methodLink K.1.cls idx arraycopyName ∈ gtbl) (hd : decode K.2.1 pc = .ok (.invokestatic idx, 3)) (hs0 : sh[j0]? = some (.inr (.inl n0))) (hs1 : sh[j1]? = some (.inr (.inl n1))) (h0 : n ≤ n0) (h1 : n ≤ n1) (hn : n < 2147483648) (hd1 : 1 ≤ d) (hst : (st.map fun v => v.category).sum ≤ 8) (kk : G K sh d Q (pc + 3) ls st (cpyM M j0 j1 n)) : G K sh d Q pc ls (.int x :: .int 0 :: .ref j1 :: .int 0 :: .ref j0 :: st) M := by
  intro p l e s m args below meth c D cts ad H locs lsA F hP hS hl
  subst hx
  have hcl := nI_clamp hn
  refine va_copyi F.1.1 F.1.2.1 (F.1.2.2.1.trans hl.1.1.symm) F.1.2.2.2.1 (F.1.2.2.2.2.1 _ hlink) (F.1.2.2.2.2.1 _ wCopyN) (F.1.2.2.2.2.1 _ wCopyS) (F.1.2.2.2.2.1 _ wSysI) F.2.1 hP (wld_D F.2.2.1) hS j0 j1 0 0 (ty := .int) (wld_at hs0) (wld_at hs1) rfl rfl rfl (by decide) (by decide) (nI_pos hn) ?_ ?_ (fun i hi => rfl) hd1 ?_ hd (fun H1 locs1 hP1 hD1 hS1 => ?_)
  · rw [hcl]; show 0 + n ≤ n0; omega
  · rw [hcl]; show 0 + n ≤ n1; omega
  · rw [tv_cats]
    have : nativeFrameWords "java/lang/System" "arraycopy" 5 + 11 ≤ 100 := by decide
    show _ + _ ≤ 120 * d
    omega
  · rw [hcl] at hP1
    have h := wld_cpy (cts := cts) (ad := ad) (M := M) (sh := sh) (j0 := j0) (n := n) hs1
    exact kk F (h ▸ hP1) hS1 hl
