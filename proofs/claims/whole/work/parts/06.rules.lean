/-! the rows of G: one an instruction -/
section RULES
variable {sk : Nat → Nat} {own : String} {y : MethodName} {cc : ByteArray} {nL : Nat} {rt : Option FieldType} {d mc ms : Nat} {Ψ : PS} {k n pc q : Nat} {l : LV} {st : List Value} {ws : AW}
theorem g_iconst {i : Int} {v : Int32} (hd : decode cc pc = .ok (.iconst i, 1)) (hq : pc + 1 = q) (hv : Int32.ofInt i = v) (kk : GG sk own y cc nL rt d mc ms Ψ k n q l (.int v :: st) ws) : GG sk own y cc nL rt d mc ms Ψ k n pc l st ws := by
  subst hq
  intro p la e s m args below meth c G ca A H locs ls C hl hP hD hS
  exact lv_iconst C.1 C.2.1 hd hv (kk p la e s m args below meth c G ca A H locs ls C hl hP hD hS)
theorem g_bipush {i : Int} {v : Int32} (hd : decode cc pc = .ok (.bipush i, 2)) (hq : pc + 2 = q) (hv : (Int8.ofInt i).toInt32 = v) (kk : GG sk own y cc nL rt d mc ms Ψ k n q l (.int v :: st) ws) : GG sk own y cc nL rt d mc ms Ψ k n pc l st ws := by
  subst hq
  intro p la e s m args below meth c G ca A H locs ls C hl hP hD hS
  exact lv_bipush C.1 C.2.1 hd hv (kk p la e s m args below meth c G ca A H locs ls C hl hP hD hS)
theorem g_sipush {i : Int} {v : Int32} (hd : decode cc pc = .ok (.sipush i, 3)) (hq : pc + 3 = q) (hv : (Int16.ofInt i).toInt32 = v) (kk : GG sk own y cc nL rt d mc ms Ψ k n q l (.int v :: st) ws) : GG sk own y cc nL rt d mc ms Ψ k n pc l st ws := by
  subst hq
  intro p la e s m args below meth c G ca A H locs ls C hl hP hD hS
  exact lv_sipush C.1 C.2.1 hd hv (kk p la e s m args below meth c G ca A H locs ls C hl hP hD hS)
theorem g_lconst {i : Fin 2} {v : Int64} (hd : decode cc pc = .ok (.lconst i, 1)) (hq : pc + 1 = q) (hv : Int64.ofNat (i : Nat) = v) (kk : GG sk own y cc nL rt d mc ms Ψ k n q l (.long v :: st) ws) : GG sk own y cc nL rt d mc ms Ψ k n pc l st ws := by
  subst hq
  intro p la e s m args below meth c G ca A H locs ls C hl hP hD hS
  exact lv_lconst C.1 C.2.1 hd hv (kk p la e s m args below meth c G ca A H locs ls C hl hP hD hS)
theorem g_ldc {i : Nat} {v : Int32} (hd : decode cc pc = .ok (.ldc i, 2)) (hq : pc + 2 = q) (hv : Cond.constant own i v ∈ T0) (kk : GG sk own y cc nL rt d mc ms Ψ k n q l (.int v :: st) ws) : GG sk own y cc nL rt d mc ms Ψ k n pc l st ws := by
  subst hq
  intro p la e s m args below meth c G ca A H locs ls C hl hP hD hS
  exact lv_ldc C.1 C.2.1 C.2.2.2.2.2.1 (C.2.2.2.2.2.2.2.1 _ hv) hd (kk p la e s m args below meth c G ca A H locs ls C hl hP hD hS)
theorem g_ldc2 {i : Nat} {v : Int64} (hd : decode cc pc = .ok (.ldc2_w i, 3)) (hq : pc + 3 = q) (hv : Cond.constantLong own i v ∈ T0) (kk : GG sk own y cc nL rt d mc ms Ψ k n q l (.long v :: st) ws) : GG sk own y cc nL rt d mc ms Ψ k n pc l st ws := by
  subst hq
  intro p la e s m args below meth c G ca A H locs ls C hl hP hD hS
  exact lv_ldc2 C.1 C.2.1 C.2.2.2.2.2.1 (C.2.2.2.2.2.2.2.1 _ hv) hd (kk p la e s m args below meth c G ca A H locs ls C hl hP hD hS)
theorem g_iload_n {i : Fin 4} {x : Int32} (hd : decode cc pc = .ok (.iload_n i, 1)) (hq : pc + 1 = q) (hx : l[(i : Nat)]? = some (some (.int x))) (kk : GG sk own y cc nL rt d mc ms Ψ k n q l (.int x :: st) ws) : GG sk own y cc nL rt d mc ms Ψ k n pc l st ws := by
  subst hq
  intro p la e s m args below meth c G ca A H locs ls C hl hP hD hS
  exact lv_iload_n C.1 C.2.1 hd rfl (hl.2.2 _ _ hx) (kk p la e s m args below meth c G ca A H locs ls C hl hP hD hS)
theorem g_iload {i : Nat} {x : Int32} (hd : decode cc pc = .ok (.iload i, 2)) (hq : pc + 2 = q) (hx : l[i]? = some (some (.int x))) (kk : GG sk own y cc nL rt d mc ms Ψ k n q l (.int x :: st) ws) : GG sk own y cc nL rt d mc ms Ψ k n pc l st ws := by
  subst hq
  intro p la e s m args below meth c G ca A H locs ls C hl hP hD hS
  exact lv_iload C.1 C.2.1 hd (hl.2.2 _ _ hx) (kk p la e s m args below meth c G ca A H locs ls C hl hP hD hS)
theorem g_aload_n {i : Fin 4} {x : Nat} (hd : decode cc pc = .ok (.aload_n i, 1)) (hq : pc + 1 = q) (hx : l[(i : Nat)]? = some (some (.ref x))) (kk : GG sk own y cc nL rt d mc ms Ψ k n q l (.ref x :: st) ws) : GG sk own y cc nL rt d mc ms Ψ k n pc l st ws := by
  subst hq
  intro p la e s m args below meth c G ca A H locs ls C hl hP hD hS
  exact lv_aload_n C.1 C.2.1 hd rfl (hl.2.2 _ _ hx) (kk p la e s m args below meth c G ca A H locs ls C hl hP hD hS)
theorem g_aload {i x : Nat} (hd : decode cc pc = .ok (.aload i, 2)) (hq : pc + 2 = q) (hx : l[i]? = some (some (.ref x))) (kk : GG sk own y cc nL rt d mc ms Ψ k n q l (.ref x :: st) ws) : GG sk own y cc nL rt d mc ms Ψ k n pc l st ws := by
  subst hq
  intro p la e s m args below meth c G ca A H locs ls C hl hP hD hS
  exact lv_aload C.1 C.2.1 hd (hl.2.2 _ _ hx) (kk p la e s m args below meth c G ca A H locs ls C hl hP hD hS)
theorem g_lload_n {i : Fin 4} {x : Int64} (hd : decode cc pc = .ok (.lload_n i, 1)) (hq : pc + 1 = q) (hx : l[(i : Nat)]? = some (some (.long x))) (kk : GG sk own y cc nL rt d mc ms Ψ k n q l (.long x :: st) ws) : GG sk own y cc nL rt d mc ms Ψ k n pc l st ws := by
  subst hq
  intro p la e s m args below meth c G ca A H locs ls C hl hP hD hS
  exact lv_lload_n C.1 C.2.1 hd rfl (hl.2.2 _ _ hx) (kk p la e s m args below meth c G ca A H locs ls C hl hP hD hS)
theorem g_istore_n {i : Fin 4} {x : Int32} (hd : decode cc pc = .ok (.istore_n i, 1)) (hq : pc + 1 = q) (hn : (i : Nat) < nL) (ho : zOk l i = true) {l' : LV} (hl' : l.set i (some (.int x)) = l') (kk : GG sk own y cc nL rt d mc ms Ψ k n q l' st ws) : GG sk own y cc nL rt d mc ms Ψ k n pc l (.int x :: st) ws := by
  subst hq; subst hl'
  intro p la e s m args below meth c G ca A H locs ls C hl hP hD hS
  exact lv_istore_n C.1 C.2.1 hd rfl (zL_has hl) hn rfl (fun ls' h' => kk p la e s m args below meth c G ca A H locs ls' C (zL_st ho h') hP hD hS)
theorem g_istore {i : Nat} {x : Int32} (hd : decode cc pc = .ok (.istore i, 2)) (hq : pc + 2 = q) (hn : i < nL) (ho : zOk l i = true) {l' : LV} (hl' : l.set i (some (.int x)) = l') (kk : GG sk own y cc nL rt d mc ms Ψ k n q l' st ws) : GG sk own y cc nL rt d mc ms Ψ k n pc l (.int x :: st) ws := by
  subst hq; subst hl'
  intro p la e s m args below meth c G ca A H locs ls C hl hP hD hS
  exact lv_istore C.1 C.2.1 hd (zL_has hl) hn rfl (fun ls' h' => kk p la e s m args below meth c G ca A H locs ls' C (zL_st ho h') hP hD hS)
theorem g_astore {i x : Nat} (hd : decode cc pc = .ok (.astore i, 2)) (hq : pc + 2 = q) (hn : i < nL) (ho : zOk l i = true) {l' : LV} (hl' : l.set i (some (.ref x)) = l') (kk : GG sk own y cc nL rt d mc ms Ψ k n q l' st ws) : GG sk own y cc nL rt d mc ms Ψ k n pc l (.ref x :: st) ws := by
  subst hq; subst hl'
  intro p la e s m args below meth c G ca A H locs ls C hl hP hD hS
  exact lv_astore C.1 C.2.1 hd (zL_has hl) hn rfl (fun ls' h' => kk p la e s m args below meth c G ca A H locs ls' C (zL_st ho h') hP hD hS)
theorem g_astore_n {i : Fin 4} {x : Nat} (hd : decode cc pc = .ok (.astore_n i, 1)) (hq : pc + 1 = q) (hn : (i : Nat) < nL) (ho : zOk l i = true) {l' : LV} (hl' : l.set i (some (.ref x)) = l') (kk : GG sk own y cc nL rt d mc ms Ψ k n q l' st ws) : GG sk own y cc nL rt d mc ms Ψ k n pc l (.ref x :: st) ws := by
  subst hq; subst hl'
  intro p la e s m args below meth c G ca A H locs ls C hl hP hD hS
  exact lv_astore_n C.1 C.2.1 hd rfl (zL_has hl) hn rfl (fun ls' h' => kk p la e s m args below meth c G ca A H locs ls' C (zL_st ho h') hP hD hS)
theorem g_lstore_n {i : Fin 4} {x : Int64} (hd : decode cc pc = .ok (.lstore_n i, 1)) (hq : pc + 1 = q) (hn : (i : Nat) + 1 < nL) (ho : zOk l i = true) {l' : LV} (hl' : (l.set i (some (.long x))).set (i + 1) none = l') (kk : GG sk own y cc nL rt d mc ms Ψ k n q l' st ws) : GG sk own y cc nL rt d mc ms Ψ k n pc l (.long x :: st) ws := by
  subst hq; subst hl'
  intro p la e s m args below meth c G ca A H locs ls C hl hP hD hS
  exact lv_lstore_n C.1 C.2.1 hd rfl (zL_has hl) hn rfl (fun ls' h' => kk p la e s m args below meth c G ca A H locs ls' C (zL_stL ho h') hP hD hS)
theorem g_iinc {i : Nat} {b : Int} {x v : Int32} (hd : decode cc pc = .ok (.iinc i b, 3)) (hq : pc + 3 = q) (hx : l[i]? = some (some (.int x))) (hv : x + Int32.ofInt b = v) (hn : i < nL) (ho : zOk l i = true) {l' : LV} (hl' : l.set i (some (.int v)) = l') (kk : GG sk own y cc nL rt d mc ms Ψ k n q l' st ws) : GG sk own y cc nL rt d mc ms Ψ k n pc l st ws := by
  subst hq; subst hl'
  intro p la e s m args below meth c G ca A H locs ls C hl hP hD hS
  obtain ⟨j, hj⟩ := List.getElem?_of_mem (zPs_mem.mpr hx)
  exact lv_iinc C.1 C.2.1 hd (zL_has hl) hj hv hn rfl (fun ls' h' => kk p la e s m args below meth c G ca A H locs ls' C (zL_st ho h') hP hD hS)
theorem g_iadd {a b : Int32} (hd : decode cc pc = .ok (.iadd, 1)) (hq : pc + 1 = q) {v : Int32} (hv : a + b = v) (kk : GG sk own y cc nL rt d mc ms Ψ k n q l (.int v :: st) ws) : GG sk own y cc nL rt d mc ms Ψ k n pc l (.int b :: .int a :: st) ws := by
  subst hq; subst hv
  intro p la e s m args below meth c G ca A H locs ls C hl hP hD hS
  exact lv_iadd C.1 C.2.1 hd (kk p la e s m args below meth c G ca A H locs ls C hl hP hD hS)
theorem g_isub {a b : Int32} (hd : decode cc pc = .ok (.isub, 1)) (hq : pc + 1 = q) {v : Int32} (hv : a - b = v) (kk : GG sk own y cc nL rt d mc ms Ψ k n q l (.int v :: st) ws) : GG sk own y cc nL rt d mc ms Ψ k n pc l (.int b :: .int a :: st) ws := by
  subst hq; subst hv
  intro p la e s m args below meth c G ca A H locs ls C hl hP hD hS
  exact lv_isub C.1 C.2.1 hd (kk p la e s m args below meth c G ca A H locs ls C hl hP hD hS)
theorem g_imul {a b : Int32} (hd : decode cc pc = .ok (.imul, 1)) (hq : pc + 1 = q) {v : Int32} (hv : a * b = v) (kk : GG sk own y cc nL rt d mc ms Ψ k n q l (.int v :: st) ws) : GG sk own y cc nL rt d mc ms Ψ k n pc l (.int b :: .int a :: st) ws := by
  subst hq; subst hv
  intro p la e s m args below meth c G ca A H locs ls C hl hP hD hS
  exact lv_imul C.1 C.2.1 hd (kk p la e s m args below meth c G ca A H locs ls C hl hP hD hS)
theorem g_iand {a b : Int32} (hd : decode cc pc = .ok (.iand, 1)) (hq : pc + 1 = q) {v : Int32} (hv : a &&& b = v) (kk : GG sk own y cc nL rt d mc ms Ψ k n q l (.int v :: st) ws) : GG sk own y cc nL rt d mc ms Ψ k n pc l (.int b :: .int a :: st) ws := by
  subst hq; subst hv
  intro p la e s m args below meth c G ca A H locs ls C hl hP hD hS
  exact lv_iand C.1 C.2.1 hd (kk p la e s m args below meth c G ca A H locs ls C hl hP hD hS)
theorem g_ior {a b : Int32} (hd : decode cc pc = .ok (.ior, 1)) (hq : pc + 1 = q) {v : Int32} (hv : a ||| b = v) (kk : GG sk own y cc nL rt d mc ms Ψ k n q l (.int v :: st) ws) : GG sk own y cc nL rt d mc ms Ψ k n pc l (.int b :: .int a :: st) ws := by
  subst hq; subst hv
  intro p la e s m args below meth c G ca A H locs ls C hl hP hD hS
  exact lv_ior C.1 C.2.1 hd (kk p la e s m args below meth c G ca A H locs ls C hl hP hD hS)
theorem g_ishl {a b : Int32} (hd : decode cc pc = .ok (.ishl, 1)) (hq : pc + 1 = q) {v : Int32} (hv : a <<< (b &&& 31) = v) (kk : GG sk own y cc nL rt d mc ms Ψ k n q l (.int v :: st) ws) : GG sk own y cc nL rt d mc ms Ψ k n pc l (.int b :: .int a :: st) ws := by
  subst hq; subst hv
  intro p la e s m args below meth c G ca A H locs ls C hl hP hD hS
  exact lv_ishl C.1 C.2.1 hd (kk p la e s m args below meth c G ca A H locs ls C hl hP hD hS)
theorem g_ishr {a b : Int32} (hd : decode cc pc = .ok (.ishr, 1)) (hq : pc + 1 = q) {v : Int32} (hv : a >>> (b &&& 31) = v) (kk : GG sk own y cc nL rt d mc ms Ψ k n q l (.int v :: st) ws) : GG sk own y cc nL rt d mc ms Ψ k n pc l (.int b :: .int a :: st) ws := by
  subst hq; subst hv
  intro p la e s m args below meth c G ca A H locs ls C hl hP hD hS
  exact lv_ishr C.1 C.2.1 hd (kk p la e s m args below meth c G ca A H locs ls C hl hP hD hS)
theorem g_idiv {a b : Int32} (hd : decode cc pc = .ok (.idiv, 1)) (hq : pc + 1 = q) (hne : ¬ b = 0) {v : Int32} (hv : a / b = v) (kk : GG sk own y cc nL rt d mc ms Ψ k n q l (.int v :: st) ws) : GG sk own y cc nL rt d mc ms Ψ k n pc l (.int b :: .int a :: st) ws := by
  subst hq; subst hv
  intro p la e s m args below meth c G ca A H locs ls C hl hP hD hS
  exact lv_idiv C.1 C.2.1 hd hne (kk p la e s m args below meth c G ca A H locs ls C hl hP hD hS)
theorem g_irem {a b : Int32} (hd : decode cc pc = .ok (.irem, 1)) (hq : pc + 1 = q) (hne : ¬ b = 0) {v : Int32} (hv : a - a / b * b = v) (kk : GG sk own y cc nL rt d mc ms Ψ k n q l (.int v :: st) ws) : GG sk own y cc nL rt d mc ms Ψ k n pc l (.int b :: .int a :: st) ws := by
  subst hq; subst hv
  intro p la e s m args below meth c G ca A H locs ls C hl hP hD hS
  exact lv_irem C.1 C.2.1 hd hne (kk p la e s m args below meth c G ca A H locs ls C hl hP hD hS)
theorem g_ladd {a b : Int64} (hd : decode cc pc = .ok (.ladd, 1)) (hq : pc + 1 = q) {v : Int64} (hv : a + b = v) (kk : GG sk own y cc nL rt d mc ms Ψ k n q l (.long v :: st) ws) : GG sk own y cc nL rt d mc ms Ψ k n pc l (.long b :: .long a :: st) ws := by
  subst hq; subst hv
  intro p la e s m args below meth c G ca A H locs ls C hl hP hD hS
  exact lv_ladd C.1 C.2.1 hd (kk p la e s m args below meth c G ca A H locs ls C hl hP hD hS)
theorem g_lmul {a b : Int64} (hd : decode cc pc = .ok (.lmul, 1)) (hq : pc + 1 = q) {v : Int64} (hv : a * b = v) (kk : GG sk own y cc nL rt d mc ms Ψ k n q l (.long v :: st) ws) : GG sk own y cc nL rt d mc ms Ψ k n pc l (.long b :: .long a :: st) ws := by
  subst hq; subst hv
  intro p la e s m args below meth c G ca A H locs ls C hl hP hD hS
  exact lv_lmul C.1 C.2.1 hd (kk p la e s m args below meth c G ca A H locs ls C hl hP hD hS)
theorem g_land {a b : Int64} (hd : decode cc pc = .ok (.land, 1)) (hq : pc + 1 = q) {v : Int64} (hv : a &&& b = v) (kk : GG sk own y cc nL rt d mc ms Ψ k n q l (.long v :: st) ws) : GG sk own y cc nL rt d mc ms Ψ k n pc l (.long b :: .long a :: st) ws := by
  subst hq; subst hv
  intro p la e s m args below meth c G ca A H locs ls C hl hP hD hS
  exact lv_land C.1 C.2.1 hd (kk p la e s m args below meth c G ca A H locs ls C hl hP hD hS)
theorem g_lshr {a : Int64} {b : Int32} (hd : decode cc pc = .ok (.lshr, 1)) (hq : pc + 1 = q) {v : Int64} (hv : a >>> (b.toInt64 &&& 63) = v) (kk : GG sk own y cc nL rt d mc ms Ψ k n q l (.long v :: st) ws) : GG sk own y cc nL rt d mc ms Ψ k n pc l (.int b :: .long a :: st) ws := by
  subst hq
  intro p la e s m args below meth c G ca A H locs ls C hl hP hD hS
  exact lv_lshr C.1 C.2.1 hd hv (kk p la e s m args below meth c G ca A H locs ls C hl hP hD hS)
theorem g_i2l {a : Int32} (hd : decode cc pc = .ok (.i2l, 1)) (hq : pc + 1 = q) {v : Int64} (hv : a.toInt64 = v) (kk : GG sk own y cc nL rt d mc ms Ψ k n q l (.long v :: st) ws) : GG sk own y cc nL rt d mc ms Ψ k n pc l (.int a :: st) ws := by
  subst hq
  intro p la e s m args below meth c G ca A H locs ls C hl hP hD hS
  exact lv_i2l C.1 C.2.1 hd hv (kk p la e s m args below meth c G ca A H locs ls C hl hP hD hS)
theorem g_l2i {a : Int64} (hd : decode cc pc = .ok (.l2i, 1)) (hq : pc + 1 = q) {v : Int32} (hv : a.toInt32 = v) (kk : GG sk own y cc nL rt d mc ms Ψ k n q l (.int v :: st) ws) : GG sk own y cc nL rt d mc ms Ψ k n pc l (.long a :: st) ws := by
  subst hq
  intro p la e s m args below meth c G ca A H locs ls C hl hP hD hS
  exact lv_l2i C.1 C.2.1 hd hv (kk p la e s m args below meth c G ca A H locs ls C hl hP hD hS)
theorem g_i2b {a : Int32} (hd : decode cc pc = .ok (.i2b, 1)) (hq : pc + 1 = q) {v : Int32} (hv : a.toInt8.toInt32 = v) (kk : GG sk own y cc nL rt d mc ms Ψ k n q l (.int v :: st) ws) : GG sk own y cc nL rt d mc ms Ψ k n pc l (.int a :: st) ws := by
  subst hq
  intro p la e s m args below meth c G ca A H locs ls C hl hP hD hS
  exact lv_i2b C.1 C.2.1 hd hv (kk p la e s m args below meth c G ca A H locs ls C hl hP hD hS)
theorem g_dup {v : Value} (hd : decode cc pc = .ok (.dup, 1)) (hq : pc + 1 = q) (hv : v.category = 1) (kk : GG sk own y cc nL rt d mc ms Ψ k n q l (v :: v :: st) ws) : GG sk own y cc nL rt d mc ms Ψ k n pc l (v :: st) ws := by
  subst hq
  intro p la e s m args below meth c G ca A H locs ls C hl hP hD hS
  exact lv_dup C.1 C.2.1 hd hv (kk p la e s m args below meth c G ca A H locs ls C hl hP hD hS)
theorem g_pop {v : Value} (hd : decode cc pc = .ok (.pop, 1)) (hq : pc + 1 = q) (hv : v.category = 1) (kk : GG sk own y cc nL rt d mc ms Ψ k n q l st ws) : GG sk own y cc nL rt d mc ms Ψ k n pc l (v :: st) ws := by
  subst hq
  intro p la e s m args below meth c G ca A H locs ls C hl hP hD hS
  exact lv_pop C.1 C.2.1 hd hv (kk p la e s m args below meth c G ca A H locs ls C hl hP hD hS)
theorem g_goto {off : Int} (hd : decode cc pc = .ok (.goto off, 3)) (ht : (pc : Int) + off = (q : Int)) (kk : GG sk own y cc nL rt d mc ms Ψ k n q l st ws) : GG sk own y cc nL rt d mc ms Ψ k n pc l st ws := by
  intro p la e s m args below meth c G ca A H locs ls C hl hP hD hS
  exact lv_goto C.1 C.2.1 hd ht (kk p la e s m args below meth c G ca A H locs ls C hl hP hD hS)
theorem g_icmp_eq {off : Int} {t : Nat} {x y1 : Int32} (hd : decode cc pc = .ok (.if_icmp .eq off, 3)) (ht : (pc : Int) + off = (t : Int)) (hq : pc + 3 = q) (kt : x = y1 → GG sk own y cc nL rt d mc ms Ψ k n t l st ws) (kf : ¬ x = y1 → GG sk own y cc nL rt d mc ms Ψ k n q l st ws) : GG sk own y cc nL rt d mc ms Ψ k n pc l (.int y1 :: .int x :: st) ws := by
  subst hq
  intro p la e s m args below meth c G ca A H locs ls C hl hP hD hS
  exact lv_icmp_eq C.1 C.2.1 hd ht (fun h => kt h p la e s m args below meth c G ca A H locs ls C hl hP hD hS) (fun h => kf h p la e s m args below meth c G ca A H locs ls C hl hP hD hS)
theorem g_icmp_eqN {off : Int} {t : Nat} {a b : Nat} (hd : decode cc pc = .ok (.if_icmp .eq off, 3)) (ht : (pc : Int) + off = (t : Int)) (hq : pc + 3 = q) (ha : a < 2 ^ 31) (hb : b < 2 ^ 31) (kt : a = b → GG sk own y cc nL rt d mc ms Ψ k n t l st ws) (kf : a ≠ b → GG sk own y cc nL rt d mc ms Ψ k n q l st ws) : GG sk own y cc nL rt d mc ms Ψ k n pc l (.int (nI b) :: .int (nI a) :: st) ws :=
  g_icmp_eq hd ht hq (fun h => kt ((nI_eq ha hb).mp h)) (fun h => kf (fun e => h ((nI_eq ha hb).mpr e)))
theorem g_icmp_ne {off : Int} {t : Nat} {x y1 : Int32} (hd : decode cc pc = .ok (.if_icmp .ne off, 3)) (ht : (pc : Int) + off = (t : Int)) (hq : pc + 3 = q) (kt : ¬ x = y1 → GG sk own y cc nL rt d mc ms Ψ k n t l st ws) (kf : x = y1 → GG sk own y cc nL rt d mc ms Ψ k n q l st ws) : GG sk own y cc nL rt d mc ms Ψ k n pc l (.int y1 :: .int x :: st) ws := by
  subst hq
  intro p la e s m args below meth c G ca A H locs ls C hl hP hD hS
  exact lv_icmp_ne C.1 C.2.1 hd ht (fun h => kt h p la e s m args below meth c G ca A H locs ls C hl hP hD hS) (fun h => kf h p la e s m args below meth c G ca A H locs ls C hl hP hD hS)
theorem g_icmp_neN {off : Int} {t : Nat} {a b : Nat} (hd : decode cc pc = .ok (.if_icmp .ne off, 3)) (ht : (pc : Int) + off = (t : Int)) (hq : pc + 3 = q) (ha : a < 2 ^ 31) (hb : b < 2 ^ 31) (kt : a ≠ b → GG sk own y cc nL rt d mc ms Ψ k n t l st ws) (kf : a = b → GG sk own y cc nL rt d mc ms Ψ k n q l st ws) : GG sk own y cc nL rt d mc ms Ψ k n pc l (.int (nI b) :: .int (nI a) :: st) ws :=
  g_icmp_ne hd ht hq (fun h => kt (fun e => h ((nI_eq ha hb).mpr e))) (fun h => kf ((nI_eq ha hb).mp h))
theorem g_icmp_lt {off : Int} {t : Nat} {x y1 : Int32} (hd : decode cc pc = .ok (.if_icmp .lt off, 3)) (ht : (pc : Int) + off = (t : Int)) (hq : pc + 3 = q) (kt : x < y1 → GG sk own y cc nL rt d mc ms Ψ k n t l st ws) (kf : ¬ x < y1 → GG sk own y cc nL rt d mc ms Ψ k n q l st ws) : GG sk own y cc nL rt d mc ms Ψ k n pc l (.int y1 :: .int x :: st) ws := by
  subst hq
  intro p la e s m args below meth c G ca A H locs ls C hl hP hD hS
  exact lv_icmp_lt C.1 C.2.1 hd ht (fun h => kt h p la e s m args below meth c G ca A H locs ls C hl hP hD hS) (fun h => kf h p la e s m args below meth c G ca A H locs ls C hl hP hD hS)
theorem g_icmp_ltN {off : Int} {t : Nat} {a b : Nat} (hd : decode cc pc = .ok (.if_icmp .lt off, 3)) (ht : (pc : Int) + off = (t : Int)) (hq : pc + 3 = q) (ha : a < 2 ^ 31) (hb : b < 2 ^ 31) (kt : a < b → GG sk own y cc nL rt d mc ms Ψ k n t l st ws) (kf : b ≤ a → GG sk own y cc nL rt d mc ms Ψ k n q l st ws) : GG sk own y cc nL rt d mc ms Ψ k n pc l (.int (nI b) :: .int (nI a) :: st) ws :=
  g_icmp_lt hd ht hq (fun h => kt ((nI_ltI ha hb).mp h)) (fun h => kf (Nat.not_lt.mp (fun e => h ((nI_ltI ha hb).mpr e))))
theorem g_icmp_ge {off : Int} {t : Nat} {x y1 : Int32} (hd : decode cc pc = .ok (.if_icmp .ge off, 3)) (ht : (pc : Int) + off = (t : Int)) (hq : pc + 3 = q) (kt : y1 ≤ x → GG sk own y cc nL rt d mc ms Ψ k n t l st ws) (kf : ¬ y1 ≤ x → GG sk own y cc nL rt d mc ms Ψ k n q l st ws) : GG sk own y cc nL rt d mc ms Ψ k n pc l (.int y1 :: .int x :: st) ws := by
  subst hq
  intro p la e s m args below meth c G ca A H locs ls C hl hP hD hS
  exact lv_icmp_ge C.1 C.2.1 hd ht (fun h => kt h p la e s m args below meth c G ca A H locs ls C hl hP hD hS) (fun h => kf h p la e s m args below meth c G ca A H locs ls C hl hP hD hS)
theorem g_icmp_geN {off : Int} {t : Nat} {a b : Nat} (hd : decode cc pc = .ok (.if_icmp .ge off, 3)) (ht : (pc : Int) + off = (t : Int)) (hq : pc + 3 = q) (ha : a < 2 ^ 31) (hb : b < 2 ^ 31) (kt : b ≤ a → GG sk own y cc nL rt d mc ms Ψ k n t l st ws) (kf : a < b → GG sk own y cc nL rt d mc ms Ψ k n q l st ws) : GG sk own y cc nL rt d mc ms Ψ k n pc l (.int (nI b) :: .int (nI a) :: st) ws :=
  g_icmp_ge hd ht hq (fun h => kt ((nI_leI hb ha).mp h)) (fun h => kf (Nat.not_le.mp (fun e => h ((nI_leI hb ha).mpr e))))
theorem g_icmp_gt {off : Int} {t : Nat} {x y1 : Int32} (hd : decode cc pc = .ok (.if_icmp .gt off, 3)) (ht : (pc : Int) + off = (t : Int)) (hq : pc + 3 = q) (kt : y1 < x → GG sk own y cc nL rt d mc ms Ψ k n t l st ws) (kf : ¬ y1 < x → GG sk own y cc nL rt d mc ms Ψ k n q l st ws) : GG sk own y cc nL rt d mc ms Ψ k n pc l (.int y1 :: .int x :: st) ws := by
  subst hq
  intro p la e s m args below meth c G ca A H locs ls C hl hP hD hS
  exact lv_icmp_gt C.1 C.2.1 hd ht (fun h => kt h p la e s m args below meth c G ca A H locs ls C hl hP hD hS) (fun h => kf h p la e s m args below meth c G ca A H locs ls C hl hP hD hS)
theorem g_icmp_gtN {off : Int} {t : Nat} {a b : Nat} (hd : decode cc pc = .ok (.if_icmp .gt off, 3)) (ht : (pc : Int) + off = (t : Int)) (hq : pc + 3 = q) (ha : a < 2 ^ 31) (hb : b < 2 ^ 31) (kt : b < a → GG sk own y cc nL rt d mc ms Ψ k n t l st ws) (kf : a ≤ b → GG sk own y cc nL rt d mc ms Ψ k n q l st ws) : GG sk own y cc nL rt d mc ms Ψ k n pc l (.int (nI b) :: .int (nI a) :: st) ws :=
  g_icmp_gt hd ht hq (fun h => kt ((nI_ltI hb ha).mp h)) (fun h => kf (Nat.not_lt.mp (fun e => h ((nI_ltI hb ha).mpr e))))
theorem g_icmp_le {off : Int} {t : Nat} {x y1 : Int32} (hd : decode cc pc = .ok (.if_icmp .le off, 3)) (ht : (pc : Int) + off = (t : Int)) (hq : pc + 3 = q) (kt : x ≤ y1 → GG sk own y cc nL rt d mc ms Ψ k n t l st ws) (kf : ¬ x ≤ y1 → GG sk own y cc nL rt d mc ms Ψ k n q l st ws) : GG sk own y cc nL rt d mc ms Ψ k n pc l (.int y1 :: .int x :: st) ws := by
  subst hq
  intro p la e s m args below meth c G ca A H locs ls C hl hP hD hS
  exact lv_icmp_le C.1 C.2.1 hd ht (fun h => kt h p la e s m args below meth c G ca A H locs ls C hl hP hD hS) (fun h => kf h p la e s m args below meth c G ca A H locs ls C hl hP hD hS)
theorem g_icmp_leN {off : Int} {t : Nat} {a b : Nat} (hd : decode cc pc = .ok (.if_icmp .le off, 3)) (ht : (pc : Int) + off = (t : Int)) (hq : pc + 3 = q) (ha : a < 2 ^ 31) (hb : b < 2 ^ 31) (kt : a ≤ b → GG sk own y cc nL rt d mc ms Ψ k n t l st ws) (kf : b < a → GG sk own y cc nL rt d mc ms Ψ k n q l st ws) : GG sk own y cc nL rt d mc ms Ψ k n pc l (.int (nI b) :: .int (nI a) :: st) ws :=
  g_icmp_le hd ht hq (fun h => kt ((nI_leI ha hb).mp h)) (fun h => kf (Nat.not_le.mp (fun e => h ((nI_leI ha hb).mpr e))))
theorem g_if_eq {off : Int} {t : Nat} {x : Int32} (hd : decode cc pc = .ok (.ifCond .eq off, 3)) (ht : (pc : Int) + off = (t : Int)) (hq : pc + 3 = q) (kt : x = 0 → GG sk own y cc nL rt d mc ms Ψ k n t l st ws) (kf : ¬ x = 0 → GG sk own y cc nL rt d mc ms Ψ k n q l st ws) : GG sk own y cc nL rt d mc ms Ψ k n pc l (.int x :: st) ws := by
  subst hq
  intro p la e s m args below meth c G ca A H locs ls C hl hP hD hS
  exact lv_if_eq C.1 C.2.1 hd ht (fun h => kt h p la e s m args below meth c G ca A H locs ls C hl hP hD hS) (fun h => kf h p la e s m args below meth c G ca A H locs ls C hl hP hD hS)
theorem g_if_ne {off : Int} {t : Nat} {x : Int32} (hd : decode cc pc = .ok (.ifCond .ne off, 3)) (ht : (pc : Int) + off = (t : Int)) (hq : pc + 3 = q) (kt : ¬ x = 0 → GG sk own y cc nL rt d mc ms Ψ k n t l st ws) (kf : x = 0 → GG sk own y cc nL rt d mc ms Ψ k n q l st ws) : GG sk own y cc nL rt d mc ms Ψ k n pc l (.int x :: st) ws := by
  subst hq
  intro p la e s m args below meth c G ca A H locs ls C hl hP hD hS
  exact lv_if_ne C.1 C.2.1 hd ht (fun h => kt h p la e s m args below meth c G ca A H locs ls C hl hP hD hS) (fun h => kf h p la e s m args below meth c G ca A H locs ls C hl hP hD hS)
theorem g_if_lt {off : Int} {t : Nat} {x : Int32} (hd : decode cc pc = .ok (.ifCond .lt off, 3)) (ht : (pc : Int) + off = (t : Int)) (hq : pc + 3 = q) (kt : x < 0 → GG sk own y cc nL rt d mc ms Ψ k n t l st ws) (kf : ¬ x < 0 → GG sk own y cc nL rt d mc ms Ψ k n q l st ws) : GG sk own y cc nL rt d mc ms Ψ k n pc l (.int x :: st) ws := by
  subst hq
  intro p la e s m args below meth c G ca A H locs ls C hl hP hD hS
  exact lv_if_lt C.1 C.2.1 hd ht (fun h => kt h p la e s m args below meth c G ca A H locs ls C hl hP hD hS) (fun h => kf h p la e s m args below meth c G ca A H locs ls C hl hP hD hS)
theorem g_if_ge {off : Int} {t : Nat} {x : Int32} (hd : decode cc pc = .ok (.ifCond .ge off, 3)) (ht : (pc : Int) + off = (t : Int)) (hq : pc + 3 = q) (kt : 0 ≤ x → GG sk own y cc nL rt d mc ms Ψ k n t l st ws) (kf : ¬ 0 ≤ x → GG sk own y cc nL rt d mc ms Ψ k n q l st ws) : GG sk own y cc nL rt d mc ms Ψ k n pc l (.int x :: st) ws := by
  subst hq
  intro p la e s m args below meth c G ca A H locs ls C hl hP hD hS
  exact lv_if_ge C.1 C.2.1 hd ht (fun h => kt h p la e s m args below meth c G ca A H locs ls C hl hP hD hS) (fun h => kf h p la e s m args below meth c G ca A H locs ls C hl hP hD hS)
theorem g_if_gt {off : Int} {t : Nat} {x : Int32} (hd : decode cc pc = .ok (.ifCond .gt off, 3)) (ht : (pc : Int) + off = (t : Int)) (hq : pc + 3 = q) (kt : 0 < x → GG sk own y cc nL rt d mc ms Ψ k n t l st ws) (kf : ¬ 0 < x → GG sk own y cc nL rt d mc ms Ψ k n q l st ws) : GG sk own y cc nL rt d mc ms Ψ k n pc l (.int x :: st) ws := by
  subst hq
  intro p la e s m args below meth c G ca A H locs ls C hl hP hD hS
  exact lv_if_gt C.1 C.2.1 hd ht (fun h => kt h p la e s m args below meth c G ca A H locs ls C hl hP hD hS) (fun h => kf h p la e s m args below meth c G ca A H locs ls C hl hP hD hS)
theorem g_if_le {off : Int} {t : Nat} {x : Int32} (hd : decode cc pc = .ok (.ifCond .le off, 3)) (ht : (pc : Int) + off = (t : Int)) (hq : pc + 3 = q) (kt : x ≤ 0 → GG sk own y cc nL rt d mc ms Ψ k n t l st ws) (kf : ¬ x ≤ 0 → GG sk own y cc nL rt d mc ms Ψ k n q l st ws) : GG sk own y cc nL rt d mc ms Ψ k n pc l (.int x :: st) ws := by
  subst hq
  intro p la e s m args below meth c G ca A H locs ls C hl hP hD hS
  exact lv_if_le C.1 C.2.1 hd ht (fun h => kt h p la e s m args below meth c G ca A H locs ls C hl hP hD hS) (fun h => kf h p la e s m args below meth c G ca A H locs ls C hl hP hD hS)
/-- a boolean on the stack -/
def zb (b : Bool) : Int32 := match b with
  | true => 1
  | false => 0
theorem zb_t {b : Bool} (h : ¬ zb b = 0) : b = true := by cases b with
  | true => rfl
  | false => exact absurd rfl h
theorem zb_f {b : Bool} (h : zb b = 0) : b = false := by cases b with
  | true => exact absurd h (by decide)
  | false => rfl
theorem g_if_eqB {off : Int} {t : Nat} {b : Bool} (hd : decode cc pc = .ok (.ifCond .eq off, 3)) (ht : (pc : Int) + off = (t : Int)) (hq : pc + 3 = q) (kt : b = false → GG sk own y cc nL rt d mc ms Ψ k n t l st ws) (kf : b = true → GG sk own y cc nL rt d mc ms Ψ k n q l st ws) : GG sk own y cc nL rt d mc ms Ψ k n pc l (.int (zb b) :: st) ws := g_if_eq hd ht hq (fun h => kt (zb_f h)) (fun h => kf (zb_t h))
theorem g_if_neB {off : Int} {t : Nat} {b : Bool} (hd : decode cc pc = .ok (.ifCond .ne off, 3)) (ht : (pc : Int) + off = (t : Int)) (hq : pc + 3 = q) (kt : b = true → GG sk own y cc nL rt d mc ms Ψ k n t l st ws) (kf : b = false → GG sk own y cc nL rt d mc ms Ψ k n q l st ws) : GG sk own y cc nL rt d mc ms Ψ k n pc l (.int (zb b) :: st) ws := g_if_ne hd ht hq (fun h => kt (zb_t h)) (fun h => kf (zb_f h))
theorem g_dup2 {v w : Value} (hd : decode cc pc = .ok (.dup2, 1)) (hq : pc + 1 = q) (hv : v.category = 1) (hw : w.category = 1) (kk : GG sk own y cc nL rt d mc ms Ψ k n q l (v :: w :: v :: w :: st) ws) : GG sk own y cc nL rt d mc ms Ψ k n pc l (v :: w :: st) ws := by
  subst hq
  intro p la e s m args below meth c G ca A H locs ls C hl hP hD hS
  exact lv_dup2_11 C.1 C.2.1 hd hv hw (kk p la e s m args below meth c G ca A H locs ls C hl hP hD hS)
theorem g_tblOut {dflt lo hi : Int} {offs : Array Int} {len : Nat} {x : Int32} (hd : decode cc pc = .ok (.tableswitch dflt lo hi offs, len)) (h : x.toInt < lo ∨ hi < x.toInt) (ht : (pc : Int) + dflt = (q : Int)) (kk : GG sk own y cc nL rt d mc ms Ψ k n q l st ws) : GG sk own y cc nL rt d mc ms Ψ k n pc l (.int x :: st) ws := by
  intro p la e s m args below meth c G ca A H locs ls C hl hP hD hS
  exact lv_tableOut C.1 C.2.1 hd h ht (kk p la e s m args below meth c G ca A H locs ls C hl hP hD hS)
theorem g_tblIn {dflt lo hi : Int} {offs : Array Int} {len : Nat} {x : Int32} {off : Int} (hd : decode cc pc = .ok (.tableswitch dflt lo hi offs, len)) (h1 : ¬ x.toInt < lo) (h2 : ¬ hi < x.toInt) (ho : offs[(x.toInt - lo).toNat]? = some off) (ht : (pc : Int) + off = (q : Int)) (kk : GG sk own y cc nL rt d mc ms Ψ k n q l st ws) : GG sk own y cc nL rt d mc ms Ψ k n pc l (.int x :: st) ws := by
  intro p la e s m args below meth c G ca A H locs ls C hl hP hD hS
  exact lv_tableIn C.1 C.2.1 hd h1 h2 ho ht (kk p la e s m args below meth c G ca A H locs ls C hl hP hD hS)
theorem g_get {i ci kf a : Nat} {ty : FieldType} {fin : Bool} {fs : List Value} {v : Value} (F : FL own i ci kf ty fin) (hd : decode cc pc = .ok (.getfield i, 3)) (hq : pc + 3 = q) (q0 : Nat) (he : ws[q0]? = some (a, .inr (ci, fs))) (hv : fs[kf]? = some v) (kk : GG sk own y cc nL rt d mc ms Ψ k n q l (v :: st) ws) : GG sk own y cc nL rt d mc ms Ψ k n pc l (.ref a :: st) ws := by
  subst hq
  intro p la e s m args below meth c G ca A H locs ls C hl hP hD hS
  obtain ⟨C0, T, N, ty0, h1, h2, h3, h4, h5, h6, h7, h8, h9⟩ := F
  have hts := C.2.2.2.2.2.2.2.1
  exact va_get (ci := ci) C.1 C.2.1 hts h3 C.2.2.2.2.2.1 C.2.2.2.2.2.2.2.2.1 hP q0 (zW_get ca he) h1 kf h2 (hts _ h4) (fun x hx => by rw [h5] at hx; exact hx) hv hd (kk p la e s m args below meth c G ca A H locs ls C hl hP hD hS)
theorem g_put {i ci kf a : Nat} {ty : FieldType} {fs : List Value} {v : Value} (F : FL own i ci kf ty false) (hd : decode cc pc = .ok (.putfield i, 3)) (hq : pc + 3 = q) (q0 : Nat) (he : ws[q0]? = some (a, .inr (ci, fs))) (hn : narrow ty v = v) (hf : fits ty v = true) (hk : kf < fs.length) {ws' : AW} (hw : ws.set q0 (a, .inr (ci, fs.set kf v)) = ws') (kk : GG sk own y cc nL rt d mc ms Ψ k n q l st ws') : GG sk own y cc nL rt d mc ms Ψ k n pc l (v :: .ref a :: st) ws := by
  subst hq; subst hw
  intro p la e s m args below meth c G ca A H locs ls C hl hP hD hS
  obtain ⟨C0, T, N, ty0, h1, h2, h3, h4, h5, h6, h7, h8, h9⟩ := F
  have hts := C.2.2.2.2.2.2.2.1
  refine va_put (ci := ci) C.1 C.2.1 hts h3 ty0 h6 h7 C.2.2.2.2.2.1 C.2.2.2.2.2.2.2.2.1 hP hD hS q0 (zW_get ca he) h1 kf h2 (hts _ h4) (fun x hx => by rw [h5] at hx; exact hx) h9 h8 hn hf hk hd (fun H1 locs1 hP1 hD1 hS1 => ?_)
  have e1 := zW_set ca ws q0 a (.inr (ci, fs.set kf v))
  exact kk p la e s m args below meth c G ca A H1 locs1 ls C hl (e1 ▸ hP1) (e1 ▸ hD1) hS1
theorem g_putI {i ci kf a : Nat} {fs : List Value} {x : Int32} (F : FL own i ci kf .int false) (hd : decode cc pc = .ok (.putfield i, 3)) (hq : pc + 3 = q) (q0 : Nat) (he : ws[q0]? = some (a, .inr (ci, fs))) (hk : kf < fs.length) {ws' : AW} (hw : ws.set q0 (a, .inr (ci, fs.set kf (.int x))) = ws') (kk : GG sk own y cc nL rt d mc ms Ψ k n q l st ws') : GG sk own y cc nL rt d mc ms Ψ k n pc l (.int x :: .ref a :: st) ws := g_put F hd hq q0 he (vp_nar_int x) rfl hk hw kk
theorem zb_nar (b : Bool) : narrow .boolean (.int (zb b)) = .int (zb b) ∧ fits .boolean (.int (zb b)) = true := by cases b <;> exact ⟨by decide, by decide⟩
theorem zb_vnar (b : Bool) : vp_nar .boolean (zb b) = zb b := by cases b <;> decide
theorem g_putZ {i ci kf a : Nat} {fs : List Value} {b : Bool} (F : FL own i ci kf .boolean false) (hd : decode cc pc = .ok (.putfield i, 3)) (hq : pc + 3 = q) (q0 : Nat) (he : ws[q0]? = some (a, .inr (ci, fs))) (hk : kf < fs.length) {ws' : AW} (hw : ws.set q0 (a, .inr (ci, fs.set kf (.int (zb b)))) = ws') (kk : GG sk own y cc nL rt d mc ms Ψ k n q l st ws') : GG sk own y cc nL rt d mc ms Ψ k n pc l (.int (zb b) :: .ref a :: st) ws := g_put F hd hq q0 he (zb_nar b).1 (zb_nar b).2 hk hw kk
theorem g_putF {i ci kf a : Nat} {ty : FieldType} {fs : List Value} {v : Value} (F : FL own i ci kf ty true) (hi : y.name = "<init>") (hC : ∀ (C : String) (T : u_T) (N : Nat), vwCl[ci]? = some (C, T, N) → C = own) (hd : decode cc pc = .ok (.putfield i, 3)) (hq : pc + 3 = q) (q0 : Nat) (he : ws[q0]? = some (a, .inr (ci, fs))) (hn : narrow ty v = v) (hf : fits ty v = true) (hk : kf < fs.length) {ws' : AW} (hw : ws.set q0 (a, .inr (ci, fs.set kf v)) = ws') (kk : GG sk own y cc nL rt d mc ms Ψ k n q l st ws') : GG sk own y cc nL rt d mc ms Ψ k n pc l (v :: .ref a :: st) ws := by
  subst hq; subst hw
  intro p la e s m args below meth c G ca A H locs ls C hl hP hD hS
  obtain ⟨C0, T, N, ty0, h1, h2, h3, h4, h5, h6, h7, h8, h9⟩ := F
  have hts := C.2.2.2.2.2.2.2.1
  refine va_putF (ci := ci) C.1 C.2.1 hts h3 ty0 h6 h7 C.2.2.2.2.2.1 C.2.2.2.2.2.2.2.2.1 hP hD hS q0 (zW_get ca he) h1 kf h2 (hts _ h4) (fun x hx => by rw [h5] at hx; exact hx) h9 (C.2.2.2.2.2.2.1.trans hi) (h5.trans (hC _ _ _ h1)) h8 hn hf hk hd (fun H1 locs1 hP1 hD1 hS1 => ?_)
  have e1 := zW_set ca ws q0 a (.inr (ci, fs.set kf v))
  exact kk p la e s m args below meth c G ca A H1 locs1 ls C hl (e1 ▸ hP1) (e1 ▸ hD1) hS1
theorem g_alen {a t : Nat} {x : vp_A} (hd : decode cc pc = .ok (.arraylength, 1)) (hq : pc + 1 = q) (q0 : Nat) (he : ws[q0]? = some (a, .inl (t, x))) (ht : t < 5) {v : Int32} (hv : nI x.1 = v) (kk : GG sk own y cc nL rt d mc ms Ψ k n q l (.int v :: st) ws) : GG sk own y cc nL rt d mc ms Ψ k n pc l (.ref a :: st) ws := by
  subst hq
  intro p la e s m args below meth c G ca A H locs ls C hl hP hD hS
  have hK := C.2.2.2.2.2.2.2.2.1
  have h5 : ∃ ty, (zTys ca)[t]? = some (ca t, ty) := by
    rcases (show t = 0 ∨ t = 1 ∨ t = 2 ∨ t = 3 ∨ t = 4 by omega) with rfl | rfl | rfl | rfl | rfl <;> exact ⟨_, rfl⟩
  obtain ⟨ty, h5⟩ := h5
  exact va_alen C.1 C.2.1 hK hP q0 t (zW_get ca he) h5 hv hd (kk p la e s m args below meth c G ca A H locs ls C hl hP hD hS)
theorem g_iald {a nn : Nat} {f : Nat → Int32} {i v : Int32} (hd : decode cc pc = .ok (.iaload, 1)) (hq : pc + 1 = q) (q0 : Nat) (he : ws[q0]? = some (a, .inl (0, nn, .inl f))) (hin : vp_in i nn) (hv : f i.toNatClampNeg = v) (kk : GG sk own y cc nL rt d mc ms Ψ k n q l (.int v :: st) ws) : GG sk own y cc nL rt d mc ms Ψ k n pc l (.int i :: .ref a :: st) ws := by
  subst hq; subst hv
  intro p la e s m args below meth c G ca A H locs ls C hl hP hD hS
  exact va_iald C.1 C.2.1 C.2.2.2.2.2.2.2.2.1 hP q0 0 (zW_get ca he) rfl hin hd (kk p la e s m args below meth c G ca A H locs ls C hl hP hD hS)
theorem g_ialdN {a nn j : Nat} {f : Nat → Int32} {v : Int32} (hd : decode cc pc = .ok (.iaload, 1)) (hq : pc + 1 = q) (q0 : Nat) (he : ws[q0]? = some (a, .inl (0, nn, .inl f))) (hj : j < nn) (hn : nn < 2 ^ 31) (hv : f j = v) (kk : GG sk own y cc nL rt d mc ms Ψ k n q l (.int v :: st) ws) : GG sk own y cc nL rt d mc ms Ψ k n pc l (.int (nI j) :: .ref a :: st) ws := g_iald hd hq q0 he (vp_in_nI hj hn) (by rw [nI_clamp (by omega)]; exact hv) kk
theorem g_baldN {a nn j : Nat} {f : Nat → Int32} {v : Int32} (hd : decode cc pc = .ok (.baload, 1)) (hq : pc + 1 = q) (q0 : Nat) (he : ws[q0]? = some (a, .inl (1, nn, .inl f))) (hj : j < nn) (hn : nn < 2 ^ 31) (hv : f j = v) (kk : GG sk own y cc nL rt d mc ms Ψ k n q l (.int v :: st) ws) : GG sk own y cc nL rt d mc ms Ψ k n pc l (.int (nI j) :: .ref a :: st) ws := by
  subst hq; subst hv
  intro p la e s m args below meth c G ca A H locs ls C hl hP hD hS
  refine va_bald C.1 C.2.1 C.2.2.2.2.2.2.2.2.1 hP q0 1 (zW_get ca he) rfl (vp_in_nI hj hn) hd ?_
  rw [nI_clamp (by omega)]
  exact kk p la e s m args below meth c G ca A H locs ls C hl hP hD hS
theorem g_zaldN {a nn j : Nat} {f : Nat → Int32} {v : Int32} (hd : decode cc pc = .ok (.baload, 1)) (hq : pc + 1 = q) (q0 : Nat) (he : ws[q0]? = some (a, .inl (2, nn, .inl f))) (hj : j < nn) (hn : nn < 2 ^ 31) (hv : f j = v) (kk : GG sk own y cc nL rt d mc ms Ψ k n q l (.int v :: st) ws) : GG sk own y cc nL rt d mc ms Ψ k n pc l (.int (nI j) :: .ref a :: st) ws := by
  subst hq; subst hv
  intro p la e s m args below meth c G ca A H locs ls C hl hP hD hS
  refine va_zald C.1 C.2.1 C.2.2.2.2.2.2.2.2.1 hP q0 2 (zW_get ca he) rfl (vp_in_nI hj hn) hd ?_
  rw [nI_clamp (by omega)]
  exact kk p la e s m args below meth c G ca A H locs ls C hl hP hD hS
theorem g_iast {a nn : Nat} {f g : Nat → Int32} {i x : Int32} (hd : decode cc pc = .ok (.iastore, 1)) (hq : pc + 1 = q) (q0 : Nat) (he : ws[q0]? = some (a, .inl (0, nn, .inl f))) (hin : vp_in i nn) (hg : upd f i.toNatClampNeg x = g) {ws' : AW} (hw : ws.set q0 (a, .inl (0, nn, .inl g)) = ws') (kk : GG sk own y cc nL rt d mc ms Ψ k n q l st ws') : GG sk own y cc nL rt d mc ms Ψ k n pc l (.int x :: .int i :: .ref a :: st) ws := by
  subst hq; subst hg; subst hw
  intro p la e s m args below meth c G ca A H locs ls C hl hP hD hS
  refine va_iast C.1 C.2.1 C.2.2.2.2.2.2.2.2.1 hP hD hS q0 0 (zW_get ca he) rfl hin hd (fun H1 locs1 hP1 hD1 hS1 => ?_)
  have e1 := zW_set ca ws q0 a (.inl (0, nn, .inl (upd f i.toNatClampNeg x)))
  exact kk p la e s m args below meth c G ca A H1 locs1 ls C hl (e1 ▸ hP1) (e1 ▸ hD1) hS1
theorem g_iastN {a nn j : Nat} {f g : Nat → Int32} {x : Int32} (hd : decode cc pc = .ok (.iastore, 1)) (hq : pc + 1 = q) (q0 : Nat) (he : ws[q0]? = some (a, .inl (0, nn, .inl f))) (hj : j < nn) (hn : nn < 2 ^ 31) (hg : upd f j x = g) {ws' : AW} (hw : ws.set q0 (a, .inl (0, nn, .inl g)) = ws') (kk : GG sk own y cc nL rt d mc ms Ψ k n q l st ws') : GG sk own y cc nL rt d mc ms Ψ k n pc l (.int x :: .int (nI j) :: .ref a :: st) ws := g_iast hd hq q0 he (vp_in_nI hj hn) (by rw [nI_clamp (by omega)]; exact hg) hw kk
theorem g_bastN {a nn j : Nat} {f g : Nat → Int32} {x : Int32} (hd : decode cc pc = .ok (.bastore, 1)) (hq : pc + 1 = q) (q0 : Nat) (he : ws[q0]? = some (a, .inl (1, nn, .inl f))) (hj : j < nn) (hn : nn < 2 ^ 31) (hg : upd f j x.toInt8.toInt32 = g) {ws' : AW} (hw : ws.set q0 (a, .inl (1, nn, .inl g)) = ws') (kk : GG sk own y cc nL rt d mc ms Ψ k n q l st ws') : GG sk own y cc nL rt d mc ms Ψ k n pc l (.int x :: .int (nI j) :: .ref a :: st) ws := by
  subst hq; subst hg; subst hw
  intro p la e s m args below meth c G ca A H locs ls C hl hP hD hS
  refine va_bast C.1 C.2.1 C.2.2.2.2.2.2.2.2.1 hP hD hS q0 1 (zW_get ca he) rfl (vp_in_nI hj hn) hd (fun H1 locs1 hP1 hD1 hS1 => ?_)
  rw [nI_clamp (by omega), vp_nar_byte] at hP1 hD1
  have e1 := zW_set ca ws q0 a (.inl (1, nn, .inl (upd f j x.toInt8.toInt32)))
  exact kk p la e s m args below meth c G ca A H1 locs1 ls C hl (e1 ▸ hP1) (e1 ▸ hD1) hS1
theorem g_zastN {a nn j : Nat} {f g : Nat → Int32} {b : Bool} (hd : decode cc pc = .ok (.bastore, 1)) (hq : pc + 1 = q) (q0 : Nat) (he : ws[q0]? = some (a, .inl (2, nn, .inl f))) (hj : j < nn) (hn : nn < 2 ^ 31) (hg : upd f j (zb b) = g) {ws' : AW} (hw : ws.set q0 (a, .inl (2, nn, .inl g)) = ws') (kk : GG sk own y cc nL rt d mc ms Ψ k n q l st ws') : GG sk own y cc nL rt d mc ms Ψ k n pc l (.int (zb b) :: .int (nI j) :: .ref a :: st) ws := by
  subst hq; subst hg; subst hw
  intro p la e s m args below meth c G ca A H locs ls C hl hP hD hS
  refine va_zast C.1 C.2.1 C.2.2.2.2.2.2.2.2.1 hP hD hS q0 2 (zW_get ca he) rfl (vp_in_nI hj hn) hd (fun H1 locs1 hP1 hD1 hS1 => ?_)
  rw [nI_clamp (by omega), zb_vnar] at hP1 hD1
  have e1 := zW_set ca ws q0 a (.inl (2, nn, .inl (upd f j (zb b))))
  exact kk p la e s m args below meth c G ca A H1 locs1 ls C hl (e1 ▸ hP1) (e1 ▸ hD1) hS1
theorem g_aldP {a nn j r : Nat} {f : Nat → Option Nat} (hd : decode cc pc = .ok (.aaload, 1)) (hq : pc + 1 = q) (q0 : Nat) (he : ws[q0]? = some (a, .inl (3, nn, .inr (.inr (.inr (.inr f)))))) (hj : j < nn) (hn : nn < 2 ^ 31) (hv : f j = some r) (kk : GG sk own y cc nL rt d mc ms Ψ k n q l (.ref r :: st) ws) : GG sk own y cc nL rt d mc ms Ψ k n pc l (.int (nI j) :: .ref a :: st) ws := by
  subst hq
  intro p la e s m args below meth c G ca A H locs ls C hl hP hD hS
  refine va_aldq C.1 C.2.1 C.2.2.2.2.2.2.2.2.1 hP q0 3 (zW_get ca he) rfl (vp_in_nI hj hn) hd ?_
  rw [nI_clamp (by omega), hv]
  exact kk p la e s m args below meth c G ca A H locs ls C hl hP hD hS
theorem g_iret {v : Int32} (hd : decode cc pc = .ok (.ireturn, 1)) (hr : rt = some .int) (hk : k ≤ mc) (hn : n ≤ ms) (h : Ψ (some (.int v)) ws) : GG sk own y cc nL rt d mc ms Ψ k n pc l [.int v] ws := by
  intro p la e s m args below meth c G ca A H locs ls C hl hP hD hS
  refine W.widen hk hn ?_
  exact W.iret C.1 C.2.1 (C.2.2.1.trans hr) (fun t ht hW => ⟨⟨_, ws, rfl, h, by rw [ht]; exact hP, hD⟩, hS.F ht⟩) hS.2.2 hd C.2.2.2.1
theorem g_zret {b : Bool} (hd : decode cc pc = .ok (.ireturn, 1)) (hr : rt = some .boolean) (hk : k ≤ mc) (hn : n ≤ ms) (h : Ψ (some (.int (zb b))) ws) : GG sk own y cc nL rt d mc ms Ψ k n pc l [.int (zb b)] ws := by
  intro p la e s m args below meth c G ca A H locs ls C hl hP hD hS
  refine W.widen hk hn ?_
  exact W.zret C.1 C.2.1 (C.2.2.1.trans hr) (zb_nar b).1 (fun t ht hW => ⟨⟨_, ws, rfl, h, by rw [ht]; exact hP, hD⟩, hS.F ht⟩) hS.2.2 hd C.2.2.2.1
theorem g_vret (hd : decode cc pc = .ok (.return_, 1)) (hr : rt = none) (hk : k ≤ mc) (hn : n ≤ ms) (h : Ψ none ws) : GG sk own y cc nL rt d mc ms Ψ k n pc l [] ws := by
  intro p la e s m args below meth c G ca A H locs ls C hl hP hD hS
  refine W.widen hk hn ?_
  exact W.vret C.1 C.2.1 (C.2.2.1.trans hr) (fun t ht hW => ⟨⟨_, ws, rfl, h, by rw [ht]; exact hP, hD⟩, hS.F ht⟩) hS.2.2 hd C.2.2.2.1
theorem g_lret {v : Int64} (hd : decode cc pc = .ok (.lreturn, 1)) (hr : rt = some .long) (hk : k ≤ mc) (hn : n ≤ ms) (h : Ψ (some (.long v)) ws) : GG sk own y cc nL rt d mc ms Ψ k n pc l [.long v] ws := by
  intro p la e s m args below meth c G ca A H locs ls C hl hP hD hS
  refine W.widen hk hn ?_
  exact W.lret C.1 C.2.1 (C.2.2.1.trans hr) (fun t ht hW => ⟨⟨_, ws, rfl, h, by rw [ht]; exact hP, hD⟩, hS.F ht⟩) hS.2.2 hd C.2.2.2.1
/-- max and min of the JDK -/
theorem g_max {i : Nat} {a b v : Int32} (M : MS own i Lib.Math.max.name) (hd : decode cc pc = .ok (.invokestatic i, 3)) (hq : pc + 3 = q) (h1 : 1 ≤ d) (hc : k ≤ mc) (hs : n ≤ ms) (hr : (st.map fun v => v.category).sum ≤ 8) (hv : (if a < b then b else a) = v) (kk : GG sk own y cc nL rt d mc ms Ψ k n q l (.int v :: st) ws) : GG sk own y cc nL rt d mc ms Ψ k n pc l (.int b :: .int a :: st) ws := by
  subst hq; subst hv
  intro p la e s m args below meth c G ca A H locs ls C hl hP hD hS
  have hts := C.2.2.2.2.2.2.2.1
  exact va_mmax C.1 C.2.1 (C.2.2.2.2.1.trans hl.1.symm) C.2.2.2.2.2.1 (hts _ M.1) (hts _ M.2) (hts _ a_J9_max_7cf53.2.1) (hts _ a_J9_max_7cf53.1) h1 (by show _ ≤ 64 * d; omega) hc hs hd (kk p la e s m args below meth c G ca A H locs ls C hl hP hD hS)
theorem g_min {i : Nat} {a b v : Int32} (M : MS own i Lib.Math.min.name) (hd : decode cc pc = .ok (.invokestatic i, 3)) (hq : pc + 3 = q) (h1 : 1 ≤ d) (hc : k ≤ mc) (hs : n ≤ ms) (hr : (st.map fun v => v.category).sum ≤ 8) (hv : (if b < a then b else a) = v) (kk : GG sk own y cc nL rt d mc ms Ψ k n q l (.int v :: st) ws) : GG sk own y cc nL rt d mc ms Ψ k n pc l (.int b :: .int a :: st) ws := by
  subst hq; subst hv
  intro p la e s m args below meth c G ca A H locs ls C hl hP hD hS
  have hts := C.2.2.2.2.2.2.2.1
  exact va_mmin C.1 C.2.1 (C.2.2.2.2.1.trans hl.1.symm) C.2.2.2.2.2.1 (hts _ M.1) (hts _ M.2) (hts _ a_J9_min_7cf53.2.1) (hts _ a_J9_min_7cf53.1) h1 (by show _ ≤ 64 * d; omega) hc hs hd (kk p la e s m args below meth c G ca A H locs ls C hl hP hD hS)
/-- another text of the same arrays: only what stands within their lengths counts -/
theorem zCell {c : ClassId} {nn : Nat} {f g : Nat → Int32} (h : ∀ j, j < nn → f j = g j) : vp_cell c (nn, .inl f) = vp_cell c (nn, .inl g) := by
  show arrV c nn (fun j => .int (f j)) = arrV c nn (fun j => .int (g j))
  unfold arrV
  have e : (Array.ofFn (n := nn) fun j => Value.int (f j.val)) = Array.ofFn (n := nn) fun j => Value.int (g j.val) := by
    congr 1
    funext j
    rw [h j.val j.isLt]
  rw [e]
theorem g_cong {a t nn : Nat} {f g : Nat → Int32} (q0 : Nat) (he : ws[q0]? = some (a, .inl (t, nn, .inl f))) (h : ∀ j, j < nn → f j = g j) {ws' : AW} (hw : ws.set q0 (a, .inl (t, nn, .inl g)) = ws') (kk : GG sk own y cc nL rt d mc ms Ψ k n pc l st ws') : GG sk own y cc nL rt d mc ms Ψ k n pc l st ws := by
  subst hw
  intro p la e s m args below meth c G ca A H locs ls C hl hP hD hS
  have e1 := zW_set ca ws q0 a (.inl (t, nn, .inl g))
  have h1 := zW_get ca he
  refine kk p la e s m args below meth c G ca A H locs ls C hl (e1 ▸ hP.set hD h1 ?_ (fun _ _ => rfl)) (e1 ▸ hD.set h1) hS
  have h2 := hP q0 _ h1
  show H[a]? = some (vp_cell (ca t) (nn, .inl g))
  rw [← zCell h]
  exact h2

end RULES
