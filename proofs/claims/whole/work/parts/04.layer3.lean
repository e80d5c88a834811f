section EVR
variable {G : th_G} {l : Launch} {K : th_M} {d bc bs pc q : Nat} {ls : List (Option Value)} {st : List Value} {S : th_S} {post : Option Value → th_S → Prop}
theorem ev_pc (h : pc = q) (k : EV G l K d bc bs q ls st S post) : EV G l K d bc bs pc ls st S post := h ▸ k
theorem ev_iconst {n : Int} {v : Int32} (hd : decode K.1 pc = .ok (.iconst n, 1)) (hv : Int32.ofInt n = v) (hq : pc + 1 = q) (k : EV G l K d bc bs q ls (.int v :: st) S post) : EV G l K d bc bs pc ls st S post := by
  subst hq
  intro p e R s m args below meth c Q F Rt hf hlc H locs cells slots LS hc hs hR hS hL
  exact lv_iconst F.1 F.2.1 hd hv (k p e R s m args below meth c Q F Rt hf hlc H locs cells slots LS hc hs hR hS hL)
theorem ev_bipush {n : Int} {v : Int32} (hd : decode K.1 pc = .ok (.bipush n, 2)) (hv : (Int8.ofInt n).toInt32 = v) (hq : pc + 2 = q) (k : EV G l K d bc bs q ls (.int v :: st) S post) : EV G l K d bc bs pc ls st S post := by
  subst hq
  intro p e R s m args below meth c Q F Rt hf hlc H locs cells slots LS hc hs hR hS hL
  exact lv_bipush F.1 F.2.1 hd hv (k p e R s m args below meth c Q F Rt hf hlc H locs cells slots LS hc hs hR hS hL)
theorem ev_sipush {n : Int} {v : Int32} (hd : decode K.1 pc = .ok (.sipush n, 3)) (hv : (Int16.ofInt n).toInt32 = v) (hq : pc + 3 = q) (k : EV G l K d bc bs q ls (.int v :: st) S post) : EV G l K d bc bs pc ls st S post := by
  subst hq
  intro p e R s m args below meth c Q F Rt hf hlc H locs cells slots LS hc hs hR hS hL
  exact lv_sipush F.1 F.2.1 hd hv (k p e R s m args below meth c Q F Rt hf hlc H locs cells slots LS hc hs hR hS hL)
theorem ev_lconst {n : Fin 2} {v : Int64} (hd : decode K.1 pc = .ok (.lconst n, 1)) (hv : Int64.ofNat (n : Nat) = v) (hq : pc + 1 = q) (k : EV G l K d bc bs q ls (.long v :: st) S post) : EV G l K d bc bs pc ls st S post := by
  subst hq
  intro p e R s m args below meth c Q F Rt hf hlc H locs cells slots LS hc hs hR hS hL
  exact lv_lconst F.1 F.2.1 hd hv (k p e R s m args below meth c Q F Rt hf hlc H locs cells slots LS hc hs hR hS hL)
theorem ev_null (hd : decode K.1 pc = .ok (.aconst_null, 1)) (hq : pc + 1 = q) (k : EV G l K d bc bs q ls (.null :: st) S post) : EV G l K d bc bs pc ls st S post := by
  subst hq
  intro p e R s m args below meth c Q F Rt hf hlc H locs cells slots LS hc hs hR hS hL
  exact lv_null F.1 F.2.1 hd (k p e R s m args below meth c Q F Rt hf hlc H locs cells slots LS hc hs hR hS hL)
theorem ev_ldc {i : Nat} {v : Int32} (hd : decode K.1 pc = .ok (.ldc i, 2)) (hw : Cond.constant K.2.1 i v ∈ th_W) (hq : pc + 2 = q) (k : EV G l K d bc bs q ls (.int v :: st) S post) : EV G l K d bc bs pc ls st S post := by
  subst hq
  intro p e R s m args below meth c Q F Rt hf hlc H locs cells slots LS hc hs hR hS hL
  exact lv_ldc F.1 F.2.1 F.2.2.2.1 (F.2.2.2.2.2.1 _ hw) hd (k p e R s m args below meth c Q F Rt hf hlc H locs cells slots LS hc hs hR hS hL)
theorem ev_ldcw {i : Nat} {v : Int32} (hd : decode K.1 pc = .ok (.ldc_w i, 3)) (hw : Cond.constant K.2.1 i v ∈ th_W) (hq : pc + 3 = q) (k : EV G l K d bc bs q ls (.int v :: st) S post) : EV G l K d bc bs pc ls st S post := by
  subst hq
  intro p e R s m args below meth c Q F Rt hf hlc H locs cells slots LS hc hs hR hS hL
  exact lv_ldcw F.1 F.2.1 F.2.2.2.1 (F.2.2.2.2.2.1 _ hw) hd (k p e R s m args below meth c Q F Rt hf hlc H locs cells slots LS hc hs hR hS hL)
theorem ev_ldc2 {i : Nat} {v : Int64} (hd : decode K.1 pc = .ok (.ldc2_w i, 3)) (hw : Cond.constantLong K.2.1 i v ∈ th_W) (hq : pc + 3 = q) (k : EV G l K d bc bs q ls (.long v :: st) S post) : EV G l K d bc bs pc ls st S post := by
  subst hq
  intro p e R s m args below meth c Q F Rt hf hlc H locs cells slots LS hc hs hR hS hL
  exact lv_ldc2 F.1 F.2.1 F.2.2.2.1 (F.2.2.2.2.2.1 _ hw) hd (k p e R s m args below meth c Q F Rt hf hlc H locs cells slots LS hc hs hR hS hL)
theorem ev_iadd {x y : Int32} (hd : decode K.1 pc = .ok (.iadd, 1)) (hq : pc + 1 = q) (k : EV G l K d bc bs q ls (.int (x + y) :: st) S post) : EV G l K d bc bs pc ls (.int y :: .int x :: st) S post := by
  subst hq
  intro p e R s m args below meth c Q F Rt hf hlc H locs cells slots LS hc hs hR hS hL
  exact lv_iadd F.1 F.2.1 hd (k p e R s m args below meth c Q F Rt hf hlc H locs cells slots LS hc hs hR hS hL)
theorem ev_isub {x y : Int32} (hd : decode K.1 pc = .ok (.isub, 1)) (hq : pc + 1 = q) (k : EV G l K d bc bs q ls (.int (x - y) :: st) S post) : EV G l K d bc bs pc ls (.int y :: .int x :: st) S post := by
  subst hq
  intro p e R s m args below meth c Q F Rt hf hlc H locs cells slots LS hc hs hR hS hL
  exact lv_isub F.1 F.2.1 hd (k p e R s m args below meth c Q F Rt hf hlc H locs cells slots LS hc hs hR hS hL)
theorem ev_imul {x y : Int32} (hd : decode K.1 pc = .ok (.imul, 1)) (hq : pc + 1 = q) (k : EV G l K d bc bs q ls (.int (x * y) :: st) S post) : EV G l K d bc bs pc ls (.int y :: .int x :: st) S post := by
  subst hq
  intro p e R s m args below meth c Q F Rt hf hlc H locs cells slots LS hc hs hR hS hL
  exact lv_imul F.1 F.2.1 hd (k p e R s m args below meth c Q F Rt hf hlc H locs cells slots LS hc hs hR hS hL)
theorem ev_iand {x y : Int32} (hd : decode K.1 pc = .ok (.iand, 1)) (hq : pc + 1 = q) (k : EV G l K d bc bs q ls (.int (x &&& y) :: st) S post) : EV G l K d bc bs pc ls (.int y :: .int x :: st) S post := by
  subst hq
  intro p e R s m args below meth c Q F Rt hf hlc H locs cells slots LS hc hs hR hS hL
  exact lv_iand F.1 F.2.1 hd (k p e R s m args below meth c Q F Rt hf hlc H locs cells slots LS hc hs hR hS hL)
theorem ev_ior {x y : Int32} (hd : decode K.1 pc = .ok (.ior, 1)) (hq : pc + 1 = q) (k : EV G l K d bc bs q ls (.int (x ||| y) :: st) S post) : EV G l K d bc bs pc ls (.int y :: .int x :: st) S post := by
  subst hq
  intro p e R s m args below meth c Q F Rt hf hlc H locs cells slots LS hc hs hR hS hL
  exact lv_ior F.1 F.2.1 hd (k p e R s m args below meth c Q F Rt hf hlc H locs cells slots LS hc hs hR hS hL)
theorem ev_ixor {x y : Int32} (hd : decode K.1 pc = .ok (.ixor, 1)) (hq : pc + 1 = q) (k : EV G l K d bc bs q ls (.int (x ^^^ y) :: st) S post) : EV G l K d bc bs pc ls (.int y :: .int x :: st) S post := by
  subst hq
  intro p e R s m args below meth c Q F Rt hf hlc H locs cells slots LS hc hs hR hS hL
  exact lv_ixor F.1 F.2.1 hd (k p e R s m args below meth c Q F Rt hf hlc H locs cells slots LS hc hs hR hS hL)
theorem ev_ishl {x y : Int32} (hd : decode K.1 pc = .ok (.ishl, 1)) (hq : pc + 1 = q) (k : EV G l K d bc bs q ls (.int (x <<< (y &&& 31)) :: st) S post) : EV G l K d bc bs pc ls (.int y :: .int x :: st) S post := by
  subst hq
  intro p e R s m args below meth c Q F Rt hf hlc H locs cells slots LS hc hs hR hS hL
  exact lv_ishl F.1 F.2.1 hd (k p e R s m args below meth c Q F Rt hf hlc H locs cells slots LS hc hs hR hS hL)
theorem ev_ishr {x y : Int32} (hd : decode K.1 pc = .ok (.ishr, 1)) (hq : pc + 1 = q) (k : EV G l K d bc bs q ls (.int (x >>> (y &&& 31)) :: st) S post) : EV G l K d bc bs pc ls (.int y :: .int x :: st) S post := by
  subst hq
  intro p e R s m args below meth c Q F Rt hf hlc H locs cells slots LS hc hs hR hS hL
  exact lv_ishr F.1 F.2.1 hd (k p e R s m args below meth c Q F Rt hf hlc H locs cells slots LS hc hs hR hS hL)
theorem ev_idiv {x y : Int32} (hd : decode K.1 pc = .ok (.idiv, 1)) (hne : ¬ y = 0) (hq : pc + 1 = q) (k : EV G l K d bc bs q ls (.int (x / y) :: st) S post) : EV G l K d bc bs pc ls (.int y :: .int x :: st) S post := by
  subst hq
  intro p e R s m args below meth c Q F Rt hf hlc H locs cells slots LS hc hs hR hS hL
  exact lv_idiv F.1 F.2.1 hd hne (k p e R s m args below meth c Q F Rt hf hlc H locs cells slots LS hc hs hR hS hL)
theorem ev_irem {x y : Int32} (hd : decode K.1 pc = .ok (.irem, 1)) (hne : ¬ y = 0) (hq : pc + 1 = q) (k : EV G l K d bc bs q ls (.int (x - x / y * y) :: st) S post) : EV G l K d bc bs pc ls (.int y :: .int x :: st) S post := by
  subst hq
  intro p e R s m args below meth c Q F Rt hf hlc H locs cells slots LS hc hs hR hS hL
  exact lv_irem F.1 F.2.1 hd hne (k p e R s m args below meth c Q F Rt hf hlc H locs cells slots LS hc hs hR hS hL)
theorem ev_iushr {x y : Int32} (hd : decode K.1 pc = .ok (.iushr, 1)) (hq : pc + 1 = q) (k : EV G l K d bc bs q ls (.int ((x.toUInt32 >>> (y.toUInt32 &&& Int32.toUInt32 31)).toInt32) :: st) S post) : EV G l K d bc bs pc ls (.int y :: .int x :: st) S post := by
  subst hq
  intro p e R s m args below meth c Q F Rt hf hlc H locs cells slots LS hc hs hR hS hL
  exact lv_iushr F.1 F.2.1 hd rfl (k p e R s m args below meth c Q F Rt hf hlc H locs cells slots LS hc hs hR hS hL)
theorem ev_i2l {x : Int32} (hd : decode K.1 pc = .ok (.i2l, 1)) (hq : pc + 1 = q) (k : EV G l K d bc bs q ls (.long x.toInt64 :: st) S post) : EV G l K d bc bs pc ls (.int x :: st) S post := by
  subst hq
  intro p e R s m args below meth c Q F Rt hf hlc H locs cells slots LS hc hs hR hS hL
  exact lv_i2l F.1 F.2.1 hd rfl (k p e R s m args below meth c Q F Rt hf hlc H locs cells slots LS hc hs hR hS hL)
theorem ev_i2b {x : Int32} (hd : decode K.1 pc = .ok (.i2b, 1)) (hq : pc + 1 = q) (k : EV G l K d bc bs q ls (.int x.toInt8.toInt32 :: st) S post) : EV G l K d bc bs pc ls (.int x :: st) S post := by
  subst hq
  intro p e R s m args below meth c Q F Rt hf hlc H locs cells slots LS hc hs hR hS hL
  exact lv_i2b F.1 F.2.1 hd rfl (k p e R s m args below meth c Q F Rt hf hlc H locs cells slots LS hc hs hR hS hL)
theorem ev_i2s {x : Int32} (hd : decode K.1 pc = .ok (.i2s, 1)) (hq : pc + 1 = q) (k : EV G l K d bc bs q ls (.int x.toInt16.toInt32 :: st) S post) : EV G l K d bc bs pc ls (.int x :: st) S post := by
  subst hq
  intro p e R s m args below meth c Q F Rt hf hlc H locs cells slots LS hc hs hR hS hL
  exact lv_i2s F.1 F.2.1 hd rfl (k p e R s m args below meth c Q F Rt hf hlc H locs cells slots LS hc hs hR hS hL)
theorem ev_i2c {x : Int32} (hd : decode K.1 pc = .ok (.i2c, 1)) (hq : pc + 1 = q) (k : EV G l K d bc bs q ls (.int (x.toUInt32 % 65536).toInt32 :: st) S post) : EV G l K d bc bs pc ls (.int x :: st) S post := by
  subst hq
  intro p e R s m args below meth c Q F Rt hf hlc H locs cells slots LS hc hs hR hS hL
  exact lv_i2c F.1 F.2.1 hd rfl (k p e R s m args below meth c Q F Rt hf hlc H locs cells slots LS hc hs hR hS hL)
theorem ev_ladd {x y : Int64} (hd : decode K.1 pc = .ok (.ladd, 1)) (hq : pc + 1 = q) (k : EV G l K d bc bs q ls (.long (x + y) :: st) S post) : EV G l K d bc bs pc ls (.long y :: .long x :: st) S post := by
  subst hq
  intro p e R s m args below meth c Q F Rt hf hlc H locs cells slots LS hc hs hR hS hL
  exact lv_ladd F.1 F.2.1 hd (k p e R s m args below meth c Q F Rt hf hlc H locs cells slots LS hc hs hR hS hL)
theorem ev_lcmp {x y : Int64} (hd : decode K.1 pc = .ok (.lcmp, 1)) (hq : pc + 1 = q) (k : EV G l K d bc bs q ls (.int (lg_cmp x y) :: st) S post) : EV G l K d bc bs pc ls (.long y :: .long x :: st) S post := by
  subst hq
  intro p e R s m args below meth c Q F Rt hf hlc H locs cells slots LS hc hs hR hS hL
  exact W.lcmp F.1 F.2.1 hd (k p e R s m args below meth c Q F Rt hf hlc H locs cells slots LS hc hs hR hS hL)
theorem ev_dup {v : Value} (hd : decode K.1 pc = .ok (.dup, 1)) (hv : v.category = 1) (hq : pc + 1 = q) (k : EV G l K d bc bs q ls (v :: v :: st) S post) : EV G l K d bc bs pc ls (v :: st) S post := by
  subst hq
  intro p e R s m args below meth c Q F Rt hf hlc H locs cells slots LS hc hs hR hS hL
  exact lv_dup F.1 F.2.1 hd (by rw [th_v_cat]; exact hv) (k p e R s m args below meth c Q F Rt hf hlc H locs cells slots LS hc hs hR hS hL)
theorem ev_pop {v : Value} (hd : decode K.1 pc = .ok (.pop, 1)) (hv : v.category = 1) (hq : pc + 1 = q) (k : EV G l K d bc bs q ls st S post) : EV G l K d bc bs pc ls (v :: st) S post := by
  subst hq
  intro p e R s m args below meth c Q F Rt hf hlc H locs cells slots LS hc hs hR hS hL
  exact lv_pop F.1 F.2.1 hd (by rw [th_v_cat]; exact hv) (k p e R s m args below meth c Q F Rt hf hlc H locs cells slots LS hc hs hR hS hL)
theorem ev_dup_x1 {v w : Value} (hd : decode K.1 pc = .ok (.dup_x1, 1)) (hv : v.category = 1) (hw : w.category = 1) (hq : pc + 1 = q) (k : EV G l K d bc bs q ls (v :: w :: v :: st) S post) : EV G l K d bc bs pc ls (v :: w :: st) S post := by
  subst hq
  intro p e R s m args below meth c Q F Rt hf hlc H locs cells slots LS hc hs hR hS hL
  exact lv_dup_x1 F.1 F.2.1 hd (by rw [th_v_cat]; exact hv) (by rw [th_v_cat]; exact hw) (k p e R s m args below meth c Q F Rt hf hlc H locs cells slots LS hc hs hR hS hL)
theorem ev_dup2 {v w : Value} (hd : decode K.1 pc = .ok (.dup2, 1)) (hv : v.category = 1) (hw : w.category = 1) (hq : pc + 1 = q) (k : EV G l K d bc bs q ls (v :: w :: v :: w :: st) S post) : EV G l K d bc bs pc ls (v :: w :: st) S post := by
  subst hq
  intro p e R s m args below meth c Q F Rt hf hlc H locs cells slots LS hc hs hR hS hL
  exact lv_dup2_11 F.1 F.2.1 hd (by rw [th_v_cat]; exact hv) (by rw [th_v_cat]; exact hw) (k p e R s m args below meth c Q F Rt hf hlc H locs cells slots LS hc hs hR hS hL)
theorem ev_iload0 {x : Int32} {r : List (Option Value)} (hd : decode K.1 pc = .ok (.iload_n 0, 1)) (hq : pc + 1 = q) (k : EV G l K d bc bs q (some (.int x) :: r) (.int x :: st) S post) : EV G l K d bc bs pc (some (.int x) :: r) st S post := by
  subst hq
  intro p e R s m args below meth c Q F Rt hf hlc H locs cells slots LS hc hs hR hS hL
  exact lv_iload_n F.1 F.2.1 hd rfl (hL.at (i := 0) rfl) (k p e R s m args below meth c Q F Rt hf hlc H locs cells slots LS hc hs hR hS hL)
theorem ev_lload0 {x : Int64} {r : List (Option Value)} (hd : decode K.1 pc = .ok (.lload_n 0, 1)) (hq : pc + 1 = q) (k : EV G l K d bc bs q (some (.long x) :: r) (.long x :: st) S post) : EV G l K d bc bs pc (some (.long x) :: r) st S post := by
  subst hq
  intro p e R s m args below meth c Q F Rt hf hlc H locs cells slots LS hc hs hR hS hL
  exact lv_lload_n F.1 F.2.1 hd rfl (hL.at (i := 0) rfl) (k p e R s m args below meth c Q F Rt hf hlc H locs cells slots LS hc hs hR hS hL)
theorem ev_aload0 {x : Nat} {r : List (Option Value)} (hd : decode K.1 pc = .ok (.aload_n 0, 1)) (hq : pc + 1 = q) (k : EV G l K d bc bs q (some (.ref x) :: r) (.ref x :: st) S post) : EV G l K d bc bs pc (some (.ref x) :: r) st S post := by
  subst hq
  intro p e R s m args below meth c Q F Rt hf hlc H locs cells slots LS hc hs hR hS hL
  exact lv_aload_n F.1 F.2.1 hd rfl (hL.at (i := 0) rfl) (k p e R s m args below meth c Q F Rt hf hlc H locs cells slots LS hc hs hR hS hL)
theorem ev_aloadN0 {r : List (Option Value)} (hd : decode K.1 pc = .ok (.aload_n 0, 1)) (hq : pc + 1 = q) (k : EV G l K d bc bs q (some (.null) :: r) (.null :: st) S post) : EV G l K d bc bs pc (some (.null) :: r) st S post := by
  subst hq
  intro p e R s m args below meth c Q F Rt hf hlc H locs cells slots LS hc hs hR hS hL
  exact lv_aload_nN F.1 F.2.1 hd rfl (hL.at (i := 0) rfl) (k p e R s m args below meth c Q F Rt hf hlc H locs cells slots LS hc hs hR hS hL)
theorem ev_istore0 {o0 : Option Value} {x : Int32} {r : List (Option Value)} (hd : decode K.1 pc = .ok (.istore_n 0, 1)) (hq : pc + 1 = q) (hn : 0 < K.2.2.1) (h1 : th_c1 (o0 :: r) = true) (k : EV G l K d bc bs q (some (.int x) :: r) st S post) : EV G l K d bc bs pc (o0 :: r) (.int x :: st) S post := by
  subst hq
  intro p e R s m args below meth c Q F Rt hf hlc H locs cells slots LS hc hs hR hS hL
  exact lv_istore_n F.1 F.2.1 hd rfl hL hn rfl (fun LS1 h => k p e R s m args below meth c Q F Rt hf hlc H locs cells slots LS1 hc hs hR hS (th_L.set (i := 0) (v := .int x) h1 h))
theorem ev_astore0 {o0 : Option Value} {x : Nat} {r : List (Option Value)} (hd : decode K.1 pc = .ok (.astore_n 0, 1)) (hq : pc + 1 = q) (hn : 0 < K.2.2.1) (h1 : th_c1 (o0 :: r) = true) (k : EV G l K d bc bs q (some (.ref x) :: r) st S post) : EV G l K d bc bs pc (o0 :: r) (.ref x :: st) S post := by
  subst hq
  intro p e R s m args below meth c Q F Rt hf hlc H locs cells slots LS hc hs hR hS hL
  exact lv_astore_n F.1 F.2.1 hd rfl hL hn rfl (fun LS1 h => k p e R s m args below meth c Q F Rt hf hlc H locs cells slots LS1 hc hs hR hS (th_L.set (i := 0) (v := .ref x) h1 h))
theorem ev_astoreN0 {o0 : Option Value} {r : List (Option Value)} (hd : decode K.1 pc = .ok (.astore_n 0, 1)) (hq : pc + 1 = q) (hn : 0 < K.2.2.1) (h1 : th_c1 (o0 :: r) = true) (k : EV G l K d bc bs q (some (.null) :: r) st S post) : EV G l K d bc bs pc (o0 :: r) (.null :: st) S post := by
  subst hq
  intro p e R s m args below meth c Q F Rt hf hlc H locs cells slots LS hc hs hR hS hL
  exact lv_astore_nN F.1 F.2.1 hd rfl hL hn rfl (fun LS1 h => k p e R s m args below meth c Q F Rt hf hlc H locs cells slots LS1 hc hs hR hS (th_L.set (i := 0) (v := .null) h1 h))
theorem ev_iinc0 {x v : Int32} {n : Int} {r : List (Option Value)} (hd : decode K.1 pc = .ok (.iinc 0 n, 3)) (hq : pc + 3 = q) (hn : 0 < K.2.2.1) (h1 : th_c1 (some (.int x) :: r) = true) (hv : x + Int32.ofInt n = v) (k : EV G l K d bc bs q (some (.int v) :: r) st S post) : EV G l K d bc bs pc (some (.int x) :: r) st S post := by
  subst hq
  intro p e R s m args below meth c Q F Rt hf hlc H locs cells slots LS hc hs hR hS hL
  obtain ⟨kk, hkk⟩ := List.getElem?_of_mem ((th_l_mem (G := G) (some (.int x) :: r) 0 0 (.int x)).mpr ⟨0, .int x, rfl, by omega, rfl⟩)
  exact lv_iinc F.1 F.2.1 hd hL hkk hv hn rfl (fun LS1 h => k p e R s m args below meth c Q F Rt hf hlc H locs cells slots LS1 hc hs hR hS (th_L.set (i := 0) (v := .int v) h1 h))
theorem ev_iload1 {o0 : Option Value} {x : Int32} {r : List (Option Value)} (hd : decode K.1 pc = .ok (.iload_n 1, 1)) (hq : pc + 1 = q) (k : EV G l K d bc bs q (o0 :: some (.int x) :: r) (.int x :: st) S post) : EV G l K d bc bs pc (o0 :: some (.int x) :: r) st S post := by
  subst hq
  intro p e R s m args below meth c Q F Rt hf hlc H locs cells slots LS hc hs hR hS hL
  exact lv_iload_n F.1 F.2.1 hd rfl (hL.at (i := 1) rfl) (k p e R s m args below meth c Q F Rt hf hlc H locs cells slots LS hc hs hR hS hL)
theorem ev_lload1 {o0 : Option Value} {x : Int64} {r : List (Option Value)} (hd : decode K.1 pc = .ok (.lload_n 1, 1)) (hq : pc + 1 = q) (k : EV G l K d bc bs q (o0 :: some (.long x) :: r) (.long x :: st) S post) : EV G l K d bc bs pc (o0 :: some (.long x) :: r) st S post := by
  subst hq
  intro p e R s m args below meth c Q F Rt hf hlc H locs cells slots LS hc hs hR hS hL
  exact lv_lload_n F.1 F.2.1 hd rfl (hL.at (i := 1) rfl) (k p e R s m args below meth c Q F Rt hf hlc H locs cells slots LS hc hs hR hS hL)
theorem ev_aload1 {o0 : Option Value} {x : Nat} {r : List (Option Value)} (hd : decode K.1 pc = .ok (.aload_n 1, 1)) (hq : pc + 1 = q) (k : EV G l K d bc bs q (o0 :: some (.ref x) :: r) (.ref x :: st) S post) : EV G l K d bc bs pc (o0 :: some (.ref x) :: r) st S post := by
  subst hq
  intro p e R s m args below meth c Q F Rt hf hlc H locs cells slots LS hc hs hR hS hL
  exact lv_aload_n F.1 F.2.1 hd rfl (hL.at (i := 1) rfl) (k p e R s m args below meth c Q F Rt hf hlc H locs cells slots LS hc hs hR hS hL)
theorem ev_aloadN1 {o0 : Option Value} {r : List (Option Value)} (hd : decode K.1 pc = .ok (.aload_n 1, 1)) (hq : pc + 1 = q) (k : EV G l K d bc bs q (o0 :: some (.null) :: r) (.null :: st) S post) : EV G l K d bc bs pc (o0 :: some (.null) :: r) st S post := by
  subst hq
  intro p e R s m args below meth c Q F Rt hf hlc H locs cells slots LS hc hs hR hS hL
  exact lv_aload_nN F.1 F.2.1 hd rfl (hL.at (i := 1) rfl) (k p e R s m args below meth c Q F Rt hf hlc H locs cells slots LS hc hs hR hS hL)
theorem ev_istore1 {o0 : Option Value} {o1 : Option Value} {x : Int32} {r : List (Option Value)} (hd : decode K.1 pc = .ok (.istore_n 1, 1)) (hq : pc + 1 = q) (hn : 1 < K.2.2.1) (h1 : th_c1 (o0 :: o1 :: r) = true) (k : EV G l K d bc bs q (o0 :: some (.int x) :: r) st S post) : EV G l K d bc bs pc (o0 :: o1 :: r) (.int x :: st) S post := by
  subst hq
  intro p e R s m args below meth c Q F Rt hf hlc H locs cells slots LS hc hs hR hS hL
  exact lv_istore_n F.1 F.2.1 hd rfl hL hn rfl (fun LS1 h => k p e R s m args below meth c Q F Rt hf hlc H locs cells slots LS1 hc hs hR hS (th_L.set (i := 1) (v := .int x) h1 h))
theorem ev_astore1 {o0 : Option Value} {o1 : Option Value} {x : Nat} {r : List (Option Value)} (hd : decode K.1 pc = .ok (.astore_n 1, 1)) (hq : pc + 1 = q) (hn : 1 < K.2.2.1) (h1 : th_c1 (o0 :: o1 :: r) = true) (k : EV G l K d bc bs q (o0 :: some (.ref x) :: r) st S post) : EV G l K d bc bs pc (o0 :: o1 :: r) (.ref x :: st) S post := by
  subst hq
  intro p e R s m args below meth c Q F Rt hf hlc H locs cells slots LS hc hs hR hS hL
  exact lv_astore_n F.1 F.2.1 hd rfl hL hn rfl (fun LS1 h => k p e R s m args below meth c Q F Rt hf hlc H locs cells slots LS1 hc hs hR hS (th_L.set (i := 1) (v := .ref x) h1 h))
theorem ev_astoreN1 {o0 : Option Value} {o1 : Option Value} {r : List (Option Value)} (hd : decode K.1 pc = .ok (.astore_n 1, 1)) (hq : pc + 1 = q) (hn : 1 < K.2.2.1) (h1 : th_c1 (o0 :: o1 :: r) = true) (k : EV G l K d bc bs q (o0 :: some (.null) :: r) st S post) : EV G l K d bc bs pc (o0 :: o1 :: r) (.null :: st) S post := by
  subst hq
  intro p e R s m args below meth c Q F Rt hf hlc H locs cells slots LS hc hs hR hS hL
  exact lv_astore_nN F.1 F.2.1 hd rfl hL hn rfl (fun LS1 h => k p e R s m args below meth c Q F Rt hf hlc H locs cells slots LS1 hc hs hR hS (th_L.set (i := 1) (v := .null) h1 h))
theorem ev_iinc1 {o0 : Option Value} {x v : Int32} {n : Int} {r : List (Option Value)} (hd : decode K.1 pc = .ok (.iinc 1 n, 3)) (hq : pc + 3 = q) (hn : 1 < K.2.2.1) (h1 : th_c1 (o0 :: some (.int x) :: r) = true) (hv : x + Int32.ofInt n = v) (k : EV G l K d bc bs q (o0 :: some (.int v) :: r) st S post) : EV G l K d bc bs pc (o0 :: some (.int x) :: r) st S post := by
  subst hq
  intro p e R s m args below meth c Q F Rt hf hlc H locs cells slots LS hc hs hR hS hL
  obtain ⟨kk, hkk⟩ := List.getElem?_of_mem ((th_l_mem (G := G) (o0 :: some (.int x) :: r) 0 1 (.int x)).mpr ⟨1, .int x, rfl, by omega, rfl⟩)
  exact lv_iinc F.1 F.2.1 hd hL hkk hv hn rfl (fun LS1 h => k p e R s m args below meth c Q F Rt hf hlc H locs cells slots LS1 hc hs hR hS (th_L.set (i := 1) (v := .int v) h1 h))
theorem ev_iload2 {o0 o1 : Option Value} {x : Int32} {r : List (Option Value)} (hd : decode K.1 pc = .ok (.iload_n 2, 1)) (hq : pc + 1 = q) (k : EV G l K d bc bs q (o0 :: o1 :: some (.int x) :: r) (.int x :: st) S post) : EV G l K d bc bs pc (o0 :: o1 :: some (.int x) :: r) st S post := by
  subst hq
  intro p e R s m args below meth c Q F Rt hf hlc H locs cells slots LS hc hs hR hS hL
  exact lv_iload_n F.1 F.2.1 hd rfl (hL.at (i := 2) rfl) (k p e R s m args below meth c Q F Rt hf hlc H locs cells slots LS hc hs hR hS hL)
theorem ev_lload2 {o0 o1 : Option Value} {x : Int64} {r : List (Option Value)} (hd : decode K.1 pc = .ok (.lload_n 2, 1)) (hq : pc + 1 = q) (k : EV G l K d bc bs q (o0 :: o1 :: some (.long x) :: r) (.long x :: st) S post) : EV G l K d bc bs pc (o0 :: o1 :: some (.long x) :: r) st S post := by
  subst hq
  intro p e R s m args below meth c Q F Rt hf hlc H locs cells slots LS hc hs hR hS hL
  exact lv_lload_n F.1 F.2.1 hd rfl (hL.at (i := 2) rfl) (k p e R s m args below meth c Q F Rt hf hlc H locs cells slots LS hc hs hR hS hL)
theorem ev_aload2 {o0 o1 : Option Value} {x : Nat} {r : List (Option Value)} (hd : decode K.1 pc = .ok (.aload_n 2, 1)) (hq : pc + 1 = q) (k : EV G l K d bc bs q (o0 :: o1 :: some (.ref x) :: r) (.ref x :: st) S post) : EV G l K d bc bs pc (o0 :: o1 :: some (.ref x) :: r) st S post := by
  subst hq
  intro p e R s m args below meth c Q F Rt hf hlc H locs cells slots LS hc hs hR hS hL
  exact lv_aload_n F.1 F.2.1 hd rfl (hL.at (i := 2) rfl) (k p e R s m args below meth c Q F Rt hf hlc H locs cells slots LS hc hs hR hS hL)
theorem ev_aloadN2 {o0 o1 : Option Value} {r : List (Option Value)} (hd : decode K.1 pc = .ok (.aload_n 2, 1)) (hq : pc + 1 = q) (k : EV G l K d bc bs q (o0 :: o1 :: some (.null) :: r) (.null :: st) S post) : EV G l K d bc bs pc (o0 :: o1 :: some (.null) :: r) st S post := by
  subst hq
  intro p e R s m args below meth c Q F Rt hf hlc H locs cells slots LS hc hs hR hS hL
  exact lv_aload_nN F.1 F.2.1 hd rfl (hL.at (i := 2) rfl) (k p e R s m args below meth c Q F Rt hf hlc H locs cells slots LS hc hs hR hS hL)
theorem ev_istore2 {o0 o1 : Option Value} {o2 : Option Value} {x : Int32} {r : List (Option Value)} (hd : decode K.1 pc = .ok (.istore_n 2, 1)) (hq : pc + 1 = q) (hn : 2 < K.2.2.1) (h1 : th_c1 (o0 :: o1 :: o2 :: r) = true) (k : EV G l K d bc bs q (o0 :: o1 :: some (.int x) :: r) st S post) : EV G l K d bc bs pc (o0 :: o1 :: o2 :: r) (.int x :: st) S post := by
  subst hq
  intro p e R s m args below meth c Q F Rt hf hlc H locs cells slots LS hc hs hR hS hL
  exact lv_istore_n F.1 F.2.1 hd rfl hL hn rfl (fun LS1 h => k p e R s m args below meth c Q F Rt hf hlc H locs cells slots LS1 hc hs hR hS (th_L.set (i := 2) (v := .int x) h1 h))
theorem ev_astore2 {o0 o1 : Option Value} {o2 : Option Value} {x : Nat} {r : List (Option Value)} (hd : decode K.1 pc = .ok (.astore_n 2, 1)) (hq : pc + 1 = q) (hn : 2 < K.2.2.1) (h1 : th_c1 (o0 :: o1 :: o2 :: r) = true) (k : EV G l K d bc bs q (o0 :: o1 :: some (.ref x) :: r) st S post) : EV G l K d bc bs pc (o0 :: o1 :: o2 :: r) (.ref x :: st) S post := by
  subst hq
  intro p e R s m args below meth c Q F Rt hf hlc H locs cells slots LS hc hs hR hS hL
  exact lv_astore_n F.1 F.2.1 hd rfl hL hn rfl (fun LS1 h => k p e R s m args below meth c Q F Rt hf hlc H locs cells slots LS1 hc hs hR hS (th_L.set (i := 2) (v := .ref x) h1 h))
theorem ev_astoreN2 {o0 o1 : Option Value} {o2 : Option Value} {r : List (Option Value)} (hd : decode K.1 pc = .ok (.astore_n 2, 1)) (hq : pc + 1 = q) (hn : 2 < K.2.2.1) (h1 : th_c1 (o0 :: o1 :: o2 :: r) = true) (k : EV G l K d bc bs q (o0 :: o1 :: some (.null) :: r) st S post) : EV G l K d bc bs pc (o0 :: o1 :: o2 :: r) (.null :: st) S post := by
  subst hq
  intro p e R s m args below meth c Q F Rt hf hlc H locs cells slots LS hc hs hR hS hL
  exact lv_astore_nN F.1 F.2.1 hd rfl hL hn rfl (fun LS1 h => k p e R s m args below meth c Q F Rt hf hlc H locs cells slots LS1 hc hs hR hS (th_L.set (i := 2) (v := .null) h1 h))
theorem ev_iinc2 {o0 o1 : Option Value} {x v : Int32} {n : Int} {r : List (Option Value)} (hd : decode K.1 pc = .ok (.iinc 2 n, 3)) (hq : pc + 3 = q) (hn : 2 < K.2.2.1) (h1 : th_c1 (o0 :: o1 :: some (.int x) :: r) = true) (hv : x + Int32.ofInt n = v) (k : EV G l K d bc bs q (o0 :: o1 :: some (.int v) :: r) st S post) : EV G l K d bc bs pc (o0 :: o1 :: some (.int x) :: r) st S post := by
  subst hq
  intro p e R s m args below meth c Q F Rt hf hlc H locs cells slots LS hc hs hR hS hL
  obtain ⟨kk, hkk⟩ := List.getElem?_of_mem ((th_l_mem (G := G) (o0 :: o1 :: some (.int x) :: r) 0 2 (.int x)).mpr ⟨2, .int x, rfl, by omega, rfl⟩)
  exact lv_iinc F.1 F.2.1 hd hL hkk hv hn rfl (fun LS1 h => k p e R s m args below meth c Q F Rt hf hlc H locs cells slots LS1 hc hs hR hS (th_L.set (i := 2) (v := .int v) h1 h))
theorem ev_iload3 {o0 o1 o2 : Option Value} {x : Int32} {r : List (Option Value)} (hd : decode K.1 pc = .ok (.iload_n 3, 1)) (hq : pc + 1 = q) (k : EV G l K d bc bs q (o0 :: o1 :: o2 :: some (.int x) :: r) (.int x :: st) S post) : EV G l K d bc bs pc (o0 :: o1 :: o2 :: some (.int x) :: r) st S post := by
  subst hq
  intro p e R s m args below meth c Q F Rt hf hlc H locs cells slots LS hc hs hR hS hL
  exact lv_iload_n F.1 F.2.1 hd rfl (hL.at (i := 3) rfl) (k p e R s m args below meth c Q F Rt hf hlc H locs cells slots LS hc hs hR hS hL)
theorem ev_lload3 {o0 o1 o2 : Option Value} {x : Int64} {r : List (Option Value)} (hd : decode K.1 pc = .ok (.lload_n 3, 1)) (hq : pc + 1 = q) (k : EV G l K d bc bs q (o0 :: o1 :: o2 :: some (.long x) :: r) (.long x :: st) S post) : EV G l K d bc bs pc (o0 :: o1 :: o2 :: some (.long x) :: r) st S post := by
  subst hq
  intro p e R s m args below meth c Q F Rt hf hlc H locs cells slots LS hc hs hR hS hL
  exact lv_lload_n F.1 F.2.1 hd rfl (hL.at (i := 3) rfl) (k p e R s m args below meth c Q F Rt hf hlc H locs cells slots LS hc hs hR hS hL)
theorem ev_aload3 {o0 o1 o2 : Option Value} {x : Nat} {r : List (Option Value)} (hd : decode K.1 pc = .ok (.aload_n 3, 1)) (hq : pc + 1 = q) (k : EV G l K d bc bs q (o0 :: o1 :: o2 :: some (.ref x) :: r) (.ref x :: st) S post) : EV G l K d bc bs pc (o0 :: o1 :: o2 :: some (.ref x) :: r) st S post := by
  subst hq
  intro p e R s m args below meth c Q F Rt hf hlc H locs cells slots LS hc hs hR hS hL
  exact lv_aload_n F.1 F.2.1 hd rfl (hL.at (i := 3) rfl) (k p e R s m args below meth c Q F Rt hf hlc H locs cells slots LS hc hs hR hS hL)
theorem ev_aloadN3 {o0 o1 o2 : Option Value} {r : List (Option Value)} (hd : decode K.1 pc = .ok (.aload_n 3, 1)) (hq : pc + 1 = q) (k : EV G l K d bc bs q (o0 :: o1 :: o2 :: some (.null) :: r) (.null :: st) S post) : EV G l K d bc bs pc (o0 :: o1 :: o2 :: some (.null) :: r) st S post := by
  subst hq
  intro p e R s m args below meth c Q F Rt hf hlc H locs cells slots LS hc hs hR hS hL
  exact lv_aload_nN F.1 F.2.1 hd rfl (hL.at (i := 3) rfl) (k p e R s m args below meth c Q F Rt hf hlc H locs cells slots LS hc hs hR hS hL)
theorem ev_istore3 {o0 o1 o2 : Option Value} {o3 : Option Value} {x : Int32} {r : List (Option Value)} (hd : decode K.1 pc = .ok (.istore_n 3, 1)) (hq : pc + 1 = q) (hn : 3 < K.2.2.1) (h1 : th_c1 (o0 :: o1 :: o2 :: o3 :: r) = true) (k : EV G l K d bc bs q (o0 :: o1 :: o2 :: some (.int x) :: r) st S post) : EV G l K d bc bs pc (o0 :: o1 :: o2 :: o3 :: r) (.int x :: st) S post := by
  subst hq
  intro p e R s m args below meth c Q F Rt hf hlc H locs cells slots LS hc hs hR hS hL
  exact lv_istore_n F.1 F.2.1 hd rfl hL hn rfl (fun LS1 h => k p e R s m args below meth c Q F Rt hf hlc H locs cells slots LS1 hc hs hR hS (th_L.set (i := 3) (v := .int x) h1 h))
theorem ev_astore3 {o0 o1 o2 : Option Value} {o3 : Option Value} {x : Nat} {r : List (Option Value)} (hd : decode K.1 pc = .ok (.astore_n 3, 1)) (hq : pc + 1 = q) (hn : 3 < K.2.2.1) (h1 : th_c1 (o0 :: o1 :: o2 :: o3 :: r) = true) (k : EV G l K d bc bs q (o0 :: o1 :: o2 :: some (.ref x) :: r) st S post) : EV G l K d bc bs pc (o0 :: o1 :: o2 :: o3 :: r) (.ref x :: st) S post := by
  subst hq
  intro p e R s m args below meth c Q F Rt hf hlc H locs cells slots LS hc hs hR hS hL
  exact lv_astore_n F.1 F.2.1 hd rfl hL hn rfl (fun LS1 h => k p e R s m args below meth c Q F Rt hf hlc H locs cells slots LS1 hc hs hR hS (th_L.set (i := 3) (v := .ref x) h1 h))
theorem ev_astoreN3 {o0 o1 o2 : Option Value} {o3 : Option Value} {r : List (Option Value)} (hd : decode K.1 pc = .ok (.astore_n 3, 1)) (hq : pc + 1 = q) (hn : 3 < K.2.2.1) (h1 : th_c1 (o0 :: o1 :: o2 :: o3 :: r) = true) (k : EV G l K d bc bs q (o0 :: o1 :: o2 :: some (.null) :: r) st S post) : EV G l K d bc bs pc (o0 :: o1 :: o2 :: o3 :: r) (.null :: st) S post := by
  subst hq
  intro p e R s m args below meth c Q F Rt hf hlc H locs cells slots LS hc hs hR hS hL
  exact lv_astore_nN F.1 F.2.1 hd rfl hL hn rfl (fun LS1 h => k p e R s m args below meth c Q F Rt hf hlc H locs cells slots LS1 hc hs hR hS (th_L.set (i := 3) (v := .null) h1 h))
theorem ev_iinc3 {o0 o1 o2 : Option Value} {x v : Int32} {n : Int} {r : List (Option Value)} (hd : decode K.1 pc = .ok (.iinc 3 n, 3)) (hq : pc + 3 = q) (hn : 3 < K.2.2.1) (h1 : th_c1 (o0 :: o1 :: o2 :: some (.int x) :: r) = true) (hv : x + Int32.ofInt n = v) (k : EV G l K d bc bs q (o0 :: o1 :: o2 :: some (.int v) :: r) st S post) : EV G l K d bc bs pc (o0 :: o1 :: o2 :: some (.int x) :: r) st S post := by
  subst hq
  intro p e R s m args below meth c Q F Rt hf hlc H locs cells slots LS hc hs hR hS hL
  obtain ⟨kk, hkk⟩ := List.getElem?_of_mem ((th_l_mem (G := G) (o0 :: o1 :: o2 :: some (.int x) :: r) 0 3 (.int x)).mpr ⟨3, .int x, rfl, by omega, rfl⟩)
  exact lv_iinc F.1 F.2.1 hd hL hkk hv hn rfl (fun LS1 h => k p e R s m args below meth c Q F Rt hf hlc H locs cells slots LS1 hc hs hR hS (th_L.set (i := 3) (v := .int v) h1 h))
theorem ev_iload4 {o0 o1 o2 o3 : Option Value} {x : Int32} {r : List (Option Value)} (hd : decode K.1 pc = .ok (.iload 4, 2)) (hq : pc + 2 = q) (k : EV G l K d bc bs q (o0 :: o1 :: o2 :: o3 :: some (.int x) :: r) (.int x :: st) S post) : EV G l K d bc bs pc (o0 :: o1 :: o2 :: o3 :: some (.int x) :: r) st S post := by
  subst hq
  intro p e R s m args below meth c Q F Rt hf hlc H locs cells slots LS hc hs hR hS hL
  exact lv_iload F.1 F.2.1 hd (hL.at (i := 4) rfl) (k p e R s m args below meth c Q F Rt hf hlc H locs cells slots LS hc hs hR hS hL)
theorem ev_lload4 {o0 o1 o2 o3 : Option Value} {x : Int64} {r : List (Option Value)} (hd : decode K.1 pc = .ok (.lload 4, 2)) (hq : pc + 2 = q) (k : EV G l K d bc bs q (o0 :: o1 :: o2 :: o3 :: some (.long x) :: r) (.long x :: st) S post) : EV G l K d bc bs pc (o0 :: o1 :: o2 :: o3 :: some (.long x) :: r) st S post := by
  subst hq
  intro p e R s m args below meth c Q F Rt hf hlc H locs cells slots LS hc hs hR hS hL
  exact lv_lload F.1 F.2.1 hd (hL.at (i := 4) rfl) (k p e R s m args below meth c Q F Rt hf hlc H locs cells slots LS hc hs hR hS hL)
theorem ev_aload4 {o0 o1 o2 o3 : Option Value} {x : Nat} {r : List (Option Value)} (hd : decode K.1 pc = .ok (.aload 4, 2)) (hq : pc + 2 = q) (k : EV G l K d bc bs q (o0 :: o1 :: o2 :: o3 :: some (.ref x) :: r) (.ref x :: st) S post) : EV G l K d bc bs pc (o0 :: o1 :: o2 :: o3 :: some (.ref x) :: r) st S post := by
  subst hq
  intro p e R s m args below meth c Q F Rt hf hlc H locs cells slots LS hc hs hR hS hL
  exact lv_aload F.1 F.2.1 hd (hL.at (i := 4) rfl) (k p e R s m args below meth c Q F Rt hf hlc H locs cells slots LS hc hs hR hS hL)
theorem ev_aloadN4 {o0 o1 o2 o3 : Option Value} {r : List (Option Value)} (hd : decode K.1 pc = .ok (.aload 4, 2)) (hq : pc + 2 = q) (k : EV G l K d bc bs q (o0 :: o1 :: o2 :: o3 :: some (.null) :: r) (.null :: st) S post) : EV G l K d bc bs pc (o0 :: o1 :: o2 :: o3 :: some (.null) :: r) st S post := by
  subst hq
  intro p e R s m args below meth c Q F Rt hf hlc H locs cells slots LS hc hs hR hS hL
  exact lv_aloadN F.1 F.2.1 hd (hL.at (i := 4) rfl) (k p e R s m args below meth c Q F Rt hf hlc H locs cells slots LS hc hs hR hS hL)
theorem ev_istore4 {o0 o1 o2 o3 : Option Value} {o4 : Option Value} {x : Int32} {r : List (Option Value)} (hd : decode K.1 pc = .ok (.istore 4, 2)) (hq : pc + 2 = q) (hn : 4 < K.2.2.1) (h1 : th_c1 (o0 :: o1 :: o2 :: o3 :: o4 :: r) = true) (k : EV G l K d bc bs q (o0 :: o1 :: o2 :: o3 :: some (.int x) :: r) st S post) : EV G l K d bc bs pc (o0 :: o1 :: o2 :: o3 :: o4 :: r) (.int x :: st) S post := by
  subst hq
  intro p e R s m args below meth c Q F Rt hf hlc H locs cells slots LS hc hs hR hS hL
  exact lv_istore F.1 F.2.1 hd hL hn rfl (fun LS1 h => k p e R s m args below meth c Q F Rt hf hlc H locs cells slots LS1 hc hs hR hS (th_L.set (i := 4) (v := .int x) h1 h))
theorem ev_astore4 {o0 o1 o2 o3 : Option Value} {o4 : Option Value} {x : Nat} {r : List (Option Value)} (hd : decode K.1 pc = .ok (.astore 4, 2)) (hq : pc + 2 = q) (hn : 4 < K.2.2.1) (h1 : th_c1 (o0 :: o1 :: o2 :: o3 :: o4 :: r) = true) (k : EV G l K d bc bs q (o0 :: o1 :: o2 :: o3 :: some (.ref x) :: r) st S post) : EV G l K d bc bs pc (o0 :: o1 :: o2 :: o3 :: o4 :: r) (.ref x :: st) S post := by
  subst hq
  intro p e R s m args below meth c Q F Rt hf hlc H locs cells slots LS hc hs hR hS hL
  exact lv_astore F.1 F.2.1 hd hL hn rfl (fun LS1 h => k p e R s m args below meth c Q F Rt hf hlc H locs cells slots LS1 hc hs hR hS (th_L.set (i := 4) (v := .ref x) h1 h))
theorem ev_astoreN4 {o0 o1 o2 o3 : Option Value} {o4 : Option Value} {r : List (Option Value)} (hd : decode K.1 pc = .ok (.astore 4, 2)) (hq : pc + 2 = q) (hn : 4 < K.2.2.1) (h1 : th_c1 (o0 :: o1 :: o2 :: o3 :: o4 :: r) = true) (k : EV G l K d bc bs q (o0 :: o1 :: o2 :: o3 :: some (.null) :: r) st S post) : EV G l K d bc bs pc (o0 :: o1 :: o2 :: o3 :: o4 :: r) (.null :: st) S post := by
  subst hq
  intro p e R s m args below meth c Q F Rt hf hlc H locs cells slots LS hc hs hR hS hL
  exact lv_astoreN F.1 F.2.1 hd hL hn rfl (fun LS1 h => k p e R s m args below meth c Q F Rt hf hlc H locs cells slots LS1 hc hs hR hS (th_L.set (i := 4) (v := .null) h1 h))
theorem ev_iinc4 {o0 o1 o2 o3 : Option Value} {x v : Int32} {n : Int} {r : List (Option Value)} (hd : decode K.1 pc = .ok (.iinc 4 n, 3)) (hq : pc + 3 = q) (hn : 4 < K.2.2.1) (h1 : th_c1 (o0 :: o1 :: o2 :: o3 :: some (.int x) :: r) = true) (hv : x + Int32.ofInt n = v) (k : EV G l K d bc bs q (o0 :: o1 :: o2 :: o3 :: some (.int v) :: r) st S post) : EV G l K d bc bs pc (o0 :: o1 :: o2 :: o3 :: some (.int x) :: r) st S post := by
  subst hq
  intro p e R s m args below meth c Q F Rt hf hlc H locs cells slots LS hc hs hR hS hL
  obtain ⟨kk, hkk⟩ := List.getElem?_of_mem ((th_l_mem (G := G) (o0 :: o1 :: o2 :: o3 :: some (.int x) :: r) 0 4 (.int x)).mpr ⟨4, .int x, rfl, by omega, rfl⟩)
  exact lv_iinc F.1 F.2.1 hd hL hkk hv hn rfl (fun LS1 h => k p e R s m args below meth c Q F Rt hf hlc H locs cells slots LS1 hc hs hR hS (th_L.set (i := 4) (v := .int v) h1 h))
theorem ev_iload5 {o0 o1 o2 o3 o4 : Option Value} {x : Int32} {r : List (Option Value)} (hd : decode K.1 pc = .ok (.iload 5, 2)) (hq : pc + 2 = q) (k : EV G l K d bc bs q (o0 :: o1 :: o2 :: o3 :: o4 :: some (.int x) :: r) (.int x :: st) S post) : EV G l K d bc bs pc (o0 :: o1 :: o2 :: o3 :: o4 :: some (.int x) :: r) st S post := by
  subst hq
  intro p e R s m args below meth c Q F Rt hf hlc H locs cells slots LS hc hs hR hS hL
  exact lv_iload F.1 F.2.1 hd (hL.at (i := 5) rfl) (k p e R s m args below meth c Q F Rt hf hlc H locs cells slots LS hc hs hR hS hL)
theorem ev_lload5 {o0 o1 o2 o3 o4 : Option Value} {x : Int64} {r : List (Option Value)} (hd : decode K.1 pc = .ok (.lload 5, 2)) (hq : pc + 2 = q) (k : EV G l K d bc bs q (o0 :: o1 :: o2 :: o3 :: o4 :: some (.long x) :: r) (.long x :: st) S post) : EV G l K d bc bs pc (o0 :: o1 :: o2 :: o3 :: o4 :: some (.long x) :: r) st S post := by
  subst hq
  intro p e R s m args below meth c Q F Rt hf hlc H locs cells slots LS hc hs hR hS hL
  exact lv_lload F.1 F.2.1 hd (hL.at (i := 5) rfl) (k p e R s m args below meth c Q F Rt hf hlc H locs cells slots LS hc hs hR hS hL)
theorem ev_aload5 {o0 o1 o2 o3 o4 : Option Value} {x : Nat} {r : List (Option Value)} (hd : decode K.1 pc = .ok (.aload 5, 2)) (hq : pc + 2 = q) (k : EV G l K d bc bs q (o0 :: o1 :: o2 :: o3 :: o4 :: some (.ref x) :: r) (.ref x :: st) S post) : EV G l K d bc bs pc (o0 :: o1 :: o2 :: o3 :: o4 :: some (.ref x) :: r) st S post := by
  subst hq
  intro p e R s m args below meth c Q F Rt hf hlc H locs cells slots LS hc hs hR hS hL
  exact lv_aload F.1 F.2.1 hd (hL.at (i := 5) rfl) (k p e R s m args below meth c Q F Rt hf hlc H locs cells slots LS hc hs hR hS hL)
theorem ev_aloadN5 {o0 o1 o2 o3 o4 : Option Value} {r : List (Option Value)} (hd : decode K.1 pc = .ok (.aload 5, 2)) (hq : pc + 2 = q) (k : EV G l K d bc bs q (o0 :: o1 :: o2 :: o3 :: o4 :: some (.null) :: r) (.null :: st) S post) : EV G l K d bc bs pc (o0 :: o1 :: o2 :: o3 :: o4 :: some (.null) :: r) st S post := by
  subst hq
  intro p e R s m args below meth c Q F Rt hf hlc H locs cells slots LS hc hs hR hS hL
  exact lv_aloadN F.1 F.2.1 hd (hL.at (i := 5) rfl) (k p e R s m args below meth c Q F Rt hf hlc H locs cells slots LS hc hs hR hS hL)
theorem ev_istore5 {o0 o1 o2 o3 o4 : Option Value} {o5 : Option Value} {x : Int32} {r : List (Option Value)} (hd : decode K.1 pc = .ok (.istore 5, 2)) (hq : pc + 2 = q) (hn : 5 < K.2.2.1) (h1 : th_c1 (o0 :: o1 :: o2 :: o3 :: o4 :: o5 :: r) = true) (k : EV G l K d bc bs q (o0 :: o1 :: o2 :: o3 :: o4 :: some (.int x) :: r) st S post) : EV G l K d bc bs pc (o0 :: o1 :: o2 :: o3 :: o4 :: o5 :: r) (.int x :: st) S post := by
  subst hq
  intro p e R s m args below meth c Q F Rt hf hlc H locs cells slots LS hc hs hR hS hL
  exact lv_istore F.1 F.2.1 hd hL hn rfl (fun LS1 h => k p e R s m args below meth c Q F Rt hf hlc H locs cells slots LS1 hc hs hR hS (th_L.set (i := 5) (v := .int x) h1 h))
theorem ev_astore5 {o0 o1 o2 o3 o4 : Option Value} {o5 : Option Value} {x : Nat} {r : List (Option Value)} (hd : decode K.1 pc = .ok (.astore 5, 2)) (hq : pc + 2 = q) (hn : 5 < K.2.2.1) (h1 : th_c1 (o0 :: o1 :: o2 :: o3 :: o4 :: o5 :: r) = true) (k : EV G l K d bc bs q (o0 :: o1 :: o2 :: o3 :: o4 :: some (.ref x) :: r) st S post) : EV G l K d bc bs pc (o0 :: o1 :: o2 :: o3 :: o4 :: o5 :: r) (.ref x :: st) S post := by
  subst hq
  intro p e R s m args below meth c Q F Rt hf hlc H locs cells slots LS hc hs hR hS hL
  exact lv_astore F.1 F.2.1 hd hL hn rfl (fun LS1 h => k p e R s m args below meth c Q F Rt hf hlc H locs cells slots LS1 hc hs hR hS (th_L.set (i := 5) (v := .ref x) h1 h))
theorem ev_astoreN5 {o0 o1 o2 o3 o4 : Option Value} {o5 : Option Value} {r : List (Option Value)} (hd : decode K.1 pc = .ok (.astore 5, 2)) (hq : pc + 2 = q) (hn : 5 < K.2.2.1) (h1 : th_c1 (o0 :: o1 :: o2 :: o3 :: o4 :: o5 :: r) = true) (k : EV G l K d bc bs q (o0 :: o1 :: o2 :: o3 :: o4 :: some (.null) :: r) st S post) : EV G l K d bc bs pc (o0 :: o1 :: o2 :: o3 :: o4 :: o5 :: r) (.null :: st) S post := by
  subst hq
  intro p e R s m args below meth c Q F Rt hf hlc H locs cells slots LS hc hs hR hS hL
  exact lv_astoreN F.1 F.2.1 hd hL hn rfl (fun LS1 h => k p e R s m args below meth c Q F Rt hf hlc H locs cells slots LS1 hc hs hR hS (th_L.set (i := 5) (v := .null) h1 h))
theorem ev_iinc5 {o0 o1 o2 o3 o4 : Option Value} {x v : Int32} {n : Int} {r : List (Option Value)} (hd : decode K.1 pc = .ok (.iinc 5 n, 3)) (hq : pc + 3 = q) (hn : 5 < K.2.2.1) (h1 : th_c1 (o0 :: o1 :: o2 :: o3 :: o4 :: some (.int x) :: r) = true) (hv : x + Int32.ofInt n = v) (k : EV G l K d bc bs q (o0 :: o1 :: o2 :: o3 :: o4 :: some (.int v) :: r) st S post) : EV G l K d bc bs pc (o0 :: o1 :: o2 :: o3 :: o4 :: some (.int x) :: r) st S post := by
  subst hq
  intro p e R s m args below meth c Q F Rt hf hlc H locs cells slots LS hc hs hR hS hL
  obtain ⟨kk, hkk⟩ := List.getElem?_of_mem ((th_l_mem (G := G) (o0 :: o1 :: o2 :: o3 :: o4 :: some (.int x) :: r) 0 5 (.int x)).mpr ⟨5, .int x, rfl, by omega, rfl⟩)
  exact lv_iinc F.1 F.2.1 hd hL hkk hv hn rfl (fun LS1 h => k p e R s m args below meth c Q F Rt hf hlc H locs cells slots LS1 hc hs hR hS (th_L.set (i := 5) (v := .int v) h1 h))
theorem ev_iload6 {o0 o1 o2 o3 o4 o5 : Option Value} {x : Int32} {r : List (Option Value)} (hd : decode K.1 pc = .ok (.iload 6, 2)) (hq : pc + 2 = q) (k : EV G l K d bc bs q (o0 :: o1 :: o2 :: o3 :: o4 :: o5 :: some (.int x) :: r) (.int x :: st) S post) : EV G l K d bc bs pc (o0 :: o1 :: o2 :: o3 :: o4 :: o5 :: some (.int x) :: r) st S post := by
  subst hq
  intro p e R s m args below meth c Q F Rt hf hlc H locs cells slots LS hc hs hR hS hL
  exact lv_iload F.1 F.2.1 hd (hL.at (i := 6) rfl) (k p e R s m args below meth c Q F Rt hf hlc H locs cells slots LS hc hs hR hS hL)
theorem ev_lload6 {o0 o1 o2 o3 o4 o5 : Option Value} {x : Int64} {r : List (Option Value)} (hd : decode K.1 pc = .ok (.lload 6, 2)) (hq : pc + 2 = q) (k : EV G l K d bc bs q (o0 :: o1 :: o2 :: o3 :: o4 :: o5 :: some (.long x) :: r) (.long x :: st) S post) : EV G l K d bc bs pc (o0 :: o1 :: o2 :: o3 :: o4 :: o5 :: some (.long x) :: r) st S post := by
  subst hq
  intro p e R s m args below meth c Q F Rt hf hlc H locs cells slots LS hc hs hR hS hL
  exact lv_lload F.1 F.2.1 hd (hL.at (i := 6) rfl) (k p e R s m args below meth c Q F Rt hf hlc H locs cells slots LS hc hs hR hS hL)
theorem ev_aload6 {o0 o1 o2 o3 o4 o5 : Option Value} {x : Nat} {r : List (Option Value)} (hd : decode K.1 pc = .ok (.aload 6, 2)) (hq : pc + 2 = q) (k : EV G l K d bc bs q (o0 :: o1 :: o2 :: o3 :: o4 :: o5 :: some (.ref x) :: r) (.ref x :: st) S post) : EV G l K d bc bs pc (o0 :: o1 :: o2 :: o3 :: o4 :: o5 :: some (.ref x) :: r) st S post := by
  subst hq
  intro p e R s m args below meth c Q F Rt hf hlc H locs cells slots LS hc hs hR hS hL
  exact lv_aload F.1 F.2.1 hd (hL.at (i := 6) rfl) (k p e R s m args below meth c Q F Rt hf hlc H locs cells slots LS hc hs hR hS hL)
theorem ev_aloadN6 {o0 o1 o2 o3 o4 o5 : Option Value} {r : List (Option Value)} (hd : decode K.1 pc = .ok (.aload 6, 2)) (hq : pc + 2 = q) (k : EV G l K d bc bs q (o0 :: o1 :: o2 :: o3 :: o4 :: o5 :: some (.null) :: r) (.null :: st) S post) : EV G l K d bc bs pc (o0 :: o1 :: o2 :: o3 :: o4 :: o5 :: some (.null) :: r) st S post := by
  subst hq
  intro p e R s m args below meth c Q F Rt hf hlc H locs cells slots LS hc hs hR hS hL
  exact lv_aloadN F.1 F.2.1 hd (hL.at (i := 6) rfl) (k p e R s m args below meth c Q F Rt hf hlc H locs cells slots LS hc hs hR hS hL)
theorem ev_istore6 {o0 o1 o2 o3 o4 o5 : Option Value} {o6 : Option Value} {x : Int32} {r : List (Option Value)} (hd : decode K.1 pc = .ok (.istore 6, 2)) (hq : pc + 2 = q) (hn : 6 < K.2.2.1) (h1 : th_c1 (o0 :: o1 :: o2 :: o3 :: o4 :: o5 :: o6 :: r) = true) (k : EV G l K d bc bs q (o0 :: o1 :: o2 :: o3 :: o4 :: o5 :: some (.int x) :: r) st S post) : EV G l K d bc bs pc (o0 :: o1 :: o2 :: o3 :: o4 :: o5 :: o6 :: r) (.int x :: st) S post := by
  subst hq
  intro p e R s m args below meth c Q F Rt hf hlc H locs cells slots LS hc hs hR hS hL
  exact lv_istore F.1 F.2.1 hd hL hn rfl (fun LS1 h => k p e R s m args below meth c Q F Rt hf hlc H locs cells slots LS1 hc hs hR hS (th_L.set (i := 6) (v := .int x) h1 h))
theorem ev_astore6 {o0 o1 o2 o3 o4 o5 : Option Value} {o6 : Option Value} {x : Nat} {r : List (Option Value)} (hd : decode K.1 pc = .ok (.astore 6, 2)) (hq : pc + 2 = q) (hn : 6 < K.2.2.1) (h1 : th_c1 (o0 :: o1 :: o2 :: o3 :: o4 :: o5 :: o6 :: r) = true) (k : EV G l K d bc bs q (o0 :: o1 :: o2 :: o3 :: o4 :: o5 :: some (.ref x) :: r) st S post) : EV G l K d bc bs pc (o0 :: o1 :: o2 :: o3 :: o4 :: o5 :: o6 :: r) (.ref x :: st) S post := by
  subst hq
  intro p e R s m args below meth c Q F Rt hf hlc H locs cells slots LS hc hs hR hS hL
  exact lv_astore F.1 F.2.1 hd hL hn rfl (fun LS1 h => k p e R s m args below meth c Q F Rt hf hlc H locs cells slots LS1 hc hs hR hS (th_L.set (i := 6) (v := .ref x) h1 h))
theorem ev_astoreN6 {o0 o1 o2 o3 o4 o5 : Option Value} {o6 : Option Value} {r : List (Option Value)} (hd : decode K.1 pc = .ok (.astore 6, 2)) (hq : pc + 2 = q) (hn : 6 < K.2.2.1) (h1 : th_c1 (o0 :: o1 :: o2 :: o3 :: o4 :: o5 :: o6 :: r) = true) (k : EV G l K d bc bs q (o0 :: o1 :: o2 :: o3 :: o4 :: o5 :: some (.null) :: r) st S post) : EV G l K d bc bs pc (o0 :: o1 :: o2 :: o3 :: o4 :: o5 :: o6 :: r) (.null :: st) S post := by
  subst hq
  intro p e R s m args below meth c Q F Rt hf hlc H locs cells slots LS hc hs hR hS hL
  exact lv_astoreN F.1 F.2.1 hd hL hn rfl (fun LS1 h => k p e R s m args below meth c Q F Rt hf hlc H locs cells slots LS1 hc hs hR hS (th_L.set (i := 6) (v := .null) h1 h))
theorem ev_iinc6 {o0 o1 o2 o3 o4 o5 : Option Value} {x v : Int32} {n : Int} {r : List (Option Value)} (hd : decode K.1 pc = .ok (.iinc 6 n, 3)) (hq : pc + 3 = q) (hn : 6 < K.2.2.1) (h1 : th_c1 (o0 :: o1 :: o2 :: o3 :: o4 :: o5 :: some (.int x) :: r) = true) (hv : x + Int32.ofInt n = v) (k : EV G l K d bc bs q (o0 :: o1 :: o2 :: o3 :: o4 :: o5 :: some (.int v) :: r) st S post) : EV G l K d bc bs pc (o0 :: o1 :: o2 :: o3 :: o4 :: o5 :: some (.int x) :: r) st S post := by
  subst hq
  intro p e R s m args below meth c Q F Rt hf hlc H locs cells slots LS hc hs hR hS hL
  obtain ⟨kk, hkk⟩ := List.getElem?_of_mem ((th_l_mem (G := G) (o0 :: o1 :: o2 :: o3 :: o4 :: o5 :: some (.int x) :: r) 0 6 (.int x)).mpr ⟨6, .int x, rfl, by omega, rfl⟩)
  exact lv_iinc F.1 F.2.1 hd hL hkk hv hn rfl (fun LS1 h => k p e R s m args below meth c Q F Rt hf hlc H locs cells slots LS1 hc hs hR hS (th_L.set (i := 6) (v := .int v) h1 h))
theorem ev_iload7 {o0 o1 o2 o3 o4 o5 o6 : Option Value} {x : Int32} {r : List (Option Value)} (hd : decode K.1 pc = .ok (.iload 7, 2)) (hq : pc + 2 = q) (k : EV G l K d bc bs q (o0 :: o1 :: o2 :: o3 :: o4 :: o5 :: o6 :: some (.int x) :: r) (.int x :: st) S post) : EV G l K d bc bs pc (o0 :: o1 :: o2 :: o3 :: o4 :: o5 :: o6 :: some (.int x) :: r) st S post := by
  subst hq
  intro p e R s m args below meth c Q F Rt hf hlc H locs cells slots LS hc hs hR hS hL
  exact lv_iload F.1 F.2.1 hd (hL.at (i := 7) rfl) (k p e R s m args below meth c Q F Rt hf hlc H locs cells slots LS hc hs hR hS hL)
theorem ev_lload7 {o0 o1 o2 o3 o4 o5 o6 : Option Value} {x : Int64} {r : List (Option Value)} (hd : decode K.1 pc = .ok (.lload 7, 2)) (hq : pc + 2 = q) (k : EV G l K d bc bs q (o0 :: o1 :: o2 :: o3 :: o4 :: o5 :: o6 :: some (.long x) :: r) (.long x :: st) S post) : EV G l K d bc bs pc (o0 :: o1 :: o2 :: o3 :: o4 :: o5 :: o6 :: some (.long x) :: r) st S post := by
  subst hq
  intro p e R s m args below meth c Q F Rt hf hlc H locs cells slots LS hc hs hR hS hL
  exact lv_lload F.1 F.2.1 hd (hL.at (i := 7) rfl) (k p e R s m args below meth c Q F Rt hf hlc H locs cells slots LS hc hs hR hS hL)
theorem ev_aload7 {o0 o1 o2 o3 o4 o5 o6 : Option Value} {x : Nat} {r : List (Option Value)} (hd : decode K.1 pc = .ok (.aload 7, 2)) (hq : pc + 2 = q) (k : EV G l K d bc bs q (o0 :: o1 :: o2 :: o3 :: o4 :: o5 :: o6 :: some (.ref x) :: r) (.ref x :: st) S post) : EV G l K d bc bs pc (o0 :: o1 :: o2 :: o3 :: o4 :: o5 :: o6 :: some (.ref x) :: r) st S post := by
  subst hq
  intro p e R s m args below meth c Q F Rt hf hlc H locs cells slots LS hc hs hR hS hL
  exact lv_aload F.1 F.2.1 hd (hL.at (i := 7) rfl) (k p e R s m args below meth c Q F Rt hf hlc H locs cells slots LS hc hs hR hS hL)
theorem ev_aloadN7 {o0 o1 o2 o3 o4 o5 o6 : Option Value} {r : List (Option Value)} (hd : decode K.1 pc = .ok (.aload 7, 2)) (hq : pc + 2 = q) (k : EV G l K d bc bs q (o0 :: o1 :: o2 :: o3 :: o4 :: o5 :: o6 :: some (.null) :: r) (.null :: st) S post) : EV G l K d bc bs pc (o0 :: o1 :: o2 :: o3 :: o4 :: o5 :: o6 :: some (.null) :: r) st S post := by
  subst hq
  intro p e R s m args below meth c Q F Rt hf hlc H locs cells slots LS hc hs hR hS hL
  exact lv_aloadN F.1 F.2.1 hd (hL.at (i := 7) rfl) (k p e R s m args below meth c Q F Rt hf hlc H locs cells slots LS hc hs hR hS hL)
theorem ev_istore7 {o0 o1 o2 o3 o4 o5 o6 : Option Value} {o7 : Option Value} {x : Int32} {r : List (Option Value)} (hd : decode K.1 pc = .ok (.istore 7, 2)) (hq : pc + 2 = q) (hn : 7 < K.2.2.1) (h1 : th_c1 (o0 :: o1 :: o2 :: o3 :: o4 :: o5 :: o6 :: o7 :: r) = true) (k : EV G l K d bc bs q (o0 :: o1 :: o2 :: o3 :: o4 :: o5 :: o6 :: some (.int x) :: r) st S post) : EV G l K d bc bs pc (o0 :: o1 :: o2 :: o3 :: o4 :: o5 :: o6 :: o7 :: r) (.int x :: st) S post := by
  subst hq
  intro p e R s m args below meth c Q F Rt hf hlc H locs cells slots LS hc hs hR hS hL
  exact lv_istore F.1 F.2.1 hd hL hn rfl (fun LS1 h => k p e R s m args below meth c Q F Rt hf hlc H locs cells slots LS1 hc hs hR hS (th_L.set (i := 7) (v := .int x) h1 h))
theorem ev_astore7 {o0 o1 o2 o3 o4 o5 o6 : Option Value} {o7 : Option Value} {x : Nat} {r : List (Option Value)} (hd : decode K.1 pc = .ok (.astore 7, 2)) (hq : pc + 2 = q) (hn : 7 < K.2.2.1) (h1 : th_c1 (o0 :: o1 :: o2 :: o3 :: o4 :: o5 :: o6 :: o7 :: r) = true) (k : EV G l K d bc bs q (o0 :: o1 :: o2 :: o3 :: o4 :: o5 :: o6 :: some (.ref x) :: r) st S post) : EV G l K d bc bs pc (o0 :: o1 :: o2 :: o3 :: o4 :: o5 :: o6 :: o7 :: r) (.ref x :: st) S post := by
  subst hq
  intro p e R s m args below meth c Q F Rt hf hlc H locs cells slots LS hc hs hR hS hL
  exact lv_astore F.1 F.2.1 hd hL hn rfl (fun LS1 h => k p e R s m args below meth c Q F Rt hf hlc H locs cells slots LS1 hc hs hR hS (th_L.set (i := 7) (v := .ref x) h1 h))
theorem ev_astoreN7 {o0 o1 o2 o3 o4 o5 o6 : Option Value} {o7 : Option Value} {r : List (Option Value)} (hd : decode K.1 pc = .ok (.astore 7, 2)) (hq : pc + 2 = q) (hn : 7 < K.2.2.1) (h1 : th_c1 (o0 :: o1 :: o2 :: o3 :: o4 :: o5 :: o6 :: o7 :: r) = true) (k : EV G l K d bc bs q (o0 :: o1 :: o2 :: o3 :: o4 :: o5 :: o6 :: some (.null) :: r) st S post) : EV G l K d bc bs pc (o0 :: o1 :: o2 :: o3 :: o4 :: o5 :: o6 :: o7 :: r) (.null :: st) S post := by
  subst hq
  intro p e R s m args below meth c Q F Rt hf hlc H locs cells slots LS hc hs hR hS hL
  exact lv_astoreN F.1 F.2.1 hd hL hn rfl (fun LS1 h => k p e R s m args below meth c Q F Rt hf hlc H locs cells slots LS1 hc hs hR hS (th_L.set (i := 7) (v := .null) h1 h))
theorem ev_iinc7 {o0 o1 o2 o3 o4 o5 o6 : Option Value} {x v : Int32} {n : Int} {r : List (Option Value)} (hd : decode K.1 pc = .ok (.iinc 7 n, 3)) (hq : pc + 3 = q) (hn : 7 < K.2.2.1) (h1 : th_c1 (o0 :: o1 :: o2 :: o3 :: o4 :: o5 :: o6 :: some (.int x) :: r) = true) (hv : x + Int32.ofInt n = v) (k : EV G l K d bc bs q (o0 :: o1 :: o2 :: o3 :: o4 :: o5 :: o6 :: some (.int v) :: r) st S post) : EV G l K d bc bs pc (o0 :: o1 :: o2 :: o3 :: o4 :: o5 :: o6 :: some (.int x) :: r) st S post := by
  subst hq
  intro p e R s m args below meth c Q F Rt hf hlc H locs cells slots LS hc hs hR hS hL
  obtain ⟨kk, hkk⟩ := List.getElem?_of_mem ((th_l_mem (G := G) (o0 :: o1 :: o2 :: o3 :: o4 :: o5 :: o6 :: some (.int x) :: r) 0 7 (.int x)).mpr ⟨7, .int x, rfl, by omega, rfl⟩)
  exact lv_iinc F.1 F.2.1 hd hL hkk hv hn rfl (fun LS1 h => k p e R s m args below meth c Q F Rt hf hlc H locs cells slots LS1 hc hs hR hS (th_L.set (i := 7) (v := .int v) h1 h))
theorem ev_iload8 {o0 o1 o2 o3 o4 o5 o6 o7 : Option Value} {x : Int32} {r : List (Option Value)} (hd : decode K.1 pc = .ok (.iload 8, 2)) (hq : pc + 2 = q) (k : EV G l K d bc bs q (o0 :: o1 :: o2 :: o3 :: o4 :: o5 :: o6 :: o7 :: some (.int x) :: r) (.int x :: st) S post) : EV G l K d bc bs pc (o0 :: o1 :: o2 :: o3 :: o4 :: o5 :: o6 :: o7 :: some (.int x) :: r) st S post := by
  subst hq
  intro p e R s m args below meth c Q F Rt hf hlc H locs cells slots LS hc hs hR hS hL
  exact lv_iload F.1 F.2.1 hd (hL.at (i := 8) rfl) (k p e R s m args below meth c Q F Rt hf hlc H locs cells slots LS hc hs hR hS hL)
theorem ev_lload8 {o0 o1 o2 o3 o4 o5 o6 o7 : Option Value} {x : Int64} {r : List (Option Value)} (hd : decode K.1 pc = .ok (.lload 8, 2)) (hq : pc + 2 = q) (k : EV G l K d bc bs q (o0 :: o1 :: o2 :: o3 :: o4 :: o5 :: o6 :: o7 :: some (.long x) :: r) (.long x :: st) S post) : EV G l K d bc bs pc (o0 :: o1 :: o2 :: o3 :: o4 :: o5 :: o6 :: o7 :: some (.long x) :: r) st S post := by
  subst hq
  intro p e R s m args below meth c Q F Rt hf hlc H locs cells slots LS hc hs hR hS hL
  exact lv_lload F.1 F.2.1 hd (hL.at (i := 8) rfl) (k p e R s m args below meth c Q F Rt hf hlc H locs cells slots LS hc hs hR hS hL)
theorem ev_aload8 {o0 o1 o2 o3 o4 o5 o6 o7 : Option Value} {x : Nat} {r : List (Option Value)} (hd : decode K.1 pc = .ok (.aload 8, 2)) (hq : pc + 2 = q) (k : EV G l K d bc bs q (o0 :: o1 :: o2 :: o3 :: o4 :: o5 :: o6 :: o7 :: some (.ref x) :: r) (.ref x :: st) S post) : EV G l K d bc bs pc (o0 :: o1 :: o2 :: o3 :: o4 :: o5 :: o6 :: o7 :: some (.ref x) :: r) st S post := by
  subst hq
  intro p e R s m args below meth c Q F Rt hf hlc H locs cells slots LS hc hs hR hS hL
  exact lv_aload F.1 F.2.1 hd (hL.at (i := 8) rfl) (k p e R s m args below meth c Q F Rt hf hlc H locs cells slots LS hc hs hR hS hL)
theorem ev_aloadN8 {o0 o1 o2 o3 o4 o5 o6 o7 : Option Value} {r : List (Option Value)} (hd : decode K.1 pc = .ok (.aload 8, 2)) (hq : pc + 2 = q) (k : EV G l K d bc bs q (o0 :: o1 :: o2 :: o3 :: o4 :: o5 :: o6 :: o7 :: some (.null) :: r) (.null :: st) S post) : EV G l K d bc bs pc (o0 :: o1 :: o2 :: o3 :: o4 :: o5 :: o6 :: o7 :: some (.null) :: r) st S post := by
  subst hq
  intro p e R s m args below meth c Q F Rt hf hlc H locs cells slots LS hc hs hR hS hL
  exact lv_aloadN F.1 F.2.1 hd (hL.at (i := 8) rfl) (k p e R s m args below meth c Q F Rt hf hlc H locs cells slots LS hc hs hR hS hL)
theorem ev_istore8 {o0 o1 o2 o3 o4 o5 o6 o7 : Option Value} {o8 : Option Value} {x : Int32} {r : List (Option Value)} (hd : decode K.1 pc = .ok (.istore 8, 2)) (hq : pc + 2 = q) (hn : 8 < K.2.2.1) (h1 : th_c1 (o0 :: o1 :: o2 :: o3 :: o4 :: o5 :: o6 :: o7 :: o8 :: r) = true) (k : EV G l K d bc bs q (o0 :: o1 :: o2 :: o3 :: o4 :: o5 :: o6 :: o7 :: some (.int x) :: r) st S post) : EV G l K d bc bs pc (o0 :: o1 :: o2 :: o3 :: o4 :: o5 :: o6 :: o7 :: o8 :: r) (.int x :: st) S post := by
  subst hq
  intro p e R s m args below meth c Q F Rt hf hlc H locs cells slots LS hc hs hR hS hL
  exact lv_istore F.1 F.2.1 hd hL hn rfl (fun LS1 h => k p e R s m args below meth c Q F Rt hf hlc H locs cells slots LS1 hc hs hR hS (th_L.set (i := 8) (v := .int x) h1 h))
theorem ev_astore8 {o0 o1 o2 o3 o4 o5 o6 o7 : Option Value} {o8 : Option Value} {x : Nat} {r : List (Option Value)} (hd : decode K.1 pc = .ok (.astore 8, 2)) (hq : pc + 2 = q) (hn : 8 < K.2.2.1) (h1 : th_c1 (o0 :: o1 :: o2 :: o3 :: o4 :: o5 :: o6 :: o7 :: o8 :: r) = true) (k : EV G l K d bc bs q (o0 :: o1 :: o2 :: o3 :: o4 :: o5 :: o6 :: o7 :: some (.ref x) :: r) st S post) : EV G l K d bc bs pc (o0 :: o1 :: o2 :: o3 :: o4 :: o5 :: o6 :: o7 :: o8 :: r) (.ref x :: st) S post := by
  subst hq
  intro p e R s m args below meth c Q F Rt hf hlc H locs cells slots LS hc hs hR hS hL
  exact lv_astore F.1 F.2.1 hd hL hn rfl (fun LS1 h => k p e R s m args below meth c Q F Rt hf hlc H locs cells slots LS1 hc hs hR hS (th_L.set (i := 8) (v := .ref x) h1 h))
theorem ev_astoreN8 {o0 o1 o2 o3 o4 o5 o6 o7 : Option Value} {o8 : Option Value} {r : List (Option Value)} (hd : decode K.1 pc = .ok (.astore 8, 2)) (hq : pc + 2 = q) (hn : 8 < K.2.2.1) (h1 : th_c1 (o0 :: o1 :: o2 :: o3 :: o4 :: o5 :: o6 :: o7 :: o8 :: r) = true) (k : EV G l K d bc bs q (o0 :: o1 :: o2 :: o3 :: o4 :: o5 :: o6 :: o7 :: some (.null) :: r) st S post) : EV G l K d bc bs pc (o0 :: o1 :: o2 :: o3 :: o4 :: o5 :: o6 :: o7 :: o8 :: r) (.null :: st) S post := by
  subst hq
  intro p e R s m args below meth c Q F Rt hf hlc H locs cells slots LS hc hs hR hS hL
  exact lv_astoreN F.1 F.2.1 hd hL hn rfl (fun LS1 h => k p e R s m args below meth c Q F Rt hf hlc H locs cells slots LS1 hc hs hR hS (th_L.set (i := 8) (v := .null) h1 h))
theorem ev_iinc8 {o0 o1 o2 o3 o4 o5 o6 o7 : Option Value} {x v : Int32} {n : Int} {r : List (Option Value)} (hd : decode K.1 pc = .ok (.iinc 8 n, 3)) (hq : pc + 3 = q) (hn : 8 < K.2.2.1) (h1 : th_c1 (o0 :: o1 :: o2 :: o3 :: o4 :: o5 :: o6 :: o7 :: some (.int x) :: r) = true) (hv : x + Int32.ofInt n = v) (k : EV G l K d bc bs q (o0 :: o1 :: o2 :: o3 :: o4 :: o5 :: o6 :: o7 :: some (.int v) :: r) st S post) : EV G l K d bc bs pc (o0 :: o1 :: o2 :: o3 :: o4 :: o5 :: o6 :: o7 :: some (.int x) :: r) st S post := by
  subst hq
  intro p e R s m args below meth c Q F Rt hf hlc H locs cells slots LS hc hs hR hS hL
  obtain ⟨kk, hkk⟩ := List.getElem?_of_mem ((th_l_mem (G := G) (o0 :: o1 :: o2 :: o3 :: o4 :: o5 :: o6 :: o7 :: some (.int x) :: r) 0 8 (.int x)).mpr ⟨8, .int x, rfl, by omega, rfl⟩)
  exact lv_iinc F.1 F.2.1 hd hL hkk hv hn rfl (fun LS1 h => k p e R s m args below meth c Q F Rt hf hlc H locs cells slots LS1 hc hs hR hS (th_L.set (i := 8) (v := .int v) h1 h))
theorem ev_iload9 {o0 o1 o2 o3 o4 o5 o6 o7 o8 : Option Value} {x : Int32} {r : List (Option Value)} (hd : decode K.1 pc = .ok (.iload 9, 2)) (hq : pc + 2 = q) (k : EV G l K d bc bs q (o0 :: o1 :: o2 :: o3 :: o4 :: o5 :: o6 :: o7 :: o8 :: some (.int x) :: r) (.int x :: st) S post) : EV G l K d bc bs pc (o0 :: o1 :: o2 :: o3 :: o4 :: o5 :: o6 :: o7 :: o8 :: some (.int x) :: r) st S post := by
  subst hq
  intro p e R s m args below meth c Q F Rt hf hlc H locs cells slots LS hc hs hR hS hL
  exact lv_iload F.1 F.2.1 hd (hL.at (i := 9) rfl) (k p e R s m args below meth c Q F Rt hf hlc H locs cells slots LS hc hs hR hS hL)
theorem ev_lload9 {o0 o1 o2 o3 o4 o5 o6 o7 o8 : Option Value} {x : Int64} {r : List (Option Value)} (hd : decode K.1 pc = .ok (.lload 9, 2)) (hq : pc + 2 = q) (k : EV G l K d bc bs q (o0 :: o1 :: o2 :: o3 :: o4 :: o5 :: o6 :: o7 :: o8 :: some (.long x) :: r) (.long x :: st) S post) : EV G l K d bc bs pc (o0 :: o1 :: o2 :: o3 :: o4 :: o5 :: o6 :: o7 :: o8 :: some (.long x) :: r) st S post := by
  subst hq
  intro p e R s m args below meth c Q F Rt hf hlc H locs cells slots LS hc hs hR hS hL
  exact lv_lload F.1 F.2.1 hd (hL.at (i := 9) rfl) (k p e R s m args below meth c Q F Rt hf hlc H locs cells slots LS hc hs hR hS hL)
theorem ev_aload9 {o0 o1 o2 o3 o4 o5 o6 o7 o8 : Option Value} {x : Nat} {r : List (Option Value)} (hd : decode K.1 pc = .ok (.aload 9, 2)) (hq : pc + 2 = q) (k : EV G l K d bc bs q (o0 :: o1 :: o2 :: o3 :: o4 :: o5 :: o6 :: o7 :: o8 :: some (.ref x) :: r) (.ref x :: st) S post) : EV G l K d bc bs pc (o0 :: o1 :: o2 :: o3 :: o4 :: o5 :: o6 :: o7 :: o8 :: some (.ref x) :: r) st S post := by
  subst hq
  intro p e R s m args below meth c Q F Rt hf hlc H locs cells slots LS hc hs hR hS hL
  exact lv_aload F.1 F.2.1 hd (hL.at (i := 9) rfl) (k p e R s m args below meth c Q F Rt hf hlc H locs cells slots LS hc hs hR hS hL)
theorem ev_aloadN9 {o0 o1 o2 o3 o4 o5 o6 o7 o8 : Option Value} {r : List (Option Value)} (hd : decode K.1 pc = .ok (.aload 9, 2)) (hq : pc + 2 = q) (k : EV G l K d bc bs q (o0 :: o1 :: o2 :: o3 :: o4 :: o5 :: o6 :: o7 :: o8 :: some (.null) :: r) (.null :: st) S post) : EV G l K d bc bs pc (o0 :: o1 :: o2 :: o3 :: o4 :: o5 :: o6 :: o7 :: o8 :: some (.null) :: r) st S post := by
  subst hq
  intro p e R s m args below meth c Q F Rt hf hlc H locs cells slots LS hc hs hR hS hL
  exact lv_aloadN F.1 F.2.1 hd (hL.at (i := 9) rfl) (k p e R s m args below meth c Q F Rt hf hlc H locs cells slots LS hc hs hR hS hL)
theorem ev_istore9 {o0 o1 o2 o3 o4 o5 o6 o7 o8 : Option Value} {o9 : Option Value} {x : Int32} {r : List (Option Value)} (hd : decode K.1 pc = .ok (.istore 9, 2)) (hq : pc + 2 = q) (hn : 9 < K.2.2.1) (h1 : th_c1 (o0 :: o1 :: o2 :: o3 :: o4 :: o5 :: o6 :: o7 :: o8 :: o9 :: r) = true) (k : EV G l K d bc bs q (o0 :: o1 :: o2 :: o3 :: o4 :: o5 :: o6 :: o7 :: o8 :: some (.int x) :: r) st S post) : EV G l K d bc bs pc (o0 :: o1 :: o2 :: o3 :: o4 :: o5 :: o6 :: o7 :: o8 :: o9 :: r) (.int x :: st) S post := by
  subst hq
  intro p e R s m args below meth c Q F Rt hf hlc H locs cells slots LS hc hs hR hS hL
  exact lv_istore F.1 F.2.1 hd hL hn rfl (fun LS1 h => k p e R s m args below meth c Q F Rt hf hlc H locs cells slots LS1 hc hs hR hS (th_L.set (i := 9) (v := .int x) h1 h))
theorem ev_astore9 {o0 o1 o2 o3 o4 o5 o6 o7 o8 : Option Value} {o9 : Option Value} {x : Nat} {r : List (Option Value)} (hd : decode K.1 pc = .ok (.astore 9, 2)) (hq : pc + 2 = q) (hn : 9 < K.2.2.1) (h1 : th_c1 (o0 :: o1 :: o2 :: o3 :: o4 :: o5 :: o6 :: o7 :: o8 :: o9 :: r) = true) (k : EV G l K d bc bs q (o0 :: o1 :: o2 :: o3 :: o4 :: o5 :: o6 :: o7 :: o8 :: some (.ref x) :: r) st S post) : EV G l K d bc bs pc (o0 :: o1 :: o2 :: o3 :: o4 :: o5 :: o6 :: o7 :: o8 :: o9 :: r) (.ref x :: st) S post := by
  subst hq
  intro p e R s m args below meth c Q F Rt hf hlc H locs cells slots LS hc hs hR hS hL
  exact lv_astore F.1 F.2.1 hd hL hn rfl (fun LS1 h => k p e R s m args below meth c Q F Rt hf hlc H locs cells slots LS1 hc hs hR hS (th_L.set (i := 9) (v := .ref x) h1 h))
theorem ev_astoreN9 {o0 o1 o2 o3 o4 o5 o6 o7 o8 : Option Value} {o9 : Option Value} {r : List (Option Value)} (hd : decode K.1 pc = .ok (.astore 9, 2)) (hq : pc + 2 = q) (hn : 9 < K.2.2.1) (h1 : th_c1 (o0 :: o1 :: o2 :: o3 :: o4 :: o5 :: o6 :: o7 :: o8 :: o9 :: r) = true) (k : EV G l K d bc bs q (o0 :: o1 :: o2 :: o3 :: o4 :: o5 :: o6 :: o7 :: o8 :: some (.null) :: r) st S post) : EV G l K d bc bs pc (o0 :: o1 :: o2 :: o3 :: o4 :: o5 :: o6 :: o7 :: o8 :: o9 :: r) (.null :: st) S post := by
  subst hq
  intro p e R s m args below meth c Q F Rt hf hlc H locs cells slots LS hc hs hR hS hL
  exact lv_astoreN F.1 F.2.1 hd hL hn rfl (fun LS1 h => k p e R s m args below meth c Q F Rt hf hlc H locs cells slots LS1 hc hs hR hS (th_L.set (i := 9) (v := .null) h1 h))
theorem ev_iinc9 {o0 o1 o2 o3 o4 o5 o6 o7 o8 : Option Value} {x v : Int32} {n : Int} {r : List (Option Value)} (hd : decode K.1 pc = .ok (.iinc 9 n, 3)) (hq : pc + 3 = q) (hn : 9 < K.2.2.1) (h1 : th_c1 (o0 :: o1 :: o2 :: o3 :: o4 :: o5 :: o6 :: o7 :: o8 :: some (.int x) :: r) = true) (hv : x + Int32.ofInt n = v) (k : EV G l K d bc bs q (o0 :: o1 :: o2 :: o3 :: o4 :: o5 :: o6 :: o7 :: o8 :: some (.int v) :: r) st S post) : EV G l K d bc bs pc (o0 :: o1 :: o2 :: o3 :: o4 :: o5 :: o6 :: o7 :: o8 :: some (.int x) :: r) st S post := by
  subst hq
  intro p e R s m args below meth c Q F Rt hf hlc H locs cells slots LS hc hs hR hS hL
  obtain ⟨kk, hkk⟩ := List.getElem?_of_mem ((th_l_mem (G := G) (o0 :: o1 :: o2 :: o3 :: o4 :: o5 :: o6 :: o7 :: o8 :: some (.int x) :: r) 0 9 (.int x)).mpr ⟨9, .int x, rfl, by omega, rfl⟩)
  exact lv_iinc F.1 F.2.1 hd hL hkk hv hn rfl (fun LS1 h => k p e R s m args below meth c Q F Rt hf hlc H locs cells slots LS1 hc hs hR hS (th_L.set (i := 9) (v := .int v) h1 h))
theorem ev_iload10 {o0 o1 o2 o3 o4 o5 o6 o7 o8 o9 : Option Value} {x : Int32} {r : List (Option Value)} (hd : decode K.1 pc = .ok (.iload 10, 2)) (hq : pc + 2 = q) (k : EV G l K d bc bs q (o0 :: o1 :: o2 :: o3 :: o4 :: o5 :: o6 :: o7 :: o8 :: o9 :: some (.int x) :: r) (.int x :: st) S post) : EV G l K d bc bs pc (o0 :: o1 :: o2 :: o3 :: o4 :: o5 :: o6 :: o7 :: o8 :: o9 :: some (.int x) :: r) st S post := by
  subst hq
  intro p e R s m args below meth c Q F Rt hf hlc H locs cells slots LS hc hs hR hS hL
  exact lv_iload F.1 F.2.1 hd (hL.at (i := 10) rfl) (k p e R s m args below meth c Q F Rt hf hlc H locs cells slots LS hc hs hR hS hL)
theorem ev_lload10 {o0 o1 o2 o3 o4 o5 o6 o7 o8 o9 : Option Value} {x : Int64} {r : List (Option Value)} (hd : decode K.1 pc = .ok (.lload 10, 2)) (hq : pc + 2 = q) (k : EV G l K d bc bs q (o0 :: o1 :: o2 :: o3 :: o4 :: o5 :: o6 :: o7 :: o8 :: o9 :: some (.long x) :: r) (.long x :: st) S post) : EV G l K d bc bs pc (o0 :: o1 :: o2 :: o3 :: o4 :: o5 :: o6 :: o7 :: o8 :: o9 :: some (.long x) :: r) st S post := by
  subst hq
  intro p e R s m args below meth c Q F Rt hf hlc H locs cells slots LS hc hs hR hS hL
  exact lv_lload F.1 F.2.1 hd (hL.at (i := 10) rfl) (k p e R s m args below meth c Q F Rt hf hlc H locs cells slots LS hc hs hR hS hL)
theorem ev_aload10 {o0 o1 o2 o3 o4 o5 o6 o7 o8 o9 : Option Value} {x : Nat} {r : List (Option Value)} (hd : decode K.1 pc = .ok (.aload 10, 2)) (hq : pc + 2 = q) (k : EV G l K d bc bs q (o0 :: o1 :: o2 :: o3 :: o4 :: o5 :: o6 :: o7 :: o8 :: o9 :: some (.ref x) :: r) (.ref x :: st) S post) : EV G l K d bc bs pc (o0 :: o1 :: o2 :: o3 :: o4 :: o5 :: o6 :: o7 :: o8 :: o9 :: some (.ref x) :: r) st S post := by
  subst hq
  intro p e R s m args below meth c Q F Rt hf hlc H locs cells slots LS hc hs hR hS hL
  exact lv_aload F.1 F.2.1 hd (hL.at (i := 10) rfl) (k p e R s m args below meth c Q F Rt hf hlc H locs cells slots LS hc hs hR hS hL)
theorem ev_aloadN10 {o0 o1 o2 o3 o4 o5 o6 o7 o8 o9 : Option Value} {r : List (Option Value)} (hd : decode K.1 pc = .ok (.aload 10, 2)) (hq : pc + 2 = q) (k : EV G l K d bc bs q (o0 :: o1 :: o2 :: o3 :: o4 :: o5 :: o6 :: o7 :: o8 :: o9 :: some (.null) :: r) (.null :: st) S post) : EV G l K d bc bs pc (o0 :: o1 :: o2 :: o3 :: o4 :: o5 :: o6 :: o7 :: o8 :: o9 :: some (.null) :: r) st S post := by
  subst hq
  intro p e R s m args below meth c Q F Rt hf hlc H locs cells slots LS hc hs hR hS hL
  exact lv_aloadN F.1 F.2.1 hd (hL.at (i := 10) rfl) (k p e R s m args below meth c Q F Rt hf hlc H locs cells slots LS hc hs hR hS hL)
theorem ev_istore10 {o0 o1 o2 o3 o4 o5 o6 o7 o8 o9 : Option Value} {o10 : Option Value} {x : Int32} {r : List (Option Value)} (hd : decode K.1 pc = .ok (.istore 10, 2)) (hq : pc + 2 = q) (hn : 10 < K.2.2.1) (h1 : th_c1 (o0 :: o1 :: o2 :: o3 :: o4 :: o5 :: o6 :: o7 :: o8 :: o9 :: o10 :: r) = true) (k : EV G l K d bc bs q (o0 :: o1 :: o2 :: o3 :: o4 :: o5 :: o6 :: o7 :: o8 :: o9 :: some (.int x) :: r) st S post) : EV G l K d bc bs pc (o0 :: o1 :: o2 :: o3 :: o4 :: o5 :: o6 :: o7 :: o8 :: o9 :: o10 :: r) (.int x :: st) S post := by
  subst hq
  intro p e R s m args below meth c Q F Rt hf hlc H locs cells slots LS hc hs hR hS hL
  exact lv_istore F.1 F.2.1 hd hL hn rfl (fun LS1 h => k p e R s m args below meth c Q F Rt hf hlc H locs cells slots LS1 hc hs hR hS (th_L.set (i := 10) (v := .int x) h1 h))
theorem ev_astore10 {o0 o1 o2 o3 o4 o5 o6 o7 o8 o9 : Option Value} {o10 : Option Value} {x : Nat} {r : List (Option Value)} (hd : decode K.1 pc = .ok (.astore 10, 2)) (hq : pc + 2 = q) (hn : 10 < K.2.2.1) (h1 : th_c1 (o0 :: o1 :: o2 :: o3 :: o4 :: o5 :: o6 :: o7 :: o8 :: o9 :: o10 :: r) = true) (k : EV G l K d bc bs q (o0 :: o1 :: o2 :: o3 :: o4 :: o5 :: o6 :: o7 :: o8 :: o9 :: some (.ref x) :: r) st S post) : EV G l K d bc bs pc (o0 :: o1 :: o2 :: o3 :: o4 :: o5 :: o6 :: o7 :: o8 :: o9 :: o10 :: r) (.ref x :: st) S post := by
  subst hq
  intro p e R s m args below meth c Q F Rt hf hlc H locs cells slots LS hc hs hR hS hL
  exact lv_astore F.1 F.2.1 hd hL hn rfl (fun LS1 h => k p e R s m args below meth c Q F Rt hf hlc H locs cells slots LS1 hc hs hR hS (th_L.set (i := 10) (v := .ref x) h1 h))
theorem ev_astoreN10 {o0 o1 o2 o3 o4 o5 o6 o7 o8 o9 : Option Value} {o10 : Option Value} {r : List (Option Value)} (hd : decode K.1 pc = .ok (.astore 10, 2)) (hq : pc + 2 = q) (hn : 10 < K.2.2.1) (h1 : th_c1 (o0 :: o1 :: o2 :: o3 :: o4 :: o5 :: o6 :: o7 :: o8 :: o9 :: o10 :: r) = true) (k : EV G l K d bc bs q (o0 :: o1 :: o2 :: o3 :: o4 :: o5 :: o6 :: o7 :: o8 :: o9 :: some (.null) :: r) st S post) : EV G l K d bc bs pc (o0 :: o1 :: o2 :: o3 :: o4 :: o5 :: o6 :: o7 :: o8 :: o9 :: o10 :: r) (.null :: st) S post := by
  subst hq
  intro p e R s m args below meth c Q F Rt hf hlc H locs cells slots LS hc hs hR hS hL
  exact lv_astoreN F.1 F.2.1 hd hL hn rfl (fun LS1 h => k p e R s m args below meth c Q F Rt hf hlc H locs cells slots LS1 hc hs hR hS (th_L.set (i := 10) (v := .null) h1 h))
theorem ev_iinc10 {o0 o1 o2 o3 o4 o5 o6 o7 o8 o9 : Option Value} {x v : Int32} {n : Int} {r : List (Option Value)} (hd : decode K.1 pc = .ok (.iinc 10 n, 3)) (hq : pc + 3 = q) (hn : 10 < K.2.2.1) (h1 : th_c1 (o0 :: o1 :: o2 :: o3 :: o4 :: o5 :: o6 :: o7 :: o8 :: o9 :: some (.int x) :: r) = true) (hv : x + Int32.ofInt n = v) (k : EV G l K d bc bs q (o0 :: o1 :: o2 :: o3 :: o4 :: o5 :: o6 :: o7 :: o8 :: o9 :: some (.int v) :: r) st S post) : EV G l K d bc bs pc (o0 :: o1 :: o2 :: o3 :: o4 :: o5 :: o6 :: o7 :: o8 :: o9 :: some (.int x) :: r) st S post := by
  subst hq
  intro p e R s m args below meth c Q F Rt hf hlc H locs cells slots LS hc hs hR hS hL
  obtain ⟨kk, hkk⟩ := List.getElem?_of_mem ((th_l_mem (G := G) (o0 :: o1 :: o2 :: o3 :: o4 :: o5 :: o6 :: o7 :: o8 :: o9 :: some (.int x) :: r) 0 10 (.int x)).mpr ⟨10, .int x, rfl, by omega, rfl⟩)
  exact lv_iinc F.1 F.2.1 hd hL hkk hv hn rfl (fun LS1 h => k p e R s m args below meth c Q F Rt hf hlc H locs cells slots LS1 hc hs hR hS (th_L.set (i := 10) (v := .int v) h1 h))
theorem ev_if_eq {x : Int32} {off : Int} {t : Nat} (hd : decode K.1 pc = .ok (.ifCond .eq off, 3)) (hq : pc + 3 = q) (ht : (pc : Int) + off = (t : Int)) (kt : x = 0 → EV G l K d bc bs t ls st S post) (kf : ¬ x = 0 → EV G l K d bc bs q ls st S post) : EV G l K d bc bs pc ls (.int x :: st) S post := by
  subst hq
  intro p e R s m args below meth c Q F Rt hf hlc H locs cells slots LS hc hs hR hS hL
  exact lv_if_eq F.1 F.2.1 hd ht (fun h => kt h p e R s m args below meth c Q F Rt hf hlc H locs cells slots LS hc hs hR hS hL) (fun h => kf h p e R s m args below meth c Q F Rt hf hlc H locs cells slots LS hc hs hR hS hL)
theorem ev_if_ne {x : Int32} {off : Int} {t : Nat} (hd : decode K.1 pc = .ok (.ifCond .ne off, 3)) (hq : pc + 3 = q) (ht : (pc : Int) + off = (t : Int)) (kt : x ≠ 0 → EV G l K d bc bs t ls st S post) (kf : x = 0 → EV G l K d bc bs q ls st S post) : EV G l K d bc bs pc ls (.int x :: st) S post := by
  subst hq
  intro p e R s m args below meth c Q F Rt hf hlc H locs cells slots LS hc hs hR hS hL
  exact lv_if_ne F.1 F.2.1 hd ht (fun h => kt h p e R s m args below meth c Q F Rt hf hlc H locs cells slots LS hc hs hR hS hL) (fun h => kf h p e R s m args below meth c Q F Rt hf hlc H locs cells slots LS hc hs hR hS hL)
theorem ev_if_lt {x : Int32} {off : Int} {t : Nat} (hd : decode K.1 pc = .ok (.ifCond .lt off, 3)) (hq : pc + 3 = q) (ht : (pc : Int) + off = (t : Int)) (kt : x < 0 → EV G l K d bc bs t ls st S post) (kf : ¬ x < 0 → EV G l K d bc bs q ls st S post) : EV G l K d bc bs pc ls (.int x :: st) S post := by
  subst hq
  intro p e R s m args below meth c Q F Rt hf hlc H locs cells slots LS hc hs hR hS hL
  exact lv_if_lt F.1 F.2.1 hd ht (fun h => kt h p e R s m args below meth c Q F Rt hf hlc H locs cells slots LS hc hs hR hS hL) (fun h => kf h p e R s m args below meth c Q F Rt hf hlc H locs cells slots LS hc hs hR hS hL)
theorem ev_if_ge {x : Int32} {off : Int} {t : Nat} (hd : decode K.1 pc = .ok (.ifCond .ge off, 3)) (hq : pc + 3 = q) (ht : (pc : Int) + off = (t : Int)) (kt : 0 ≤ x → EV G l K d bc bs t ls st S post) (kf : ¬ 0 ≤ x → EV G l K d bc bs q ls st S post) : EV G l K d bc bs pc ls (.int x :: st) S post := by
  subst hq
  intro p e R s m args below meth c Q F Rt hf hlc H locs cells slots LS hc hs hR hS hL
  exact lv_if_ge F.1 F.2.1 hd ht (fun h => kt h p e R s m args below meth c Q F Rt hf hlc H locs cells slots LS hc hs hR hS hL) (fun h => kf h p e R s m args below meth c Q F Rt hf hlc H locs cells slots LS hc hs hR hS hL)
theorem ev_if_gt {x : Int32} {off : Int} {t : Nat} (hd : decode K.1 pc = .ok (.ifCond .gt off, 3)) (hq : pc + 3 = q) (ht : (pc : Int) + off = (t : Int)) (kt : 0 < x → EV G l K d bc bs t ls st S post) (kf : ¬ 0 < x → EV G l K d bc bs q ls st S post) : EV G l K d bc bs pc ls (.int x :: st) S post := by
  subst hq
  intro p e R s m args below meth c Q F Rt hf hlc H locs cells slots LS hc hs hR hS hL
  exact lv_if_gt F.1 F.2.1 hd ht (fun h => kt h p e R s m args below meth c Q F Rt hf hlc H locs cells slots LS hc hs hR hS hL) (fun h => kf h p e R s m args below meth c Q F Rt hf hlc H locs cells slots LS hc hs hR hS hL)
theorem ev_if_le {x : Int32} {off : Int} {t : Nat} (hd : decode K.1 pc = .ok (.ifCond .le off, 3)) (hq : pc + 3 = q) (ht : (pc : Int) + off = (t : Int)) (kt : x ≤ 0 → EV G l K d bc bs t ls st S post) (kf : ¬ x ≤ 0 → EV G l K d bc bs q ls st S post) : EV G l K d bc bs pc ls (.int x :: st) S post := by
  subst hq
  intro p e R s m args below meth c Q F Rt hf hlc H locs cells slots LS hc hs hR hS hL
  exact lv_if_le F.1 F.2.1 hd ht (fun h => kt h p e R s m args below meth c Q F Rt hf hlc H locs cells slots LS hc hs hR hS hL) (fun h => kf h p e R s m args below meth c Q F Rt hf hlc H locs cells slots LS hc hs hR hS hL)
theorem ev_icmp_eq {x y : Int32} {off : Int} {t : Nat} (hd : decode K.1 pc = .ok (.if_icmp .eq off, 3)) (hq : pc + 3 = q) (ht : (pc : Int) + off = (t : Int)) (kt : x = y → EV G l K d bc bs t ls st S post) (kf : ¬ x = y → EV G l K d bc bs q ls st S post) : EV G l K d bc bs pc ls (.int y :: .int x :: st) S post := by
  subst hq
  intro p e R s m args below meth c Q F Rt hf hlc H locs cells slots LS hc hs hR hS hL
  exact lv_icmp_eq F.1 F.2.1 hd ht (fun h => kt h p e R s m args below meth c Q F Rt hf hlc H locs cells slots LS hc hs hR hS hL) (fun h => kf h p e R s m args below meth c Q F Rt hf hlc H locs cells slots LS hc hs hR hS hL)
theorem ev_icmp_ne {x y : Int32} {off : Int} {t : Nat} (hd : decode K.1 pc = .ok (.if_icmp .ne off, 3)) (hq : pc + 3 = q) (ht : (pc : Int) + off = (t : Int)) (kt : x ≠ y → EV G l K d bc bs t ls st S post) (kf : x = y → EV G l K d bc bs q ls st S post) : EV G l K d bc bs pc ls (.int y :: .int x :: st) S post := by
  subst hq
  intro p e R s m args below meth c Q F Rt hf hlc H locs cells slots LS hc hs hR hS hL
  exact lv_icmp_ne F.1 F.2.1 hd ht (fun h => kt h p e R s m args below meth c Q F Rt hf hlc H locs cells slots LS hc hs hR hS hL) (fun h => kf h p e R s m args below meth c Q F Rt hf hlc H locs cells slots LS hc hs hR hS hL)
theorem ev_icmp_lt {x y : Int32} {off : Int} {t : Nat} (hd : decode K.1 pc = .ok (.if_icmp .lt off, 3)) (hq : pc + 3 = q) (ht : (pc : Int) + off = (t : Int)) (kt : x < y → EV G l K d bc bs t ls st S post) (kf : ¬ x < y → EV G l K d bc bs q ls st S post) : EV G l K d bc bs pc ls (.int y :: .int x :: st) S post := by
  subst hq
  intro p e R s m args below meth c Q F Rt hf hlc H locs cells slots LS hc hs hR hS hL
  exact lv_icmp_lt F.1 F.2.1 hd ht (fun h => kt h p e R s m args below meth c Q F Rt hf hlc H locs cells slots LS hc hs hR hS hL) (fun h => kf h p e R s m args below meth c Q F Rt hf hlc H locs cells slots LS hc hs hR hS hL)
theorem ev_icmp_ge {x y : Int32} {off : Int} {t : Nat} (hd : decode K.1 pc = .ok (.if_icmp .ge off, 3)) (hq : pc + 3 = q) (ht : (pc : Int) + off = (t : Int)) (kt : y ≤ x → EV G l K d bc bs t ls st S post) (kf : ¬ y ≤ x → EV G l K d bc bs q ls st S post) : EV G l K d bc bs pc ls (.int y :: .int x :: st) S post := by
  subst hq
  intro p e R s m args below meth c Q F Rt hf hlc H locs cells slots LS hc hs hR hS hL
  exact lv_icmp_ge F.1 F.2.1 hd ht (fun h => kt h p e R s m args below meth c Q F Rt hf hlc H locs cells slots LS hc hs hR hS hL) (fun h => kf h p e R s m args below meth c Q F Rt hf hlc H locs cells slots LS hc hs hR hS hL)
theorem ev_icmp_gt {x y : Int32} {off : Int} {t : Nat} (hd : decode K.1 pc = .ok (.if_icmp .gt off, 3)) (hq : pc + 3 = q) (ht : (pc : Int) + off = (t : Int)) (kt : y < x → EV G l K d bc bs t ls st S post) (kf : ¬ y < x → EV G l K d bc bs q ls st S post) : EV G l K d bc bs pc ls (.int y :: .int x :: st) S post := by
  subst hq
  intro p e R s m args below meth c Q F Rt hf hlc H locs cells slots LS hc hs hR hS hL
  exact lv_icmp_gt F.1 F.2.1 hd ht (fun h => kt h p e R s m args below meth c Q F Rt hf hlc H locs cells slots LS hc hs hR hS hL) (fun h => kf h p e R s m args below meth c Q F Rt hf hlc H locs cells slots LS hc hs hR hS hL)
theorem ev_icmp_le {x y : Int32} {off : Int} {t : Nat} (hd : decode K.1 pc = .ok (.if_icmp .le off, 3)) (hq : pc + 3 = q) (ht : (pc : Int) + off = (t : Int)) (kt : x ≤ y → EV G l K d bc bs t ls st S post) (kf : ¬ x ≤ y → EV G l K d bc bs q ls st S post) : EV G l K d bc bs pc ls (.int y :: .int x :: st) S post := by
  subst hq
  intro p e R s m args below meth c Q F Rt hf hlc H locs cells slots LS hc hs hR hS hL
  exact lv_icmp_le F.1 F.2.1 hd ht (fun h => kt h p e R s m args below meth c Q F Rt hf hlc H locs cells slots LS hc hs hR hS hL) (fun h => kf h p e R s m args below meth c Q F Rt hf hlc H locs cells slots LS hc hs hR hS hL)
theorem ev_goto {off : Int} (hd : decode K.1 pc = .ok (.goto off, 3)) (ht : (pc : Int) + off = (q : Int)) (k : EV G l K d bc bs q ls st S post) : EV G l K d bc bs pc ls st S post := by
  intro p e R s m args below meth c Q F Rt hf hlc H locs cells slots LS hc hs hR hS hL
  exact lv_goto F.1 F.2.1 hd ht (k p e R s m args below meth c Q F Rt hf hlc H locs cells slots LS hc hs hR hS hL)
theorem ev_ifnonnull {a : Nat} {off : Int} (hd : decode K.1 pc = .ok (.ifnonnull off, 3)) (ht : (pc : Int) + off = (q : Int)) (k : EV G l K d bc bs q ls st S post) : EV G l K d bc bs pc ls (.ref a :: st) S post := by
  intro p e R s m args below meth c Q F Rt hf hlc H locs cells slots LS hc hs hR hS hL
  exact lv_ifnonnull F.1 F.2.1 hd ht (k p e R s m args below meth c Q F Rt hf hlc H locs cells slots LS hc hs hR hS hL)
theorem ev_ifnonnullN {off : Int} (hd : decode K.1 pc = .ok (.ifnonnull off, 3)) (hq : pc + 3 = q) (k : EV G l K d bc bs q ls st S post) : EV G l K d bc bs pc ls (.null :: st) S post := by
  subst hq
  intro p e R s m args below meth c Q F Rt hf hlc H locs cells slots LS hc hs hR hS hL
  exact lv_ifnonnullN F.1 F.2.1 hd (k p e R s m args below meth c Q F Rt hf hlc H locs cells slots LS hc hs hR hS hL)
theorem ev_ifnull {a : Nat} {off : Int} (hd : decode K.1 pc = .ok (.ifnull off, 3)) (hq : pc + 3 = q) (k : EV G l K d bc bs q ls st S post) : EV G l K d bc bs pc ls (.ref a :: st) S post := by
  subst hq
  intro p e R s m args below meth c Q F Rt hf hlc H locs cells slots LS hc hs hR hS hL
  exact lv_ifnull F.1 F.2.1 hd (k p e R s m args below meth c Q F Rt hf hlc H locs cells slots LS hc hs hR hS hL)
theorem ev_ifnullN {off : Int} (hd : decode K.1 pc = .ok (.ifnull off, 3)) (ht : (pc : Int) + off = (q : Int)) (k : EV G l K d bc bs q ls st S post) : EV G l K d bc bs pc ls (.null :: st) S post := by
  intro p e R s m args below meth c Q F Rt hf hlc H locs cells slots LS hc hs hR hS hL
  exact lv_ifnullN F.1 F.2.1 hd ht (k p e R s m args below meth c Q F Rt hf hlc H locs cells slots LS hc hs hR hS hL)
theorem ev_lookup {dflt : Int} {ps : Array (Int × Int)} {len : Nat} {x : Int32} {off : Int} (hd : decode K.1 pc = .ok (.lookupswitch dflt ps, len)) (hp : (ps.toList.zip (ps.toList.drop 1)).all (fun (a, next) => a.1 < next.1) = true) (ho : Op.lookupswitch.offset ps.toList dflt x.toInt = off) (ht : (pc : Int) + off = (q : Int)) (k : EV G l K d bc bs q ls st S post) : EV G l K d bc bs pc ls (.int x :: st) S post := by
  intro p e R s m args below meth c Q F Rt hf hlc H locs cells slots LS hc hs hR hS hL
  exact lv_lookup F.1 F.2.1 hd hp ho ht (k p e R s m args below meth c Q F Rt hf hlc H locs cells slots LS hc hs hR hS hL)
theorem ev_tableOut {dflt lo hi : Int} {offs : Array Int} {len : Nat} {x : Int32} (hd : decode K.1 pc = .ok (.tableswitch dflt lo hi offs, len)) (h : x.toInt < lo ∨ hi < x.toInt) (ht : (pc : Int) + dflt = (q : Int)) (k : EV G l K d bc bs q ls st S post) : EV G l K d bc bs pc ls (.int x :: st) S post := by
  intro p e R s m args below meth c Q F Rt hf hlc H locs cells slots LS hc hs hR hS hL
  exact lv_tableOut F.1 F.2.1 hd h ht (k p e R s m args below meth c Q F Rt hf hlc H locs cells slots LS hc hs hR hS hL)
theorem ev_tableIn {dflt lo hi : Int} {offs : Array Int} {len : Nat} {x : Int32} {off : Int} (hd : decode K.1 pc = .ok (.tableswitch dflt lo hi offs, len)) (h1 : ¬ x.toInt < lo) (h2 : ¬ hi < x.toInt) (ho : offs[(x.toInt - lo).toNat]? = some off) (ht : (pc : Int) + off = (q : Int)) (k : EV G l K d bc bs q ls st S post) : EV G l K d bc bs pc ls (.int x :: st) S post := by
  intro p e R s m args below meth c Q F Rt hf hlc H locs cells slots LS hc hs hR hS hL
  exact lv_tableIn F.1 F.2.1 hd h1 h2 ho ht (k p e R s m args below meth c Q F Rt hf hlc H locs cells slots LS hc hs hR hS hL)
theorem ev_return (hd : decode K.1 pc = .ok (.return_, 1)) (hr : K.2.2.2.1 = none) (hp : post none S) : EV G l K d bc bs pc ls [] S post := by
  intro p e R s m args below meth c Q F Rt hf hlc H locs cells slots LS hc hs hR hS hL
  exact Rt none S H locs cells slots pc LS hp hR hS (by omega) (by omega) (Or.inl ⟨rfl, hr, hd⟩)
theorem ev_ireturn {v : Int32} {ty : FieldType} (hd : decode K.1 pc = .ok (.ireturn, 1)) (hr : K.2.2.2.1 = some ty) (hn : narrow ty (.int v) = .int v) (hp : post (some (.int v)) S) : EV G l K d bc bs pc ls [.int v] S post := by
  intro p e R s m args below meth c Q F Rt hf hlc H locs cells slots LS hc hs hR hS hL
  exact Rt (some (.int v)) S H locs cells slots pc LS hp hR hS (by omega) (by omega) (Or.inr (Or.inl ⟨v, ty, rfl, hr, hn, hd⟩))
theorem ev_areturn {a : Nat} {rt : FieldType} (hd : decode K.1 pc = .ok (.areturn, 1)) (hr : K.2.2.2.1 = some rt) (hrt : (∃ n, rt = .object n) ∨ ∃ t, rt = .array t) (hp : post (some (.ref a)) S) : EV G l K d bc bs pc ls [.ref a] S post := by
  intro p e R s m args below meth c Q F Rt hf hlc H locs cells slots LS hc hs hR hS hL
  exact Rt (some (.ref a)) S H locs cells slots pc LS hp hR hS (by omega) (by omega) (Or.inr (Or.inr ⟨rt, hr, hrt, Or.inr ⟨a, rfl⟩, hd⟩))
theorem ev_areturnN {rt : FieldType} (hd : decode K.1 pc = .ok (.areturn, 1)) (hr : K.2.2.2.1 = some rt) (hrt : (∃ n, rt = .object n) ∨ ∃ t, rt = .array t) (hp : post (some .null) S) : EV G l K d bc bs pc ls [.null] S post := by
  intro p e R s m args below meth c Q F Rt hf hlc H locs cells slots LS hc hs hR hS hL
  exact Rt (some .null) S H locs cells slots pc LS hp hR hS (by omega) (by omega) (Or.inr (Or.inr ⟨rt, hr, hrt, Or.inl rfl, hd⟩))
end EVR
