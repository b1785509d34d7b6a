/-! ===== rules of single instructions ===== -/
section XR
variable {i : Mi} {F : Fn} {cells slots : Nat} {S : List Ds} {M : Mm} {pc : Nat} {lv : Lv} {st : List Value}
theorem x_iadd {a b : Int32} (hd : decode (mC i) pc = .ok (.iadd, 1))  (kk : XW i F cells slots S M (pc + 1) lv (.int (a + b) :: st)) : XW i F cells slots S M pc lv (.int b :: .int a :: st) := by
  intro p l e s m args below meth c D cA rw A ad0 ad H locs ls cx hpre hlen hP hD hS hl
  exact lv_iadd cx.1 cx.2.1 hd (kk p l e s m args below meth c D cA rw A ad0 ad H locs ls cx hpre hlen hP hD hS hl)
theorem x_isub {a b : Int32} (hd : decode (mC i) pc = .ok (.isub, 1))  (kk : XW i F cells slots S M (pc + 1) lv (.int (a - b) :: st)) : XW i F cells slots S M pc lv (.int b :: .int a :: st) := by
  intro p l e s m args below meth c D cA rw A ad0 ad H locs ls cx hpre hlen hP hD hS hl
  exact lv_isub cx.1 cx.2.1 hd (kk p l e s m args below meth c D cA rw A ad0 ad H locs ls cx hpre hlen hP hD hS hl)
theorem x_imul {a b : Int32} (hd : decode (mC i) pc = .ok (.imul, 1))  (kk : XW i F cells slots S M (pc + 1) lv (.int (a * b) :: st)) : XW i F cells slots S M pc lv (.int b :: .int a :: st) := by
  intro p l e s m args below meth c D cA rw A ad0 ad H locs ls cx hpre hlen hP hD hS hl
  exact lv_imul cx.1 cx.2.1 hd (kk p l e s m args below meth c D cA rw A ad0 ad H locs ls cx hpre hlen hP hD hS hl)
theorem x_iand {a b : Int32} (hd : decode (mC i) pc = .ok (.iand, 1))  (kk : XW i F cells slots S M (pc + 1) lv (.int (a &&& b) :: st)) : XW i F cells slots S M pc lv (.int b :: .int a :: st) := by
  intro p l e s m args below meth c D cA rw A ad0 ad H locs ls cx hpre hlen hP hD hS hl
  exact lv_iand cx.1 cx.2.1 hd (kk p l e s m args below meth c D cA rw A ad0 ad H locs ls cx hpre hlen hP hD hS hl)
theorem x_ior {a b : Int32} (hd : decode (mC i) pc = .ok (.ior, 1))  (kk : XW i F cells slots S M (pc + 1) lv (.int (a ||| b) :: st)) : XW i F cells slots S M pc lv (.int b :: .int a :: st) := by
  intro p l e s m args below meth c D cA rw A ad0 ad H locs ls cx hpre hlen hP hD hS hl
  exact lv_ior cx.1 cx.2.1 hd (kk p l e s m args below meth c D cA rw A ad0 ad H locs ls cx hpre hlen hP hD hS hl)
theorem x_ixor {a b : Int32} (hd : decode (mC i) pc = .ok (.ixor, 1))  (kk : XW i F cells slots S M (pc + 1) lv (.int (a ^^^ b) :: st)) : XW i F cells slots S M pc lv (.int b :: .int a :: st) := by
  intro p l e s m args below meth c D cA rw A ad0 ad H locs ls cx hpre hlen hP hD hS hl
  exact lv_ixor cx.1 cx.2.1 hd (kk p l e s m args below meth c D cA rw A ad0 ad H locs ls cx hpre hlen hP hD hS hl)
theorem x_ishl {a b : Int32} (hd : decode (mC i) pc = .ok (.ishl, 1))  (kk : XW i F cells slots S M (pc + 1) lv (.int (a <<< (b &&& 31)) :: st)) : XW i F cells slots S M pc lv (.int b :: .int a :: st) := by
  intro p l e s m args below meth c D cA rw A ad0 ad H locs ls cx hpre hlen hP hD hS hl
  exact lv_ishl cx.1 cx.2.1 hd (kk p l e s m args below meth c D cA rw A ad0 ad H locs ls cx hpre hlen hP hD hS hl)
theorem x_ishr {a b : Int32} (hd : decode (mC i) pc = .ok (.ishr, 1))  (kk : XW i F cells slots S M (pc + 1) lv (.int (a >>> (b &&& 31)) :: st)) : XW i F cells slots S M pc lv (.int b :: .int a :: st) := by
  intro p l e s m args below meth c D cA rw A ad0 ad H locs ls cx hpre hlen hP hD hS hl
  exact lv_ishr cx.1 cx.2.1 hd (kk p l e s m args below meth c D cA rw A ad0 ad H locs ls cx hpre hlen hP hD hS hl)
theorem x_iushr {a b : Int32} (hd : decode (mC i) pc = .ok (.iushr, 1))  (kk : XW i F cells slots S M (pc + 1) lv (.int ((a.toUInt32 >>> (b.toUInt32 &&& Int32.toUInt32 31)).toInt32) :: st)) : XW i F cells slots S M pc lv (.int b :: .int a :: st) := by
  intro p l e s m args below meth c D cA rw A ad0 ad H locs ls cx hpre hlen hP hD hS hl
  exact lv_iushr cx.1 cx.2.1 hd rfl (kk p l e s m args below meth c D cA rw A ad0 ad H locs ls cx hpre hlen hP hD hS hl)
theorem x_idiv {a b : Int32} (hd : decode (mC i) pc = .ok (.idiv, 1)) (hne : ¬ b = 0) (kk : XW i F cells slots S M (pc + 1) lv (.int (a / b) :: st)) : XW i F cells slots S M pc lv (.int b :: .int a :: st) := by
  intro p l e s m args below meth c D cA rw A ad0 ad H locs ls cx hpre hlen hP hD hS hl
  exact lv_idiv cx.1 cx.2.1 hd hne (kk p l e s m args below meth c D cA rw A ad0 ad H locs ls cx hpre hlen hP hD hS hl)
theorem x_irem {a b : Int32} (hd : decode (mC i) pc = .ok (.irem, 1)) (hne : ¬ b = 0) (kk : XW i F cells slots S M (pc + 1) lv (.int (a - a / b * b) :: st)) : XW i F cells slots S M pc lv (.int b :: .int a :: st) := by
  intro p l e s m args below meth c D cA rw A ad0 ad H locs ls cx hpre hlen hP hD hS hl
  exact lv_irem cx.1 cx.2.1 hd hne (kk p l e s m args below meth c D cA rw A ad0 ad H locs ls cx hpre hlen hP hD hS hl)
theorem x_ineg {a : Int32} (hd : decode (mC i) pc = .ok (.ineg, 1))  (kk : XW i F cells slots S M (pc + 1) lv (.int (-a) :: st)) : XW i F cells slots S M pc lv (.int a :: st) := by
  intro p l e s m args below meth c D cA rw A ad0 ad H locs ls cx hpre hlen hP hD hS hl
  exact lv_ineg cx.1 cx.2.1 hd (kk p l e s m args below meth c D cA rw A ad0 ad H locs ls cx hpre hlen hP hD hS hl)
theorem x_ladd {a b : Int64} (hd : decode (mC i) pc = .ok (.ladd, 1))  (kk : XW i F cells slots S M (pc + 1) lv (.long (a + b) :: st)) : XW i F cells slots S M pc lv (.long b :: .long a :: st) := by
  intro p l e s m args below meth c D cA rw A ad0 ad H locs ls cx hpre hlen hP hD hS hl
  exact lv_ladd cx.1 cx.2.1 hd (kk p l e s m args below meth c D cA rw A ad0 ad H locs ls cx hpre hlen hP hD hS hl)
theorem x_lsub {a b : Int64} (hd : decode (mC i) pc = .ok (.lsub, 1))  (kk : XW i F cells slots S M (pc + 1) lv (.long (a - b) :: st)) : XW i F cells slots S M pc lv (.long b :: .long a :: st) := by
  intro p l e s m args below meth c D cA rw A ad0 ad H locs ls cx hpre hlen hP hD hS hl
  exact lv_lsub cx.1 cx.2.1 hd (kk p l e s m args below meth c D cA rw A ad0 ad H locs ls cx hpre hlen hP hD hS hl)
theorem x_lmul {a b : Int64} (hd : decode (mC i) pc = .ok (.lmul, 1))  (kk : XW i F cells slots S M (pc + 1) lv (.long (a * b) :: st)) : XW i F cells slots S M pc lv (.long b :: .long a :: st) := by
  intro p l e s m args below meth c D cA rw A ad0 ad H locs ls cx hpre hlen hP hD hS hl
  exact lv_lmul cx.1 cx.2.1 hd (kk p l e s m args below meth c D cA rw A ad0 ad H locs ls cx hpre hlen hP hD hS hl)
theorem x_land {a b : Int64} (hd : decode (mC i) pc = .ok (.land, 1))  (kk : XW i F cells slots S M (pc + 1) lv (.long (a &&& b) :: st)) : XW i F cells slots S M pc lv (.long b :: .long a :: st) := by
  intro p l e s m args below meth c D cA rw A ad0 ad H locs ls cx hpre hlen hP hD hS hl
  exact lv_land cx.1 cx.2.1 hd (kk p l e s m args below meth c D cA rw A ad0 ad H locs ls cx hpre hlen hP hD hS hl)
theorem x_lor {a b : Int64} (hd : decode (mC i) pc = .ok (.lor, 1))  (kk : XW i F cells slots S M (pc + 1) lv (.long (a ||| b) :: st)) : XW i F cells slots S M pc lv (.long b :: .long a :: st) := by
  intro p l e s m args below meth c D cA rw A ad0 ad H locs ls cx hpre hlen hP hD hS hl
  exact lv_lor cx.1 cx.2.1 hd (kk p l e s m args below meth c D cA rw A ad0 ad H locs ls cx hpre hlen hP hD hS hl)
theorem x_ldiv {a b : Int64} (hd : decode (mC i) pc = .ok (.ldiv, 1)) (hne : ¬ b = 0) (kk : XW i F cells slots S M (pc + 1) lv (.long (a / b) :: st)) : XW i F cells slots S M pc lv (.long b :: .long a :: st) := by
  intro p l e s m args below meth c D cA rw A ad0 ad H locs ls cx hpre hlen hP hD hS hl
  exact lv_ldiv cx.1 cx.2.1 hd hne (kk p l e s m args below meth c D cA rw A ad0 ad H locs ls cx hpre hlen hP hD hS hl)
theorem x_lrem {a b : Int64} (hd : decode (mC i) pc = .ok (.lrem, 1)) (hne : ¬ b = 0) (kk : XW i F cells slots S M (pc + 1) lv (.long (a - a / b * b) :: st)) : XW i F cells slots S M pc lv (.long b :: .long a :: st) := by
  intro p l e s m args below meth c D cA rw A ad0 ad H locs ls cx hpre hlen hP hD hS hl
  exact lv_lrem cx.1 cx.2.1 hd hne (kk p l e s m args below meth c D cA rw A ad0 ad H locs ls cx hpre hlen hP hD hS hl)
theorem x_lshl {a : Int64} {b : Int32} (hd : decode (mC i) pc = .ok (.lshl, 1))  (kk : XW i F cells slots S M (pc + 1) lv (.long (a <<< (b.toInt64 &&& 63)) :: st)) : XW i F cells slots S M pc lv (.int b :: .long a :: st) := by
  intro p l e s m args below meth c D cA rw A ad0 ad H locs ls cx hpre hlen hP hD hS hl
  exact lv_lshl cx.1 cx.2.1 hd rfl (kk p l e s m args below meth c D cA rw A ad0 ad H locs ls cx hpre hlen hP hD hS hl)
theorem x_lshr {a : Int64} {b : Int32} (hd : decode (mC i) pc = .ok (.lshr, 1))  (kk : XW i F cells slots S M (pc + 1) lv (.long (a >>> (b.toInt64 &&& 63)) :: st)) : XW i F cells slots S M pc lv (.int b :: .long a :: st) := by
  intro p l e s m args below meth c D cA rw A ad0 ad H locs ls cx hpre hlen hP hD hS hl
  exact lv_lshr cx.1 cx.2.1 hd rfl (kk p l e s m args below meth c D cA rw A ad0 ad H locs ls cx hpre hlen hP hD hS hl)
theorem x_lushr {a : Int64} {b : Int32} (hd : decode (mC i) pc = .ok (.lushr, 1))  (kk : XW i F cells slots S M (pc + 1) lv (.long ((a.toUInt64 >>> (b.toInt64.toUInt64 &&& Int64.toUInt64 63)).toInt64) :: st)) : XW i F cells slots S M pc lv (.int b :: .long a :: st) := by
  intro p l e s m args below meth c D cA rw A ad0 ad H locs ls cx hpre hlen hP hD hS hl
  exact lv_lushr cx.1 cx.2.1 hd rfl (kk p l e s m args below meth c D cA rw A ad0 ad H locs ls cx hpre hlen hP hD hS hl)
theorem x_lcmp {a b : Int64} (hd : decode (mC i) pc = .ok (.lcmp, 1))  (kk : XW i F cells slots S M (pc + 1) lv (.int (lg_cmp a b) :: st)) : XW i F cells slots S M pc lv (.long b :: .long a :: st) := by
  intro p l e s m args below meth c D cA rw A ad0 ad H locs ls cx hpre hlen hP hD hS hl
  exact W.lcmp cx.1 cx.2.1 hd (kk p l e s m args below meth c D cA rw A ad0 ad H locs ls cx hpre hlen hP hD hS hl)
theorem x_i2l {a : Int32} (hd : decode (mC i) pc = .ok (.i2l, 1))  (kk : XW i F cells slots S M (pc + 1) lv (.long a.toInt64 :: st)) : XW i F cells slots S M pc lv (.int a :: st) := by
  intro p l e s m args below meth c D cA rw A ad0 ad H locs ls cx hpre hlen hP hD hS hl
  exact lv_i2l cx.1 cx.2.1 hd rfl (kk p l e s m args below meth c D cA rw A ad0 ad H locs ls cx hpre hlen hP hD hS hl)
theorem x_l2i {a : Int64} (hd : decode (mC i) pc = .ok (.l2i, 1))  (kk : XW i F cells slots S M (pc + 1) lv (.int a.toInt32 :: st)) : XW i F cells slots S M pc lv (.long a :: st) := by
  intro p l e s m args below meth c D cA rw A ad0 ad H locs ls cx hpre hlen hP hD hS hl
  exact lv_l2i cx.1 cx.2.1 hd rfl (kk p l e s m args below meth c D cA rw A ad0 ad H locs ls cx hpre hlen hP hD hS hl)
theorem x_i2b {a : Int32} (hd : decode (mC i) pc = .ok (.i2b, 1))  (kk : XW i F cells slots S M (pc + 1) lv (.int a.toInt8.toInt32 :: st)) : XW i F cells slots S M pc lv (.int a :: st) := by
  intro p l e s m args below meth c D cA rw A ad0 ad H locs ls cx hpre hlen hP hD hS hl
  exact lv_i2b cx.1 cx.2.1 hd rfl (kk p l e s m args below meth c D cA rw A ad0 ad H locs ls cx hpre hlen hP hD hS hl)
theorem x_i2s {a : Int32} (hd : decode (mC i) pc = .ok (.i2s, 1))  (kk : XW i F cells slots S M (pc + 1) lv (.int a.toInt16.toInt32 :: st)) : XW i F cells slots S M pc lv (.int a :: st) := by
  intro p l e s m args below meth c D cA rw A ad0 ad H locs ls cx hpre hlen hP hD hS hl
  exact lv_i2s cx.1 cx.2.1 hd rfl (kk p l e s m args below meth c D cA rw A ad0 ad H locs ls cx hpre hlen hP hD hS hl)
theorem x_i2c {a : Int32} (hd : decode (mC i) pc = .ok (.i2c, 1))  (kk : XW i F cells slots S M (pc + 1) lv (.int (a.toUInt32 % 65536).toInt32 :: st)) : XW i F cells slots S M pc lv (.int a :: st) := by
  intro p l e s m args below meth c D cA rw A ad0 ad H locs ls cx hpre hlen hP hD hS hl
  exact lv_i2c cx.1 cx.2.1 hd rfl (kk p l e s m args below meth c D cA rw A ad0 ad H locs ls cx hpre hlen hP hD hS hl)
theorem x_iconst {n : Int} {v : Int32} (hd : decode (mC i) pc = .ok (.iconst n, 1)) (hv : Int32.ofInt n = v) (kk : XW i F cells slots S M (pc + 1) lv (.int v :: st)) : XW i F cells slots S M pc lv (st) := by
  intro p l e s m args below meth c D cA rw A ad0 ad H locs ls cx hpre hlen hP hD hS hl
  exact lv_iconst cx.1 cx.2.1 hd hv (kk p l e s m args below meth c D cA rw A ad0 ad H locs ls cx hpre hlen hP hD hS hl)
theorem x_bipush {n : Int} {v : Int32} (hd : decode (mC i) pc = .ok (.bipush n, 2)) (hv : (Int8.ofInt n).toInt32 = v) (kk : XW i F cells slots S M (pc + 2) lv (.int v :: st)) : XW i F cells slots S M pc lv (st) := by
  intro p l e s m args below meth c D cA rw A ad0 ad H locs ls cx hpre hlen hP hD hS hl
  exact lv_bipush cx.1 cx.2.1 hd hv (kk p l e s m args below meth c D cA rw A ad0 ad H locs ls cx hpre hlen hP hD hS hl)
theorem x_sipush {n : Int} {v : Int32} (hd : decode (mC i) pc = .ok (.sipush n, 3)) (hv : (Int16.ofInt n).toInt32 = v) (kk : XW i F cells slots S M (pc + 3) lv (.int v :: st)) : XW i F cells slots S M pc lv (st) := by
  intro p l e s m args below meth c D cA rw A ad0 ad H locs ls cx hpre hlen hP hD hS hl
  exact lv_sipush cx.1 cx.2.1 hd hv (kk p l e s m args below meth c D cA rw A ad0 ad H locs ls cx hpre hlen hP hD hS hl)
theorem x_lconst {n : Fin 2} {v : Int64} (hd : decode (mC i) pc = .ok (.lconst n, 1)) (hv : Int64.ofNat (n : Nat) = v) (kk : XW i F cells slots S M (pc + 1) lv (.long v :: st)) : XW i F cells slots S M pc lv (st) := by
  intro p l e s m args below meth c D cA rw A ad0 ad H locs ls cx hpre hlen hP hD hS hl
  exact lv_lconst cx.1 cx.2.1 hd hv (kk p l e s m args below meth c D cA rw A ad0 ad H locs ls cx hpre hlen hP hD hS hl)
theorem x_null  (hd : decode (mC i) pc = .ok (.aconst_null, 1))  (kk : XW i F cells slots S M (pc + 1) lv (.null :: st)) : XW i F cells slots S M pc lv (st) := by
  intro p l e s m args below meth c D cA rw A ad0 ad H locs ls cx hpre hlen hP hD hS hl
  exact lv_null cx.1 cx.2.1 hd (kk p l e s m args below meth c D cA rw A ad0 ad H locs ls cx hpre hlen hP hD hS hl)
theorem x_ldc {idx : Nat} {v : Int32} (hd : decode (mC i) pc = .ok (.ldc idx, 2)) (hw : Cond.constant (mY i).cls idx v ∈ gw) (kk : XW i F cells slots S M (pc + 2) lv (.int v :: st)) : XW i F cells slots S M pc lv (st) := by
  intro p l e s m args below meth c D cA rw A ad0 ad H locs ls cx hpre hlen hP hD hS hl
  exact lv_ldc cx.1 cx.2.1 cx.2.2.2.2.1 (cx.2.2.2.2.2.2.2.1 _ hw) hd (kk p l e s m args below meth c D cA rw A ad0 ad H locs ls cx hpre hlen hP hD hS hl)
theorem x_ldcw {idx : Nat} {v : Int32} (hd : decode (mC i) pc = .ok (.ldc_w idx, 3)) (hw : Cond.constant (mY i).cls idx v ∈ gw) (kk : XW i F cells slots S M (pc + 3) lv (.int v :: st)) : XW i F cells slots S M pc lv (st) := by
  intro p l e s m args below meth c D cA rw A ad0 ad H locs ls cx hpre hlen hP hD hS hl
  exact lv_ldcw cx.1 cx.2.1 cx.2.2.2.2.1 (cx.2.2.2.2.2.2.2.1 _ hw) hd (kk p l e s m args below meth c D cA rw A ad0 ad H locs ls cx hpre hlen hP hD hS hl)
theorem x_ldc2 {idx : Nat} {v : Int64} (hd : decode (mC i) pc = .ok (.ldc2_w idx, 3)) (hw : Cond.constantLong (mY i).cls idx v ∈ gw) (kk : XW i F cells slots S M (pc + 3) lv (.long v :: st)) : XW i F cells slots S M pc lv (st) := by
  intro p l e s m args below meth c D cA rw A ad0 ad H locs ls cx hpre hlen hP hD hS hl
  exact lv_ldc2 cx.1 cx.2.1 cx.2.2.2.2.1 (cx.2.2.2.2.2.2.2.1 _ hw) hd (kk p l e s m args below meth c D cA rw A ad0 ad H locs ls cx hpre hlen hP hD hS hl)
theorem x_iload_n {k : Fin 4} {v : Int32} (hd : decode (mC i) pc = .ok (.iload_n k, 1)) (hv : lk lv k = some (some (.int v))) (kk : XW i F cells slots S M (pc + 1) lv (.int v :: st)) : XW i F cells slots S M pc lv (st) := by
  intro p l e s m args below meth c D cA rw A ad0 ad H locs ls cx hpre hlen hP hD hS hl
  exact lv_iload_n cx.1 cx.2.1 hd rfl (hl.2.2 _ _ hv) (kk p l e s m args below meth c D cA rw A ad0 ad H locs ls cx hpre hlen hP hD hS hl)
theorem x_iload {k : Nat} {v : Int32} (hd : decode (mC i) pc = .ok (.iload k, 2)) (hv : lk lv k = some (some (.int v))) (kk : XW i F cells slots S M (pc + 2) lv (.int v :: st)) : XW i F cells slots S M pc lv (st) := by
  intro p l e s m args below meth c D cA rw A ad0 ad H locs ls cx hpre hlen hP hD hS hl
  exact lv_iload cx.1 cx.2.1 hd (hl.2.2 _ _ hv) (kk p l e s m args below meth c D cA rw A ad0 ad H locs ls cx hpre hlen hP hD hS hl)
theorem x_lload_n {k : Fin 4} {v : Int64} (hd : decode (mC i) pc = .ok (.lload_n k, 1)) (hv : lk lv k = some (some (.long v))) (kk : XW i F cells slots S M (pc + 1) lv (.long v :: st)) : XW i F cells slots S M pc lv (st) := by
  intro p l e s m args below meth c D cA rw A ad0 ad H locs ls cx hpre hlen hP hD hS hl
  exact lv_lload_n cx.1 cx.2.1 hd rfl (hl.2.2 _ _ hv) (kk p l e s m args below meth c D cA rw A ad0 ad H locs ls cx hpre hlen hP hD hS hl)
theorem x_lload {k : Nat} {v : Int64} (hd : decode (mC i) pc = .ok (.lload k, 2)) (hv : lk lv k = some (some (.long v))) (kk : XW i F cells slots S M (pc + 2) lv (.long v :: st)) : XW i F cells slots S M pc lv (st) := by
  intro p l e s m args below meth c D cA rw A ad0 ad H locs ls cx hpre hlen hP hD hS hl
  exact lv_lload cx.1 cx.2.1 hd (hl.2.2 _ _ hv) (kk p l e s m args below meth c D cA rw A ad0 ad H locs ls cx hpre hlen hP hD hS hl)
theorem x_aload_n {k : Fin 4} {v : Nat} (hd : decode (mC i) pc = .ok (.aload_n k, 1)) (hv : lk lv k = some (some (.ref v))) (kk : XW i F cells slots S M (pc + 1) lv (.ref v :: st)) : XW i F cells slots S M pc lv (st) := by
  intro p l e s m args below meth c D cA rw A ad0 ad H locs ls cx hpre hlen hP hD hS hl
  exact lv_aload_n cx.1 cx.2.1 hd rfl (hl.2.2 _ _ hv) (kk p l e s m args below meth c D cA rw A ad0 ad H locs ls cx hpre hlen hP hD hS hl)
theorem x_aload {k : Nat} {v : Nat} (hd : decode (mC i) pc = .ok (.aload k, 2)) (hv : lk lv k = some (some (.ref v))) (kk : XW i F cells slots S M (pc + 2) lv (.ref v :: st)) : XW i F cells slots S M pc lv (st) := by
  intro p l e s m args below meth c D cA rw A ad0 ad H locs ls cx hpre hlen hP hD hS hl
  exact lv_aload cx.1 cx.2.1 hd (hl.2.2 _ _ hv) (kk p l e s m args below meth c D cA rw A ad0 ad H locs ls cx hpre hlen hP hD hS hl)
theorem x_aload_nR {k : Fin 4} {v : Nat} (hd : decode (mC i) pc = .ok (.aload_n k, 1)) (hv : lk lv k = some (some (.retAddr v))) (kk : XW i F cells slots S M (pc + 1) lv (.retAddr v :: st)) : XW i F cells slots S M pc lv (st) := by
  intro p l e s m args below meth c D cA rw A ad0 ad H locs ls cx hpre hlen hP hD hS hl
  exact lv_aload_n cx.1 cx.2.1 hd rfl (hl.2.2 _ _ hv) (kk p l e s m args below meth c D cA rw A ad0 ad H locs ls cx hpre hlen hP hD hS hl)
theorem x_aloadR {k : Nat} {v : Nat} (hd : decode (mC i) pc = .ok (.aload k, 2)) (hv : lk lv k = some (some (.retAddr v))) (kk : XW i F cells slots S M (pc + 2) lv (.retAddr v :: st)) : XW i F cells slots S M pc lv (st) := by
  intro p l e s m args below meth c D cA rw A ad0 ad H locs ls cx hpre hlen hP hD hS hl
  exact lv_aload cx.1 cx.2.1 hd (hl.2.2 _ _ hv) (kk p l e s m args below meth c D cA rw A ad0 ad H locs ls cx hpre hlen hP hD hS hl)
theorem x_aload_nN {k : Fin 4} (hd : decode (mC i) pc = .ok (.aload_n k, 1)) (hv : lk lv k = some (some .null)) (kk : XW i F cells slots S M (pc + 1) lv (.null :: st)) : XW i F cells slots S M pc lv (st) := by
  intro p l e s m args below meth c D cA rw A ad0 ad H locs ls cx hpre hlen hP hD hS hl
  exact lv_aload_nN cx.1 cx.2.1 hd rfl (hl.2.2 _ _ hv) (kk p l e s m args below meth c D cA rw A ad0 ad H locs ls cx hpre hlen hP hD hS hl)
theorem x_aloadN {k : Nat} (hd : decode (mC i) pc = .ok (.aload k, 2)) (hv : lk lv k = some (some .null)) (kk : XW i F cells slots S M (pc + 2) lv (.null :: st)) : XW i F cells slots S M pc lv (st) := by
  intro p l e s m args below meth c D cA rw A ad0 ad H locs ls cx hpre hlen hP hD hS hl
  exact lv_aloadN cx.1 cx.2.1 hd (hl.2.2 _ _ hv) (kk p l e s m args below meth c D cA rw A ad0 ad H locs ls cx hpre hlen hP hD hS hl)
theorem x_istore_n {k : Fin 4} {v : Int32} (hd : decode (mC i) pc = .ok (.istore_n k, 1)) (hi : k < mL i) (kk : XW i F cells slots S M (pc + 1) (stl lv k (.int v)) st) : XW i F cells slots S M pc lv (.int v :: st) := by
  intro p l e s m args below meth c D cA rw A ad0 ad H locs ls cx hpre hlen hP hD hS hl
  exact lv_istore_n (lv := lvm ad rw 0 lv) cx.1 cx.2.1 hd rfl (lh_has.mp hl) hi rfl (fun ls' h' => kk p l e s m args below meth c D cA rw A ad0 ad H locs ls' cx hpre hlen hP hD hS (lh_store1 (v := .int v) h'))
theorem x_istore {k : Nat} {v : Int32} (hd : decode (mC i) pc = .ok (.istore k, 2)) (hi : k < mL i) (kk : XW i F cells slots S M (pc + 2) (stl lv k (.int v)) st) : XW i F cells slots S M pc lv (.int v :: st) := by
  intro p l e s m args below meth c D cA rw A ad0 ad H locs ls cx hpre hlen hP hD hS hl
  exact lv_istore (lv := lvm ad rw 0 lv) cx.1 cx.2.1 hd (lh_has.mp hl) hi rfl (fun ls' h' => kk p l e s m args below meth c D cA rw A ad0 ad H locs ls' cx hpre hlen hP hD hS (lh_store1 (v := .int v) h'))
theorem x_lstore_n {k : Fin 4} {v : Int64} (hd : decode (mC i) pc = .ok (.lstore_n k, 1)) (hi : k + 1 < mL i) (kk : XW i F cells slots S M (pc + 1) (stl lv k (.long v)) st) : XW i F cells slots S M pc lv (.long v :: st) := by
  intro p l e s m args below meth c D cA rw A ad0 ad H locs ls cx hpre hlen hP hD hS hl
  exact lv_lstore_n (lv := lvm ad rw 0 lv) cx.1 cx.2.1 hd rfl (lh_has.mp hl) hi rfl (fun ls' h' => kk p l e s m args below meth c D cA rw A ad0 ad H locs ls' cx hpre hlen hP hD hS (lh_store2 rfl (v := .long v) h'))
theorem x_lstore {k : Nat} {v : Int64} (hd : decode (mC i) pc = .ok (.lstore k, 2)) (hi : k + 1 < mL i) (kk : XW i F cells slots S M (pc + 2) (stl lv k (.long v)) st) : XW i F cells slots S M pc lv (.long v :: st) := by
  intro p l e s m args below meth c D cA rw A ad0 ad H locs ls cx hpre hlen hP hD hS hl
  exact lv_lstore (lv := lvm ad rw 0 lv) cx.1 cx.2.1 hd (lh_has.mp hl) hi rfl (fun ls' h' => kk p l e s m args below meth c D cA rw A ad0 ad H locs ls' cx hpre hlen hP hD hS (lh_store2 rfl (v := .long v) h'))
theorem x_astore_n {k : Fin 4} {v : Nat} (hd : decode (mC i) pc = .ok (.astore_n k, 1)) (hi : k < mL i) (kk : XW i F cells slots S M (pc + 1) (stl lv k (.ref v)) st) : XW i F cells slots S M pc lv (.ref v :: st) := by
  intro p l e s m args below meth c D cA rw A ad0 ad H locs ls cx hpre hlen hP hD hS hl
  exact lv_astore_n (lv := lvm ad rw 0 lv) cx.1 cx.2.1 hd rfl (lh_has.mp hl) hi rfl (fun ls' h' => kk p l e s m args below meth c D cA rw A ad0 ad H locs ls' cx hpre hlen hP hD hS (lh_store1 (v := .ref v) h'))
theorem x_astore {k : Nat} {v : Nat} (hd : decode (mC i) pc = .ok (.astore k, 2)) (hi : k < mL i) (kk : XW i F cells slots S M (pc + 2) (stl lv k (.ref v)) st) : XW i F cells slots S M pc lv (.ref v :: st) := by
  intro p l e s m args below meth c D cA rw A ad0 ad H locs ls cx hpre hlen hP hD hS hl
  exact lv_astore (lv := lvm ad rw 0 lv) cx.1 cx.2.1 hd (lh_has.mp hl) hi rfl (fun ls' h' => kk p l e s m args below meth c D cA rw A ad0 ad H locs ls' cx hpre hlen hP hD hS (lh_store1 (v := .ref v) h'))
theorem x_astore_nN {k : Fin 4} (hd : decode (mC i) pc = .ok (.astore_n k, 1)) (hi : k < mL i) (kk : XW i F cells slots S M (pc + 1) (stl lv k (.null)) st) : XW i F cells slots S M pc lv (.null :: st) := by
  intro p l e s m args below meth c D cA rw A ad0 ad H locs ls cx hpre hlen hP hD hS hl
  exact lv_astore_nN (lv := lvm ad rw 0 lv) cx.1 cx.2.1 hd rfl (lh_has.mp hl) hi rfl (fun ls' h' => kk p l e s m args below meth c D cA rw A ad0 ad H locs ls' cx hpre hlen hP hD hS (lh_store1 (v := .null) h'))
theorem x_astoreN {k : Nat} (hd : decode (mC i) pc = .ok (.astore k, 2)) (hi : k < mL i) (kk : XW i F cells slots S M (pc + 2) (stl lv k (.null)) st) : XW i F cells slots S M pc lv (.null :: st) := by
  intro p l e s m args below meth c D cA rw A ad0 ad H locs ls cx hpre hlen hP hD hS hl
  exact lv_astoreN (lv := lvm ad rw 0 lv) cx.1 cx.2.1 hd (lh_has.mp hl) hi rfl (fun ls' h' => kk p l e s m args below meth c D cA rw A ad0 ad H locs ls' cx hpre hlen hP hD hS (lh_store1 (v := .null) h'))
theorem x_iinc {k : Nat} {n : Int} {v w : Int32} (hd : decode (mC i) pc = .ok (.iinc k n, 3)) (hv : lk lv k = some (some (.int v))) (hw : v + Int32.ofInt n = w) (hi : k < mL i) (kk : XW i F cells slots S M (pc + 3) (stl lv k (.int w)) st) : XW i F cells slots S M pc lv st := by
  intro p l e s m args below meth c D cA rw A ad0 ad H locs ls cx hpre hlen hP hD hS hl
  have hm : (k, Value.int v) ∈ lvm ad rw 0 lv := (lvm_mem ad rw lv 0 _).mpr ⟨k, .int v, hv, by simp [cv]⟩
  obtain ⟨j, hj⟩ := List.getElem?_of_mem hm
  exact lv_iinc (v := w) (lv := lvm ad rw 0 lv) cx.1 cx.2.1 hd (lh_has.mp hl) hj hw hi rfl (fun ls' h' => kk p l e s m args below meth c D cA rw A ad0 ad H locs ls' cx hpre hlen hP hD hS (lh_store1 (v := .int w) h'))
theorem x_dup {v : Value} (hd : decode (mC i) pc = .ok (.dup, 1)) (hc : v.category = 1) (kk : XW i F cells slots S M (pc + 1) lv (v :: v :: st)) : XW i F cells slots S M pc lv (v :: st) := by
  intro p l e s m args below meth c D cA rw A ad0 ad H locs ls cx hpre hlen hP hD hS hl
  exact lv_dup cx.1 cx.2.1 hd (by rw [cv_cat]; exact hc) (kk p l e s m args below meth c D cA rw A ad0 ad H locs ls cx hpre hlen hP hD hS hl)
theorem x_pop {v : Value} (hd : decode (mC i) pc = .ok (.pop, 1)) (hc : v.category = 1) (kk : XW i F cells slots S M (pc + 1) lv (st)) : XW i F cells slots S M pc lv (v :: st) := by
  intro p l e s m args below meth c D cA rw A ad0 ad H locs ls cx hpre hlen hP hD hS hl
  exact lv_pop cx.1 cx.2.1 hd (by rw [cv_cat]; exact hc) (kk p l e s m args below meth c D cA rw A ad0 ad H locs ls cx hpre hlen hP hD hS hl)
theorem x_dup2 {v w : Value} (hd : decode (mC i) pc = .ok (.dup2, 1)) (hc : v.category = 1) (hc2 : w.category = 1) (kk : XW i F cells slots S M (pc + 1) lv (v :: w :: v :: w :: st)) : XW i F cells slots S M pc lv (v :: w :: st) := by
  intro p l e s m args below meth c D cA rw A ad0 ad H locs ls cx hpre hlen hP hD hS hl
  exact lv_dup2_11 cx.1 cx.2.1 hd (by rw [cv_cat]; exact hc) (by rw [cv_cat]; exact hc2) (kk p l e s m args below meth c D cA rw A ad0 ad H locs ls cx hpre hlen hP hD hS hl)
theorem x_goto {off : Int} (tgt : Nat) (hd : decode (mC i) pc = .ok (.goto off, 3)) (ht : (pc : Int) + off = (tgt : Int)) (kk : XW i F cells slots S M tgt lv st) : XW i F cells slots S M pc lv st := by
  intro p l e s m args below meth c D cA rw A ad0 ad H locs ls cx hpre hlen hP hD hS hl
  exact lv_goto cx.1 cx.2.1 hd ht (kk p l e s m args below meth c D cA rw A ad0 ad H locs ls cx hpre hlen hP hD hS hl)
theorem x_if_eq {off : Int} {x : Int32} (tgt : Nat) (hd : decode (mC i) pc = .ok (.ifCond .eq off, 3)) (ht : (pc : Int) + off = (tgt : Int)) (kt : x = 0 → XW i F cells slots S M tgt lv st) (kf : ¬ x = 0 → XW i F cells slots S M (pc + 3) lv st) : XW i F cells slots S M pc lv (.int x :: st) := by
  intro p l e s m args below meth c D cA rw A ad0 ad H locs ls cx hpre hlen hP hD hS hl
  exact lv_if_eq cx.1 cx.2.1 hd ht (fun q => kt q p l e s m args below meth c D cA rw A ad0 ad H locs ls cx hpre hlen hP hD hS hl) (fun q => kf q p l e s m args below meth c D cA rw A ad0 ad H locs ls cx hpre hlen hP hD hS hl)
theorem x_icmp_eq {off : Int} {x y : Int32} (tgt : Nat) (hd : decode (mC i) pc = .ok (.if_icmp .eq off, 3)) (ht : (pc : Int) + off = (tgt : Int)) (kt : x = y → XW i F cells slots S M tgt lv st) (kf : ¬ x = y → XW i F cells slots S M (pc + 3) lv st) : XW i F cells slots S M pc lv (.int y :: .int x :: st) := by
  intro p l e s m args below meth c D cA rw A ad0 ad H locs ls cx hpre hlen hP hD hS hl
  exact lv_icmp_eq cx.1 cx.2.1 hd ht (fun q => kt q p l e s m args below meth c D cA rw A ad0 ad H locs ls cx hpre hlen hP hD hS hl) (fun q => kf q p l e s m args below meth c D cA rw A ad0 ad H locs ls cx hpre hlen hP hD hS hl)
theorem x_if_ne {off : Int} {x : Int32} (tgt : Nat) (hd : decode (mC i) pc = .ok (.ifCond .ne off, 3)) (ht : (pc : Int) + off = (tgt : Int)) (kt : ¬ x = 0 → XW i F cells slots S M tgt lv st) (kf : x = 0 → XW i F cells slots S M (pc + 3) lv st) : XW i F cells slots S M pc lv (.int x :: st) := by
  intro p l e s m args below meth c D cA rw A ad0 ad H locs ls cx hpre hlen hP hD hS hl
  exact lv_if_ne cx.1 cx.2.1 hd ht (fun q => kt q p l e s m args below meth c D cA rw A ad0 ad H locs ls cx hpre hlen hP hD hS hl) (fun q => kf q p l e s m args below meth c D cA rw A ad0 ad H locs ls cx hpre hlen hP hD hS hl)
theorem x_icmp_ne {off : Int} {x y : Int32} (tgt : Nat) (hd : decode (mC i) pc = .ok (.if_icmp .ne off, 3)) (ht : (pc : Int) + off = (tgt : Int)) (kt : ¬ x = y → XW i F cells slots S M tgt lv st) (kf : x = y → XW i F cells slots S M (pc + 3) lv st) : XW i F cells slots S M pc lv (.int y :: .int x :: st) := by
  intro p l e s m args below meth c D cA rw A ad0 ad H locs ls cx hpre hlen hP hD hS hl
  exact lv_icmp_ne cx.1 cx.2.1 hd ht (fun q => kt q p l e s m args below meth c D cA rw A ad0 ad H locs ls cx hpre hlen hP hD hS hl) (fun q => kf q p l e s m args below meth c D cA rw A ad0 ad H locs ls cx hpre hlen hP hD hS hl)
theorem x_if_lt {off : Int} {x : Int32} (tgt : Nat) (hd : decode (mC i) pc = .ok (.ifCond .lt off, 3)) (ht : (pc : Int) + off = (tgt : Int)) (kt : x < 0 → XW i F cells slots S M tgt lv st) (kf : ¬ x < 0 → XW i F cells slots S M (pc + 3) lv st) : XW i F cells slots S M pc lv (.int x :: st) := by
  intro p l e s m args below meth c D cA rw A ad0 ad H locs ls cx hpre hlen hP hD hS hl
  exact lv_if_lt cx.1 cx.2.1 hd ht (fun q => kt q p l e s m args below meth c D cA rw A ad0 ad H locs ls cx hpre hlen hP hD hS hl) (fun q => kf q p l e s m args below meth c D cA rw A ad0 ad H locs ls cx hpre hlen hP hD hS hl)
theorem x_icmp_lt {off : Int} {x y : Int32} (tgt : Nat) (hd : decode (mC i) pc = .ok (.if_icmp .lt off, 3)) (ht : (pc : Int) + off = (tgt : Int)) (kt : x < y → XW i F cells slots S M tgt lv st) (kf : ¬ x < y → XW i F cells slots S M (pc + 3) lv st) : XW i F cells slots S M pc lv (.int y :: .int x :: st) := by
  intro p l e s m args below meth c D cA rw A ad0 ad H locs ls cx hpre hlen hP hD hS hl
  exact lv_icmp_lt cx.1 cx.2.1 hd ht (fun q => kt q p l e s m args below meth c D cA rw A ad0 ad H locs ls cx hpre hlen hP hD hS hl) (fun q => kf q p l e s m args below meth c D cA rw A ad0 ad H locs ls cx hpre hlen hP hD hS hl)
theorem x_if_ge {off : Int} {x : Int32} (tgt : Nat) (hd : decode (mC i) pc = .ok (.ifCond .ge off, 3)) (ht : (pc : Int) + off = (tgt : Int)) (kt : 0 ≤ x → XW i F cells slots S M tgt lv st) (kf : ¬ 0 ≤ x → XW i F cells slots S M (pc + 3) lv st) : XW i F cells slots S M pc lv (.int x :: st) := by
  intro p l e s m args below meth c D cA rw A ad0 ad H locs ls cx hpre hlen hP hD hS hl
  exact lv_if_ge cx.1 cx.2.1 hd ht (fun q => kt q p l e s m args below meth c D cA rw A ad0 ad H locs ls cx hpre hlen hP hD hS hl) (fun q => kf q p l e s m args below meth c D cA rw A ad0 ad H locs ls cx hpre hlen hP hD hS hl)
theorem x_icmp_ge {off : Int} {x y : Int32} (tgt : Nat) (hd : decode (mC i) pc = .ok (.if_icmp .ge off, 3)) (ht : (pc : Int) + off = (tgt : Int)) (kt : y ≤ x → XW i F cells slots S M tgt lv st) (kf : ¬ y ≤ x → XW i F cells slots S M (pc + 3) lv st) : XW i F cells slots S M pc lv (.int y :: .int x :: st) := by
  intro p l e s m args below meth c D cA rw A ad0 ad H locs ls cx hpre hlen hP hD hS hl
  exact lv_icmp_ge cx.1 cx.2.1 hd ht (fun q => kt q p l e s m args below meth c D cA rw A ad0 ad H locs ls cx hpre hlen hP hD hS hl) (fun q => kf q p l e s m args below meth c D cA rw A ad0 ad H locs ls cx hpre hlen hP hD hS hl)
theorem x_if_gt {off : Int} {x : Int32} (tgt : Nat) (hd : decode (mC i) pc = .ok (.ifCond .gt off, 3)) (ht : (pc : Int) + off = (tgt : Int)) (kt : 0 < x → XW i F cells slots S M tgt lv st) (kf : ¬ 0 < x → XW i F cells slots S M (pc + 3) lv st) : XW i F cells slots S M pc lv (.int x :: st) := by
  intro p l e s m args below meth c D cA rw A ad0 ad H locs ls cx hpre hlen hP hD hS hl
  exact lv_if_gt cx.1 cx.2.1 hd ht (fun q => kt q p l e s m args below meth c D cA rw A ad0 ad H locs ls cx hpre hlen hP hD hS hl) (fun q => kf q p l e s m args below meth c D cA rw A ad0 ad H locs ls cx hpre hlen hP hD hS hl)
theorem x_icmp_gt {off : Int} {x y : Int32} (tgt : Nat) (hd : decode (mC i) pc = .ok (.if_icmp .gt off, 3)) (ht : (pc : Int) + off = (tgt : Int)) (kt : y < x → XW i F cells slots S M tgt lv st) (kf : ¬ y < x → XW i F cells slots S M (pc + 3) lv st) : XW i F cells slots S M pc lv (.int y :: .int x :: st) := by
  intro p l e s m args below meth c D cA rw A ad0 ad H locs ls cx hpre hlen hP hD hS hl
  exact lv_icmp_gt cx.1 cx.2.1 hd ht (fun q => kt q p l e s m args below meth c D cA rw A ad0 ad H locs ls cx hpre hlen hP hD hS hl) (fun q => kf q p l e s m args below meth c D cA rw A ad0 ad H locs ls cx hpre hlen hP hD hS hl)
theorem x_if_le {off : Int} {x : Int32} (tgt : Nat) (hd : decode (mC i) pc = .ok (.ifCond .le off, 3)) (ht : (pc : Int) + off = (tgt : Int)) (kt : x ≤ 0 → XW i F cells slots S M tgt lv st) (kf : ¬ x ≤ 0 → XW i F cells slots S M (pc + 3) lv st) : XW i F cells slots S M pc lv (.int x :: st) := by
  intro p l e s m args below meth c D cA rw A ad0 ad H locs ls cx hpre hlen hP hD hS hl
  exact lv_if_le cx.1 cx.2.1 hd ht (fun q => kt q p l e s m args below meth c D cA rw A ad0 ad H locs ls cx hpre hlen hP hD hS hl) (fun q => kf q p l e s m args below meth c D cA rw A ad0 ad H locs ls cx hpre hlen hP hD hS hl)
theorem x_icmp_le {off : Int} {x y : Int32} (tgt : Nat) (hd : decode (mC i) pc = .ok (.if_icmp .le off, 3)) (ht : (pc : Int) + off = (tgt : Int)) (kt : x ≤ y → XW i F cells slots S M tgt lv st) (kf : ¬ x ≤ y → XW i F cells slots S M (pc + 3) lv st) : XW i F cells slots S M pc lv (.int y :: .int x :: st) := by
  intro p l e s m args below meth c D cA rw A ad0 ad H locs ls cx hpre hlen hP hD hS hl
  exact lv_icmp_le cx.1 cx.2.1 hd ht (fun q => kt q p l e s m args below meth c D cA rw A ad0 ad H locs ls cx hpre hlen hP hD hS hl) (fun q => kf q p l e s m args below meth c D cA rw A ad0 ad H locs ls cx hpre hlen hP hD hS hl)
theorem x_ifnonnull {off : Int} {v : Nat} (tgt : Nat) (hd : decode (mC i) pc = .ok (.ifnonnull off, 3)) (ht : (pc : Int) + off = (tgt : Int)) (kk : XW i F cells slots S M tgt lv st) : XW i F cells slots S M pc lv (.ref v :: st) := by
  intro p l e s m args below meth c D cA rw A ad0 ad H locs ls cx hpre hlen hP hD hS hl
  exact lv_ifnonnull cx.1 cx.2.1 hd ht (kk p l e s m args below meth c D cA rw A ad0 ad H locs ls cx hpre hlen hP hD hS hl)
theorem x_ifnonnullN {off : Int} (hd : decode (mC i) pc = .ok (.ifnonnull off, 3)) (kk : XW i F cells slots S M (pc + 3) lv st) : XW i F cells slots S M pc lv (.null :: st) := by
  intro p l e s m args below meth c D cA rw A ad0 ad H locs ls cx hpre hlen hP hD hS hl
  exact lv_ifnonnullN cx.1 cx.2.1 hd (kk p l e s m args below meth c D cA rw A ad0 ad H locs ls cx hpre hlen hP hD hS hl)
theorem x_tabOut {dflt lo hi : Int} {offs : Array Int} {len : Nat} {x : Int32} (tgt : Nat) (hd : decode (mC i) pc = .ok (.tableswitch dflt lo hi offs, len)) (h : x.toInt < lo ∨ hi < x.toInt) (ht : (pc : Int) + dflt = (tgt : Int)) (kk : XW i F cells slots S M tgt lv st) : XW i F cells slots S M pc lv (.int x :: st) := by
  intro p l e s m args below meth c D cA rw A ad0 ad H locs ls cx hpre hlen hP hD hS hl
  exact lv_tableOut cx.1 cx.2.1 hd h ht (kk p l e s m args below meth c D cA rw A ad0 ad H locs ls cx hpre hlen hP hD hS hl)
theorem x_tabIn {dflt lo hi off : Int} {offs : Array Int} {len : Nat} {x : Int32} (tgt : Nat) (hd : decode (mC i) pc = .ok (.tableswitch dflt lo hi offs, len)) (h1 : ¬ x.toInt < lo) (h2 : ¬ hi < x.toInt) (ho : offs[(x.toInt - lo).toNat]? = some off) (ht : (pc : Int) + off = (tgt : Int)) (kk : XW i F cells slots S M tgt lv st) : XW i F cells slots S M pc lv (.int x :: st) := by
  intro p l e s m args below meth c D cA rw A ad0 ad H locs ls cx hpre hlen hP hD hS hl
  exact lv_tableIn cx.1 cx.2.1 hd h1 h2 ho ht (kk p l e s m args below meth c D cA rw A ad0 ad H locs ls cx hpre hlen hP hD hS hl)
theorem x_eq {pc' : Nat} {lv' : Lv} {st' : List Value} {M' : Mm} (hM : M' = M) (hp : pc' = pc) (hv : lv' = lv) (hs : st' = st) (kk : XW i F cells slots S M pc lv st) : XW i F cells slots S M' pc' lv' st' := by
  subst hM; subst hp; subst hv; subst hs; exact kk
/-- fewer locals known -/
theorem x_forget {lv' : Lv} (h : ∀ (j : Nat) (v : Value), lk lv' j = some (some v) → lk lv j = some (some v)) (kk : XW i F cells slots S M pc lv' st) : XW i F cells slots S M pc lv st := by
  intro p l e s m args below meth c D cA rw A ad0 ad H locs ls cx hpre hlen hP hD hS hl
  exact kk p l e s m args below meth c D cA rw A ad0 ad H locs ls cx hpre hlen hP hD hS ⟨hl.1, hl.2.1, fun j v q => hl.2.2 j v (h j v q)⟩
theorem x_widen {c2 s2 : Nat} (h1 : cells ≤ c2) (h2 : slots ≤ s2) (kk : XW i F c2 s2 S M pc lv st) : XW i F cells slots S M pc lv st := by
  intro p l e s m args below meth c D cA rw A ad0 ad H locs ls cx hpre hlen hP hD hS hl
  exact W.widen h1 h2 (kk p l e s m args below meth c D cA rw A ad0 ad H locs ls cx hpre hlen hP hD hS hl)
end XR
