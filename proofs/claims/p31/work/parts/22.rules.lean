section J2
variable {l : Launch} {D : va_G} {ad : Nat → Nat} {tc : Nat → ClassId} {L : Nat} {xs : Nat → Int32} {M : j_M} {d lo pc : Nat} {lv : j_L} {st : List Value} {h h' : j_H} {r : Option Value}
theorem rn_iconst {n : Int} {v : Int32} (hd : decode M.2.1 pc = .ok (.iconst n, 1)) (hv : Int32.ofInt n = v) (k : Rn l D ad tc L xs M d lo (pc + 1) lv (.int v :: st) h r h') : Rn l D ad tc L xs M d lo pc lv (st) h r h' :=
  rn_pure (fun p e R s m args below meth c H locs cells slots ls Q hF hd1 hd2 hl hP hS k => lv_iconst hF.1 hF.2.1 hd hv k) k
theorem rn_bipush {n : Int} {v : Int32} (hd : decode M.2.1 pc = .ok (.bipush n, 2)) (hv : (Int8.ofInt n).toInt32 = v) (k : Rn l D ad tc L xs M d lo (pc + 2) lv (.int v :: st) h r h') : Rn l D ad tc L xs M d lo pc lv (st) h r h' :=
  rn_pure (fun p e R s m args below meth c H locs cells slots ls Q hF hd1 hd2 hl hP hS k => lv_bipush hF.1 hF.2.1 hd hv k) k
theorem rn_sipush {n : Int} {v : Int32} (hd : decode M.2.1 pc = .ok (.sipush n, 3)) (hv : (Int16.ofInt n).toInt32 = v) (k : Rn l D ad tc L xs M d lo (pc + 3) lv (.int v :: st) h r h') : Rn l D ad tc L xs M d lo pc lv (st) h r h' :=
  rn_pure (fun p e R s m args below meth c H locs cells slots ls Q hF hd1 hd2 hl hP hS k => lv_sipush hF.1 hF.2.1 hd hv k) k
theorem rn_lconst {n : Fin 2} {v : Int64} (hd : decode M.2.1 pc = .ok (.lconst n, 1)) (hv : Int64.ofNat (n : Nat) = v) (k : Rn l D ad tc L xs M d lo (pc + 1) lv (.long v :: st) h r h') : Rn l D ad tc L xs M d lo pc lv (st) h r h' :=
  rn_pure (fun p e R s m args below meth c H locs cells slots ls Q hF hd1 hd2 hl hP hS k => lv_lconst hF.1 hF.2.1 hd hv k) k
theorem rn_fconst0  (hd : decode M.2.1 pc = .ok (.fconst 0, 1)) (k : Rn l D ad tc L xs M d lo (pc + 1) lv (.float FP.fconst0 :: st) h r h') : Rn l D ad tc L xs M d lo pc lv (st) h r h' :=
  rn_pure (fun p e R s m args below meth c H locs cells slots ls Q hF hd1 hd2 hl hP hS k => lv_fconst0 hF.1 hF.2.1 hd k) k
theorem rn_fconst1  (hd : decode M.2.1 pc = .ok (.fconst 1, 1)) (k : Rn l D ad tc L xs M d lo (pc + 1) lv (.float FP.fconst1 :: st) h r h') : Rn l D ad tc L xs M d lo pc lv (st) h r h' :=
  rn_pure (fun p e R s m args below meth c H locs cells slots ls Q hF hd1 hd2 hl hP hS k => lv_fconst1 hF.1 hF.2.1 hd k) k
theorem rn_fconst2  (hd : decode M.2.1 pc = .ok (.fconst 2, 1)) (k : Rn l D ad tc L xs M d lo (pc + 1) lv (.float FP.fconst2 :: st) h r h') : Rn l D ad tc L xs M d lo pc lv (st) h r h' :=
  rn_pure (fun p e R s m args below meth c H locs cells slots ls Q hF hd1 hd2 hl hP hS k => lv_fconst2 hF.1 hF.2.1 hd k) k
theorem rn_dconst0  (hd : decode M.2.1 pc = .ok (.dconst 0, 1)) (k : Rn l D ad tc L xs M d lo (pc + 1) lv (.double FP.dconst0 :: st) h r h') : Rn l D ad tc L xs M d lo pc lv (st) h r h' :=
  rn_pure (fun p e R s m args below meth c H locs cells slots ls Q hF hd1 hd2 hl hP hS k => lv_dconst0 hF.1 hF.2.1 hd k) k
theorem rn_dconst1  (hd : decode M.2.1 pc = .ok (.dconst 1, 1)) (k : Rn l D ad tc L xs M d lo (pc + 1) lv (.double FP.dconst1 :: st) h r h') : Rn l D ad tc L xs M d lo pc lv (st) h r h' :=
  rn_pure (fun p e R s m args below meth c H locs cells slots ls Q hF hd1 hd2 hl hP hS k => lv_dconst1 hF.1 hF.2.1 hd k) k
theorem rn_null  (hd : decode M.2.1 pc = .ok (.aconst_null, 1)) (k : Rn l D ad tc L xs M d lo (pc + 1) lv (.null :: st) h r h') : Rn l D ad tc L xs M d lo pc lv (st) h r h' :=
  rn_pure (fun p e R s m args below meth c H locs cells slots ls Q hF hd1 hd2 hl hP hS k => lv_null hF.1 hF.2.1 hd k) k
theorem rn_ldc2d {index : Nat} {v : UInt64} (hd : decode M.2.1 pc = .ok (.ldc2_w index, 3)) (hw : Cond.constantDouble M.1.cls index v ∈ j_all) (k : Rn l D ad tc L xs M d lo (pc + 3) lv (.double v :: st) h r h') : Rn l D ad tc L xs M d lo pc lv (st) h r h' :=
  rn_pure (fun p e R s m args below meth c H locs cells slots ls Q hF hd1 hd2 hl hP hS k => lv_ldc2d hF.1 hF.2.1 hF.2.2.2.1 (hF.2.2.2.2.1 _ hw) hd k) k
theorem rn_ldcf {index : Nat} {v : UInt32} (hd : decode M.2.1 pc = .ok (.ldc index, 2)) (hw : Cond.constantFloat M.1.cls index v ∈ j_all) (k : Rn l D ad tc L xs M d lo (pc + 2) lv (.float v :: st) h r h') : Rn l D ad tc L xs M d lo pc lv (st) h r h' :=
  rn_pure (fun p e R s m args below meth c H locs cells slots ls Q hF hd1 hd2 hl hP hS k => lv_ldcf hF.1 hF.2.1 hF.2.2.2.1 (hF.2.2.2.2.1 _ hw) hd k) k
theorem rn_ldc {index : Nat} {v : Int32} (hd : decode M.2.1 pc = .ok (.ldc index, 2)) (hw : Cond.constant M.1.cls index v ∈ j_all) (k : Rn l D ad tc L xs M d lo (pc + 2) lv (.int v :: st) h r h') : Rn l D ad tc L xs M d lo pc lv (st) h r h' :=
  rn_pure (fun p e R s m args below meth c H locs cells slots ls Q hF hd1 hd2 hl hP hS k => lv_ldc hF.1 hF.2.1 hF.2.2.2.1 (hF.2.2.2.2.1 _ hw) hd k) k
theorem rn_ldcw {index : Nat} {v : Int32} (hd : decode M.2.1 pc = .ok (.ldc_w index, 3)) (hw : Cond.constant M.1.cls index v ∈ j_all) (k : Rn l D ad tc L xs M d lo (pc + 3) lv (.int v :: st) h r h') : Rn l D ad tc L xs M d lo pc lv (st) h r h' :=
  rn_pure (fun p e R s m args below meth c H locs cells slots ls Q hF hd1 hd2 hl hP hS k => lv_ldcw hF.1 hF.2.1 hF.2.2.2.1 (hF.2.2.2.2.1 _ hw) hd k) k
theorem rn_ldc2 {index : Nat} {v : Int64} (hd : decode M.2.1 pc = .ok (.ldc2_w index, 3)) (hw : Cond.constantLong M.1.cls index v ∈ j_all) (k : Rn l D ad tc L xs M d lo (pc + 3) lv (.long v :: st) h r h') : Rn l D ad tc L xs M d lo pc lv (st) h r h' :=
  rn_pure (fun p e R s m args below meth c H locs cells slots ls Q hF hd1 hd2 hl hP hS k => lv_ldc2 hF.1 hF.2.1 hF.2.2.2.1 (hF.2.2.2.2.1 _ hw) hd k) k
theorem rn_iload_n {k0 : Fin 4} {x : Int32} (hd : decode M.2.1 pc = .ok (.iload_n k0, 1)) (hg : j_g lv (k0 : Nat) = some (.int x)) (k : Rn l D ad tc L xs M d lo (pc + 1) lv (.int x :: st) h r h') : Rn l D ad tc L xs M d lo pc lv (st) h r h' :=
  rn_pure (fun p e R s m args below meth c H locs cells slots ls Q hF hd1 hd2 hl hP hS k => lv_iload_n hF.1 hF.2.1 hd rfl (j_at hl hg) k) k
theorem rn_iload {i : Nat} {x : Int32} (hd : decode M.2.1 pc = .ok (.iload i, 2)) (hg : j_g lv i = some (.int x)) (k : Rn l D ad tc L xs M d lo (pc + 2) lv (.int x :: st) h r h') : Rn l D ad tc L xs M d lo pc lv (st) h r h' :=
  rn_pure (fun p e R s m args below meth c H locs cells slots ls Q hF hd1 hd2 hl hP hS k => lv_iload hF.1 hF.2.1 hd (j_at hl hg) k) k
theorem rn_lload_n {k0 : Fin 4} {x : Int64} (hd : decode M.2.1 pc = .ok (.lload_n k0, 1)) (hg : j_g lv (k0 : Nat) = some (.long x)) (k : Rn l D ad tc L xs M d lo (pc + 1) lv (.long x :: st) h r h') : Rn l D ad tc L xs M d lo pc lv (st) h r h' :=
  rn_pure (fun p e R s m args below meth c H locs cells slots ls Q hF hd1 hd2 hl hP hS k => lv_lload_n hF.1 hF.2.1 hd rfl (j_at hl hg) k) k
theorem rn_lload {i : Nat} {x : Int64} (hd : decode M.2.1 pc = .ok (.lload i, 2)) (hg : j_g lv i = some (.long x)) (k : Rn l D ad tc L xs M d lo (pc + 2) lv (.long x :: st) h r h') : Rn l D ad tc L xs M d lo pc lv (st) h r h' :=
  rn_pure (fun p e R s m args below meth c H locs cells slots ls Q hF hd1 hd2 hl hP hS k => lv_lload hF.1 hF.2.1 hd (j_at hl hg) k) k
theorem rn_fload_n {k0 : Fin 4} {x : UInt32} (hd : decode M.2.1 pc = .ok (.fload_n k0, 1)) (hg : j_g lv (k0 : Nat) = some (.float x)) (k : Rn l D ad tc L xs M d lo (pc + 1) lv (.float x :: st) h r h') : Rn l D ad tc L xs M d lo pc lv (st) h r h' :=
  rn_pure (fun p e R s m args below meth c H locs cells slots ls Q hF hd1 hd2 hl hP hS k => lv_fload_n hF.1 hF.2.1 hd rfl (j_at hl hg) k) k
theorem rn_fload {i : Nat} {x : UInt32} (hd : decode M.2.1 pc = .ok (.fload i, 2)) (hg : j_g lv i = some (.float x)) (k : Rn l D ad tc L xs M d lo (pc + 2) lv (.float x :: st) h r h') : Rn l D ad tc L xs M d lo pc lv (st) h r h' :=
  rn_pure (fun p e R s m args below meth c H locs cells slots ls Q hF hd1 hd2 hl hP hS k => lv_fload hF.1 hF.2.1 hd (j_at hl hg) k) k
theorem rn_dload_n {k0 : Fin 4} {x : UInt64} (hd : decode M.2.1 pc = .ok (.dload_n k0, 1)) (hg : j_g lv (k0 : Nat) = some (.double x)) (k : Rn l D ad tc L xs M d lo (pc + 1) lv (.double x :: st) h r h') : Rn l D ad tc L xs M d lo pc lv (st) h r h' :=
  rn_pure (fun p e R s m args below meth c H locs cells slots ls Q hF hd1 hd2 hl hP hS k => lv_dload_n hF.1 hF.2.1 hd rfl (j_at hl hg) k) k
theorem rn_dload {i : Nat} {x : UInt64} (hd : decode M.2.1 pc = .ok (.dload i, 2)) (hg : j_g lv i = some (.double x)) (k : Rn l D ad tc L xs M d lo (pc + 2) lv (.double x :: st) h r h') : Rn l D ad tc L xs M d lo pc lv (st) h r h' :=
  rn_pure (fun p e R s m args below meth c H locs cells slots ls Q hF hd1 hd2 hl hP hS k => lv_dload hF.1 hF.2.1 hd (j_at hl hg) k) k
theorem rn_aload_n {k0 : Fin 4} {x : Nat} (hd : decode M.2.1 pc = .ok (.aload_n k0, 1)) (hg : j_g lv (k0 : Nat) = some (.ref x)) (k : Rn l D ad tc L xs M d lo (pc + 1) lv (.ref x :: st) h r h') : Rn l D ad tc L xs M d lo pc lv (st) h r h' :=
  rn_pure (fun p e R s m args below meth c H locs cells slots ls Q hF hd1 hd2 hl hP hS k => lv_aload_n hF.1 hF.2.1 hd rfl (j_at hl hg) k) k
theorem rn_aload {i : Nat} {x : Nat} (hd : decode M.2.1 pc = .ok (.aload i, 2)) (hg : j_g lv i = some (.ref x)) (k : Rn l D ad tc L xs M d lo (pc + 2) lv (.ref x :: st) h r h') : Rn l D ad tc L xs M d lo pc lv (st) h r h' :=
  rn_pure (fun p e R s m args below meth c H locs cells slots ls Q hF hd1 hd2 hl hP hS k => lv_aload hF.1 hF.2.1 hd (j_at hl hg) k) k
theorem rn_aload_nN {k0 : Fin 4} (hd : decode M.2.1 pc = .ok (.aload_n k0, 1)) (hg : j_g lv (k0 : Nat) = some .null) (k : Rn l D ad tc L xs M d lo (pc + 1) lv (.null :: st) h r h') : Rn l D ad tc L xs M d lo pc lv (st) h r h' :=
  rn_pure (fun p e R s m args below meth c H locs cells slots ls Q hF hd1 hd2 hl hP hS k => lv_aload_nN hF.1 hF.2.1 hd rfl (j_at hl hg) k) k
theorem rn_aloadN {i : Nat} (hd : decode M.2.1 pc = .ok (.aload i, 2)) (hg : j_g lv i = some .null) (k : Rn l D ad tc L xs M d lo (pc + 2) lv (.null :: st) h r h') : Rn l D ad tc L xs M d lo pc lv (st) h r h' :=
  rn_pure (fun p e R s m args below meth c H locs cells slots ls Q hF hd1 hd2 hl hP hS k => lv_aloadN hF.1 hF.2.1 hd (j_at hl hg) k) k
theorem rn_iadd {x y : Int32} (hd : decode M.2.1 pc = .ok (.iadd, 1)) (k : Rn l D ad tc L xs M d lo (pc + 1) lv (.int (x + y) :: st) h r h') : Rn l D ad tc L xs M d lo pc lv (.int y :: .int x :: st) h r h' :=
  rn_pure (fun p e R s m args below meth c H locs cells slots ls Q hF hd1 hd2 hl hP hS k => lv_iadd hF.1 hF.2.1 hd k) k
theorem rn_ladd {x y : Int64} (hd : decode M.2.1 pc = .ok (.ladd, 1)) (k : Rn l D ad tc L xs M d lo (pc + 1) lv (.long (x + y) :: st) h r h') : Rn l D ad tc L xs M d lo pc lv (.long y :: .long x :: st) h r h' :=
  rn_pure (fun p e R s m args below meth c H locs cells slots ls Q hF hd1 hd2 hl hP hS k => lv_ladd hF.1 hF.2.1 hd k) k
theorem rn_isub {x y : Int32} (hd : decode M.2.1 pc = .ok (.isub, 1)) (k : Rn l D ad tc L xs M d lo (pc + 1) lv (.int (x - y) :: st) h r h') : Rn l D ad tc L xs M d lo pc lv (.int y :: .int x :: st) h r h' :=
  rn_pure (fun p e R s m args below meth c H locs cells slots ls Q hF hd1 hd2 hl hP hS k => lv_isub hF.1 hF.2.1 hd k) k
theorem rn_lsub {x y : Int64} (hd : decode M.2.1 pc = .ok (.lsub, 1)) (k : Rn l D ad tc L xs M d lo (pc + 1) lv (.long (x - y) :: st) h r h') : Rn l D ad tc L xs M d lo pc lv (.long y :: .long x :: st) h r h' :=
  rn_pure (fun p e R s m args below meth c H locs cells slots ls Q hF hd1 hd2 hl hP hS k => lv_lsub hF.1 hF.2.1 hd k) k
theorem rn_imul {x y : Int32} (hd : decode M.2.1 pc = .ok (.imul, 1)) (k : Rn l D ad tc L xs M d lo (pc + 1) lv (.int (x * y) :: st) h r h') : Rn l D ad tc L xs M d lo pc lv (.int y :: .int x :: st) h r h' :=
  rn_pure (fun p e R s m args below meth c H locs cells slots ls Q hF hd1 hd2 hl hP hS k => lv_imul hF.1 hF.2.1 hd k) k
theorem rn_lmul {x y : Int64} (hd : decode M.2.1 pc = .ok (.lmul, 1)) (k : Rn l D ad tc L xs M d lo (pc + 1) lv (.long (x * y) :: st) h r h') : Rn l D ad tc L xs M d lo pc lv (.long y :: .long x :: st) h r h' :=
  rn_pure (fun p e R s m args below meth c H locs cells slots ls Q hF hd1 hd2 hl hP hS k => lv_lmul hF.1 hF.2.1 hd k) k
theorem rn_iand {x y : Int32} (hd : decode M.2.1 pc = .ok (.iand, 1)) (k : Rn l D ad tc L xs M d lo (pc + 1) lv (.int (x &&& y) :: st) h r h') : Rn l D ad tc L xs M d lo pc lv (.int y :: .int x :: st) h r h' :=
  rn_pure (fun p e R s m args below meth c H locs cells slots ls Q hF hd1 hd2 hl hP hS k => lv_iand hF.1 hF.2.1 hd k) k
theorem rn_land {x y : Int64} (hd : decode M.2.1 pc = .ok (.land, 1)) (k : Rn l D ad tc L xs M d lo (pc + 1) lv (.long (x &&& y) :: st) h r h') : Rn l D ad tc L xs M d lo pc lv (.long y :: .long x :: st) h r h' :=
  rn_pure (fun p e R s m args below meth c H locs cells slots ls Q hF hd1 hd2 hl hP hS k => lv_land hF.1 hF.2.1 hd k) k
theorem rn_ior {x y : Int32} (hd : decode M.2.1 pc = .ok (.ior, 1)) (k : Rn l D ad tc L xs M d lo (pc + 1) lv (.int (x ||| y) :: st) h r h') : Rn l D ad tc L xs M d lo pc lv (.int y :: .int x :: st) h r h' :=
  rn_pure (fun p e R s m args below meth c H locs cells slots ls Q hF hd1 hd2 hl hP hS k => lv_ior hF.1 hF.2.1 hd k) k
theorem rn_lor {x y : Int64} (hd : decode M.2.1 pc = .ok (.lor, 1)) (k : Rn l D ad tc L xs M d lo (pc + 1) lv (.long (x ||| y) :: st) h r h') : Rn l D ad tc L xs M d lo pc lv (.long y :: .long x :: st) h r h' :=
  rn_pure (fun p e R s m args below meth c H locs cells slots ls Q hF hd1 hd2 hl hP hS k => lv_lor hF.1 hF.2.1 hd k) k
theorem rn_ixor {x y : Int32} (hd : decode M.2.1 pc = .ok (.ixor, 1)) (k : Rn l D ad tc L xs M d lo (pc + 1) lv (.int (x ^^^ y) :: st) h r h') : Rn l D ad tc L xs M d lo pc lv (.int y :: .int x :: st) h r h' :=
  rn_pure (fun p e R s m args below meth c H locs cells slots ls Q hF hd1 hd2 hl hP hS k => lv_ixor hF.1 hF.2.1 hd k) k
theorem rn_lxor {x y : Int64} (hd : decode M.2.1 pc = .ok (.lxor, 1)) (k : Rn l D ad tc L xs M d lo (pc + 1) lv (.long (x ^^^ y) :: st) h r h') : Rn l D ad tc L xs M d lo pc lv (.long y :: .long x :: st) h r h' :=
  rn_pure (fun p e R s m args below meth c H locs cells slots ls Q hF hd1 hd2 hl hP hS k => lv_lxor hF.1 hF.2.1 hd k) k
theorem rn_ineg {x : Int32} (hd : decode M.2.1 pc = .ok (.ineg, 1)) (k : Rn l D ad tc L xs M d lo (pc + 1) lv (.int (-x) :: st) h r h') : Rn l D ad tc L xs M d lo pc lv (.int x :: st) h r h' :=
  rn_pure (fun p e R s m args below meth c H locs cells slots ls Q hF hd1 hd2 hl hP hS k => lv_ineg hF.1 hF.2.1 hd k) k
theorem rn_idiv {x y : Int32} (hd : decode M.2.1 pc = .ok (.idiv, 1)) (hne : ¬ y = 0) (k : Rn l D ad tc L xs M d lo (pc + 1) lv (.int (x / y) :: st) h r h') : Rn l D ad tc L xs M d lo pc lv (.int y :: .int x :: st) h r h' :=
  rn_pure (fun p e R s m args below meth c H locs cells slots ls Q hF hd1 hd2 hl hP hS k => lv_idiv hF.1 hF.2.1 hd hne k) k
theorem rn_irem {x y : Int32} (hd : decode M.2.1 pc = .ok (.irem, 1)) (hne : ¬ y = 0) (k : Rn l D ad tc L xs M d lo (pc + 1) lv (.int (x - x / y * y) :: st) h r h') : Rn l D ad tc L xs M d lo pc lv (.int y :: .int x :: st) h r h' :=
  rn_pure (fun p e R s m args below meth c H locs cells slots ls Q hF hd1 hd2 hl hP hS k => lv_irem hF.1 hF.2.1 hd hne k) k
theorem rn_ishl {x y : Int32} (hd : decode M.2.1 pc = .ok (.ishl, 1)) (k : Rn l D ad tc L xs M d lo (pc + 1) lv (.int (x <<< (y &&& 31)) :: st) h r h') : Rn l D ad tc L xs M d lo pc lv (.int y :: .int x :: st) h r h' :=
  rn_pure (fun p e R s m args below meth c H locs cells slots ls Q hF hd1 hd2 hl hP hS k => lv_ishl hF.1 hF.2.1 hd k) k
theorem rn_ishr {x y : Int32} (hd : decode M.2.1 pc = .ok (.ishr, 1)) (k : Rn l D ad tc L xs M d lo (pc + 1) lv (.int (x >>> (y &&& 31)) :: st) h r h') : Rn l D ad tc L xs M d lo pc lv (.int y :: .int x :: st) h r h' :=
  rn_pure (fun p e R s m args below meth c H locs cells slots ls Q hF hd1 hd2 hl hP hS k => lv_ishr hF.1 hF.2.1 hd k) k
theorem rn_iushr {x y v : Int32} (hd : decode M.2.1 pc = .ok (.iushr, 1)) (hv : (x.toUInt32 >>> (y.toUInt32 &&& Int32.toUInt32 31)).toInt32 = v) (k : Rn l D ad tc L xs M d lo (pc + 1) lv (.int v :: st) h r h') : Rn l D ad tc L xs M d lo pc lv (.int y :: .int x :: st) h r h' :=
  rn_pure (fun p e R s m args below meth c H locs cells slots ls Q hF hd1 hd2 hl hP hS k => lv_iushr hF.1 hF.2.1 hd hv k) k
theorem rn_i2l {x : Int32} {v : Int64} (hd : decode M.2.1 pc = .ok (.i2l, 1)) (hv : x.toInt64 = v) (k : Rn l D ad tc L xs M d lo (pc + 1) lv (.long v :: st) h r h') : Rn l D ad tc L xs M d lo pc lv (.int x :: st) h r h' :=
  rn_pure (fun p e R s m args below meth c H locs cells slots ls Q hF hd1 hd2 hl hP hS k => lv_i2l hF.1 hF.2.1 hd hv k) k
theorem rn_l2i {x : Int64} {v : Int32} (hd : decode M.2.1 pc = .ok (.l2i, 1)) (hv : x.toInt32 = v) (k : Rn l D ad tc L xs M d lo (pc + 1) lv (.int v :: st) h r h') : Rn l D ad tc L xs M d lo pc lv (.long x :: st) h r h' :=
  rn_pure (fun p e R s m args below meth c H locs cells slots ls Q hF hd1 hd2 hl hP hS k => lv_l2i hF.1 hF.2.1 hd hv k) k
theorem rn_lcmp {x y : Int64} (hd : decode M.2.1 pc = .ok (.lcmp, 1)) (k : Rn l D ad tc L xs M d lo (pc + 1) lv (.int (lg_cmp x y) :: st) h r h') : Rn l D ad tc L xs M d lo pc lv (.long y :: .long x :: st) h r h' :=
  rn_pure (fun p e R s m args below meth c H locs cells slots ls Q hF hd1 hd2 hl hP hS k => W.lcmp hF.1 hF.2.1 hd k) k
theorem rn_dup {a : Value} (hd : decode M.2.1 pc = .ok (.dup, 1)) (ha : a.category = 1) (k : Rn l D ad tc L xs M d lo (pc + 1) lv (a :: a :: st) h r h') : Rn l D ad tc L xs M d lo pc lv (a :: st) h r h' :=
  rn_pure (fun p e R s m args below meth c H locs cells slots ls Q hF hd1 hd2 hl hP hS k => lv_dup hF.1 hF.2.1 hd (by rw [j_cat]; exact ha) k) k
theorem rn_pop {a : Value} (hd : decode M.2.1 pc = .ok (.pop, 1)) (ha : a.category = 1) (k : Rn l D ad tc L xs M d lo (pc + 1) lv (st) h r h') : Rn l D ad tc L xs M d lo pc lv (a :: st) h r h' :=
  rn_pure (fun p e R s m args below meth c H locs cells slots ls Q hF hd1 hd2 hl hP hS k => lv_pop hF.1 hF.2.1 hd (by rw [j_cat]; exact ha) k) k
theorem rn_pop2 {a : Value} (hd : decode M.2.1 pc = .ok (.pop2, 1)) (ha : a.category = 2) (k : Rn l D ad tc L xs M d lo (pc + 1) lv (st) h r h') : Rn l D ad tc L xs M d lo pc lv (a :: st) h r h' :=
  rn_pure (fun p e R s m args below meth c H locs cells slots ls Q hF hd1 hd2 hl hP hS k => lv_pop2_2 hF.1 hF.2.1 hd (by rw [j_cat]; exact ha) k) k
theorem rn_dup_x1 {a b : Value} (hd : decode M.2.1 pc = .ok (.dup_x1, 1)) (ha : a.category = 1) (hb : b.category = 1) (k : Rn l D ad tc L xs M d lo (pc + 1) lv (a :: b :: a :: st) h r h') : Rn l D ad tc L xs M d lo pc lv (a :: b :: st) h r h' :=
  rn_pure (fun p e R s m args below meth c H locs cells slots ls Q hF hd1 hd2 hl hP hS k => lv_dup_x1 hF.1 hF.2.1 hd (by rw [j_cat]; exact ha) (by rw [j_cat]; exact hb) k) k
theorem rn_dup_x2 {a b c : Value} (hd : decode M.2.1 pc = .ok (.dup_x2, 1)) (ha : a.category = 1) (hb : b.category = 1) (hc : c.category = 1) (k : Rn l D ad tc L xs M d lo (pc + 1) lv (a :: b :: c :: a :: st) h r h') : Rn l D ad tc L xs M d lo pc lv (a :: b :: c :: st) h r h' :=
  rn_pure (fun p e R s m args below meth c H locs cells slots ls Q hF hd1 hd2 hl hP hS k => lv_dup_x2 hF.1 hF.2.1 hd (by rw [j_cat]; exact ha) (by rw [j_cat]; exact hb) (by rw [j_cat]; exact hc) k) k
theorem rn_dup2 {a b : Value} (hd : decode M.2.1 pc = .ok (.dup2, 1)) (ha : a.category = 1) (hb : b.category = 1) (k : Rn l D ad tc L xs M d lo (pc + 1) lv (a :: b :: a :: b :: st) h r h') : Rn l D ad tc L xs M d lo pc lv (a :: b :: st) h r h' :=
  rn_pure (fun p e R s m args below meth c H locs cells slots ls Q hF hd1 hd2 hl hP hS k => lv_dup2_11 hF.1 hF.2.1 hd (by rw [j_cat]; exact ha) (by rw [j_cat]; exact hb) k) k
theorem rn_dup2_2 {a : Value} (hd : decode M.2.1 pc = .ok (.dup2, 1)) (ha : a.category = 2) (k : Rn l D ad tc L xs M d lo (pc + 1) lv (a :: a :: st) h r h') : Rn l D ad tc L xs M d lo pc lv (a :: st) h r h' :=
  rn_pure (fun p e R s m args below meth c H locs cells slots ls Q hF hd1 hd2 hl hP hS k => lv_dup2_2 hF.1 hF.2.1 hd (by rw [j_cat]; exact ha) k) k
theorem rn_fadd {x y : UInt32} (hd : decode M.2.1 pc = .ok (.fadd, 1)) (hne : vf_n32 (FP.fadd x y)) (k : Rn l D ad tc L xs M d lo (pc + 1) lv (.float (FP.fadd x y) :: st) h r h') : Rn l D ad tc L xs M d lo pc lv (.float y :: .float x :: st) h r h' :=
  rn_pure (fun p e R s m args below meth c H locs cells slots ls Q hF hd1 hd2 hl hP hS k => lv_fadd hF.1 hF.2.1 hd hne k) k
theorem rn_fsub {x y : UInt32} (hd : decode M.2.1 pc = .ok (.fsub, 1)) (hne : vf_n32 (FP.fsub x y)) (k : Rn l D ad tc L xs M d lo (pc + 1) lv (.float (FP.fsub x y) :: st) h r h') : Rn l D ad tc L xs M d lo pc lv (.float y :: .float x :: st) h r h' :=
  rn_pure (fun p e R s m args below meth c H locs cells slots ls Q hF hd1 hd2 hl hP hS k => lv_fsub hF.1 hF.2.1 hd hne k) k
theorem rn_fmul {x y : UInt32} (hd : decode M.2.1 pc = .ok (.fmul, 1)) (hne : vf_n32 (FP.fmul x y)) (k : Rn l D ad tc L xs M d lo (pc + 1) lv (.float (FP.fmul x y) :: st) h r h') : Rn l D ad tc L xs M d lo pc lv (.float y :: .float x :: st) h r h' :=
  rn_pure (fun p e R s m args below meth c H locs cells slots ls Q hF hd1 hd2 hl hP hS k => lv_fmul hF.1 hF.2.1 hd hne k) k
theorem rn_fdiv {x y : UInt32} (hd : decode M.2.1 pc = .ok (.fdiv, 1)) (hne : vf_n32 (FP.fdiv x y)) (k : Rn l D ad tc L xs M d lo (pc + 1) lv (.float (FP.fdiv x y) :: st) h r h') : Rn l D ad tc L xs M d lo pc lv (.float y :: .float x :: st) h r h' :=
  rn_pure (fun p e R s m args below meth c H locs cells slots ls Q hF hd1 hd2 hl hP hS k => lv_fdiv hF.1 hF.2.1 hd hne k) k
theorem rn_fneg {x : UInt32} (hd : decode M.2.1 pc = .ok (.fneg, 1)) (k : Rn l D ad tc L xs M d lo (pc + 1) lv (.float (FP.fneg x) :: st) h r h') : Rn l D ad tc L xs M d lo pc lv (.float x :: st) h r h' :=
  rn_pure (fun p e R s m args below meth c H locs cells slots ls Q hF hd1 hd2 hl hP hS k => lv_fneg hF.1 hF.2.1 hd k) k
theorem rn_fcmp {x y : UInt32} {op : CmpOp} (hd : decode M.2.1 pc = .ok (.fcmp op, 1)) (k : Rn l D ad tc L xs M d lo (pc + 1) lv (.int (Op.cmpValue (FP.fcmp x y) op) :: st) h r h') : Rn l D ad tc L xs M d lo pc lv (.float y :: .float x :: st) h r h' :=
  rn_pure (fun p e R s m args below meth c H locs cells slots ls Q hF hd1 hd2 hl hP hS k => lv_fcmp hF.1 hF.2.1 hd k) k
theorem rn_dadd {x y : UInt64} (hd : decode M.2.1 pc = .ok (.dadd, 1)) (hne : vf_n64 (FP.dadd x y)) (k : Rn l D ad tc L xs M d lo (pc + 1) lv (.double (FP.dadd x y) :: st) h r h') : Rn l D ad tc L xs M d lo pc lv (.double y :: .double x :: st) h r h' :=
  rn_pure (fun p e R s m args below meth c H locs cells slots ls Q hF hd1 hd2 hl hP hS k => lv_dadd hF.1 hF.2.1 hd hne k) k
theorem rn_dsub {x y : UInt64} (hd : decode M.2.1 pc = .ok (.dsub, 1)) (hne : vf_n64 (FP.dsub x y)) (k : Rn l D ad tc L xs M d lo (pc + 1) lv (.double (FP.dsub x y) :: st) h r h') : Rn l D ad tc L xs M d lo pc lv (.double y :: .double x :: st) h r h' :=
  rn_pure (fun p e R s m args below meth c H locs cells slots ls Q hF hd1 hd2 hl hP hS k => lv_dsub hF.1 hF.2.1 hd hne k) k
theorem rn_dmul {x y : UInt64} (hd : decode M.2.1 pc = .ok (.dmul, 1)) (hne : vf_n64 (FP.dmul x y)) (k : Rn l D ad tc L xs M d lo (pc + 1) lv (.double (FP.dmul x y) :: st) h r h') : Rn l D ad tc L xs M d lo pc lv (.double y :: .double x :: st) h r h' :=
  rn_pure (fun p e R s m args below meth c H locs cells slots ls Q hF hd1 hd2 hl hP hS k => lv_dmul hF.1 hF.2.1 hd hne k) k
theorem rn_ddiv {x y : UInt64} (hd : decode M.2.1 pc = .ok (.ddiv, 1)) (hne : vf_n64 (FP.ddiv x y)) (k : Rn l D ad tc L xs M d lo (pc + 1) lv (.double (FP.ddiv x y) :: st) h r h') : Rn l D ad tc L xs M d lo pc lv (.double y :: .double x :: st) h r h' :=
  rn_pure (fun p e R s m args below meth c H locs cells slots ls Q hF hd1 hd2 hl hP hS k => lv_ddiv hF.1 hF.2.1 hd hne k) k
theorem rn_dneg {x : UInt64} (hd : decode M.2.1 pc = .ok (.dneg, 1)) (k : Rn l D ad tc L xs M d lo (pc + 1) lv (.double (FP.dneg x) :: st) h r h') : Rn l D ad tc L xs M d lo pc lv (.double x :: st) h r h' :=
  rn_pure (fun p e R s m args below meth c H locs cells slots ls Q hF hd1 hd2 hl hP hS k => lv_dneg hF.1 hF.2.1 hd k) k
theorem rn_dcmp {x y : UInt64} {op : CmpOp} (hd : decode M.2.1 pc = .ok (.dcmp op, 1)) (k : Rn l D ad tc L xs M d lo (pc + 1) lv (.int (Op.cmpValue (FP.dcmp x y) op) :: st) h r h') : Rn l D ad tc L xs M d lo pc lv (.double y :: .double x :: st) h r h' :=
  rn_pure (fun p e R s m args below meth c H locs cells slots ls Q hF hd1 hd2 hl hP hS k => lv_dcmp hF.1 hF.2.1 hd k) k
theorem rn_i2f {x : Int32} (hd : decode M.2.1 pc = .ok (.i2f, 1)) (k : Rn l D ad tc L xs M d lo (pc + 1) lv (.float (FP.i2f x) :: st) h r h') : Rn l D ad tc L xs M d lo pc lv (.int x :: st) h r h' :=
  rn_pure (fun p e R s m args below meth c H locs cells slots ls Q hF hd1 hd2 hl hP hS k => lv_i2f hF.1 hF.2.1 hd k) k
theorem rn_i2d {x : Int32} (hd : decode M.2.1 pc = .ok (.i2d, 1)) (k : Rn l D ad tc L xs M d lo (pc + 1) lv (.double (FP.i2d x) :: st) h r h') : Rn l D ad tc L xs M d lo pc lv (.int x :: st) h r h' :=
  rn_pure (fun p e R s m args below meth c H locs cells slots ls Q hF hd1 hd2 hl hP hS k => lv_i2d hF.1 hF.2.1 hd k) k
theorem rn_f2i {x : UInt32} (hd : decode M.2.1 pc = .ok (.f2i, 1)) (k : Rn l D ad tc L xs M d lo (pc + 1) lv (.int (FP.f2i x) :: st) h r h') : Rn l D ad tc L xs M d lo pc lv (.float x :: st) h r h' :=
  rn_pure (fun p e R s m args below meth c H locs cells slots ls Q hF hd1 hd2 hl hP hS k => lv_f2i hF.1 hF.2.1 hd k) k
theorem rn_f2l {x : UInt32} (hd : decode M.2.1 pc = .ok (.f2l, 1)) (k : Rn l D ad tc L xs M d lo (pc + 1) lv (.long (FP.f2l x) :: st) h r h') : Rn l D ad tc L xs M d lo pc lv (.float x :: st) h r h' :=
  rn_pure (fun p e R s m args below meth c H locs cells slots ls Q hF hd1 hd2 hl hP hS k => lv_f2l hF.1 hF.2.1 hd k) k
theorem rn_d2l {x : UInt64} (hd : decode M.2.1 pc = .ok (.d2l, 1)) (k : Rn l D ad tc L xs M d lo (pc + 1) lv (.long (FP.d2l x) :: st) h r h') : Rn l D ad tc L xs M d lo pc lv (.double x :: st) h r h' :=
  rn_pure (fun p e R s m args below meth c H locs cells slots ls Q hF hd1 hd2 hl hP hS k => lv_d2l hF.1 hF.2.1 hd k) k
theorem rn_f2d {x : UInt32} (hd : decode M.2.1 pc = .ok (.f2d, 1)) (hne : vf_n64 (FP.f2d x)) (k : Rn l D ad tc L xs M d lo (pc + 1) lv (.double (FP.f2d x) :: st) h r h') : Rn l D ad tc L xs M d lo pc lv (.float x :: st) h r h' :=
  rn_pure (fun p e R s m args below meth c H locs cells slots ls Q hF hd1 hd2 hl hP hS k => lv_f2d hF.1 hF.2.1 hd hne k) k
theorem rn_goto {off : Int} {tgt : Nat} (hd : decode M.2.1 pc = .ok (.goto off, 3)) (ht : (pc : Int) + off = (tgt : Int)) (k : Rn l D ad tc L xs M d lo tgt lv (st) h r h') : Rn l D ad tc L xs M d lo pc lv (st) h r h' :=
  rn_pure (fun p e R s m args below meth c H locs cells slots ls Q hF hd1 hd2 hl hP hS k => lv_goto hF.1 hF.2.1 hd ht k) k
theorem rn_ifnull {x : Nat} {off : Int} (hd : decode M.2.1 pc = .ok (.ifnull off, 3)) (k : Rn l D ad tc L xs M d lo (pc + 3) lv (st) h r h') : Rn l D ad tc L xs M d lo pc lv (.ref x :: st) h r h' :=
  rn_pure (fun p e R s m args below meth c H locs cells slots ls Q hF hd1 hd2 hl hP hS k => lv_ifnull hF.1 hF.2.1 hd k) k
theorem rn_ifnullN {off : Int} {tgt : Nat} (hd : decode M.2.1 pc = .ok (.ifnull off, 3)) (ht : (pc : Int) + off = (tgt : Int)) (k : Rn l D ad tc L xs M d lo tgt lv (st) h r h') : Rn l D ad tc L xs M d lo pc lv (.null :: st) h r h' :=
  rn_pure (fun p e R s m args below meth c H locs cells slots ls Q hF hd1 hd2 hl hP hS k => lv_ifnullN hF.1 hF.2.1 hd ht k) k
theorem rn_ifnonnull {x : Nat} {off : Int} {tgt : Nat} (hd : decode M.2.1 pc = .ok (.ifnonnull off, 3)) (ht : (pc : Int) + off = (tgt : Int)) (k : Rn l D ad tc L xs M d lo tgt lv (st) h r h') : Rn l D ad tc L xs M d lo pc lv (.ref x :: st) h r h' :=
  rn_pure (fun p e R s m args below meth c H locs cells slots ls Q hF hd1 hd2 hl hP hS k => lv_ifnonnull hF.1 hF.2.1 hd ht k) k
theorem rn_ifnonnullN {off : Int} (hd : decode M.2.1 pc = .ok (.ifnonnull off, 3)) (k : Rn l D ad tc L xs M d lo (pc + 3) lv (st) h r h') : Rn l D ad tc L xs M d lo pc lv (.null :: st) h r h' :=
  rn_pure (fun p e R s m args below meth c H locs cells slots ls Q hF hd1 hd2 hl hP hS k => lv_ifnonnullN hF.1 hF.2.1 hd k) k
theorem rn_if_eq {x : Int32} {off : Int} {tgt : Nat} (hd : decode M.2.1 pc = .ok (.ifCond .eq off, 3)) (ht : (pc : Int) + off = (tgt : Int)) (kt : x = 0 → Rn l D ad tc L xs M d lo tgt lv (st) h r h') (kf : ¬ x = 0 → Rn l D ad tc L xs M d lo (pc + 3) lv (st) h r h') : Rn l D ad tc L xs M d lo pc lv (.int x :: st) h r h' := by
  refine ⟨?_, fun p e R s m args below meth c H locs cells slots mc ms ls Q hF h1 h2 h3 h4 h5 h6 hl hP hS hQ => lv_if_eq hF.1 hF.2.1 hd ht (fun q => (kt q).2 p e R s m args below meth c H locs cells slots mc ms ls Q hF h1 h2 h3 h4 h5 h6 hl hP hS hQ) (fun q => (kf q).2 p e R s m args below meth c H locs cells slots mc ms ls Q hF h1 h2 h3 h4 h5 h6 hl hP hS hQ)⟩
  by_cases q : x = 0
  · exact (kt q).1
  · exact (kf (by first | exact q | exact fun z => q z | exact Decidable.not_not.mp q)).1
theorem rn_icmp_eq {x y : Int32} {off : Int} {tgt : Nat} (hd : decode M.2.1 pc = .ok (.if_icmp .eq off, 3)) (ht : (pc : Int) + off = (tgt : Int)) (kt : x = y → Rn l D ad tc L xs M d lo tgt lv (st) h r h') (kf : ¬ x = y → Rn l D ad tc L xs M d lo (pc + 3) lv (st) h r h') : Rn l D ad tc L xs M d lo pc lv (.int y :: .int x :: st) h r h' := by
  refine ⟨?_, fun p e R s m args below meth c H locs cells slots mc ms ls Q hF h1 h2 h3 h4 h5 h6 hl hP hS hQ => lv_icmp_eq hF.1 hF.2.1 hd ht (fun q => (kt q).2 p e R s m args below meth c H locs cells slots mc ms ls Q hF h1 h2 h3 h4 h5 h6 hl hP hS hQ) (fun q => (kf q).2 p e R s m args below meth c H locs cells slots mc ms ls Q hF h1 h2 h3 h4 h5 h6 hl hP hS hQ)⟩
  by_cases q : x = y
  · exact (kt q).1
  · exact (kf (by first | exact q | exact fun z => q z | exact Decidable.not_not.mp q)).1
theorem rn_if_ne {x : Int32} {off : Int} {tgt : Nat} (hd : decode M.2.1 pc = .ok (.ifCond .ne off, 3)) (ht : (pc : Int) + off = (tgt : Int)) (kt : ¬ x = 0 → Rn l D ad tc L xs M d lo tgt lv (st) h r h') (kf : x = 0 → Rn l D ad tc L xs M d lo (pc + 3) lv (st) h r h') : Rn l D ad tc L xs M d lo pc lv (.int x :: st) h r h' := by
  refine ⟨?_, fun p e R s m args below meth c H locs cells slots mc ms ls Q hF h1 h2 h3 h4 h5 h6 hl hP hS hQ => lv_if_ne hF.1 hF.2.1 hd ht (fun q => (kt q).2 p e R s m args below meth c H locs cells slots mc ms ls Q hF h1 h2 h3 h4 h5 h6 hl hP hS hQ) (fun q => (kf q).2 p e R s m args below meth c H locs cells slots mc ms ls Q hF h1 h2 h3 h4 h5 h6 hl hP hS hQ)⟩
  by_cases q : ¬ x = 0
  · exact (kt q).1
  · exact (kf (by first | exact q | exact fun z => q z | exact Decidable.not_not.mp q)).1
theorem rn_icmp_ne {x y : Int32} {off : Int} {tgt : Nat} (hd : decode M.2.1 pc = .ok (.if_icmp .ne off, 3)) (ht : (pc : Int) + off = (tgt : Int)) (kt : ¬ x = y → Rn l D ad tc L xs M d lo tgt lv (st) h r h') (kf : x = y → Rn l D ad tc L xs M d lo (pc + 3) lv (st) h r h') : Rn l D ad tc L xs M d lo pc lv (.int y :: .int x :: st) h r h' := by
  refine ⟨?_, fun p e R s m args below meth c H locs cells slots mc ms ls Q hF h1 h2 h3 h4 h5 h6 hl hP hS hQ => lv_icmp_ne hF.1 hF.2.1 hd ht (fun q => (kt q).2 p e R s m args below meth c H locs cells slots mc ms ls Q hF h1 h2 h3 h4 h5 h6 hl hP hS hQ) (fun q => (kf q).2 p e R s m args below meth c H locs cells slots mc ms ls Q hF h1 h2 h3 h4 h5 h6 hl hP hS hQ)⟩
  by_cases q : ¬ x = y
  · exact (kt q).1
  · exact (kf (by first | exact q | exact fun z => q z | exact Decidable.not_not.mp q)).1
theorem rn_if_lt {x : Int32} {off : Int} {tgt : Nat} (hd : decode M.2.1 pc = .ok (.ifCond .lt off, 3)) (ht : (pc : Int) + off = (tgt : Int)) (kt : x < 0 → Rn l D ad tc L xs M d lo tgt lv (st) h r h') (kf : ¬ x < 0 → Rn l D ad tc L xs M d lo (pc + 3) lv (st) h r h') : Rn l D ad tc L xs M d lo pc lv (.int x :: st) h r h' := by
  refine ⟨?_, fun p e R s m args below meth c H locs cells slots mc ms ls Q hF h1 h2 h3 h4 h5 h6 hl hP hS hQ => lv_if_lt hF.1 hF.2.1 hd ht (fun q => (kt q).2 p e R s m args below meth c H locs cells slots mc ms ls Q hF h1 h2 h3 h4 h5 h6 hl hP hS hQ) (fun q => (kf q).2 p e R s m args below meth c H locs cells slots mc ms ls Q hF h1 h2 h3 h4 h5 h6 hl hP hS hQ)⟩
  by_cases q : x < 0
  · exact (kt q).1
  · exact (kf (by first | exact q | exact fun z => q z | exact Decidable.not_not.mp q)).1
theorem rn_icmp_lt {x y : Int32} {off : Int} {tgt : Nat} (hd : decode M.2.1 pc = .ok (.if_icmp .lt off, 3)) (ht : (pc : Int) + off = (tgt : Int)) (kt : x < y → Rn l D ad tc L xs M d lo tgt lv (st) h r h') (kf : ¬ x < y → Rn l D ad tc L xs M d lo (pc + 3) lv (st) h r h') : Rn l D ad tc L xs M d lo pc lv (.int y :: .int x :: st) h r h' := by
  refine ⟨?_, fun p e R s m args below meth c H locs cells slots mc ms ls Q hF h1 h2 h3 h4 h5 h6 hl hP hS hQ => lv_icmp_lt hF.1 hF.2.1 hd ht (fun q => (kt q).2 p e R s m args below meth c H locs cells slots mc ms ls Q hF h1 h2 h3 h4 h5 h6 hl hP hS hQ) (fun q => (kf q).2 p e R s m args below meth c H locs cells slots mc ms ls Q hF h1 h2 h3 h4 h5 h6 hl hP hS hQ)⟩
  by_cases q : x < y
  · exact (kt q).1
  · exact (kf (by first | exact q | exact fun z => q z | exact Decidable.not_not.mp q)).1
theorem rn_if_ge {x : Int32} {off : Int} {tgt : Nat} (hd : decode M.2.1 pc = .ok (.ifCond .ge off, 3)) (ht : (pc : Int) + off = (tgt : Int)) (kt : 0 ≤ x → Rn l D ad tc L xs M d lo tgt lv (st) h r h') (kf : ¬ 0 ≤ x → Rn l D ad tc L xs M d lo (pc + 3) lv (st) h r h') : Rn l D ad tc L xs M d lo pc lv (.int x :: st) h r h' := by
  refine ⟨?_, fun p e R s m args below meth c H locs cells slots mc ms ls Q hF h1 h2 h3 h4 h5 h6 hl hP hS hQ => lv_if_ge hF.1 hF.2.1 hd ht (fun q => (kt q).2 p e R s m args below meth c H locs cells slots mc ms ls Q hF h1 h2 h3 h4 h5 h6 hl hP hS hQ) (fun q => (kf q).2 p e R s m args below meth c H locs cells slots mc ms ls Q hF h1 h2 h3 h4 h5 h6 hl hP hS hQ)⟩
  by_cases q : 0 ≤ x
  · exact (kt q).1
  · exact (kf (by first | exact q | exact fun z => q z | exact Decidable.not_not.mp q)).1
theorem rn_icmp_ge {x y : Int32} {off : Int} {tgt : Nat} (hd : decode M.2.1 pc = .ok (.if_icmp .ge off, 3)) (ht : (pc : Int) + off = (tgt : Int)) (kt : y ≤ x → Rn l D ad tc L xs M d lo tgt lv (st) h r h') (kf : ¬ y ≤ x → Rn l D ad tc L xs M d lo (pc + 3) lv (st) h r h') : Rn l D ad tc L xs M d lo pc lv (.int y :: .int x :: st) h r h' := by
  refine ⟨?_, fun p e R s m args below meth c H locs cells slots mc ms ls Q hF h1 h2 h3 h4 h5 h6 hl hP hS hQ => lv_icmp_ge hF.1 hF.2.1 hd ht (fun q => (kt q).2 p e R s m args below meth c H locs cells slots mc ms ls Q hF h1 h2 h3 h4 h5 h6 hl hP hS hQ) (fun q => (kf q).2 p e R s m args below meth c H locs cells slots mc ms ls Q hF h1 h2 h3 h4 h5 h6 hl hP hS hQ)⟩
  by_cases q : y ≤ x
  · exact (kt q).1
  · exact (kf (by first | exact q | exact fun z => q z | exact Decidable.not_not.mp q)).1
theorem rn_if_gt {x : Int32} {off : Int} {tgt : Nat} (hd : decode M.2.1 pc = .ok (.ifCond .gt off, 3)) (ht : (pc : Int) + off = (tgt : Int)) (kt : 0 < x → Rn l D ad tc L xs M d lo tgt lv (st) h r h') (kf : ¬ 0 < x → Rn l D ad tc L xs M d lo (pc + 3) lv (st) h r h') : Rn l D ad tc L xs M d lo pc lv (.int x :: st) h r h' := by
  refine ⟨?_, fun p e R s m args below meth c H locs cells slots mc ms ls Q hF h1 h2 h3 h4 h5 h6 hl hP hS hQ => lv_if_gt hF.1 hF.2.1 hd ht (fun q => (kt q).2 p e R s m args below meth c H locs cells slots mc ms ls Q hF h1 h2 h3 h4 h5 h6 hl hP hS hQ) (fun q => (kf q).2 p e R s m args below meth c H locs cells slots mc ms ls Q hF h1 h2 h3 h4 h5 h6 hl hP hS hQ)⟩
  by_cases q : 0 < x
  · exact (kt q).1
  · exact (kf (by first | exact q | exact fun z => q z | exact Decidable.not_not.mp q)).1
theorem rn_icmp_gt {x y : Int32} {off : Int} {tgt : Nat} (hd : decode M.2.1 pc = .ok (.if_icmp .gt off, 3)) (ht : (pc : Int) + off = (tgt : Int)) (kt : y < x → Rn l D ad tc L xs M d lo tgt lv (st) h r h') (kf : ¬ y < x → Rn l D ad tc L xs M d lo (pc + 3) lv (st) h r h') : Rn l D ad tc L xs M d lo pc lv (.int y :: .int x :: st) h r h' := by
  refine ⟨?_, fun p e R s m args below meth c H locs cells slots mc ms ls Q hF h1 h2 h3 h4 h5 h6 hl hP hS hQ => lv_icmp_gt hF.1 hF.2.1 hd ht (fun q => (kt q).2 p e R s m args below meth c H locs cells slots mc ms ls Q hF h1 h2 h3 h4 h5 h6 hl hP hS hQ) (fun q => (kf q).2 p e R s m args below meth c H locs cells slots mc ms ls Q hF h1 h2 h3 h4 h5 h6 hl hP hS hQ)⟩
  by_cases q : y < x
  · exact (kt q).1
  · exact (kf (by first | exact q | exact fun z => q z | exact Decidable.not_not.mp q)).1
theorem rn_if_le {x : Int32} {off : Int} {tgt : Nat} (hd : decode M.2.1 pc = .ok (.ifCond .le off, 3)) (ht : (pc : Int) + off = (tgt : Int)) (kt : x ≤ 0 → Rn l D ad tc L xs M d lo tgt lv (st) h r h') (kf : ¬ x ≤ 0 → Rn l D ad tc L xs M d lo (pc + 3) lv (st) h r h') : Rn l D ad tc L xs M d lo pc lv (.int x :: st) h r h' := by
  refine ⟨?_, fun p e R s m args below meth c H locs cells slots mc ms ls Q hF h1 h2 h3 h4 h5 h6 hl hP hS hQ => lv_if_le hF.1 hF.2.1 hd ht (fun q => (kt q).2 p e R s m args below meth c H locs cells slots mc ms ls Q hF h1 h2 h3 h4 h5 h6 hl hP hS hQ) (fun q => (kf q).2 p e R s m args below meth c H locs cells slots mc ms ls Q hF h1 h2 h3 h4 h5 h6 hl hP hS hQ)⟩
  by_cases q : x ≤ 0
  · exact (kt q).1
  · exact (kf (by first | exact q | exact fun z => q z | exact Decidable.not_not.mp q)).1
theorem rn_icmp_le {x y : Int32} {off : Int} {tgt : Nat} (hd : decode M.2.1 pc = .ok (.if_icmp .le off, 3)) (ht : (pc : Int) + off = (tgt : Int)) (kt : x ≤ y → Rn l D ad tc L xs M d lo tgt lv (st) h r h') (kf : ¬ x ≤ y → Rn l D ad tc L xs M d lo (pc + 3) lv (st) h r h') : Rn l D ad tc L xs M d lo pc lv (.int y :: .int x :: st) h r h' := by
  refine ⟨?_, fun p e R s m args below meth c H locs cells slots mc ms ls Q hF h1 h2 h3 h4 h5 h6 hl hP hS hQ => lv_icmp_le hF.1 hF.2.1 hd ht (fun q => (kt q).2 p e R s m args below meth c H locs cells slots mc ms ls Q hF h1 h2 h3 h4 h5 h6 hl hP hS hQ) (fun q => (kf q).2 p e R s m args below meth c H locs cells slots mc ms ls Q hF h1 h2 h3 h4 h5 h6 hl hP hS hQ)⟩
  by_cases q : x ≤ y
  · exact (kt q).1
  · exact (kf (by first | exact q | exact fun z => q z | exact Decidable.not_not.mp q)).1
theorem rn_istore_n {k0 : Fin 4} {x : Int32} {lv' : j_L} (hd : decode M.2.1 pc = .ok (.istore_n k0, 1)) (hn : (k0 : Nat) < M.2.2.1) (hl' : j_s1 (k0 : Nat) (.int x) lv = lv') (k : Rn l D ad tc L xs M d lo (pc + 1) lv' (st) h r h') : Rn l D ad tc L xs M d lo pc lv (.int x :: st) h r h' :=
  rn_loc (lv' := lv') (pc' := pc + 1) (st' := st) (fun p e R s m args below meth c H locs cells slots ls Q hF hl k => lv_istore_n (lv' := (lv'.map (fun q : Nat × Value => (q.1, j_v ad q.2)))) hF.1 hF.2.1 hd rfl hl hn (by rw [← hl']; exact j_s1_map (ad := ad) (v := .int x)) k) k
theorem rn_istore {i : Nat} {x : Int32} {lv' : j_L} (hd : decode M.2.1 pc = .ok (.istore i, 2)) (hn : i < M.2.2.1) (hl' : j_s1 i (.int x) lv = lv') (k : Rn l D ad tc L xs M d lo (pc + 2) lv' (st) h r h') : Rn l D ad tc L xs M d lo pc lv (.int x :: st) h r h' :=
  rn_loc (lv' := lv') (pc' := pc + 2) (st' := st) (fun p e R s m args below meth c H locs cells slots ls Q hF hl k => lv_istore (lv' := (lv'.map (fun q : Nat × Value => (q.1, j_v ad q.2)))) hF.1 hF.2.1 hd hl hn (by rw [← hl']; exact j_s1_map (ad := ad) (v := .int x)) k) k
theorem rn_fstore_n {k0 : Fin 4} {x : UInt32} {lv' : j_L} (hd : decode M.2.1 pc = .ok (.fstore_n k0, 1)) (hn : (k0 : Nat) < M.2.2.1) (hl' : j_s1 (k0 : Nat) (.float x) lv = lv') (k : Rn l D ad tc L xs M d lo (pc + 1) lv' (st) h r h') : Rn l D ad tc L xs M d lo pc lv (.float x :: st) h r h' :=
  rn_loc (lv' := lv') (pc' := pc + 1) (st' := st) (fun p e R s m args below meth c H locs cells slots ls Q hF hl k => lv_fstore_n (lv' := (lv'.map (fun q : Nat × Value => (q.1, j_v ad q.2)))) hF.1 hF.2.1 hd rfl hl hn (by rw [← hl']; exact j_s1_map (ad := ad) (v := .float x)) k) k
theorem rn_fstore {i : Nat} {x : UInt32} {lv' : j_L} (hd : decode M.2.1 pc = .ok (.fstore i, 2)) (hn : i < M.2.2.1) (hl' : j_s1 i (.float x) lv = lv') (k : Rn l D ad tc L xs M d lo (pc + 2) lv' (st) h r h') : Rn l D ad tc L xs M d lo pc lv (.float x :: st) h r h' :=
  rn_loc (lv' := lv') (pc' := pc + 2) (st' := st) (fun p e R s m args below meth c H locs cells slots ls Q hF hl k => lv_fstore (lv' := (lv'.map (fun q : Nat × Value => (q.1, j_v ad q.2)))) hF.1 hF.2.1 hd hl hn (by rw [← hl']; exact j_s1_map (ad := ad) (v := .float x)) k) k
theorem rn_astore_n {k0 : Fin 4} {x : Nat} {lv' : j_L} (hd : decode M.2.1 pc = .ok (.astore_n k0, 1)) (hn : (k0 : Nat) < M.2.2.1) (hl' : j_s1 (k0 : Nat) (.ref x) lv = lv') (k : Rn l D ad tc L xs M d lo (pc + 1) lv' (st) h r h') : Rn l D ad tc L xs M d lo pc lv (.ref x :: st) h r h' :=
  rn_loc (lv' := lv') (pc' := pc + 1) (st' := st) (fun p e R s m args below meth c H locs cells slots ls Q hF hl k => lv_astore_n (lv' := (lv'.map (fun q : Nat × Value => (q.1, j_v ad q.2)))) hF.1 hF.2.1 hd rfl hl hn (by rw [← hl']; exact j_s1_map (ad := ad) (v := .ref x)) k) k
theorem rn_astore {i : Nat} {x : Nat} {lv' : j_L} (hd : decode M.2.1 pc = .ok (.astore i, 2)) (hn : i < M.2.2.1) (hl' : j_s1 i (.ref x) lv = lv') (k : Rn l D ad tc L xs M d lo (pc + 2) lv' (st) h r h') : Rn l D ad tc L xs M d lo pc lv (.ref x :: st) h r h' :=
  rn_loc (lv' := lv') (pc' := pc + 2) (st' := st) (fun p e R s m args below meth c H locs cells slots ls Q hF hl k => lv_astore (lv' := (lv'.map (fun q : Nat × Value => (q.1, j_v ad q.2)))) hF.1 hF.2.1 hd hl hn (by rw [← hl']; exact j_s1_map (ad := ad) (v := .ref x)) k) k
theorem rn_lstore_n {k0 : Fin 4} {x : Int64} {lv' : j_L} (hd : decode M.2.1 pc = .ok (.lstore_n k0, 1)) (hn : (k0 : Nat) + 1 < M.2.2.1) (hl' : j_s2 (k0 : Nat) (.long x) lv = lv') (k : Rn l D ad tc L xs M d lo (pc + 1) lv' (st) h r h') : Rn l D ad tc L xs M d lo pc lv (.long x :: st) h r h' :=
  rn_loc (lv' := lv') (pc' := pc + 1) (st' := st) (fun p e R s m args below meth c H locs cells slots ls Q hF hl k => lv_lstore_n (lv' := (lv'.map (fun q : Nat × Value => (q.1, j_v ad q.2)))) hF.1 hF.2.1 hd rfl hl hn (by rw [← hl']; exact j_s2_map (ad := ad) (v := .long x)) k) k
theorem rn_lstore {i : Nat} {x : Int64} {lv' : j_L} (hd : decode M.2.1 pc = .ok (.lstore i, 2)) (hn : i + 1 < M.2.2.1) (hl' : j_s2 i (.long x) lv = lv') (k : Rn l D ad tc L xs M d lo (pc + 2) lv' (st) h r h') : Rn l D ad tc L xs M d lo pc lv (.long x :: st) h r h' :=
  rn_loc (lv' := lv') (pc' := pc + 2) (st' := st) (fun p e R s m args below meth c H locs cells slots ls Q hF hl k => lv_lstore (lv' := (lv'.map (fun q : Nat × Value => (q.1, j_v ad q.2)))) hF.1 hF.2.1 hd hl hn (by rw [← hl']; exact j_s2_map (ad := ad) (v := .long x)) k) k
theorem rn_dstore_n {k0 : Fin 4} {x : UInt64} {lv' : j_L} (hd : decode M.2.1 pc = .ok (.dstore_n k0, 1)) (hn : (k0 : Nat) + 1 < M.2.2.1) (hl' : j_s2 (k0 : Nat) (.double x) lv = lv') (k : Rn l D ad tc L xs M d lo (pc + 1) lv' (st) h r h') : Rn l D ad tc L xs M d lo pc lv (.double x :: st) h r h' :=
  rn_loc (lv' := lv') (pc' := pc + 1) (st' := st) (fun p e R s m args below meth c H locs cells slots ls Q hF hl k => lv_dstore_n (lv' := (lv'.map (fun q : Nat × Value => (q.1, j_v ad q.2)))) hF.1 hF.2.1 hd rfl hl hn (by rw [← hl']; exact j_s2_map (ad := ad) (v := .double x)) k) k
theorem rn_dstore {i : Nat} {x : UInt64} {lv' : j_L} (hd : decode M.2.1 pc = .ok (.dstore i, 2)) (hn : i + 1 < M.2.2.1) (hl' : j_s2 i (.double x) lv = lv') (k : Rn l D ad tc L xs M d lo (pc + 2) lv' (st) h r h') : Rn l D ad tc L xs M d lo pc lv (.double x :: st) h r h' :=
  rn_loc (lv' := lv') (pc' := pc + 2) (st' := st) (fun p e R s m args below meth c H locs cells slots ls Q hF hl k => lv_dstore (lv' := (lv'.map (fun q : Nat × Value => (q.1, j_v ad q.2)))) hF.1 hF.2.1 hd hl hn (by rw [← hl']; exact j_s2_map (ad := ad) (v := .double x)) k) k
theorem rn_iinc {i : Nat} {n : Int} {x v : Int32} {lv' : j_L} (hd : decode M.2.1 pc = .ok (.iinc i n, 3)) (hg : j_g lv i = some (.int x)) (hv : x + Int32.ofInt n = v) (hn : i < M.2.2.1) (hl' : j_s1 i (.int v) lv = lv') (k : Rn l D ad tc L xs M d lo (pc + 3) lv' (st) h r h') : Rn l D ad tc L xs M d lo pc lv (st) h r h' :=
  rn_loc (lv' := lv') (pc' := pc + 3) (st' := st) (fun p e R s m args below meth c H locs cells slots ls Q hF hl k => by
    obtain ⟨q, hq⟩ := List.getElem?_of_mem (j_g_mem hg)
    exact lv_iinc (lv' := (lv'.map (fun q : Nat × Value => (q.1, j_v ad q.2)))) hF.1 hF.2.1 hd hl (k := q) (by rw [List.getElem?_map, hq]; rfl) hv hn (by rw [← hl']; exact j_s1_map (ad := ad) (v := .int v)) k) k
end J2
