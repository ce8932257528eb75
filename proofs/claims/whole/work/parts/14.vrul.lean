/-! rules of V: one an instruction -/
section VR
variable {X : VX} {cc : ByteArray} {y : MethodName} {ret : Option FieldType} {rm : Room} {post : Option Value → HS → HI → HJ → Prop} {nc ns pc : Nat} {lv : List (Option Value)} {st : List Value} {S : HS} {I : HI} {J : HJ}
theorem V_top {v w : Value} (h : v = w) (k : V X post nc ns pc lv (w :: st) S I J) : V X post nc ns pc lv (v :: st) S I J := h ▸ k
theorem V_mem {I' : HI} {J' : HJ} (h1 : I = I') (h2 : J = J') (k : V X post nc ns pc lv st S I' J') : V X post nc ns pc lv st S I J := h1 ▸ h2 ▸ k
theorem V_widen {a b : Nat} (h1 : nc ≤ a) (h2 : ns ≤ b) (k : V X post a b pc lv st S I J) : V X post nc ns pc lv st S I J := fun ad H locs ls h1' h2' h3 h4 => W.widen h1 h2 (k ad H locs ls h1' h2' h3 h4)
/-- fewer known locals -/
theorem V_lv {lv' : List (Option Value)} (h : ∀ (i : Nat) (v : Value), lv'[i]? = some (some v) → lv[i]? = some (some v)) (k : V X post nc ns pc lv' st S I J) : V X post nc ns pc lv st S I J := fun ad H locs ls h1 h2 h3 h4 => k ad H locs ls h1 h2 h3 ⟨h4.1, h4.2.1, fun i v hi => h4.2.2 i v (h i v hi)⟩
theorem V_iconst (C : Cx X cc y ret rm) {n : Int} {v : Int32} (hd : decode cc pc = .ok (.iconst n, 1)) (hv : Int32.ofInt n = v) (k : V X post nc ns (pc + 1) lv (.int v :: st) S I J) : V X post nc ns pc lv st S I J := fun ad H locs ls h1 h2 h3 h4 => lv_iconst C.1 C.2.1 hd hv (k ad H locs ls h1 h2 h3 h4)
theorem V_bipush (C : Cx X cc y ret rm) {n : Int} {v : Int32} (hd : decode cc pc = .ok (.bipush n, 2)) (hv : (Int8.ofInt n).toInt32 = v) (k : V X post nc ns (pc + 2) lv (.int v :: st) S I J) : V X post nc ns pc lv st S I J := fun ad H locs ls h1 h2 h3 h4 => lv_bipush C.1 C.2.1 hd hv (k ad H locs ls h1 h2 h3 h4)
theorem V_sipush (C : Cx X cc y ret rm) {n : Int} {v : Int32} (hd : decode cc pc = .ok (.sipush n, 3)) (hv : (Int16.ofInt n).toInt32 = v) (k : V X post nc ns (pc + 3) lv (.int v :: st) S I J) : V X post nc ns pc lv st S I J := fun ad H locs ls h1 h2 h3 h4 => lv_sipush C.1 C.2.1 hd hv (k ad H locs ls h1 h2 h3 h4)
theorem V_lconst (C : Cx X cc y ret rm) {n : Fin 2} {v : Int64} (hd : decode cc pc = .ok (.lconst n, 1)) (hv : Int64.ofNat (n : Nat) = v) (k : V X post nc ns (pc + 1) lv (.long v :: st) S I J) : V X post nc ns pc lv st S I J := fun ad H locs ls h1 h2 h3 h4 => lv_lconst C.1 C.2.1 hd hv (k ad H locs ls h1 h2 h3 h4)
theorem V_ldc (C : Cx X cc y ret rm) {ix : Nat} {v : Int32} (hd : decode cc pc = .ok (.ldc ix, 2)) (hw : Cond.constant y.cls ix v ∈ gtb) (k : V X post nc ns (pc + 2) lv (.int v :: st) S I J) : V X post nc ns pc lv st S I J := fun ad H locs ls h1 h2 h3 h4 => lv_ldc C.1 C.2.1 C.2.2.2.1 (C.2.2.2.2.1 _ hw) hd (k ad H locs ls h1 h2 h3 h4)
theorem V_ldcw (C : Cx X cc y ret rm) {ix : Nat} {v : Int32} (hd : decode cc pc = .ok (.ldc_w ix, 3)) (hw : Cond.constant y.cls ix v ∈ gtb) (k : V X post nc ns (pc + 3) lv (.int v :: st) S I J) : V X post nc ns pc lv st S I J := fun ad H locs ls h1 h2 h3 h4 => lv_ldcw C.1 C.2.1 C.2.2.2.1 (C.2.2.2.2.1 _ hw) hd (k ad H locs ls h1 h2 h3 h4)
theorem V_ldc2 (C : Cx X cc y ret rm) {ix : Nat} {v : Int64} (hd : decode cc pc = .ok (.ldc2_w ix, 3)) (hw : Cond.constantLong y.cls ix v ∈ gtb) (k : V X post nc ns (pc + 3) lv (.long v :: st) S I J) : V X post nc ns pc lv st S I J := fun ad H locs ls h1 h2 h3 h4 => lv_ldc2 C.1 C.2.1 C.2.2.2.1 (C.2.2.2.2.1 _ hw) hd (k ad H locs ls h1 h2 h3 h4)
theorem V_iload_n (C : Cx X cc y ret rm) {n : Fin 4} {x : Int32} (hd : decode cc pc = .ok (.iload_n n, 1)) (hl : lv[(n : Nat)]? = some (some (.int x))) (k : V X post nc ns (pc + 1) lv (.int x :: st) S I J) : V X post nc ns pc lv st S I J := fun ad H locs ls h1 h2 h3 h4 => lv_iload_n C.1 C.2.1 hd rfl (h4.2.2 _ _ hl) (k ad H locs ls h1 h2 h3 h4)
theorem V_iload (C : Cx X cc y ret rm) {n : Nat} {x : Int32} (hd : decode cc pc = .ok (.iload n, 2)) (hl : lv[n]? = some (some (.int x))) (k : V X post nc ns (pc + 2) lv (.int x :: st) S I J) : V X post nc ns pc lv st S I J := fun ad H locs ls h1 h2 h3 h4 => lv_iload C.1 C.2.1 hd (h4.2.2 _ _ hl) (k ad H locs ls h1 h2 h3 h4)
theorem V_lload_n (C : Cx X cc y ret rm) {n : Fin 4} {x : Int64} (hd : decode cc pc = .ok (.lload_n n, 1)) (hl : lv[(n : Nat)]? = some (some (.long x))) (k : V X post nc ns (pc + 1) lv (.long x :: st) S I J) : V X post nc ns pc lv st S I J := fun ad H locs ls h1 h2 h3 h4 => lv_lload_n C.1 C.2.1 hd rfl (h4.2.2 _ _ hl) (k ad H locs ls h1 h2 h3 h4)
theorem V_lload (C : Cx X cc y ret rm) {n : Nat} {x : Int64} (hd : decode cc pc = .ok (.lload n, 2)) (hl : lv[n]? = some (some (.long x))) (k : V X post nc ns (pc + 2) lv (.long x :: st) S I J) : V X post nc ns pc lv st S I J := fun ad H locs ls h1 h2 h3 h4 => lv_lload C.1 C.2.1 hd (h4.2.2 _ _ hl) (k ad H locs ls h1 h2 h3 h4)
theorem V_aload_n (C : Cx X cc y ret rm) {n : Fin 4} {x : Nat} (hd : decode cc pc = .ok (.aload_n n, 1)) (hl : lv[(n : Nat)]? = some (some (.ref x))) (k : V X post nc ns (pc + 1) lv (.ref x :: st) S I J) : V X post nc ns pc lv st S I J := fun ad H locs ls h1 h2 h3 h4 => lv_aload_n C.1 C.2.1 hd rfl (h4.2.2 _ _ hl) (k ad H locs ls h1 h2 h3 h4)
theorem V_aload (C : Cx X cc y ret rm) {n : Nat} {x : Nat} (hd : decode cc pc = .ok (.aload n, 2)) (hl : lv[n]? = some (some (.ref x))) (k : V X post nc ns (pc + 2) lv (.ref x :: st) S I J) : V X post nc ns pc lv st S I J := fun ad H locs ls h1 h2 h3 h4 => lv_aload C.1 C.2.1 hd (h4.2.2 _ _ hl) (k ad H locs ls h1 h2 h3 h4)
theorem V_aload_nN (C : Cx X cc y ret rm) {n : Fin 4} (hd : decode cc pc = .ok (.aload_n n, 1)) (hl : lv[(n : Nat)]? = some (some .null)) (k : V X post nc ns (pc + 1) lv (.null :: st) S I J) : V X post nc ns pc lv st S I J := fun ad H locs ls h1 h2 h3 h4 => lv_aload_nN C.1 C.2.1 hd rfl (h4.2.2 _ _ hl) (k ad H locs ls h1 h2 h3 h4)
theorem V_iadd (C : Cx X cc y ret rm) {a b : Int32} (hd : decode cc pc = .ok (.iadd, 1))  (k : V X post nc ns (pc + 1) lv (.int (a + b) :: st) S I J) : V X post nc ns pc lv (.int b :: .int a :: st) S I J := fun ad H locs ls h1 h2 h3 h4 => lv_iadd C.1 C.2.1 hd (k ad H locs ls h1 h2 h3 h4)
theorem V_isub (C : Cx X cc y ret rm) {a b : Int32} (hd : decode cc pc = .ok (.isub, 1))  (k : V X post nc ns (pc + 1) lv (.int (a - b) :: st) S I J) : V X post nc ns pc lv (.int b :: .int a :: st) S I J := fun ad H locs ls h1 h2 h3 h4 => lv_isub C.1 C.2.1 hd (k ad H locs ls h1 h2 h3 h4)
theorem V_imul (C : Cx X cc y ret rm) {a b : Int32} (hd : decode cc pc = .ok (.imul, 1))  (k : V X post nc ns (pc + 1) lv (.int (a * b) :: st) S I J) : V X post nc ns pc lv (.int b :: .int a :: st) S I J := fun ad H locs ls h1 h2 h3 h4 => lv_imul C.1 C.2.1 hd (k ad H locs ls h1 h2 h3 h4)
theorem V_iand (C : Cx X cc y ret rm) {a b : Int32} (hd : decode cc pc = .ok (.iand, 1))  (k : V X post nc ns (pc + 1) lv (.int (a &&& b) :: st) S I J) : V X post nc ns pc lv (.int b :: .int a :: st) S I J := fun ad H locs ls h1 h2 h3 h4 => lv_iand C.1 C.2.1 hd (k ad H locs ls h1 h2 h3 h4)
theorem V_ior (C : Cx X cc y ret rm) {a b : Int32} (hd : decode cc pc = .ok (.ior, 1))  (k : V X post nc ns (pc + 1) lv (.int (a ||| b) :: st) S I J) : V X post nc ns pc lv (.int b :: .int a :: st) S I J := fun ad H locs ls h1 h2 h3 h4 => lv_ior C.1 C.2.1 hd (k ad H locs ls h1 h2 h3 h4)
theorem V_ladd (C : Cx X cc y ret rm) {a b : Int64} (hd : decode cc pc = .ok (.ladd, 1))  (k : V X post nc ns (pc + 1) lv (.long (a + b) :: st) S I J) : V X post nc ns pc lv (.long b :: .long a :: st) S I J := fun ad H locs ls h1 h2 h3 h4 => lv_ladd C.1 C.2.1 hd (k ad H locs ls h1 h2 h3 h4)
theorem V_lsub (C : Cx X cc y ret rm) {a b : Int64} (hd : decode cc pc = .ok (.lsub, 1))  (k : V X post nc ns (pc + 1) lv (.long (a - b) :: st) S I J) : V X post nc ns pc lv (.long b :: .long a :: st) S I J := fun ad H locs ls h1 h2 h3 h4 => lv_lsub C.1 C.2.1 hd (k ad H locs ls h1 h2 h3 h4)
theorem V_lmul (C : Cx X cc y ret rm) {a b : Int64} (hd : decode cc pc = .ok (.lmul, 1))  (k : V X post nc ns (pc + 1) lv (.long (a * b) :: st) S I J) : V X post nc ns pc lv (.long b :: .long a :: st) S I J := fun ad H locs ls h1 h2 h3 h4 => lv_lmul C.1 C.2.1 hd (k ad H locs ls h1 h2 h3 h4)
theorem V_land (C : Cx X cc y ret rm) {a b : Int64} (hd : decode cc pc = .ok (.land, 1))  (k : V X post nc ns (pc + 1) lv (.long (a &&& b) :: st) S I J) : V X post nc ns pc lv (.long b :: .long a :: st) S I J := fun ad H locs ls h1 h2 h3 h4 => lv_land C.1 C.2.1 hd (k ad H locs ls h1 h2 h3 h4)
theorem V_lor (C : Cx X cc y ret rm) {a b : Int64} (hd : decode cc pc = .ok (.lor, 1))  (k : V X post nc ns (pc + 1) lv (.long (a ||| b) :: st) S I J) : V X post nc ns pc lv (.long b :: .long a :: st) S I J := fun ad H locs ls h1 h2 h3 h4 => lv_lor C.1 C.2.1 hd (k ad H locs ls h1 h2 h3 h4)
theorem V_idiv (C : Cx X cc y ret rm) {a b : Int32} (hd : decode cc pc = .ok (.idiv, 1)) (hne : ¬ b = 0) (k : V X post nc ns (pc + 1) lv (.int (a / b) :: st) S I J) : V X post nc ns pc lv (.int b :: .int a :: st) S I J := fun ad H locs ls h1 h2 h3 h4 => lv_idiv C.1 C.2.1 hd hne (k ad H locs ls h1 h2 h3 h4)
theorem V_irem (C : Cx X cc y ret rm) {a b : Int32} (hd : decode cc pc = .ok (.irem, 1)) (hne : ¬ b = 0) (k : V X post nc ns (pc + 1) lv (.int (a - a / b * b) :: st) S I J) : V X post nc ns pc lv (.int b :: .int a :: st) S I J := fun ad H locs ls h1 h2 h3 h4 => lv_irem C.1 C.2.1 hd hne (k ad H locs ls h1 h2 h3 h4)
theorem V_ldiv (C : Cx X cc y ret rm) {a b : Int64} (hd : decode cc pc = .ok (.ldiv, 1)) (hne : ¬ b = 0) (k : V X post nc ns (pc + 1) lv (.long (a / b) :: st) S I J) : V X post nc ns pc lv (.long b :: .long a :: st) S I J := fun ad H locs ls h1 h2 h3 h4 => lv_ldiv C.1 C.2.1 hd hne (k ad H locs ls h1 h2 h3 h4)
theorem V_lrem (C : Cx X cc y ret rm) {a b : Int64} (hd : decode cc pc = .ok (.lrem, 1)) (hne : ¬ b = 0) (k : V X post nc ns (pc + 1) lv (.long (a - a / b * b) :: st) S I J) : V X post nc ns pc lv (.long b :: .long a :: st) S I J := fun ad H locs ls h1 h2 h3 h4 => lv_lrem C.1 C.2.1 hd hne (k ad H locs ls h1 h2 h3 h4)
theorem V_ishl (C : Cx X cc y ret rm) {a b : Int32} (hd : decode cc pc = .ok (.ishl, 1))  (k : V X post nc ns (pc + 1) lv (.int (a <<< (b &&& 31)) :: st) S I J) : V X post nc ns pc lv (.int b :: .int a :: st) S I J := fun ad H locs ls h1 h2 h3 h4 => lv_ishl C.1 C.2.1 hd (k ad H locs ls h1 h2 h3 h4)
theorem V_ishr (C : Cx X cc y ret rm) {a b : Int32} (hd : decode cc pc = .ok (.ishr, 1))  (k : V X post nc ns (pc + 1) lv (.int (a >>> (b &&& 31)) :: st) S I J) : V X post nc ns pc lv (.int b :: .int a :: st) S I J := fun ad H locs ls h1 h2 h3 h4 => lv_ishr C.1 C.2.1 hd (k ad H locs ls h1 h2 h3 h4)
theorem V_lshl (C : Cx X cc y ret rm) {a : Int64} {b : Int32} (hd : decode cc pc = .ok (.lshl, 1))  (k : V X post nc ns (pc + 1) lv (.long (a <<< (b.toInt64 &&& 63)) :: st) S I J) : V X post nc ns pc lv (.int b :: .long a :: st) S I J := fun ad H locs ls h1 h2 h3 h4 => lv_lshl C.1 C.2.1 hd rfl (k ad H locs ls h1 h2 h3 h4)
theorem V_lshr (C : Cx X cc y ret rm) {a : Int64} {b : Int32} (hd : decode cc pc = .ok (.lshr, 1))  (k : V X post nc ns (pc + 1) lv (.long (a >>> (b.toInt64 &&& 63)) :: st) S I J) : V X post nc ns pc lv (.int b :: .long a :: st) S I J := fun ad H locs ls h1 h2 h3 h4 => lv_lshr C.1 C.2.1 hd rfl (k ad H locs ls h1 h2 h3 h4)
theorem V_lcmp (C : Cx X cc y ret rm) {a b : Int64} (hd : decode cc pc = .ok (.lcmp, 1))  (k : V X post nc ns (pc + 1) lv (.int (lg_cmp a b) :: st) S I J) : V X post nc ns pc lv (.long b :: .long a :: st) S I J := fun ad H locs ls h1 h2 h3 h4 => W.lcmp C.1 C.2.1 hd (k ad H locs ls h1 h2 h3 h4)
theorem V_i2l (C : Cx X cc y ret rm) {a : Int32} (hd : decode cc pc = .ok (.i2l, 1))  (k : V X post nc ns (pc + 1) lv (.long a.toInt64 :: st) S I J) : V X post nc ns pc lv (.int a :: st) S I J := fun ad H locs ls h1 h2 h3 h4 => lv_i2l C.1 C.2.1 hd rfl (k ad H locs ls h1 h2 h3 h4)
theorem V_l2i (C : Cx X cc y ret rm) {a : Int64} (hd : decode cc pc = .ok (.l2i, 1))  (k : V X post nc ns (pc + 1) lv (.int a.toInt32 :: st) S I J) : V X post nc ns pc lv (.long a :: st) S I J := fun ad H locs ls h1 h2 h3 h4 => lv_l2i C.1 C.2.1 hd rfl (k ad H locs ls h1 h2 h3 h4)
theorem V_i2c (C : Cx X cc y ret rm) {a : Int32} (hd : decode cc pc = .ok (.i2c, 1))  (k : V X post nc ns (pc + 1) lv (.int (a.toUInt32 % 65536).toInt32 :: st) S I J) : V X post nc ns pc lv (.int a :: st) S I J := fun ad H locs ls h1 h2 h3 h4 => lv_i2c C.1 C.2.1 hd rfl (k ad H locs ls h1 h2 h3 h4)
theorem V_dup (C : Cx X cc y ret rm) {v : Value} (hd : decode cc pc = .ok (.dup, 1)) (hc : v.category = 1) (k : V X post nc ns (pc + 1) lv (v :: v :: st) S I J) : V X post nc ns pc lv (v :: st) S I J := fun ad H locs ls h1 h2 h3 h4 => lv_dup C.1 C.2.1 hd ((vv_cat ad v).trans hc) (k ad H locs ls h1 h2 h3 h4)
theorem V_dup2 (C : Cx X cc y ret rm) {v w : Value} (hd : decode cc pc = .ok (.dup2, 1)) (hc : v.category = 1) (hc2 : w.category = 1) (k : V X post nc ns (pc + 1) lv (v :: w :: v :: w :: st) S I J) : V X post nc ns pc lv (v :: w :: st) S I J := fun ad H locs ls h1 h2 h3 h4 => lv_dup2_11 C.1 C.2.1 hd ((vv_cat ad v).trans hc) ((vv_cat ad w).trans hc2) (k ad H locs ls h1 h2 h3 h4)
theorem V_pop (C : Cx X cc y ret rm) {v : Value} (hd : decode cc pc = .ok (.pop, 1)) (hc : v.category = 1) (k : V X post nc ns (pc + 1) lv st S I J) : V X post nc ns pc lv (v :: st) S I J := fun ad H locs ls h1 h2 h3 h4 => lv_pop C.1 C.2.1 hd ((vv_cat ad v).trans hc) (k ad H locs ls h1 h2 h3 h4)
theorem V_if_eq (C : Cx X cc y ret rm) {x : Int32} {off : Int} (tgt : Nat) (hd : decode cc pc = .ok (.ifCond .eq off, 3)) (ht : (pc : Int) + off = (tgt : Int)) (kt : x = 0 → V X post nc ns tgt lv st S I J) (kf : ¬ x = 0 → V X post nc ns (pc + 3) lv st S I J) : V X post nc ns pc lv (.int x :: st) S I J := fun ad H locs ls h1 h2 h3 h4 => lv_if_eq C.1 C.2.1 hd ht (fun q => kt q ad H locs ls h1 h2 h3 h4) (fun q => kf q ad H locs ls h1 h2 h3 h4)
theorem V_icmp_eq (C : Cx X cc y ret rm) {x y2 : Int32} {off : Int} (tgt : Nat) (hd : decode cc pc = .ok (.if_icmp .eq off, 3)) (ht : (pc : Int) + off = (tgt : Int)) (kt : x = y2 → V X post nc ns tgt lv st S I J) (kf : ¬ x = y2 → V X post nc ns (pc + 3) lv st S I J) : V X post nc ns pc lv (.int y2 :: .int x :: st) S I J := fun ad H locs ls h1 h2 h3 h4 => lv_icmp_eq C.1 C.2.1 hd ht (fun q => kt q ad H locs ls h1 h2 h3 h4) (fun q => kf q ad H locs ls h1 h2 h3 h4)
theorem V_if_ne (C : Cx X cc y ret rm) {x : Int32} {off : Int} (tgt : Nat) (hd : decode cc pc = .ok (.ifCond .ne off, 3)) (ht : (pc : Int) + off = (tgt : Int)) (kt : ¬ x = 0 → V X post nc ns tgt lv st S I J) (kf : x = 0 → V X post nc ns (pc + 3) lv st S I J) : V X post nc ns pc lv (.int x :: st) S I J := fun ad H locs ls h1 h2 h3 h4 => lv_if_ne C.1 C.2.1 hd ht (fun q => kt q ad H locs ls h1 h2 h3 h4) (fun q => kf q ad H locs ls h1 h2 h3 h4)
theorem V_icmp_ne (C : Cx X cc y ret rm) {x y2 : Int32} {off : Int} (tgt : Nat) (hd : decode cc pc = .ok (.if_icmp .ne off, 3)) (ht : (pc : Int) + off = (tgt : Int)) (kt : ¬ x = y2 → V X post nc ns tgt lv st S I J) (kf : x = y2 → V X post nc ns (pc + 3) lv st S I J) : V X post nc ns pc lv (.int y2 :: .int x :: st) S I J := fun ad H locs ls h1 h2 h3 h4 => lv_icmp_ne C.1 C.2.1 hd ht (fun q => kt q ad H locs ls h1 h2 h3 h4) (fun q => kf q ad H locs ls h1 h2 h3 h4)
theorem V_if_lt (C : Cx X cc y ret rm) {x : Int32} {off : Int} (tgt : Nat) (hd : decode cc pc = .ok (.ifCond .lt off, 3)) (ht : (pc : Int) + off = (tgt : Int)) (kt : x < 0 → V X post nc ns tgt lv st S I J) (kf : ¬ x < 0 → V X post nc ns (pc + 3) lv st S I J) : V X post nc ns pc lv (.int x :: st) S I J := fun ad H locs ls h1 h2 h3 h4 => lv_if_lt C.1 C.2.1 hd ht (fun q => kt q ad H locs ls h1 h2 h3 h4) (fun q => kf q ad H locs ls h1 h2 h3 h4)
theorem V_icmp_lt (C : Cx X cc y ret rm) {x y2 : Int32} {off : Int} (tgt : Nat) (hd : decode cc pc = .ok (.if_icmp .lt off, 3)) (ht : (pc : Int) + off = (tgt : Int)) (kt : x < y2 → V X post nc ns tgt lv st S I J) (kf : ¬ x < y2 → V X post nc ns (pc + 3) lv st S I J) : V X post nc ns pc lv (.int y2 :: .int x :: st) S I J := fun ad H locs ls h1 h2 h3 h4 => lv_icmp_lt C.1 C.2.1 hd ht (fun q => kt q ad H locs ls h1 h2 h3 h4) (fun q => kf q ad H locs ls h1 h2 h3 h4)
theorem V_if_ge (C : Cx X cc y ret rm) {x : Int32} {off : Int} (tgt : Nat) (hd : decode cc pc = .ok (.ifCond .ge off, 3)) (ht : (pc : Int) + off = (tgt : Int)) (kt : 0 ≤ x → V X post nc ns tgt lv st S I J) (kf : ¬ 0 ≤ x → V X post nc ns (pc + 3) lv st S I J) : V X post nc ns pc lv (.int x :: st) S I J := fun ad H locs ls h1 h2 h3 h4 => lv_if_ge C.1 C.2.1 hd ht (fun q => kt q ad H locs ls h1 h2 h3 h4) (fun q => kf q ad H locs ls h1 h2 h3 h4)
theorem V_icmp_ge (C : Cx X cc y ret rm) {x y2 : Int32} {off : Int} (tgt : Nat) (hd : decode cc pc = .ok (.if_icmp .ge off, 3)) (ht : (pc : Int) + off = (tgt : Int)) (kt : y2 ≤ x → V X post nc ns tgt lv st S I J) (kf : ¬ y2 ≤ x → V X post nc ns (pc + 3) lv st S I J) : V X post nc ns pc lv (.int y2 :: .int x :: st) S I J := fun ad H locs ls h1 h2 h3 h4 => lv_icmp_ge C.1 C.2.1 hd ht (fun q => kt q ad H locs ls h1 h2 h3 h4) (fun q => kf q ad H locs ls h1 h2 h3 h4)
theorem V_if_gt (C : Cx X cc y ret rm) {x : Int32} {off : Int} (tgt : Nat) (hd : decode cc pc = .ok (.ifCond .gt off, 3)) (ht : (pc : Int) + off = (tgt : Int)) (kt : 0 < x → V X post nc ns tgt lv st S I J) (kf : ¬ 0 < x → V X post nc ns (pc + 3) lv st S I J) : V X post nc ns pc lv (.int x :: st) S I J := fun ad H locs ls h1 h2 h3 h4 => lv_if_gt C.1 C.2.1 hd ht (fun q => kt q ad H locs ls h1 h2 h3 h4) (fun q => kf q ad H locs ls h1 h2 h3 h4)
theorem V_icmp_gt (C : Cx X cc y ret rm) {x y2 : Int32} {off : Int} (tgt : Nat) (hd : decode cc pc = .ok (.if_icmp .gt off, 3)) (ht : (pc : Int) + off = (tgt : Int)) (kt : y2 < x → V X post nc ns tgt lv st S I J) (kf : ¬ y2 < x → V X post nc ns (pc + 3) lv st S I J) : V X post nc ns pc lv (.int y2 :: .int x :: st) S I J := fun ad H locs ls h1 h2 h3 h4 => lv_icmp_gt C.1 C.2.1 hd ht (fun q => kt q ad H locs ls h1 h2 h3 h4) (fun q => kf q ad H locs ls h1 h2 h3 h4)
theorem V_if_le (C : Cx X cc y ret rm) {x : Int32} {off : Int} (tgt : Nat) (hd : decode cc pc = .ok (.ifCond .le off, 3)) (ht : (pc : Int) + off = (tgt : Int)) (kt : x ≤ 0 → V X post nc ns tgt lv st S I J) (kf : ¬ x ≤ 0 → V X post nc ns (pc + 3) lv st S I J) : V X post nc ns pc lv (.int x :: st) S I J := fun ad H locs ls h1 h2 h3 h4 => lv_if_le C.1 C.2.1 hd ht (fun q => kt q ad H locs ls h1 h2 h3 h4) (fun q => kf q ad H locs ls h1 h2 h3 h4)
theorem V_icmp_le (C : Cx X cc y ret rm) {x y2 : Int32} {off : Int} (tgt : Nat) (hd : decode cc pc = .ok (.if_icmp .le off, 3)) (ht : (pc : Int) + off = (tgt : Int)) (kt : x ≤ y2 → V X post nc ns tgt lv st S I J) (kf : ¬ x ≤ y2 → V X post nc ns (pc + 3) lv st S I J) : V X post nc ns pc lv (.int y2 :: .int x :: st) S I J := fun ad H locs ls h1 h2 h3 h4 => lv_icmp_le C.1 C.2.1 hd ht (fun q => kt q ad H locs ls h1 h2 h3 h4) (fun q => kf q ad H locs ls h1 h2 h3 h4)
theorem V_goto (C : Cx X cc y ret rm) {off : Int} (tgt : Nat) (hd : decode cc pc = .ok (.goto off, 3)) (ht : (pc : Int) + off = (tgt : Int)) (k : V X post nc ns tgt lv st S I J) : V X post nc ns pc lv st S I J := fun ad H locs ls h1 h2 h3 h4 => lv_goto C.1 C.2.1 hd ht (k ad H locs ls h1 h2 h3 h4)
theorem V_ifnonnull (C : Cx X cc y ret rm) {x : Nat} {off : Int} (tgt : Nat) (hd : decode cc pc = .ok (.ifnonnull off, 3)) (ht : (pc : Int) + off = (tgt : Int)) (k : V X post nc ns tgt lv st S I J) : V X post nc ns pc lv (.ref x :: st) S I J := fun ad H locs ls h1 h2 h3 h4 => lv_ifnonnull C.1 C.2.1 hd ht (k ad H locs ls h1 h2 h3 h4)
theorem V_ifnonnullN (C : Cx X cc y ret rm) {off : Int} (hd : decode cc pc = .ok (.ifnonnull off, 3)) (k : V X post nc ns (pc + 3) lv st S I J) : V X post nc ns pc lv (.null :: st) S I J := fun ad H locs ls h1 h2 h3 h4 => lv_ifnonnullN C.1 C.2.1 hd (k ad H locs ls h1 h2 h3 h4)
theorem V_swIn (C : Cx X cc y ret rm) {dflt lo hi : Int} {offs : Array Int} {len : Nat} {x : Int32} {off : Int} (tgt : Nat) (hd : decode cc pc = .ok (.tableswitch dflt lo hi offs, len)) (h5 : ¬ x.toInt < lo) (h6 : ¬ hi < x.toInt) (ho : offs[(x.toInt - lo).toNat]? = some off) (ht : (pc : Int) + off = (tgt : Int)) (k : V X post nc ns tgt lv st S I J) : V X post nc ns pc lv (.int x :: st) S I J := fun ad H locs ls h1 h2 h3 h4 => lv_tableIn C.1 C.2.1 hd h5 h6 ho ht (k ad H locs ls h1 h2 h3 h4)
theorem V_swOut (C : Cx X cc y ret rm) {dflt lo hi : Int} {offs : Array Int} {len : Nat} {x : Int32} (tgt : Nat) (hd : decode cc pc = .ok (.tableswitch dflt lo hi offs, len)) (h : x.toInt < lo ∨ hi < x.toInt) (ht : (pc : Int) + dflt = (tgt : Int)) (k : V X post nc ns tgt lv st S I J) : V X post nc ns pc lv (.int x :: st) S I J := fun ad H locs ls h1 h2 h3 h4 => lv_tableOut C.1 C.2.1 hd h ht (k ad H locs ls h1 h2 h3 h4)
/-- a store of one word: what a long held one before goes -/
def st1 (lv : List (Option Value)) (i : Nat) (v : Value) : List (Option Value) := match lv, i with
  | [], _ => []
  | _ :: t, 0 => some v :: t
  | a :: t, i + 1 => (bif i == 0 && (match a with | some w => isC2 w | none => false) then none else a) :: st1 t i v
def st2 (lv : List (Option Value)) (i : Nat) (v : Value) : List (Option Value) := match lv, i with
  | [], _ => []
  | _ :: t, 0 => some v :: (match t with | [] => [] | _ :: u => none :: u)
  | a :: t, i + 1 => (bif i == 0 && (match a with | some w => isC2 w | none => false) then none else a) :: st2 t i v
def prs (o : Nat) (lv : List (Option Value)) : List (Nat × Value) := match lv with
  | [] => []
  | none :: t => prs (o + 1) t
  | some v :: t => (o, v) :: prs (o + 1) t
theorem prs_of : ∀ (lv : List (Option Value)) (o i : Nat) (v : Value), (i, v) ∈ prs o lv → o ≤ i ∧ lv[i - o]? = some (some v) := by
  intro lv
  induction lv with
  | nil => intro o i v h; simp [prs] at h
  | cons a t ih =>
    intro o i v h
    have step : (i, v) ∈ prs (o + 1) t → o ≤ i ∧ (a :: t)[i - o]? = some (some v) := by
      intro h
      obtain ⟨h1, h2⟩ := ih (o + 1) i v h
      refine ⟨by omega, ?_⟩
      rw [show i - o = (i - (o + 1)) + 1 by omega, List.getElem?_cons_succ]
      exact h2
    cases a with
    | none => exact step h
    | some w =>
      rcases List.mem_cons.mp h with e | h
      · cases e
        exact ⟨Nat.le_refl _, by simp⟩
      · exact step h
theorem prs_to : ∀ (lv : List (Option Value)) (o i : Nat) (v : Value), lv[i]? = some (some v) → (o + i, v) ∈ prs o lv := by
  intro lv
  induction lv with
  | nil => intro o i v h; simp at h
  | cons a t ih =>
    intro o i v h
    cases i with
    | zero =>
      simp only [List.getElem?_cons_zero, Option.some.injEq] at h
      subst h
      exact List.mem_cons_self
    | succ i =>
      simp only [List.getElem?_cons_succ] at h
      have h1 := ih (o + 1) i v h
      rw [show o + (i + 1) = o + 1 + i by omega]
      cases a with
      | none => exact h1
      | some w => exact List.mem_cons_of_mem _ h1
theorem st1_of : ∀ (lv : List (Option Value)) (i : Nat) (v : Value) (x : Nat) (w : Value), (st1 lv i v)[x]? = some (some w) → (x = i ∧ w = v) ∨ (x ≠ i ∧ lv[x]? = some (some w) ∧ ¬ (x + 1 = i ∧ w.category = 2)) := by
  intro lv
  induction lv with
  | nil => intro i v x w h; simp [st1] at h
  | cons a t ih =>
    intro i v x w h
    cases i with
    | zero =>
      cases x with
      | zero =>
        simp only [st1, List.getElem?_cons_zero, Option.some.injEq] at h
        exact Or.inl ⟨rfl, h.symm⟩
      | succ x =>
        simp only [st1, List.getElem?_cons_succ] at h
        exact Or.inr ⟨by omega, by simpa using h, by omega⟩
    | succ i =>
      cases x with
      | zero =>
        simp only [st1, List.getElem?_cons_zero, Option.some.injEq] at h
        refine Or.inr ⟨by omega, ?_, ?_⟩
        · revert h
          cases hb : (i == 0 && (match a with | some w => isC2 w | none => false)) with
          | true => intro h; simp at h
          | false => intro h; simp only [cond_false] at h; simp [h]
        · rintro ⟨h1, h2⟩
          have hi : i = 0 := by omega
          subst hi
          revert h
          cases a with
          | none => simp
          | some u =>
            cases hu : isC2 u with
            | true => simp [hu]
            | false =>
              intro h
              simp [hu] at h
              subst h
              rw [(isC2_cat u).mpr h2] at hu
              cases hu
      | succ x =>
        simp only [st1, List.getElem?_cons_succ] at h
        rcases ih i v x w h with ⟨h1, h2⟩ | ⟨h1, h2, h3⟩
        · exact Or.inl ⟨by omega, h2⟩
        · exact Or.inr ⟨by omega, by simpa using h2, fun q => h3 ⟨by omega, q.2⟩⟩
theorem st2_of : ∀ (lv : List (Option Value)) (i : Nat) (v : Value) (x : Nat) (w : Value), (st2 lv i v)[x]? = some (some w) → (x = i ∧ w = v) ∨ (x ≠ i ∧ x ≠ i + 1 ∧ lv[x]? = some (some w) ∧ ¬ (x + 1 = i ∧ w.category = 2)) := by
  intro lv
  induction lv with
  | nil => intro i v x w h; simp [st2] at h
  | cons a t ih =>
    intro i v x w h
    cases i with
    | zero =>
      cases x with
      | zero =>
        simp only [st2, List.getElem?_cons_zero, Option.some.injEq] at h
        exact Or.inl ⟨rfl, h.symm⟩
      | succ x =>
        simp only [st2, List.getElem?_cons_succ] at h
        cases t with
        | nil => simp at h
        | cons b u =>
          cases x with
          | zero => simp at h
          | succ x =>
            simp only [List.getElem?_cons_succ] at h
            exact Or.inr ⟨by omega, by omega, by simpa using h, by omega⟩
    | succ i =>
      cases x with
      | zero =>
        simp only [st2, List.getElem?_cons_zero, Option.some.injEq] at h
        refine Or.inr ⟨by omega, by omega, ?_, ?_⟩
        · revert h
          cases hb : (i == 0 && (match a with | some w => isC2 w | none => false)) with
          | true => intro h; simp at h
          | false => intro h; simp only [cond_false] at h; simp [h]
        · rintro ⟨h1, h2⟩
          have hi : i = 0 := by omega
          subst hi
          revert h
          cases a with
          | none => simp
          | some u =>
            cases hu : isC2 u with
            | true => simp [hu]
            | false =>
              intro h
              simp [hu] at h
              subst h
              rw [(isC2_cat u).mpr h2] at hu
              cases hu
      | succ x =>
        simp only [st2, List.getElem?_cons_succ] at h
        rcases ih i v x w h with ⟨h1, h2⟩ | ⟨h1, h2, h3, h4⟩
        · exact Or.inl ⟨by omega, h2⟩
        · exact Or.inr ⟨by omega, by omega, by simpa using h3, fun q => h4 ⟨by omega, q.2⟩⟩
theorem LvR.has {ad : Nat → Nat} {ls : Array Slot} {nL : Nat} {lv : List (Option Value)} (h : LvR ad ls nL lv) : lv_has ls nL ((prs 0 lv).map fun q => (q.1, vv ad q.2)) := by
  refine ⟨h.1, h.2.1, fun q hq => ?_⟩
  obtain ⟨⟨i, v⟩, hp, rfl⟩ := List.mem_map.mp hq
  exact h.2.2 i v (prs_of lv 0 i v hp).2
theorem LvR.of1 {ad : Nat → Nat} {ls : Array Slot} {nL i : Nat} {lv : List (Option Value)} {v : Value} (h : lv_has ls nL ((i, vv ad v) :: ((prs 0 lv).map fun q => (q.1, vv ad q.2)).filter (fun q => !(q.1 == i) && !(q.1 + 1 == i && q.2.category == 2)))) : LvR ad ls nL (st1 lv i v) := by
  refine ⟨h.1, h.2.1, fun x w hx => ?_⟩
  rcases st1_of lv i v x w hx with ⟨rfl, rfl⟩ | ⟨h1, h2, h3⟩
  · exact h.2.2 _ List.mem_cons_self
  · refine h.2.2 (x, vv ad w) (List.mem_cons_of_mem _ (List.mem_filter.mpr ⟨List.mem_map.mpr ⟨(x, w), by simpa using prs_to lv 0 x w h2, rfl⟩, ?_⟩))
    simp only [vv_cat, Bool.and_eq_true, Bool.not_eq_true', beq_eq_false_iff_ne, ne_eq, Bool.and_eq_false_iff]
    refine ⟨h1, ?_⟩
    by_cases hc : x + 1 = i
    · exact Or.inr (fun q => h3 ⟨hc, q⟩)
    · exact Or.inl hc
theorem LvR.of2 {ad : Nat → Nat} {ls : Array Slot} {nL i : Nat} {lv : List (Option Value)} {v : Value} (h : lv_has ls nL ((i, vv ad v) :: ((prs 0 lv).map fun q => (q.1, vv ad q.2)).filter (fun q => !(q.1 == i) && (!(q.1 == i + 1) && !(q.1 + 1 == i && q.2.category == 2))))) : LvR ad ls nL (st2 lv i v) := by
  refine ⟨h.1, h.2.1, fun x w hx => ?_⟩
  rcases st2_of lv i v x w hx with ⟨rfl, rfl⟩ | ⟨h1, h1', h2, h3⟩
  · exact h.2.2 _ List.mem_cons_self
  · refine h.2.2 (x, vv ad w) (List.mem_cons_of_mem _ (List.mem_filter.mpr ⟨List.mem_map.mpr ⟨(x, w), by simpa using prs_to lv 0 x w h2, rfl⟩, ?_⟩))
    simp only [vv_cat, Bool.and_eq_true, Bool.not_eq_true', beq_eq_false_iff_ne, ne_eq, Bool.and_eq_false_iff]
    refine ⟨h1, h1', ?_⟩
    by_cases hc : x + 1 = i
    · exact Or.inr (fun q => h3 ⟨hc, q⟩)
    · exact Or.inl hc
theorem V_istore_n (C : Cx X cc y ret rm) {n : Fin 4} {x : Int32} (hd : decode cc pc = .ok (.istore_n n, 1)) (hn : (n : Nat) < xn X) (k : V X post nc ns (pc + 1) (st1 lv n (.int x)) st S I J) : V X post nc ns pc lv (.int x :: st) S I J := fun ad H locs ls h1 h2 h3 h4 => lv_istore_n C.1 C.2.1 hd rfl h4.has hn rfl (fun ls' hl => k ad H locs ls' h1 h2 h3 (LvR.of1 (v := .int x) hl))
theorem V_istore (C : Cx X cc y ret rm) {n : Nat} {x : Int32} (hd : decode cc pc = .ok (.istore n, 2)) (hn : n < xn X) (k : V X post nc ns (pc + 2) (st1 lv n (.int x)) st S I J) : V X post nc ns pc lv (.int x :: st) S I J := fun ad H locs ls h1 h2 h3 h4 => lv_istore C.1 C.2.1 hd h4.has hn rfl (fun ls' hl => k ad H locs ls' h1 h2 h3 (LvR.of1 (v := .int x) hl))
theorem V_lstore_n (C : Cx X cc y ret rm) {n : Fin 4} {x : Int64} (hd : decode cc pc = .ok (.lstore_n n, 1)) (hn : (n : Nat) + 1 < xn X) (k : V X post nc ns (pc + 1) (st2 lv n (.long x)) st S I J) : V X post nc ns pc lv (.long x :: st) S I J := fun ad H locs ls h1 h2 h3 h4 => lv_lstore_n C.1 C.2.1 hd rfl h4.has hn rfl (fun ls' hl => k ad H locs ls' h1 h2 h3 (LvR.of2 (v := .long x) hl))
theorem V_lstore (C : Cx X cc y ret rm) {n : Nat} {x : Int64} (hd : decode cc pc = .ok (.lstore n, 2)) (hn : n + 1 < xn X) (k : V X post nc ns (pc + 2) (st2 lv n (.long x)) st S I J) : V X post nc ns pc lv (.long x :: st) S I J := fun ad H locs ls h1 h2 h3 h4 => lv_lstore C.1 C.2.1 hd h4.has hn rfl (fun ls' hl => k ad H locs ls' h1 h2 h3 (LvR.of2 (v := .long x) hl))
theorem V_astore_n (C : Cx X cc y ret rm) {n : Fin 4} {x : Nat} (hd : decode cc pc = .ok (.astore_n n, 1)) (hn : (n : Nat) < xn X) (k : V X post nc ns (pc + 1) (st1 lv n (.ref x)) st S I J) : V X post nc ns pc lv (.ref x :: st) S I J := fun ad H locs ls h1 h2 h3 h4 => lv_astore_n C.1 C.2.1 hd rfl h4.has hn rfl (fun ls' hl => k ad H locs ls' h1 h2 h3 (LvR.of1 (v := .ref x) hl))
theorem V_astore (C : Cx X cc y ret rm) {n : Nat} {x : Nat} (hd : decode cc pc = .ok (.astore n, 2)) (hn : n < xn X) (k : V X post nc ns (pc + 2) (st1 lv n (.ref x)) st S I J) : V X post nc ns pc lv (.ref x :: st) S I J := fun ad H locs ls h1 h2 h3 h4 => lv_astore C.1 C.2.1 hd h4.has hn rfl (fun ls' hl => k ad H locs ls' h1 h2 h3 (LvR.of1 (v := .ref x) hl))
theorem V_astore_nN (C : Cx X cc y ret rm) {n : Fin 4} (hd : decode cc pc = .ok (.astore_n n, 1)) (hn : (n : Nat) < xn X) (k : V X post nc ns (pc + 1) (st1 lv n .null) st S I J) : V X post nc ns pc lv (.null :: st) S I J := fun ad H locs ls h1 h2 h3 h4 => lv_astore_nN C.1 C.2.1 hd rfl h4.has hn rfl (fun ls' hl => k ad H locs ls' h1 h2 h3 (LvR.of1 (v := .null) hl))
theorem V_iinc (C : Cx X cc y ret rm) {n : Nat} {d : Int} {x : Int32} (hd : decode cc pc = .ok (.iinc n d, 3)) (hl : lv[n]? = some (some (.int x))) (hn : n < xn X) (k : V X post nc ns (pc + 3) (st1 lv n (.int (x + Int32.ofInt d))) st S I J) : V X post nc ns pc lv st S I J := fun ad H locs ls h1 h2 h3 h4 => by
  obtain ⟨kk, hk⟩ := List.getElem?_of_mem (List.mem_map.mpr ⟨(n, .int x), (by simpa using prs_to lv 0 n (.int x) hl), rfl⟩ : ((n, Value.int x) : Nat × Value) ∈ (prs 0 lv).map fun q => (q.1, vv ad q.2))
  exact lv_iinc C.1 C.2.1 hd h4.has hk rfl hn rfl (fun ls' hl => k ad H locs ls' h1 h2 h3 (LvR.of1 (v := .int (x + Int32.ofInt d)) hl))
end VR
