section Rules9
variable {E : wE} {J : jI} {cells slots pc : Nat} {lv : List (Nat × Value)} {st : List Value} {f : wF} {g : wG} {w : Int64} {n : Nat}
theorem e_iconst {z : Int} {v : Int32} (hd : decode (mb J.1) pc = .ok (.iconst z, 1)) (hv : Int32.ofInt z = v) (k : Ev E J cells slots (pc + 1) lv (.int v :: st) f g w n) : Ev E J cells slots pc lv st f g w n :=
  fun p e s m args below meth c H locs ls C hS hV hl => lv_iconst C.1 C.2.1 hd hv (k p e s m args below meth c H locs ls C hS hV hl)
theorem e_bipush {z : Int} {v : Int32} (hd : decode (mb J.1) pc = .ok (.bipush z, 2)) (hv : (Int8.ofInt z).toInt32 = v) (k : Ev E J cells slots (pc + 2) lv (.int v :: st) f g w n) : Ev E J cells slots pc lv st f g w n :=
  fun p e s m args below meth c H locs ls C hS hV hl => lv_bipush C.1 C.2.1 hd hv (k p e s m args below meth c H locs ls C hS hV hl)
theorem e_lconst {z : Fin 2} {v : Int64} (hd : decode (mb J.1) pc = .ok (.lconst z, 1)) (hv : Int64.ofNat (z : Nat) = v) (k : Ev E J cells slots (pc + 1) lv (.long v :: st) f g w n) : Ev E J cells slots pc lv st f g w n :=
  fun p e s m args below meth c H locs ls C hS hV hl => lv_lconst C.1 C.2.1 hd hv (k p e s m args below meth c H locs ls C hS hV hl)
theorem e_iload_n {a : Fin 4} {i : Nat} {x : Int32} (hd : decode (mb J.1) pc = .ok (.iload_n a, 1)) (q : Nat) (hi : (a : Nat) = i) (hq : lv[q]? = some (i, .int x)) (k : Ev E J cells slots (pc + 1) lv (.int x :: st) f g w n) : Ev E J cells slots pc lv st f g w n :=
  fun p e s m args below meth c H locs ls C hS hV hl => lv_iload_n C.1 C.2.1 hd hi (lv_at hl q hq) (k p e s m args below meth c H locs ls C hS hV hl)
theorem e_iload {i : Nat} {x : Int32} (hd : decode (mb J.1) pc = .ok (.iload i, 2)) (q : Nat) (hq : lv[q]? = some (i, .int x)) (k : Ev E J cells slots (pc + 2) lv (.int x :: st) f g w n) : Ev E J cells slots pc lv st f g w n :=
  fun p e s m args below meth c H locs ls C hS hV hl => lv_iload C.1 C.2.1 hd (lv_at hl q hq) (k p e s m args below meth c H locs ls C hS hV hl)
theorem e_aload_n {a : Fin 4} {i x : Nat} (hd : decode (mb J.1) pc = .ok (.aload_n a, 1)) (q : Nat) (hi : (a : Nat) = i) (hq : lv[q]? = some (i, .ref x)) (k : Ev E J cells slots (pc + 1) lv (.ref x :: st) f g w n) : Ev E J cells slots pc lv st f g w n :=
  fun p e s m args below meth c H locs ls C hS hV hl => lv_aload_n C.1 C.2.1 hd hi (lv_at hl q hq) (k p e s m args below meth c H locs ls C hS hV hl)
theorem e_aload {i x : Nat} (hd : decode (mb J.1) pc = .ok (.aload i, 2)) (q : Nat) (hq : lv[q]? = some (i, .ref x)) (k : Ev E J cells slots (pc + 2) lv (.ref x :: st) f g w n) : Ev E J cells slots pc lv st f g w n :=
  fun p e s m args below meth c H locs ls C hS hV hl => lv_aload C.1 C.2.1 hd (lv_at hl q hq) (k p e s m args below meth c H locs ls C hS hV hl)
theorem e_dup {a : Value} (hd : decode (mb J.1) pc = .ok (.dup, 1)) (ha : a.category = 1) (k : Ev E J cells slots (pc + 1) lv (a :: a :: st) f g w n) : Ev E J cells slots pc lv (a :: st) f g w n :=
  fun p e s m args below meth c H locs ls C hS hV hl => lv_dup C.1 C.2.1 hd ha (k p e s m args below meth c H locs ls C hS hV hl)
theorem e_dup2 {a b : Value} (hd : decode (mb J.1) pc = .ok (.dup2, 1)) (ha : a.category = 1) (hb : b.category = 1) (k : Ev E J cells slots (pc + 1) lv (a :: b :: a :: b :: st) f g w n) : Ev E J cells slots pc lv (a :: b :: st) f g w n :=
  fun p e s m args below meth c H locs ls C hS hV hl => lv_dup2_11 C.1 C.2.1 hd ha hb (k p e s m args below meth c H locs ls C hS hV hl)
theorem e_pop {a : Value} (hd : decode (mb J.1) pc = .ok (.pop, 1)) (ha : a.category = 1) (k : Ev E J cells slots (pc + 1) lv st f g w n) : Ev E J cells slots pc lv (a :: st) f g w n :=
  fun p e s m args below meth c H locs ls C hS hV hl => lv_pop C.1 C.2.1 hd ha (k p e s m args below meth c H locs ls C hS hV hl)
theorem e_i2l {x : Int32} (hd : decode (mb J.1) pc = .ok (.i2l, 1))  (k : Ev E J cells slots (pc + 1) lv (.long x.toInt64 :: st) f g w n) : Ev E J cells slots pc lv (.int x :: st) f g w n :=
  fun p e s m args below meth c H locs ls C hS hV hl => lv_i2l C.1 C.2.1 hd rfl (k p e s m args below meth c H locs ls C hS hV hl)
theorem e_lcmp {x y : Int64} (hd : decode (mb J.1) pc = .ok (.lcmp, 1))  (k : Ev E J cells slots (pc + 1) lv (.int (lg_cmp x y) :: st) f g w n) : Ev E J cells slots pc lv (.long y :: .long x :: st) f g w n :=
  fun p e s m args below meth c H locs ls C hS hV hl => W.lcmp C.1 C.2.1 hd (k p e s m args below meth c H locs ls C hS hV hl)
theorem e_iadd {x y : Int32} (hd : decode (mb J.1) pc = .ok (.iadd, 1))  (k : Ev E J cells slots (pc + 1) lv (.int (x + y) :: st) f g w n) : Ev E J cells slots pc lv (.int y :: .int x :: st) f g w n :=
  fun p e s m args below meth c H locs ls C hS hV hl => lv_iadd C.1 C.2.1 hd (k p e s m args below meth c H locs ls C hS hV hl)
theorem e_isub {x y : Int32} (hd : decode (mb J.1) pc = .ok (.isub, 1))  (k : Ev E J cells slots (pc + 1) lv (.int (x - y) :: st) f g w n) : Ev E J cells slots pc lv (.int y :: .int x :: st) f g w n :=
  fun p e s m args below meth c H locs ls C hS hV hl => lv_isub C.1 C.2.1 hd (k p e s m args below meth c H locs ls C hS hV hl)
theorem e_imul {x y : Int32} (hd : decode (mb J.1) pc = .ok (.imul, 1))  (k : Ev E J cells slots (pc + 1) lv (.int (x * y) :: st) f g w n) : Ev E J cells slots pc lv (.int y :: .int x :: st) f g w n :=
  fun p e s m args below meth c H locs ls C hS hV hl => lv_imul C.1 C.2.1 hd (k p e s m args below meth c H locs ls C hS hV hl)
theorem e_iand {x y : Int32} (hd : decode (mb J.1) pc = .ok (.iand, 1))  (k : Ev E J cells slots (pc + 1) lv (.int (x &&& y) :: st) f g w n) : Ev E J cells slots pc lv (.int y :: .int x :: st) f g w n :=
  fun p e s m args below meth c H locs ls C hS hV hl => lv_iand C.1 C.2.1 hd (k p e s m args below meth c H locs ls C hS hV hl)
theorem e_ior {x y : Int32} (hd : decode (mb J.1) pc = .ok (.ior, 1))  (k : Ev E J cells slots (pc + 1) lv (.int (x ||| y) :: st) f g w n) : Ev E J cells slots pc lv (.int y :: .int x :: st) f g w n :=
  fun p e s m args below meth c H locs ls C hS hV hl => lv_ior C.1 C.2.1 hd (k p e s m args below meth c H locs ls C hS hV hl)
theorem e_ixor {x y : Int32} (hd : decode (mb J.1) pc = .ok (.ixor, 1))  (k : Ev E J cells slots (pc + 1) lv (.int (x ^^^ y) :: st) f g w n) : Ev E J cells slots pc lv (.int y :: .int x :: st) f g w n :=
  fun p e s m args below meth c H locs ls C hS hV hl => lv_ixor C.1 C.2.1 hd (k p e s m args below meth c H locs ls C hS hV hl)
theorem e_ishl {x y : Int32} (hd : decode (mb J.1) pc = .ok (.ishl, 1))  (k : Ev E J cells slots (pc + 1) lv (.int (x <<< (y &&& 31)) :: st) f g w n) : Ev E J cells slots pc lv (.int y :: .int x :: st) f g w n :=
  fun p e s m args below meth c H locs ls C hS hV hl => lv_ishl C.1 C.2.1 hd (k p e s m args below meth c H locs ls C hS hV hl)
theorem e_idiv {x y : Int32} (hd : decode (mb J.1) pc = .ok (.idiv, 1)) (hy : ¬ y = 0) (k : Ev E J cells slots (pc + 1) lv (.int (x / y) :: st) f g w n) : Ev E J cells slots pc lv (.int y :: .int x :: st) f g w n :=
  fun p e s m args below meth c H locs ls C hS hV hl => lv_idiv C.1 C.2.1 hd hy (k p e s m args below meth c H locs ls C hS hV hl)
theorem e_irem {x y : Int32} (hd : decode (mb J.1) pc = .ok (.irem, 1)) (hy : ¬ y = 0) (k : Ev E J cells slots (pc + 1) lv (.int (x - x / y * y) :: st) f g w n) : Ev E J cells slots pc lv (.int y :: .int x :: st) f g w n :=
  fun p e s m args below meth c H locs ls C hS hV hl => lv_irem C.1 C.2.1 hd hy (k p e s m args below meth c H locs ls C hS hV hl)
theorem e_icmp_eq {x y : Int32} {off : Int} {tgt : Nat} (hd : decode (mb J.1) pc = .ok (.if_icmp .eq off, 3)) (ht : (pc : Int) + off = (tgt : Int)) (kt : x = y → Ev E J cells slots tgt lv st f g w n) (kf : ¬ x = y → Ev E J cells slots (pc + 3) lv st f g w n) : Ev E J cells slots pc lv (.int y :: .int x :: st) f g w n :=
  fun p e s m args below meth c H locs ls C hS hV hl => lv_icmp_eq C.1 C.2.1 hd ht (fun h => kt h p e s m args below meth c H locs ls C hS hV hl) (fun h => kf h p e s m args below meth c H locs ls C hS hV hl)
theorem e_if_eq {x : Int32} {off : Int} {tgt : Nat} (hd : decode (mb J.1) pc = .ok (.ifCond .eq off, 3)) (ht : (pc : Int) + off = (tgt : Int)) (kt : x = 0 → Ev E J cells slots tgt lv st f g w n) (kf : ¬ x = 0 → Ev E J cells slots (pc + 3) lv st f g w n) : Ev E J cells slots pc lv (.int x :: st) f g w n :=
  fun p e s m args below meth c H locs ls C hS hV hl => lv_if_eq C.1 C.2.1 hd ht (fun h => kt h p e s m args below meth c H locs ls C hS hV hl) (fun h => kf h p e s m args below meth c H locs ls C hS hV hl)
theorem e_icmp_ne {x y : Int32} {off : Int} {tgt : Nat} (hd : decode (mb J.1) pc = .ok (.if_icmp .ne off, 3)) (ht : (pc : Int) + off = (tgt : Int)) (kt : ¬ x = y → Ev E J cells slots tgt lv st f g w n) (kf : x = y → Ev E J cells slots (pc + 3) lv st f g w n) : Ev E J cells slots pc lv (.int y :: .int x :: st) f g w n :=
  fun p e s m args below meth c H locs ls C hS hV hl => lv_icmp_ne C.1 C.2.1 hd ht (fun h => kt h p e s m args below meth c H locs ls C hS hV hl) (fun h => kf h p e s m args below meth c H locs ls C hS hV hl)
theorem e_if_ne {x : Int32} {off : Int} {tgt : Nat} (hd : decode (mb J.1) pc = .ok (.ifCond .ne off, 3)) (ht : (pc : Int) + off = (tgt : Int)) (kt : ¬ x = 0 → Ev E J cells slots tgt lv st f g w n) (kf : x = 0 → Ev E J cells slots (pc + 3) lv st f g w n) : Ev E J cells slots pc lv (.int x :: st) f g w n :=
  fun p e s m args below meth c H locs ls C hS hV hl => lv_if_ne C.1 C.2.1 hd ht (fun h => kt h p e s m args below meth c H locs ls C hS hV hl) (fun h => kf h p e s m args below meth c H locs ls C hS hV hl)
theorem e_icmp_lt {x y : Int32} {off : Int} {tgt : Nat} (hd : decode (mb J.1) pc = .ok (.if_icmp .lt off, 3)) (ht : (pc : Int) + off = (tgt : Int)) (kt : x < y → Ev E J cells slots tgt lv st f g w n) (kf : ¬ x < y → Ev E J cells slots (pc + 3) lv st f g w n) : Ev E J cells slots pc lv (.int y :: .int x :: st) f g w n :=
  fun p e s m args below meth c H locs ls C hS hV hl => lv_icmp_lt C.1 C.2.1 hd ht (fun h => kt h p e s m args below meth c H locs ls C hS hV hl) (fun h => kf h p e s m args below meth c H locs ls C hS hV hl)
theorem e_if_lt {x : Int32} {off : Int} {tgt : Nat} (hd : decode (mb J.1) pc = .ok (.ifCond .lt off, 3)) (ht : (pc : Int) + off = (tgt : Int)) (kt : x < 0 → Ev E J cells slots tgt lv st f g w n) (kf : ¬ x < 0 → Ev E J cells slots (pc + 3) lv st f g w n) : Ev E J cells slots pc lv (.int x :: st) f g w n :=
  fun p e s m args below meth c H locs ls C hS hV hl => lv_if_lt C.1 C.2.1 hd ht (fun h => kt h p e s m args below meth c H locs ls C hS hV hl) (fun h => kf h p e s m args below meth c H locs ls C hS hV hl)
theorem e_icmp_ge {x y : Int32} {off : Int} {tgt : Nat} (hd : decode (mb J.1) pc = .ok (.if_icmp .ge off, 3)) (ht : (pc : Int) + off = (tgt : Int)) (kt : y ≤ x → Ev E J cells slots tgt lv st f g w n) (kf : ¬ y ≤ x → Ev E J cells slots (pc + 3) lv st f g w n) : Ev E J cells slots pc lv (.int y :: .int x :: st) f g w n :=
  fun p e s m args below meth c H locs ls C hS hV hl => lv_icmp_ge C.1 C.2.1 hd ht (fun h => kt h p e s m args below meth c H locs ls C hS hV hl) (fun h => kf h p e s m args below meth c H locs ls C hS hV hl)
theorem e_if_ge {x : Int32} {off : Int} {tgt : Nat} (hd : decode (mb J.1) pc = .ok (.ifCond .ge off, 3)) (ht : (pc : Int) + off = (tgt : Int)) (kt : 0 ≤ x → Ev E J cells slots tgt lv st f g w n) (kf : ¬ 0 ≤ x → Ev E J cells slots (pc + 3) lv st f g w n) : Ev E J cells slots pc lv (.int x :: st) f g w n :=
  fun p e s m args below meth c H locs ls C hS hV hl => lv_if_ge C.1 C.2.1 hd ht (fun h => kt h p e s m args below meth c H locs ls C hS hV hl) (fun h => kf h p e s m args below meth c H locs ls C hS hV hl)
theorem e_icmp_gt {x y : Int32} {off : Int} {tgt : Nat} (hd : decode (mb J.1) pc = .ok (.if_icmp .gt off, 3)) (ht : (pc : Int) + off = (tgt : Int)) (kt : y < x → Ev E J cells slots tgt lv st f g w n) (kf : ¬ y < x → Ev E J cells slots (pc + 3) lv st f g w n) : Ev E J cells slots pc lv (.int y :: .int x :: st) f g w n :=
  fun p e s m args below meth c H locs ls C hS hV hl => lv_icmp_gt C.1 C.2.1 hd ht (fun h => kt h p e s m args below meth c H locs ls C hS hV hl) (fun h => kf h p e s m args below meth c H locs ls C hS hV hl)
theorem e_if_gt {x : Int32} {off : Int} {tgt : Nat} (hd : decode (mb J.1) pc = .ok (.ifCond .gt off, 3)) (ht : (pc : Int) + off = (tgt : Int)) (kt : 0 < x → Ev E J cells slots tgt lv st f g w n) (kf : ¬ 0 < x → Ev E J cells slots (pc + 3) lv st f g w n) : Ev E J cells slots pc lv (.int x :: st) f g w n :=
  fun p e s m args below meth c H locs ls C hS hV hl => lv_if_gt C.1 C.2.1 hd ht (fun h => kt h p e s m args below meth c H locs ls C hS hV hl) (fun h => kf h p e s m args below meth c H locs ls C hS hV hl)
theorem e_icmp_le {x y : Int32} {off : Int} {tgt : Nat} (hd : decode (mb J.1) pc = .ok (.if_icmp .le off, 3)) (ht : (pc : Int) + off = (tgt : Int)) (kt : x ≤ y → Ev E J cells slots tgt lv st f g w n) (kf : ¬ x ≤ y → Ev E J cells slots (pc + 3) lv st f g w n) : Ev E J cells slots pc lv (.int y :: .int x :: st) f g w n :=
  fun p e s m args below meth c H locs ls C hS hV hl => lv_icmp_le C.1 C.2.1 hd ht (fun h => kt h p e s m args below meth c H locs ls C hS hV hl) (fun h => kf h p e s m args below meth c H locs ls C hS hV hl)
theorem e_if_le {x : Int32} {off : Int} {tgt : Nat} (hd : decode (mb J.1) pc = .ok (.ifCond .le off, 3)) (ht : (pc : Int) + off = (tgt : Int)) (kt : x ≤ 0 → Ev E J cells slots tgt lv st f g w n) (kf : ¬ x ≤ 0 → Ev E J cells slots (pc + 3) lv st f g w n) : Ev E J cells slots pc lv (.int x :: st) f g w n :=
  fun p e s m args below meth c H locs ls C hS hV hl => lv_if_le C.1 C.2.1 hd ht (fun h => kt h p e s m args below meth c H locs ls C hS hV hl) (fun h => kf h p e s m args below meth c H locs ls C hS hV hl)
theorem e_goto {off : Int} {tgt : Nat} (hd : decode (mb J.1) pc = .ok (.goto off, 3)) (ht : (pc : Int) + off = (tgt : Int)) (k : Ev E J cells slots tgt lv st f g w n) : Ev E J cells slots pc lv st f g w n :=
  fun p e s m args below meth c H locs ls C hS hV hl => lv_goto C.1 C.2.1 hd ht (k p e s m args below meth c H locs ls C hS hV hl)
theorem e_tabIn {dflt lo hi : Int} {offs : Array Int} {len : Nat} {x : Int32} {off : Int} {tgt : Nat} (hd : decode (mb J.1) pc = .ok (.tableswitch dflt lo hi offs, len)) (h1 : ¬ x.toInt < lo) (h2 : ¬ hi < x.toInt) (ho : offs[(x.toInt - lo).toNat]? = some off) (ht : (pc : Int) + off = (tgt : Int)) (k : Ev E J cells slots tgt lv st f g w n) : Ev E J cells slots pc lv (.int x :: st) f g w n :=
  fun p e s m args below meth c H locs ls C hS hV hl => lv_tableIn C.1 C.2.1 hd h1 h2 ho ht (k p e s m args below meth c H locs ls C hS hV hl)
theorem e_tabOut {dflt lo hi : Int} {offs : Array Int} {len : Nat} {x : Int32} {tgt : Nat} (hd : decode (mb J.1) pc = .ok (.tableswitch dflt lo hi offs, len)) (h : x.toInt < lo ∨ hi < x.toInt) (ht : (pc : Int) + dflt = (tgt : Int)) (k : Ev E J cells slots tgt lv st f g w n) : Ev E J cells slots pc lv (.int x :: st) f g w n :=
  fun p e s m args below meth c H locs ls C hS hV hl => lv_tableOut C.1 C.2.1 hd h ht (k p e s m args below meth c H locs ls C hS hV hl)
theorem e_istore_n {a : Fin 4} {i : Nat} {x : Int32} {lv2 : List (Nat × Value)} (hd : decode (mb J.1) pc = .ok (.istore_n a, 1)) (hi : (a : Nat) = i) (hn : i < mn J.1) (h2 : (i, Value.int x) :: lv.filter (fun q => !(q.1 == i) && !(q.1 + 1 == i && q.2.category == 2)) = lv2) (k : Ev E J cells slots (pc + 1) lv2 st f g w n) : Ev E J cells slots pc lv (.int x :: st) f g w n :=
  fun p e s m args below meth c H locs ls C hS hV hl => lv_istore_n C.1 C.2.1 hd hi hl hn h2 (fun ls2 hl2 => k p e s m args below meth c H locs ls2 C hS hV hl2)
theorem e_istore {i : Nat} {x : Int32} {lv2 : List (Nat × Value)} (hd : decode (mb J.1) pc = .ok (.istore i, 2)) (hn : i < mn J.1) (h2 : (i, Value.int x) :: lv.filter (fun q => !(q.1 == i) && !(q.1 + 1 == i && q.2.category == 2)) = lv2) (k : Ev E J cells slots (pc + 2) lv2 st f g w n) : Ev E J cells slots pc lv (.int x :: st) f g w n :=
  fun p e s m args below meth c H locs ls C hS hV hl => lv_istore C.1 C.2.1 hd hl hn h2 (fun ls2 hl2 => k p e s m args below meth c H locs ls2 C hS hV hl2)
theorem e_astore_n {a : Fin 4} {i : Nat} {x : Nat} {lv2 : List (Nat × Value)} (hd : decode (mb J.1) pc = .ok (.astore_n a, 1)) (hi : (a : Nat) = i) (hn : i < mn J.1) (h2 : (i, Value.ref x) :: lv.filter (fun q => !(q.1 == i) && !(q.1 + 1 == i && q.2.category == 2)) = lv2) (k : Ev E J cells slots (pc + 1) lv2 st f g w n) : Ev E J cells slots pc lv (.ref x :: st) f g w n :=
  fun p e s m args below meth c H locs ls C hS hV hl => lv_astore_n C.1 C.2.1 hd hi hl hn h2 (fun ls2 hl2 => k p e s m args below meth c H locs ls2 C hS hV hl2)
theorem e_astore {i : Nat} {x : Nat} {lv2 : List (Nat × Value)} (hd : decode (mb J.1) pc = .ok (.astore i, 2)) (hn : i < mn J.1) (h2 : (i, Value.ref x) :: lv.filter (fun q => !(q.1 == i) && !(q.1 + 1 == i && q.2.category == 2)) = lv2) (k : Ev E J cells slots (pc + 2) lv2 st f g w n) : Ev E J cells slots pc lv (.ref x :: st) f g w n :=
  fun p e s m args below meth c H locs ls C hS hV hl => lv_astore C.1 C.2.1 hd hl hn h2 (fun ls2 hl2 => k p e s m args below meth c H locs ls2 C hS hV hl2)
theorem e_iinc {i q : Nat} {z : Int} {x v : Int32} {lv2 : List (Nat × Value)} (hd : decode (mb J.1) pc = .ok (.iinc i z, 3)) (hq : lv[q]? = some (i, .int x)) (hv : x + Int32.ofInt z = v) (hn : i < mn J.1) (h2 : (i, Value.int v) :: lv.filter (fun q => !(q.1 == i) && !(q.1 + 1 == i && q.2.category == 2)) = lv2) (k : Ev E J cells slots (pc + 3) lv2 st f g w n) : Ev E J cells slots pc lv st f g w n :=
  fun p e s m args below meth c H locs ls C hS hV hl => lv_iinc C.1 C.2.1 hd hl hq hv hn h2 (fun ls2 hl2 => k p e s m args below meth c H locs ls2 C hS hV hl2)
theorem e_gF {idx k : Nat} (hd : decode (mb J.1) pc = .ok (.getfield idx, 3)) (j : Nat) (hlk : Cond.fieldLink (mo J.1) idx "RouteFrame" (TF j).2.1 (TF j).2.2.1 ∈ WS) (hj : j < 4) (ho : (TF j).1 = "RouteFrame") (hr : rfld 0 j = false) (hk : kd k = 0) (hn : k < n) (kk : Ev E J cells slots (pc + 3) lv (.int (f k j) :: st) f g w n) : Ev E J cells slots pc lv (.ref (wB E + k) :: st) f g w n :=
  fun p e s m args below meth c H locs ls C hS hV hl => va_get (C := "RouteFrame") (T := TF) (N := 4) (ref := "RouteFrame") (ci := 0) C.1 C.2.1 C.2.2.2.2.1 uwF C.2.2.2.1 C.2.2.2.2.2.2.2.2.1.1 hS k (by rw [mkW_at hn, wce_o hk (by decide)]) rfl j hj (C.2.2.2.2.1 _ hlk) (fun x9 h9 => by rw [ho] at h9; exact h9) (v := .int (f k j)) (by rw [wfs_at (c := 0) hj, hr]; rfl) hd (kk p e s m args below meth c H locs ls C hS hV hl)
theorem e_qF {t : Nat} {idx k : Nat} (hd : decode (mb J.1) pc = .ok (.getfield idx, 3)) (j : Nat) (hlk : Cond.fieldLink (mo J.1) idx "RouteFrame" (TF j).2.1 (TF j).2.2.1 ∈ WS) (hj : j < 4) (ho : (TF j).1 = "RouteFrame") (hr : rfld 0 j = true) (hk : kd k = 0) (hn : k < n) (hg : g k j = some t) (kk : Ev E J cells slots (pc + 3) lv (.ref (wB E + t) :: st) f g w n) : Ev E J cells slots pc lv (.ref (wB E + k) :: st) f g w n :=
  fun p e s m args below meth c H locs ls C hS hV hl => va_get (C := "RouteFrame") (T := TF) (N := 4) (ref := "RouteFrame") (ci := 0) C.1 C.2.1 C.2.2.2.2.1 uwF C.2.2.2.1 C.2.2.2.2.2.2.2.2.1.1 hS k (by rw [mkW_at hn, wce_o hk (by decide)]) rfl j hj (C.2.2.2.2.1 _ hlk) (fun x9 h9 => by rw [ho] at h9; exact h9) (v := .ref (wB E + t)) (by rw [wfs_at (c := 0) hj, hr]; simp [hg, wv]) hd (kk p e s m args below meth c H locs ls C hS hV hl)
theorem e_pF {v : Int32} {idx k : Nat} (hd : decode (mb J.1) pc = .ok (.putfield idx, 3)) (j : Nat) (hlk : Cond.fieldLink (mo J.1) idx "RouteFrame" (TF j).2.1 (TF j).2.2.1 ∈ WS) (hj : j < 4) (ho : (TF j).1 = "RouteFrame") (hr : rfld 0 j = false) (hk : kd k = 0) (hn : k < n) (hfin : (TF j).2.2.2 = false) (hty : tyF j = .int) (kk : Ev E J cells slots (pc + 3) lv st (up2 f k j v) g w n) : Ev E J cells slots pc lv (.int v :: .ref (wB E + k) :: st) f g w n := by
  intro p e s m args below meth c H locs ls C hS hV hl
  refine va_put (C := "RouteFrame") (T := TF) (N := 4) (ref := "RouteFrame") (ci := 0) (ty := .int) C.1 C.2.1 C.2.2.2.2.1 uwF tyF tyF_ok nmF C.2.2.2.1 C.2.2.2.2.2.2.2.2.1.1 hS mkW_D hV k (by rw [mkW_at hn, wce_o hk (by decide)]) rfl j hj (C.2.2.2.2.1 _ hlk) (fun x9 h9 => by rw [ho] at h9; exact h9) hfin (by rw [tyF_ok j hj, hty]) rfl rfl (by rw [wfs_len]; exact hj) hd (fun H1 locs1 hP1 _ hS1 => ?_)
  rw [wfs_set (c := 0) hr, mkW_set (f' := up2 f k j v) (g' := g) (w' := w) (by rw [wce_o hk (by decide)]) (fun a ha => wce_f (up2_n ha))] at hP1
  exact kk p e s m args below meth c H1 locs1 ls C hP1 hS1 hl
theorem e_gS {idx k : Nat} (hd : decode (mb J.1) pc = .ok (.getfield idx, 3)) (j : Nat) (hlk : Cond.fieldLink (mo J.1) idx "RouteFrame$Section" (TS j).2.1 (TS j).2.2.1 ∈ WS) (hj : j < 6) (ho : (TS j).1 = "RouteFrame$Section") (hr : rfld 1 j = false) (hk : kd k = 1) (hn : k < n) (kk : Ev E J cells slots (pc + 3) lv (.int (f k j) :: st) f g w n) : Ev E J cells slots pc lv (.ref (wB E + k) :: st) f g w n :=
  fun p e s m args below meth c H locs ls C hS hV hl => va_get (C := "RouteFrame$Section") (T := TS) (N := 6) (ref := "RouteFrame$Section") (ci := 1) C.1 C.2.1 C.2.2.2.2.1 uwS C.2.2.2.1 C.2.2.2.2.2.2.2.2.1.1 hS k (by rw [mkW_at hn, wce_o hk (by decide)]) rfl j hj (C.2.2.2.2.1 _ hlk) (fun x9 h9 => by rw [ho] at h9; exact h9) (v := .int (f k j)) (by rw [wfs_at (c := 1) hj, hr]; rfl) hd (kk p e s m args below meth c H locs ls C hS hV hl)
theorem e_pS {v : Int32} {idx k : Nat} (hd : decode (mb J.1) pc = .ok (.putfield idx, 3)) (j : Nat) (hlk : Cond.fieldLink (mo J.1) idx "RouteFrame$Section" (TS j).2.1 (TS j).2.2.1 ∈ WS) (hj : j < 6) (ho : (TS j).1 = "RouteFrame$Section") (hr : rfld 1 j = false) (hk : kd k = 1) (hn : k < n) (hfin : (TS j).2.2.2 = false) (hty : tyS j = .int) (kk : Ev E J cells slots (pc + 3) lv st (up2 f k j v) g w n) : Ev E J cells slots pc lv (.int v :: .ref (wB E + k) :: st) f g w n := by
  intro p e s m args below meth c H locs ls C hS hV hl
  refine va_put (C := "RouteFrame$Section") (T := TS) (N := 6) (ref := "RouteFrame$Section") (ci := 1) (ty := .int) C.1 C.2.1 C.2.2.2.2.1 uwS tyS tyS_ok nmS C.2.2.2.1 C.2.2.2.2.2.2.2.2.1.1 hS mkW_D hV k (by rw [mkW_at hn, wce_o hk (by decide)]) rfl j hj (C.2.2.2.2.1 _ hlk) (fun x9 h9 => by rw [ho] at h9; exact h9) hfin (by rw [tyS_ok j hj, hty]) rfl rfl (by rw [wfs_len]; exact hj) hd (fun H1 locs1 hP1 _ hS1 => ?_)
  rw [wfs_set (c := 1) hr, mkW_set (f' := up2 f k j v) (g' := g) (w' := w) (by rw [wce_o hk (by decide)]) (fun a ha => wce_f (up2_n ha))] at hP1
  exact kk p e s m args below meth c H1 locs1 ls C hP1 hS1 hl
theorem e_pSb {v : Int32} {idx k : Nat} (hd : decode (mb J.1) pc = .ok (.putfield idx, 3)) (j : Nat) (hlk : Cond.fieldLink (mo J.1) idx "RouteFrame$Section" (TS j).2.1 (TS j).2.2.1 ∈ WS) (hj : j < 6) (ho : (TS j).1 = "RouteFrame$Section") (hr : rfld 1 j = false) (hk : kd k = 1) (hn : k < n) (hfin : (TS j).2.2.2 = false) (hty : tyS j = .boolean) (hv : v = 0 ∨ v = 1) (kk : Ev E J cells slots (pc + 3) lv st (up2 f k j v) g w n) : Ev E J cells slots pc lv (.int v :: .ref (wB E + k) :: st) f g w n := by
  intro p e s m args below meth c H locs ls C hS hV hl
  refine va_put (C := "RouteFrame$Section") (T := TS) (N := 6) (ref := "RouteFrame$Section") (ci := 1) (ty := .boolean) C.1 C.2.1 C.2.2.2.2.1 uwS tyS tyS_ok nmS C.2.2.2.1 C.2.2.2.2.2.2.2.2.1.1 hS mkW_D hV k (by rw [mkW_at hn, wce_o hk (by decide)]) rfl j hj (C.2.2.2.2.1 _ hlk) (fun x9 h9 => by rw [ho] at h9; exact h9) hfin (by rw [tyS_ok j hj, hty]) (by rcases hv with rfl | rfl <;> rfl) (by rcases hv with rfl | rfl <;> rfl) (by rw [wfs_len]; exact hj) hd (fun H1 locs1 hP1 _ hS1 => ?_)
  rw [wfs_set (c := 1) hr, mkW_set (f' := up2 f k j v) (g' := g) (w' := w) (by rw [wce_o hk (by decide)]) (fun a ha => wce_f (up2_n ha))] at hP1
  exact kk p e s m args below meth c H1 locs1 ls C hP1 hS1 hl
theorem e_gR {idx k : Nat} (hd : decode (mb J.1) pc = .ok (.getfield idx, 3)) (j : Nat) (hlk : Cond.fieldLink (mo J.1) idx "RouteFrame$Route" (TR j).2.1 (TR j).2.2.1 ∈ WS) (hj : j < 11) (ho : (TR j).1 = "RouteFrame$Route") (hr : rfld 2 j = false) (hk : kd k = 2) (hn : k < n) (kk : Ev E J cells slots (pc + 3) lv (.int (f k j) :: st) f g w n) : Ev E J cells slots pc lv (.ref (wB E + k) :: st) f g w n :=
  fun p e s m args below meth c H locs ls C hS hV hl => va_get (C := "RouteFrame$Route") (T := TR) (N := 11) (ref := "RouteFrame$Route") (ci := 2) C.1 C.2.1 C.2.2.2.2.1 uwR C.2.2.2.1 C.2.2.2.2.2.2.2.2.1.1 hS k (by rw [mkW_at hn, wce_o hk (by decide)]) rfl j hj (C.2.2.2.2.1 _ hlk) (fun x9 h9 => by rw [ho] at h9; exact h9) (v := .int (f k j)) (by rw [wfs_at (c := 2) hj, hr]; rfl) hd (kk p e s m args below meth c H locs ls C hS hV hl)
theorem e_qR {t : Nat} {idx k : Nat} (hd : decode (mb J.1) pc = .ok (.getfield idx, 3)) (j : Nat) (hlk : Cond.fieldLink (mo J.1) idx "RouteFrame$Route" (TR j).2.1 (TR j).2.2.1 ∈ WS) (hj : j < 11) (ho : (TR j).1 = "RouteFrame$Route") (hr : rfld 2 j = true) (hk : kd k = 2) (hn : k < n) (hg : g k j = some t) (kk : Ev E J cells slots (pc + 3) lv (.ref (wB E + t) :: st) f g w n) : Ev E J cells slots pc lv (.ref (wB E + k) :: st) f g w n :=
  fun p e s m args below meth c H locs ls C hS hV hl => va_get (C := "RouteFrame$Route") (T := TR) (N := 11) (ref := "RouteFrame$Route") (ci := 2) C.1 C.2.1 C.2.2.2.2.1 uwR C.2.2.2.1 C.2.2.2.2.2.2.2.2.1.1 hS k (by rw [mkW_at hn, wce_o hk (by decide)]) rfl j hj (C.2.2.2.2.1 _ hlk) (fun x9 h9 => by rw [ho] at h9; exact h9) (v := .ref (wB E + t)) (by rw [wfs_at (c := 2) hj, hr]; simp [hg, wv]) hd (kk p e s m args below meth c H locs ls C hS hV hl)
theorem e_pR {v : Int32} {idx k : Nat} (hd : decode (mb J.1) pc = .ok (.putfield idx, 3)) (j : Nat) (hlk : Cond.fieldLink (mo J.1) idx "RouteFrame$Route" (TR j).2.1 (TR j).2.2.1 ∈ WS) (hj : j < 11) (ho : (TR j).1 = "RouteFrame$Route") (hr : rfld 2 j = false) (hk : kd k = 2) (hn : k < n) (hfin : (TR j).2.2.2 = false) (hty : tyR j = .int) (kk : Ev E J cells slots (pc + 3) lv st (up2 f k j v) g w n) : Ev E J cells slots pc lv (.int v :: .ref (wB E + k) :: st) f g w n := by
  intro p e s m args below meth c H locs ls C hS hV hl
  refine va_put (C := "RouteFrame$Route") (T := TR) (N := 11) (ref := "RouteFrame$Route") (ci := 2) (ty := .int) C.1 C.2.1 C.2.2.2.2.1 uwR tyR tyR_ok nmR C.2.2.2.1 C.2.2.2.2.2.2.2.2.1.1 hS mkW_D hV k (by rw [mkW_at hn, wce_o hk (by decide)]) rfl j hj (C.2.2.2.2.1 _ hlk) (fun x9 h9 => by rw [ho] at h9; exact h9) hfin (by rw [tyR_ok j hj, hty]) rfl rfl (by rw [wfs_len]; exact hj) hd (fun H1 locs1 hP1 _ hS1 => ?_)
  rw [wfs_set (c := 2) hr, mkW_set (f' := up2 f k j v) (g' := g) (w' := w) (by rw [wce_o hk (by decide)]) (fun a ha => wce_f (up2_n ha))] at hP1
  exact kk p e s m args below meth c H1 locs1 ls C hP1 hS1 hl
theorem e_pRb {v : Int32} {idx k : Nat} (hd : decode (mb J.1) pc = .ok (.putfield idx, 3)) (j : Nat) (hlk : Cond.fieldLink (mo J.1) idx "RouteFrame$Route" (TR j).2.1 (TR j).2.2.1 ∈ WS) (hj : j < 11) (ho : (TR j).1 = "RouteFrame$Route") (hr : rfld 2 j = false) (hk : kd k = 2) (hn : k < n) (hfin : (TR j).2.2.2 = false) (hty : tyR j = .boolean) (hv : v = 0 ∨ v = 1) (kk : Ev E J cells slots (pc + 3) lv st (up2 f k j v) g w n) : Ev E J cells slots pc lv (.int v :: .ref (wB E + k) :: st) f g w n := by
  intro p e s m args below meth c H locs ls C hS hV hl
  refine va_put (C := "RouteFrame$Route") (T := TR) (N := 11) (ref := "RouteFrame$Route") (ci := 2) (ty := .boolean) C.1 C.2.1 C.2.2.2.2.1 uwR tyR tyR_ok nmR C.2.2.2.1 C.2.2.2.2.2.2.2.2.1.1 hS mkW_D hV k (by rw [mkW_at hn, wce_o hk (by decide)]) rfl j hj (C.2.2.2.2.1 _ hlk) (fun x9 h9 => by rw [ho] at h9; exact h9) hfin (by rw [tyR_ok j hj, hty]) (by rcases hv with rfl | rfl <;> rfl) (by rcases hv with rfl | rfl <;> rfl) (by rw [wfs_len]; exact hj) hd (fun H1 locs1 hP1 _ hS1 => ?_)
  rw [wfs_set (c := 2) hr, mkW_set (f' := up2 f k j v) (g' := g) (w' := w) (by rw [wce_o hk (by decide)]) (fun a ha => wce_f (up2_n ha))] at hP1
  exact kk p e s m args below meth c H1 locs1 ls C hP1 hS1 hl
theorem e_gM {idx k : Nat} (hd : decode (mb J.1) pc = .ok (.getfield idx, 3)) (j : Nat) (hlk : Cond.fieldLink (mo J.1) idx "RouteFrameModel" (TM j).2.1 (TM j).2.2.1 ∈ WS) (hj : j < 19) (ho : (TM j).1 = "RouteFrameModel") (hr : rfld 3 j = false) (hk : kd k = 3) (hn : k < n) (kk : Ev E J cells slots (pc + 3) lv (.int (f k j) :: st) f g w n) : Ev E J cells slots pc lv (.ref (wB E + k) :: st) f g w n :=
  fun p e s m args below meth c H locs ls C hS hV hl => va_get (C := "RouteFrameModel") (T := TM) (N := 19) (ref := "RouteFrameModel") (ci := 3) C.1 C.2.1 C.2.2.2.2.1 uwM C.2.2.2.1 C.2.2.2.2.2.2.2.2.1.1 hS k (by rw [mkW_at hn, wce_o hk (by decide)]) rfl j hj (C.2.2.2.2.1 _ hlk) (fun x9 h9 => by rw [ho] at h9; exact h9) (v := .int (f k j)) (by rw [wfs_at (c := 3) hj, hr]; rfl) hd (kk p e s m args below meth c H locs ls C hS hV hl)
theorem e_qM {t : Nat} {idx k : Nat} (hd : decode (mb J.1) pc = .ok (.getfield idx, 3)) (j : Nat) (hlk : Cond.fieldLink (mo J.1) idx "RouteFrameModel" (TM j).2.1 (TM j).2.2.1 ∈ WS) (hj : j < 19) (ho : (TM j).1 = "RouteFrameModel") (hr : rfld 3 j = true) (hk : kd k = 3) (hn : k < n) (hg : g k j = some t) (kk : Ev E J cells slots (pc + 3) lv (.ref (wB E + t) :: st) f g w n) : Ev E J cells slots pc lv (.ref (wB E + k) :: st) f g w n :=
  fun p e s m args below meth c H locs ls C hS hV hl => va_get (C := "RouteFrameModel") (T := TM) (N := 19) (ref := "RouteFrameModel") (ci := 3) C.1 C.2.1 C.2.2.2.2.1 uwM C.2.2.2.1 C.2.2.2.2.2.2.2.2.1.1 hS k (by rw [mkW_at hn, wce_o hk (by decide)]) rfl j hj (C.2.2.2.2.1 _ hlk) (fun x9 h9 => by rw [ho] at h9; exact h9) (v := .ref (wB E + t)) (by rw [wfs_at (c := 3) hj, hr]; simp [hg, wv]) hd (kk p e s m args below meth c H locs ls C hS hV hl)
theorem e_pM {v : Int32} {idx k : Nat} (hd : decode (mb J.1) pc = .ok (.putfield idx, 3)) (j : Nat) (hlk : Cond.fieldLink (mo J.1) idx "RouteFrameModel" (TM j).2.1 (TM j).2.2.1 ∈ WS) (hj : j < 19) (ho : (TM j).1 = "RouteFrameModel") (hr : rfld 3 j = false) (hk : kd k = 3) (hn : k < n) (hfin : (TM j).2.2.2 = false) (hty : tyM j = .int) (kk : Ev E J cells slots (pc + 3) lv st (up2 f k j v) g w n) : Ev E J cells slots pc lv (.int v :: .ref (wB E + k) :: st) f g w n := by
  intro p e s m args below meth c H locs ls C hS hV hl
  refine va_put (C := "RouteFrameModel") (T := TM) (N := 19) (ref := "RouteFrameModel") (ci := 3) (ty := .int) C.1 C.2.1 C.2.2.2.2.1 uwM tyM tyM_ok nmM C.2.2.2.1 C.2.2.2.2.2.2.2.2.1.1 hS mkW_D hV k (by rw [mkW_at hn, wce_o hk (by decide)]) rfl j hj (C.2.2.2.2.1 _ hlk) (fun x9 h9 => by rw [ho] at h9; exact h9) hfin (by rw [tyM_ok j hj, hty]) rfl rfl (by rw [wfs_len]; exact hj) hd (fun H1 locs1 hP1 _ hS1 => ?_)
  rw [wfs_set (c := 3) hr, mkW_set (f' := up2 f k j v) (g' := g) (w' := w) (by rw [wce_o hk (by decide)]) (fun a ha => wce_f (up2_n ha))] at hP1
  exact kk p e s m args below meth c H1 locs1 ls C hP1 hS1 hl
-- arrays
theorem e_iald {k i : Nat} {x : Int32} (hd : decode (mb J.1) pc = .ok (.iaload, 1)) (hk : kd k = 5) (hn : k < n) (hx : x = nI i) (hi : i < ln k) (kk : Ev E J cells slots (pc + 1) lv (.int (f k i) :: st) f g w n) : Ev E J cells slots pc lv (.int x :: .ref (wB E + k) :: st) f g w n := by
  intro p e s m args below meth c H locs ls C hS hV hl
  subst hx
  have h48 := ln_le k
  refine va_iald C.1 C.2.1 C.2.2.2.2.2.2.2.2.1.1 hS k 0 (by rw [mkW_at hn, wce_i hk]) rfl (vp_in_nI hi (by omega)) hd ?_
  rw [nI_clamp (by omega)]
  exact kk p e s m args below meth c H locs ls C hS hV hl
theorem e_bald {k i : Nat} {x : Int32} (hd : decode (mb J.1) pc = .ok (.baload, 1)) (hk : kd k = 6) (hn : k < n) (hx : x = nI i) (hi : i < ln k) (kk : Ev E J cells slots (pc + 1) lv (.int (f k i) :: st) f g w n) : Ev E J cells slots pc lv (.int x :: .ref (wB E + k) :: st) f g w n := by
  intro p e s m args below meth c H locs ls C hS hV hl
  subst hx
  have h48 := ln_le k
  refine va_zald C.1 C.2.1 C.2.2.2.2.2.2.2.2.1.1 hS k 1 (by rw [mkW_at hn, wce_z hk]) rfl (vp_in_nI hi (by omega)) hd ?_
  rw [nI_clamp (by omega)]
  exact kk p e s m args below meth c H locs ls C hS hV hl
theorem e_aaldS {i t : Nat} {x : Int32} (hd : decode (mb J.1) pc = .ok (.aaload, 1)) (hn : 1 < n) (hx : x = nI i) (hi : i < 12) (hg : g 1 i = some t) (kk : Ev E J cells slots (pc + 1) lv (.ref (wB E + t) :: st) f g w n) : Ev E J cells slots pc lv (.int x :: .ref (wB E + 1) :: st) f g w n := by
  intro p e s m args below meth c H locs ls C hS hV hl
  subst hx
  refine va_aldq (C := "RouteFrame$Section") C.1 C.2.1 C.2.2.2.2.2.2.2.2.1.1 hS 1 3 (by rw [mkW_at hn, wce_q rfl]; rfl) rfl (vp_in_nI (N := 12) hi (by omega)) hd ?_
  rw [nI_clamp (by omega), hg]
  exact kk p e s m args below meth c H locs ls C hS hV hl
theorem e_aaldR {i t : Nat} {x : Int32} (hd : decode (mb J.1) pc = .ok (.aaload, 1)) (hn : 14 < n) (hx : x = nI i) (hi : i < 8) (hg : g 14 i = some t) (kk : Ev E J cells slots (pc + 1) lv (.ref (wB E + t) :: st) f g w n) : Ev E J cells slots pc lv (.int x :: .ref (wB E + 14) :: st) f g w n := by
  intro p e s m args below meth c H locs ls C hS hV hl
  subst hx
  refine va_aldq (C := "RouteFrame$Route") C.1 C.2.1 C.2.2.2.2.2.2.2.2.1.1 hS 14 4 (by rw [mkW_at hn, wce_q rfl]; rfl) rfl (vp_in_nI (N := 8) hi (by omega)) hd ?_
  rw [nI_clamp (by omega), hg]
  exact kk p e s m args below meth c H locs ls C hS hV hl
theorem e_iast {k i : Nat} {x v : Int32} (hd : decode (mb J.1) pc = .ok (.iastore, 1)) (hk : kd k = 5) (hn : k < n) (hx : x = nI i) (hi : i < ln k) (kk : Ev E J cells slots (pc + 1) lv st (up2 f k i v) g w n) : Ev E J cells slots pc lv (.int v :: .int x :: .ref (wB E + k) :: st) f g w n := by
  intro p e s m args below meth c H locs ls C hS hV hl
  subst hx
  have h48 := ln_le k
  refine va_iast C.1 C.2.1 C.2.2.2.2.2.2.2.2.1.1 hS mkW_D hV k 0 (by rw [mkW_at hn, wce_i hk]) rfl (vp_in_nI hi (by omega)) hd (fun H1 locs1 hP1 _ hS1 => ?_)
  rw [nI_clamp (by omega), mkW_set (f' := up2 f k i v) (g' := g) (w' := w) (by rw [wce_i hk, up2_s]) (fun a ha => wce_f (up2_n ha))] at hP1
  exact kk p e s m args below meth c H1 locs1 ls C hP1 hS1 hl
theorem e_bast {k i : Nat} {x v : Int32} (hd : decode (mb J.1) pc = .ok (.bastore, 1)) (hk : kd k = 6) (hn : k < n) (hx : x = nI i) (hi : i < ln k) (hv : v = 0 ∨ v = 1) (kk : Ev E J cells slots (pc + 1) lv st (up2 f k i v) g w n) : Ev E J cells slots pc lv (.int v :: .int x :: .ref (wB E + k) :: st) f g w n := by
  intro p e s m args below meth c H locs ls C hS hV hl
  subst hx
  have h48 := ln_le k
  have hv2 : vp_nar .boolean v = v := by rcases hv with rfl | rfl <;> rfl
  refine va_zast C.1 C.2.1 C.2.2.2.2.2.2.2.2.1.1 hS mkW_D hV k 1 (by rw [mkW_at hn, wce_z hk]) rfl (vp_in_nI hi (by omega)) hd (fun H1 locs1 hP1 _ hS1 => ?_)
  rw [nI_clamp (by omega), hv2, mkW_set (f' := up2 f k i v) (g' := g) (w' := w) (by rw [wce_z hk, up2_s]) (fun a ha => wce_f (up2_n ha))] at hP1
  exact kk p e s m args below meth c H1 locs1 ls C hP1 hS1 hl
-- ends
section Ends9
variable {I : mI} {d mc ms n0 : Nat} {post : Option Value → wS → Prop} {px : String → wS → Prop}
theorem e_vret (hd : decode (mb I) pc = .ok (.return_, 1)) (hr : mr I = none) (hc : cells ≤ mc) (hs : slots ≤ ms) (hp : post none (f, g, w, n)) : Ev E (jm E I d mc ms n0 post px) cells slots pc lv [] f g w n := by
  intro p e s m args below meth c H locs ls C hS hV hl
  exact vx_ret (W.widen (k := mc) (n := ms) hc hs (W.vret C.1 C.2.1 (C.2.2.2.2.2.1.trans hr) (fun t ht hW => ⟨none, (f, g, w, n), rfl, hp, by rw [ht]; exact hS, hV.F ht⟩) hV.2.2 hd C.2.2.2.2.2.2.1))
theorem e_iret {x : Int32} (hd : decode (mb I) pc = .ok (.ireturn, 1)) (hr : mr I = some .int) (hc : cells ≤ mc) (hs : slots ≤ ms) (hp : post (some (.int x)) (f, g, w, n)) : Ev E (jm E I d mc ms n0 post px) cells slots pc lv [.int x] f g w n := by
  intro p e s m args below meth c H locs ls C hS hV hl
  exact vx_ret (W.widen (k := mc) (n := ms) hc hs (W.iret (v := x) C.1 C.2.1 (C.2.2.2.2.2.1.trans hr) (fun t ht hW => ⟨some (.int x), (f, g, w, n), rfl, hp, by rw [ht]; exact hS, hV.F ht⟩) hV.2.2 hd C.2.2.2.2.2.2.1))
theorem e_zret {x : Int32} (hd : decode (mb I) pc = .ok (.ireturn, 1)) (hr : mr I = some .boolean) (hx : x = 0 ∨ x = 1) (hc : cells ≤ mc) (hs : slots ≤ ms) (hp : post (some (.int x)) (f, g, w, n)) : Ev E (jm E I d mc ms n0 post px) cells slots pc lv [.int x] f g w n := by
  intro p e s m args below meth c H locs ls C hS hV hl
  exact vx_ret (W.widen (k := mc) (n := ms) hc hs (W.zret (v := x) C.1 C.2.1 (C.2.2.2.2.2.1.trans hr) (by rcases hx with rfl | rfl <;> rfl) (fun t ht hW => ⟨some (.int x), (f, g, w, n), rfl, hp, by rw [ht]; exact hS, hV.F ht⟩) hV.2.2 hd C.2.2.2.2.2.2.1))
theorem e_aret {k : Nat} {C9 : String} (hd : decode (mb I) pc = .ok (.areturn, 1)) (hr : mr I = some (.object C9)) (hc : cells ≤ mc) (hs : slots ≤ ms) (hp : post (some (.ref (wB E + k))) (f, g, w, n)) : Ev E (jm E I d mc ms n0 post px) cells slots pc lv [.ref (wB E + k)] f g w n := by
  intro p e s m args below meth c H locs ls C hS hV hl
  exact vx_ret (W.widen (k := mc) (n := ms) hc hs (W.aret (v := .ref (wB E + k)) C.1 C.2.1 (C.2.2.2.2.2.1.trans hr) (Or.inl ⟨_, rfl⟩) (Or.inr ⟨_, rfl⟩) (fun t ht hW => ⟨some (.ref (wB E + k)), (f, g, w, n), rfl, hp, by rw [ht]; exact hS, hV.F ht⟩) hV.2.2 hd C.2.2.2.2.2.2.1))
/-- an exception that is not caught here -/
theorem x_out {X : String} (hh : mh I = []) (hc : cells ≤ mc) (hs : slots ≤ ms) (hp : px X (f, g, w, n)) : Ex E (jm E I d mc ms n0 post px) cells slots pc lv st X f g w n := by
  intro p e s m args below meth c H locs ls q ce C hS hV hl h1 h2 h3
  refine vx_out (fun x hx => ?_) C.2.2.2.2.2.2.1 h1 h2 h3 (fun t ht hA => ⟨(f, g, w, n), hp, by rw [ht]; exact hS, hV.F ht⟩) hV.2.2 hc hs
  have h9 : c.exceptionTable.toList = tableOf (mh I) := C.2.2.2.2.2.2.2.1
  rw [h9, hh] at hx
  cases hx
end Ends9
-- calls
theorem pw_blind {E : wE} {As : List Value} {f : wF} {g : wG} {w : Int64} {n : Nat} : FrameBlind (Pw E As f g w n) := by
  intro a U fr mk h
  obtain ⟨h1, h2, h3, h4, h5⟩ := h
  exact ⟨h1, h2, Kx.to h3 (State.WarmedH.refl U) (fun _ _ _ => rfl), h4, h5⟩
theorem pw_at {E : wE} {J : jI} {p : Program} {s U : State} {m : MethodId} {args : Array Value} {meth : Method} {c : Code} {H : Heap} {locs : List Loc} {As : List Value} {f : wF} {g : wG} {w : Int64} {n : Nat}
    (C : Cx E J p s m args meth c) (hS : Sm E f g w n H) (hV : va_S (wA E) s.heap H locs) (hz : n < 57 → H.size = wB E + n) (hU : U.heap = H) (hW : s.WarmedH U.vm) : Pw E As f g w n As.toArray U := by
  refine ⟨rfl, by rw [hU]; exact hS, Kx.to C.2.2.2.2.2.2.2.2.1 hW (fun a ha hA => by rw [hU]; exact hV.2.1 a ha hA), ?_, by rw [hU]; exact hz⟩
  rw [hU]
  exact Nat.le_trans C.2.2.2.2.2.2.2.2.2.1 hV.1
theorem ws_pay {args : Array Value} {s : State} {w0 : Cond} (hts : ∀ w ∈ WS, w.before args s = true) (h0 : w0 ∈ WS) : ∀ w ∈ w0 :: WS, ∀ (a' : Array Value) (U : State), s.WarmedH U.vm → w.before a' U = true := by
  intro w hw a' U hW
  have hw2 : w ∈ WS := by
    rcases List.mem_cons.mp hw with rfl | h
    · exact h0
    · exact h
  exact word_at hW (good_of_word (ws_good hw2)) (hts w hw2)
/-- a call of a method without handlers, on an object of the world -/
theorem e_callV {I2 : mI} {d mc ms idx k ci np : Nat} {CN : String} {As rest st0 : List Value} {post : Option Value → wS → Prop} {px : String → wS → Prop} (hM : Ct E I2 d mc ms (.ref (wB E + k) :: As) f g w n post px)
    (hd : decode (mb J.1) pc = .ok (.invokevirtual idx, 3)) (hst : st0 = As.reverse ++ .ref (wB E + k) :: rest) (k1 : Cond.methodLink (mo J.1) idx (my I2) ∈ WS) (k2 : Cond.instanceMethod (my I2) ∈ WS) (k3 : Cond.selects CN (my I2) (my I2) ∈ WS) (k4 : Cond.initialized (my I2).cls ∈ WS) (k5 : cdW I2 ∈ WS)
    (hy : (my I2).cls ≠ "java/lang/invoke/MethodHandle" ∧ (my I2).cls ≠ "java/lang/invoke/VarHandle" ∧ (parseMethodDescriptor (my I2).desc).map (fun d => d.parameters.length) = some np) (hnp : As.length = np) (hk : kd k = ci) (hc4 : ci < 4) (hn : k < n) (hci : (wcl[ci]?).map (fun q => q.1) = some CN)
    (hr : (rest.map fun v => v.category).sum ≤ 8) (hR : d + 1 ≤ J.2.1.frames ∧ 8 + (mn I2 + 11) + 30 * d ≤ J.2.1.locals) (hf : cells + mc ≤ J.2.1.cells ∧ slots + ms ≤ J.2.1.slots) (hz : n < 57 → ∀ (s : State) (args : Array Value), J.2.2.2 args s → s.heap.size + cells = wB E + n)
    (kk : ∀ (v : Option Value) (u : wS), post v u → Ev E J (cells + mc) (slots + ms) (pc + 3) lv (v.toList ++ rest) u.1 u.2.1 u.2.2.1 u.2.2.2)
    (kx : ∀ (X : String) (u : wS), px X u → Ex E J (cells + mc) (slots + ms) pc lv rest X u.1 u.2.1 u.2.2.1 u.2.2.2) : Ev E J cells slots pc lv st0 f g w n := by
  intro p e s m args below meth c H locs ls C hS hV hl T hT X
  have hts := C.2.2.2.2.1
  have hB0 := C.2.2.2.2.2.2.2.2.2.1
  have hsz : n < 57 → H.size = wB E + n := fun h9 => by
    have h1 := X.heapSize
    rw [hT] at h1
    have h2 := hz h9 s args C.2.2.2.2.2.2.2.2.2.2.2
    have h3 := hS.size (Nat.le_trans hB0 hV.1)
    omega
  obtain ⟨q0, hq0, hq1⟩ : ∃ q0, wcl[ci]? = some q0 ∧ q0.1 = CN := by
    cases h9 : wcl[ci]? with
    | none => rw [h9] at hci; cases hci
    | some q0 => rw [h9] at hci; exact ⟨q0, rfl, Option.some.inj hci⟩
  have hrecv : ∃ cell : Cell, H[wB E + k]? = some cell ∧ cell.vm.isStatics = false ∧ s.vm.findClass CN = some cell.cls := by
    obtain ⟨cell, g1, g2, g3⟩ := va_recv (q0 := k) (fs := wfs E ci f g k) C.2.2.2.2.2.2.2.2.1.1 hS hq0 (by rw [mkW_at hn, wce_o hk hc4])
    exact ⟨cell, g1, g2, by rw [← hq1]; exact g3⟩
  have hlen : ∀ sig, parseMethodDescriptor (my I2).desc = some sig → np = sig.parameters.length := fun sig h => by
    have h2 := hy.2.2
    rw [h] at h2
    exact (Option.some.inj h2).symm
  have hrun := vx_runV (p := p) (e := e) (below := below) (meth := meth) (locs := locs) (cells := cells) (slots := slots) (R := J.2.1) (C := CN) (n := np) (bytes := mb I2) (maxL := mn I2) (ret := mr I2) (rest := rest) (g := F0 m pc ls st0) (index := idx)
    ⟨C.1, C.2.1, C.2.2.1, C.2.2.2.1, hts⟩ hM ⟨⟨rfl, rfl, hR.1, hR.2, ws_pay hts k5, List.mem_cons_self, hts _ k5, hts _ k4, ⟨hy.1, hy.2.1⟩, hlen, hts _ k1⟩, hts _ k2, hts _ k3⟩
    ⟨pw_blind, hrecv, fun U hU hW => pw_at C hS hV hsz hU hW⟩ rfl hnp (hl.1) hst (lv_room hr) hd hf
  rcases hrun T hT X with ⟨v, st₀, t, T', L, h0, X', hL, e1, e2, ⟨v2, u, hv, hp, hS2, hF⟩, stp⟩ | ⟨q, st₀, t, T', L, X9, ce, h0, X', hL, e1, e2, ⟨u, hp, hS2, hF⟩, hce, hcv, hcl, stp⟩
  · cases hv
    obtain ⟨-, -, hV2⟩ := vx_keep h0 e1 hV (fun _ _ h => h) (fun _ h => h) hL hF
    obtain ⟨t2, a1, b1⟩ := kk v u hp p e s m args below meth c T'.heap (locs ++ L) ls C (by rw [e1]; exact hS2) hV2 hl T' rfl X'
    exact ⟨t2, stp t2 a1, b1⟩
  · obtain ⟨-, -, hV2⟩ := vx_keep h0 e1 hV (fun _ _ h => h) (fun _ h => h) hL hF
    obtain ⟨t2, a1, b1⟩ := kx X9 u hp p e s m args below meth c T'.heap (locs ++ L) ls q ce C (by rw [e1]; exact hS2) hV2 hl (by rw [e1]; exact hce) hcv hcl T' rfl X'
    exact ⟨t2, stp.trans a1, b1⟩
end Rules9
