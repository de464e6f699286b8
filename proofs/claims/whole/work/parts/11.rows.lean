section Rows
variable {Γ : gS} {γ : mI} {d pc : Nat} {lv : List (Nat × Value)} {st : List Value} {h : aH} {r : Option Value} {h' : aH}
theorem x_iconst {n : Int} {v : Int32} (hd : decode γ.2.1 pc = .ok (.iconst n, 1)) (hv : Int32.ofInt n = v) (k : Ex Γ γ d (pc + 1) lv (.int v :: st) h r h') : Ex Γ γ d pc lv (st) h r h' := k.go fun hx hb _ w => lv_iconst hx hb hd hv w
theorem x_bipush {n : Int} {v : Int32} (hd : decode γ.2.1 pc = .ok (.bipush n, 2)) (hv : (Int8.ofInt n).toInt32 = v) (k : Ex Γ γ d (pc + 2) lv (.int v :: st) h r h') : Ex Γ γ d pc lv (st) h r h' := k.go fun hx hb _ w => lv_bipush hx hb hd hv w
theorem x_sipush {n : Int} {v : Int32} (hd : decode γ.2.1 pc = .ok (.sipush n, 3)) (hv : (Int16.ofInt n).toInt32 = v) (k : Ex Γ γ d (pc + 3) lv (.int v :: st) h r h') : Ex Γ γ d pc lv (st) h r h' := k.go fun hx hb _ w => lv_sipush hx hb hd hv w
theorem x_lconst {n : Fin 2} {v : Int64} (hd : decode γ.2.1 pc = .ok (.lconst n, 1)) (hv : Int64.ofNat (n : Nat) = v) (k : Ex Γ γ d (pc + 1) lv (.long v :: st) h r h') : Ex Γ γ d pc lv (st) h r h' := k.go fun hx hb _ w => lv_lconst hx hb hd hv w
theorem x_null  (hd : decode γ.2.1 pc = .ok (.aconst_null, 1)) (k : Ex Γ γ d (pc + 1) lv (.null :: st) h r h') : Ex Γ γ d pc lv (st) h r h' := k.go fun hx hb _ w => lv_null hx hb hd w
theorem x_iadd {x y : Int32} (hd : decode γ.2.1 pc = .ok (.iadd, 1)) (k : Ex Γ γ d (pc + 1) lv (.int (x + y) :: st) h r h') : Ex Γ γ d pc lv (.int y :: .int x :: st) h r h' := k.go fun hx hb _ w => lv_iadd hx hb hd w
theorem x_isub {x y : Int32} (hd : decode γ.2.1 pc = .ok (.isub, 1)) (k : Ex Γ γ d (pc + 1) lv (.int (x - y) :: st) h r h') : Ex Γ γ d pc lv (.int y :: .int x :: st) h r h' := k.go fun hx hb _ w => lv_isub hx hb hd w
theorem x_imul {x y : Int32} (hd : decode γ.2.1 pc = .ok (.imul, 1)) (k : Ex Γ γ d (pc + 1) lv (.int (x * y) :: st) h r h') : Ex Γ γ d pc lv (.int y :: .int x :: st) h r h' := k.go fun hx hb _ w => lv_imul hx hb hd w
theorem x_iand {x y : Int32} (hd : decode γ.2.1 pc = .ok (.iand, 1)) (k : Ex Γ γ d (pc + 1) lv (.int (x &&& y) :: st) h r h') : Ex Γ γ d pc lv (.int y :: .int x :: st) h r h' := k.go fun hx hb _ w => lv_iand hx hb hd w
theorem x_ior {x y : Int32} (hd : decode γ.2.1 pc = .ok (.ior, 1)) (k : Ex Γ γ d (pc + 1) lv (.int (x ||| y) :: st) h r h') : Ex Γ γ d pc lv (.int y :: .int x :: st) h r h' := k.go fun hx hb _ w => lv_ior hx hb hd w
theorem x_ixor {x y : Int32} (hd : decode γ.2.1 pc = .ok (.ixor, 1)) (k : Ex Γ γ d (pc + 1) lv (.int (x ^^^ y) :: st) h r h') : Ex Γ γ d pc lv (.int y :: .int x :: st) h r h' := k.go fun hx hb _ w => lv_ixor hx hb hd w
theorem x_ineg {x : Int32} (hd : decode γ.2.1 pc = .ok (.ineg, 1)) (k : Ex Γ γ d (pc + 1) lv (.int (-x) :: st) h r h') : Ex Γ γ d pc lv (.int x :: st) h r h' := k.go fun hx hb _ w => lv_ineg hx hb hd w
theorem x_idiv {x y : Int32} (hd : decode γ.2.1 pc = .ok (.idiv, 1)) (hne : ¬ y = 0) (k : Ex Γ γ d (pc + 1) lv (.int (x / y) :: st) h r h') : Ex Γ γ d pc lv (.int y :: .int x :: st) h r h' := k.go fun hx hb _ w => lv_idiv hx hb hd hne w
theorem x_irem {x y : Int32} (hd : decode γ.2.1 pc = .ok (.irem, 1)) (hne : ¬ y = 0) (k : Ex Γ γ d (pc + 1) lv (.int (x - x / y * y) :: st) h r h') : Ex Γ γ d pc lv (.int y :: .int x :: st) h r h' := k.go fun hx hb _ w => lv_irem hx hb hd hne w
theorem x_ladd {x y : Int64} (hd : decode γ.2.1 pc = .ok (.ladd, 1)) (k : Ex Γ γ d (pc + 1) lv (.long (x + y) :: st) h r h') : Ex Γ γ d pc lv (.long y :: .long x :: st) h r h' := k.go fun hx hb _ w => lv_ladd hx hb hd w
theorem x_lsub {x y : Int64} (hd : decode γ.2.1 pc = .ok (.lsub, 1)) (k : Ex Γ γ d (pc + 1) lv (.long (x - y) :: st) h r h') : Ex Γ γ d pc lv (.long y :: .long x :: st) h r h' := k.go fun hx hb _ w => lv_lsub hx hb hd w
theorem x_lmul {x y : Int64} (hd : decode γ.2.1 pc = .ok (.lmul, 1)) (k : Ex Γ γ d (pc + 1) lv (.long (x * y) :: st) h r h') : Ex Γ γ d pc lv (.long y :: .long x :: st) h r h' := k.go fun hx hb _ w => lv_lmul hx hb hd w
theorem x_land {x y : Int64} (hd : decode γ.2.1 pc = .ok (.land, 1)) (k : Ex Γ γ d (pc + 1) lv (.long (x &&& y) :: st) h r h') : Ex Γ γ d pc lv (.long y :: .long x :: st) h r h' := k.go fun hx hb _ w => lv_land hx hb hd w
theorem x_lor {x y : Int64} (hd : decode γ.2.1 pc = .ok (.lor, 1)) (k : Ex Γ γ d (pc + 1) lv (.long (x ||| y) :: st) h r h') : Ex Γ γ d pc lv (.long y :: .long x :: st) h r h' := k.go fun hx hb _ w => lv_lor hx hb hd w
theorem x_ldiv {x y : Int64} (hd : decode γ.2.1 pc = .ok (.ldiv, 1)) (hne : ¬ y = 0) (k : Ex Γ γ d (pc + 1) lv (.long (x / y) :: st) h r h') : Ex Γ γ d pc lv (.long y :: .long x :: st) h r h' := k.go fun hx hb _ w => lv_ldiv hx hb hd hne w
theorem x_lrem {x y : Int64} (hd : decode γ.2.1 pc = .ok (.lrem, 1)) (hne : ¬ y = 0) (k : Ex Γ γ d (pc + 1) lv (.long (x - x / y * y) :: st) h r h') : Ex Γ γ d pc lv (.long y :: .long x :: st) h r h' := k.go fun hx hb _ w => lv_lrem hx hb hd hne w
theorem x_ishl {x y : Int32} (hd : decode γ.2.1 pc = .ok (.ishl, 1)) (k : Ex Γ γ d (pc + 1) lv (.int (x <<< (y &&& 31)) :: st) h r h') : Ex Γ γ d pc lv (.int y :: .int x :: st) h r h' := k.go fun hx hb _ w => lv_ishl hx hb hd w
theorem x_ishr {x y : Int32} (hd : decode γ.2.1 pc = .ok (.ishr, 1)) (k : Ex Γ γ d (pc + 1) lv (.int (x >>> (y &&& 31)) :: st) h r h') : Ex Γ γ d pc lv (.int y :: .int x :: st) h r h' := k.go fun hx hb _ w => lv_ishr hx hb hd w
theorem x_lshr {x : Int64} {y : Int32} (hd : decode γ.2.1 pc = .ok (.lshr, 1)) (k : Ex Γ γ d (pc + 1) lv (.long (x >>> (y.toInt64 &&& 63)) :: st) h r h') : Ex Γ γ d pc lv (.int y :: .long x :: st) h r h' := k.go fun hx hb _ w => lv_lshr hx hb hd rfl w
theorem x_i2l {x : Int32} (hd : decode γ.2.1 pc = .ok (.i2l, 1)) (k : Ex Γ γ d (pc + 1) lv (.long x.toInt64 :: st) h r h') : Ex Γ γ d pc lv (.int x :: st) h r h' := k.go fun hx hb _ w => lv_i2l hx hb hd rfl w
theorem x_l2i {x : Int64} (hd : decode γ.2.1 pc = .ok (.l2i, 1)) (k : Ex Γ γ d (pc + 1) lv (.int x.toInt32 :: st) h r h') : Ex Γ γ d pc lv (.long x :: st) h r h' := k.go fun hx hb _ w => lv_l2i hx hb hd rfl w
theorem x_i2b {x : Int32} (hd : decode γ.2.1 pc = .ok (.i2b, 1)) (k : Ex Γ γ d (pc + 1) lv (.int x.toInt8.toInt32 :: st) h r h') : Ex Γ γ d pc lv (.int x :: st) h r h' := k.go fun hx hb _ w => lv_i2b hx hb hd rfl w
theorem x_i2c {x : Int32} (hd : decode γ.2.1 pc = .ok (.i2c, 1)) (k : Ex Γ γ d (pc + 1) lv (.int (x.toUInt32 % 65536).toInt32 :: st) h r h') : Ex Γ γ d pc lv (.int x :: st) h r h' := k.go fun hx hb _ w => lv_i2c hx hb hd rfl w
theorem x_dup {v : Value} (hd : decode γ.2.1 pc = .ok (.dup, 1)) (hv : v.category = 1) (k : Ex Γ γ d (pc + 1) lv (v :: v :: st) h r h') : Ex Γ γ d pc lv (v :: st) h r h' := k.go fun hx hb _ w => lv_dup hx hb hd hv w
theorem x_pop {v : Value} (hd : decode γ.2.1 pc = .ok (.pop, 1)) (hv : v.category = 1) (k : Ex Γ γ d (pc + 1) lv (st) h r h') : Ex Γ γ d pc lv (v :: st) h r h' := k.go fun hx hb _ w => lv_pop hx hb hd hv w
theorem x_dup2 {v u : Value} (hd : decode γ.2.1 pc = .ok (.dup2, 1)) (hv : v.category = 1) (hu : u.category = 1) (k : Ex Γ γ d (pc + 1) lv (v :: u :: v :: u :: st) h r h') : Ex Γ γ d pc lv (v :: u :: st) h r h' := k.go fun hx hb _ w => lv_dup2_11 hx hb hd hv hu w
theorem x_dup2_2 {v : Value} (hd : decode γ.2.1 pc = .ok (.dup2, 1)) (hv : v.category = 2) (k : Ex Γ γ d (pc + 1) lv (v :: v :: st) h r h') : Ex Γ γ d pc lv (v :: st) h r h' := k.go fun hx hb _ w => lv_dup2_2 hx hb hd hv w
theorem x_lcmp {x y : Int64} (hd : decode γ.2.1 pc = .ok (.lcmp, 1)) (k : Ex Γ γ d (pc + 1) lv (.int (lg_cmp x y) :: st) h r h') : Ex Γ γ d pc lv (.long y :: .long x :: st) h r h' := k.go fun hx hb _ w => W.lcmp hx hb hd w
theorem x_iload_n {k : Fin 4} {i : Nat} {x : Int32} (hd : decode γ.2.1 pc = .ok (.iload_n k, 1)) (hi : (k : Nat) = i) (q : Nat) (hq : lv[q]? = some (i, .int x)) (k : Ex Γ γ d (pc + 1) lv (.int x :: st) h r h') : Ex Γ γ d pc lv st h r h' := k.go fun hx hb hl w => lv_iload_n hx hb hd hi (lv_at hl q hq) w
theorem x_iload {i : Nat} {x : Int32} (hd : decode γ.2.1 pc = .ok (.iload i, 2)) (q : Nat) (hq : lv[q]? = some (i, .int x)) (k : Ex Γ γ d (pc + 2) lv (.int x :: st) h r h') : Ex Γ γ d pc lv st h r h' := k.go fun hx hb hl w => lv_iload hx hb hd (lv_at hl q hq) w
theorem x_istore_n {k : Fin 4} {i : Nat} {x y : Int32} {lv' : List (Nat × Value)} (hd : decode γ.2.1 pc = .ok (.istore_n k, 1)) (hi : (k : Nat) = i) (hn : i < γ.2.2.1) (e : x = y) (hl : (i, Value.int y) :: lv.filter (fun q => !(q.1 == i) && !(q.1 + 1 == i && q.2.category == 2)) = lv') (k : Ex Γ γ d (pc + 1) lv' st h r h') : Ex Γ γ d pc lv (.int x :: st) h r h' := by
  subst e
  exact k.goL fun hx hb hh w => lv_istore_n hx hb hd hi hh hn hl w
theorem x_istore {i : Nat} {x y : Int32} {lv' : List (Nat × Value)} (hd : decode γ.2.1 pc = .ok (.istore i, 2)) (hn : i < γ.2.2.1) (e : x = y) (hl : (i, Value.int y) :: lv.filter (fun q => !(q.1 == i) && !(q.1 + 1 == i && q.2.category == 2)) = lv') (k : Ex Γ γ d (pc + 2) lv' st h r h') : Ex Γ γ d pc lv (.int x :: st) h r h' := by
  subst e
  exact k.goL fun hx hb hh w => lv_istore hx hb hd hh hn hl w
theorem x_lload_n {k : Fin 4} {i : Nat} {x : Int64} (hd : decode γ.2.1 pc = .ok (.lload_n k, 1)) (hi : (k : Nat) = i) (q : Nat) (hq : lv[q]? = some (i, .long x)) (k : Ex Γ γ d (pc + 1) lv (.long x :: st) h r h') : Ex Γ γ d pc lv st h r h' := k.go fun hx hb hl w => lv_lload_n hx hb hd hi (lv_at hl q hq) w
theorem x_lload {i : Nat} {x : Int64} (hd : decode γ.2.1 pc = .ok (.lload i, 2)) (q : Nat) (hq : lv[q]? = some (i, .long x)) (k : Ex Γ γ d (pc + 2) lv (.long x :: st) h r h') : Ex Γ γ d pc lv st h r h' := k.go fun hx hb hl w => lv_lload hx hb hd (lv_at hl q hq) w
theorem x_lstore_n {k : Fin 4} {i : Nat} {x y : Int64} {lv' : List (Nat × Value)} (hd : decode γ.2.1 pc = .ok (.lstore_n k, 1)) (hi : (k : Nat) = i) (hn : i + 1 < γ.2.2.1) (e : x = y) (hl : (i, Value.long y) :: lv.filter (fun q => !(q.1 == i) && (!(q.1 == i + 1) && !(q.1 + 1 == i && q.2.category == 2))) = lv') (k : Ex Γ γ d (pc + 1) lv' st h r h') : Ex Γ γ d pc lv (.long x :: st) h r h' := by
  subst e
  exact k.goL fun hx hb hh w => lv_lstore_n hx hb hd hi hh hn hl w
theorem x_lstore {i : Nat} {x y : Int64} {lv' : List (Nat × Value)} (hd : decode γ.2.1 pc = .ok (.lstore i, 2)) (hn : i + 1 < γ.2.2.1) (e : x = y) (hl : (i, Value.long y) :: lv.filter (fun q => !(q.1 == i) && (!(q.1 == i + 1) && !(q.1 + 1 == i && q.2.category == 2))) = lv') (k : Ex Γ γ d (pc + 2) lv' st h r h') : Ex Γ γ d pc lv (.long x :: st) h r h' := by
  subst e
  exact k.goL fun hx hb hh w => lv_lstore hx hb hd hh hn hl w
theorem x_aload_n {k : Fin 4} {i : Nat} {x : Nat} (hd : decode γ.2.1 pc = .ok (.aload_n k, 1)) (hi : (k : Nat) = i) (q : Nat) (hq : lv[q]? = some (i, .ref x)) (k : Ex Γ γ d (pc + 1) lv (.ref x :: st) h r h') : Ex Γ γ d pc lv st h r h' := k.go fun hx hb hl w => lv_aload_n hx hb hd hi (lv_at hl q hq) w
theorem x_aload {i : Nat} {x : Nat} (hd : decode γ.2.1 pc = .ok (.aload i, 2)) (q : Nat) (hq : lv[q]? = some (i, .ref x)) (k : Ex Γ γ d (pc + 2) lv (.ref x :: st) h r h') : Ex Γ γ d pc lv st h r h' := k.go fun hx hb hl w => lv_aload hx hb hd (lv_at hl q hq) w
theorem x_astore_n {k : Fin 4} {i : Nat} {x y : Nat} {lv' : List (Nat × Value)} (hd : decode γ.2.1 pc = .ok (.astore_n k, 1)) (hi : (k : Nat) = i) (hn : i < γ.2.2.1) (e : x = y) (hl : (i, Value.ref y) :: lv.filter (fun q => !(q.1 == i) && !(q.1 + 1 == i && q.2.category == 2)) = lv') (k : Ex Γ γ d (pc + 1) lv' st h r h') : Ex Γ γ d pc lv (.ref x :: st) h r h' := by
  subst e
  exact k.goL fun hx hb hh w => lv_astore_n hx hb hd hi hh hn hl w
theorem x_astore {i : Nat} {x y : Nat} {lv' : List (Nat × Value)} (hd : decode γ.2.1 pc = .ok (.astore i, 2)) (hn : i < γ.2.2.1) (e : x = y) (hl : (i, Value.ref y) :: lv.filter (fun q => !(q.1 == i) && !(q.1 + 1 == i && q.2.category == 2)) = lv') (k : Ex Γ γ d (pc + 2) lv' st h r h') : Ex Γ γ d pc lv (.ref x :: st) h r h' := by
  subst e
  exact k.goL fun hx hb hh w => lv_astore hx hb hd hh hn hl w
theorem x_iinc {i : Nat} {n : Int} {x v : Int32} {lv' : List (Nat × Value)} (hd : decode γ.2.1 pc = .ok (.iinc i n, 3)) (q : Nat) (hq : lv[q]? = some (i, .int x)) (hn : i < γ.2.2.1) (hv : x + Int32.ofInt n = v) (hl : (i, Value.int v) :: lv.filter (fun q => !(q.1 == i) && !(q.1 + 1 == i && q.2.category == 2)) = lv') (k : Ex Γ γ d (pc + 3) lv' st h r h') : Ex Γ γ d pc lv st h r h' := k.goL fun hx hb hh w => lv_iinc hx hb hd hh hq hv hn hl w
theorem x_goto {off : Int} {tgt : Nat} (hd : decode γ.2.1 pc = .ok (.goto off, 3)) (ht : (pc : Int) + off = (tgt : Int)) (k : Ex Γ γ d tgt lv st h r h') : Ex Γ γ d pc lv st h r h' := k.go fun hx hb _ w => lv_goto hx hb hd ht w
theorem x_if_eq {x : Int32} {off : Int} {tgt : Nat} (hd : decode γ.2.1 pc = .ok (.ifCond .eq off, 3)) (ht : (pc : Int) + off = (tgt : Int)) (kt : x = 0 → Ex Γ γ d tgt lv st h r h') (kf : ¬ x = 0 → Ex Γ γ d (pc + 3) lv st h r h') : Ex Γ γ d pc lv (.int x :: st) h r h' := by
  by_cases hc : x = 0
  · exact (kt hc).go fun hx hb _ w => lv_if_eq hx hb hd ht (fun _ => w) (fun q => absurd hc q)
  · exact (kf hc).go fun hx hb _ w => lv_if_eq hx hb hd ht (fun q => absurd q hc) (fun _ => w)
theorem x_icmp_eq {x y : Int32} {off : Int} {tgt : Nat} (hd : decode γ.2.1 pc = .ok (.if_icmp .eq off, 3)) (ht : (pc : Int) + off = (tgt : Int)) (kt : x = y → Ex Γ γ d tgt lv st h r h') (kf : ¬ x = y → Ex Γ γ d (pc + 3) lv st h r h') : Ex Γ γ d pc lv (.int y :: .int x :: st) h r h' := by
  by_cases hc : x = y
  · exact (kt hc).go fun hx hb _ w => lv_icmp_eq hx hb hd ht (fun _ => w) (fun q => absurd hc q)
  · exact (kf hc).go fun hx hb _ w => lv_icmp_eq hx hb hd ht (fun q => absurd q hc) (fun _ => w)
theorem x_if_ne {x : Int32} {off : Int} {tgt : Nat} (hd : decode γ.2.1 pc = .ok (.ifCond .ne off, 3)) (ht : (pc : Int) + off = (tgt : Int)) (kt : ¬ x = 0 → Ex Γ γ d tgt lv st h r h') (kf : x = 0 → Ex Γ γ d (pc + 3) lv st h r h') : Ex Γ γ d pc lv (.int x :: st) h r h' := by
  by_cases hc : x = 0
  · exact (kf hc).go fun hx hb _ w => lv_if_ne hx hb hd ht (fun q => absurd hc q) (fun _ => w)
  · exact (kt hc).go fun hx hb _ w => lv_if_ne hx hb hd ht (fun _ => w) (fun q => absurd q hc)
theorem x_icmp_ne {x y : Int32} {off : Int} {tgt : Nat} (hd : decode γ.2.1 pc = .ok (.if_icmp .ne off, 3)) (ht : (pc : Int) + off = (tgt : Int)) (kt : ¬ x = y → Ex Γ γ d tgt lv st h r h') (kf : x = y → Ex Γ γ d (pc + 3) lv st h r h') : Ex Γ γ d pc lv (.int y :: .int x :: st) h r h' := by
  by_cases hc : x = y
  · exact (kf hc).go fun hx hb _ w => lv_icmp_ne hx hb hd ht (fun q => absurd hc q) (fun _ => w)
  · exact (kt hc).go fun hx hb _ w => lv_icmp_ne hx hb hd ht (fun _ => w) (fun q => absurd q hc)
theorem x_if_lt {x : Int32} {off : Int} {tgt : Nat} (hd : decode γ.2.1 pc = .ok (.ifCond .lt off, 3)) (ht : (pc : Int) + off = (tgt : Int)) (kt : x < 0 → Ex Γ γ d tgt lv st h r h') (kf : ¬ x < 0 → Ex Γ γ d (pc + 3) lv st h r h') : Ex Γ γ d pc lv (.int x :: st) h r h' := by
  by_cases hc : x < 0
  · exact (kt hc).go fun hx hb _ w => lv_if_lt hx hb hd ht (fun _ => w) (fun q => absurd hc q)
  · exact (kf hc).go fun hx hb _ w => lv_if_lt hx hb hd ht (fun q => absurd q hc) (fun _ => w)
theorem x_icmp_lt {x y : Int32} {off : Int} {tgt : Nat} (hd : decode γ.2.1 pc = .ok (.if_icmp .lt off, 3)) (ht : (pc : Int) + off = (tgt : Int)) (kt : x < y → Ex Γ γ d tgt lv st h r h') (kf : ¬ x < y → Ex Γ γ d (pc + 3) lv st h r h') : Ex Γ γ d pc lv (.int y :: .int x :: st) h r h' := by
  by_cases hc : x < y
  · exact (kt hc).go fun hx hb _ w => lv_icmp_lt hx hb hd ht (fun _ => w) (fun q => absurd hc q)
  · exact (kf hc).go fun hx hb _ w => lv_icmp_lt hx hb hd ht (fun q => absurd q hc) (fun _ => w)
theorem x_if_ge {x : Int32} {off : Int} {tgt : Nat} (hd : decode γ.2.1 pc = .ok (.ifCond .ge off, 3)) (ht : (pc : Int) + off = (tgt : Int)) (kt : 0 ≤ x → Ex Γ γ d tgt lv st h r h') (kf : ¬ 0 ≤ x → Ex Γ γ d (pc + 3) lv st h r h') : Ex Γ γ d pc lv (.int x :: st) h r h' := by
  by_cases hc : 0 ≤ x
  · exact (kt hc).go fun hx hb _ w => lv_if_ge hx hb hd ht (fun _ => w) (fun q => absurd hc q)
  · exact (kf hc).go fun hx hb _ w => lv_if_ge hx hb hd ht (fun q => absurd q hc) (fun _ => w)
theorem x_icmp_ge {x y : Int32} {off : Int} {tgt : Nat} (hd : decode γ.2.1 pc = .ok (.if_icmp .ge off, 3)) (ht : (pc : Int) + off = (tgt : Int)) (kt : y ≤ x → Ex Γ γ d tgt lv st h r h') (kf : ¬ y ≤ x → Ex Γ γ d (pc + 3) lv st h r h') : Ex Γ γ d pc lv (.int y :: .int x :: st) h r h' := by
  by_cases hc : y ≤ x
  · exact (kt hc).go fun hx hb _ w => lv_icmp_ge hx hb hd ht (fun _ => w) (fun q => absurd hc q)
  · exact (kf hc).go fun hx hb _ w => lv_icmp_ge hx hb hd ht (fun q => absurd q hc) (fun _ => w)
theorem x_if_gt {x : Int32} {off : Int} {tgt : Nat} (hd : decode γ.2.1 pc = .ok (.ifCond .gt off, 3)) (ht : (pc : Int) + off = (tgt : Int)) (kt : 0 < x → Ex Γ γ d tgt lv st h r h') (kf : ¬ 0 < x → Ex Γ γ d (pc + 3) lv st h r h') : Ex Γ γ d pc lv (.int x :: st) h r h' := by
  by_cases hc : 0 < x
  · exact (kt hc).go fun hx hb _ w => lv_if_gt hx hb hd ht (fun _ => w) (fun q => absurd hc q)
  · exact (kf hc).go fun hx hb _ w => lv_if_gt hx hb hd ht (fun q => absurd q hc) (fun _ => w)
theorem x_icmp_gt {x y : Int32} {off : Int} {tgt : Nat} (hd : decode γ.2.1 pc = .ok (.if_icmp .gt off, 3)) (ht : (pc : Int) + off = (tgt : Int)) (kt : y < x → Ex Γ γ d tgt lv st h r h') (kf : ¬ y < x → Ex Γ γ d (pc + 3) lv st h r h') : Ex Γ γ d pc lv (.int y :: .int x :: st) h r h' := by
  by_cases hc : y < x
  · exact (kt hc).go fun hx hb _ w => lv_icmp_gt hx hb hd ht (fun _ => w) (fun q => absurd hc q)
  · exact (kf hc).go fun hx hb _ w => lv_icmp_gt hx hb hd ht (fun q => absurd q hc) (fun _ => w)
theorem x_if_le {x : Int32} {off : Int} {tgt : Nat} (hd : decode γ.2.1 pc = .ok (.ifCond .le off, 3)) (ht : (pc : Int) + off = (tgt : Int)) (kt : x ≤ 0 → Ex Γ γ d tgt lv st h r h') (kf : ¬ x ≤ 0 → Ex Γ γ d (pc + 3) lv st h r h') : Ex Γ γ d pc lv (.int x :: st) h r h' := by
  by_cases hc : x ≤ 0
  · exact (kt hc).go fun hx hb _ w => lv_if_le hx hb hd ht (fun _ => w) (fun q => absurd hc q)
  · exact (kf hc).go fun hx hb _ w => lv_if_le hx hb hd ht (fun q => absurd q hc) (fun _ => w)
theorem x_icmp_le {x y : Int32} {off : Int} {tgt : Nat} (hd : decode γ.2.1 pc = .ok (.if_icmp .le off, 3)) (ht : (pc : Int) + off = (tgt : Int)) (kt : x ≤ y → Ex Γ γ d tgt lv st h r h') (kf : ¬ x ≤ y → Ex Γ γ d (pc + 3) lv st h r h') : Ex Γ γ d pc lv (.int y :: .int x :: st) h r h' := by
  by_cases hc : x ≤ y
  · exact (kt hc).go fun hx hb _ w => lv_icmp_le hx hb hd ht (fun _ => w) (fun q => absurd hc q)
  · exact (kf hc).go fun hx hb _ w => lv_icmp_le hx hb hd ht (fun q => absurd q hc) (fun _ => w)
theorem x_tableOut {dflt lo hi : Int} {offs : Array Int} {len : Nat} {x : Int32} {tgt : Nat} (hd : decode γ.2.1 pc = .ok (.tableswitch dflt lo hi offs, len)) (c : x.toInt < lo ∨ hi < x.toInt) (ht : (pc : Int) + dflt = (tgt : Int)) (k : Ex Γ γ d tgt lv st h r h') : Ex Γ γ d pc lv (.int x :: st) h r h' := k.go fun hx hb _ w => lv_tableOut hx hb hd c ht w
theorem x_tableIn {dflt lo hi : Int} {offs : Array Int} {len : Nat} {x : Int32} {off : Int} {tgt : Nat} (hd : decode γ.2.1 pc = .ok (.tableswitch dflt lo hi offs, len)) (h1 : ¬ x.toInt < lo) (h2 : ¬ hi < x.toInt) (ho : offs[(x.toInt - lo).toNat]? = some off) (ht : (pc : Int) + off = (tgt : Int)) (k : Ex Γ γ d tgt lv st h r h') : Ex Γ γ d pc lv (.int x :: st) h r h' := k.go fun hx hb _ w => lv_tableIn hx hb hd h1 h2 ho ht w
theorem x_lookup {dflt : Int} {ps : Array (Int × Int)} {len : Nat} {x : Int32} {off : Int} {tgt : Nat} (hd : decode γ.2.1 pc = .ok (.lookupswitch dflt ps, len)) (hp : (ps.toList.zip (ps.toList.drop 1)).all (fun (a, next) => a.1 < next.1) = true) (ho : Op.lookupswitch.offset ps.toList dflt x.toInt = off) (ht : (pc : Int) + off = (tgt : Int)) (k : Ex Γ γ d tgt lv st h r h') : Ex Γ γ d pc lv (.int x :: st) h r h' := k.go fun hx hb _ w => lv_lookup hx hb hd hp ho ht w
theorem x_ifnull {x : Nat} {off : Int} (hd : decode γ.2.1 pc = .ok (.ifnull off, 3)) (k : Ex Γ γ d (pc + 3) lv st h r h') : Ex Γ γ d pc lv (.ref x :: st) h r h' := k.go fun hx hb _ w => lv_ifnull hx hb hd w
theorem x_ifnullN {off : Int} {tgt : Nat} (hd : decode γ.2.1 pc = .ok (.ifnull off, 3)) (ht : (pc : Int) + off = (tgt : Int)) (k : Ex Γ γ d tgt lv st h r h') : Ex Γ γ d pc lv (.null :: st) h r h' := k.go fun hx hb _ w => lv_ifnullN hx hb hd ht w
theorem x_ifnonnull {x : Nat} {off : Int} {tgt : Nat} (hd : decode γ.2.1 pc = .ok (.ifnonnull off, 3)) (ht : (pc : Int) + off = (tgt : Int)) (k : Ex Γ γ d tgt lv st h r h') : Ex Γ γ d pc lv (.ref x :: st) h r h' := k.go fun hx hb _ w => lv_ifnonnull hx hb hd ht w
theorem x_ifnonnullN {off : Int} (hd : decode γ.2.1 pc = .ok (.ifnonnull off, 3)) (k : Ex Γ γ d (pc + 3) lv st h r h') : Ex Γ γ d pc lv (.null :: st) h r h' := k.go fun hx hb _ w => lv_ifnonnullN hx hb hd w
theorem x_ldc {idx : Nat} {v : Int32} (hc : Cond.constant γ.1.cls idx v ∈ GW) (hd : decode γ.2.1 pc = .ok (.ldc idx, 2)) (k : Ex Γ γ d (pc + 2) lv (.int v :: st) h r h') : Ex Γ γ d pc lv st h r h' := ⟨k.1, fun p e R s m args below meth c H locs cells slots ls C hH hL hl e1 e2 => lv_ldc C.1 C.2.1 C.2.2.2.1 (C.2.2.2.2.1 _ hc) hd (k.2 p e R s m args below meth c H locs cells slots ls C hH hL hl e1 e2)⟩
theorem x_ldc2 {idx : Nat} {v : Int64} (hc : Cond.constantLong γ.1.cls idx v ∈ GW) (hd : decode γ.2.1 pc = .ok (.ldc2_w idx, 3)) (k : Ex Γ γ d (pc + 3) lv (.long v :: st) h r h') : Ex Γ γ d pc lv st h r h' := ⟨k.1, fun p e R s m args below meth c H locs cells slots ls C hH hL hl e1 e2 => lv_ldc2 C.1 C.2.1 C.2.2.2.1 (C.2.2.2.2.1 _ hc) hd (k.2 p e R s m args below meth c H locs cells slots ls C hH hL hl e1 e2)⟩
end Rows
