section ROWS
variable {a : Am} {d : Nat} {M : Mt} {pc : Nat} {lv : List (Nat × Value)} {st : List Value} {S : St} {h : Hp} {post : Option Value → St → Hp → Prop}
theorem tr_iconst {n : Int} {v : Int32} (hd : decode M.2.1 pc = .ok (.iconst n, 1)) (hv : Int32.ofInt n = v) (k : T a d M (pc + 1) lv (.int v :: st) S h post) : T a d M pc lv st S h post := t_go (fun p l e R s m args below meth c H locs cells slots ls Q hF hd1 hd2 hc1 hc2 hl hP hS K => lv_iconst hF.1 hF.2.1 hd hv K) k
theorem tr_bipush {n : Int} {v : Int32} (hd : decode M.2.1 pc = .ok (.bipush n, 2)) (hv : (Int8.ofInt n).toInt32 = v) (k : T a d M (pc + 2) lv (.int v :: st) S h post) : T a d M pc lv st S h post := t_go (fun p l e R s m args below meth c H locs cells slots ls Q hF hd1 hd2 hc1 hc2 hl hP hS K => lv_bipush hF.1 hF.2.1 hd hv K) k
theorem tr_sipush {n : Int} {v : Int32} (hd : decode M.2.1 pc = .ok (.sipush n, 3)) (hv : (Int16.ofInt n).toInt32 = v) (k : T a d M (pc + 3) lv (.int v :: st) S h post) : T a d M pc lv st S h post := t_go (fun p l e R s m args below meth c H locs cells slots ls Q hF hd1 hd2 hc1 hc2 hl hP hS K => lv_sipush hF.1 hF.2.1 hd hv K) k
theorem tr_ldc2 {idx : Nat} {v : Int64} (hd : decode M.2.1 pc = .ok (.ldc2_w idx, 3)) (hw : Cond.constantLong M.1.cls idx v ∈ gtbl) (k : T a d M (pc + 3) lv (.long v :: st) S h post) : T a d M pc lv st S h post := t_go (fun p l e R s m args below meth c H locs cells slots ls Q hF hd1 hd2 hc1 hc2 hl hP hS K => lv_ldc2 hF.1 hF.2.1 hF.2.2.2.1 (hF.2.2.2.2.1 _ hw) hd K) k
theorem tr_iload_n {f : Fin 4} {i : Nat} {x : Int32} (q : Nat) (hd : decode M.2.1 pc = .ok (.iload_n f, 1)) (hi : (f : Nat) = i) (hq : lv[q]? = some (i, .int x)) (k : T a d M (pc + 1) lv (.int x :: st) S h post) : T a d M pc lv st S h post := t_go (fun p l e R s m args below meth c H locs cells slots ls Q hF hd1 hd2 hc1 hc2 hl hP hS K => lv_iload_n hF.1 hF.2.1 hd hi (lv_at hl q hq) K) k
theorem tr_iload {i : Nat} {x : Int32} (q : Nat) (hd : decode M.2.1 pc = .ok (.iload i, 2)) (hq : lv[q]? = some (i, .int x)) (k : T a d M (pc + 2) lv (.int x :: st) S h post) : T a d M pc lv st S h post := t_go (fun p l e R s m args below meth c H locs cells slots ls Q hF hd1 hd2 hc1 hc2 hl hP hS K => lv_iload hF.1 hF.2.1 hd (lv_at hl q hq) K) k
theorem tr_lload_n {f : Fin 4} {i : Nat} {x : Int64} (q : Nat) (hd : decode M.2.1 pc = .ok (.lload_n f, 1)) (hi : (f : Nat) = i) (hq : lv[q]? = some (i, .long x)) (k : T a d M (pc + 1) lv (.long x :: st) S h post) : T a d M pc lv st S h post := t_go (fun p l e R s m args below meth c H locs cells slots ls Q hF hd1 hd2 hc1 hc2 hl hP hS K => lv_lload_n hF.1 hF.2.1 hd hi (lv_at hl q hq) K) k
theorem tr_lload {i : Nat} {x : Int64} (q : Nat) (hd : decode M.2.1 pc = .ok (.lload i, 2)) (hq : lv[q]? = some (i, .long x)) (k : T a d M (pc + 2) lv (.long x :: st) S h post) : T a d M pc lv st S h post := t_go (fun p l e R s m args below meth c H locs cells slots ls Q hF hd1 hd2 hc1 hc2 hl hP hS K => lv_lload hF.1 hF.2.1 hd (lv_at hl q hq) K) k
theorem tr_aload_n {f : Fin 4} {i o : Nat} (q : Nat) (hd : decode M.2.1 pc = .ok (.aload_n f, 1)) (hi : (f : Nat) = i) (hq : lv[q]? = some (i, rv a o)) (k : T a d M (pc + 1) lv (rv a o :: st) S h post) : T a d M pc lv st S h post := t_go (fun p l e R s m args below meth c H locs cells slots ls Q hF hd1 hd2 hc1 hc2 hl hP hS K => lv_aload_n hF.1 hF.2.1 hd hi (lv_at hl q hq) K) k
theorem tr_aload_nS {f : Fin 4} {i o : Nat} (q : Nat) (hd : decode M.2.1 pc = .ok (.aload_n f, 1)) (hi : (f : Nat) = i) (hq : lv[q]? = some (i, .ref o)) (k : T a d M (pc + 1) lv (.ref o :: st) S h post) : T a d M pc lv st S h post := t_go (fun p l e R s m args below meth c H locs cells slots ls Q hF hd1 hd2 hc1 hc2 hl hP hS K => lv_aload_n hF.1 hF.2.1 hd hi (lv_at hl q hq) K) k
theorem tr_istore_n {f : Fin 4} {i : Nat} {x : Int32} {lv' : List (Nat × Value)} (hd : decode M.2.1 pc = .ok (.istore_n f, 1)) (hi : (f : Nat) = i) (hn : i < M.2.2.1) (hl : (i, Value.int x) :: lv.filter (fun q => !(q.1 == i) && !(q.1 + 1 == i && q.2.category == 2)) = lv') (k : T a d M (pc + 1) lv' st S h post) : T a d M pc lv (Value.int x :: st) S h post := t_goL (fun p l e R s m args below meth c H locs cells slots ls Q hF hl0 K => lv_istore_n hF.1 hF.2.1 hd hi hl0 hn hl K) k
theorem tr_istore {i : Nat} {x : Int32} {lv' : List (Nat × Value)} (hd : decode M.2.1 pc = .ok (.istore i, 2)) (hn : i < M.2.2.1) (hl : (i, Value.int x) :: lv.filter (fun q => !(q.1 == i) && !(q.1 + 1 == i && q.2.category == 2)) = lv') (k : T a d M (pc + 2) lv' st S h post) : T a d M pc lv (Value.int x :: st) S h post := t_goL (fun p l e R s m args below meth c H locs cells slots ls Q hF hl0 K => lv_istore hF.1 hF.2.1 hd hl0 hn hl K) k
theorem tr_lstore_n {f : Fin 4} {i : Nat} {x : Int64} {lv' : List (Nat × Value)} (hd : decode M.2.1 pc = .ok (.lstore_n f, 1)) (hi : (f : Nat) = i) (hn : i + 1 < M.2.2.1) (hl : (i, Value.long x) :: lv.filter (fun q => !(q.1 == i) && (!(q.1 == i + 1) && !(q.1 + 1 == i && q.2.category == 2))) = lv') (k : T a d M (pc + 1) lv' st S h post) : T a d M pc lv (Value.long x :: st) S h post := t_goL (fun p l e R s m args below meth c H locs cells slots ls Q hF hl0 K => lv_lstore_n hF.1 hF.2.1 hd hi hl0 hn hl K) k
theorem tr_lstore {i : Nat} {x : Int64} {lv' : List (Nat × Value)} (hd : decode M.2.1 pc = .ok (.lstore i, 2)) (hn : i + 1 < M.2.2.1) (hl : (i, Value.long x) :: lv.filter (fun q => !(q.1 == i) && (!(q.1 == i + 1) && !(q.1 + 1 == i && q.2.category == 2))) = lv') (k : T a d M (pc + 2) lv' st S h post) : T a d M pc lv (Value.long x :: st) S h post := t_goL (fun p l e R s m args below meth c H locs cells slots ls Q hF hl0 K => lv_lstore hF.1 hF.2.1 hd hl0 hn hl K) k
theorem tr_astore_n {f : Fin 4} {i o : Nat} {lv' : List (Nat × Value)} (hd : decode M.2.1 pc = .ok (.astore_n f, 1)) (hi : (f : Nat) = i) (hn : i < M.2.2.1) (hl : (i, rv a o) :: lv.filter (fun q => !(q.1 == i) && !(q.1 + 1 == i && q.2.category == 2)) = lv') (k : T a d M (pc + 1) lv' st S h post) : T a d M pc lv (rv a o :: st) S h post := t_goL (fun p l e R s m args below meth c H locs cells slots ls Q hF hl0 K => lv_astore_n hF.1 hF.2.1 hd hi hl0 hn hl K) k
theorem tr_iinc {i : Nat} {n : Int} {x v : Int32} {lv' : List (Nat × Value)} (q : Nat) (hd : decode M.2.1 pc = .ok (.iinc i n, 3)) (hq : lv[q]? = some (i, .int x)) (hv : x + Int32.ofInt n = v) (hn : i < M.2.2.1) (hl : (i, Value.int v) :: lv.filter (fun q => !(q.1 == i) && !(q.1 + 1 == i && q.2.category == 2)) = lv') (k : T a d M (pc + 3) lv' st S h post) : T a d M pc lv st S h post := t_goL (fun p l e R s m args below meth c H locs cells slots ls Q hF hl0 K => lv_iinc hF.1 hF.2.1 hd hl0 hq hv hn hl K) k
theorem tr_sub {lv' : List (Nat × Value)} (ks : List Nat) (hl : lv_pick lv ks = lv') (k : T a d M pc lv' st S h post) : T a d M pc lv st S h post := by
  obtain ⟨v, S2, h2, hp, hg, hE⟩ := k
  refine ⟨v, S2, h2, hp, hg, ?_⟩
  intro p l e R s m args below meth c H locs cells slots ls hF h1 h2 h3 h4 hl0 hP hS
  exact hE p l e R s m args below meth c H locs cells slots ls hF h1 h2 h3 h4 (lv_sub hl0 ks hl) hP hS
theorem tr_iadd {x y v : Int32} (hd : decode M.2.1 pc = .ok (.iadd, 1)) (hv : x + y = v) (k : T a d M (pc + 1) lv (.int v :: st) S h post) : T a d M pc lv (.int y :: .int x :: st) S h post := by subst hv; exact t_go (fun p l e R s m args below meth c H locs cells slots ls Q hF hd1 hd2 hc1 hc2 hl hP hS K => lv_iadd hF.1 hF.2.1 hd K) k
theorem tr_isub {x y v : Int32} (hd : decode M.2.1 pc = .ok (.isub, 1)) (hv : x - y = v) (k : T a d M (pc + 1) lv (.int v :: st) S h post) : T a d M pc lv (.int y :: .int x :: st) S h post := by subst hv; exact t_go (fun p l e R s m args below meth c H locs cells slots ls Q hF hd1 hd2 hc1 hc2 hl hP hS K => lv_isub hF.1 hF.2.1 hd K) k
theorem tr_imul {x y v : Int32} (hd : decode M.2.1 pc = .ok (.imul, 1)) (hv : x * y = v) (k : T a d M (pc + 1) lv (.int v :: st) S h post) : T a d M pc lv (.int y :: .int x :: st) S h post := by subst hv; exact t_go (fun p l e R s m args below meth c H locs cells slots ls Q hF hd1 hd2 hc1 hc2 hl hP hS K => lv_imul hF.1 hF.2.1 hd K) k
theorem tr_iand {x y v : Int32} (hd : decode M.2.1 pc = .ok (.iand, 1)) (hv : x &&& y = v) (k : T a d M (pc + 1) lv (.int v :: st) S h post) : T a d M pc lv (.int y :: .int x :: st) S h post := by subst hv; exact t_go (fun p l e R s m args below meth c H locs cells slots ls Q hF hd1 hd2 hc1 hc2 hl hP hS K => lv_iand hF.1 hF.2.1 hd K) k
theorem tr_ior {x y v : Int32} (hd : decode M.2.1 pc = .ok (.ior, 1)) (hv : x ||| y = v) (k : T a d M (pc + 1) lv (.int v :: st) S h post) : T a d M pc lv (.int y :: .int x :: st) S h post := by subst hv; exact t_go (fun p l e R s m args below meth c H locs cells slots ls Q hF hd1 hd2 hc1 hc2 hl hP hS K => lv_ior hF.1 hF.2.1 hd K) k
theorem tr_ixor {x y v : Int32} (hd : decode M.2.1 pc = .ok (.ixor, 1)) (hv : x ^^^ y = v) (k : T a d M (pc + 1) lv (.int v :: st) S h post) : T a d M pc lv (.int y :: .int x :: st) S h post := by subst hv; exact t_go (fun p l e R s m args below meth c H locs cells slots ls Q hF hd1 hd2 hc1 hc2 hl hP hS K => lv_ixor hF.1 hF.2.1 hd K) k
theorem tr_ishl {x y v : Int32} (hd : decode M.2.1 pc = .ok (.ishl, 1)) (hv : x <<< (y &&& 31) = v) (k : T a d M (pc + 1) lv (.int v :: st) S h post) : T a d M pc lv (.int y :: .int x :: st) S h post := by subst hv; exact t_go (fun p l e R s m args below meth c H locs cells slots ls Q hF hd1 hd2 hc1 hc2 hl hP hS K => lv_ishl hF.1 hF.2.1 hd K) k
theorem tr_ishr {x y v : Int32} (hd : decode M.2.1 pc = .ok (.ishr, 1)) (hv : x >>> (y &&& 31) = v) (k : T a d M (pc + 1) lv (.int v :: st) S h post) : T a d M pc lv (.int y :: .int x :: st) S h post := by subst hv; exact t_go (fun p l e R s m args below meth c H locs cells slots ls Q hF hd1 hd2 hc1 hc2 hl hP hS K => lv_ishr hF.1 hF.2.1 hd K) k
theorem tr_idiv {x y v : Int32} (hd : decode M.2.1 pc = .ok (.idiv, 1)) (hne : ¬ y = 0) (hv : x / y = v) (k : T a d M (pc + 1) lv (.int v :: st) S h post) : T a d M pc lv (.int y :: .int x :: st) S h post := by subst hv; exact t_go (fun p l e R s m args below meth c H locs cells slots ls Q hF hd1 hd2 hc1 hc2 hl hP hS K => lv_idiv hF.1 hF.2.1 hd hne K) k
theorem tr_irem {x y v : Int32} (hd : decode M.2.1 pc = .ok (.irem, 1)) (hne : ¬ y = 0) (hv : x - x / y * y = v) (k : T a d M (pc + 1) lv (.int v :: st) S h post) : T a d M pc lv (.int y :: .int x :: st) S h post := by subst hv; exact t_go (fun p l e R s m args below meth c H locs cells slots ls Q hF hd1 hd2 hc1 hc2 hl hP hS K => lv_irem hF.1 hF.2.1 hd hne K) k
theorem tr_ladd {x y v : Int64} (hd : decode M.2.1 pc = .ok (.ladd, 1)) (hv : x + y = v) (k : T a d M (pc + 1) lv (.long v :: st) S h post) : T a d M pc lv (.long y :: .long x :: st) S h post := by subst hv; exact t_go (fun p l e R s m args below meth c H locs cells slots ls Q hF hd1 hd2 hc1 hc2 hl hP hS K => lv_ladd hF.1 hF.2.1 hd K) k
theorem tr_lmul {x y v : Int64} (hd : decode M.2.1 pc = .ok (.lmul, 1)) (hv : x * y = v) (k : T a d M (pc + 1) lv (.long v :: st) S h post) : T a d M pc lv (.long y :: .long x :: st) S h post := by subst hv; exact t_go (fun p l e R s m args below meth c H locs cells slots ls Q hF hd1 hd2 hc1 hc2 hl hP hS K => lv_lmul hF.1 hF.2.1 hd K) k
theorem tr_i2l {x : Int32} (hd : decode M.2.1 pc = .ok (.i2l, 1)) (k : T a d M (pc + 1) lv (.long x.toInt64 :: st) S h post) : T a d M pc lv (.int x :: st) S h post := t_go (fun p l e R s m args below meth c H locs cells slots ls Q hF hd1 hd2 hc1 hc2 hl hP hS K => lv_i2l hF.1 hF.2.1 hd rfl K) k
theorem tr_i2b {x v : Int32} (hd : decode M.2.1 pc = .ok (.i2b, 1)) (hv : x.toInt8.toInt32 = v) (k : T a d M (pc + 1) lv (.int v :: st) S h post) : T a d M pc lv (.int x :: st) S h post := t_go (fun p l e R s m args below meth c H locs cells slots ls Q hF hd1 hd2 hc1 hc2 hl hP hS K => lv_i2b hF.1 hF.2.1 hd hv K) k
theorem tr_i2c {x v : Int32} (hd : decode M.2.1 pc = .ok (.i2c, 1)) (hv : (x.toUInt32 % 65536).toInt32 = v) (k : T a d M (pc + 1) lv (.int v :: st) S h post) : T a d M pc lv (.int x :: st) S h post := t_go (fun p l e R s m args below meth c H locs cells slots ls Q hF hd1 hd2 hc1 hc2 hl hP hS K => lv_i2c hF.1 hF.2.1 hd hv K) k
theorem tr_lcmp {x y : Int64} (hd : decode M.2.1 pc = .ok (.lcmp, 1)) (k : T a d M (pc + 1) lv (.int (lg_cmp x y) :: st) S h post) : T a d M pc lv (.long y :: .long x :: st) S h post := t_go (fun p l e R s m args below meth c H locs cells slots ls Q hF hd1 hd2 hc1 hc2 hl hP hS K => W.lcmp hF.1 hF.2.1 hd K) k
theorem tr_dup {v : Value} (hd : decode M.2.1 pc = .ok (.dup, 1)) (hc : v.category = 1) (k : T a d M (pc + 1) lv (v :: v :: st) S h post) : T a d M pc lv (v :: st) S h post := t_go (fun p l e R s m args below meth c H locs cells slots ls Q hF hd1 hd2 hc1 hc2 hl hP hS K => lv_dup hF.1 hF.2.1 hd hc K) k
theorem tr_dup2 {v w : Value} (hd : decode M.2.1 pc = .ok (.dup2, 1)) (hc : v.category = 1) (hcw : w.category = 1) (k : T a d M (pc + 1) lv (v :: w :: v :: w :: st) S h post) : T a d M pc lv (v :: w :: st) S h post := t_go (fun p l e R s m args below meth c H locs cells slots ls Q hF hd1 hd2 hc1 hc2 hl hP hS K => lv_dup2_11 hF.1 hF.2.1 hd hc hcw K) k
theorem tr_pop {v : Value} (hd : decode M.2.1 pc = .ok (.pop, 1)) (hc : v.category = 1) (k : T a d M (pc + 1) lv st S h post) : T a d M pc lv (v :: st) S h post := t_go (fun p l e R s m args below meth c H locs cells slots ls Q hF hd1 hd2 hc1 hc2 hl hP hS K => lv_pop hF.1 hF.2.1 hd hc K) k
theorem tr_icmp_eq {x y : Int32} {off : Int} {tgt : Nat} {c0 : Prop} (hd : decode M.2.1 pc = .ok (.if_icmp .eq off, 3)) (ht : (pc : Int) + off = (tgt : Int)) (hc : x = y ↔ c0) (kt : c0 → T a d M tgt lv st S h post) (kf : ¬ c0 → T a d M (pc + 3) lv st S h post) : T a d M pc lv (.int y :: .int x :: st) S h post := by
  by_cases q : c0
  · exact t_go (fun p l e R s m args below meth c H locs cells slots ls Q hF hd1 hd2 hc1 hc2 hl hP hS K => lv_icmp_eq hF.1 hF.2.1 hd ht (fun _ => K) (fun w => absurd (hc.mpr q) w)) (kt q)
  · exact t_go (fun p l e R s m args below meth c H locs cells slots ls Q hF hd1 hd2 hc1 hc2 hl hP hS K => lv_icmp_eq hF.1 hF.2.1 hd ht (fun w => absurd (hc.mp w) q) (fun _ => K)) (kf q)
theorem tr_if_eq {x : Int32} {off : Int} {tgt : Nat} {c0 : Prop} (hd : decode M.2.1 pc = .ok (.ifCond .eq off, 3)) (ht : (pc : Int) + off = (tgt : Int)) (hc : x = 0 ↔ c0) (kt : c0 → T a d M tgt lv st S h post) (kf : ¬ c0 → T a d M (pc + 3) lv st S h post) : T a d M pc lv (.int x :: st) S h post := by
  by_cases q : c0
  · exact t_go (fun p l e R s m args below meth c H locs cells slots ls Q hF hd1 hd2 hc1 hc2 hl hP hS K => lv_if_eq hF.1 hF.2.1 hd ht (fun _ => K) (fun w => absurd (hc.mpr q) w)) (kt q)
  · exact t_go (fun p l e R s m args below meth c H locs cells slots ls Q hF hd1 hd2 hc1 hc2 hl hP hS K => lv_if_eq hF.1 hF.2.1 hd ht (fun w => absurd (hc.mp w) q) (fun _ => K)) (kf q)
theorem tr_icmp_lt {x y : Int32} {off : Int} {tgt : Nat} {c0 : Prop} (hd : decode M.2.1 pc = .ok (.if_icmp .lt off, 3)) (ht : (pc : Int) + off = (tgt : Int)) (hc : x < y ↔ c0) (kt : c0 → T a d M tgt lv st S h post) (kf : ¬ c0 → T a d M (pc + 3) lv st S h post) : T a d M pc lv (.int y :: .int x :: st) S h post := by
  by_cases q : c0
  · exact t_go (fun p l e R s m args below meth c H locs cells slots ls Q hF hd1 hd2 hc1 hc2 hl hP hS K => lv_icmp_lt hF.1 hF.2.1 hd ht (fun _ => K) (fun w => absurd (hc.mpr q) w)) (kt q)
  · exact t_go (fun p l e R s m args below meth c H locs cells slots ls Q hF hd1 hd2 hc1 hc2 hl hP hS K => lv_icmp_lt hF.1 hF.2.1 hd ht (fun w => absurd (hc.mp w) q) (fun _ => K)) (kf q)
theorem tr_if_lt {x : Int32} {off : Int} {tgt : Nat} {c0 : Prop} (hd : decode M.2.1 pc = .ok (.ifCond .lt off, 3)) (ht : (pc : Int) + off = (tgt : Int)) (hc : x < 0 ↔ c0) (kt : c0 → T a d M tgt lv st S h post) (kf : ¬ c0 → T a d M (pc + 3) lv st S h post) : T a d M pc lv (.int x :: st) S h post := by
  by_cases q : c0
  · exact t_go (fun p l e R s m args below meth c H locs cells slots ls Q hF hd1 hd2 hc1 hc2 hl hP hS K => lv_if_lt hF.1 hF.2.1 hd ht (fun _ => K) (fun w => absurd (hc.mpr q) w)) (kt q)
  · exact t_go (fun p l e R s m args below meth c H locs cells slots ls Q hF hd1 hd2 hc1 hc2 hl hP hS K => lv_if_lt hF.1 hF.2.1 hd ht (fun w => absurd (hc.mp w) q) (fun _ => K)) (kf q)
theorem tr_icmp_ge {x y : Int32} {off : Int} {tgt : Nat} {c0 : Prop} (hd : decode M.2.1 pc = .ok (.if_icmp .ge off, 3)) (ht : (pc : Int) + off = (tgt : Int)) (hc : y ≤ x ↔ c0) (kt : c0 → T a d M tgt lv st S h post) (kf : ¬ c0 → T a d M (pc + 3) lv st S h post) : T a d M pc lv (.int y :: .int x :: st) S h post := by
  by_cases q : c0
  · exact t_go (fun p l e R s m args below meth c H locs cells slots ls Q hF hd1 hd2 hc1 hc2 hl hP hS K => lv_icmp_ge hF.1 hF.2.1 hd ht (fun _ => K) (fun w => absurd (hc.mpr q) w)) (kt q)
  · exact t_go (fun p l e R s m args below meth c H locs cells slots ls Q hF hd1 hd2 hc1 hc2 hl hP hS K => lv_icmp_ge hF.1 hF.2.1 hd ht (fun w => absurd (hc.mp w) q) (fun _ => K)) (kf q)
theorem tr_if_ge {x : Int32} {off : Int} {tgt : Nat} {c0 : Prop} (hd : decode M.2.1 pc = .ok (.ifCond .ge off, 3)) (ht : (pc : Int) + off = (tgt : Int)) (hc : 0 ≤ x ↔ c0) (kt : c0 → T a d M tgt lv st S h post) (kf : ¬ c0 → T a d M (pc + 3) lv st S h post) : T a d M pc lv (.int x :: st) S h post := by
  by_cases q : c0
  · exact t_go (fun p l e R s m args below meth c H locs cells slots ls Q hF hd1 hd2 hc1 hc2 hl hP hS K => lv_if_ge hF.1 hF.2.1 hd ht (fun _ => K) (fun w => absurd (hc.mpr q) w)) (kt q)
  · exact t_go (fun p l e R s m args below meth c H locs cells slots ls Q hF hd1 hd2 hc1 hc2 hl hP hS K => lv_if_ge hF.1 hF.2.1 hd ht (fun w => absurd (hc.mp w) q) (fun _ => K)) (kf q)
theorem tr_icmp_gt {x y : Int32} {off : Int} {tgt : Nat} {c0 : Prop} (hd : decode M.2.1 pc = .ok (.if_icmp .gt off, 3)) (ht : (pc : Int) + off = (tgt : Int)) (hc : y < x ↔ c0) (kt : c0 → T a d M tgt lv st S h post) (kf : ¬ c0 → T a d M (pc + 3) lv st S h post) : T a d M pc lv (.int y :: .int x :: st) S h post := by
  by_cases q : c0
  · exact t_go (fun p l e R s m args below meth c H locs cells slots ls Q hF hd1 hd2 hc1 hc2 hl hP hS K => lv_icmp_gt hF.1 hF.2.1 hd ht (fun _ => K) (fun w => absurd (hc.mpr q) w)) (kt q)
  · exact t_go (fun p l e R s m args below meth c H locs cells slots ls Q hF hd1 hd2 hc1 hc2 hl hP hS K => lv_icmp_gt hF.1 hF.2.1 hd ht (fun w => absurd (hc.mp w) q) (fun _ => K)) (kf q)
theorem tr_if_gt {x : Int32} {off : Int} {tgt : Nat} {c0 : Prop} (hd : decode M.2.1 pc = .ok (.ifCond .gt off, 3)) (ht : (pc : Int) + off = (tgt : Int)) (hc : 0 < x ↔ c0) (kt : c0 → T a d M tgt lv st S h post) (kf : ¬ c0 → T a d M (pc + 3) lv st S h post) : T a d M pc lv (.int x :: st) S h post := by
  by_cases q : c0
  · exact t_go (fun p l e R s m args below meth c H locs cells slots ls Q hF hd1 hd2 hc1 hc2 hl hP hS K => lv_if_gt hF.1 hF.2.1 hd ht (fun _ => K) (fun w => absurd (hc.mpr q) w)) (kt q)
  · exact t_go (fun p l e R s m args below meth c H locs cells slots ls Q hF hd1 hd2 hc1 hc2 hl hP hS K => lv_if_gt hF.1 hF.2.1 hd ht (fun w => absurd (hc.mp w) q) (fun _ => K)) (kf q)
theorem tr_icmp_le {x y : Int32} {off : Int} {tgt : Nat} {c0 : Prop} (hd : decode M.2.1 pc = .ok (.if_icmp .le off, 3)) (ht : (pc : Int) + off = (tgt : Int)) (hc : x ≤ y ↔ c0) (kt : c0 → T a d M tgt lv st S h post) (kf : ¬ c0 → T a d M (pc + 3) lv st S h post) : T a d M pc lv (.int y :: .int x :: st) S h post := by
  by_cases q : c0
  · exact t_go (fun p l e R s m args below meth c H locs cells slots ls Q hF hd1 hd2 hc1 hc2 hl hP hS K => lv_icmp_le hF.1 hF.2.1 hd ht (fun _ => K) (fun w => absurd (hc.mpr q) w)) (kt q)
  · exact t_go (fun p l e R s m args below meth c H locs cells slots ls Q hF hd1 hd2 hc1 hc2 hl hP hS K => lv_icmp_le hF.1 hF.2.1 hd ht (fun w => absurd (hc.mp w) q) (fun _ => K)) (kf q)
theorem tr_if_le {x : Int32} {off : Int} {tgt : Nat} {c0 : Prop} (hd : decode M.2.1 pc = .ok (.ifCond .le off, 3)) (ht : (pc : Int) + off = (tgt : Int)) (hc : x ≤ 0 ↔ c0) (kt : c0 → T a d M tgt lv st S h post) (kf : ¬ c0 → T a d M (pc + 3) lv st S h post) : T a d M pc lv (.int x :: st) S h post := by
  by_cases q : c0
  · exact t_go (fun p l e R s m args below meth c H locs cells slots ls Q hF hd1 hd2 hc1 hc2 hl hP hS K => lv_if_le hF.1 hF.2.1 hd ht (fun _ => K) (fun w => absurd (hc.mpr q) w)) (kt q)
  · exact t_go (fun p l e R s m args below meth c H locs cells slots ls Q hF hd1 hd2 hc1 hc2 hl hP hS K => lv_if_le hF.1 hF.2.1 hd ht (fun w => absurd (hc.mp w) q) (fun _ => K)) (kf q)
theorem tr_icmp_ne {x y : Int32} {off : Int} {tgt : Nat} {c0 : Prop} (hd : decode M.2.1 pc = .ok (.if_icmp .ne off, 3)) (ht : (pc : Int) + off = (tgt : Int)) (hc : x = y ↔ c0) (kt : ¬ c0 → T a d M tgt lv st S h post) (kf : c0 → T a d M (pc + 3) lv st S h post) : T a d M pc lv (.int y :: .int x :: st) S h post := by
  by_cases q : c0
  · exact t_go (fun p l e R s m args below meth c H locs cells slots ls Q hF hd1 hd2 hc1 hc2 hl hP hS K => lv_icmp_ne hF.1 hF.2.1 hd ht (fun w => absurd (hc.mpr q) w) (fun _ => K)) (kf q)
  · exact t_go (fun p l e R s m args below meth c H locs cells slots ls Q hF hd1 hd2 hc1 hc2 hl hP hS K => lv_icmp_ne hF.1 hF.2.1 hd ht (fun _ => K) (fun w => absurd (hc.mp w) q)) (kt q)
theorem tr_if_ne {x : Int32} {off : Int} {tgt : Nat} {c0 : Prop} (hd : decode M.2.1 pc = .ok (.ifCond .ne off, 3)) (ht : (pc : Int) + off = (tgt : Int)) (hc : x = 0 ↔ c0) (kt : ¬ c0 → T a d M tgt lv st S h post) (kf : c0 → T a d M (pc + 3) lv st S h post) : T a d M pc lv (.int x :: st) S h post := by
  by_cases q : c0
  · exact t_go (fun p l e R s m args below meth c H locs cells slots ls Q hF hd1 hd2 hc1 hc2 hl hP hS K => lv_if_ne hF.1 hF.2.1 hd ht (fun w => absurd (hc.mpr q) w) (fun _ => K)) (kf q)
  · exact t_go (fun p l e R s m args below meth c H locs cells slots ls Q hF hd1 hd2 hc1 hc2 hl hP hS K => lv_if_ne hF.1 hF.2.1 hd ht (fun _ => K) (fun w => absurd (hc.mp w) q)) (kt q)
theorem tr_goto {off : Int} {tgt : Nat} (hd : decode M.2.1 pc = .ok (.goto off, 3)) (ht : (pc : Int) + off = (tgt : Int)) (k : T a d M tgt lv st S h post) : T a d M pc lv st S h post := t_go (fun p l e R s m args below meth c H locs cells slots ls Q hF hd1 hd2 hc1 hc2 hl hP hS K => lv_goto hF.1 hF.2.1 hd ht K) k
theorem tr_tabIn {dflt lo hi : Int} {offs : Array Int} {len : Nat} {x : Int32} {off : Int} {tgt : Nat} (hd : decode M.2.1 pc = .ok (.tableswitch dflt lo hi offs, len)) (h1 : ¬ x.toInt < lo) (h2 : ¬ hi < x.toInt) (ho : offs[(x.toInt - lo).toNat]? = some off) (ht : (pc : Int) + off = (tgt : Int)) (k : T a d M tgt lv st S h post) : T a d M pc lv (.int x :: st) S h post := t_go (fun p l e R s m args below meth c H locs cells slots ls Q hF hd1 hd2 hc1 hc2 hl hP hS K => lv_tableIn hF.1 hF.2.1 hd h1 h2 ho ht K) k
theorem tr_tabOut {dflt lo hi : Int} {offs : Array Int} {len : Nat} {x : Int32} {tgt : Nat} (hd : decode M.2.1 pc = .ok (.tableswitch dflt lo hi offs, len)) (h1 : x.toInt < lo ∨ hi < x.toInt) (ht : (pc : Int) + dflt = (tgt : Int)) (k : T a d M tgt lv st S h post) : T a d M pc lv (.int x :: st) S h post := t_go (fun p l e R s m args below meth c H locs cells slots ls Q hF hd1 hd2 hc1 hc2 hl hP hS K => lv_tableOut hF.1 hF.2.1 hd h1 ht K) k
theorem tr_look {dflt : Int} {ps : Array (Int × Int)} {len : Nat} {x : Int32} {off : Int} {tgt : Nat} (hd : decode M.2.1 pc = .ok (.lookupswitch dflt ps, len)) (hp : (ps.toList.zip (ps.toList.drop 1)).all (fun (a, next) => a.1 < next.1) = true) (ho : Op.lookupswitch.offset ps.toList dflt x.toInt = off) (ht : (pc : Int) + off = (tgt : Int)) (k : T a d M tgt lv st S h post) : T a d M pc lv (.int x :: st) S h post := t_go (fun p l e R s m args below meth c H locs cells slots ls Q hF hd1 hd2 hc1 hc2 hl hP hS K => lv_lookup hF.1 hF.2.1 hd hp ho ht K) k
theorem ob_get {o ci N : Nat} (ho : S.1[o]? = some (ci + 3, N)) : (wsOf a S h)[o]? = some (aN a + o, .inr (ci, fvL a S h o ci)) := ws_get ho
theorem tr_getI {o ci N k idx : Nat} {fin : Bool} {ty : FieldType} {x : Int32} (hd : decode M.2.1 pc = .ok (.getfield idx, 3)) (ho : S.1[o]? = some (ci + 3, N)) (fi : FI M.1.cls idx ci k fin ty) (hk : (fkT.getD ci [])[k]? = some false) (hv : h o k = x) (kk : T a d M (pc + 3) lv (.int x :: st) S h post) : T a d M pc lv (rv a o :: st) S h post := by
  subst hv
  obtain ⟨C, T0, N0, hc, hkN, hw, -, -, hown⟩ := fi
  exact t_go (fun p l e R s m args below meth c H locs cells slots ls Q hF hd1 hd2 hc1 hc2 hl hP hS K => va_get hF.1 hF.2.1 hF.2.2.2.2.1 (cl_ok ci C T0 N0 hc).1 hF.2.2.2.1 hF.2.2.2.2.2.2.2.2.1 hP.1 o (ob_get ho) hc k hkN (hF.2.2.2.2.1 _ hw) (fun _ q => q) (fv_get hk) hd K) kk
theorem tr_getR {o ci N k idx q : Nat} {fin : Bool} {ty : FieldType} (hd : decode M.2.1 pc = .ok (.getfield idx, 3)) (ho : S.1[o]? = some (ci + 3, N)) (fi : FI M.1.cls idx ci k fin ty) (hk : (fkT.getD ci [])[k]? = some true) (hg : S.2 o k = some q) (kk : T a d M (pc + 3) lv (rv a q :: st) S h post) : T a d M pc lv (rv a o :: st) S h post := by
  obtain ⟨C, T0, N0, hc, hkN, hw, -, -, hown⟩ := fi
  have hv : (fvL a S h o ci)[k]? = some (rv a q) := by rw [fv_get hk, hg]; rfl
  exact t_go (fun p l e R s m args below meth c H locs cells slots ls Q hF hd1 hd2 hc1 hc2 hl hP hS K => va_get hF.1 hF.2.1 hF.2.2.2.2.1 (cl_ok ci C T0 N0 hc).1 hF.2.2.2.1 hF.2.2.2.2.2.2.2.2.1 hP.1 o (ob_get ho) hc k hkN (hF.2.2.2.2.1 _ hw) (fun _ q => q) hv hd K) kk
/-- a store into a field, at the machine -/
theorem w_put {p : Program} {l : Launch} {e : Env} {R : Room} {s : State} {m : MethodId} {args : Array Value} {below : List Frame} {meth : Method} {c : Code} {H : Heap} {locs : List Loc} {cells slots : Nat} {ls : Array Slot} {Q : State → Prop} {o ci N k idx : Nat} {fin : Bool} {ty : FieldType} {v : Value} {st : List Value} (hF : Fx a M p s m args meth c) (hP : RepW a S h H) (hS : va_S (aA a) s.heap H locs) (hd : decode M.2.1 pc = .ok (.putfield idx, 3)) (ho : S.1[o]? = some (ci + 3, N)) (fi : FI M.1.cls idx ci k fin ty) (hfin0 : fin = false ∨ M.1.name = "<init>") (hn : narrow ty v = v) (hf : fits ty v = true)
    (K : ∀ H1 locs1, va_P a.1 vwC ((wsOf a S h).set o (aN a + o, .inr (ci, (fvL a S h o ci).set k v))) H1 → H1.size = H.size → va_S (aA a) s.heap H1 locs1 → W p l e R s m args below meth c H1 locs1 cells slots Q (F0 m (pc + 3) ls st)) : W p l e R s m args below meth c H locs cells slots Q (F0 m pc ls (v :: rv a o :: st)) := by
  obtain ⟨C, T0, N0, hc, hkN, hw, hfin, hty, hown⟩ := fi
  obtain ⟨hin, ⟨ty0, hty0⟩, hnm, hlen⟩ := cl_ok ci C T0 N0 hc
  have hts := hF.2.2.2.2.1
  have hK := hF.2.2.2.2.2.2.2.2.1
  have he := ob_get (a := a) (h := h) ho
  have hap := va_apart (own := M.1.cls) hts hin ty0 hty0 hnm hK hc
  obtain ⟨r, h1, cell, q1, q2, q3, q4⟩ := hP.1 o _ he
  have hr : r = (C, T0, N0) := Option.some.inj (h1.symm.trans hc)
  subst hr
  obtain ⟨hSl, hfc, kC, hkC, hkind⟩ := hK.1 ci _ hc
  obtain ⟨cf, kf, fi0, f, hi, hsl⟩ := hSl k hkN
  have hlay := hts _ (hin _ (u_in_lay hkN))
  have hst := (u_facts hfc hkC (u_lays hts hin hkN) hi).1
  have hl : k < (fvL a S h o ci).length := by rw [fv_len, hlen]; exact hkN
  unfold u_lay at hlay
  cases fin with
  | false =>
    rw [if_neg (by rw [hfin]; decide)] at hlay
    have h6 := u_store hfc hkC hkind hlay hi hty hn hf
    refine W.putK hF.1 hF.2.1 (f := f) ⟨hF.2.2.2.1, hts _ hw, ⟨_, _, _, hi⟩, hst⟩ (by rw [q2]; exact h6) q1 q3 (by rw [hsl]; exact k2_hasslot (q4 k hkN)) rfl rfl hd fun H' e1 e2 e3 => ?_
    rw [hsl] at e1 ⊢
    exact K H' _ (hP.1.set ws_D he ⟨_, hc, t_OB.to (V := updV (vp_V (fvL a S h o ci)) k v) ⟨_, e1, q2, q3, t_set q4 hap hkN v⟩ (fun j _ => vp_updV_set hl v j)⟩ e3) e2 (hS.put e2 e3 (ws_D.2 o _ he))
  | true =>
    rw [if_pos hfin] at hlay
    have hin2 : meth.name = "<init>" := by
      rcases hfin0 with q | q
      · cases q
      · rw [hF.2.2.2.2.2.2.2.1]; exact q
    have hcf : m.cls = cf := by
      obtain ⟨_, _, c', _, _, _, -, -, hf', -, -, -, hown2, -⟩ := Cond.laysFinal_spec hlay
      have e1 : c' = cf := by have := hi.symm.trans hf'; simp at this; exact this.1.symm
      rw [hown] at hown2
      rw [← e1]; exact Option.some.inj (hF.2.2.2.1.symm.trans hown2)
    have h6 := u_fits hfc hkC hkind (Or.inr hlay) hi hty hn hf
    refine W.putFinK hF.1 hF.2.1 hF.2.2.2.1 (hts _ hw) hi hst hcf hin2 (by rw [q2]; exact h6) q1 q3 (by rw [hsl]; exact k2_hasslot (q4 k hkN)) rfl rfl hd fun H' e1 e2 e3 => ?_
    rw [hsl] at e1 ⊢
    exact K H' _ (hP.1.set ws_D he ⟨_, hc, t_OB.to (V := updV (vp_V (fvL a S h o ci)) k v) ⟨_, e1, q2, q3, t_set q4 hap hkN v⟩ (fun j _ => vp_updV_set hl v j)⟩ e3) e2 (hS.put e2 e3 (ws_D.2 o _ he))
theorem tr_putI {o ci N k idx : Nat} {ty : FieldType} {x : Int32} (hd : decode M.2.1 pc = .ok (.putfield idx, 3)) (ho : S.1[o]? = some (ci + 3, N)) (fi : FI M.1.cls idx ci k false ty) (hk : (fkT.getD ci [])[k]? = some false) (hn : narrow ty (.int x) = .int x) (hf : fits ty (.int x) = true) (kk : T a d M (pc + 3) lv st S (hs h o (upd (h o) k x)) post) : T a d M pc lv (.int x :: rv a o :: st) S h post := by
  refine t_goH rfl (fun p l e R s m args below meth c H locs cells slots ls Q hF hd1 hd2 hl hP hS K => ?_) kk
  refine w_put hF hP hS hd ho fi (Or.inl rfl) hn hf (fun H1 locs1 hP1 hz hS1 => K H1 locs1 ⟨?_, by rw [hz]; exact hP.2⟩ hS1)
  rw [fv_setI hk, ws_set (a := a) (S := S) (h := h) (S' := S) (h' := hs h o (upd (h o) k x)) (e' := .inr (ci, fvL a S (hs h o (upd (h o) k x)) o ci)) rfl ho rfl (fun j hj => ⟨hs_ne hj, rfl⟩)] at hP1
  exact hP1
theorem tr_putR {o ci N k idx q : Nat} {fin : Bool} {ty : FieldType} (hd : decode M.2.1 pc = .ok (.putfield idx, 3)) (ho : S.1[o]? = some (ci + 3, N)) (fi : FI M.1.cls idx ci k fin ty) (hk : (fkT.getD ci [])[k]? = some true) (hfin : fin = false ∨ M.1.name = "<init>") (hn : ∀ q : Nat, narrow ty (.ref q) = .ref q) (hf : ∀ q : Nat, fits ty (.ref q) = true) (kk : T a d M (pc + 3) lv st (S.1, gs S.2 o (va_up (S.2 o) k (some q))) h post) : T a d M pc lv (rv a q :: rv a o :: st) S h post := by
  refine t_goH (S1 := (S.1, gs S.2 o (va_up (S.2 o) k (some q)))) rfl (fun p l e R s m args below meth c H locs cells slots ls Q hF hd1 hd2 hl hP hS K => ?_) kk
  refine w_put hF hP hS hd ho fi hfin (hn _) (hf _) (fun H1 locs1 hP1 hz hS1 => K H1 locs1 ⟨?_, by rw [hz]; exact hP.2⟩ hS1)
  rw [show rv a q = Value.ref (aN a + q) from rfl, fv_setR hk, ws_set (a := a) (S := S) (h := h) (S' := (S.1, gs S.2 o (va_up (S.2 o) k (some q)))) (h' := h) (e' := .inr (ci, fvL a (S.1, gs S.2 o (va_up (S.2 o) k (some q))) h o ci)) rfl ho rfl (fun j hj => ⟨rfl, gs_ne hj⟩)] at hP1
  exact hP1
theorem tr_iald {o n : Nat} {x v : Int32} (j : Nat) (hd : decode M.2.1 pc = .ok (.iaload, 1)) (ho : S.1[o]? = some (0, n)) (hx : x = nI j) (hj : j < n) (hn : n < 2 ^ 31) (hv : h o j = v) (kk : T a d M (pc + 1) lv (.int v :: st) S h post) : T a d M pc lv (.int x :: rv a o :: st) S h post := by
  subst hv; subst hx
  refine t_go (fun p l e R s m args below meth c H locs cells slots ls Q hF hd1 hd2 hc1 hc2 hl hP hS K => ?_) kk
  refine va_iald hF.1 hF.2.1 hF.2.2.2.2.2.2.2.2.1 hP.1 o 0 (ws_get ho) rfl (vp_in_nI hj hn) hd ?_
  rw [nI_clamp (by omega)]
  exact K
theorem tr_bald {o n : Nat} {x v : Int32} (j : Nat) (hd : decode M.2.1 pc = .ok (.baload, 1)) (ho : S.1[o]? = some (1, n)) (hx : x = nI j) (hj : j < n) (hn : n < 2 ^ 31) (hv : h o j = v) (kk : T a d M (pc + 1) lv (.int v :: st) S h post) : T a d M pc lv (.int x :: rv a o :: st) S h post := by
  subst hv; subst hx
  refine t_go (fun p l e R s m args below meth c H locs cells slots ls Q hF hd1 hd2 hc1 hc2 hl hP hS K => ?_) kk
  refine va_bald hF.1 hF.2.1 hF.2.2.2.2.2.2.2.2.1 hP.1 o 1 (ws_get ho) rfl (vp_in_nI hj hn) hd ?_
  rw [nI_clamp (by omega)]
  exact K
theorem tr_iast {o n : Nat} {x v : Int32} (j : Nat) (hd : decode M.2.1 pc = .ok (.iastore, 1)) (ho : S.1[o]? = some (0, n)) (hx : x = nI j) (hj : j < n) (hn : n < 2 ^ 31) (kk : T a d M (pc + 1) lv st S (hs h o (upd (h o) j v)) post) : T a d M pc lv (.int v :: .int x :: rv a o :: st) S h post := by
  subst hx
  refine t_goH rfl (fun p l e R s m args below meth c H locs cells slots ls Q hF hd1 hd2 hl hP hS K => ?_) kk
  have ha : (wsOf a S h)[o]? = some (aN a + o, .inl (a.2.1.1, n, .inl (h o))) := ws_get ho
  refine W.iast hF.1 hF.2.1 (hP.1 o _ ha) ((hF.2.2.2.2.2.2.2.2.1.2 0 _ rfl).1 n (fun j => .int (h o j))) (fun q => by cases q) (by show ¬ (_ < 0 ∨ (arrV _ _ _).slots.size ≤ _); rw [arrV_size]; exact vp_in_nI hj hn) rfl rfl hd fun H1 e1 z oq => ?_
  have hP1 := hP.1.set (e := .inl (a.2.1.1, n, .inl (upd (h o) j v))) ws_D ha (by
    show H1[_]? = some (vp_cell _ _)
    rw [e1, vp_cell_i, vp_cell_i, arrV_store, nI_clamp (by omega)]
    congr 2
    funext q
    by_cases hq : q = j
    · subst hq; simp [updV, upd]
    · simp [updV, upd, hq]) oq
  rw [ws_set (S' := S) (h' := hs h o (upd (h o) j v)) rfl ho (by show Sum.inl _ = Sum.inl _; rw [hs_same]) (fun j hj => ⟨hs_ne hj, rfl⟩)] at hP1
  exact K H1 _ ⟨hP1, by rw [z]; exact hP.2⟩ (hS.put z oq (ws_D.2 o _ ha))
theorem tr_bast {o n : Nat} {x v : Int32} (j : Nat) (hd : decode M.2.1 pc = .ok (.bastore, 1)) (ho : S.1[o]? = some (1, n)) (hx : x = nI j) (hj : j < n) (hn : n < 2 ^ 31) (kk : T a d M (pc + 1) lv st S (hs h o (upd (h o) j (vp_nar .byte v))) post) : T a d M pc lv (.int v :: .int x :: rv a o :: st) S h post := by
  subst hx
  refine t_goH rfl (fun p l e R s m args below meth c H locs cells slots ls Q hF hd1 hd2 hl hP hS K => ?_) kk
  have ha : (wsOf a S h)[o]? = some (aN a + o, .inl (a.2.1.2.1, n, .inl (h o))) := ws_get ho
  refine W.bast hF.1 hF.2.1 (hP.1 o _ ha) ((hF.2.2.2.2.2.2.2.2.1.2 1 _ rfl).1 n (fun j => .int (h o j))) (fun q => by cases q) (by show ¬ (_ < 0 ∨ (arrV _ _ _).slots.size ≤ _); rw [arrV_size]; exact vp_in_nI hj hn) rfl rfl hd fun H1 e1 z oq => ?_
  have hP1 := hP.1.set (e := .inl (a.2.1.2.1, n, .inl (upd (h o) j (vp_nar .byte v)))) ws_D ha (by
    show H1[_]? = some (vp_cell _ _)
    rw [e1, vp_cell_i, vp_cell_i, arrV_store, nI_clamp (by omega)]
    congr 2
    funext q
    by_cases hq : q = j
    · subst hq
      simp [updV, upd, vp_nar]
      try rfl
    · simp [updV, upd, hq]) oq
  rw [ws_set (S' := S) (h' := hs h o (upd (h o) j (vp_nar .byte v))) rfl ho (by show Sum.inl _ = Sum.inl _; rw [hs_same]) (fun j hj => ⟨hs_ne hj, rfl⟩)] at hP1
  exact K H1 _ ⟨hP1, by rw [z]; exact hP.2⟩ (hS.put z oq (ws_D.2 o _ ha))
theorem tr_aald {o n q : Nat} {x : Int32} (j : Nat) (hd : decode M.2.1 pc = .ok (.aaload, 1)) (ho : S.1[o]? = some (2, n)) (hx : x = nI j) (hj : j < n) (hn : n < 2 ^ 31) (hv : S.2 o j = some q) (kk : T a d M (pc + 1) lv (rv a q :: st) S h post) : T a d M pc lv (.int x :: rv a o :: st) S h post := by
  subst hx
  refine t_go (fun p l e R s m args below meth c H locs cells slots ls Q hF hd1 hd2 hc1 hc2 hl hP hS K => ?_) kk
  refine va_aldq hF.1 hF.2.1 hF.2.2.2.2.2.2.2.2.1 hP.1 o 2 (ws_get ho) rfl (vp_in_nI hj hn) hd ?_
  rw [nI_clamp (by omega), hv]
  exact K
theorem tr_aast {o n q N : Nat} {x : Int32} (j : Nat) (hd : decode M.2.1 pc = .ok (.aastore, 1)) (ho : S.1[o]? = some (2, n)) (hx : x = nI j) (hj : j < n) (hn : n < 2 ^ 31) (hq : S.1[q]? = some (5, N)) (kk : T a d M (pc + 1) lv st (S.1, gs S.2 o (va_up (S.2 o) j (some q))) h post) : T a d M pc lv (rv a q :: .int x :: rv a o :: st) S h post := by
  subst hx
  refine t_goH (S1 := (S.1, gs S.2 o (va_up (S.2 o) j (some q)))) rfl (fun p l e R s m args below meth c H locs cells slots ls Q hF hd1 hd2 hl hP hS K => ?_) kk
  have ha : (wsOf a S h)[o]? = some (aN a + o, .inl (a.2.1.2.2, n, .inr (.inr (.inr (.inr (fun k => (S.2 o k).map (aN a + ·))))))) := ws_get ho
  have hv : (wsOf a S h)[q]? = some (aN a + q, .inr (2, fvL a S h q 2)) := ws_get hq
  have hK := hF.2.2.2.2.2.2.2.2.1
  have hc : vwC[2]? = some (RX2, TX2, 3) := rfl
  obtain ⟨r', hr', cellV, g1, g2, g3, -⟩ := hP.1 q _ hv
  have hcls := (hK.1 2 _ hc).2
  obtain ⟨kA, comp, k1, k2, k3, -⟩ := (hK.2 2 _ rfl).2
  have hcomp : comp = a.1.1 2 := Option.some.inj (k3.symm.trans hcls.1)
  subst hcomp
  obtain ⟨kC, hkC, -⟩ := hcls.2
  refine W.aast hF.1 hF.2.1 (hP.1 o _ ha) (fun q h => by cases h) (fun h => by cases h) k1 k2 rfl hkC ⟨nI_pos (by omega), by show _ < (arrV _ _ _).slots.size; rw [arrV_size, nI_clamp (by omega)]; exact hj⟩ g1 (fun q h => by rw [g3] at h; cases h) (by rw [g2]; exact hkC) (by rw [g2]; exact va_assign hcls) rfl rfl hd fun H1 e1 z oq => ?_
  have hP1 := hP.1.set (e := .inl (a.2.1.2.2, n, .inr (.inr (.inr (.inr (va_up (fun k => (S.2 o k).map (aN a + ·)) j (some (aN a + q)))))))) ws_D ha (by
    show H1[_]? = some (vp_cell _ _)
    rw [e1, vp_cell_q, vp_cell_q, arrV_store, nI_clamp (by omega)]
    congr 2
    funext w
    by_cases hw : w = j
    · subst hw; simp [updV, va_up, va_rf]
    · simp [updV, va_up, hw]) oq
  rw [ws_set (a := a) (S := S) (h := h) (S' := (S.1, gs S.2 o (va_up (S.2 o) j (some q)))) (h' := h) (e' := .inl (a.2.1.2.2, n, .inr (.inr (.inr (.inr (va_up (fun k => (S.2 o k).map (aN a + ·)) j (some (aN a + q)))))))) rfl ho (by
    show Sum.inl _ = Sum.inl _
    congr 7
    funext w
    show Option.map _ (gs S.2 o (va_up (S.2 o) j (some q)) o w) = _
    rw [gs_same]
    by_cases hw : w = j
    · subst hw; simp [va_up]
    · simp [va_up, hw]) (fun j hj => ⟨rfl, gs_ne hj⟩)] at hP1
  exact K H1 _ ⟨hP1, by rw [z]; exact hP.2⟩ (hS.put z oq (ws_D.2 o _ ha))
theorem tr_alenI {o n : Nat} {v : Int32} (hd : decode M.2.1 pc = .ok (.arraylength, 1)) (ho : S.1[o]? = some (0, n)) (hv : nI n = v) (kk : T a d M (pc + 1) lv (.int v :: st) S h post) : T a d M pc lv (rv a o :: st) S h post := t_go (fun p l e R s m args below meth c H locs cells slots ls Q hF hd1 hd2 hc1 hc2 hl hP hS K => va_alen hF.1 hF.2.1 hF.2.2.2.2.2.2.2.2.1 hP.1 o 0 (ws_get ho) rfl hv hd K) kk
theorem tr_sld {x v : Int32} (j : Nat) (hd : decode M.2.1 pc = .ok (.iaload, 1)) (hx : x = nI j) (hj : j < a.2.2.2.1.2.1) (hn : a.2.2.2.1.2.1 < 2 ^ 31) (hv : a.2.2.2.1.2.2 j = v) (kk : T a d M (pc + 1) lv (.int v :: st) S h post) : T a d M pc lv (.int x :: .ref a.2.2.2.1.1 :: st) S h post := by
  subst hv; subst hx
  refine t_go (fun p l e R s m args below meth c H locs cells slots ls Q hF hd1 hd2 hc1 hc2 hl hP hS K => ?_) kk
  obtain ⟨-, -, -, ⟨hX, hb⟩, hz, -⟩ := hF.2.2.2.2.2.2.2.2
  refine va_sld hF.1 hF.2.1 hX (by omega) (show ¬ aN a ≤ _ by omega) hS (vp_in_nI hj hn) hd ?_
  rw [nI_clamp (by omega)]
  exact K
theorem tr_slen (hd : decode M.2.1 pc = .ok (.arraylength, 1)) (kk : T a d M (pc + 1) lv (.int (nI a.2.2.2.1.2.1) :: st) S h post) : T a d M pc lv (.ref a.2.2.2.1.1 :: st) S h post := by
  refine t_go (fun p l e R s m args below meth c H locs cells slots ls Q hF hd1 hd2 hc1 hc2 hl hP hS K => ?_) kk
  obtain ⟨-, -, -, ⟨hX, hb⟩, hz, -⟩ := hF.2.2.2.2.2.2.2.2
  exact va_slen hF.1 hF.2.1 hX (by omega) (show ¬ aN a ≤ _ by omega) hS hd K

end ROWS
