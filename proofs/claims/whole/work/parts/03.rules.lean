section MMR
variable {M : mm_M} {Fr : mm_T} {cs ss pc pc' : Nat} {l l' : List (Nat × Value)} {rest : List Value} {ws ws' : mm_W}
theorem mm_sub (ks : List Nat) (h : lv_pick l ks = l') (k : mm_Wp M Fr cs ss pc l' rest ws) : mm_Wp M Fr cs ss pc l rest ws := by
  intro p la e s m args below meth c D ad ck A H locs ls Q hF hFr hP hD hS hl
  exact k.use hF hFr hP hD hS (lv_sub hl ks (by rw [mm_l_pick, h]))
theorem mm_iload_n {k : Fin 4} {i : Nat} {x : Int32} (q : Nat) (hd : decode M.2.1 pc = .ok (.iload_n k, 1)) (hq : l[q]? = some (i, .int x)) (hi : (k : Nat) = i) (hp : pc + 1 = pc') (kk : mm_Wp M Fr cs ss pc' l (.int x :: rest) ws) : mm_Wp M Fr cs ss pc l rest ws := by
  subst hp
  intro p la e s m args below meth c D ad ck A H locs ls Q hF hFr hP hD hS hl
  exact lv_iload_n hF.1 hF.2.1 hd hi (lv_at hl q (mm_l_at hq)) (kk.use hF hFr hP hD hS hl)
theorem mm_iload {i : Nat} {x : Int32} (q : Nat) (hd : decode M.2.1 pc = .ok (.iload i, 2)) (hq : l[q]? = some (i, .int x)) (hp : pc + 2 = pc') (kk : mm_Wp M Fr cs ss pc' l (.int x :: rest) ws) : mm_Wp M Fr cs ss pc l rest ws := by
  subst hp
  intro p la e s m args below meth c D ad ck A H locs ls Q hF hFr hP hD hS hl
  exact lv_iload hF.1 hF.2.1 hd (lv_at hl q (mm_l_at hq)) (kk.use hF hFr hP hD hS hl)
theorem mm_lload_n {k : Fin 4} {i : Nat} {x : Int64} (q : Nat) (hd : decode M.2.1 pc = .ok (.lload_n k, 1)) (hq : l[q]? = some (i, .long x)) (hi : (k : Nat) = i) (hp : pc + 1 = pc') (kk : mm_Wp M Fr cs ss pc' l (.long x :: rest) ws) : mm_Wp M Fr cs ss pc l rest ws := by
  subst hp
  intro p la e s m args below meth c D ad ck A H locs ls Q hF hFr hP hD hS hl
  exact lv_lload_n hF.1 hF.2.1 hd hi (lv_at hl q (mm_l_at hq)) (kk.use hF hFr hP hD hS hl)
theorem mm_lload {i : Nat} {x : Int64} (q : Nat) (hd : decode M.2.1 pc = .ok (.lload i, 2)) (hq : l[q]? = some (i, .long x)) (hp : pc + 2 = pc') (kk : mm_Wp M Fr cs ss pc' l (.long x :: rest) ws) : mm_Wp M Fr cs ss pc l rest ws := by
  subst hp
  intro p la e s m args below meth c D ad ck A H locs ls Q hF hFr hP hD hS hl
  exact lv_lload hF.1 hF.2.1 hd (lv_at hl q (mm_l_at hq)) (kk.use hF hFr hP hD hS hl)
theorem mm_aload_n {k : Fin 4} {i : Nat} {x : Nat} (q : Nat) (hd : decode M.2.1 pc = .ok (.aload_n k, 1)) (hq : l[q]? = some (i, .ref x)) (hi : (k : Nat) = i) (hp : pc + 1 = pc') (kk : mm_Wp M Fr cs ss pc' l (.ref x :: rest) ws) : mm_Wp M Fr cs ss pc l rest ws := by
  subst hp
  intro p la e s m args below meth c D ad ck A H locs ls Q hF hFr hP hD hS hl
  exact lv_aload_n hF.1 hF.2.1 hd hi (lv_at hl q (mm_l_at hq)) (kk.use hF hFr hP hD hS hl)
theorem mm_aload {i : Nat} {x : Nat} (q : Nat) (hd : decode M.2.1 pc = .ok (.aload i, 2)) (hq : l[q]? = some (i, .ref x)) (hp : pc + 2 = pc') (kk : mm_Wp M Fr cs ss pc' l (.ref x :: rest) ws) : mm_Wp M Fr cs ss pc l rest ws := by
  subst hp
  intro p la e s m args below meth c D ad ck A H locs ls Q hF hFr hP hD hS hl
  exact lv_aload hF.1 hF.2.1 hd (lv_at hl q (mm_l_at hq)) (kk.use hF hFr hP hD hS hl)
theorem mm_istore_n {k : Fin 4} {i : Nat} {x : Int32} (hd : decode M.2.1 pc = .ok (.istore_n k, 1)) (hi : (k : Nat) = i) (hn : i < M.2.2.1) (hl' : mm_put i (.int x) l = l') (hp : pc + 1 = pc') (kk : mm_Wp M Fr cs ss pc' l' rest ws) : mm_Wp M Fr cs ss pc l (.int x :: rest) ws := by
  subst hp; subst hl'
  intro p la e s m args below meth c D ad ck A H locs ls Q hF hFr hP hD hS hl
  exact lv_istore_n hF.1 hF.2.1 hd hi hl hn (mm_l_put (v := .int x)) (fun ls' h => kk.use hF hFr hP hD hS h)
theorem mm_istore {i : Nat} {x : Int32} (hd : decode M.2.1 pc = .ok (.istore i, 2)) (hn : i < M.2.2.1) (hl' : mm_put i (.int x) l = l') (hp : pc + 2 = pc') (kk : mm_Wp M Fr cs ss pc' l' rest ws) : mm_Wp M Fr cs ss pc l (.int x :: rest) ws := by
  subst hp; subst hl'
  intro p la e s m args below meth c D ad ck A H locs ls Q hF hFr hP hD hS hl
  exact lv_istore hF.1 hF.2.1 hd hl hn (mm_l_put (v := .int x)) (fun ls' h => kk.use hF hFr hP hD hS h)
theorem mm_lstore_n {k : Fin 4} {i : Nat} {x : Int64} (hd : decode M.2.1 pc = .ok (.lstore_n k, 1)) (hi : (k : Nat) = i) (hn : i + 1 < M.2.2.1) (hl' : mm_put2 i (.long x) l = l') (hp : pc + 1 = pc') (kk : mm_Wp M Fr cs ss pc' l' rest ws) : mm_Wp M Fr cs ss pc l (.long x :: rest) ws := by
  subst hp; subst hl'
  intro p la e s m args below meth c D ad ck A H locs ls Q hF hFr hP hD hS hl
  exact lv_lstore_n hF.1 hF.2.1 hd hi hl hn (mm_l_put2 (v := .long x)) (fun ls' h => kk.use hF hFr hP hD hS h)
theorem mm_lstore {i : Nat} {x : Int64} (hd : decode M.2.1 pc = .ok (.lstore i, 2)) (hn : i + 1 < M.2.2.1) (hl' : mm_put2 i (.long x) l = l') (hp : pc + 2 = pc') (kk : mm_Wp M Fr cs ss pc' l' rest ws) : mm_Wp M Fr cs ss pc l (.long x :: rest) ws := by
  subst hp; subst hl'
  intro p la e s m args below meth c D ad ck A H locs ls Q hF hFr hP hD hS hl
  exact lv_lstore hF.1 hF.2.1 hd hl hn (mm_l_put2 (v := .long x)) (fun ls' h => kk.use hF hFr hP hD hS h)
theorem mm_astore_n {k : Fin 4} {i : Nat} {x : Nat} (hd : decode M.2.1 pc = .ok (.astore_n k, 1)) (hi : (k : Nat) = i) (hn : i < M.2.2.1) (hl' : mm_put i (.ref x) l = l') (hp : pc + 1 = pc') (kk : mm_Wp M Fr cs ss pc' l' rest ws) : mm_Wp M Fr cs ss pc l (.ref x :: rest) ws := by
  subst hp; subst hl'
  intro p la e s m args below meth c D ad ck A H locs ls Q hF hFr hP hD hS hl
  exact lv_astore_n hF.1 hF.2.1 hd hi hl hn (mm_l_put (v := .ref x)) (fun ls' h => kk.use hF hFr hP hD hS h)
theorem mm_iinc {i : Nat} {n : Int} {x v : Int32} (q : Nat) (hd : decode M.2.1 pc = .ok (.iinc i n, 3)) (hq : l[q]? = some (i, .int x)) (hv : Int32.ofInt n = v) (hn : i < M.2.2.1) (hl' : mm_put i (.int (x + v)) l = l') (hp : pc + 3 = pc') (kk : mm_Wp M Fr cs ss pc' l' rest ws) : mm_Wp M Fr cs ss pc l rest ws := by
  subst hp; subst hl'; subst hv
  intro p la e s m args below meth c D ad ck A H locs ls Q hF hFr hP hD hS hl
  exact lv_iinc hF.1 hF.2.1 hd hl (mm_l_at hq) rfl hn (mm_l_put (v := .int (x + Int32.ofInt n))) (fun ls' h => kk.use hF hFr hP hD hS h)
theorem mm_iconst {n : Int} {v : Int32} (hd : decode M.2.1 pc = .ok (.iconst n, 1)) (hv : Int32.ofInt n = v) (hp : pc + 1 = pc') (kk : mm_Wp M Fr cs ss pc' l (.int v :: rest) ws) : mm_Wp M Fr cs ss pc l rest ws := by
  subst hp
  intro p la e s m args below meth c D ad ck A H locs ls Q hF hFr hP hD hS hl
  exact lv_iconst hF.1 hF.2.1 hd hv (kk.use hF hFr hP hD hS hl)
theorem mm_bipush {n : Int} {v : Int32} (hd : decode M.2.1 pc = .ok (.bipush n, 2)) (hv : (Int8.ofInt n).toInt32 = v) (hp : pc + 2 = pc') (kk : mm_Wp M Fr cs ss pc' l (.int v :: rest) ws) : mm_Wp M Fr cs ss pc l rest ws := by
  subst hp
  intro p la e s m args below meth c D ad ck A H locs ls Q hF hFr hP hD hS hl
  exact lv_bipush hF.1 hF.2.1 hd hv (kk.use hF hFr hP hD hS hl)
theorem mm_sipush {n : Int} {v : Int32} (hd : decode M.2.1 pc = .ok (.sipush n, 3)) (hv : (Int16.ofInt n).toInt32 = v) (hp : pc + 3 = pc') (kk : mm_Wp M Fr cs ss pc' l (.int v :: rest) ws) : mm_Wp M Fr cs ss pc l rest ws := by
  subst hp
  intro p la e s m args below meth c D ad ck A H locs ls Q hF hFr hP hD hS hl
  exact lv_sipush hF.1 hF.2.1 hd hv (kk.use hF hFr hP hD hS hl)
theorem mm_lconst {n : Fin 2} {v : Int64} (hd : decode M.2.1 pc = .ok (.lconst n, 1)) (hv : Int64.ofNat (n : Nat) = v) (hp : pc + 1 = pc') (kk : mm_Wp M Fr cs ss pc' l (.long v :: rest) ws) : mm_Wp M Fr cs ss pc l rest ws := by
  subst hp
  intro p la e s m args below meth c D ad ck A H locs ls Q hF hFr hP hD hS hl
  exact lv_lconst hF.1 hF.2.1 hd hv (kk.use hF hFr hP hD hS hl)
theorem mm_ldc {ix : Nat} {v : Int32} (hc : Cond.constant M.1.cls ix v ∈ mm_big) (hd : decode M.2.1 pc = .ok (.ldc ix, 2)) (hp : pc + 2 = pc') (kk : mm_Wp M Fr cs ss pc' l (.int v :: rest) ws) : mm_Wp M Fr cs ss pc l rest ws := by
  subst hp
  intro p la e s m args below meth c D ad ck A H locs ls Q hF hFr hP hD hS hl
  exact lv_ldc hF.1 hF.2.1 hF.2.2.2.1 (hF.2.2.2.2.1 _ hc) hd (kk.use hF hFr hP hD hS hl)
theorem mm_ldcw {ix : Nat} {v : Int32} (hc : Cond.constant M.1.cls ix v ∈ mm_big) (hd : decode M.2.1 pc = .ok (.ldc_w ix, 3)) (hp : pc + 3 = pc') (kk : mm_Wp M Fr cs ss pc' l (.int v :: rest) ws) : mm_Wp M Fr cs ss pc l rest ws := by
  subst hp
  intro p la e s m args below meth c D ad ck A H locs ls Q hF hFr hP hD hS hl
  exact lv_ldcw hF.1 hF.2.1 hF.2.2.2.1 (hF.2.2.2.2.1 _ hc) hd (kk.use hF hFr hP hD hS hl)
theorem mm_ldc2 {ix : Nat} {v : Int64} (hc : Cond.constantLong M.1.cls ix v ∈ mm_big) (hd : decode M.2.1 pc = .ok (.ldc2_w ix, 3)) (hp : pc + 3 = pc') (kk : mm_Wp M Fr cs ss pc' l (.long v :: rest) ws) : mm_Wp M Fr cs ss pc l rest ws := by
  subst hp
  intro p la e s m args below meth c D ad ck A H locs ls Q hF hFr hP hD hS hl
  exact lv_ldc2 hF.1 hF.2.1 hF.2.2.2.1 (hF.2.2.2.2.1 _ hc) hd (kk.use hF hFr hP hD hS hl)
theorem mm_dup {v : Value} (hd : decode M.2.1 pc = .ok (.dup, 1)) (hv : v.category = 1) (hp : pc + 1 = pc') (kk : mm_Wp M Fr cs ss pc' l (v :: v :: rest) ws) : mm_Wp M Fr cs ss pc l (v :: rest) ws := by
  subst hp
  intro p la e s m args below meth c D ad ck A H locs ls Q hF hFr hP hD hS hl
  exact lv_dup hF.1 hF.2.1 hd (by rw [mm_v_cat]; exact hv) (kk.use hF hFr hP hD hS hl)
theorem mm_dup2 {v w : Value} (hd : decode M.2.1 pc = .ok (.dup2, 1)) (hv : v.category = 1) (hw : w.category = 1) (hp : pc + 1 = pc') (kk : mm_Wp M Fr cs ss pc' l (v :: w :: v :: w :: rest) ws) : mm_Wp M Fr cs ss pc l (v :: w :: rest) ws := by
  subst hp
  intro p la e s m args below meth c D ad ck A H locs ls Q hF hFr hP hD hS hl
  exact lv_dup2_11 hF.1 hF.2.1 hd (by rw [mm_v_cat]; first | exact hv | exact hw) (by rw [mm_v_cat]; first | exact hw | exact hv) (kk.use hF hFr hP hD hS hl)
theorem mm_pop {v : Value} (hd : decode M.2.1 pc = .ok (.pop, 1)) (hv : v.category = 1) (hp : pc + 1 = pc') (kk : mm_Wp M Fr cs ss pc' l rest ws) : mm_Wp M Fr cs ss pc l (v :: rest) ws := by
  subst hp
  intro p la e s m args below meth c D ad ck A H locs ls Q hF hFr hP hD hS hl
  exact lv_pop hF.1 hF.2.1 hd (by rw [mm_v_cat]; exact hv) (kk.use hF hFr hP hD hS hl)
theorem mm_iadd {x : Int32} {y : Int32} (hd : decode M.2.1 pc = .ok (.iadd, 1)) (hp : pc + 1 = pc') (kk : mm_Wp M Fr cs ss pc' l (.int (x + y) :: rest) ws) : mm_Wp M Fr cs ss pc l (.int y :: .int x :: rest) ws := by
  subst hp
  intro p la e s m args below meth c D ad ck A H locs ls Q hF hFr hP hD hS hl
  exact lv_iadd hF.1 hF.2.1 hd (kk.use hF hFr hP hD hS hl)
theorem mm_isub {x : Int32} {y : Int32} (hd : decode M.2.1 pc = .ok (.isub, 1)) (hp : pc + 1 = pc') (kk : mm_Wp M Fr cs ss pc' l (.int (x - y) :: rest) ws) : mm_Wp M Fr cs ss pc l (.int y :: .int x :: rest) ws := by
  subst hp
  intro p la e s m args below meth c D ad ck A H locs ls Q hF hFr hP hD hS hl
  exact lv_isub hF.1 hF.2.1 hd (kk.use hF hFr hP hD hS hl)
theorem mm_imul {x : Int32} {y : Int32} (hd : decode M.2.1 pc = .ok (.imul, 1)) (hp : pc + 1 = pc') (kk : mm_Wp M Fr cs ss pc' l (.int (x * y) :: rest) ws) : mm_Wp M Fr cs ss pc l (.int y :: .int x :: rest) ws := by
  subst hp
  intro p la e s m args below meth c D ad ck A H locs ls Q hF hFr hP hD hS hl
  exact lv_imul hF.1 hF.2.1 hd (kk.use hF hFr hP hD hS hl)
theorem mm_iand {x : Int32} {y : Int32} (hd : decode M.2.1 pc = .ok (.iand, 1)) (hp : pc + 1 = pc') (kk : mm_Wp M Fr cs ss pc' l (.int (x &&& y) :: rest) ws) : mm_Wp M Fr cs ss pc l (.int y :: .int x :: rest) ws := by
  subst hp
  intro p la e s m args below meth c D ad ck A H locs ls Q hF hFr hP hD hS hl
  exact lv_iand hF.1 hF.2.1 hd (kk.use hF hFr hP hD hS hl)
theorem mm_ior {x : Int32} {y : Int32} (hd : decode M.2.1 pc = .ok (.ior, 1)) (hp : pc + 1 = pc') (kk : mm_Wp M Fr cs ss pc' l (.int (x ||| y) :: rest) ws) : mm_Wp M Fr cs ss pc l (.int y :: .int x :: rest) ws := by
  subst hp
  intro p la e s m args below meth c D ad ck A H locs ls Q hF hFr hP hD hS hl
  exact lv_ior hF.1 hF.2.1 hd (kk.use hF hFr hP hD hS hl)
theorem mm_ixor {x : Int32} {y : Int32} (hd : decode M.2.1 pc = .ok (.ixor, 1)) (hp : pc + 1 = pc') (kk : mm_Wp M Fr cs ss pc' l (.int (x ^^^ y) :: rest) ws) : mm_Wp M Fr cs ss pc l (.int y :: .int x :: rest) ws := by
  subst hp
  intro p la e s m args below meth c D ad ck A H locs ls Q hF hFr hP hD hS hl
  exact lv_ixor hF.1 hF.2.1 hd (kk.use hF hFr hP hD hS hl)
theorem mm_ladd {x : Int64} {y : Int64} (hd : decode M.2.1 pc = .ok (.ladd, 1)) (hp : pc + 1 = pc') (kk : mm_Wp M Fr cs ss pc' l (.long (x + y) :: rest) ws) : mm_Wp M Fr cs ss pc l (.long y :: .long x :: rest) ws := by
  subst hp
  intro p la e s m args below meth c D ad ck A H locs ls Q hF hFr hP hD hS hl
  exact lv_ladd hF.1 hF.2.1 hd (kk.use hF hFr hP hD hS hl)
theorem mm_lmul {x : Int64} {y : Int64} (hd : decode M.2.1 pc = .ok (.lmul, 1)) (hp : pc + 1 = pc') (kk : mm_Wp M Fr cs ss pc' l (.long (x * y) :: rest) ws) : mm_Wp M Fr cs ss pc l (.long y :: .long x :: rest) ws := by
  subst hp
  intro p la e s m args below meth c D ad ck A H locs ls Q hF hFr hP hD hS hl
  exact lv_lmul hF.1 hF.2.1 hd (kk.use hF hFr hP hD hS hl)
theorem mm_land {x : Int64} {y : Int64} (hd : decode M.2.1 pc = .ok (.land, 1)) (hp : pc + 1 = pc') (kk : mm_Wp M Fr cs ss pc' l (.long (x &&& y) :: rest) ws) : mm_Wp M Fr cs ss pc l (.long y :: .long x :: rest) ws := by
  subst hp
  intro p la e s m args below meth c D ad ck A H locs ls Q hF hFr hP hD hS hl
  exact lv_land hF.1 hF.2.1 hd (kk.use hF hFr hP hD hS hl)
theorem mm_lor {x : Int64} {y : Int64} (hd : decode M.2.1 pc = .ok (.lor, 1)) (hp : pc + 1 = pc') (kk : mm_Wp M Fr cs ss pc' l (.long (x ||| y) :: rest) ws) : mm_Wp M Fr cs ss pc l (.long y :: .long x :: rest) ws := by
  subst hp
  intro p la e s m args below meth c D ad ck A H locs ls Q hF hFr hP hD hS hl
  exact lv_lor hF.1 hF.2.1 hd (kk.use hF hFr hP hD hS hl)
theorem mm_lxor {x : Int64} {y : Int64} (hd : decode M.2.1 pc = .ok (.lxor, 1)) (hp : pc + 1 = pc') (kk : mm_Wp M Fr cs ss pc' l (.long (x ^^^ y) :: rest) ws) : mm_Wp M Fr cs ss pc l (.long y :: .long x :: rest) ws := by
  subst hp
  intro p la e s m args below meth c D ad ck A H locs ls Q hF hFr hP hD hS hl
  exact lv_lxor hF.1 hF.2.1 hd (kk.use hF hFr hP hD hS hl)
theorem mm_idiv {x : Int32} {y : Int32} (hd : decode M.2.1 pc = .ok (.idiv, 1)) (hy : ¬ y = 0) (hp : pc + 1 = pc') (kk : mm_Wp M Fr cs ss pc' l (.int (x / y) :: rest) ws) : mm_Wp M Fr cs ss pc l (.int y :: .int x :: rest) ws := by
  subst hp
  intro p la e s m args below meth c D ad ck A H locs ls Q hF hFr hP hD hS hl
  exact lv_idiv hF.1 hF.2.1 hd hy (kk.use hF hFr hP hD hS hl)
theorem mm_irem {x : Int32} {y : Int32} (hd : decode M.2.1 pc = .ok (.irem, 1)) (hy : ¬ y = 0) (hp : pc + 1 = pc') (kk : mm_Wp M Fr cs ss pc' l (.int (x - x / y * y) :: rest) ws) : mm_Wp M Fr cs ss pc l (.int y :: .int x :: rest) ws := by
  subst hp
  intro p la e s m args below meth c D ad ck A H locs ls Q hF hFr hP hD hS hl
  exact lv_irem hF.1 hF.2.1 hd hy (kk.use hF hFr hP hD hS hl)
theorem mm_ishl {x : Int32} {y : Int32} (hd : decode M.2.1 pc = .ok (.ishl, 1)) (hp : pc + 1 = pc') (kk : mm_Wp M Fr cs ss pc' l (.int (x <<< (y &&& 31)) :: rest) ws) : mm_Wp M Fr cs ss pc l (.int y :: .int x :: rest) ws := by
  subst hp
  intro p la e s m args below meth c D ad ck A H locs ls Q hF hFr hP hD hS hl
  exact lv_ishl hF.1 hF.2.1 hd (kk.use hF hFr hP hD hS hl)
theorem mm_ishr {x : Int32} {y : Int32} (hd : decode M.2.1 pc = .ok (.ishr, 1)) (hp : pc + 1 = pc') (kk : mm_Wp M Fr cs ss pc' l (.int (x >>> (y &&& 31)) :: rest) ws) : mm_Wp M Fr cs ss pc l (.int y :: .int x :: rest) ws := by
  subst hp
  intro p la e s m args below meth c D ad ck A H locs ls Q hF hFr hP hD hS hl
  exact lv_ishr hF.1 hF.2.1 hd (kk.use hF hFr hP hD hS hl)
theorem mm_iushr {x : Int32} {y : Int32} (hd : decode M.2.1 pc = .ok (.iushr, 1)) (hp : pc + 1 = pc') (kk : mm_Wp M Fr cs ss pc' l (.int ((x.toUInt32 >>> (y.toUInt32 &&& Int32.toUInt32 31)).toInt32) :: rest) ws) : mm_Wp M Fr cs ss pc l (.int y :: .int x :: rest) ws := by
  subst hp
  intro p la e s m args below meth c D ad ck A H locs ls Q hF hFr hP hD hS hl
  exact lv_iushr hF.1 hF.2.1 hd rfl (kk.use hF hFr hP hD hS hl)
theorem mm_lshl {x : Int64} {y : Int32} (hd : decode M.2.1 pc = .ok (.lshl, 1)) (hp : pc + 1 = pc') (kk : mm_Wp M Fr cs ss pc' l (.long (x <<< (y.toInt64 &&& 63)) :: rest) ws) : mm_Wp M Fr cs ss pc l (.int y :: .long x :: rest) ws := by
  subst hp
  intro p la e s m args below meth c D ad ck A H locs ls Q hF hFr hP hD hS hl
  exact lv_lshl hF.1 hF.2.1 hd rfl (kk.use hF hFr hP hD hS hl)
theorem mm_lshr {x : Int64} {y : Int32} (hd : decode M.2.1 pc = .ok (.lshr, 1)) (hp : pc + 1 = pc') (kk : mm_Wp M Fr cs ss pc' l (.long (x >>> (y.toInt64 &&& 63)) :: rest) ws) : mm_Wp M Fr cs ss pc l (.int y :: .long x :: rest) ws := by
  subst hp
  intro p la e s m args below meth c D ad ck A H locs ls Q hF hFr hP hD hS hl
  exact lv_lshr hF.1 hF.2.1 hd rfl (kk.use hF hFr hP hD hS hl)
theorem mm_lushr {x : Int64} {y : Int32} (hd : decode M.2.1 pc = .ok (.lushr, 1)) (hp : pc + 1 = pc') (kk : mm_Wp M Fr cs ss pc' l (.long ((x.toUInt64 >>> (y.toInt64.toUInt64 &&& Int64.toUInt64 63)).toInt64) :: rest) ws) : mm_Wp M Fr cs ss pc l (.int y :: .long x :: rest) ws := by
  subst hp
  intro p la e s m args below meth c D ad ck A H locs ls Q hF hFr hP hD hS hl
  exact lv_lushr hF.1 hF.2.1 hd rfl (kk.use hF hFr hP hD hS hl)
theorem mm_lsub {x : Int64} {y : Int64} (hd : decode M.2.1 pc = .ok (.lsub, 1)) (hp : pc + 1 = pc') (kk : mm_Wp M Fr cs ss pc' l (.long (x - y) :: rest) ws) : mm_Wp M Fr cs ss pc l (.long y :: .long x :: rest) ws := by
  subst hp
  intro p la e s m args below meth c D ad ck A H locs ls Q hF hFr hP hD hS hl
  exact lv_lsub hF.1 hF.2.1 hd (kk.use hF hFr hP hD hS hl)
theorem mm_lcmp {x y : Int64} (hd : decode M.2.1 pc = .ok (.lcmp, 1)) (hp : pc + 1 = pc') (kk : mm_Wp M Fr cs ss pc' l (.int (lg_cmp x y) :: rest) ws) : mm_Wp M Fr cs ss pc l (.long y :: .long x :: rest) ws := by
  subst hp
  intro p la e s m args below meth c D ad ck A H locs ls Q hF hFr hP hD hS hl
  exact W.lcmp hF.1 hF.2.1 hd (kk.use hF hFr hP hD hS hl)
theorem mm_i2l {x : Int32} (hd : decode M.2.1 pc = .ok (.i2l, 1)) (hp : pc + 1 = pc') (kk : mm_Wp M Fr cs ss pc' l (.long x.toInt64 :: rest) ws) : mm_Wp M Fr cs ss pc l (.int x :: rest) ws := by
  subst hp
  intro p la e s m args below meth c D ad ck A H locs ls Q hF hFr hP hD hS hl
  exact lv_i2l hF.1 hF.2.1 hd rfl (kk.use hF hFr hP hD hS hl)
theorem mm_l2i {x : Int64} (hd : decode M.2.1 pc = .ok (.l2i, 1)) (hp : pc + 1 = pc') (kk : mm_Wp M Fr cs ss pc' l (.int x.toInt32 :: rest) ws) : mm_Wp M Fr cs ss pc l (.long x :: rest) ws := by
  subst hp
  intro p la e s m args below meth c D ad ck A H locs ls Q hF hFr hP hD hS hl
  exact lv_l2i hF.1 hF.2.1 hd rfl (kk.use hF hFr hP hD hS hl)
theorem mm_goto {off : Int} {tgt : Nat} (hd : decode M.2.1 pc = .ok (.goto off, 3)) (ht : (pc : Int) + off = (tgt : Int)) (kk : mm_Wp M Fr cs ss tgt l rest ws) : mm_Wp M Fr cs ss pc l rest ws := by
  intro p la e s m args below meth c D ad ck A H locs ls Q hF hFr hP hD hS hl
  exact lv_goto hF.1 hF.2.1 hd ht (kk.use hF hFr hP hD hS hl)
theorem mm_icmp_eq {x y : Int32} {off : Int} {tgt : Nat} (hd : decode M.2.1 pc = .ok (.if_icmp .eq off, 3)) (ht : (pc : Int) + off = (tgt : Int)) (hp : pc + 3 = pc') (kt : x = y → mm_Wp M Fr cs ss tgt l rest ws) (kf : ¬ x = y → mm_Wp M Fr cs ss pc' l rest ws) : mm_Wp M Fr cs ss pc l (.int y :: .int x :: rest) ws := by
  subst hp
  intro p la e s m args below meth c D ad ck A H locs ls Q hF hFr hP hD hS hl
  exact lv_icmp_eq hF.1 hF.2.1 hd ht (fun h => (kt h).use hF hFr hP hD hS hl) (fun h => (kf h).use hF hFr hP hD hS hl)
theorem mm_if_eq {x : Int32} {off : Int} {tgt : Nat} (hd : decode M.2.1 pc = .ok (.ifCond .eq off, 3)) (ht : (pc : Int) + off = (tgt : Int)) (hp : pc + 3 = pc') (kt : x = 0 → mm_Wp M Fr cs ss tgt l rest ws) (kf : ¬ x = 0 → mm_Wp M Fr cs ss pc' l rest ws) : mm_Wp M Fr cs ss pc l (.int x :: rest) ws := by
  subst hp
  intro p la e s m args below meth c D ad ck A H locs ls Q hF hFr hP hD hS hl
  exact lv_if_eq hF.1 hF.2.1 hd ht (fun h => (kt h).use hF hFr hP hD hS hl) (fun h => (kf h).use hF hFr hP hD hS hl)
theorem mm_icmp_ne {x y : Int32} {off : Int} {tgt : Nat} (hd : decode M.2.1 pc = .ok (.if_icmp .ne off, 3)) (ht : (pc : Int) + off = (tgt : Int)) (hp : pc + 3 = pc') (kt : ¬ x = y → mm_Wp M Fr cs ss tgt l rest ws) (kf : x = y → mm_Wp M Fr cs ss pc' l rest ws) : mm_Wp M Fr cs ss pc l (.int y :: .int x :: rest) ws := by
  subst hp
  intro p la e s m args below meth c D ad ck A H locs ls Q hF hFr hP hD hS hl
  exact lv_icmp_ne hF.1 hF.2.1 hd ht (fun h => (kt h).use hF hFr hP hD hS hl) (fun h => (kf h).use hF hFr hP hD hS hl)
theorem mm_if_ne {x : Int32} {off : Int} {tgt : Nat} (hd : decode M.2.1 pc = .ok (.ifCond .ne off, 3)) (ht : (pc : Int) + off = (tgt : Int)) (hp : pc + 3 = pc') (kt : ¬ x = 0 → mm_Wp M Fr cs ss tgt l rest ws) (kf : x = 0 → mm_Wp M Fr cs ss pc' l rest ws) : mm_Wp M Fr cs ss pc l (.int x :: rest) ws := by
  subst hp
  intro p la e s m args below meth c D ad ck A H locs ls Q hF hFr hP hD hS hl
  exact lv_if_ne hF.1 hF.2.1 hd ht (fun h => (kt h).use hF hFr hP hD hS hl) (fun h => (kf h).use hF hFr hP hD hS hl)
theorem mm_icmp_lt {x y : Int32} {off : Int} {tgt : Nat} (hd : decode M.2.1 pc = .ok (.if_icmp .lt off, 3)) (ht : (pc : Int) + off = (tgt : Int)) (hp : pc + 3 = pc') (kt : x < y → mm_Wp M Fr cs ss tgt l rest ws) (kf : ¬ x < y → mm_Wp M Fr cs ss pc' l rest ws) : mm_Wp M Fr cs ss pc l (.int y :: .int x :: rest) ws := by
  subst hp
  intro p la e s m args below meth c D ad ck A H locs ls Q hF hFr hP hD hS hl
  exact lv_icmp_lt hF.1 hF.2.1 hd ht (fun h => (kt h).use hF hFr hP hD hS hl) (fun h => (kf h).use hF hFr hP hD hS hl)
theorem mm_if_lt {x : Int32} {off : Int} {tgt : Nat} (hd : decode M.2.1 pc = .ok (.ifCond .lt off, 3)) (ht : (pc : Int) + off = (tgt : Int)) (hp : pc + 3 = pc') (kt : x < 0 → mm_Wp M Fr cs ss tgt l rest ws) (kf : ¬ x < 0 → mm_Wp M Fr cs ss pc' l rest ws) : mm_Wp M Fr cs ss pc l (.int x :: rest) ws := by
  subst hp
  intro p la e s m args below meth c D ad ck A H locs ls Q hF hFr hP hD hS hl
  exact lv_if_lt hF.1 hF.2.1 hd ht (fun h => (kt h).use hF hFr hP hD hS hl) (fun h => (kf h).use hF hFr hP hD hS hl)
theorem mm_icmp_ge {x y : Int32} {off : Int} {tgt : Nat} (hd : decode M.2.1 pc = .ok (.if_icmp .ge off, 3)) (ht : (pc : Int) + off = (tgt : Int)) (hp : pc + 3 = pc') (kt : y ≤ x → mm_Wp M Fr cs ss tgt l rest ws) (kf : ¬ y ≤ x → mm_Wp M Fr cs ss pc' l rest ws) : mm_Wp M Fr cs ss pc l (.int y :: .int x :: rest) ws := by
  subst hp
  intro p la e s m args below meth c D ad ck A H locs ls Q hF hFr hP hD hS hl
  exact lv_icmp_ge hF.1 hF.2.1 hd ht (fun h => (kt h).use hF hFr hP hD hS hl) (fun h => (kf h).use hF hFr hP hD hS hl)
theorem mm_if_ge {x : Int32} {off : Int} {tgt : Nat} (hd : decode M.2.1 pc = .ok (.ifCond .ge off, 3)) (ht : (pc : Int) + off = (tgt : Int)) (hp : pc + 3 = pc') (kt : 0 ≤ x → mm_Wp M Fr cs ss tgt l rest ws) (kf : ¬ 0 ≤ x → mm_Wp M Fr cs ss pc' l rest ws) : mm_Wp M Fr cs ss pc l (.int x :: rest) ws := by
  subst hp
  intro p la e s m args below meth c D ad ck A H locs ls Q hF hFr hP hD hS hl
  exact lv_if_ge hF.1 hF.2.1 hd ht (fun h => (kt h).use hF hFr hP hD hS hl) (fun h => (kf h).use hF hFr hP hD hS hl)
theorem mm_icmp_gt {x y : Int32} {off : Int} {tgt : Nat} (hd : decode M.2.1 pc = .ok (.if_icmp .gt off, 3)) (ht : (pc : Int) + off = (tgt : Int)) (hp : pc + 3 = pc') (kt : y < x → mm_Wp M Fr cs ss tgt l rest ws) (kf : ¬ y < x → mm_Wp M Fr cs ss pc' l rest ws) : mm_Wp M Fr cs ss pc l (.int y :: .int x :: rest) ws := by
  subst hp
  intro p la e s m args below meth c D ad ck A H locs ls Q hF hFr hP hD hS hl
  exact lv_icmp_gt hF.1 hF.2.1 hd ht (fun h => (kt h).use hF hFr hP hD hS hl) (fun h => (kf h).use hF hFr hP hD hS hl)
theorem mm_if_gt {x : Int32} {off : Int} {tgt : Nat} (hd : decode M.2.1 pc = .ok (.ifCond .gt off, 3)) (ht : (pc : Int) + off = (tgt : Int)) (hp : pc + 3 = pc') (kt : 0 < x → mm_Wp M Fr cs ss tgt l rest ws) (kf : ¬ 0 < x → mm_Wp M Fr cs ss pc' l rest ws) : mm_Wp M Fr cs ss pc l (.int x :: rest) ws := by
  subst hp
  intro p la e s m args below meth c D ad ck A H locs ls Q hF hFr hP hD hS hl
  exact lv_if_gt hF.1 hF.2.1 hd ht (fun h => (kt h).use hF hFr hP hD hS hl) (fun h => (kf h).use hF hFr hP hD hS hl)
theorem mm_icmp_le {x y : Int32} {off : Int} {tgt : Nat} (hd : decode M.2.1 pc = .ok (.if_icmp .le off, 3)) (ht : (pc : Int) + off = (tgt : Int)) (hp : pc + 3 = pc') (kt : x ≤ y → mm_Wp M Fr cs ss tgt l rest ws) (kf : ¬ x ≤ y → mm_Wp M Fr cs ss pc' l rest ws) : mm_Wp M Fr cs ss pc l (.int y :: .int x :: rest) ws := by
  subst hp
  intro p la e s m args below meth c D ad ck A H locs ls Q hF hFr hP hD hS hl
  exact lv_icmp_le hF.1 hF.2.1 hd ht (fun h => (kt h).use hF hFr hP hD hS hl) (fun h => (kf h).use hF hFr hP hD hS hl)
theorem mm_if_le {x : Int32} {off : Int} {tgt : Nat} (hd : decode M.2.1 pc = .ok (.ifCond .le off, 3)) (ht : (pc : Int) + off = (tgt : Int)) (hp : pc + 3 = pc') (kt : x ≤ 0 → mm_Wp M Fr cs ss tgt l rest ws) (kf : ¬ x ≤ 0 → mm_Wp M Fr cs ss pc' l rest ws) : mm_Wp M Fr cs ss pc l (.int x :: rest) ws := by
  subst hp
  intro p la e s m args below meth c D ad ck A H locs ls Q hF hFr hP hD hS hl
  exact lv_if_le hF.1 hF.2.1 hd ht (fun h => (kt h).use hF hFr hP hD hS hl) (fun h => (kf h).use hF hFr hP hD hS hl)
theorem mm_tableIn {dflt lo hi : Int} {offs : Array Int} {len : Nat} {x : Int32} {off : Int} {tgt : Nat} (hd : decode M.2.1 pc = .ok (.tableswitch dflt lo hi offs, len)) (h1 : ¬ x.toInt < lo) (h2 : ¬ hi < x.toInt) (ho : offs[(x.toInt - lo).toNat]? = some off) (ht : (pc : Int) + off = (tgt : Int)) (kk : mm_Wp M Fr cs ss tgt l rest ws) : mm_Wp M Fr cs ss pc l (.int x :: rest) ws := by
  intro p la e s m args below meth c D ad ck A H locs ls Q hF hFr hP hD hS hl
  exact lv_tableIn hF.1 hF.2.1 hd h1 h2 ho ht (kk.use hF hFr hP hD hS hl)
theorem mm_tableOut {dflt lo hi : Int} {offs : Array Int} {len : Nat} {x : Int32} {tgt : Nat} (hd : decode M.2.1 pc = .ok (.tableswitch dflt lo hi offs, len)) (h : x.toInt < lo ∨ hi < x.toInt) (ht : (pc : Int) + dflt = (tgt : Int)) (kk : mm_Wp M Fr cs ss tgt l rest ws) : mm_Wp M Fr cs ss pc l (.int x :: rest) ws := by
  intro p la e s m args below meth c D ad ck A H locs ls Q hF hFr hP hD hS hl
  exact lv_tableOut hF.1 hF.2.1 hd h ht (kk.use hF hFr hP hD hS hl)
theorem mm_lookup {dflt : Int} {ps : Array (Int × Int)} {len : Nat} {x : Int32} {off : Int} {tgt : Nat} (hd : decode M.2.1 pc = .ok (.lookupswitch dflt ps, len)) (hs : (ps.toList.zip (ps.toList.drop 1)).all (fun (a, next) => a.1 < next.1) = true) (ho : Op.lookupswitch.offset ps.toList dflt x.toInt = off) (ht : (pc : Int) + off = (tgt : Int)) (kk : mm_Wp M Fr cs ss tgt l rest ws) : mm_Wp M Fr cs ss pc l (.int x :: rest) ws := by
  intro p la e s m args below meth c D ad ck A H locs ls Q hF hFr hP hD hS hl
  exact lv_lookup hF.1 hF.2.1 hd hs ho ht (kk.use hF hFr hP hD hS hl)
end MMR
