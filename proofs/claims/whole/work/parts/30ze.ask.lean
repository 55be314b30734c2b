/-! CALLS THAT ONLY ASK: pains, reads, shape, says, status, count -/
def tw (x : Nat) : Nat → Nat
  | 0 => 0
  | k + 1 => tw x k ||| (((x >>> k) &&& 1) <<< (3 * (k / 3) + 2 - k % 3))
def trn (x : Nat) : Nat := (((x &&& 585) <<< 2) ||| (x &&& 1170)) ||| ((x >>> 2) &&& 585)
theorem tw_all12 : (List.range 4096).all (fun x => decide (tw x 12 = trn x)) = true := by decide +kernel
theorem tw_12 {x : Nat} (h : x < 4096) : tw x 12 = trn x := of_decide_eq_true (List.all_eq_true.mp tw_all12 x (List.mem_range.mpr h))
theorem trn_lt {x : Nat} : trn x < 4096 := by
  unfold trn
  have h1 : x &&& 585 < 2 ^ 10 := Nat.and_lt_two_pow (n := 10) x (by decide)
  have h2 : x &&& 1170 < 2 ^ 12 := Nat.and_lt_two_pow (n := 12) x (by decide)
  have h3 : (x >>> 2) &&& 585 < 2 ^ 12 := Nat.and_lt_two_pow (n := 12) _ (by decide)
  have h4 : (x &&& 585) <<< 2 < 2 ^ 12 := by rw [Nat.shiftLeft_eq]; omega
  exact Nat.or_lt_two_pow (n := 12) (Nat.or_lt_two_pow h4 h2) h3
def sn (v : Int32) (x : Nat) : Nat := if v = 0 then x else trn x
theorem sn_lt {v : Int32} {x : Nat} (h : x < 4096) : sn v x < 4096 := by
  unfold sn
  split
  · exact h
  · exact trn_lt
section
variable {fu : Nat} {s : Nat → Nat} {st ones rf : Nat → Int32}
theorem x7_seen {x : Nat} (v : Int32) (h : x < 4096) : f_X7_seen fu (nI x) v = some (nI (sn v x)) := by
  unfold sn
  rw [f_X7_seen]
  by_cases hv : v = 0
  · rw [if_pos hv, if_pos hv]
  · rw [if_neg hv, if_neg hv]
    simp (disch := omega) only [trn, pz_c0, pz_c1, pz_c2, pz_c3, pz_c4, pz_c5, pz_c6, pz_c7, pz_c8, pz_c9, pz_c10, pz_c11, pz_c12, pz_c13, pz_c14, pz_c15, pz_c16, pz_c17, pz_c18, pz_c19, pz_c20, pz_c21, pz_c22, pz_c23, pz_c24, pz_c25, pz_c26, pz_c27, pz_c28, pz_c29, pz_c30, pz_c31, pz_c32, pz_c33, pz_c34, pz_c35, pz_c36, pz_c42, pz_c48, pz_c57, pz_c59, pz_c60, pz_c63, pz_c64, pz_c66, pz_c96, pz_c97, pz_c99, pz_c100, pz_c122, pz_c127, pz_c128, pz_c200, pz_c255, pz_c299, pz_c300, pz_c336, pz_c354, pz_c585, pz_c666, pz_c708, pz_c1000, pz_c1170, pz_c4095, pz_c4096, pz_c4608, pz_c1000000, nI_add, pk_mul, pk_sub, pz_sub, pk_div, pz_or, pz_and, pz_xor, pz_n31, pz_shl, pz_shr, pz_eq, pz_le, pz_lt, pz_eqm, pz_meq, pz_mmeq, pz_lem, pz_mle, pz_ltm, pz_mlt, pz_mmle, pz_mmlt, pz_rd, pz_ck, pz_let, pz_cl, pz_bind, pz_gd, pz_zbb, eI_of, eI_N, pz_leT, pz_leF, pz_ltT, pz_ltF, pz_eqT, pz_eqF, if_pos, if_neg, if_true, if_false, ite_true, ite_false, pz_b0, pz_b1i, pz_bf, pz_bt, Bool.false_eq_true, Bool.true_eq_false, decide_true, decide_false, and_true, and_false, true_and, false_and, and_self, or_true, or_false, true_or, false_or, or_self, not_true_eq_false, not_false_eq_true, ne_eq, reduceIte, eq_self, upd_at]
theorem x8_turned {x : Nat} (hf : 5000 ≤ fu) (h : x < 4096) : f_X8_turned fu (nI x) = some (nI (trn x)) := by
  rw [f_X8_turned, ← tw_12 h]
  refine pz_up (fun n k => X8_turned_L4 fu (nI x) n (nI (tw x k)) (nI k)) 12 _ (fun n k hk => ?_) (fun n => ?_) fu 0 (by omega) (by omega)
  · rw [X8_turned_L4]
    generalize X8_turned_L4 fu (nI x) n = rec
    simp (disch := omega) only [tw, pz_rm, pz_c0, pz_c1, pz_c2, pz_c3, pz_c4, pz_c5, pz_c6, pz_c7, pz_c8, pz_c9, pz_c10, pz_c11, pz_c12, pz_c13, pz_c14, pz_c15, pz_c16, pz_c17, pz_c18, pz_c19, pz_c20, pz_c21, pz_c22, pz_c23, pz_c24, pz_c25, pz_c26, pz_c27, pz_c28, pz_c29, pz_c30, pz_c31, pz_c32, pz_c33, pz_c34, pz_c35, pz_c36, pz_c42, pz_c48, pz_c57, pz_c59, pz_c60, pz_c63, pz_c64, pz_c66, pz_c96, pz_c97, pz_c99, pz_c100, pz_c122, pz_c127, pz_c128, pz_c200, pz_c255, pz_c299, pz_c300, pz_c336, pz_c354, pz_c585, pz_c666, pz_c708, pz_c1000, pz_c1170, pz_c4095, pz_c4096, pz_c4608, pz_c1000000, nI_add, pk_mul, pk_sub, pz_sub, pk_div, pz_or, pz_and, pz_xor, pz_n31, pz_shl, pz_shr, pz_eq, pz_le, pz_lt, pz_eqm, pz_meq, pz_mmeq, pz_lem, pz_mle, pz_ltm, pz_mlt, pz_mmle, pz_mmlt, pz_rd, pz_ck, pz_let, pz_cl, pz_bind, pz_gd, pz_zbb, eI_of, eI_N, pz_leT, pz_leF, pz_ltT, pz_ltF, pz_eqT, pz_eqF, if_pos, if_neg, if_true, if_false, ite_true, ite_false, pz_b0, pz_b1i, pz_bf, pz_bt, Bool.false_eq_true, Bool.true_eq_false, decide_true, decide_false, and_true, and_false, true_and, false_and, and_self, or_true, or_false, true_or, false_or, or_self, not_true_eq_false, not_false_eq_true, ne_eq, reduceIte, eq_self, upd_at]
  · rw [X8_turned_L4, if_pos (by decide +kernel)]
theorem q_pains {q_wall_wide : Int32} {q_wall_high : Int32} {q_wall_slackNow : Int32} {q_wall_tenants : Int32} {q_wall_letters : Int32} {q_wall_readings : Int32} {q_wall_kinds : Nat → Int32} {q_wall_painOf : Nat → Int32} {q_wall_payFor : Nat → Int32} {q_wall_refused : Nat → Int32} {q_wall_owned : Nat → Int64} {q_wall_litIn : Nat → Int64} {q_wall_shapes : Nat → Int32} {q_wall_readAt : Nat → Int32} {q_wall_meant : Nat → Int32} {q_wall_readSo : Nat → Int32} {u_st u_refused u_ones : Nat → Int32} {q_wereBad q_wereNo q_wereFull : Int32} (v1 : Int32) (v2 : Int32) (hf : 5000 ≤ fu) (I : Iv s) (W : WR q_wall_wide q_wall_high q_wall_slackNow q_wall_tenants q_wall_letters q_wall_readings q_wall_kinds q_wall_painOf q_wall_payFor q_wall_refused q_wall_owned q_wall_litIn q_wall_shapes q_wall_readAt q_wall_meant q_wall_readSo s) (R : SR u_st s) (hS : SS u_refused q_wereBad q_wereNo q_wereFull) : ∃ r u, f_X7_pains fu q_wereBad q_wereNo q_wereFull q_wall_wide q_wall_high q_wall_tenants q_wall_kinds q_wall_painOf q_wall_owned q_wall_litIn v1 v2 = some r ∧ f_X8_pains fu u_st u_refused v1 v2 = some u ∧ r.1 = u.1 ∧ SS u.2 r.2.1 r.2.2.1 r.2.2.2 := by
  obtain ⟨⟨rfl, rfl, rfl, rfl, rfl, rfl⟩, T, L, S, D⟩ := W
  rw [f_X7_pains, f_X8_pains, x7_isHour, pz_bind, x8_isWindow I R, pz_bind]
  have bad : ∃ r u, (X7_pains_J18 fu q_wereBad q_wereNo q_wereFull (nI (s 0)) (nI (s 1)) (nI (s 2)) q_wall_kinds q_wall_painOf q_wall_owned q_wall_litIn) = some r ∧ X8_pains_J25 fu u_st u_refused = some u ∧ r.1 = u.1 ∧ SS u.2 r.2.1 r.2.2.1 r.2.2.2 := by
    rw [X7_pains_J18, c_bad, pz_bind, X8_pains_J25, t_bad, pz_bind]
    exact ⟨_, _, rfl, rfl, rfl, SS_bad hS⟩
  by_cases hh : vN v2 < 4
  · rw [decide_eq_true hh, if_neg b_t, x5_isWindow I, pz_bind]
    cases hw : winB s (vN v1)
    · rw [if_pos b_f, if_pos b_f]
      exact bad
    · rw [if_neg b_t, if_neg b_t, x8_isHour, pz_bind, decide_eq_true hh, if_neg b_t]
      have hc : vN v1 < 60 := by
        have h0 := I.1
        have h1 := I.2.1
        have := of_decide_eq_true hw
        omega
      have ev := vN_e (v := v1) (by omega)
      have ev2 := vN_e (v := v2) (by omega)
      generalize vN v1 = c at *
      generalize vN v2 = h at *
      subst ev
      subst ev2
      rw [x5_painsOfChange hf I T L hh hc, pz_bind, show f_X8_price fu u_st (nI h) (nI c) 0 = _ from x8_price hf I R hh hc okD_0, pz_bind]
      exact ⟨_, _, rfl, rfl, rfl, hS⟩
  · rw [decide_eq_false hh, if_pos b_f]
    cases hw : winB s (vN v1)
    · rw [if_pos b_f]
      exact bad
    · rw [if_neg b_t, x8_isHour, pz_bind, decide_eq_false hh, if_pos b_f]
      exact bad
theorem q_reads {q_wall_wide : Int32} {q_wall_high : Int32} {q_wall_slackNow : Int32} {q_wall_tenants : Int32} {q_wall_letters : Int32} {q_wall_readings : Int32} {q_wall_kinds : Nat → Int32} {q_wall_painOf : Nat → Int32} {q_wall_payFor : Nat → Int32} {q_wall_refused : Nat → Int32} {q_wall_owned : Nat → Int64} {q_wall_litIn : Nat → Int64} {q_wall_shapes : Nat → Int32} {q_wall_readAt : Nat → Int32} {q_wall_meant : Nat → Int32} {q_wall_readSo : Nat → Int32} {u_st u_refused u_ones : Nat → Int32} {q_wereBad q_wereNo q_wereFull : Int32} (v1 : Int32) (v2 : Int32) (hf : 5000 ≤ fu) (I : Iv s) (W : WR q_wall_wide q_wall_high q_wall_slackNow q_wall_tenants q_wall_letters q_wall_readings q_wall_kinds q_wall_painOf q_wall_payFor q_wall_refused q_wall_owned q_wall_litIn q_wall_shapes q_wall_readAt q_wall_meant q_wall_readSo s) (R : SR u_st s) (hS : SS u_refused q_wereBad q_wereNo q_wereFull) (hO : ∀ k, k < 4096 → u_ones k = nI (pc k)) : ∃ r u, f_X7_reads fu q_wereBad q_wereNo q_wereFull q_wall_slackNow q_wall_letters q_wall_shapes v1 v2 = some r ∧ f_X8_reads fu u_st u_refused u_ones v1 v2 = some u ∧ r.1 = u.1 ∧ SS u.2 r.2.1 r.2.2.1 r.2.2.2 := by
  obtain ⟨⟨rfl, rfl, rfl, rfl, rfl, rfl⟩, T, L, S, D⟩ := W
  rw [f_X7_reads, f_X8_reads, x7_isShape, pz_bind, show f_X8_in fu v1 0 4095 = _ from x8_in (lo := 0) (hi := 4095) (by decide) (by decide) v1, pz_bind]
  by_cases hx : vN v1 < 4096
  · have ev := vN_e (v := v1) (by omega)
    rw [decide_eq_true hx, decide_eq_true (show 0 ≤ vN v1 ∧ vN v1 ≤ 4095 by omega), if_neg b_t, if_neg b_t]
    generalize vN v1 = x at *
    subst ev
    rw [x7_seen v2 hx, pz_bind, x5_readAs hf I S (sn_lt hx), pz_bind]
    by_cases h2 : v2 = 0
    · rw [if_pos h2, X8_reads_J31, x8_readAs hf I R hO hx, pz_bind]
      exact ⟨_, _, rfl, rfl, by rw [sn, if_pos h2], hS⟩
    · rw [if_neg h2, x8_turned hf hx, pz_bind, X8_reads_J31, x8_readAs hf I R hO trn_lt, pz_bind]
      exact ⟨_, _, rfl, rfl, by rw [sn, if_neg h2], hS⟩
  · rw [decide_eq_false hx, decide_eq_false (show ¬ (0 ≤ vN v1 ∧ vN v1 ≤ 4095) by omega), if_pos b_f, if_pos b_f, c_bad, pz_bind, t_bad, pz_bind]
    exact ⟨_, _, rfl, rfl, rfl, SS_bad hS⟩
theorem q_shape {q_wall_wide : Int32} {q_wall_high : Int32} {q_wall_slackNow : Int32} {q_wall_tenants : Int32} {q_wall_letters : Int32} {q_wall_readings : Int32} {q_wall_kinds : Nat → Int32} {q_wall_painOf : Nat → Int32} {q_wall_payFor : Nat → Int32} {q_wall_refused : Nat → Int32} {q_wall_owned : Nat → Int64} {q_wall_litIn : Nat → Int64} {q_wall_shapes : Nat → Int32} {q_wall_readAt : Nat → Int32} {q_wall_meant : Nat → Int32} {q_wall_readSo : Nat → Int32} {u_st u_refused u_ones : Nat → Int32} {q_wereBad q_wereNo q_wereFull : Int32} (v1 : Int32) (v2 : Int32) (hf : 5000 ≤ fu) (I : Iv s) (W : WR q_wall_wide q_wall_high q_wall_slackNow q_wall_tenants q_wall_letters q_wall_readings q_wall_kinds q_wall_painOf q_wall_payFor q_wall_refused q_wall_owned q_wall_litIn q_wall_shapes q_wall_readAt q_wall_meant q_wall_readSo s) (R : SR u_st s) (hS : SS u_refused q_wereBad q_wereNo q_wereFull) : ∃ r u, f_X7_shape fu q_wereBad q_wereNo q_wereFull q_wall_wide q_wall_high q_wall_litIn v1 v2 = some r ∧ f_X8_shape fu u_st u_refused v1 v2 = some u ∧ r.1 = u.1 ∧ SS u.2 r.2.1 r.2.2.1 r.2.2.2 := by
  obtain ⟨⟨rfl, rfl, rfl, rfl, rfl, rfl⟩, T, L, S, D⟩ := W
  rw [f_X7_shape, f_X8_shape, x7_isHour, pz_bind, x8_isHour, pz_bind]
  by_cases hh : vN v1 < 4
  · rw [decide_eq_true hh, if_neg b_t, if_neg b_t, x5_isBox I, pz_bind, x8_isBox I R, pz_bind]
    cases hb : boxB s (vN v2)
    · rw [if_pos b_f, if_pos b_f, X7_shape_J18, X8_shape_J24, c_bad, pz_bind, t_bad, pz_bind]
      exact ⟨_, _, rfl, rfl, rfl, SS_bad hS⟩
    · rw [if_neg b_t, if_neg b_t]
      have hc := boxB_lt I hb
      have ev := vN_e (v := v1) (by omega)
      have ev2 := vN_e (v := v2) (by omega)
      generalize vN v1 = h at *
      generalize vN v2 = c at *
      subst ev
      subst ev2
      rw [pz_rd _ _ hh (by omega), L h hh, x7_shapeIn hf (LI_lt s h) (by omega), pz_bind, x8_shapeAt hf I R hh hc, pz_bind, shL_LI hc]
      exact ⟨_, _, rfl, rfl, rfl, hS⟩
  · rw [decide_eq_false hh, if_pos b_f, if_pos b_f, X7_shape_J18, X8_shape_J24, c_bad, pz_bind, t_bad, pz_bind]
    exact ⟨_, _, rfl, rfl, rfl, SS_bad hS⟩
def syM (s : Nat → Nat) (h y m : Nat) (v : Int32) : Nat → Nat
  | 0 => 0
  | k + 1 => if rd s (sn v (shL s h (12 * y + k))) = m then syM s h y m v k ||| (1 <<< k) else syM s h y m v k
theorem q_says {q_wall_wide : Int32} {q_wall_high : Int32} {q_wall_slackNow : Int32} {q_wall_tenants : Int32} {q_wall_letters : Int32} {q_wall_readings : Int32} {q_wall_kinds : Nat → Int32} {q_wall_painOf : Nat → Int32} {q_wall_payFor : Nat → Int32} {q_wall_refused : Nat → Int32} {q_wall_owned : Nat → Int64} {q_wall_litIn : Nat → Int64} {q_wall_shapes : Nat → Int32} {q_wall_readAt : Nat → Int32} {q_wall_meant : Nat → Int32} {q_wall_readSo : Nat → Int32} {u_st u_refused u_ones : Nat → Int32} {q_wereBad q_wereNo q_wereFull : Int32} (v1 : Int32) (v2 : Int32) (v3 : Int32) (v4 : Int32) (hf : 5000 ≤ fu) (I : Iv s) (W : WR q_wall_wide q_wall_high q_wall_slackNow q_wall_tenants q_wall_letters q_wall_readings q_wall_kinds q_wall_painOf q_wall_payFor q_wall_refused q_wall_owned q_wall_litIn q_wall_shapes q_wall_readAt q_wall_meant q_wall_readSo s) (R : SR u_st s) (hS : SS u_refused q_wereBad q_wereNo q_wereFull) (hO : ∀ k, k < 4096 → u_ones k = nI (pc k)) : ∃ r u, f_X7_says fu q_wereBad q_wereNo q_wereFull q_wall_wide q_wall_high q_wall_slackNow q_wall_letters q_wall_litIn q_wall_shapes v1 v2 v3 v4 = some r ∧ f_X8_says fu u_st u_refused u_ones v1 v2 v3 v4 = some u ∧ r.1 = u.1 ∧ SS u.2 r.2.1 r.2.2.1 r.2.2.2 := by
  obtain ⟨⟨rfl, rfl, rfl, rfl, rfl, rfl⟩, T, L, S, D⟩ := W
  have hd := SR_hd I R
  have i0 := I.1
  have i1 := I.2.1
  have i3 := I.2.2.2.1
  have e4 : u_st 1 - 4 = nI (s 1 - 4) := by rw [hd.2.1, pz_c4, pk_sub (by omega)]
  have bad : ∃ r u, (X7_says_J29 fu q_wereBad q_wereNo q_wereFull (nI (s 0)) (nI (s 1)) (nI (s 5)) (nI (s 3)) q_wall_litIn q_wall_shapes) = some r ∧ X8_says_J31 fu u_st u_refused u_ones = some u ∧ r.1 = u.1 ∧ SS u.2 r.2.1 r.2.2.1 r.2.2.2 := by
    rw [X7_says_J29, c_bad, pz_bind, X8_says_J31, t_bad, pz_bind]
    exact ⟨_, _, rfl, rfl, rfl, SS_bad hS⟩
  rw [f_X7_says, f_X8_says, x7_isHour, pz_bind, x8_isHour, pz_bind]
  by_cases hh : vN v1 < 4
  · rw [decide_eq_true hh, if_neg b_t, if_neg b_t, x5_isTop I, pz_bind, e4, show f_X8_in fu v2 0 (nI (s 1 - 4)) = _ from x8_in (lo := 0) (by decide) (by omega) v2, pz_bind]
    by_cases hy : vN v2 + 4 ≤ s 1
    · rw [decide_eq_true hy, decide_eq_true (show 0 ≤ vN v2 ∧ vN v2 ≤ s 1 - 4 by omega), if_neg b_t, if_neg b_t, x5_isLetter i3, pz_bind, x8_isLetter I R, pz_bind]
      by_cases hm : vN v3 < s 3
      · rw [decide_eq_true hm, if_neg b_t, if_neg b_t]
        have ev := vN_e (v := v1) (by omega)
        have ev2 := vN_e (v := v2) (by omega)
        have ev3 := vN_e (v := v3) (by omega)
        generalize vN v1 = h at *
        generalize vN v2 = y at *
        generalize vN v3 = m at *
        subst ev
        subst ev2
        subst ev3
        have a1 := pz_up (fun n k => X7_says_L42 fu q_wereBad q_wereNo q_wereFull (nI (s 0)) (nI (s 1)) (nI (s 5)) (nI (s 3)) q_wall_litIn q_wall_shapes (nI h) (nI y) (nI m) v4 n (nI (syM s h y m v4 k)) (nI k)) (s 0 - 2) (some (nI (syM s h y m v4 (s 0 - 2)), q_wereBad, q_wereNo, q_wereFull)) (fun n k hk => by
          have hc : 12 * y + k < 22 := by omega
          have hr := rd_rng (s := s) (sn v4 (shL s h (12 * y + k)))
          rw [X7_says_L42]
          generalize X7_says_L42 fu q_wereBad q_wereNo q_wereFull (nI (s 0)) (nI (s 1)) (nI (s 5)) (nI (s 3)) q_wall_litIn q_wall_shapes (nI h) (nI y) (nI m) v4 n = rec
          rw [pz_c3, pk_sub (by omega), if_neg (by rw [pz_lt (by omega) (by omega)]; omega), pz_rd _ _ hh (by omega), L h hh, pz_c12, pk_mul, nI_add, x7_shapeIn hf (LI_lt s h) (by omega), pz_bind, shL_LI hc, x7_seen v4 (shL_lt s h _), pz_bind, x5_readAs hf I S (sn_lt (shL_lt s h _)), pz_bind, syM]
          by_cases g : rd s (sn v4 (shL s h (12 * y + k))) = m
          · rw [if_pos (by rw [g, eI_of (by omega)]), if_pos g, pz_let, X7_says_J104, pz_c31, pz_31 (by omega), pz_c1, pz_shl _ (by omega), pz_or, nI_add]
          · rw [if_neg (by rw [eI_lt (by omega) (by omega)]; exact g), if_neg g, X7_says_J104, nI_1]) (fun n => by
          rw [X7_says_L42, pz_c3, pk_sub (by omega), if_pos (by rw [pz_lt (by omega) (by omega)]; omega)]) fu 0 (by omega) (by omega)
        have a2 := pz_up (fun n k => X8_says_L44 fu u_st u_refused u_ones (nI h) (nI y) (nI m) v4 n (nI (syM s h y m v4 k)) (nI k)) (s 0 - 2) (some (nI (syM s h y m v4 (s 0 - 2)), u_refused)) (fun n k hk => by
          have hc : 12 * y + k < 22 := by omega
          have hr := rd_rng (s := s) (sn v4 (shL s h (12 * y + k)))
          have hJ : ∀ rec, X8_says_J89 fu rec u_st u_refused u_ones (nI h) (nI y) (nI m) v4 (nI k) (nI (sn v4 (shL s h (12 * y + k)))) (nI (syM s h y m v4 k)) = rec (nI (syM s h y m v4 (k + 1))) (nI (k + 1)) := by
            intro rec
            rw [X8_says_J89, x8_readAs hf I R hO (sn_lt (shL_lt s h _)), pz_bind, syM]
            by_cases g : rd s (sn v4 (shL s h (12 * y + k))) = m
            · rw [if_pos (by rw [g, eI_of (by omega)]), if_pos g, X8_says_J104, pz_c31, pz_31 (by omega), pz_c1, pz_shl _ (by omega), pz_or, nI_add]
            · rw [if_neg (by rw [eI_lt (by omega) (by omega)]; exact g), if_neg g, X8_says_J104, pz_c0, pz_or, Nat.or_zero, nI_1]
          rw [X8_says_L44]
          generalize X8_says_L44 fu u_st u_refused u_ones (nI h) (nI y) (nI m) v4 n = rec
          rw [hd.1, pz_c2, nI_add, if_neg (by rw [pz_le (by omega) (by omega)]; omega), pz_c12, pk_mul, nI_add, x8_shapeAt hf I R hh hc, pz_bind]
          by_cases h4 : v4 = 0
          · have := hJ rec
            rw [sn, if_pos h4] at this
            rw [if_pos h4]
            exact this
          · have := hJ rec
            rw [sn, if_neg h4] at this
            rw [if_neg h4, x8_turned hf (shL_lt s h _), pz_bind]
            exact this) (fun n => by
          rw [X8_says_L44, hd.1, pz_c2, nI_add, if_pos (by rw [pz_le (by omega) (by omega)]; omega)]) fu 0 (by omega) (by omega)
        exact ⟨_, _, a1, a2, rfl, hS⟩
      · rw [decide_eq_false hm, if_pos b_f, if_pos b_f]
        exact bad
    · rw [decide_eq_false hy, decide_eq_false (show ¬ (0 ≤ vN v2 ∧ vN v2 ≤ s 1 - 4) by omega), if_pos b_f, if_pos b_f]
      exact bad
  · rw [decide_eq_false hh, if_pos b_f, if_pos b_f]
    exact bad
end
