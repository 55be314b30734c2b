/-! THE REFERENCE'S ROWS OF BOXES, AND WORDS -/
section
variable {fu : Nat} {s : Nat → Nat} {st cols : Nat → Int32} {w n : Nat}
theorem wl_rng (w : Nat) : 1 ≤ wl w ∧ wl w ≤ 3 := by
  unfold wl
  repeat' split
  all_goals omega
theorem x8_longOf (hw : w < 1000) : f_X8_longOf fu (nI w) = some (nI (wl w)) := by
  unfold wl
  simp (disch := omega) only [f_X8_longOf, pz_c0, pz_c1, pz_c2, pz_c3, pz_c4, pz_c5, pz_c6, pz_c7, pz_c8, pz_c9, pz_c10, pz_c11, pz_c12, pz_c13, pz_c14, pz_c15, pz_c16, pz_c17, pz_c18, pz_c19, pz_c20, pz_c21, pz_c22, pz_c23, pz_c24, pz_c25, pz_c26, pz_c27, pz_c28, pz_c29, pz_c30, pz_c31, pz_c32, pz_c33, pz_c34, pz_c35, pz_c36, pz_c42, pz_c48, pz_c57, pz_c59, pz_c60, pz_c63, pz_c64, pz_c66, pz_c96, pz_c97, pz_c99, pz_c100, pz_c122, pz_c127, pz_c128, pz_c200, pz_c255, pz_c299, pz_c300, pz_c336, pz_c354, pz_c585, pz_c666, pz_c708, pz_c1000, pz_c1170, pz_c4095, pz_c4096, pz_c4608, pz_c1000000, nI_add, pk_mul, pk_sub, pz_sub, pk_div, pz_or, pz_and, pz_xor, pz_n31, pz_shl, pz_shr, pz_eq, pz_le, pz_lt, pz_eqm, pz_meq, pz_mmeq, pz_lem, pz_mle, pz_ltm, pz_mlt, pz_mmle, pz_mmlt, pz_rd, pz_ck, pz_let, pz_cl, pz_bind, pz_gd, pz_zbb, eI_of, eI_N, pz_leT, pz_leF, pz_ltT, pz_ltF, pz_eqT, pz_eqF, if_pos, if_neg, if_true, if_false, ite_true, ite_false, pz_b0, pz_b1i, pz_bf, pz_bt, Bool.false_eq_true, Bool.true_eq_false, decide_true, decide_false, and_true, and_false, true_and, false_and, and_self, or_true, or_false, true_or, false_or, or_self, not_true_eq_false, not_false_eq_true, ne_eq, reduceIte, eq_self, upd_at]
  by_cases h : w ≤ 99
  · by_cases h2 : w ≤ 9
    · simp (disch := omega) only [h, h2, pz_c0, pz_c1, pz_c2, pz_c3, pz_c4, pz_c5, pz_c6, pz_c7, pz_c8, pz_c9, pz_c10, pz_c11, pz_c12, pz_c13, pz_c14, pz_c15, pz_c16, pz_c17, pz_c18, pz_c19, pz_c20, pz_c21, pz_c22, pz_c23, pz_c24, pz_c25, pz_c26, pz_c27, pz_c28, pz_c29, pz_c30, pz_c31, pz_c32, pz_c33, pz_c34, pz_c35, pz_c36, pz_c42, pz_c48, pz_c57, pz_c59, pz_c60, pz_c63, pz_c64, pz_c66, pz_c96, pz_c97, pz_c99, pz_c100, pz_c122, pz_c127, pz_c128, pz_c200, pz_c255, pz_c299, pz_c300, pz_c336, pz_c354, pz_c585, pz_c666, pz_c708, pz_c1000, pz_c1170, pz_c4095, pz_c4096, pz_c4608, pz_c1000000, nI_add, pk_mul, pk_sub, pz_sub, pk_div, pz_or, pz_and, pz_xor, pz_n31, pz_shl, pz_shr, pz_eq, pz_le, pz_lt, pz_eqm, pz_meq, pz_mmeq, pz_lem, pz_mle, pz_ltm, pz_mlt, pz_mmle, pz_mmlt, pz_rd, pz_ck, pz_let, pz_cl, pz_bind, pz_gd, pz_zbb, eI_of, eI_N, pz_leT, pz_leF, pz_ltT, pz_ltF, pz_eqT, pz_eqF, if_pos, if_neg, if_true, if_false, ite_true, ite_false, pz_b0, pz_b1i, pz_bf, pz_bt, Bool.false_eq_true, Bool.true_eq_false, decide_true, decide_false, and_true, and_false, true_and, false_and, and_self, or_true, or_false, true_or, false_or, or_self, not_true_eq_false, not_false_eq_true, ne_eq, reduceIte, eq_self, upd_at, gt_iff_lt]
    · simp (disch := omega) only [h, h2, pz_c0, pz_c1, pz_c2, pz_c3, pz_c4, pz_c5, pz_c6, pz_c7, pz_c8, pz_c9, pz_c10, pz_c11, pz_c12, pz_c13, pz_c14, pz_c15, pz_c16, pz_c17, pz_c18, pz_c19, pz_c20, pz_c21, pz_c22, pz_c23, pz_c24, pz_c25, pz_c26, pz_c27, pz_c28, pz_c29, pz_c30, pz_c31, pz_c32, pz_c33, pz_c34, pz_c35, pz_c36, pz_c42, pz_c48, pz_c57, pz_c59, pz_c60, pz_c63, pz_c64, pz_c66, pz_c96, pz_c97, pz_c99, pz_c100, pz_c122, pz_c127, pz_c128, pz_c200, pz_c255, pz_c299, pz_c300, pz_c336, pz_c354, pz_c585, pz_c666, pz_c708, pz_c1000, pz_c1170, pz_c4095, pz_c4096, pz_c4608, pz_c1000000, nI_add, pk_mul, pk_sub, pz_sub, pk_div, pz_or, pz_and, pz_xor, pz_n31, pz_shl, pz_shr, pz_eq, pz_le, pz_lt, pz_eqm, pz_meq, pz_mmeq, pz_lem, pz_mle, pz_ltm, pz_mlt, pz_mmle, pz_mmlt, pz_rd, pz_ck, pz_let, pz_cl, pz_bind, pz_gd, pz_zbb, eI_of, eI_N, pz_leT, pz_leF, pz_ltT, pz_ltF, pz_eqT, pz_eqF, if_pos, if_neg, if_true, if_false, ite_true, ite_false, pz_b0, pz_b1i, pz_bf, pz_bt, Bool.false_eq_true, Bool.true_eq_false, decide_true, decide_false, and_true, and_false, true_and, false_and, and_self, or_true, or_false, true_or, false_or, or_self, not_true_eq_false, not_false_eq_true, ne_eq, reduceIte, eq_self, upd_at, gt_iff_lt]
  · simp (disch := omega) only [h, pz_c0, pz_c1, pz_c2, pz_c3, pz_c4, pz_c5, pz_c6, pz_c7, pz_c8, pz_c9, pz_c10, pz_c11, pz_c12, pz_c13, pz_c14, pz_c15, pz_c16, pz_c17, pz_c18, pz_c19, pz_c20, pz_c21, pz_c22, pz_c23, pz_c24, pz_c25, pz_c26, pz_c27, pz_c28, pz_c29, pz_c30, pz_c31, pz_c32, pz_c33, pz_c34, pz_c35, pz_c36, pz_c42, pz_c48, pz_c57, pz_c59, pz_c60, pz_c63, pz_c64, pz_c66, pz_c96, pz_c97, pz_c99, pz_c100, pz_c122, pz_c127, pz_c128, pz_c200, pz_c255, pz_c299, pz_c300, pz_c336, pz_c354, pz_c585, pz_c666, pz_c708, pz_c1000, pz_c1170, pz_c4095, pz_c4096, pz_c4608, pz_c1000000, nI_add, pk_mul, pk_sub, pz_sub, pk_div, pz_or, pz_and, pz_xor, pz_n31, pz_shl, pz_shr, pz_eq, pz_le, pz_lt, pz_eqm, pz_meq, pz_mmeq, pz_lem, pz_mle, pz_ltm, pz_mlt, pz_mmle, pz_mmlt, pz_rd, pz_ck, pz_let, pz_cl, pz_bind, pz_gd, pz_zbb, eI_of, eI_N, pz_leT, pz_leF, pz_ltT, pz_ltF, pz_eqT, pz_eqF, if_pos, if_neg, if_true, if_false, ite_true, ite_false, pz_b0, pz_b1i, pz_bf, pz_bt, Bool.false_eq_true, Bool.true_eq_false, decide_true, decide_false, and_true, and_false, true_and, false_and, and_self, or_true, or_false, true_or, false_or, or_self, not_true_eq_false, not_false_eq_true, ne_eq, reduceIte, eq_self, upd_at, gt_iff_lt]
theorem wd_dig (hd : okD w) (h0 : 0 < w) {i : Nat} (hi : i < wl w) : 1 ≤ (if wl w - 1 - i = 2 then w / 100 else if wl w - 1 - i = 1 then w / 10 else w) % 10 := by
  obtain ⟨w1, w2, w3, w4⟩ := hd
  unfold wl at hi ⊢
  by_cases h : w > 99
  · simp only [if_pos h] at hi ⊢
    rcases (show i = 0 ∨ i = 1 ∨ i = 2 by omega) with e | e | e <;> subst e <;> simp <;> omega
  · simp only [if_neg h] at hi ⊢
    by_cases h2 : w > 9
    · simp only [if_pos h2] at hi ⊢
      rcases (show i = 0 ∨ i = 1 by omega) with e | e <;> subst e <;> simp <;> omega
    · simp only [if_neg h2] at hi ⊢
      obtain rfl : i = 0 := by omega
      simp; omega
theorem wd_lt (hd : okW s w) {i : Nat} (hi : i < wl w) : wd w i < s 3 := by
  obtain ⟨w0, w1, w2, w3, w4⟩ := hd
  unfold wd
  unfold wl at hi ⊢
  by_cases h : w > 99
  · simp only [if_pos h] at hi ⊢
    rcases (show i = 0 ∨ i = 1 ∨ i = 2 by omega) with e | e | e <;> subst e <;> simp <;> omega
  · simp only [if_neg h] at hi ⊢
    by_cases h2 : w > 9
    · simp only [if_pos h2] at hi ⊢
      rcases (show i = 0 ∨ i = 1 by omega) with e | e <;> subst e <;> simp <;> omega
    · simp only [if_neg h2] at hi ⊢
      obtain rfl : i = 0 := by omega
      simp; omega
theorem x8_letterOf (hd : okD w) (h0 : 0 < w) {i : Nat} (hi : i < wl w) : f_X8_letterOf fu (nI w) (nI i) = some (nI (wd w i)) := by
  have hdig := wd_dig hd h0 hi
  have hw : w ≤ 666 := hd.1
  have hr := wl_rng w
  unfold wd
  simp (disch := omega) only [f_X8_letterOf, X8_letterOf_J34, x8_longOf, pz_c0, pz_c1, pz_c2, pz_c3, pz_c4, pz_c5, pz_c6, pz_c7, pz_c8, pz_c9, pz_c10, pz_c11, pz_c12, pz_c13, pz_c14, pz_c15, pz_c16, pz_c17, pz_c18, pz_c19, pz_c20, pz_c21, pz_c22, pz_c23, pz_c24, pz_c25, pz_c26, pz_c27, pz_c28, pz_c29, pz_c30, pz_c31, pz_c32, pz_c33, pz_c34, pz_c35, pz_c36, pz_c42, pz_c48, pz_c57, pz_c59, pz_c60, pz_c63, pz_c64, pz_c66, pz_c96, pz_c97, pz_c99, pz_c100, pz_c122, pz_c127, pz_c128, pz_c200, pz_c255, pz_c299, pz_c300, pz_c336, pz_c354, pz_c585, pz_c666, pz_c708, pz_c1000, pz_c1170, pz_c4095, pz_c4096, pz_c4608, pz_c1000000, nI_add, pk_mul, pk_sub, pz_sub, pk_div, pz_or, pz_and, pz_xor, pz_n31, pz_shl, pz_shr, pz_eq, pz_le, pz_lt, pz_eqm, pz_meq, pz_mmeq, pz_lem, pz_mle, pz_ltm, pz_mlt, pz_mmle, pz_mmlt, pz_rd, pz_ck, pz_let, pz_cl, pz_bind, pz_gd, pz_zbb, eI_of, eI_N, pz_leT, pz_leF, pz_ltT, pz_ltF, pz_eqT, pz_eqF, if_pos, if_neg, if_true, if_false, ite_true, ite_false, pz_b0, pz_b1i, pz_bf, pz_bt, Bool.false_eq_true, Bool.true_eq_false, decide_true, decide_false, and_true, and_false, true_and, false_and, and_self, or_true, or_false, true_or, false_or, or_self, not_true_eq_false, not_false_eq_true, ne_eq, reduceIte, eq_self, upd_at]
  by_cases h2 : wl w - 1 - i = 2
  · rw [if_pos h2] at hdig ⊢
    rw [if_pos h2]
    simp (disch := omega) only [pz_c0, pz_c1, pz_c2, pz_c3, pz_c4, pz_c5, pz_c6, pz_c7, pz_c8, pz_c9, pz_c10, pz_c11, pz_c12, pz_c13, pz_c14, pz_c15, pz_c16, pz_c17, pz_c18, pz_c19, pz_c20, pz_c21, pz_c22, pz_c23, pz_c24, pz_c25, pz_c26, pz_c27, pz_c28, pz_c29, pz_c30, pz_c31, pz_c32, pz_c33, pz_c34, pz_c35, pz_c36, pz_c42, pz_c48, pz_c57, pz_c59, pz_c60, pz_c63, pz_c64, pz_c66, pz_c96, pz_c97, pz_c99, pz_c100, pz_c122, pz_c127, pz_c128, pz_c200, pz_c255, pz_c299, pz_c300, pz_c336, pz_c354, pz_c585, pz_c666, pz_c708, pz_c1000, pz_c1170, pz_c4095, pz_c4096, pz_c4608, pz_c1000000, nI_add, pk_mul, pk_sub, pz_sub, pk_div, pz_or, pz_and, pz_xor, pz_n31, pz_shl, pz_shr, pz_eq, pz_le, pz_lt, pz_eqm, pz_meq, pz_mmeq, pz_lem, pz_mle, pz_ltm, pz_mlt, pz_mmle, pz_mmlt, pz_rd, pz_ck, pz_let, pz_cl, pz_bind, pz_gd, pz_zbb, eI_of, eI_N, pz_leT, pz_leF, pz_ltT, pz_ltF, pz_eqT, pz_eqF, if_pos, if_neg, if_true, if_false, ite_true, ite_false, pz_b0, pz_b1i, pz_bf, pz_bt, Bool.false_eq_true, Bool.true_eq_false, decide_true, decide_false, and_true, and_false, true_and, false_and, and_self, or_true, or_false, true_or, false_or, or_self, not_true_eq_false, not_false_eq_true, ne_eq, reduceIte, eq_self, upd_at, pz_rm]
  · rw [if_neg h2] at hdig ⊢
    rw [if_neg h2]
    by_cases h1 : wl w - 1 - i = 1
    · rw [if_pos h1] at hdig ⊢
      rw [if_pos h1]
      simp (disch := omega) only [pz_c0, pz_c1, pz_c2, pz_c3, pz_c4, pz_c5, pz_c6, pz_c7, pz_c8, pz_c9, pz_c10, pz_c11, pz_c12, pz_c13, pz_c14, pz_c15, pz_c16, pz_c17, pz_c18, pz_c19, pz_c20, pz_c21, pz_c22, pz_c23, pz_c24, pz_c25, pz_c26, pz_c27, pz_c28, pz_c29, pz_c30, pz_c31, pz_c32, pz_c33, pz_c34, pz_c35, pz_c36, pz_c42, pz_c48, pz_c57, pz_c59, pz_c60, pz_c63, pz_c64, pz_c66, pz_c96, pz_c97, pz_c99, pz_c100, pz_c122, pz_c127, pz_c128, pz_c200, pz_c255, pz_c299, pz_c300, pz_c336, pz_c354, pz_c585, pz_c666, pz_c708, pz_c1000, pz_c1170, pz_c4095, pz_c4096, pz_c4608, pz_c1000000, nI_add, pk_mul, pk_sub, pz_sub, pk_div, pz_or, pz_and, pz_xor, pz_n31, pz_shl, pz_shr, pz_eq, pz_le, pz_lt, pz_eqm, pz_meq, pz_mmeq, pz_lem, pz_mle, pz_ltm, pz_mlt, pz_mmle, pz_mmlt, pz_rd, pz_ck, pz_let, pz_cl, pz_bind, pz_gd, pz_zbb, eI_of, eI_N, pz_leT, pz_leF, pz_ltT, pz_ltF, pz_eqT, pz_eqF, if_pos, if_neg, if_true, if_false, ite_true, ite_false, pz_b0, pz_b1i, pz_bf, pz_bt, Bool.false_eq_true, Bool.true_eq_false, decide_true, decide_false, and_true, and_false, true_and, false_and, and_self, or_true, or_false, true_or, false_or, or_self, not_true_eq_false, not_false_eq_true, ne_eq, reduceIte, eq_self, upd_at, pz_rm]
    · rw [if_neg h1] at hdig ⊢
      rw [if_neg h1]
      simp (disch := omega) only [pz_c0, pz_c1, pz_c2, pz_c3, pz_c4, pz_c5, pz_c6, pz_c7, pz_c8, pz_c9, pz_c10, pz_c11, pz_c12, pz_c13, pz_c14, pz_c15, pz_c16, pz_c17, pz_c18, pz_c19, pz_c20, pz_c21, pz_c22, pz_c23, pz_c24, pz_c25, pz_c26, pz_c27, pz_c28, pz_c29, pz_c30, pz_c31, pz_c32, pz_c33, pz_c34, pz_c35, pz_c36, pz_c42, pz_c48, pz_c57, pz_c59, pz_c60, pz_c63, pz_c64, pz_c66, pz_c96, pz_c97, pz_c99, pz_c100, pz_c122, pz_c127, pz_c128, pz_c200, pz_c255, pz_c299, pz_c300, pz_c336, pz_c354, pz_c585, pz_c666, pz_c708, pz_c1000, pz_c1170, pz_c4095, pz_c4096, pz_c4608, pz_c1000000, nI_add, pk_mul, pk_sub, pz_sub, pk_div, pz_or, pz_and, pz_xor, pz_n31, pz_shl, pz_shr, pz_eq, pz_le, pz_lt, pz_eqm, pz_meq, pz_mmeq, pz_lem, pz_mle, pz_ltm, pz_mlt, pz_mmle, pz_mmlt, pz_rd, pz_ck, pz_let, pz_cl, pz_bind, pz_gd, pz_zbb, eI_of, eI_N, pz_leT, pz_leF, pz_ltT, pz_ltF, pz_eqT, pz_eqF, if_pos, if_neg, if_true, if_false, ite_true, ite_false, pz_b0, pz_b1i, pz_bf, pz_bt, Bool.false_eq_true, Bool.true_eq_false, decide_true, decide_false, and_true, and_false, true_and, false_and, and_self, or_true, or_false, true_or, false_or, or_self, not_true_eq_false, not_false_eq_true, ne_eq, reduceIte, eq_self, upd_at, pz_rm]
theorem x8_firstRow {l : Int32} (hf : 5000 ≤ fu) (hw : w < 1000) : f_X8_firstRow fu l cols (nI w) = some (nI 0, packF cols 0 (wl w) 0) := by
  have hr := wl_rng w
  rw [f_X8_firstRow]
  have main := pz_up (fun m i => X8_firstRow_L7 fu (nI 0) (nI w) m (packF cols 0 i 0) (nI i)) (wl w) (some (nI 0, packF cols 0 (wl w) 0)) (fun m i hi => ?_) (fun m => ?_) fu 0 (by omega) (by omega)
  · have e : packF cols 0 0 0 = cols := by
      funext j
      rw [packF, if_neg (by omega)]
    rw [e] at main
    exact main
  · simp (disch := omega) only [X8_firstRow_L7, x8_longOf, pz_c0, pz_c1, pz_c2, pz_c3, pz_c4, pz_c5, pz_c6, pz_c7, pz_c8, pz_c9, pz_c10, pz_c11, pz_c12, pz_c13, pz_c14, pz_c15, pz_c16, pz_c17, pz_c18, pz_c19, pz_c20, pz_c21, pz_c22, pz_c23, pz_c24, pz_c25, pz_c26, pz_c27, pz_c28, pz_c29, pz_c30, pz_c31, pz_c32, pz_c33, pz_c34, pz_c35, pz_c36, pz_c42, pz_c48, pz_c57, pz_c59, pz_c60, pz_c63, pz_c64, pz_c66, pz_c96, pz_c97, pz_c99, pz_c100, pz_c122, pz_c127, pz_c128, pz_c200, pz_c255, pz_c299, pz_c300, pz_c336, pz_c354, pz_c585, pz_c666, pz_c708, pz_c1000, pz_c1170, pz_c4095, pz_c4096, pz_c4608, pz_c1000000, nI_add, pk_mul, pk_sub, pz_sub, pk_div, pz_or, pz_and, pz_xor, pz_n31, pz_shl, pz_shr, pz_eq, pz_le, pz_lt, pz_eqm, pz_meq, pz_mmeq, pz_lem, pz_mle, pz_ltm, pz_mlt, pz_mmle, pz_mmlt, pz_rd, pz_ck, pz_let, pz_cl, pz_bind, pz_gd, pz_zbb, eI_of, eI_N, pz_leT, pz_leF, pz_ltT, pz_ltF, pz_eqT, pz_eqF, if_pos, if_neg, if_true, if_false, ite_true, ite_false, pz_b0, pz_b1i, pz_bf, pz_bt, Bool.false_eq_true, Bool.true_eq_false, decide_true, decide_false, and_true, and_false, true_and, false_and, and_self, or_true, or_false, true_or, false_or, or_self, not_true_eq_false, not_false_eq_true, ne_eq, reduceIte, eq_self, upd_at]
    congr 1
    funext j
    unfold upd packF
    by_cases h : j = i
    · subst h
      rw [if_pos rfl, if_pos (by omega)]
      simp
    · rw [if_neg h]
      by_cases h2 : j < i
      · rw [if_pos (by omega), if_pos (by omega)]
      · rw [if_neg (by omega), if_neg (by omega)]
  · simp (disch := omega) only [X8_firstRow_L7, x8_longOf, pz_c0, pz_c1, pz_c2, pz_c3, pz_c4, pz_c5, pz_c6, pz_c7, pz_c8, pz_c9, pz_c10, pz_c11, pz_c12, pz_c13, pz_c14, pz_c15, pz_c16, pz_c17, pz_c18, pz_c19, pz_c20, pz_c21, pz_c22, pz_c23, pz_c24, pz_c25, pz_c26, pz_c27, pz_c28, pz_c29, pz_c30, pz_c31, pz_c32, pz_c33, pz_c34, pz_c35, pz_c36, pz_c42, pz_c48, pz_c57, pz_c59, pz_c60, pz_c63, pz_c64, pz_c66, pz_c96, pz_c97, pz_c99, pz_c100, pz_c122, pz_c127, pz_c128, pz_c200, pz_c255, pz_c299, pz_c300, pz_c336, pz_c354, pz_c585, pz_c666, pz_c708, pz_c1000, pz_c1170, pz_c4095, pz_c4096, pz_c4608, pz_c1000000, nI_add, pk_mul, pk_sub, pz_sub, pk_div, pz_or, pz_and, pz_xor, pz_n31, pz_shl, pz_shr, pz_eq, pz_le, pz_lt, pz_eqm, pz_meq, pz_mmeq, pz_lem, pz_mle, pz_ltm, pz_mlt, pz_mmle, pz_mmlt, pz_rd, pz_ck, pz_let, pz_cl, pz_bind, pz_gd, pz_zbb, eI_of, eI_N, pz_leT, pz_leF, pz_ltT, pz_ltF, pz_eqT, pz_eqF, if_pos, if_neg, if_true, if_false, ite_true, ite_false, pz_b0, pz_b1i, pz_bf, pz_bt, Bool.false_eq_true, Bool.true_eq_false, decide_true, decide_false, and_true, and_false, true_and, false_and, and_self, or_true, or_false, true_or, false_or, or_self, not_true_eq_false, not_false_eq_true, ne_eq, reduceIte, eq_self, upd_at]
theorem x8_isRow (I : Iv s) (R : SR st s) (hw : w < 1000) {k : Nat} (hk : k ≤ PN (s 0) (s 1) (wl w)) (hC : CR cols (wl w) (plk (s 0) (wl w) k)) : f_X8_isRow fu (nI (plk (s 0) (wl w) k).1) st cols (nI w) = some (bI (decide (k < PN (s 0) (s 1) (wl w)))) := by
  have hd := SR_hd I R
  obtain ⟨i0, i1, -⟩ := I
  have hr := wl_rng w
  have hb := pl_bd i0 i1 hr hk
  have hle := pl_le i0 i1 hr
  have hat := pl_at i0 i1 hr (k := k) (by omega)
  have hc := hC (wl w - 1) (by omega)
  have hb2 := hb.2 (wl w - 1)
  simp (disch := omega) only [f_X8_isRow, X8_isRow_J41, x8_longOf, hc, hd, pz_c0, pz_c1, pz_c2, pz_c3, pz_c4, pz_c5, pz_c6, pz_c7, pz_c8, pz_c9, pz_c10, pz_c11, pz_c12, pz_c13, pz_c14, pz_c15, pz_c16, pz_c17, pz_c18, pz_c19, pz_c20, pz_c21, pz_c22, pz_c23, pz_c24, pz_c25, pz_c26, pz_c27, pz_c28, pz_c29, pz_c30, pz_c31, pz_c32, pz_c33, pz_c34, pz_c35, pz_c36, pz_c42, pz_c48, pz_c57, pz_c59, pz_c60, pz_c63, pz_c64, pz_c66, pz_c96, pz_c97, pz_c99, pz_c100, pz_c122, pz_c127, pz_c128, pz_c200, pz_c255, pz_c299, pz_c300, pz_c336, pz_c354, pz_c585, pz_c666, pz_c708, pz_c1000, pz_c1170, pz_c4095, pz_c4096, pz_c4608, pz_c1000000, nI_add, pk_mul, pk_sub, pz_sub, pk_div, pz_or, pz_and, pz_xor, pz_n31, pz_shl, pz_shr, pz_eq, pz_le, pz_lt, pz_eqm, pz_meq, pz_mmeq, pz_lem, pz_mle, pz_ltm, pz_mlt, pz_mmle, pz_mmlt, pz_rd, pz_ck, pz_let, pz_cl, pz_bind, pz_gd, pz_zbb, eI_of, eI_N, pz_leT, pz_leF, pz_ltT, pz_ltF, pz_eqT, pz_eqF, if_pos, if_neg, if_true, if_false, ite_true, ite_false, pz_b0, pz_b1i, pz_bf, pz_bt, Bool.false_eq_true, Bool.true_eq_false, decide_true, decide_false, and_true, and_false, true_and, false_and, and_self, or_true, or_false, true_or, false_or, or_self, not_true_eq_false, not_false_eq_true, ne_eq, reduceIte, eq_self, upd_at]
  rcases Nat.lt_or_ge k (PN (s 0) (s 1) (wl w)) with h | h
  · have h2 := hat.1 h
    obtain ⟨a, b⟩ := h2
    have b2 : pcol (plk (s 0) (wl w) k) (wl w - 1) + 3 ≤ s 0 := by
      rcases (show wl w = 1 ∨ wl w = 2 ∨ wl w = 3 by omega) with e | e | e
      · rw [e] at b ⊢
        rw [if_pos rfl] at b
        exact b
      · rw [e] at b ⊢
        rw [if_neg (by decide), if_pos rfl] at b
        exact b.2
      · rw [e] at b ⊢
        rw [if_neg (by decide), if_neg (by decide)] at b
        exact b.2.2
    simp (disch := omega) only [pz_c0, pz_c1, pz_c2, pz_c3, pz_c4, pz_c5, pz_c6, pz_c7, pz_c8, pz_c9, pz_c10, pz_c11, pz_c12, pz_c13, pz_c14, pz_c15, pz_c16, pz_c17, pz_c18, pz_c19, pz_c20, pz_c21, pz_c22, pz_c23, pz_c24, pz_c25, pz_c26, pz_c27, pz_c28, pz_c29, pz_c30, pz_c31, pz_c32, pz_c33, pz_c34, pz_c35, pz_c36, pz_c42, pz_c48, pz_c57, pz_c59, pz_c60, pz_c63, pz_c64, pz_c66, pz_c96, pz_c97, pz_c99, pz_c100, pz_c122, pz_c127, pz_c128, pz_c200, pz_c255, pz_c299, pz_c300, pz_c336, pz_c354, pz_c585, pz_c666, pz_c708, pz_c1000, pz_c1170, pz_c4095, pz_c4096, pz_c4608, pz_c1000000, nI_add, pk_mul, pk_sub, pz_sub, pk_div, pz_or, pz_and, pz_xor, pz_n31, pz_shl, pz_shr, pz_eq, pz_le, pz_lt, pz_eqm, pz_meq, pz_mmeq, pz_lem, pz_mle, pz_ltm, pz_mlt, pz_mmle, pz_mmlt, pz_rd, pz_ck, pz_let, pz_cl, pz_bind, pz_gd, pz_zbb, eI_of, eI_N, pz_leT, pz_leF, pz_ltT, pz_ltF, pz_eqT, pz_eqF, if_pos, if_neg, if_true, if_false, ite_true, ite_false, pz_b0, pz_b1i, pz_bf, pz_bt, Bool.false_eq_true, Bool.true_eq_false, decide_true, decide_false, and_true, and_false, true_and, false_and, and_self, or_true, or_false, true_or, false_or, or_self, not_true_eq_false, not_false_eq_true, ne_eq, reduceIte, eq_self, upd_at]
  · have h2 := hat.2 (by omega)
    by_cases h3 : k = 0
    · rw [if_pos h3] at h2
      have b2 : pcol (plk (s 0) (wl w) k) (wl w - 1) + 3 > s 0 := by
        rw [h3]
        rcases (show wl w = 1 ∨ wl w = 2 ∨ wl w = 3 by omega) with e | e | e <;> rw [e] at h2 ⊢ <;> simp only [plk, pcol] <;> simp <;> omega
      simp (disch := omega) only [pz_c0, pz_c1, pz_c2, pz_c3, pz_c4, pz_c5, pz_c6, pz_c7, pz_c8, pz_c9, pz_c10, pz_c11, pz_c12, pz_c13, pz_c14, pz_c15, pz_c16, pz_c17, pz_c18, pz_c19, pz_c20, pz_c21, pz_c22, pz_c23, pz_c24, pz_c25, pz_c26, pz_c27, pz_c28, pz_c29, pz_c30, pz_c31, pz_c32, pz_c33, pz_c34, pz_c35, pz_c36, pz_c42, pz_c48, pz_c57, pz_c59, pz_c60, pz_c63, pz_c64, pz_c66, pz_c96, pz_c97, pz_c99, pz_c100, pz_c122, pz_c127, pz_c128, pz_c200, pz_c255, pz_c299, pz_c300, pz_c336, pz_c354, pz_c585, pz_c666, pz_c708, pz_c1000, pz_c1170, pz_c4095, pz_c4096, pz_c4608, pz_c1000000, nI_add, pk_mul, pk_sub, pz_sub, pk_div, pz_or, pz_and, pz_xor, pz_n31, pz_shl, pz_shr, pz_eq, pz_le, pz_lt, pz_eqm, pz_meq, pz_mmeq, pz_lem, pz_mle, pz_ltm, pz_mlt, pz_mmle, pz_mmlt, pz_rd, pz_ck, pz_let, pz_cl, pz_bind, pz_gd, pz_zbb, eI_of, eI_N, pz_leT, pz_leF, pz_ltT, pz_ltF, pz_eqT, pz_eqF, if_pos, if_neg, if_true, if_false, ite_true, ite_false, pz_b0, pz_b1i, pz_bf, pz_bt, Bool.false_eq_true, Bool.true_eq_false, decide_true, decide_false, and_true, and_false, true_and, false_and, and_self, or_true, or_false, true_or, false_or, or_self, not_true_eq_false, not_false_eq_true, ne_eq, reduceIte, eq_self, upd_at]
    · rw [if_neg h3] at h2
      by_cases h4 : s 0 ≤ pcol (plk (s 0) (wl w) k) (wl w - 1) + 2
      · simp (disch := omega) only [h4, pz_c0, pz_c1, pz_c2, pz_c3, pz_c4, pz_c5, pz_c6, pz_c7, pz_c8, pz_c9, pz_c10, pz_c11, pz_c12, pz_c13, pz_c14, pz_c15, pz_c16, pz_c17, pz_c18, pz_c19, pz_c20, pz_c21, pz_c22, pz_c23, pz_c24, pz_c25, pz_c26, pz_c27, pz_c28, pz_c29, pz_c30, pz_c31, pz_c32, pz_c33, pz_c34, pz_c35, pz_c36, pz_c42, pz_c48, pz_c57, pz_c59, pz_c60, pz_c63, pz_c64, pz_c66, pz_c96, pz_c97, pz_c99, pz_c100, pz_c122, pz_c127, pz_c128, pz_c200, pz_c255, pz_c299, pz_c300, pz_c336, pz_c354, pz_c585, pz_c666, pz_c708, pz_c1000, pz_c1170, pz_c4095, pz_c4096, pz_c4608, pz_c1000000, nI_add, pk_mul, pk_sub, pz_sub, pk_div, pz_or, pz_and, pz_xor, pz_n31, pz_shl, pz_shr, pz_eq, pz_le, pz_lt, pz_eqm, pz_meq, pz_mmeq, pz_lem, pz_mle, pz_ltm, pz_mlt, pz_mmle, pz_mmlt, pz_rd, pz_ck, pz_let, pz_cl, pz_bind, pz_gd, pz_zbb, eI_of, eI_N, pz_leT, pz_leF, pz_ltT, pz_ltF, pz_eqT, pz_eqF, if_pos, if_neg, if_true, if_false, ite_true, ite_false, pz_b0, pz_b1i, pz_bf, pz_bt, Bool.false_eq_true, Bool.true_eq_false, decide_true, decide_false, and_true, and_false, true_and, false_and, and_self, or_true, or_false, true_or, false_or, or_self, not_true_eq_false, not_false_eq_true, ne_eq, reduceIte, eq_self, upd_at]
      · simp (disch := omega) only [h4, pz_c0, pz_c1, pz_c2, pz_c3, pz_c4, pz_c5, pz_c6, pz_c7, pz_c8, pz_c9, pz_c10, pz_c11, pz_c12, pz_c13, pz_c14, pz_c15, pz_c16, pz_c17, pz_c18, pz_c19, pz_c20, pz_c21, pz_c22, pz_c23, pz_c24, pz_c25, pz_c26, pz_c27, pz_c28, pz_c29, pz_c30, pz_c31, pz_c32, pz_c33, pz_c34, pz_c35, pz_c36, pz_c42, pz_c48, pz_c57, pz_c59, pz_c60, pz_c63, pz_c64, pz_c66, pz_c96, pz_c97, pz_c99, pz_c100, pz_c122, pz_c127, pz_c128, pz_c200, pz_c255, pz_c299, pz_c300, pz_c336, pz_c354, pz_c585, pz_c666, pz_c708, pz_c1000, pz_c1170, pz_c4095, pz_c4096, pz_c4608, pz_c1000000, nI_add, pk_mul, pk_sub, pz_sub, pk_div, pz_or, pz_and, pz_xor, pz_n31, pz_shl, pz_shr, pz_eq, pz_le, pz_lt, pz_eqm, pz_meq, pz_mmeq, pz_lem, pz_mle, pz_ltm, pz_mlt, pz_mmle, pz_mmlt, pz_rd, pz_ck, pz_let, pz_cl, pz_bind, pz_gd, pz_zbb, eI_of, eI_N, pz_leT, pz_leF, pz_ltT, pz_ltF, pz_eqT, pz_eqF, if_pos, if_neg, if_true, if_false, ite_true, ite_false, pz_b0, pz_b1i, pz_bf, pz_bt, Bool.false_eq_true, Bool.true_eq_false, decide_true, decide_false, and_true, and_false, true_and, false_and, and_self, or_true, or_false, true_or, false_or, or_self, not_true_eq_false, not_false_eq_true, ne_eq, reduceIte, eq_self, upd_at]
theorem nr_step {k i y : Nat} (hf : 5000 ≤ fu) (I : Iv s) (R : SR st s) (hn : n ≤ 3) (hi : i < n) {c : Nat} (hc : cols i = nI c) (h2 : c < 100) : X8_nextRow_L12 fu (nI y) st (nI w) (nI n) (k + 1) cols (nI 0) (nI i) = X8_nextRow_L12 fu (nI y) st (nI w) (nI n) k (packF cols i n (c + 1)) (bI (decide (c + 4 * (n - i) ≤ s 0))) (nI i + -1) := by
  have hd := SR_hd I R
  obtain ⟨i0, i1, -⟩ := I
  have main := pz_up (fun m j => X8_nextRow_L38 fu (X8_nextRow_L12 fu (nI y) st (nI w) (nI n) k) (nI y) st (nI w) (nI n) (nI i) m (packF cols i (i + 1 + j) (c + 1)) (nI (i + 1 + j))) (n - (i + 1)) (X8_nextRow_L12 fu (nI y) st (nI w) (nI n) k (packF cols i n (c + 1)) (bI (decide (c + 4 * (n - i) ≤ s 0))) (nI i + -1)) (fun m j hj => ?_) (fun m => ?_) fu 0 (by omega) (by omega)
  · rw [← main, X8_nextRow_L12]
    generalize X8_nextRow_L12 fu (nI y) st (nI w) (nI n) k = rec
    have e : upd cols i (nI (c + 1)) = packF cols i (i + 1 + 0) (c + 1) := by
      funext j
      unfold upd packF
      by_cases h : j = i
      · subst h
        rw [if_pos rfl, if_pos (by omega)]
        simp
      · rw [if_neg h, if_neg (by omega)]
    simp (disch := omega) only [hc, pz_c0, pz_c1, pz_c2, pz_c3, pz_c4, pz_c5, pz_c6, pz_c7, pz_c8, pz_c9, pz_c10, pz_c11, pz_c12, pz_c13, pz_c14, pz_c15, pz_c16, pz_c17, pz_c18, pz_c19, pz_c20, pz_c21, pz_c22, pz_c23, pz_c24, pz_c25, pz_c26, pz_c27, pz_c28, pz_c29, pz_c30, pz_c31, pz_c32, pz_c33, pz_c34, pz_c35, pz_c36, pz_c42, pz_c48, pz_c57, pz_c59, pz_c60, pz_c63, pz_c64, pz_c66, pz_c96, pz_c97, pz_c99, pz_c100, pz_c122, pz_c127, pz_c128, pz_c200, pz_c255, pz_c299, pz_c300, pz_c336, pz_c354, pz_c585, pz_c666, pz_c708, pz_c1000, pz_c1170, pz_c4095, pz_c4096, pz_c4608, pz_c1000000, nI_add, pk_mul, pk_sub, pz_sub, pk_div, pz_or, pz_and, pz_xor, pz_n31, pz_shl, pz_shr, pz_eq, pz_le, pz_lt, pz_eqm, pz_meq, pz_mmeq, pz_lem, pz_mle, pz_ltm, pz_mlt, pz_mmle, pz_mmlt, pz_rd, pz_ck, pz_let, pz_cl, pz_bind, pz_gd, pz_zbb, eI_of, eI_N, pz_leT, pz_leF, pz_ltT, pz_ltF, pz_eqT, pz_eqF, if_pos, if_neg, if_true, if_false, ite_true, ite_false, pz_b0, pz_b1i, pz_bf, pz_bt, Bool.false_eq_true, Bool.true_eq_false, decide_true, decide_false, and_true, and_false, true_and, false_and, and_self, or_true, or_false, true_or, false_or, or_self, not_true_eq_false, not_false_eq_true, ne_eq, reduceIte, eq_self, upd_at, e, Nat.add_zero]
  · generalize X8_nextRow_L12 fu (nI y) st (nI w) (nI n) k = rec
    have e1 : packF cols i (i + 1 + j) (c + 1) (i + 1 + j - 1) = nI (c + 1 + 4 * j) := by
      rw [packF, if_pos (by omega), show i + 1 + j - 1 - i = j by omega]
    have e2 : upd (packF cols i (i + 1 + j) (c + 1)) (i + 1 + j) (nI (c + 1 + 4 * j + 4)) = packF cols i (i + 1 + (j + 1)) (c + 1) := by
      funext q
      unfold upd packF
      by_cases h : q = i + 1 + j
      · subst h
        rw [if_pos rfl, if_pos (by omega), show c + 1 + 4 * (i + 1 + j - i) = c + 1 + 4 * j + 4 by omega]
      · rw [if_neg h]
        by_cases h2 : i ≤ q ∧ q < i + 1 + j
        · rw [if_pos h2, if_pos (by omega)]
        · rw [if_neg h2, if_neg (by omega)]
    simp (disch := omega) only [X8_nextRow_L38, e1, pz_c0, pz_c1, pz_c2, pz_c3, pz_c4, pz_c5, pz_c6, pz_c7, pz_c8, pz_c9, pz_c10, pz_c11, pz_c12, pz_c13, pz_c14, pz_c15, pz_c16, pz_c17, pz_c18, pz_c19, pz_c20, pz_c21, pz_c22, pz_c23, pz_c24, pz_c25, pz_c26, pz_c27, pz_c28, pz_c29, pz_c30, pz_c31, pz_c32, pz_c33, pz_c34, pz_c35, pz_c36, pz_c42, pz_c48, pz_c57, pz_c59, pz_c60, pz_c63, pz_c64, pz_c66, pz_c96, pz_c97, pz_c99, pz_c100, pz_c122, pz_c127, pz_c128, pz_c200, pz_c255, pz_c299, pz_c300, pz_c336, pz_c354, pz_c585, pz_c666, pz_c708, pz_c1000, pz_c1170, pz_c4095, pz_c4096, pz_c4608, pz_c1000000, nI_add, pk_mul, pk_sub, pz_sub, pk_div, pz_or, pz_and, pz_xor, pz_n31, pz_shl, pz_shr, pz_eq, pz_le, pz_lt, pz_eqm, pz_meq, pz_mmeq, pz_lem, pz_mle, pz_ltm, pz_mlt, pz_mmle, pz_mmlt, pz_rd, pz_ck, pz_let, pz_cl, pz_bind, pz_gd, pz_zbb, eI_of, eI_N, pz_leT, pz_leF, pz_ltT, pz_ltF, pz_eqT, pz_eqF, if_pos, if_neg, if_true, if_false, ite_true, ite_false, pz_b0, pz_b1i, pz_bf, pz_bt, Bool.false_eq_true, Bool.true_eq_false, decide_true, decide_false, and_true, and_false, true_and, false_and, and_self, or_true, or_false, true_or, false_or, or_self, not_true_eq_false, not_false_eq_true, ne_eq, reduceIte, eq_self, upd_at, e2]
    rw [Nat.add_assoc (i + 1) j 1]
  · generalize X8_nextRow_L12 fu (nI y) st (nI w) (nI n) k = rec
    rw [show i + 1 + (n - (i + 1)) = n by omega]
    have e1 : packF cols i n (c + 1) (n - 1) = nI (c + 1 + 4 * (n - 1 - i)) := by
      rw [packF, if_pos (by omega)]
    by_cases h : c + 4 * (n - i) ≤ s 0
    · simp (disch := omega) only [X8_nextRow_L38, X8_nextRow_J92, e1, hd, h, pz_c0, pz_c1, pz_c2, pz_c3, pz_c4, pz_c5, pz_c6, pz_c7, pz_c8, pz_c9, pz_c10, pz_c11, pz_c12, pz_c13, pz_c14, pz_c15, pz_c16, pz_c17, pz_c18, pz_c19, pz_c20, pz_c21, pz_c22, pz_c23, pz_c24, pz_c25, pz_c26, pz_c27, pz_c28, pz_c29, pz_c30, pz_c31, pz_c32, pz_c33, pz_c34, pz_c35, pz_c36, pz_c42, pz_c48, pz_c57, pz_c59, pz_c60, pz_c63, pz_c64, pz_c66, pz_c96, pz_c97, pz_c99, pz_c100, pz_c122, pz_c127, pz_c128, pz_c200, pz_c255, pz_c299, pz_c300, pz_c336, pz_c354, pz_c585, pz_c666, pz_c708, pz_c1000, pz_c1170, pz_c4095, pz_c4096, pz_c4608, pz_c1000000, nI_add, pk_mul, pk_sub, pz_sub, pk_div, pz_or, pz_and, pz_xor, pz_n31, pz_shl, pz_shr, pz_eq, pz_le, pz_lt, pz_eqm, pz_meq, pz_mmeq, pz_lem, pz_mle, pz_ltm, pz_mlt, pz_mmle, pz_mmlt, pz_rd, pz_ck, pz_let, pz_cl, pz_bind, pz_gd, pz_zbb, eI_of, eI_N, pz_leT, pz_leF, pz_ltT, pz_ltF, pz_eqT, pz_eqF, if_pos, if_neg, if_true, if_false, ite_true, ite_false, pz_b0, pz_b1i, pz_bf, pz_bt, Bool.false_eq_true, Bool.true_eq_false, decide_true, decide_false, and_true, and_false, true_and, false_and, and_self, or_true, or_false, true_or, false_or, or_self, not_true_eq_false, not_false_eq_true, ne_eq, reduceIte, eq_self, upd_at]
    · simp (disch := omega) only [X8_nextRow_L38, X8_nextRow_J92, e1, hd, h, pz_c0, pz_c1, pz_c2, pz_c3, pz_c4, pz_c5, pz_c6, pz_c7, pz_c8, pz_c9, pz_c10, pz_c11, pz_c12, pz_c13, pz_c14, pz_c15, pz_c16, pz_c17, pz_c18, pz_c19, pz_c20, pz_c21, pz_c22, pz_c23, pz_c24, pz_c25, pz_c26, pz_c27, pz_c28, pz_c29, pz_c30, pz_c31, pz_c32, pz_c33, pz_c34, pz_c35, pz_c36, pz_c42, pz_c48, pz_c57, pz_c59, pz_c60, pz_c63, pz_c64, pz_c66, pz_c96, pz_c97, pz_c99, pz_c100, pz_c122, pz_c127, pz_c128, pz_c200, pz_c255, pz_c299, pz_c300, pz_c336, pz_c354, pz_c585, pz_c666, pz_c708, pz_c1000, pz_c1170, pz_c4095, pz_c4096, pz_c4608, pz_c1000000, nI_add, pk_mul, pk_sub, pz_sub, pk_div, pz_or, pz_and, pz_xor, pz_n31, pz_shl, pz_shr, pz_eq, pz_le, pz_lt, pz_eqm, pz_meq, pz_mmeq, pz_lem, pz_mle, pz_ltm, pz_mlt, pz_mmle, pz_mmlt, pz_rd, pz_ck, pz_let, pz_cl, pz_bind, pz_gd, pz_zbb, eI_of, eI_N, pz_leT, pz_leF, pz_ltT, pz_ltF, pz_eqT, pz_eqF, if_pos, if_neg, if_true, if_false, ite_true, ite_false, pz_b0, pz_b1i, pz_bf, pz_bt, Bool.false_eq_true, Bool.true_eq_false, decide_true, decide_false, and_true, and_false, true_and, false_and, and_self, or_true, or_false, true_or, false_or, or_self, not_true_eq_false, not_false_eq_true, ne_eq, reduceIte, eq_self, upd_at]
theorem nr_found {k : Nat} {y v vn : Int32} : X8_nextRow_L12 fu y st (nI w) vn (k + 1) cols (nI 1) v = some (y, cols) := by
  rw [X8_nextRow_L12]
  generalize X8_nextRow_L12 fu y st (nI w) vn k = rec
  simp only [X8_nextRow_J99, show ¬ nI 1 = 0 by decide +kernel, if_false, ite_self]
theorem nr_end {k y : Nat} {vn : Int32} (hf : 5000 ≤ fu) (hw : w < 1000) : X8_nextRow_L12 fu (nI y) st (nI w) vn (k + 1) cols (nI 0) (-nI 1) = some (nI (y + 1), packF cols 0 (wl w) 0) := by
  rw [X8_nextRow_L12, if_pos (show -nI 1 < (0 : Int32) by decide +kernel), X8_nextRow_J99, if_pos (show nI 0 = 0 from rfl), x8_firstRow hf hw, pz_bind, show nI y + 1 = nI (y + 1) from nI_1 y]
theorem x8_nextRow (hf : 5000 ≤ fu) (I : Iv s) (R : SR st s) (hw : w < 1000) {p : PL} (hp : pok (s 0) (s 1) (wl w) p) (hC : CR cols (wl w) p) : ∃ c2, CR c2 (wl w) (pnx (s 0) (wl w) p) ∧ f_X8_nextRow fu (nI p.1) st cols (nI w) = some (nI (pnx (s 0) (wl w) p).1, c2) := by
  obtain ⟨m, hm⟩ : ∃ m, fu = m + 5 := ⟨fu - 5, by omega⟩
  obtain ⟨i0, i1, -⟩ := id I
  obtain ⟨hp1, hp2⟩ := hp
  have hr := wl_rng w
  have m1 : ∀ i : Nat, nI (i + 1) + -1 = nI i := pk_m1
  have m0 : nI 0 + -1 = -nI 1 := by decide +kernel
  have start : ∀ q : Nat, X8_nextRow_L12 fu (nI p.1) st (nI w) (nI (wl w)) fu cols 0 (nI q) = X8_nextRow_L12 fu (nI p.1) st (nI w) (nI (wl w)) (m + 5) cols (nI 0) (nI q) := fun q => by rw [← hm]; rfl
  rw [f_X8_nextRow, x8_longOf hw, pz_bind, show nI (wl w) - 1 = nI (wl w - 1) from pk_sub (b := 1) (by omega), start]
  have bt : ∀ {P : Prop} {d : Decidable P}, P → bI (@decide P d) = nI 1 := fun h => (bI_t h).symm
  have bf : ∀ {P : Prop} {d : Decidable P}, ¬ P → bI (@decide P d) = nI 0 := fun h => (bI_f h).symm
  have hwn : ∀ (cols : Nat → Int32) (k y : Nat) (vn : Int32), X8_nextRow_L12 fu (nI y) st (nI w) vn (k + 1) cols (nI 0) (-nI 1) = some (nI (y + 1), packF cols 0 (wl w) 0) := fun cols k y vn => nr_end hf hw
  generalize wl w = n at hp2 hC hr hwn ⊢
  rcases (show n = 1 ∨ n = 2 ∨ n = 3 by omega) with e | e | e
  · subst e
    rw [if_pos rfl] at hp2
    have c0 : cols 0 = nI p.2.1 := hC 0 (by omega)
    rw [show 1 - 1 = 0 from rfl, nr_step hf I R (by omega) (by omega) c0 (by omega)]
    by_cases h : p.2.1 + 4 ≤ s 0
    · rw [show pnx (s 0) 1 p = (p.1, p.2.1 + 1, 4, 8) by simp [pnx, h], bt (by omega), nr_found]
      refine ⟨_, ?_, rfl⟩
      intro i hi
      obtain rfl : i = 0 := by omega
      rfl
    · rw [show pnx (s 0) 1 p = (p.1 + 1, 0, 4, 8) by simp [pnx, h], bf (by omega), m0, hwn]
      refine ⟨_, ?_, rfl⟩
      intro i hi
      obtain rfl : i = 0 := by omega
      rfl
  · subst e
    rw [if_neg (by decide), if_pos rfl] at hp2
    have c0 : cols 0 = nI p.2.1 := hC 0 (by omega)
    have c1 : cols 1 = nI p.2.2.1 := hC 1 (by omega)
    rw [show 2 - 1 = 1 from rfl, nr_step hf I R (by omega) (by omega) c1 (by omega)]
    by_cases h : p.2.2.1 + 4 ≤ s 0
    · rw [show pnx (s 0) 2 p = (p.1, p.2.1, p.2.2.1 + 1, 8) by simp [pnx, h], bt (by omega), nr_found]
      refine ⟨_, ?_, rfl⟩
      intro i hi
      rcases (show i = 0 ∨ i = 1 by omega) with e | e <;> subst e
      · exact c0
      · rfl
    · have d0 : packF cols 1 2 (p.2.2.1 + 1) 0 = nI p.2.1 := c0
      rw [bf (by omega), m1 0, nr_step hf I R (by omega) (by omega) d0 (by omega)]
      by_cases h1 : p.2.1 + 8 ≤ s 0
      · rw [show pnx (s 0) 2 p = (p.1, p.2.1 + 1, p.2.1 + 5, 8) by simp [pnx, h, h1], bt (by omega), nr_found]
        refine ⟨_, ?_, rfl⟩
        intro i hi
        rcases (show i = 0 ∨ i = 1 by omega) with e | e <;> subst e <;> rfl
      · rw [show pnx (s 0) 2 p = (p.1 + 1, 0, 4, 8) by simp [pnx, h, h1], bf (by omega), m0, hwn]
        refine ⟨_, ?_, rfl⟩
        intro i hi
        rcases (show i = 0 ∨ i = 1 by omega) with e | e <;> subst e <;> rfl
  · subst e
    rw [if_neg (by decide), if_neg (by decide)] at hp2
    have c0 : cols 0 = nI p.2.1 := hC 0 (by omega)
    have c1 : cols 1 = nI p.2.2.1 := hC 1 (by omega)
    have c2 : cols 2 = nI p.2.2.2 := hC 2 (by omega)
    rw [show 3 - 1 = 2 from rfl, nr_step hf I R (by omega) (by omega) c2 (by omega)]
    by_cases h : p.2.2.2 + 4 ≤ s 0
    · rw [show pnx (s 0) 3 p = (p.1, p.2.1, p.2.2.1, p.2.2.2 + 1) by simp [pnx, h], bt (by omega), nr_found]
      refine ⟨_, ?_, rfl⟩
      intro i hi
      rcases (show i = 0 ∨ i = 1 ∨ i = 2 by omega) with e | e | e <;> subst e
      · exact c0
      · exact c1
      · rfl
    · have d1 : packF cols 2 3 (p.2.2.2 + 1) 1 = nI p.2.2.1 := c1
      rw [bf (by omega), m1 1, nr_step hf I R (by omega) (by omega) d1 (by omega)]
      by_cases h1 : p.2.2.1 + 8 ≤ s 0
      · rw [show pnx (s 0) 3 p = (p.1, p.2.1, p.2.2.1 + 1, p.2.2.1 + 5) by simp [pnx, h, h1], bt (by omega), nr_found]
        refine ⟨_, ?_, rfl⟩
        intro i hi
        rcases (show i = 0 ∨ i = 1 ∨ i = 2 by omega) with e | e | e <;> subst e
        · exact c0
        · rfl
        · rfl
      · have d0 : packF (packF cols 2 3 (p.2.2.2 + 1)) 1 3 (p.2.2.1 + 1) 0 = nI p.2.1 := c0
        rw [bf (by omega), m1 0, nr_step hf I R (by omega) (by omega) d0 (by omega)]
        by_cases h3 : p.2.1 + 12 ≤ s 0
        · rw [show pnx (s 0) 3 p = (p.1, p.2.1 + 1, p.2.1 + 5, p.2.1 + 9) by simp [pnx, h, h1, h3], bt (by omega), nr_found]
          refine ⟨_, ?_, rfl⟩
          intro i hi
          rcases (show i = 0 ∨ i = 1 ∨ i = 2 by omega) with e | e | e <;> subst e <;> rfl
        · rw [show pnx (s 0) 3 p = (p.1 + 1, 0, 4, 8) by simp [pnx, h, h1, h3], bf (by omega), m0, hwn]
          refine ⟨_, ?_, rfl⟩
          intro i hi
          rcases (show i = 0 ∨ i = 1 ∨ i = 2 by omega) with e | e | e <;> subst e <;> rfl
end
