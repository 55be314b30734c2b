/-! WORDS SPELLED, AND WHAT IS COUNTED -/
def SS (rf : Nat → Int32) (a b c : Int32) : Prop := rf 0 = a ∧ rf 1 = b ∧ rf 2 = c
def okB (s : Nat → Nat) (w : Nat) : Bool := decide (1 ≤ w ∧ w ≤ 666) && (decide (1 ≤ w % 10 ∧ w % 10 ≤ s 3) && ((!decide (9 < w) || decide (1 ≤ w / 10 % 10 ∧ w / 10 % 10 ≤ s 3)) && (!decide (99 < w) || decide (1 ≤ w / 100 % 10 ∧ w / 100 % 10 ≤ s 3))))
theorem okB_iff {s : Nat → Nat} {w : Nat} : okB s w = true ↔ okW s w := by
  unfold okB okW
  by_cases h1 : 9 < w <;> by_cases h2 : 99 < w <;> simp [h1, h2, and_assoc]
section
variable {fu : Nat} {s : Nat → Nat} {st rf : Nat → Int32} {a b c : Int32} {w : Nat}
theorem c_bad : f_X7_counted fu a b c (-2) = some (-2, a + 1, b, c) := by
  simp (disch := omega) only [f_X7_counted, X7_counted_J16, X7_counted_J32, X7_counted_J48, pz_c0, pz_c1, pz_c2, pz_c3, pz_c4, pz_c5, pz_c6, pz_c7, pz_c8, pz_c9, pz_c10, pz_c11, pz_c12, pz_c13, pz_c14, pz_c15, pz_c16, pz_c17, pz_c18, pz_c19, pz_c20, pz_c21, pz_c22, pz_c23, pz_c24, pz_c25, pz_c26, pz_c27, pz_c28, pz_c29, pz_c30, pz_c31, pz_c32, pz_c33, pz_c34, pz_c35, pz_c36, pz_c42, pz_c48, pz_c57, pz_c59, pz_c60, pz_c63, pz_c64, pz_c66, pz_c96, pz_c97, pz_c99, pz_c100, pz_c122, pz_c127, pz_c128, pz_c200, pz_c255, pz_c299, pz_c300, pz_c336, pz_c354, pz_c585, pz_c666, pz_c708, pz_c1000, pz_c1170, pz_c4095, pz_c4096, pz_c4608, pz_c1000000, nI_add, pk_mul, pk_sub, pz_sub, pk_div, pz_or, pz_and, pz_xor, pz_n31, pz_shl, pz_shr, pz_eq, pz_le, pz_lt, pz_eqm, pz_meq, pz_mmeq, pz_lem, pz_mle, pz_ltm, pz_mlt, pz_mmle, pz_mmlt, pz_rd, pz_ck, pz_let, pz_cl, pz_bind, pz_gd, pz_zbb, eI_of, eI_N, pz_leT, pz_leF, pz_ltT, pz_ltF, pz_eqT, pz_eqF, if_pos, if_neg, if_true, if_false, ite_true, ite_false, pz_b0, pz_b1i, pz_bf, pz_bt, Bool.false_eq_true, Bool.true_eq_false, decide_true, decide_false, and_true, and_false, true_and, false_and, and_self, or_true, or_false, true_or, false_or, or_self, not_true_eq_false, not_false_eq_true, ne_eq, reduceIte, eq_self, upd_at]
theorem c_no : f_X7_counted fu a b c (-3) = some (-3, a, b + 1, c) := by
  simp (disch := omega) only [f_X7_counted, X7_counted_J16, X7_counted_J32, X7_counted_J48, pz_c0, pz_c1, pz_c2, pz_c3, pz_c4, pz_c5, pz_c6, pz_c7, pz_c8, pz_c9, pz_c10, pz_c11, pz_c12, pz_c13, pz_c14, pz_c15, pz_c16, pz_c17, pz_c18, pz_c19, pz_c20, pz_c21, pz_c22, pz_c23, pz_c24, pz_c25, pz_c26, pz_c27, pz_c28, pz_c29, pz_c30, pz_c31, pz_c32, pz_c33, pz_c34, pz_c35, pz_c36, pz_c42, pz_c48, pz_c57, pz_c59, pz_c60, pz_c63, pz_c64, pz_c66, pz_c96, pz_c97, pz_c99, pz_c100, pz_c122, pz_c127, pz_c128, pz_c200, pz_c255, pz_c299, pz_c300, pz_c336, pz_c354, pz_c585, pz_c666, pz_c708, pz_c1000, pz_c1170, pz_c4095, pz_c4096, pz_c4608, pz_c1000000, nI_add, pk_mul, pk_sub, pz_sub, pk_div, pz_or, pz_and, pz_xor, pz_n31, pz_shl, pz_shr, pz_eq, pz_le, pz_lt, pz_eqm, pz_meq, pz_mmeq, pz_lem, pz_mle, pz_ltm, pz_mlt, pz_mmle, pz_mmlt, pz_rd, pz_ck, pz_let, pz_cl, pz_bind, pz_gd, pz_zbb, eI_of, eI_N, pz_leT, pz_leF, pz_ltT, pz_ltF, pz_eqT, pz_eqF, if_pos, if_neg, if_true, if_false, ite_true, ite_false, pz_b0, pz_b1i, pz_bf, pz_bt, Bool.false_eq_true, Bool.true_eq_false, decide_true, decide_false, and_true, and_false, true_and, false_and, and_self, or_true, or_false, true_or, false_or, or_self, not_true_eq_false, not_false_eq_true, ne_eq, reduceIte, eq_self, upd_at]
theorem c_full : f_X7_counted fu a b c (-4) = some (-4, a, b, c + 1) := by
  simp (disch := omega) only [f_X7_counted, X7_counted_J16, X7_counted_J32, X7_counted_J48, pz_c0, pz_c1, pz_c2, pz_c3, pz_c4, pz_c5, pz_c6, pz_c7, pz_c8, pz_c9, pz_c10, pz_c11, pz_c12, pz_c13, pz_c14, pz_c15, pz_c16, pz_c17, pz_c18, pz_c19, pz_c20, pz_c21, pz_c22, pz_c23, pz_c24, pz_c25, pz_c26, pz_c27, pz_c28, pz_c29, pz_c30, pz_c31, pz_c32, pz_c33, pz_c34, pz_c35, pz_c36, pz_c42, pz_c48, pz_c57, pz_c59, pz_c60, pz_c63, pz_c64, pz_c66, pz_c96, pz_c97, pz_c99, pz_c100, pz_c122, pz_c127, pz_c128, pz_c200, pz_c255, pz_c299, pz_c300, pz_c336, pz_c354, pz_c585, pz_c666, pz_c708, pz_c1000, pz_c1170, pz_c4095, pz_c4096, pz_c4608, pz_c1000000, nI_add, pk_mul, pk_sub, pz_sub, pk_div, pz_or, pz_and, pz_xor, pz_n31, pz_shl, pz_shr, pz_eq, pz_le, pz_lt, pz_eqm, pz_meq, pz_mmeq, pz_lem, pz_mle, pz_ltm, pz_mlt, pz_mmle, pz_mmlt, pz_rd, pz_ck, pz_let, pz_cl, pz_bind, pz_gd, pz_zbb, eI_of, eI_N, pz_leT, pz_leF, pz_ltT, pz_ltF, pz_eqT, pz_eqF, if_pos, if_neg, if_true, if_false, ite_true, ite_false, pz_b0, pz_b1i, pz_bf, pz_bt, Bool.false_eq_true, Bool.true_eq_false, decide_true, decide_false, and_true, and_false, true_and, false_and, and_self, or_true, or_false, true_or, false_or, or_self, not_true_eq_false, not_false_eq_true, ne_eq, reduceIte, eq_self, upd_at]
theorem c_ok {v : Int32} (h : (∃ k, k < 2 ^ 31 ∧ v = nI k) ∨ v = -nI 1) : f_X7_counted fu a b c v = some (v, a, b, c) := by
  rcases h with ⟨k, hk, rfl⟩ | rfl <;> simp (disch := omega) only [f_X7_counted, X7_counted_J16, X7_counted_J32, X7_counted_J48, pz_c0, pz_c1, pz_c2, pz_c3, pz_c4, pz_c5, pz_c6, pz_c7, pz_c8, pz_c9, pz_c10, pz_c11, pz_c12, pz_c13, pz_c14, pz_c15, pz_c16, pz_c17, pz_c18, pz_c19, pz_c20, pz_c21, pz_c22, pz_c23, pz_c24, pz_c25, pz_c26, pz_c27, pz_c28, pz_c29, pz_c30, pz_c31, pz_c32, pz_c33, pz_c34, pz_c35, pz_c36, pz_c42, pz_c48, pz_c57, pz_c59, pz_c60, pz_c63, pz_c64, pz_c66, pz_c96, pz_c97, pz_c99, pz_c100, pz_c122, pz_c127, pz_c128, pz_c200, pz_c255, pz_c299, pz_c300, pz_c336, pz_c354, pz_c585, pz_c666, pz_c708, pz_c1000, pz_c1170, pz_c4095, pz_c4096, pz_c4608, pz_c1000000, nI_add, pk_mul, pk_sub, pz_sub, pk_div, pz_or, pz_and, pz_xor, pz_n31, pz_shl, pz_shr, pz_eq, pz_le, pz_lt, pz_eqm, pz_meq, pz_mmeq, pz_lem, pz_mle, pz_ltm, pz_mlt, pz_mmle, pz_mmlt, pz_rd, pz_ck, pz_let, pz_cl, pz_bind, pz_gd, pz_zbb, eI_of, eI_N, pz_leT, pz_leF, pz_ltT, pz_ltF, pz_eqT, pz_eqF, if_pos, if_neg, if_true, if_false, ite_true, ite_false, pz_b0, pz_b1i, pz_bf, pz_bt, Bool.false_eq_true, Bool.true_eq_false, decide_true, decide_false, and_true, and_false, true_and, false_and, and_self, or_true, or_false, true_or, false_or, or_self, not_true_eq_false, not_false_eq_true, ne_eq, reduceIte, eq_self, upd_at]
theorem t_bad : f_X8_told fu rf (-2) = some (-2, upd rf 0 (rf 0 + 1)) := by
  simp (disch := omega) only [f_X8_told, X8_told_J12, X8_told_J60, pz_c0, pz_c1, pz_c2, pz_c3, pz_c4, pz_c5, pz_c6, pz_c7, pz_c8, pz_c9, pz_c10, pz_c11, pz_c12, pz_c13, pz_c14, pz_c15, pz_c16, pz_c17, pz_c18, pz_c19, pz_c20, pz_c21, pz_c22, pz_c23, pz_c24, pz_c25, pz_c26, pz_c27, pz_c28, pz_c29, pz_c30, pz_c31, pz_c32, pz_c33, pz_c34, pz_c35, pz_c36, pz_c42, pz_c48, pz_c57, pz_c59, pz_c60, pz_c63, pz_c64, pz_c66, pz_c96, pz_c97, pz_c99, pz_c100, pz_c122, pz_c127, pz_c128, pz_c200, pz_c255, pz_c299, pz_c300, pz_c336, pz_c354, pz_c585, pz_c666, pz_c708, pz_c1000, pz_c1170, pz_c4095, pz_c4096, pz_c4608, pz_c1000000, nI_add, pk_mul, pk_sub, pz_sub, pk_div, pz_or, pz_and, pz_xor, pz_n31, pz_shl, pz_shr, pz_eq, pz_le, pz_lt, pz_eqm, pz_meq, pz_mmeq, pz_lem, pz_mle, pz_ltm, pz_mlt, pz_mmle, pz_mmlt, pz_rd, pz_ck, pz_let, pz_cl, pz_bind, pz_gd, pz_zbb, eI_of, eI_N, pz_leT, pz_leF, pz_ltT, pz_ltF, pz_eqT, pz_eqF, if_pos, if_neg, if_true, if_false, ite_true, ite_false, pz_b0, pz_b1i, pz_bf, pz_bt, Bool.false_eq_true, Bool.true_eq_false, decide_true, decide_false, and_true, and_false, true_and, false_and, and_self, or_true, or_false, true_or, false_or, or_self, not_true_eq_false, not_false_eq_true, ne_eq, reduceIte, eq_self, upd_at]
theorem t_not : f_X8_told fu rf (-10) = some (-10, upd rf 0 (rf 0 + 1)) := by
  simp (disch := omega) only [f_X8_told, X8_told_J12, X8_told_J60, pz_c0, pz_c1, pz_c2, pz_c3, pz_c4, pz_c5, pz_c6, pz_c7, pz_c8, pz_c9, pz_c10, pz_c11, pz_c12, pz_c13, pz_c14, pz_c15, pz_c16, pz_c17, pz_c18, pz_c19, pz_c20, pz_c21, pz_c22, pz_c23, pz_c24, pz_c25, pz_c26, pz_c27, pz_c28, pz_c29, pz_c30, pz_c31, pz_c32, pz_c33, pz_c34, pz_c35, pz_c36, pz_c42, pz_c48, pz_c57, pz_c59, pz_c60, pz_c63, pz_c64, pz_c66, pz_c96, pz_c97, pz_c99, pz_c100, pz_c122, pz_c127, pz_c128, pz_c200, pz_c255, pz_c299, pz_c300, pz_c336, pz_c354, pz_c585, pz_c666, pz_c708, pz_c1000, pz_c1170, pz_c4095, pz_c4096, pz_c4608, pz_c1000000, nI_add, pk_mul, pk_sub, pz_sub, pk_div, pz_or, pz_and, pz_xor, pz_n31, pz_shl, pz_shr, pz_eq, pz_le, pz_lt, pz_eqm, pz_meq, pz_mmeq, pz_lem, pz_mle, pz_ltm, pz_mlt, pz_mmle, pz_mmlt, pz_rd, pz_ck, pz_let, pz_cl, pz_bind, pz_gd, pz_zbb, eI_of, eI_N, pz_leT, pz_leF, pz_ltT, pz_ltF, pz_eqT, pz_eqF, if_pos, if_neg, if_true, if_false, ite_true, ite_false, pz_b0, pz_b1i, pz_bf, pz_bt, Bool.false_eq_true, Bool.true_eq_false, decide_true, decide_false, and_true, and_false, true_and, false_and, and_self, or_true, or_false, true_or, false_or, or_self, not_true_eq_false, not_false_eq_true, ne_eq, reduceIte, eq_self, upd_at]
theorem t_no : f_X8_told fu rf (-3) = some (-3, upd rf 1 (rf 1 + 1)) := by
  simp (disch := omega) only [f_X8_told, X8_told_J12, X8_told_J60, pz_c0, pz_c1, pz_c2, pz_c3, pz_c4, pz_c5, pz_c6, pz_c7, pz_c8, pz_c9, pz_c10, pz_c11, pz_c12, pz_c13, pz_c14, pz_c15, pz_c16, pz_c17, pz_c18, pz_c19, pz_c20, pz_c21, pz_c22, pz_c23, pz_c24, pz_c25, pz_c26, pz_c27, pz_c28, pz_c29, pz_c30, pz_c31, pz_c32, pz_c33, pz_c34, pz_c35, pz_c36, pz_c42, pz_c48, pz_c57, pz_c59, pz_c60, pz_c63, pz_c64, pz_c66, pz_c96, pz_c97, pz_c99, pz_c100, pz_c122, pz_c127, pz_c128, pz_c200, pz_c255, pz_c299, pz_c300, pz_c336, pz_c354, pz_c585, pz_c666, pz_c708, pz_c1000, pz_c1170, pz_c4095, pz_c4096, pz_c4608, pz_c1000000, nI_add, pk_mul, pk_sub, pz_sub, pk_div, pz_or, pz_and, pz_xor, pz_n31, pz_shl, pz_shr, pz_eq, pz_le, pz_lt, pz_eqm, pz_meq, pz_mmeq, pz_lem, pz_mle, pz_ltm, pz_mlt, pz_mmle, pz_mmlt, pz_rd, pz_ck, pz_let, pz_cl, pz_bind, pz_gd, pz_zbb, eI_of, eI_N, pz_leT, pz_leF, pz_ltT, pz_ltF, pz_eqT, pz_eqF, if_pos, if_neg, if_true, if_false, ite_true, ite_false, pz_b0, pz_b1i, pz_bf, pz_bt, Bool.false_eq_true, Bool.true_eq_false, decide_true, decide_false, and_true, and_false, true_and, false_and, and_self, or_true, or_false, true_or, false_or, or_self, not_true_eq_false, not_false_eq_true, ne_eq, reduceIte, eq_self, upd_at]
theorem t_full : f_X8_told fu rf (-4) = some (-4, upd rf 2 (rf 2 + 1)) := by
  simp (disch := omega) only [f_X8_told, X8_told_J12, X8_told_J60, pz_c0, pz_c1, pz_c2, pz_c3, pz_c4, pz_c5, pz_c6, pz_c7, pz_c8, pz_c9, pz_c10, pz_c11, pz_c12, pz_c13, pz_c14, pz_c15, pz_c16, pz_c17, pz_c18, pz_c19, pz_c20, pz_c21, pz_c22, pz_c23, pz_c24, pz_c25, pz_c26, pz_c27, pz_c28, pz_c29, pz_c30, pz_c31, pz_c32, pz_c33, pz_c34, pz_c35, pz_c36, pz_c42, pz_c48, pz_c57, pz_c59, pz_c60, pz_c63, pz_c64, pz_c66, pz_c96, pz_c97, pz_c99, pz_c100, pz_c122, pz_c127, pz_c128, pz_c200, pz_c255, pz_c299, pz_c300, pz_c336, pz_c354, pz_c585, pz_c666, pz_c708, pz_c1000, pz_c1170, pz_c4095, pz_c4096, pz_c4608, pz_c1000000, nI_add, pk_mul, pk_sub, pz_sub, pk_div, pz_or, pz_and, pz_xor, pz_n31, pz_shl, pz_shr, pz_eq, pz_le, pz_lt, pz_eqm, pz_meq, pz_mmeq, pz_lem, pz_mle, pz_ltm, pz_mlt, pz_mmle, pz_mmlt, pz_rd, pz_ck, pz_let, pz_cl, pz_bind, pz_gd, pz_zbb, eI_of, eI_N, pz_leT, pz_leF, pz_ltT, pz_ltF, pz_eqT, pz_eqF, if_pos, if_neg, if_true, if_false, ite_true, ite_false, pz_b0, pz_b1i, pz_bf, pz_bt, Bool.false_eq_true, Bool.true_eq_false, decide_true, decide_false, and_true, and_false, true_and, false_and, and_self, or_true, or_false, true_or, false_or, or_self, not_true_eq_false, not_false_eq_true, ne_eq, reduceIte, eq_self, upd_at]
theorem t_ok {v : Int32} (h : (∃ k, k < 2 ^ 31 ∧ v = nI k) ∨ v = -nI 1) : f_X8_told fu rf v = some (v, rf) := by
  rcases h with ⟨k, hk, rfl⟩ | rfl <;> simp (disch := omega) only [f_X8_told, X8_told_J12, X8_told_J60, pz_c0, pz_c1, pz_c2, pz_c3, pz_c4, pz_c5, pz_c6, pz_c7, pz_c8, pz_c9, pz_c10, pz_c11, pz_c12, pz_c13, pz_c14, pz_c15, pz_c16, pz_c17, pz_c18, pz_c19, pz_c20, pz_c21, pz_c22, pz_c23, pz_c24, pz_c25, pz_c26, pz_c27, pz_c28, pz_c29, pz_c30, pz_c31, pz_c32, pz_c33, pz_c34, pz_c35, pz_c36, pz_c42, pz_c48, pz_c57, pz_c59, pz_c60, pz_c63, pz_c64, pz_c66, pz_c96, pz_c97, pz_c99, pz_c100, pz_c122, pz_c127, pz_c128, pz_c200, pz_c255, pz_c299, pz_c300, pz_c336, pz_c354, pz_c585, pz_c666, pz_c708, pz_c1000, pz_c1170, pz_c4095, pz_c4096, pz_c4608, pz_c1000000, nI_add, pk_mul, pk_sub, pz_sub, pk_div, pz_or, pz_and, pz_xor, pz_n31, pz_shl, pz_shr, pz_eq, pz_le, pz_lt, pz_eqm, pz_meq, pz_mmeq, pz_lem, pz_mle, pz_ltm, pz_mlt, pz_mmle, pz_mmlt, pz_rd, pz_ck, pz_let, pz_cl, pz_bind, pz_gd, pz_zbb, eI_of, eI_N, pz_leT, pz_leF, pz_ltT, pz_ltF, pz_eqT, pz_eqF, if_pos, if_neg, if_true, if_false, ite_true, ite_false, pz_b0, pz_b1i, pz_bf, pz_bt, Bool.false_eq_true, Bool.true_eq_false, decide_true, decide_false, and_true, and_false, true_and, false_and, and_self, or_true, or_false, true_or, false_or, or_self, not_true_eq_false, not_false_eq_true, ne_eq, reduceIte, eq_self, upd_at]
theorem ca_bad : f_X7_countedApart fu a b c (-2) = some (-10, a + 1, b, c) := by
  rw [f_X7_countedApart, c_bad, pz_bind]; rfl
theorem ca_ok {v : Int32} (h : (∃ k, k < 2 ^ 31 ∧ v = nI k) ∨ v = -nI 1) : f_X7_countedApart fu a b c v = some (v, a, b, c) := by
  rw [f_X7_countedApart, c_ok h, pz_bind]
  rcases h with ⟨k, hk, rfl⟩ | rfl
  · simp (disch := omega) only [pz_c0, pz_c1, pz_c2, pz_c3, pz_c4, pz_c5, pz_c6, pz_c7, pz_c8, pz_c9, pz_c10, pz_c11, pz_c12, pz_c13, pz_c14, pz_c15, pz_c16, pz_c17, pz_c18, pz_c19, pz_c20, pz_c21, pz_c22, pz_c23, pz_c24, pz_c25, pz_c26, pz_c27, pz_c28, pz_c29, pz_c30, pz_c31, pz_c32, pz_c33, pz_c34, pz_c35, pz_c36, pz_c42, pz_c48, pz_c57, pz_c59, pz_c60, pz_c63, pz_c64, pz_c66, pz_c96, pz_c97, pz_c99, pz_c100, pz_c122, pz_c127, pz_c128, pz_c200, pz_c255, pz_c299, pz_c300, pz_c336, pz_c354, pz_c585, pz_c666, pz_c708, pz_c1000, pz_c1170, pz_c4095, pz_c4096, pz_c4608, pz_c1000000, nI_add, pk_mul, pk_sub, pz_sub, pk_div, pz_or, pz_and, pz_xor, pz_n31, pz_shl, pz_shr, pz_eq, pz_le, pz_lt, pz_eqm, pz_meq, pz_mmeq, pz_lem, pz_mle, pz_ltm, pz_mlt, pz_mmle, pz_mmlt, pz_rd, pz_ck, pz_let, pz_cl, pz_bind, pz_gd, pz_zbb, eI_of, eI_N, pz_leT, pz_leF, pz_ltT, pz_ltF, pz_eqT, pz_eqF, if_pos, if_neg, if_true, if_false, ite_true, ite_false, pz_b0, pz_b1i, pz_bf, pz_bt, Bool.false_eq_true, Bool.true_eq_false, decide_true, decide_false, and_true, and_false, true_and, false_and, and_self, or_true, or_false, true_or, false_or, or_self, not_true_eq_false, not_false_eq_true, ne_eq, reduceIte, eq_self, upd_at]
  · simp (disch := omega) only [pz_c0, pz_c1, pz_c2, pz_c3, pz_c4, pz_c5, pz_c6, pz_c7, pz_c8, pz_c9, pz_c10, pz_c11, pz_c12, pz_c13, pz_c14, pz_c15, pz_c16, pz_c17, pz_c18, pz_c19, pz_c20, pz_c21, pz_c22, pz_c23, pz_c24, pz_c25, pz_c26, pz_c27, pz_c28, pz_c29, pz_c30, pz_c31, pz_c32, pz_c33, pz_c34, pz_c35, pz_c36, pz_c42, pz_c48, pz_c57, pz_c59, pz_c60, pz_c63, pz_c64, pz_c66, pz_c96, pz_c97, pz_c99, pz_c100, pz_c122, pz_c127, pz_c128, pz_c200, pz_c255, pz_c299, pz_c300, pz_c336, pz_c354, pz_c585, pz_c666, pz_c708, pz_c1000, pz_c1170, pz_c4095, pz_c4096, pz_c4608, pz_c1000000, nI_add, pk_mul, pk_sub, pz_sub, pk_div, pz_or, pz_and, pz_xor, pz_n31, pz_shl, pz_shr, pz_eq, pz_le, pz_lt, pz_eqm, pz_meq, pz_mmeq, pz_lem, pz_mle, pz_ltm, pz_mlt, pz_mmle, pz_mmlt, pz_rd, pz_ck, pz_let, pz_cl, pz_bind, pz_gd, pz_zbb, eI_of, eI_N, pz_leT, pz_leF, pz_ltT, pz_ltF, pz_eqT, pz_eqF, if_pos, if_neg, if_true, if_false, ite_true, ite_false, pz_b0, pz_b1i, pz_bf, pz_bt, Bool.false_eq_true, Bool.true_eq_false, decide_true, decide_false, and_true, and_false, true_and, false_and, and_self, or_true, or_false, true_or, false_or, or_self, not_true_eq_false, not_false_eq_true, ne_eq, reduceIte, eq_self, upd_at]
theorem SS_bad (h : SS rf a b c) : SS (upd rf 0 (rf 0 + 1)) (a + 1) b c := ⟨by rw [upd_at, if_pos rfl, h.1], by rw [upd_at, if_neg (by decide), h.2.1], by rw [upd_at, if_neg (by decide), h.2.2]⟩
theorem SS_no (h : SS rf a b c) : SS (upd rf 1 (rf 1 + 1)) a (b + 1) c := ⟨by rw [upd_at, if_neg (by decide), h.1], by rw [upd_at, if_pos rfl, h.2.1], by rw [upd_at, if_neg (by decide), h.2.2]⟩
theorem SS_full (h : SS rf a b c) : SS (upd rf 2 (rf 2 + 1)) a b (c + 1) := ⟨by rw [upd_at, if_neg (by decide), h.1], by rw [upd_at, if_neg (by decide), h.2.1], by rw [upd_at, if_pos rfl, h.2.2]⟩
theorem ok_eI {v : Nat} (h : v = 65535 ∨ v < 65535) : (∃ k, k < 2 ^ 31 ∧ eI v = nI k) ∨ eI v = -nI 1 := by
  rcases h with h | h
  · right; rw [h]; rfl
  · left; exact ⟨v, by omega, eI_of h⟩
/-! spelling -/
theorem sp_step {k n L b r i : Nat} {le : Nat → Int32} (hL : L ≤ 6) (hr : r < 1000) (hi : i < 3) : X6_spell_L54 fu (nI n) (nI L) (k + 1) (nI b) le (nI r) (nI i) = if 1 ≤ r % 10 ∧ r % 10 ≤ L then X6_spell_L54 fu (nI n) (nI L) k (nI (b ||| (1 <<< (r % 10 - 1)))) (upd le i (nI (r % 10 - 1))) (nI (r / 10)) (nI i + -1) else some (nI 0, nI n, nI b, le) := by
  rw [X6_spell_L54]
  generalize X6_spell_L54 fu (nI n) (nI L) k = rec
  by_cases h1 : 1 ≤ r % 10
  · by_cases h2 : r % 10 ≤ L
    · rw [if_pos (show 1 ≤ r % 10 ∧ r % 10 ≤ L from ⟨h1, h2⟩)]
      simp (disch := omega) only [pz_c0, pz_c1, pz_c2, pz_c3, pz_c4, pz_c5, pz_c6, pz_c7, pz_c8, pz_c9, pz_c10, pz_c11, pz_c12, pz_c13, pz_c14, pz_c15, pz_c16, pz_c17, pz_c18, pz_c19, pz_c20, pz_c21, pz_c22, pz_c23, pz_c24, pz_c25, pz_c26, pz_c27, pz_c28, pz_c29, pz_c30, pz_c31, pz_c32, pz_c33, pz_c34, pz_c35, pz_c36, pz_c42, pz_c48, pz_c57, pz_c59, pz_c60, pz_c63, pz_c64, pz_c66, pz_c96, pz_c97, pz_c99, pz_c100, pz_c122, pz_c127, pz_c128, pz_c200, pz_c255, pz_c299, pz_c300, pz_c336, pz_c354, pz_c585, pz_c666, pz_c708, pz_c1000, pz_c1170, pz_c4095, pz_c4096, pz_c4608, pz_c1000000, nI_add, pk_mul, pk_sub, pz_sub, pk_div, pz_or, pz_and, pz_xor, pz_n31, pz_shl, pz_shr, pz_eq, pz_le, pz_lt, pz_eqm, pz_meq, pz_mmeq, pz_lem, pz_mle, pz_ltm, pz_mlt, pz_mmle, pz_mmlt, pz_rd, pz_ck, pz_let, pz_cl, pz_bind, pz_gd, pz_zbb, eI_of, eI_N, pz_leT, pz_leF, pz_ltT, pz_ltF, pz_eqT, pz_eqF, if_pos, if_neg, if_true, if_false, ite_true, ite_false, pz_b0, pz_b1i, pz_bf, pz_bt, Bool.false_eq_true, Bool.true_eq_false, decide_true, decide_false, and_true, and_false, true_and, false_and, and_self, or_true, or_false, true_or, false_or, or_self, not_true_eq_false, not_false_eq_true, ne_eq, reduceIte, eq_self, upd_at, pz_rm]
    · rw [if_neg (show ¬ (1 ≤ r % 10 ∧ r % 10 ≤ L) from fun q => h2 q.2)]
      simp (disch := omega) only [pz_c0, pz_c1, pz_c2, pz_c3, pz_c4, pz_c5, pz_c6, pz_c7, pz_c8, pz_c9, pz_c10, pz_c11, pz_c12, pz_c13, pz_c14, pz_c15, pz_c16, pz_c17, pz_c18, pz_c19, pz_c20, pz_c21, pz_c22, pz_c23, pz_c24, pz_c25, pz_c26, pz_c27, pz_c28, pz_c29, pz_c30, pz_c31, pz_c32, pz_c33, pz_c34, pz_c35, pz_c36, pz_c42, pz_c48, pz_c57, pz_c59, pz_c60, pz_c63, pz_c64, pz_c66, pz_c96, pz_c97, pz_c99, pz_c100, pz_c122, pz_c127, pz_c128, pz_c200, pz_c255, pz_c299, pz_c300, pz_c336, pz_c354, pz_c585, pz_c666, pz_c708, pz_c1000, pz_c1170, pz_c4095, pz_c4096, pz_c4608, pz_c1000000, nI_add, pk_mul, pk_sub, pz_sub, pk_div, pz_or, pz_and, pz_xor, pz_n31, pz_shl, pz_shr, pz_eq, pz_le, pz_lt, pz_eqm, pz_meq, pz_mmeq, pz_lem, pz_mle, pz_ltm, pz_mlt, pz_mmle, pz_mmlt, pz_rd, pz_ck, pz_let, pz_cl, pz_bind, pz_gd, pz_zbb, eI_of, eI_N, pz_leT, pz_leF, pz_ltT, pz_ltF, pz_eqT, pz_eqF, if_pos, if_neg, if_true, if_false, ite_true, ite_false, pz_b0, pz_b1i, pz_bf, pz_bt, Bool.false_eq_true, Bool.true_eq_false, decide_true, decide_false, and_true, and_false, true_and, false_and, and_self, or_true, or_false, true_or, false_or, or_self, not_true_eq_false, not_false_eq_true, ne_eq, reduceIte, eq_self, upd_at, pz_rm, X6_spell_J77]
  · rw [if_neg (show ¬ (1 ≤ r % 10 ∧ r % 10 ≤ L) from fun q => h1 q.1)]
    simp (disch := omega) only [pz_c0, pz_c1, pz_c2, pz_c3, pz_c4, pz_c5, pz_c6, pz_c7, pz_c8, pz_c9, pz_c10, pz_c11, pz_c12, pz_c13, pz_c14, pz_c15, pz_c16, pz_c17, pz_c18, pz_c19, pz_c20, pz_c21, pz_c22, pz_c23, pz_c24, pz_c25, pz_c26, pz_c27, pz_c28, pz_c29, pz_c30, pz_c31, pz_c32, pz_c33, pz_c34, pz_c35, pz_c36, pz_c42, pz_c48, pz_c57, pz_c59, pz_c60, pz_c63, pz_c64, pz_c66, pz_c96, pz_c97, pz_c99, pz_c100, pz_c122, pz_c127, pz_c128, pz_c200, pz_c255, pz_c299, pz_c300, pz_c336, pz_c354, pz_c585, pz_c666, pz_c708, pz_c1000, pz_c1170, pz_c4095, pz_c4096, pz_c4608, pz_c1000000, nI_add, pk_mul, pk_sub, pz_sub, pk_div, pz_or, pz_and, pz_xor, pz_n31, pz_shl, pz_shr, pz_eq, pz_le, pz_lt, pz_eqm, pz_meq, pz_mmeq, pz_lem, pz_mle, pz_ltm, pz_mlt, pz_mmle, pz_mmlt, pz_rd, pz_ck, pz_let, pz_cl, pz_bind, pz_gd, pz_zbb, eI_of, eI_N, pz_leT, pz_leF, pz_ltT, pz_ltF, pz_eqT, pz_eqF, if_pos, if_neg, if_true, if_false, ite_true, ite_false, pz_b0, pz_b1i, pz_bf, pz_bt, Bool.false_eq_true, Bool.true_eq_false, decide_true, decide_false, and_true, and_false, true_and, false_and, and_self, or_true, or_false, true_or, false_or, or_self, not_true_eq_false, not_false_eq_true, ne_eq, reduceIte, eq_self, upd_at, pz_rm, X6_spell_J77]
theorem sp_end {k : Nat} {n L b r : Int32} {le : Nat → Int32} : X6_spell_L54 fu n L (k + 1) b le r (-nI 1) = some (nI 1, n, b, le) := by
  rw [X6_spell_L54, if_pos (by decide +kernel)]; rfl
theorem one_bit {d k : Nat} : ((1 : Nat) <<< d).testBit k = decide (k = d) := by
  rw [Nat.testBit_shiftLeft, ← Nat.pow_zero 2, Nat.testBit_two_pow]
  by_cases h : k = d
  · subst h; simp
  · simp [h]; omega
theorem or_lt64 {x d : Nat} (hx : x < 64) (hd : d < 6) : x ||| (1 <<< d) < 64 := by
  apply Nat.or_lt_two_pow (n := 6) hx
  rw [Nat.shiftLeft_eq, Nat.one_mul]
  exact Nat.pow_lt_pow_right (by decide) hd
theorem x6_spell {l0 b0 : Int32} {le : Nat → Int32} (hf : 5000 ≤ fu) (hL : s 3 ≤ 6) (v : Int32) : ∃ r, f_X6_spell fu l0 b0 le v (nI (s 3)) = some r ∧ r.1 = bI (okB s (vN v)) ∧ (okB s (vN v) = true → r.2.1 = nI (wl (vN v)) ∧ ∃ bits, r.2.2.1 = nI bits ∧ LW (vN v) bits r.2.2.2) := by
  obtain ⟨m, hm⟩ : ∃ m, fu = m + 4 := ⟨fu - 4, by omega⟩
  have m1 : ∀ i : Nat, nI (i + 1) + -1 = nI i := pk_m1
  have m0 : nI 0 + -1 = -nI 1 := by decide +kernel
  rcases pz_cases v with ⟨w, hw, rfl⟩ | ⟨b, hb0, hb, rfl⟩
  · rw [vN_n hw]
    by_cases h0 : 1 ≤ w ∧ w ≤ 666
    · have start : ∀ q : Nat, X6_spell_J36 fu l0 b0 le (nI w) (nI (s 3)) (nI (q + 1)) = X6_spell_L54 fu (nI (q + 1)) (nI (s 3)) (m + 4) (nI 0) le (nI w) (nI q) := fun q => by
        rw [X6_spell_J36, ← hm, show nI (q + 1) - 1 = nI q from nI_pred q]; rfl
      by_cases h1 : w ≤ 9
      · have ew : wl w = 1 := by unfold wl; rw [if_neg (by omega), if_neg (by omega)]
        have e : f_X6_spell fu l0 b0 le (nI w) (nI (s 3)) = X6_spell_J36 fu l0 b0 le (nI w) (nI (s 3)) (nI 1) := by
          simp (disch := omega) only [f_X6_spell, pz_c0, pz_c1, pz_c2, pz_c3, pz_c4, pz_c5, pz_c6, pz_c7, pz_c8, pz_c9, pz_c10, pz_c11, pz_c12, pz_c13, pz_c14, pz_c15, pz_c16, pz_c17, pz_c18, pz_c19, pz_c20, pz_c21, pz_c22, pz_c23, pz_c24, pz_c25, pz_c26, pz_c27, pz_c28, pz_c29, pz_c30, pz_c31, pz_c32, pz_c33, pz_c34, pz_c35, pz_c36, pz_c42, pz_c48, pz_c57, pz_c59, pz_c60, pz_c63, pz_c64, pz_c66, pz_c96, pz_c97, pz_c99, pz_c100, pz_c122, pz_c127, pz_c128, pz_c200, pz_c255, pz_c299, pz_c300, pz_c336, pz_c354, pz_c585, pz_c666, pz_c708, pz_c1000, pz_c1170, pz_c4095, pz_c4096, pz_c4608, pz_c1000000, nI_add, pk_mul, pk_sub, pz_sub, pk_div, pz_or, pz_and, pz_xor, pz_n31, pz_shl, pz_shr, pz_eq, pz_le, pz_lt, pz_eqm, pz_meq, pz_mmeq, pz_lem, pz_mle, pz_ltm, pz_mlt, pz_mmle, pz_mmlt, pz_rd, pz_ck, pz_let, pz_cl, pz_bind, pz_gd, pz_zbb, eI_of, eI_N, pz_leT, pz_leF, pz_ltT, pz_ltF, pz_eqT, pz_eqF, if_pos, if_neg, if_true, if_false, ite_true, ite_false, pz_b0, pz_b1i, pz_bf, pz_bt, Bool.false_eq_true, Bool.true_eq_false, decide_true, decide_false, and_true, and_false, true_and, false_and, and_self, or_true, or_false, true_or, false_or, or_self, not_true_eq_false, not_false_eq_true, ne_eq, reduceIte, eq_self, upd_at]
        rw [e, start 0, sp_step hL (by omega) (by omega)]
        by_cases g : 1 ≤ w % 10 ∧ w % 10 ≤ s 3
        · have ok : okB s w = true := okB_iff.mpr ⟨h0.1, h0.2, g, fun q => by omega, fun q => by omega⟩
          rw [if_pos g, m0, sp_end, ok]
          refine ⟨_, rfl, rfl, fun _ => ⟨by rw [ew], _, rfl, or_lt64 (by omega) (by omega), fun k hk => ?_, fun i hi => ?_⟩⟩
          · rw [Nat.zero_or, one_bit]
            have t1 : (decide (k = w % 10 - 1)) = decide (0 < w ∧ w % 10 = k + 1) := by simp only [decide_eq_decide]; omega
            rw [t1]
            simp only [inW, show w / 10 = 0 by omega, show w / 100 = 0 by omega]
            simp
          · rw [ew] at hi
            obtain rfl : i = 0 := by omega
            have ed : wd w 0 = w % 10 - 1 := by rw [wd, ew]; simp
            rw [ed]
            show upd le 0 (nI (w % 10 - 1)) 0 = _
            exact pk_us
        · have ok : okB s w = false := by
            rw [← Bool.not_eq_true]
            intro q
            exact g (okB_iff.mp q).2.2.1
          rw [if_neg g, ok]
          exact ⟨_, rfl, rfl, fun q => by cases q⟩
      · by_cases h2 : w ≤ 99
        · have ew : wl w = 2 := by unfold wl; rw [if_neg (by omega), if_pos (by omega)]
          have e : f_X6_spell fu l0 b0 le (nI w) (nI (s 3)) = X6_spell_J36 fu l0 b0 le (nI w) (nI (s 3)) (nI 2) := by
            simp (disch := omega) only [f_X6_spell, pz_c0, pz_c1, pz_c2, pz_c3, pz_c4, pz_c5, pz_c6, pz_c7, pz_c8, pz_c9, pz_c10, pz_c11, pz_c12, pz_c13, pz_c14, pz_c15, pz_c16, pz_c17, pz_c18, pz_c19, pz_c20, pz_c21, pz_c22, pz_c23, pz_c24, pz_c25, pz_c26, pz_c27, pz_c28, pz_c29, pz_c30, pz_c31, pz_c32, pz_c33, pz_c34, pz_c35, pz_c36, pz_c42, pz_c48, pz_c57, pz_c59, pz_c60, pz_c63, pz_c64, pz_c66, pz_c96, pz_c97, pz_c99, pz_c100, pz_c122, pz_c127, pz_c128, pz_c200, pz_c255, pz_c299, pz_c300, pz_c336, pz_c354, pz_c585, pz_c666, pz_c708, pz_c1000, pz_c1170, pz_c4095, pz_c4096, pz_c4608, pz_c1000000, nI_add, pk_mul, pk_sub, pz_sub, pk_div, pz_or, pz_and, pz_xor, pz_n31, pz_shl, pz_shr, pz_eq, pz_le, pz_lt, pz_eqm, pz_meq, pz_mmeq, pz_lem, pz_mle, pz_ltm, pz_mlt, pz_mmle, pz_mmlt, pz_rd, pz_ck, pz_let, pz_cl, pz_bind, pz_gd, pz_zbb, eI_of, eI_N, pz_leT, pz_leF, pz_ltT, pz_ltF, pz_eqT, pz_eqF, if_pos, if_neg, if_true, if_false, ite_true, ite_false, pz_b0, pz_b1i, pz_bf, pz_bt, Bool.false_eq_true, Bool.true_eq_false, decide_true, decide_false, and_true, and_false, true_and, false_and, and_self, or_true, or_false, true_or, false_or, or_self, not_true_eq_false, not_false_eq_true, ne_eq, reduceIte, eq_self, upd_at]
          rw [e, start 1, sp_step hL (by omega) (by omega)]
          by_cases g : 1 ≤ w % 10 ∧ w % 10 ≤ s 3
          · rw [if_pos g, m1 0, sp_step hL (by omega) (by omega)]
            by_cases g2 : 1 ≤ w / 10 % 10 ∧ w / 10 % 10 ≤ s 3
            · have ok : okB s w = true := okB_iff.mpr ⟨h0.1, h0.2, g, fun q => g2, fun q => by omega⟩
              rw [if_pos g2, m0, sp_end, ok]
              refine ⟨_, rfl, rfl, fun _ => ⟨by rw [ew], _, rfl, or_lt64 (or_lt64 (by omega) (by omega)) (by omega), fun k hk => ?_, fun i hi => ?_⟩⟩
              · rw [Nat.zero_or, Nat.testBit_or, one_bit, one_bit]
                simp only [inW, show w / 100 = 0 by omega]
                have t1 : (decide (k = w % 10 - 1)) = decide (0 < w ∧ w % 10 = k + 1) := by simp only [decide_eq_decide]; omega
                have t2 : (decide (k = w / 10 % 10 - 1)) = decide (0 < w / 10 ∧ w / 10 % 10 = k + 1) := by simp only [decide_eq_decide]; omega
                rw [t1, t2]
                simp
              · rw [ew] at hi
                rcases (show i = 0 ∨ i = 1 by omega) with e | e <;> subst e
                · show upd (upd le 1 (nI (w % 10 - 1))) 0 (nI (w / 10 % 10 - 1)) 0 = _
                  rw [pk_us, wd, ew]
                  simp
                · show upd (upd le 1 (nI (w % 10 - 1))) 0 (nI (w / 10 % 10 - 1)) 1 = _
                  rw [pk_un (by decide), pk_us, wd, ew]
                  simp
            · have ok : okB s w = false := by
                rw [← Bool.not_eq_true]
                intro q
                exact g2 ((okB_iff.mp q).2.2.2.1 (by omega))
              rw [if_neg g2, ok]
              exact ⟨_, rfl, rfl, fun q => by cases q⟩
          · have ok : okB s w = false := by
              rw [← Bool.not_eq_true]
              intro q
              exact g (okB_iff.mp q).2.2.1
            rw [if_neg g, ok]
            exact ⟨_, rfl, rfl, fun q => by cases q⟩
        · have ew : wl w = 3 := by unfold wl; rw [if_pos (by omega)]
          have e : f_X6_spell fu l0 b0 le (nI w) (nI (s 3)) = X6_spell_J36 fu l0 b0 le (nI w) (nI (s 3)) (nI 3) := by
            simp (disch := omega) only [f_X6_spell, pz_c0, pz_c1, pz_c2, pz_c3, pz_c4, pz_c5, pz_c6, pz_c7, pz_c8, pz_c9, pz_c10, pz_c11, pz_c12, pz_c13, pz_c14, pz_c15, pz_c16, pz_c17, pz_c18, pz_c19, pz_c20, pz_c21, pz_c22, pz_c23, pz_c24, pz_c25, pz_c26, pz_c27, pz_c28, pz_c29, pz_c30, pz_c31, pz_c32, pz_c33, pz_c34, pz_c35, pz_c36, pz_c42, pz_c48, pz_c57, pz_c59, pz_c60, pz_c63, pz_c64, pz_c66, pz_c96, pz_c97, pz_c99, pz_c100, pz_c122, pz_c127, pz_c128, pz_c200, pz_c255, pz_c299, pz_c300, pz_c336, pz_c354, pz_c585, pz_c666, pz_c708, pz_c1000, pz_c1170, pz_c4095, pz_c4096, pz_c4608, pz_c1000000, nI_add, pk_mul, pk_sub, pz_sub, pk_div, pz_or, pz_and, pz_xor, pz_n31, pz_shl, pz_shr, pz_eq, pz_le, pz_lt, pz_eqm, pz_meq, pz_mmeq, pz_lem, pz_mle, pz_ltm, pz_mlt, pz_mmle, pz_mmlt, pz_rd, pz_ck, pz_let, pz_cl, pz_bind, pz_gd, pz_zbb, eI_of, eI_N, pz_leT, pz_leF, pz_ltT, pz_ltF, pz_eqT, pz_eqF, if_pos, if_neg, if_true, if_false, ite_true, ite_false, pz_b0, pz_b1i, pz_bf, pz_bt, Bool.false_eq_true, Bool.true_eq_false, decide_true, decide_false, and_true, and_false, true_and, false_and, and_self, or_true, or_false, true_or, false_or, or_self, not_true_eq_false, not_false_eq_true, ne_eq, reduceIte, eq_self, upd_at]
          have e100 : w / 10 / 10 = w / 100 := by omega
          rw [e, start 2, sp_step hL (by omega) (by omega)]
          by_cases g : 1 ≤ w % 10 ∧ w % 10 ≤ s 3
          · rw [if_pos g, m1 1, sp_step hL (by omega) (by omega)]
            by_cases g2 : 1 ≤ w / 10 % 10 ∧ w / 10 % 10 ≤ s 3
            · rw [if_pos g2, m1 0, sp_step hL (by omega) (by omega), e100]
              by_cases g3 : 1 ≤ w / 100 % 10 ∧ w / 100 % 10 ≤ s 3
              · have ok : okB s w = true := okB_iff.mpr ⟨h0.1, h0.2, g, fun q => g2, fun q => g3⟩
                rw [if_pos g3, m0, sp_end, ok]
                refine ⟨_, rfl, rfl, fun _ => ⟨by rw [ew], _, rfl, or_lt64 (or_lt64 (or_lt64 (by omega) (by omega)) (by omega)) (by omega), fun k hk => ?_, fun i hi => ?_⟩⟩
                · rw [Nat.zero_or, Nat.testBit_or, Nat.testBit_or, one_bit, one_bit, one_bit]
                  simp only [inW]
                  have t1 : (decide (k = w % 10 - 1)) = decide (0 < w ∧ w % 10 = k + 1) := by simp only [decide_eq_decide]; omega
                  have t2 : (decide (k = w / 10 % 10 - 1)) = decide (0 < w / 10 ∧ w / 10 % 10 = k + 1) := by simp only [decide_eq_decide]; omega
                  have t3 : (decide (k = w / 100 % 10 - 1)) = decide (0 < w / 100 ∧ w / 100 % 10 = k + 1) := by simp only [decide_eq_decide]; omega
                  rw [t1, t2, t3, Bool.or_assoc]
                · rw [ew] at hi
                  rcases (show i = 0 ∨ i = 1 ∨ i = 2 by omega) with e | e | e <;> subst e
                  · show upd (upd (upd le 2 (nI (w % 10 - 1))) 1 (nI (w / 10 % 10 - 1))) 0 (nI (w / 100 % 10 - 1)) 0 = _
                    rw [pk_us, wd, ew]
                    simp
                  · show upd (upd (upd le 2 (nI (w % 10 - 1))) 1 (nI (w / 10 % 10 - 1))) 0 (nI (w / 100 % 10 - 1)) 1 = _
                    rw [pk_un (by decide), pk_us, wd, ew]
                    simp
                  · show upd (upd (upd le 2 (nI (w % 10 - 1))) 1 (nI (w / 10 % 10 - 1))) 0 (nI (w / 100 % 10 - 1)) 2 = _
                    rw [pk_un (by decide), pk_un (by decide), pk_us, wd, ew]
                    simp
              · have ok : okB s w = false := by
                  rw [← Bool.not_eq_true]
                  intro q
                  exact g3 ((okB_iff.mp q).2.2.2.2 (by omega))
                rw [if_neg g3, ok]
                exact ⟨_, rfl, rfl, fun q => by cases q⟩
            · have ok : okB s w = false := by
                rw [← Bool.not_eq_true]
                intro q
                exact g2 ((okB_iff.mp q).2.2.2.1 (by omega))
              rw [if_neg g2, ok]
              exact ⟨_, rfl, rfl, fun q => by cases q⟩
          · have ok : okB s w = false := by
              rw [← Bool.not_eq_true]
              intro q
              exact g (okB_iff.mp q).2.2.1
            rw [if_neg g, ok]
            exact ⟨_, rfl, rfl, fun q => by cases q⟩
    · have ok : okB s w = false := by
        rw [← Bool.not_eq_true]
        intro q
        have := okB_iff.mp q
        exact h0 ⟨this.1, this.2.1⟩
      rw [ok]
      refine ⟨(nI 0, l0, b0, le), ?_, rfl, fun q => by cases q⟩
      by_cases h1 : w < 1
      · simp (disch := omega) only [f_X6_spell, X6_spell_J12, pz_c0, pz_c1, pz_c2, pz_c3, pz_c4, pz_c5, pz_c6, pz_c7, pz_c8, pz_c9, pz_c10, pz_c11, pz_c12, pz_c13, pz_c14, pz_c15, pz_c16, pz_c17, pz_c18, pz_c19, pz_c20, pz_c21, pz_c22, pz_c23, pz_c24, pz_c25, pz_c26, pz_c27, pz_c28, pz_c29, pz_c30, pz_c31, pz_c32, pz_c33, pz_c34, pz_c35, pz_c36, pz_c42, pz_c48, pz_c57, pz_c59, pz_c60, pz_c63, pz_c64, pz_c66, pz_c96, pz_c97, pz_c99, pz_c100, pz_c122, pz_c127, pz_c128, pz_c200, pz_c255, pz_c299, pz_c300, pz_c336, pz_c354, pz_c585, pz_c666, pz_c708, pz_c1000, pz_c1170, pz_c4095, pz_c4096, pz_c4608, pz_c1000000, nI_add, pk_mul, pk_sub, pz_sub, pk_div, pz_or, pz_and, pz_xor, pz_n31, pz_shl, pz_shr, pz_eq, pz_le, pz_lt, pz_eqm, pz_meq, pz_mmeq, pz_lem, pz_mle, pz_ltm, pz_mlt, pz_mmle, pz_mmlt, pz_rd, pz_ck, pz_let, pz_cl, pz_bind, pz_gd, pz_zbb, eI_of, eI_N, pz_leT, pz_leF, pz_ltT, pz_ltF, pz_eqT, pz_eqF, if_pos, if_neg, if_true, if_false, ite_true, ite_false, pz_b0, pz_b1i, pz_bf, pz_bt, Bool.false_eq_true, Bool.true_eq_false, decide_true, decide_false, and_true, and_false, true_and, false_and, and_self, or_true, or_false, true_or, false_or, or_self, not_true_eq_false, not_false_eq_true, ne_eq, reduceIte, eq_self, upd_at]
      · simp (disch := omega) only [f_X6_spell, X6_spell_J12, pz_c0, pz_c1, pz_c2, pz_c3, pz_c4, pz_c5, pz_c6, pz_c7, pz_c8, pz_c9, pz_c10, pz_c11, pz_c12, pz_c13, pz_c14, pz_c15, pz_c16, pz_c17, pz_c18, pz_c19, pz_c20, pz_c21, pz_c22, pz_c23, pz_c24, pz_c25, pz_c26, pz_c27, pz_c28, pz_c29, pz_c30, pz_c31, pz_c32, pz_c33, pz_c34, pz_c35, pz_c36, pz_c42, pz_c48, pz_c57, pz_c59, pz_c60, pz_c63, pz_c64, pz_c66, pz_c96, pz_c97, pz_c99, pz_c100, pz_c122, pz_c127, pz_c128, pz_c200, pz_c255, pz_c299, pz_c300, pz_c336, pz_c354, pz_c585, pz_c666, pz_c708, pz_c1000, pz_c1170, pz_c4095, pz_c4096, pz_c4608, pz_c1000000, nI_add, pk_mul, pk_sub, pz_sub, pk_div, pz_or, pz_and, pz_xor, pz_n31, pz_shl, pz_shr, pz_eq, pz_le, pz_lt, pz_eqm, pz_meq, pz_mmeq, pz_lem, pz_mle, pz_ltm, pz_mlt, pz_mmle, pz_mmlt, pz_rd, pz_ck, pz_let, pz_cl, pz_bind, pz_gd, pz_zbb, eI_of, eI_N, pz_leT, pz_leF, pz_ltT, pz_ltF, pz_eqT, pz_eqF, if_pos, if_neg, if_true, if_false, ite_true, ite_false, pz_b0, pz_b1i, pz_bf, pz_bt, Bool.false_eq_true, Bool.true_eq_false, decide_true, decide_false, and_true, and_false, true_and, false_and, and_self, or_true, or_false, true_or, false_or, or_self, not_true_eq_false, not_false_eq_true, ne_eq, reduceIte, eq_self, upd_at]
  · rw [vN_m hb hb0]
    have ok : okB s 2147483648 = false := by
      rw [← Bool.not_eq_true]
      intro q
      have := okB_iff.mp q
      exact absurd this.2.1 (by decide)
    rw [ok]
    refine ⟨(nI 0, l0, b0, le), ?_, rfl, fun q => by cases q⟩
    simp (disch := omega) only [f_X6_spell, X6_spell_J12, pz_c0, pz_c1, pz_c2, pz_c3, pz_c4, pz_c5, pz_c6, pz_c7, pz_c8, pz_c9, pz_c10, pz_c11, pz_c12, pz_c13, pz_c14, pz_c15, pz_c16, pz_c17, pz_c18, pz_c19, pz_c20, pz_c21, pz_c22, pz_c23, pz_c24, pz_c25, pz_c26, pz_c27, pz_c28, pz_c29, pz_c30, pz_c31, pz_c32, pz_c33, pz_c34, pz_c35, pz_c36, pz_c42, pz_c48, pz_c57, pz_c59, pz_c60, pz_c63, pz_c64, pz_c66, pz_c96, pz_c97, pz_c99, pz_c100, pz_c122, pz_c127, pz_c128, pz_c200, pz_c255, pz_c299, pz_c300, pz_c336, pz_c354, pz_c585, pz_c666, pz_c708, pz_c1000, pz_c1170, pz_c4095, pz_c4096, pz_c4608, pz_c1000000, nI_add, pk_mul, pk_sub, pz_sub, pk_div, pz_or, pz_and, pz_xor, pz_n31, pz_shl, pz_shr, pz_eq, pz_le, pz_lt, pz_eqm, pz_meq, pz_mmeq, pz_lem, pz_mle, pz_ltm, pz_mlt, pz_mmle, pz_mmlt, pz_rd, pz_ck, pz_let, pz_cl, pz_bind, pz_gd, pz_zbb, eI_of, eI_N, pz_leT, pz_leF, pz_ltT, pz_ltF, pz_eqT, pz_eqF, if_pos, if_neg, if_true, if_false, ite_true, ite_false, pz_b0, pz_b1i, pz_bf, pz_bt, Bool.false_eq_true, Bool.true_eq_false, decide_true, decide_false, and_true, and_false, true_and, false_and, and_self, or_true, or_false, true_or, false_or, or_self, not_true_eq_false, not_false_eq_true, ne_eq, reduceIte, eq_self, upd_at]
theorem x7_isAsked {l0 b0 : Int32} {le : Nat → Int32} (hf : 5000 ≤ fu) (hL : s 3 ≤ 6) (v hv : Int32) : ∃ r, f_X7_isAsked fu (nI (s 3)) l0 b0 le v hv = some r ∧ r.1 = bI (decide (vN hv < 4) && okB s (vN v)) ∧ ((decide (vN hv < 4) && okB s (vN v)) = true → r.2.1 = nI (wl (vN v)) ∧ ∃ bits, r.2.2.1 = nI bits ∧ LW (vN v) bits r.2.2.2) := by
  obtain ⟨r, e, g1, g2⟩ := x6_spell (fu := fu) (l0 := l0) (b0 := b0) (le := le) hf hL v
  rw [f_X7_isAsked, x7_isHour, pz_bind]
  by_cases hh : vN hv < 4
  · rw [decide_eq_true hh, if_neg (show ¬ bI true = 0 by decide), e, pz_bind, g1]
    cases hok : okB s (vN v)
    · rw [if_pos (show bI false = 0 by decide)]
      exact ⟨_, rfl, rfl, fun q => by cases q⟩
    · rw [if_neg (show ¬ bI true = 0 by decide)]
      exact ⟨_, rfl, rfl, fun _ => g2 hok⟩
  · rw [decide_eq_false hh, if_pos (show bI false = 0 by decide)]
    exact ⟨_, rfl, rfl, fun q => by cases q⟩
theorem iw_step (I : Iv s) (R : SR st s) {k r : Nat} (h0 : 0 < r) (hr : r < 1000) : X8_isWord_L11 fu st (k + 1) (nI 1) (nI r) = X8_isWord_L11 fu st k (bI (decide (1 ≤ r % 10 ∧ r % 10 ≤ s 3))) (nI (r / 10)) := by
  have h3 := I.2.2.2.1
  have hd : ∀ d, d < 10 → f_X8_isLetter fu st (nI d - nI 1) = some (bI (decide (1 ≤ d ∧ d ≤ s 3))) := by
    intro d hd
    rw [x8_isLetter I R]
    congr 2
    rcases Nat.eq_zero_or_pos d with q | q
    · subst q
      rw [show nI 0 - nI 1 = -nI 1 by decide +kernel, vN_m (by decide) (by decide)]
      simp only [decide_eq_decide]; omega
    · rw [pk_sub (by omega), vN_n (by omega)]
      simp only [decide_eq_decide]; omega
  have hd2 := hd (r % 10) (by omega)
  rw [X8_isWord_L11]
  generalize X8_isWord_L11 fu st k = rec
  have e1 : nI r - nI r / 10 * 10 = nI (r % 10) := by
    rw [pz_c10, pk_rem (by omega) (by decide) (by decide)]
  have e2 : nI r / 10 = nI (r / 10) := by rw [pz_c10, pk_div (by omega) (by decide) (by decide)]
  rw [if_neg (by rw [pz_c0, pz_le (by omega) (by decide)]; omega), if_neg (by decide), e1, show (nI (r % 10) - 1 : Int32) = nI (r % 10) - nI 1 from rfl, hd2, pz_bind, e2]
theorem iw_no {k : Nat} {v : Int32} : X8_isWord_L11 fu st (k + 1) (nI 0) v = some (nI 0) := by
  rw [X8_isWord_L11]
  generalize X8_isWord_L11 fu st k = rec
  rw [if_pos (show nI 0 = 0 from rfl), ite_self, X8_isWord_J38, pz_zb0, pz_gd]
theorem iw_end {k : Nat} : X8_isWord_L11 fu st (k + 1) (nI 1) (nI 0) = some (nI 1) := by
  rw [X8_isWord_L11, if_pos (by decide), X8_isWord_J38, pz_zb1, pz_gd]
theorem x8_isWord (hf : 5000 ≤ fu) (I : Iv s) (R : SR st s) (v : Int32) : f_X8_isWord fu st v = some (bI (okB s (vN v))) := by
  obtain ⟨m, hm⟩ : ∃ m, fu = m + 4 := ⟨fu - 4, by omega⟩
  rw [f_X8_isWord, show f_X8_in fu v 1 666 = _ from x8_in (lo := 1) (hi := 666) (by decide) (by decide) v, pz_bind, show X8_isWord_L11 fu st fu = X8_isWord_L11 fu st (m + 4) by rw [← hm]]
  by_cases h0 : 1 ≤ vN v ∧ vN v ≤ 666
  · have ev := vN_e (v := v) (by omega)
    rw [decide_eq_true h0]
    generalize vN v = w at *
    subst ev
    rw [pz_bt, iw_step I R (by omega) (by omega)]
    by_cases g : 1 ≤ w % 10 ∧ w % 10 ≤ s 3
    · rw [decide_eq_true g, pz_bt]
      by_cases h1 : w ≤ 9
      · rw [show w / 10 = 0 by omega, iw_end, okB_iff.mpr ⟨h0.1, h0.2, g, fun q => by omega, fun q => by omega⟩]; rfl
      · rw [iw_step I R (by omega) (by omega)]
        by_cases g2 : 1 ≤ w / 10 % 10 ∧ w / 10 % 10 ≤ s 3
        · rw [decide_eq_true g2, pz_bt]
          by_cases h2 : w ≤ 99
          · rw [show w / 10 / 10 = 0 by omega, iw_end, okB_iff.mpr ⟨h0.1, h0.2, g, fun q => g2, fun q => by omega⟩]; rfl
          · have e100 : w / 10 / 10 = w / 100 := by omega
            rw [iw_step I R (by omega) (by omega), e100]
            by_cases g3 : 1 ≤ w / 100 % 10 ∧ w / 100 % 10 ≤ s 3
            · rw [decide_eq_true g3, pz_bt, show w / 100 / 10 = 0 by omega, iw_end, okB_iff.mpr ⟨h0.1, h0.2, g, fun q => g2, fun q => g3⟩]; rfl
            · have ok : okB s w = false := by
                rw [← Bool.not_eq_true]
                intro q
                exact g3 ((okB_iff.mp q).2.2.2.2 (by omega))
              rw [decide_eq_false g3, pz_bf, iw_no, ok]; rfl
        · have ok : okB s w = false := by
            rw [← Bool.not_eq_true]
            intro q
            exact g2 ((okB_iff.mp q).2.2.2.1 (by omega))
          rw [decide_eq_false g2, pz_bf, iw_no, ok]; rfl
    · have ok : okB s w = false := by
        rw [← Bool.not_eq_true]
        intro q
        exact g (okB_iff.mp q).2.2.1
      rw [decide_eq_false g, pz_bf, iw_no, ok]; rfl
  · have ok : okB s (vN v) = false := by
      rw [← Bool.not_eq_true]
      intro q
      have := okB_iff.mp q
      exact h0 ⟨this.1, this.2.1⟩
    rw [decide_eq_false h0, pz_bf, iw_no, ok]; rfl
end
