/-! THE WALL: sets of windows, owners, prices -/
theorem pz_rm (a d : Nat) : a - a / d * d = a % d := by
  have h := Nat.div_add_mod a d
  have h2 := Nat.mul_comm d (a / d)
  omega
def shp (p : Nat → Bool) (c : Nat) : Nat := mkN (fun k => p (c + 12 * (k / 3) + k % 3)) 12
theorem shp_lt (p : Nat → Bool) (c : Nat) : shp p c < 4096 := mkN_lt _ 12
def OW (s : Nat → Nat) (t : Nat) : Nat := mkN (fun c => decide (s (36 + c) = t)) 60
def LI (s : Nat → Nat) (h : Nat) : Nat := mkN (fun c => decide (s (96 + 60 * h + c) = 1)) 60
/-- the shape of a box in an hour -/
def shL (s : Nat → Nat) (h c : Nat) : Nat := shp (fun i => decide (s (96 + 60 * h + i) = 1)) c
theorem shL_lt (s : Nat → Nat) (h c : Nat) : shL s h c < 4096 := mkN_lt _ 12
theorem lt60 {n : Nat} (h : n < 2 ^ 60) : n < 2 ^ 63 := Nat.lt_trans h (by decide)
theorem LI_lt (s : Nat → Nat) (h : Nat) : LI s h < 2 ^ 60 := mkN_lt _ 60
theorem OW_lt (s : Nat → Nat) (t : Nat) : OW s t < 2 ^ 60 := mkN_lt _ 60
theorem LI_bit {s : Nat → Nat} {h c : Nat} (hc : c < 60) : (LI s h).testBit c = decide (s (96 + 60 * h + c) = 1) := by
  rw [LI, mkN_bit]; simp [hc]
theorem OW_bit {s : Nat → Nat} {t c : Nat} (hc : c < 60) : (OW s t).testBit c = decide (s (36 + c) = t) := by
  rw [OW, mkN_bit]; simp [hc]
theorem b7 {j : Nat} (h : j < 3) : Nat.testBit 7 j = true := by
  have : ∀ j, j < 3 → Nat.testBit 7 j = true := by decide +kernel
  exact this j h
theorem b7n {j : Nat} (h : 3 ≤ j) : Nat.testBit 7 j = false := Nat.testBit_lt_two_pow (Nat.lt_of_lt_of_le (show 7 < 2 ^ 3 by decide) (Nat.pow_le_pow_right (by decide) h))
theorem shp_line (m c i : Nat) : mkN (fun k => m.testBit (c + 12 * (k / 3) + k % 3)) (3 * i) ||| (((m >>> (c + 12 * i)) &&& 7) <<< (3 * i)) = mkN (fun k => m.testBit (c + 12 * (k / 3) + k % 3)) (3 * (i + 1)) := by
  apply mkN_eq
  · apply Nat.or_lt_two_pow
    · exact Nat.lt_of_lt_of_le (mkN_lt _ _) (Nat.pow_le_pow_right (by decide) (by omega))
    · rw [Nat.shiftLeft_eq, show 3 * (i + 1) = 3 + 3 * i by omega, Nat.pow_add]
      exact Nat.mul_lt_mul_of_pos_right (Nat.and_lt_two_pow (n := 3) _ (by decide)) (Nat.two_pow_pos _)
  · intro k hk
    rw [Nat.testBit_or, mkN_bit, Nat.testBit_shiftLeft, Nat.testBit_and, Nat.testBit_shiftRight]
    rcases Nat.lt_or_ge k (3 * i) with h | h
    · simp [h, show ¬ 3 * i ≤ k by omega]
    · rw [b7 (by omega)]
      have e : c + 12 * i + (k - 3 * i) = c + 12 * (k / 3) + k % 3 := by omega
      simp [h, show ¬ k < 3 * i by omega, e]
section
variable {fu : Nat} {s : Nat → Nat}
theorem x7_shapeIn {m c : Nat} (hf : 5000 ≤ fu) (hm : m < 2 ^ 60) (hc : c < 24) : f_X7_shapeIn fu (lN m) (nI c) = some (nI (shp m.testBit c)) := by
  have hm2 : m < 2 ^ 64 := Nat.lt_trans hm (by decide)
  rw [f_X7_shapeIn]
  refine pz_up (fun n i => X7_shapeIn_L5 fu (lN m) (nI c) n (nI (mkN (fun k => m.testBit (c + 12 * (k / 3) + k % 3)) (3 * i))) (nI i)) 4 _ (fun n i hi => ?_) (fun n => ?_) fu 0 (by omega) (by omega)
  · have e := shp_line m c i
    simp (disch := omega) only [X7_shapeIn_L5, pz_c0, pz_c1, pz_c2, pz_c3, pz_c4, pz_c5, pz_c6, pz_c7, pz_c8, pz_c9, pz_c10, pz_c11, pz_c12, pz_c13, pz_c14, pz_c15, pz_c16, pz_c17, pz_c18, pz_c19, pz_c20, pz_c21, pz_c22, pz_c23, pz_c24, pz_c25, pz_c26, pz_c27, pz_c28, pz_c29, pz_c30, pz_c31, pz_c32, pz_c33, pz_c34, pz_c35, pz_c36, pz_c42, pz_c48, pz_c57, pz_c59, pz_c60, pz_c63, pz_c64, pz_c66, pz_c96, pz_c97, pz_c99, pz_c100, pz_c122, pz_c127, pz_c128, pz_c200, pz_c255, pz_c299, pz_c300, pz_c336, pz_c354, pz_c585, pz_c666, pz_c708, pz_c1000, pz_c1170, pz_c4095, pz_c4096, pz_c4608, pz_c1000000, nI_add, pk_mul, pk_sub, pz_sub, pk_div, pz_or, pz_and, pz_xor, pz_n31, pz_shl, pz_shr, pz_eq, pz_le, pz_lt, pz_eqm, pz_meq, pz_mmeq, pz_lem, pz_mle, pz_ltm, pz_mlt, pz_mmle, pz_mmlt, pz_rd, pz_ck, pz_let, pz_cl, pz_bind, pz_gd, pz_zbb, eI_of, eI_N, pz_leT, pz_leF, pz_ltT, pz_ltF, pz_eqT, pz_eqF, if_pos, if_neg, if_true, if_false, ite_true, ite_false, pz_b0, pz_b1i, pz_bf, pz_bt, Bool.false_eq_true, Bool.true_eq_false, decide_true, decide_false, and_true, and_false, true_and, false_and, and_self, or_true, or_false, true_or, false_or, or_self, not_true_eq_false, not_false_eq_true, ne_eq, reduceIte, eq_self, upd_at, pz_L0, pz_L1, pz_L7, pz_L31, pz_L63, pz_L255, pz_L4095, nI_l, pz_n63, pz_63, pz_u63, pz_ushr, pz_shlL, pz_orL, pz_andL, pz_xorL, lN_i, pz_cmp]
    rw [e]
  · simp (disch := omega) only [X7_shapeIn_L5, pz_c0, pz_c1, pz_c2, pz_c3, pz_c4, pz_c5, pz_c6, pz_c7, pz_c8, pz_c9, pz_c10, pz_c11, pz_c12, pz_c13, pz_c14, pz_c15, pz_c16, pz_c17, pz_c18, pz_c19, pz_c20, pz_c21, pz_c22, pz_c23, pz_c24, pz_c25, pz_c26, pz_c27, pz_c28, pz_c29, pz_c30, pz_c31, pz_c32, pz_c33, pz_c34, pz_c35, pz_c36, pz_c42, pz_c48, pz_c57, pz_c59, pz_c60, pz_c63, pz_c64, pz_c66, pz_c96, pz_c97, pz_c99, pz_c100, pz_c122, pz_c127, pz_c128, pz_c200, pz_c255, pz_c299, pz_c300, pz_c336, pz_c354, pz_c585, pz_c666, pz_c708, pz_c1000, pz_c1170, pz_c4095, pz_c4096, pz_c4608, pz_c1000000, nI_add, pk_mul, pk_sub, pz_sub, pk_div, pz_or, pz_and, pz_xor, pz_n31, pz_shl, pz_shr, pz_eq, pz_le, pz_lt, pz_eqm, pz_meq, pz_mmeq, pz_lem, pz_mle, pz_ltm, pz_mlt, pz_mmle, pz_mmlt, pz_rd, pz_ck, pz_let, pz_cl, pz_bind, pz_gd, pz_zbb, eI_of, eI_N, pz_leT, pz_leF, pz_ltT, pz_ltF, pz_eqT, pz_eqF, if_pos, if_neg, if_true, if_false, ite_true, ite_false, pz_b0, pz_b1i, pz_bf, pz_bt, Bool.false_eq_true, Bool.true_eq_false, decide_true, decide_false, and_true, and_false, true_and, false_and, and_self, or_true, or_false, true_or, false_or, or_self, not_true_eq_false, not_false_eq_true, ne_eq, reduceIte, eq_self, upd_at]
    rfl
theorem x8_cellOf {c k : Nat} (hk : k < 12) : f_X8_cellOf fu (nI c) (nI k) = some (nI (c + 12 * (k / 3) + k % 3)) := by
  simp (disch := omega) only [f_X8_cellOf, pz_c0, pz_c1, pz_c2, pz_c3, pz_c4, pz_c5, pz_c6, pz_c7, pz_c8, pz_c9, pz_c10, pz_c11, pz_c12, pz_c13, pz_c14, pz_c15, pz_c16, pz_c17, pz_c18, pz_c19, pz_c20, pz_c21, pz_c22, pz_c23, pz_c24, pz_c25, pz_c26, pz_c27, pz_c28, pz_c29, pz_c30, pz_c31, pz_c32, pz_c33, pz_c34, pz_c35, pz_c36, pz_c42, pz_c48, pz_c57, pz_c59, pz_c60, pz_c63, pz_c64, pz_c66, pz_c96, pz_c97, pz_c99, pz_c100, pz_c122, pz_c127, pz_c128, pz_c200, pz_c255, pz_c299, pz_c300, pz_c336, pz_c354, pz_c585, pz_c666, pz_c708, pz_c1000, pz_c1170, pz_c4095, pz_c4096, pz_c4608, pz_c1000000, nI_add, pk_mul, pk_sub, pz_sub, pk_div, pz_or, pz_and, pz_xor, pz_n31, pz_shl, pz_shr, pz_eq, pz_le, pz_lt, pz_eqm, pz_meq, pz_mmeq, pz_lem, pz_mle, pz_ltm, pz_mlt, pz_mmle, pz_mmlt, pz_rd, pz_ck, pz_let, pz_cl, pz_bind, pz_gd, pz_zbb, eI_of, eI_N, pz_leT, pz_leF, pz_ltT, pz_ltF, pz_eqT, pz_eqF, if_pos, if_neg, if_true, if_false, ite_true, ite_false, pz_b0, pz_b1i, pz_bf, pz_bt, Bool.false_eq_true, Bool.true_eq_false, decide_true, decide_false, and_true, and_false, true_and, false_and, and_self, or_true, or_false, true_or, false_or, or_self, not_true_eq_false, not_false_eq_true, ne_eq, reduceIte, eq_self, upd_at, pz_rm]
theorem x8_shapeAt {st : Nat → Int32} {h c : Nat} (hf : 5000 ≤ fu) (I : Iv s) (R : SR st s) (hh : h < 4) (hc : c < 22) : f_X8_shapeAt fu st (nI h) (nI c) = some (nI (shL s h c)) := by
  obtain ⟨-, -, -, -, -, -, -, -, il, -⟩ := I
  rw [f_X8_shapeAt, shL, shp]
  refine pz_up (fun n i => X8_shapeAt_L5 fu st (nI h) (nI c) n (nI (mkN (fun k => decide (s (96 + 60 * h + (c + 12 * (k / 3) + k % 3)) = 1)) i)) (nI i)) 12 _ (fun n i hi => ?_) (fun n => ?_) fu 0 (by omega) (by omega)
  · have e1 := R (96 + 60 * h + (c + 12 * (i / 3) + i % 3)) (by omega)
    have e2 := il (60 * h + (c + 12 * (i / 3) + i % 3)) (by omega)
    rw [← Nat.add_assoc] at e2
    simp (disch := omega) only [X8_shapeAt_L5, x8_cellOf, e1, pz_c0, pz_c1, pz_c2, pz_c3, pz_c4, pz_c5, pz_c6, pz_c7, pz_c8, pz_c9, pz_c10, pz_c11, pz_c12, pz_c13, pz_c14, pz_c15, pz_c16, pz_c17, pz_c18, pz_c19, pz_c20, pz_c21, pz_c22, pz_c23, pz_c24, pz_c25, pz_c26, pz_c27, pz_c28, pz_c29, pz_c30, pz_c31, pz_c32, pz_c33, pz_c34, pz_c35, pz_c36, pz_c42, pz_c48, pz_c57, pz_c59, pz_c60, pz_c63, pz_c64, pz_c66, pz_c96, pz_c97, pz_c99, pz_c100, pz_c122, pz_c127, pz_c128, pz_c200, pz_c255, pz_c299, pz_c300, pz_c336, pz_c354, pz_c585, pz_c666, pz_c708, pz_c1000, pz_c1170, pz_c4095, pz_c4096, pz_c4608, pz_c1000000, nI_add, pk_mul, pk_sub, pz_sub, pk_div, pz_or, pz_and, pz_xor, pz_n31, pz_shl, pz_shr, pz_eq, pz_le, pz_lt, pz_eqm, pz_meq, pz_mmeq, pz_lem, pz_mle, pz_ltm, pz_mlt, pz_mmle, pz_mmlt, pz_rd, pz_ck, pz_let, pz_cl, pz_bind, pz_gd, pz_zbb, eI_of, eI_N, pz_leT, pz_leF, pz_ltT, pz_ltF, pz_eqT, pz_eqF, if_pos, if_neg, if_true, if_false, ite_true, ite_false, pz_b0, pz_b1i, pz_bf, pz_bt, Bool.false_eq_true, Bool.true_eq_false, decide_true, decide_false, and_true, and_false, true_and, false_and, and_self, or_true, or_false, true_or, false_or, or_self, not_true_eq_false, not_false_eq_true, ne_eq, reduceIte, eq_self, upd_at]
    rw [mkN]
    congr 3
    rcases (show s (96 + 60 * h + (c + 12 * (i / 3) + i % 3)) = 0 ∨ s (96 + 60 * h + (c + 12 * (i / 3) + i % 3)) = 1 by omega) with e | e <;> rw [e] <;> rfl
  · simp (disch := omega) only [X8_shapeAt_L5, pz_c0, pz_c1, pz_c2, pz_c3, pz_c4, pz_c5, pz_c6, pz_c7, pz_c8, pz_c9, pz_c10, pz_c11, pz_c12, pz_c13, pz_c14, pz_c15, pz_c16, pz_c17, pz_c18, pz_c19, pz_c20, pz_c21, pz_c22, pz_c23, pz_c24, pz_c25, pz_c26, pz_c27, pz_c28, pz_c29, pz_c30, pz_c31, pz_c32, pz_c33, pz_c34, pz_c35, pz_c36, pz_c42, pz_c48, pz_c57, pz_c59, pz_c60, pz_c63, pz_c64, pz_c66, pz_c96, pz_c97, pz_c99, pz_c100, pz_c122, pz_c127, pz_c128, pz_c200, pz_c255, pz_c299, pz_c300, pz_c336, pz_c354, pz_c585, pz_c666, pz_c708, pz_c1000, pz_c1170, pz_c4095, pz_c4096, pz_c4608, pz_c1000000, nI_add, pk_mul, pk_sub, pz_sub, pk_div, pz_or, pz_and, pz_xor, pz_n31, pz_shl, pz_shr, pz_eq, pz_le, pz_lt, pz_eqm, pz_meq, pz_mmeq, pz_lem, pz_mle, pz_ltm, pz_mlt, pz_mmle, pz_mmlt, pz_rd, pz_ck, pz_let, pz_cl, pz_bind, pz_gd, pz_zbb, eI_of, eI_N, pz_leT, pz_leF, pz_ltT, pz_ltF, pz_eqT, pz_eqF, if_pos, if_neg, if_true, if_false, ite_true, ite_false, pz_b0, pz_b1i, pz_bf, pz_bt, Bool.false_eq_true, Bool.true_eq_false, decide_true, decide_false, and_true, and_false, true_and, false_and, and_self, or_true, or_false, true_or, false_or, or_self, not_true_eq_false, not_false_eq_true, ne_eq, reduceIte, eq_self, upd_at]
theorem shL_LI {h c : Nat} (hc : c < 22) : shp (LI s h).testBit c = shL s h c := by
  rw [shp, shL, shp]
  exact mkN_cong (fun k hk => LI_bit (by omega))
end
