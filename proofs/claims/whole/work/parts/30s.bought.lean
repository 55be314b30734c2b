/-! BOUGHT -/
def payN (s : Nat → Nat) (set : Nat) : Nat → Nat
  | 0 => 0
  | t + 1 => payN s set t + (set.testBit t).toNat * s (6 + 4 * t + 2)
def bgF (s : Nat → Nat) (h w set : Nat) : Nat := if said s h w set = true then payN s set (s 2) else 65535
def BG (s : Nat → Nat) (h w k : Nat) : Nat × Nat := best (bgF s h w) k
section
variable {fu : Nat} {s : Nat → Nat} {st ones rt en : Nat → Int32} {kinds painOf payFor refused shapes le : Nat → Int32} {owned litIn : Nat → Int64} {h w set bits : Nat}
theorem payN_le (I : Iv s) : ∀ t, t ≤ s 2 → payN s set t ≤ 99 * t
  | 0, _ => Nat.le_refl 0
  | t + 1, ht => by
    have ih := payN_le I t (by omega)
    have hp := (I.2.2.2.2.2.2.1 t (by omega)).2.2.1
    have hb := Bool.toNat_le (set.testBit t)
    rw [payN]
    rcases (show (set.testBit t).toNat = 0 ∨ (set.testBit t).toNat = 1 by omega) with e | e <;> rw [e] <;> omega
theorem bgF_rng (I : Iv s) : bgF s h w set = 65535 ∨ bgF s h w set ≤ 594 := by
  have i2 := I.2.2.1
  have := payN_le (set := set) I (s 2) (Nat.le_refl _)
  unfold bgF
  split
  · right; omega
  · exact Or.inl rfl
theorem x5_payOf (hf : 5000 ≤ fu) (I : Iv s) (T : TR s kinds painOf payFor refused owned) (hs : set < 64) : f_X5_payOf fu (nI (s 2)) payFor (nI set) = some (nI (payN s set (s 2))) := by
  have i2 := I.2.2.1
  rw [f_X5_payOf]
  refine pz_up (fun n t => X5_payOf_L4 fu (nI (s 2)) payFor (nI set) n (nI (payN s set t)) (nI t)) (s 2) _ (fun n t ht => ?_) (fun n => ?_) fu 0 (by omega) (by omega)
  · have hp := (T t ht).2.2.1
    have hb := Bool.toNat_le (set.testBit t)
    rw [X5_payOf_L4]
    generalize X5_payOf_L4 fu (nI (s 2)) payFor (nI set) n = rec
    rw [payN]
    cases hq : set.testBit t
    · simp (disch := omega) only [hq, X5_payOf_J30, pz_b1, Bool.toNat_false, Nat.zero_mul, Nat.add_zero, pz_c0, pz_c1, pz_c2, pz_c3, pz_c4, pz_c5, pz_c6, pz_c7, pz_c8, pz_c9, pz_c10, pz_c11, pz_c12, pz_c13, pz_c14, pz_c15, pz_c16, pz_c17, pz_c18, pz_c19, pz_c20, pz_c21, pz_c22, pz_c23, pz_c24, pz_c25, pz_c26, pz_c27, pz_c28, pz_c29, pz_c30, pz_c31, pz_c32, pz_c33, pz_c34, pz_c35, pz_c36, pz_c42, pz_c48, pz_c57, pz_c59, pz_c60, pz_c63, pz_c64, pz_c66, pz_c96, pz_c97, pz_c99, pz_c100, pz_c122, pz_c127, pz_c128, pz_c200, pz_c255, pz_c299, pz_c300, pz_c336, pz_c354, pz_c585, pz_c666, pz_c708, pz_c1000, pz_c1170, pz_c4095, pz_c4096, pz_c4608, pz_c1000000, nI_add, pk_mul, pk_sub, pz_sub, pk_div, pz_or, pz_and, pz_xor, pz_n31, pz_shl, pz_shr, pz_eq, pz_le, pz_lt, pz_eqm, pz_meq, pz_mmeq, pz_lem, pz_mle, pz_ltm, pz_mlt, pz_mmle, pz_mmlt, pz_rd, pz_ck, pz_let, pz_cl, pz_bind, pz_gd, pz_zbb, eI_of, eI_N, pz_leT, pz_leF, pz_ltT, pz_ltF, pz_eqT, pz_eqF, if_pos, if_neg, if_true, if_false, ite_true, ite_false, pz_b0, pz_b1i, pz_bf, pz_bt, Bool.false_eq_true, Bool.true_eq_false, decide_true, decide_false, and_true, and_false, true_and, false_and, and_self, or_true, or_false, true_or, false_or, or_self, not_true_eq_false, not_false_eq_true, ne_eq, reduceIte, eq_self, upd_at]
    · simp (disch := omega) only [hq, hp, X5_payOf_J30, pz_b1, Bool.toNat_true, Nat.one_mul, pz_c0, pz_c1, pz_c2, pz_c3, pz_c4, pz_c5, pz_c6, pz_c7, pz_c8, pz_c9, pz_c10, pz_c11, pz_c12, pz_c13, pz_c14, pz_c15, pz_c16, pz_c17, pz_c18, pz_c19, pz_c20, pz_c21, pz_c22, pz_c23, pz_c24, pz_c25, pz_c26, pz_c27, pz_c28, pz_c29, pz_c30, pz_c31, pz_c32, pz_c33, pz_c34, pz_c35, pz_c36, pz_c42, pz_c48, pz_c57, pz_c59, pz_c60, pz_c63, pz_c64, pz_c66, pz_c96, pz_c97, pz_c99, pz_c100, pz_c122, pz_c127, pz_c128, pz_c200, pz_c255, pz_c299, pz_c300, pz_c336, pz_c354, pz_c585, pz_c666, pz_c708, pz_c1000, pz_c1170, pz_c4095, pz_c4096, pz_c4608, pz_c1000000, nI_add, pk_mul, pk_sub, pz_sub, pk_div, pz_or, pz_and, pz_xor, pz_n31, pz_shl, pz_shr, pz_eq, pz_le, pz_lt, pz_eqm, pz_meq, pz_mmeq, pz_lem, pz_mle, pz_ltm, pz_mlt, pz_mmle, pz_mmlt, pz_rd, pz_ck, pz_let, pz_cl, pz_bind, pz_gd, pz_zbb, eI_of, eI_N, pz_leT, pz_leF, pz_ltT, pz_ltF, pz_eqT, pz_eqF, if_pos, if_neg, if_true, if_false, ite_true, ite_false, pz_b0, pz_b1i, pz_bf, pz_bt, Bool.false_eq_true, Bool.true_eq_false, decide_true, decide_false, and_true, and_false, true_and, false_and, and_self, or_true, or_false, true_or, false_or, or_self, not_true_eq_false, not_false_eq_true, ne_eq, reduceIte, eq_self, upd_at]
  · rw [X5_payOf_L4]
    generalize X5_payOf_L4 fu (nI (s 2)) payFor (nI set) n = rec
    simp (disch := omega) only [pz_c0, pz_c1, pz_c2, pz_c3, pz_c4, pz_c5, pz_c6, pz_c7, pz_c8, pz_c9, pz_c10, pz_c11, pz_c12, pz_c13, pz_c14, pz_c15, pz_c16, pz_c17, pz_c18, pz_c19, pz_c20, pz_c21, pz_c22, pz_c23, pz_c24, pz_c25, pz_c26, pz_c27, pz_c28, pz_c29, pz_c30, pz_c31, pz_c32, pz_c33, pz_c34, pz_c35, pz_c36, pz_c42, pz_c48, pz_c57, pz_c59, pz_c60, pz_c63, pz_c64, pz_c66, pz_c96, pz_c97, pz_c99, pz_c100, pz_c122, pz_c127, pz_c128, pz_c200, pz_c255, pz_c299, pz_c300, pz_c336, pz_c354, pz_c585, pz_c666, pz_c708, pz_c1000, pz_c1170, pz_c4095, pz_c4096, pz_c4608, pz_c1000000, nI_add, pk_mul, pk_sub, pz_sub, pk_div, pz_or, pz_and, pz_xor, pz_n31, pz_shl, pz_shr, pz_eq, pz_le, pz_lt, pz_eqm, pz_meq, pz_mmeq, pz_lem, pz_mle, pz_ltm, pz_mlt, pz_mmle, pz_mmlt, pz_rd, pz_ck, pz_let, pz_cl, pz_bind, pz_gd, pz_zbb, eI_of, eI_N, pz_leT, pz_leF, pz_ltT, pz_ltF, pz_eqT, pz_eqF, if_pos, if_neg, if_true, if_false, ite_true, ite_false, pz_b0, pz_b1i, pz_bf, pz_bt, Bool.false_eq_true, Bool.true_eq_false, decide_true, decide_false, and_true, and_false, true_and, false_and, and_self, or_true, or_false, true_or, false_or, or_self, not_true_eq_false, not_false_eq_true, ne_eq, reduceIte, eq_self, upd_at]
theorem x8_payOf (hf : 5000 ≤ fu) (I : Iv s) (R : SR st s) (hs : set < 64) : f_X8_payOf fu st (nI set) = some (nI (payN s set (s 2))) := by
  have i2 := I.2.2.1
  have hd := SR_hd I R
  rw [f_X8_payOf]
  refine pz_up (fun n t => X8_payOf_L4 fu st (nI set) n (nI (payN s set t)) (nI t)) (s 2) _ (fun n t ht => ?_) (fun n => ?_) fu 0 (by omega) (by omega)
  · have hp := (I.2.2.2.2.2.2.1 t ht).2.2.1
    have e := R (6 + 4 * t + 2) (by omega)
    rw [X8_payOf_L4]
    generalize X8_payOf_L4 fu st (nI set) n = rec
    rw [payN]
    simp (disch := omega) only [hd, e, pz_b1, pz_c0, pz_c1, pz_c2, pz_c3, pz_c4, pz_c5, pz_c6, pz_c7, pz_c8, pz_c9, pz_c10, pz_c11, pz_c12, pz_c13, pz_c14, pz_c15, pz_c16, pz_c17, pz_c18, pz_c19, pz_c20, pz_c21, pz_c22, pz_c23, pz_c24, pz_c25, pz_c26, pz_c27, pz_c28, pz_c29, pz_c30, pz_c31, pz_c32, pz_c33, pz_c34, pz_c35, pz_c36, pz_c42, pz_c48, pz_c57, pz_c59, pz_c60, pz_c63, pz_c64, pz_c66, pz_c96, pz_c97, pz_c99, pz_c100, pz_c122, pz_c127, pz_c128, pz_c200, pz_c255, pz_c299, pz_c300, pz_c336, pz_c354, pz_c585, pz_c666, pz_c708, pz_c1000, pz_c1170, pz_c4095, pz_c4096, pz_c4608, pz_c1000000, nI_add, pk_mul, pk_sub, pz_sub, pk_div, pz_or, pz_and, pz_xor, pz_n31, pz_shl, pz_shr, pz_eq, pz_le, pz_lt, pz_eqm, pz_meq, pz_mmeq, pz_lem, pz_mle, pz_ltm, pz_mlt, pz_mmle, pz_mmlt, pz_rd, pz_ck, pz_let, pz_cl, pz_bind, pz_gd, pz_zbb, eI_of, eI_N, pz_leT, pz_leF, pz_ltT, pz_ltF, pz_eqT, pz_eqF, if_pos, if_neg, if_true, if_false, ite_true, ite_false, pz_b0, pz_b1i, pz_bf, pz_bt, Bool.false_eq_true, Bool.true_eq_false, decide_true, decide_false, and_true, and_false, true_and, false_and, and_self, or_true, or_false, true_or, false_or, or_self, not_true_eq_false, not_false_eq_true, ne_eq, reduceIte, eq_self, upd_at]
  · rw [X8_payOf_L4]
    generalize X8_payOf_L4 fu st (nI set) n = rec
    simp (disch := omega) only [hd, pz_c0, pz_c1, pz_c2, pz_c3, pz_c4, pz_c5, pz_c6, pz_c7, pz_c8, pz_c9, pz_c10, pz_c11, pz_c12, pz_c13, pz_c14, pz_c15, pz_c16, pz_c17, pz_c18, pz_c19, pz_c20, pz_c21, pz_c22, pz_c23, pz_c24, pz_c25, pz_c26, pz_c27, pz_c28, pz_c29, pz_c30, pz_c31, pz_c32, pz_c33, pz_c34, pz_c35, pz_c36, pz_c42, pz_c48, pz_c57, pz_c59, pz_c60, pz_c63, pz_c64, pz_c66, pz_c96, pz_c97, pz_c99, pz_c100, pz_c122, pz_c127, pz_c128, pz_c200, pz_c255, pz_c299, pz_c300, pz_c336, pz_c354, pz_c585, pz_c666, pz_c708, pz_c1000, pz_c1170, pz_c4095, pz_c4096, pz_c4608, pz_c1000000, nI_add, pk_mul, pk_sub, pz_sub, pk_div, pz_or, pz_and, pz_xor, pz_n31, pz_shl, pz_shr, pz_eq, pz_le, pz_lt, pz_eqm, pz_meq, pz_mmeq, pz_lem, pz_mle, pz_ltm, pz_mlt, pz_mmle, pz_mmlt, pz_rd, pz_ck, pz_let, pz_cl, pz_bind, pz_gd, pz_zbb, eI_of, eI_N, pz_leT, pz_leF, pz_ltT, pz_ltF, pz_eqT, pz_eqF, if_pos, if_neg, if_true, if_false, ite_true, ite_false, pz_b0, pz_b1i, pz_bf, pz_bt, Bool.false_eq_true, Bool.true_eq_false, decide_true, decide_false, and_true, and_false, true_and, false_and, and_self, or_true, or_false, true_or, false_or, or_self, not_true_eq_false, not_false_eq_true, ne_eq, reduceIte, eq_self, upd_at]
/-- whether the sets told are enough for a place -/
def al (s : Nat → Nat) (h w set : Nat) (p : PL) : Nat → Bool
  | 0 => true
  | i + 1 => al s h w set p i && FT s h w set (wd w i) (12 * p.1 + pcol p i)
theorem al_iff {p : PL} : ∀ m, al s h w set p m = true ↔ ∀ i, i < m → FT s h w set (wd w i) (12 * p.1 + pcol p i) = true
  | 0 => ⟨(fun _ i hi => absurd hi (Nat.not_lt_zero i)), (fun _ => rfl)⟩
  | m + 1 => by
    rw [al, Bool.and_eq_true, al_iff m]
    constructor
    · rintro ⟨a, b⟩ i hi
      rcases Nat.lt_or_ge i m with q | q
      · exact a i q
      · obtain rfl : i = m := by omega
        exact b
    · intro a
      exact ⟨fun i hi => a i (by omega), a m (by omega)⟩
def fnd (s : Nat → Nat) (h w set : Nat) : Nat → Bool
  | 0 => false
  | k + 1 => al s h w set (plk (s 0) (wl w) k) (wl w)
theorem cb_all {rec7 : Int32 → (Nat → Int32) → Int32 → Option (Int32 × Int32 × (Nat → Int32))} {cols : Nat → Int32} (hf : 5000 ≤ fu) (I : Iv s) (hw : okW s w) (hE : EO s h w en (wl w)) (hs : set < 64) {p : PL} (hp : pok (s 0) (s 1) (wl w) p) (hC : CR cols (wl w) p) : X8_canBy_L25 fu rec7 (nI p.1) st en cols (nI w) (nI set) fu 1 0 = (f_X8_nextRow fu (nI p.1) st cols (nI w)).bind fun t91 => rec7 t91.1 t91.2 (bI (al s h w set p (wl w))) := by
  have hr := wl_rng w
  have hw6 : w ≤ 666 := hw.2.1
  have i0 := I.1
  have i1 := I.2.1
  refine pz_up (fun n i => X8_canBy_L25 fu rec7 (nI p.1) st en cols (nI w) (nI set) n (bI (al s h w set p i)) (nI i)) (wl w) _ (fun n i hi => ?_) (fun n => ?_) fu 0 (by omega) (by omega)
  · have hc := pok_col (by omega) hp hi
    have hb := pok_box I (by omega) hp hi
    have he := hE i hi _ hb set hs
    have hci := hC i hi
    rw [← Nat.add_assoc] at he
    rw [X8_canBy_L25]
    generalize X8_canBy_L25 fu rec7 (nI p.1) st en cols (nI w) (nI set) n = rec
    rw [al]
    cases hal : al s h w set p i
    · simp (disch := omega) only [x8_longOf, X8_canBy_J77, X8_canBy_J78, Bool.false_and, pz_c0, pz_c1, pz_c2, pz_c3, pz_c4, pz_c5, pz_c6, pz_c7, pz_c8, pz_c9, pz_c10, pz_c11, pz_c12, pz_c13, pz_c14, pz_c15, pz_c16, pz_c17, pz_c18, pz_c19, pz_c20, pz_c21, pz_c22, pz_c23, pz_c24, pz_c25, pz_c26, pz_c27, pz_c28, pz_c29, pz_c30, pz_c31, pz_c32, pz_c33, pz_c34, pz_c35, pz_c36, pz_c42, pz_c48, pz_c57, pz_c59, pz_c60, pz_c63, pz_c64, pz_c66, pz_c96, pz_c97, pz_c99, pz_c100, pz_c122, pz_c127, pz_c128, pz_c200, pz_c255, pz_c299, pz_c300, pz_c336, pz_c354, pz_c585, pz_c666, pz_c708, pz_c1000, pz_c1170, pz_c4095, pz_c4096, pz_c4608, pz_c1000000, nI_add, pk_mul, pk_sub, pz_sub, pk_div, pz_or, pz_and, pz_xor, pz_n31, pz_shl, pz_shr, pz_eq, pz_le, pz_lt, pz_eqm, pz_meq, pz_mmeq, pz_lem, pz_mle, pz_ltm, pz_mlt, pz_mmle, pz_mmlt, pz_rd, pz_ck, pz_let, pz_cl, pz_bind, pz_gd, pz_zbb, eI_of, eI_N, pz_leT, pz_leF, pz_ltT, pz_ltF, pz_eqT, pz_eqF, if_pos, if_neg, if_true, if_false, ite_true, ite_false, pz_b0, pz_b1i, pz_bf, pz_bt, Bool.false_eq_true, Bool.true_eq_false, decide_true, decide_false, and_true, and_false, true_and, false_and, and_self, or_true, or_false, true_or, false_or, or_self, not_true_eq_false, not_false_eq_true, ne_eq, reduceIte, eq_self, upd_at]
    · cases hft : FT s h w set (wd w i) (12 * p.1 + pcol p i)
      · simp (disch := omega) only [x8_longOf, hci, he, hft, X8_canBy_J77, X8_canBy_J78, Bool.and_false, pz_c0, pz_c1, pz_c2, pz_c3, pz_c4, pz_c5, pz_c6, pz_c7, pz_c8, pz_c9, pz_c10, pz_c11, pz_c12, pz_c13, pz_c14, pz_c15, pz_c16, pz_c17, pz_c18, pz_c19, pz_c20, pz_c21, pz_c22, pz_c23, pz_c24, pz_c25, pz_c26, pz_c27, pz_c28, pz_c29, pz_c30, pz_c31, pz_c32, pz_c33, pz_c34, pz_c35, pz_c36, pz_c42, pz_c48, pz_c57, pz_c59, pz_c60, pz_c63, pz_c64, pz_c66, pz_c96, pz_c97, pz_c99, pz_c100, pz_c122, pz_c127, pz_c128, pz_c200, pz_c255, pz_c299, pz_c300, pz_c336, pz_c354, pz_c585, pz_c666, pz_c708, pz_c1000, pz_c1170, pz_c4095, pz_c4096, pz_c4608, pz_c1000000, nI_add, pk_mul, pk_sub, pz_sub, pk_div, pz_or, pz_and, pz_xor, pz_n31, pz_shl, pz_shr, pz_eq, pz_le, pz_lt, pz_eqm, pz_meq, pz_mmeq, pz_lem, pz_mle, pz_ltm, pz_mlt, pz_mmle, pz_mmlt, pz_rd, pz_ck, pz_let, pz_cl, pz_bind, pz_gd, pz_zbb, eI_of, eI_N, pz_leT, pz_leF, pz_ltT, pz_ltF, pz_eqT, pz_eqF, if_pos, if_neg, if_true, if_false, ite_true, ite_false, pz_b0, pz_b1i, pz_bf, pz_bt, Bool.false_eq_true, Bool.true_eq_false, decide_true, decide_false, and_true, and_false, true_and, false_and, and_self, or_true, or_false, true_or, false_or, or_self, not_true_eq_false, not_false_eq_true, ne_eq, reduceIte, eq_self, upd_at]
      · simp (disch := omega) only [x8_longOf, hci, he, hft, X8_canBy_J77, X8_canBy_J78, Bool.and_true, pz_c0, pz_c1, pz_c2, pz_c3, pz_c4, pz_c5, pz_c6, pz_c7, pz_c8, pz_c9, pz_c10, pz_c11, pz_c12, pz_c13, pz_c14, pz_c15, pz_c16, pz_c17, pz_c18, pz_c19, pz_c20, pz_c21, pz_c22, pz_c23, pz_c24, pz_c25, pz_c26, pz_c27, pz_c28, pz_c29, pz_c30, pz_c31, pz_c32, pz_c33, pz_c34, pz_c35, pz_c36, pz_c42, pz_c48, pz_c57, pz_c59, pz_c60, pz_c63, pz_c64, pz_c66, pz_c96, pz_c97, pz_c99, pz_c100, pz_c122, pz_c127, pz_c128, pz_c200, pz_c255, pz_c299, pz_c300, pz_c336, pz_c354, pz_c585, pz_c666, pz_c708, pz_c1000, pz_c1170, pz_c4095, pz_c4096, pz_c4608, pz_c1000000, nI_add, pk_mul, pk_sub, pz_sub, pk_div, pz_or, pz_and, pz_xor, pz_n31, pz_shl, pz_shr, pz_eq, pz_le, pz_lt, pz_eqm, pz_meq, pz_mmeq, pz_lem, pz_mle, pz_ltm, pz_mlt, pz_mmle, pz_mmlt, pz_rd, pz_ck, pz_let, pz_cl, pz_bind, pz_gd, pz_zbb, eI_of, eI_N, pz_leT, pz_leF, pz_ltT, pz_ltF, pz_eqT, pz_eqF, if_pos, if_neg, if_true, if_false, ite_true, ite_false, pz_b0, pz_b1i, pz_bf, pz_bt, Bool.false_eq_true, Bool.true_eq_false, decide_true, decide_false, and_true, and_false, true_and, false_and, and_self, or_true, or_false, true_or, false_or, or_self, not_true_eq_false, not_false_eq_true, ne_eq, reduceIte, eq_self, upd_at]
  · rw [X8_canBy_L25]
    generalize X8_canBy_L25 fu rec7 (nI p.1) st en cols (nI w) (nI set) n = rec
    simp (disch := omega) only [x8_longOf, pz_c0, pz_c1, pz_c2, pz_c3, pz_c4, pz_c5, pz_c6, pz_c7, pz_c8, pz_c9, pz_c10, pz_c11, pz_c12, pz_c13, pz_c14, pz_c15, pz_c16, pz_c17, pz_c18, pz_c19, pz_c20, pz_c21, pz_c22, pz_c23, pz_c24, pz_c25, pz_c26, pz_c27, pz_c28, pz_c29, pz_c30, pz_c31, pz_c32, pz_c33, pz_c34, pz_c35, pz_c36, pz_c42, pz_c48, pz_c57, pz_c59, pz_c60, pz_c63, pz_c64, pz_c66, pz_c96, pz_c97, pz_c99, pz_c100, pz_c122, pz_c127, pz_c128, pz_c200, pz_c255, pz_c299, pz_c300, pz_c336, pz_c354, pz_c585, pz_c666, pz_c708, pz_c1000, pz_c1170, pz_c4095, pz_c4096, pz_c4608, pz_c1000000, nI_add, pk_mul, pk_sub, pz_sub, pk_div, pz_or, pz_and, pz_xor, pz_n31, pz_shl, pz_shr, pz_eq, pz_le, pz_lt, pz_eqm, pz_meq, pz_mmeq, pz_lem, pz_mle, pz_ltm, pz_mlt, pz_mmle, pz_mmlt, pz_rd, pz_ck, pz_let, pz_cl, pz_bind, pz_gd, pz_zbb, eI_of, eI_N, pz_leT, pz_leF, pz_ltT, pz_ltF, pz_eqT, pz_eqF, if_pos, if_neg, if_true, if_false, ite_true, ite_false, pz_b0, pz_b1i, pz_bf, pz_bt, Bool.false_eq_true, Bool.true_eq_false, decide_true, decide_false, and_true, and_false, true_and, false_and, and_self, or_true, or_false, true_or, false_or, or_self, not_true_eq_false, not_false_eq_true, ne_eq, reduceIte, eq_self, upd_at]
theorem x8_canBy {l0 : Int32} {co : Nat → Int32} (hf : 5000 ≤ fu) (I : Iv s) (R : SR st s) (hw : okW s w) (hE : EO s h w en (wl w)) (hs : set < 64) : ∃ r, f_X8_canBy fu l0 st en co (nI w) (nI set) = some r ∧ r.1 = bI (said s h w set) := by
  have hr := wl_rng w
  have hw6 : w ≤ 666 := hw.2.1
  have hN := pl_le I.1 I.2.1 hr
  have hsi := said_iff I (h := h) (w := w) (set := set)
  have e2 := x8_firstRow (fu := fu) (cols := co) (l := l0) (w := w) hf (by omega)
  rw [f_X8_canBy, e2, pz_bind]
  refine pz_rel (fun n k (a : Int32 × (Nat → Int32) × Int32) => X8_canBy_L7 fu st en (nI w) (nI set) n a.1 a.2.1 a.2.2) (fun k a => a.1 = nI (plk (s 0) (wl w) k).1 ∧ CR a.2.1 (wl w) (plk (s 0) (wl w) k) ∧ a.2.2 = bI (fnd s h w set k) ∧ ∀ q, q + 1 < k → al s h w set (plk (s 0) (wl w) q) (wl w) = false) (PN (s 0) (s 1) (wl w)) _ (fun n k a hk ha => ?_) (fun n a ha => ?_) fu 0 (nI 0, packF co 0 (wl w) 0, 0) (by omega) (by omega) ⟨rfl, ?_, rfl, fun q hq => by omega⟩
  · obtain ⟨a1, a2, a3⟩ := a
    obtain ⟨h1, h2, h3, h4⟩ := ha
    simp only at h1 h2 h3 h4
    subst h1
    subst h3
    have hp := (pl_at I.1 I.2.1 hr (k := k) (by omega)).1 hk
    have hrow := x8_isRow (fu := fu) I R (w := w) (by omega) (k := k) (by omega) h2
    obtain ⟨c2, hc2, enx⟩ := x8_nextRow (fu := fu) (w := w) hf I R (by omega) hp h2
    have hall := cb_all (fu := fu) (st := st) (rec7 := X8_canBy_L7 fu st en (nI w) (nI set) n) hf I hw hE hs hp h2
    cases hfd : fnd s h w set k
    · right
      refine ⟨(nI (plk (s 0) (wl w) (k + 1)).1, c2, bI (al s h w set (plk (s 0) (wl w) k) (wl w))), ⟨rfl, hc2, rfl, fun q hq => ?_⟩, ?_⟩
      · rcases Nat.lt_or_ge (q + 1) k with g | g
        · exact h4 q g
        · obtain rfl : k = q + 1 := by omega
          exact hfd
      · try simp only
        rw [X8_canBy_L7, hrow, pz_bind, decide_eq_true hk, if_neg (show ¬ bI true = 0 by decide), if_pos (show bI false = 0 by decide), hall, enx, pz_bind]
        rfl
    · left
      refine ⟨(bI true, nI (plk (s 0) (wl w) k).1, a2), ?_, ?_⟩
      · try simp only
        rw [X8_canBy_L7, hrow, pz_bind, decide_eq_true hk, if_neg (show ¬ bI true = 0 by decide), if_neg (show ¬ bI true = 0 by decide), X8_canBy_J97, pz_zbb, pz_gd]
      · have : said s h w set = true := by
          rw [hsi]
          cases k with
          | zero => cases hfd
          | succ k => exact ⟨k, by omega, (al_iff (wl w)).mp hfd⟩
        rw [this]
  · obtain ⟨a1, a2, a3⟩ := a
    obtain ⟨h1, h2, h3, h4⟩ := ha
    simp only at h1 h2 h3 h4
    subst h1
    subst h3
    have hrow := x8_isRow (fu := fu) I R (w := w) (by omega) (k := PN (s 0) (s 1) (wl w)) (by omega) h2
    refine ⟨(bI (fnd s h w set (PN (s 0) (s 1) (wl w))), nI (plk (s 0) (wl w) (PN (s 0) (s 1) (wl w))).1, a2), ?_, ?_⟩
    · try simp only
      rw [X8_canBy_L7, hrow, pz_bind, decide_eq_false (by omega), if_pos (show bI false = 0 by decide), X8_canBy_J97, pz_zbb, pz_gd]
    · have e : said s h w set = fnd s h w set (PN (s 0) (s 1) (wl w)) := by
        rw [Bool.eq_iff_iff, hsi]
        constructor
        · rintro ⟨k, hk, g⟩
          have hal := (al_iff (wl w)).mpr g
          rcases Nat.lt_or_ge (k + 1) (PN (s 0) (s 1) (wl w)) with q | q
          · rw [h4 k q] at hal; cases hal
          · have : PN (s 0) (s 1) (wl w) = k + 1 := by omega
            rw [this]
            exact hal
        · intro g
          cases hP : PN (s 0) (s 1) (wl w) with
          | zero => rw [hP] at g; cases g
          | succ k => rw [hP] at g; exact ⟨k, by omega, (al_iff (wl w)).mp g⟩
      rw [e]
  · intro i hi
    show packF co 0 (wl w) 0 i = _
    rw [packF, if_pos (by omega)]
    simp only [plk]
    rcases (show i = 0 ∨ i = 1 ∨ i = 2 by omega) with e | e | e <;> subst e <;> rfl
end
