/-! SETS OF TENANTS THAT ARE ENOUGH (the reference) -/
def mnS (s : Nat → Nat) (h w c x : Nat) : Nat → Nat
  | 0 => 0
  | i + 1 => if (x ^^^ shL s h c).testBit i = true then (if prN s h (cel c i) w = 65535 ∨ mnS s h w c x i = 65535 then 65535 else mnS s h w c x i ||| (1 <<< s (36 + cel c i))) else mnS s h w c x i
def mnX (s : Nat → Nat) (h w c x : Nat) : Nat := mnS s h w c x 12
def wb (s : Nat → Nat) (h w j c m : Nat) : Nat → Bool
  | 0 => false
  | k + 1 => wb s h w j c m k || decide (rd s k = j ∧ mnX s h w c k = m)
def ib (s : Nat → Nat) (h w j c set : Nat) : Nat → Bool
  | 0 => false
  | m + 1 => ib s h w j c set m || (wb s h w j c m 4096 && decide (m &&& (set ^^^ 63) = 0))
theorem nb0 : vp_nar .boolean (0 : Int32) = nI 0 := by rfl
theorem nb1 : vp_nar .boolean (1 : Int32) = nI 1 := by rfl
theorem nbI (b : Bool) : vp_nar .boolean (bI b) = bI b := by cases b <;> rfl
theorem pz_not6A : (List.range 64).all (fun a => (List.range 64).all (fun b => decide (nI a &&& (nI b ^^^ -nI 1) = nI (a &&& (b ^^^ 63))))) = true := by decide +kernel
theorem pz_not6 {a b : Nat} (ha : a < 64) (hb : b < 64) : nI a &&& (nI b ^^^ -nI 1) = nI (a &&& (b ^^^ 63)) := of_decide_eq_true (List.all_eq_true.mp (List.all_eq_true.mp pz_not6A a (List.mem_range.mpr ha)) b (List.mem_range.mpr hb))
section
variable {fu : Nat} {s : Nat → Nat} {st ones : Nat → Int32} {h w c : Nat}
theorem prN_own (I : Iv s) {d : Nat} (hd : d < 60) (hn : prN s h d w ≠ 65535) : s (36 + d) < s 2 := by
  unfold prN at hn
  split at hn
  · exact absurd rfl hn
  · rename_i g
    rcases I.2.2.2.2.2.2.2.1 d hd with q | q
    · exact absurd q g
    · exact q
theorem mnS_rng (I : Iv s) (hc : c < 22) {x : Nat} : ∀ i, i ≤ 12 → (mnS s h w c x i = 65535 ↔ prS s h w c x i = 65535) ∧ (mnS s h w c x i = 65535 ∨ mnS s h w c x i < 64)
  | 0, _ => ⟨by rw [mnS, prS], Or.inr (by rw [mnS]; decide)⟩
  | i + 1, hi => by
    have ih := mnS_rng (x := x) I hc i (by omega)
    have hcl := cel_lt (k := i) hc (by omega)
    have hp := prN_rng (s := s) I (h := h) (w := w) hcl
    have hr := prS_rng (h := h) (w := w) (x := x) I hc i (by omega)
    have i2 := I.2.2.1
    rw [mnS, prS]
    by_cases hb : (x ^^^ shL s h c).testBit i = true
    · rw [if_pos hb, if_pos hb]
      by_cases hn : prN s h (cel c i) w = 65535
      · rw [if_pos (Or.inl hn), if_pos (Or.inl hn)]
        exact ⟨Iff.rfl, Or.inl rfl⟩
      · by_cases ha : prS s h w c x i = 65535
        · rw [if_pos (Or.inr (ih.1.mpr ha)), if_pos (Or.inr ha)]
          exact ⟨Iff.rfl, Or.inl rfl⟩
        · have hm : mnS s h w c x i ≠ 65535 := fun q => ha (ih.1.mp q)
          have ho := prN_own (w := w) I hcl hn
          have hlt : mnS s h w c x i ||| (1 <<< s (36 + cel c i)) < 64 := by
            apply Nat.or_lt_two_pow (n := 6) (by omega)
            rw [Nat.shiftLeft_eq, Nat.one_mul]
            exact Nat.pow_lt_pow_right (by decide) (by omega)
          rw [if_neg (by omega), if_neg (by omega)]
          refine ⟨⟨fun q => by omega, fun q => by omega⟩, Or.inr hlt⟩
    · rw [if_neg hb, if_neg hb]
      exact ih
theorem mnS_bit (I : Iv s) (hc : c < 22) {x t : Nat} : ∀ i, i ≤ 12 → mnS s h w c x i ≠ 65535 → ((mnS s h w c x i).testBit t = true ↔ ∃ k, k < i ∧ (x ^^^ shL s h c).testBit k = true ∧ s (36 + cel c k) = t)
  | 0, _, _ => by
    rw [mnS, Nat.zero_testBit]
    constructor
    · intro g; cases g
    · rintro ⟨k, hk, -⟩; omega
  | i + 1, hi, hn => by
    have ih := mnS_bit I hc (x := x) (t := t) i (by omega)
    rw [mnS] at hn ⊢
    by_cases hb : (x ^^^ shL s h c).testBit i = true
    · rw [if_pos hb] at hn ⊢
      by_cases g : prN s h (cel c i) w = 65535 ∨ mnS s h w c x i = 65535
      · rw [if_pos g] at hn; exact absurd rfl hn
      · rw [if_neg g] at hn ⊢
        have ih2 := ih (fun q => g (Or.inr q))
        rw [Nat.testBit_or, Bool.or_eq_true, ih2, Nat.testBit_shiftLeft, ← Nat.pow_zero 2, Nat.testBit_two_pow]
        constructor
        · rintro (⟨k, h1, h2, h3⟩ | q)
          · exact ⟨k, by omega, h2, h3⟩
          · simp only [Bool.and_eq_true, decide_eq_true_eq] at q
            exact ⟨i, by omega, hb, by omega⟩
        · rintro ⟨k, h1, h2, h3⟩
          rcases Nat.lt_or_ge k i with q | q
          · exact Or.inl ⟨k, q, h2, h3⟩
          · obtain rfl : k = i := by omega
            right
            simp only [Bool.and_eq_true, decide_eq_true_eq]
            omega
    · rw [if_neg hb] at hn ⊢
      rw [ih hn]
      constructor
      · rintro ⟨k, h1, h2, h3⟩
        exact ⟨k, by omega, h2, h3⟩
      · rintro ⟨k, h1, h2, h3⟩
        rcases Nat.lt_or_ge k i with q | q
        · exact ⟨k, q, h2, h3⟩
        · obtain rfl : k = i := by omega
          exact absurd h2 hb
theorem x8_menOf (hf : 5000 ≤ fu) (I : Iv s) (R : SR st s) (hh : h < 4) (hc : c < 22) (hw : okD w) {x : Nat} (hx : x < 4096) : f_X8_menOf fu st (nI w) (nI h) (nI c) (nI x) = some (eI (mnX s h w c x)) := by
  rw [f_X8_menOf, x8_shapeAt hf I R hh hc, pz_bind, pz_xor]
  have hxx := xor_lt hx (shL_lt s h c)
  have i2 := I.2.2.1
  have main := pz_upE (fun n i => X8_menOf_L17 fu st (nI w) (nI h) (nI c) (nI (x ^^^ shL s h c)) n (nI (mnS s h w c x i)) (nI i)) 12 (some (eI (mnX s h w c x))) (fun i => mnS s h w c x i ≠ 65535) (fun n i hi hp => ?_) (fun n hp => ?_) fu 0 (by omega) (by omega) (by rw [mnS]; decide)
  · exact main
  · have hr := mnS_rng (h := h) (w := w) (x := x) I hc i (by omega)
    have hr2 := mnS_rng (h := h) (w := w) (x := x) I hc (i + 1) (by omega)
    have hcl := cel_lt (k := i) hc hi
    have hp2 := prN_rng (s := s) I (h := h) (w := w) hcl
    have hpr := x8_price (fu := fu) hf I R hh hcl hw
    have hce : f_X8_cellOf fu (nI c) (nI i) = some (nI (cel c i)) := x8_cellOf hi
    have hb1 := Bool.toNat_le ((x ^^^ shL s h c).testBit i)
    have eo := R (36 + cel c i) (by omega)
    rw [X8_menOf_L17]
    generalize X8_menOf_L17 fu st (nI w) (nI h) (nI c) (nI (x ^^^ shL s h c)) n = rec
    by_cases hb : (x ^^^ shL s h c).testBit i = true
    · by_cases hn : prN s h (cel c i) w = 65535
      · left
        have e : mnX s h w c x = 65535 := by
          have := (prS_iff (x := x) (w := w) I hc 12 (by omega)).mpr ⟨i, hi, hb, hn⟩
          exact (mnS_rng (h := h) (w := w) (x := x) I hc 12 (by omega)).1.mpr this
        rw [e]
        simp (disch := omega) only [hce, hpr, hb, hn, pz_b1, Bool.toNat_true, pz_c0, pz_c1, pz_c2, pz_c3, pz_c4, pz_c5, pz_c6, pz_c7, pz_c8, pz_c9, pz_c10, pz_c11, pz_c12, pz_c13, pz_c14, pz_c15, pz_c16, pz_c17, pz_c18, pz_c19, pz_c20, pz_c21, pz_c22, pz_c23, pz_c24, pz_c25, pz_c26, pz_c27, pz_c28, pz_c29, pz_c30, pz_c31, pz_c32, pz_c33, pz_c34, pz_c35, pz_c36, pz_c42, pz_c48, pz_c57, pz_c59, pz_c60, pz_c63, pz_c64, pz_c66, pz_c96, pz_c97, pz_c99, pz_c100, pz_c122, pz_c127, pz_c128, pz_c200, pz_c255, pz_c299, pz_c300, pz_c336, pz_c354, pz_c585, pz_c666, pz_c708, pz_c1000, pz_c1170, pz_c4095, pz_c4096, pz_c4608, pz_c1000000, nI_add, pk_mul, pk_sub, pz_sub, pk_div, pz_or, pz_and, pz_xor, pz_n31, pz_shl, pz_shr, pz_eq, pz_le, pz_lt, pz_eqm, pz_meq, pz_mmeq, pz_lem, pz_mle, pz_ltm, pz_mlt, pz_mmle, pz_mmlt, pz_rd, pz_ck, pz_let, pz_cl, pz_bind, pz_gd, pz_zbb, eI_of, eI_N, pz_leT, pz_leF, pz_ltT, pz_ltF, pz_eqT, pz_eqF, if_pos, if_neg, if_true, if_false, ite_true, ite_false, pz_b0, pz_b1i, pz_bf, pz_bt, Bool.false_eq_true, Bool.true_eq_false, decide_true, decide_false, and_true, and_false, true_and, false_and, and_self, or_true, or_false, true_or, false_or, or_self, not_true_eq_false, not_false_eq_true, ne_eq, reduceIte, eq_self, upd_at]
      · have ho := prN_own (w := w) I hcl hn
        right
        refine ⟨?_, ?_⟩
        · rw [mnS, if_pos hb, if_neg (by omega)] at hr2
          have hlt : mnS s h w c x i ||| (1 <<< s (36 + cel c i)) < 64 := by
            apply Nat.or_lt_two_pow (n := 6) (by omega)
            rw [Nat.shiftLeft_eq, Nat.one_mul]
            exact Nat.pow_lt_pow_right (by decide) (by omega)
          rw [mnS, if_pos hb, if_neg (by omega)]
          omega
        · have em : mnS s h w c x (i + 1) = mnS s h w c x i ||| (1 <<< s (36 + cel c i)) := by rw [mnS, if_pos hb, if_neg (by omega)]
          rw [em]
          simp (disch := omega) only [hce, hpr, hb, hn, eo, pz_b1, Bool.toNat_true, X8_menOf_J74, pz_c0, pz_c1, pz_c2, pz_c3, pz_c4, pz_c5, pz_c6, pz_c7, pz_c8, pz_c9, pz_c10, pz_c11, pz_c12, pz_c13, pz_c14, pz_c15, pz_c16, pz_c17, pz_c18, pz_c19, pz_c20, pz_c21, pz_c22, pz_c23, pz_c24, pz_c25, pz_c26, pz_c27, pz_c28, pz_c29, pz_c30, pz_c31, pz_c32, pz_c33, pz_c34, pz_c35, pz_c36, pz_c42, pz_c48, pz_c57, pz_c59, pz_c60, pz_c63, pz_c64, pz_c66, pz_c96, pz_c97, pz_c99, pz_c100, pz_c122, pz_c127, pz_c128, pz_c200, pz_c255, pz_c299, pz_c300, pz_c336, pz_c354, pz_c585, pz_c666, pz_c708, pz_c1000, pz_c1170, pz_c4095, pz_c4096, pz_c4608, pz_c1000000, nI_add, pk_mul, pk_sub, pz_sub, pk_div, pz_or, pz_and, pz_xor, pz_n31, pz_shl, pz_shr, pz_eq, pz_le, pz_lt, pz_eqm, pz_meq, pz_mmeq, pz_lem, pz_mle, pz_ltm, pz_mlt, pz_mmle, pz_mmlt, pz_rd, pz_ck, pz_let, pz_cl, pz_bind, pz_gd, pz_zbb, eI_of, eI_N, pz_leT, pz_leF, pz_ltT, pz_ltF, pz_eqT, pz_eqF, if_pos, if_neg, if_true, if_false, ite_true, ite_false, pz_b0, pz_b1i, pz_bf, pz_bt, Bool.false_eq_true, Bool.true_eq_false, decide_true, decide_false, and_true, and_false, true_and, false_and, and_self, or_true, or_false, true_or, false_or, or_self, not_true_eq_false, not_false_eq_true, ne_eq, reduceIte, eq_self, upd_at]
    · rw [Bool.not_eq_true] at hb
      right
      refine ⟨?_, ?_⟩
      · rw [mnS, hb, if_neg (by decide)]; exact hp
      · have em : mnS s h w c x (i + 1) = mnS s h w c x i := by rw [mnS, if_neg (by rw [hb]; decide)]
        rw [em]
        simp (disch := omega) only [hb, pz_b1, Bool.toNat_false, X8_menOf_J74, pz_c0, pz_c1, pz_c2, pz_c3, pz_c4, pz_c5, pz_c6, pz_c7, pz_c8, pz_c9, pz_c10, pz_c11, pz_c12, pz_c13, pz_c14, pz_c15, pz_c16, pz_c17, pz_c18, pz_c19, pz_c20, pz_c21, pz_c22, pz_c23, pz_c24, pz_c25, pz_c26, pz_c27, pz_c28, pz_c29, pz_c30, pz_c31, pz_c32, pz_c33, pz_c34, pz_c35, pz_c36, pz_c42, pz_c48, pz_c57, pz_c59, pz_c60, pz_c63, pz_c64, pz_c66, pz_c96, pz_c97, pz_c99, pz_c100, pz_c122, pz_c127, pz_c128, pz_c200, pz_c255, pz_c299, pz_c300, pz_c336, pz_c354, pz_c585, pz_c666, pz_c708, pz_c1000, pz_c1170, pz_c4095, pz_c4096, pz_c4608, pz_c1000000, nI_add, pk_mul, pk_sub, pz_sub, pk_div, pz_or, pz_and, pz_xor, pz_n31, pz_shl, pz_shr, pz_eq, pz_le, pz_lt, pz_eqm, pz_meq, pz_mmeq, pz_lem, pz_mle, pz_ltm, pz_mlt, pz_mmle, pz_mmlt, pz_rd, pz_ck, pz_let, pz_cl, pz_bind, pz_gd, pz_zbb, eI_of, eI_N, pz_leT, pz_leF, pz_ltT, pz_ltF, pz_eqT, pz_eqF, if_pos, if_neg, if_true, if_false, ite_true, ite_false, pz_b0, pz_b1i, pz_bf, pz_bt, Bool.false_eq_true, Bool.true_eq_false, decide_true, decide_false, and_true, and_false, true_and, false_and, and_self, or_true, or_false, true_or, false_or, or_self, not_true_eq_false, not_false_eq_true, ne_eq, reduceIte, eq_self, upd_at]
  · have hr := mnS_rng (h := h) (w := w) (x := x) I hc 12 (by omega)
    rw [mnX]
    simp (disch := omega) only [X8_menOf_L17, pz_c0, pz_c1, pz_c2, pz_c3, pz_c4, pz_c5, pz_c6, pz_c7, pz_c8, pz_c9, pz_c10, pz_c11, pz_c12, pz_c13, pz_c14, pz_c15, pz_c16, pz_c17, pz_c18, pz_c19, pz_c20, pz_c21, pz_c22, pz_c23, pz_c24, pz_c25, pz_c26, pz_c27, pz_c28, pz_c29, pz_c30, pz_c31, pz_c32, pz_c33, pz_c34, pz_c35, pz_c36, pz_c42, pz_c48, pz_c57, pz_c59, pz_c60, pz_c63, pz_c64, pz_c66, pz_c96, pz_c97, pz_c99, pz_c100, pz_c122, pz_c127, pz_c128, pz_c200, pz_c255, pz_c299, pz_c300, pz_c336, pz_c354, pz_c585, pz_c666, pz_c708, pz_c1000, pz_c1170, pz_c4095, pz_c4096, pz_c4608, pz_c1000000, nI_add, pk_mul, pk_sub, pz_sub, pk_div, pz_or, pz_and, pz_xor, pz_n31, pz_shl, pz_shr, pz_eq, pz_le, pz_lt, pz_eqm, pz_meq, pz_mmeq, pz_lem, pz_mle, pz_ltm, pz_mlt, pz_mmle, pz_mmlt, pz_rd, pz_ck, pz_let, pz_cl, pz_bind, pz_gd, pz_zbb, eI_of, eI_N, pz_leT, pz_leF, pz_ltT, pz_ltF, pz_eqT, pz_eqF, if_pos, if_neg, if_true, if_false, ite_true, ite_false, pz_b0, pz_b1i, pz_bf, pz_bt, Bool.false_eq_true, Bool.true_eq_false, decide_true, decide_false, and_true, and_false, true_and, false_and, and_self, or_true, or_false, true_or, false_or, or_self, not_true_eq_false, not_false_eq_true, ne_eq, reduceIte, eq_self, upd_at]
theorem wb_iff {j m : Nat} : ∀ k, wb s h w j c m k = true ↔ ∃ x, x < k ∧ rd s x = j ∧ mnX s h w c x = m
  | 0 => ⟨(fun q => by cases q), (fun ⟨x, hx, _⟩ => absurd hx (Nat.not_lt_zero x))⟩
  | k + 1 => by
    rw [wb, Bool.or_eq_true, wb_iff k, decide_eq_true_eq]
    constructor
    · rintro (⟨x, h1, h2⟩ | h1)
      · exact ⟨x, by omega, h2⟩
      · exact ⟨k, by omega, h1⟩
    · rintro ⟨x, h1, h2⟩
      rcases Nat.lt_or_ge x k with q | q
      · exact Or.inl ⟨x, q, h2⟩
      · obtain rfl : x = k := by omega
        exact Or.inr h2
theorem ib_iff {j set : Nat} : ∀ m, ib s h w j c set m = true ↔ ∃ q, q < m ∧ wb s h w j c q 4096 = true ∧ q &&& (set ^^^ 63) = 0
  | 0 => ⟨(fun q => by cases q), (fun ⟨x, hx, _⟩ => absurd hx (Nat.not_lt_zero x))⟩
  | m + 1 => by
    rw [ib, Bool.or_eq_true, ib_iff m, Bool.and_eq_true, decide_eq_true_eq]
    constructor
    · rintro (⟨x, h1, h2⟩ | h1)
      · exact ⟨x, by omega, h2⟩
      · exact ⟨m, by omega, h1⟩
    · rintro ⟨x, h1, h2⟩
      rcases Nat.lt_or_ge x m with q | q
      · exact Or.inl ⟨x, q, h2⟩
      · obtain rfl : x = m := by omega
        exact Or.inr h2
/-- the set of tenants is enough just where the box can be read so by what they may change -/
theorem ib_FT (I : Iv s) (hh : h < 4) (hc : c < 22) {j set : Nat} (hj : j < s 3) (hs : set < 64) : ib s h w j c set (set + 1) = FT s h w set j c := by
  have i2 := I.2.2.1
  have t63 : ∀ k, k < 6 → Nat.testBit 63 k = true := by decide +kernel
  have hmay : ∀ k, k < 12 → mayB s h w set (cel c k) = (mayB s h w 63 (cel c k) && set.testBit (s (36 + cel c k))) := by
    intro k hk
    unfold mayB
    by_cases ho : s (36 + cel c k) < s 2
    · rw [t63 _ (by omega)]
      simp only [ho, decide_true, Bool.true_and]
      cases set.testBit (s (36 + cel c k)) <;> simp
    · simp [ho]
  have hsub : ∀ a : Nat, a < 64 → (a &&& (set ^^^ 63) = 0 ↔ ∀ t, a.testBit t = true → set.testBit t = true) := by
    intro a ha
    constructor
    · intro g t ht
      have := congrArg (fun z => z.testBit t) g
      simp only [Nat.testBit_and, Nat.testBit_xor, Nat.zero_testBit, ht, Bool.true_and] at this
      rcases Nat.lt_or_ge t 6 with q | q
      · rw [t63 t q] at this
        simpa using this
      · rw [Nat.testBit_lt_two_pow (Nat.lt_of_lt_of_le ha (Nat.pow_le_pow_right (n := 2) (i := 6) (by decide) q))] at ht
        cases ht
    · intro g
      apply Nat.eq_of_testBit_eq
      intro t
      simp only [Nat.testBit_and, Nat.testBit_xor, Nat.zero_testBit]
      cases ht : a.testBit t
      · rfl
      · rw [g t ht]
        rcases Nat.lt_or_ge t 6 with q | q
        · rw [t63 t q]; rfl
        · rw [Nat.testBit_lt_two_pow (Nat.lt_of_lt_of_le ha (Nat.pow_le_pow_right (n := 2) (i := 6) (by decide) q))] at ht
          cases ht
  rw [Bool.eq_iff_iff, ib_iff, FT_iff I hj]
  constructor
  · rintro ⟨m, h1, h2, h3⟩
    obtain ⟨x, x1, x2, x3⟩ := (wb_iff 4096).mp h2
    have hm : mnX s h w c x ≠ 65535 := by omega
    have hpr : prX s h w c x ≠ 65535 := fun q => hm ((mnS_rng (h := h) (w := w) (x := x) I hc 12 (by omega)).1.mpr q)
    have hmu := (mu_iff x1).mp ((mu_price I hh hc x1).mpr hpr)
    have hb := (hsub m (by omega)).mp h3
    refine ⟨x, x1, x2, fun k hk hbit => ?_⟩
    rw [hmay k hk, hmu k hk hbit, Bool.true_and]
    apply hb
    rw [← x3]
    exact (mnS_bit I hc 12 (by omega) hm).mpr ⟨k, hk, hbit, rfl⟩
  · rintro ⟨x, x1, x2, x3⟩
    have h63 : ∀ k, k < 12 → (x ^^^ shL s h c).testBit k = true → mayB s h w 63 (cel c k) = true ∧ set.testBit (s (36 + cel c k)) = true := by
      intro k hk hb
      have := x3 k hk hb
      rw [hmay k hk, Bool.and_eq_true] at this
      exact this
    have hpr := (mu_price I hh hc x1).mp ((mu_iff x1).mpr (fun k hk hb => (h63 k hk hb).1))
    have hrng := mnS_rng (h := h) (w := w) (x := x) I hc 12 (by omega)
    have hm : mnX s h w c x ≠ 65535 := fun q => hpr (hrng.1.mp q)
    have hlt : mnX s h w c x < 64 := by
      rcases hrng.2 with q | q
      · exact absurd q hm
      · exact q
    have hz : mnX s h w c x &&& (set ^^^ 63) = 0 := by
      rw [hsub _ hlt]
      intro t ht
      obtain ⟨k, k1, k2, k3⟩ := (mnS_bit I hc 12 (by omega) hm).mp ht
      rw [← k3]
      exact (h63 k k1 k2).2
    refine ⟨mnX s h w c x, ?_, (wb_iff 4096).mpr ⟨x, x1, x2, rfl⟩, hz⟩
    have hle : mnX s h w c x &&& set = mnX s h w c x := by
      apply Nat.eq_of_testBit_eq
      intro t
      rw [Nat.testBit_and]
      cases ht : (mnX s h w c x).testBit t
      · rfl
      · rw [(hsub _ hlt).mp hz t ht]; rfl
    have : mnX s h w c x &&& set ≤ set := Nat.and_le_right
    omega
def EO (s : Nat → Nat) (h w : Nat) (en : Nat → Int32) (m : Nat) : Prop := ∀ i, i < m → ∀ c, boxB s c = true → ∀ set, set < 64 → en (64 * (24 * i + c) + set) = bI (FT s h w set (wd w i) c)
theorem x8_findEnough {rt en iw : Nat → Int32} (hf : 5000 ≤ fu) (I : Iv s) (R : SR st s) (hT : ∀ k, k < 4096 → rt k = eI (rd s k)) (hh : h < 4) (hc : c < 22) (hw : okW s w) {i : Nat} (hi : i < wl w) : ∃ r, f_X8_findEnough fu st rt en iw (nI w) (nI h) (nI i) (nI c) = some r ∧ (∀ set, set < 64 → r.1 (64 * (24 * i + c) + set) = bI (FT s h w set (wd w i) c)) ∧ ∀ q, q < 64 * (24 * i + c) ∨ 64 * (24 * i + c) + 64 ≤ q → r.1 q = en q := by
  have hwr := wl_rng w
  have hd := okW_D hw
  have hwd := wd_lt hw hi
  have h3 := I.2.2.2.1
  have hlo := x8_letterOf (fu := fu) hd hw.1 hi
  -- nothing wanted
  have l1 := pz_up (fun n k => X8_findEnough_L10 fu st rt en (nI w) (nI h) (nI i) (nI c) (nI (wd w i)) n (filF (fun _ => nI 0) iw k) (nI k)) 64 (X8_findEnough_L34 fu st rt en (nI w) (nI h) (nI i) (nI c) (nI (wd w i)) fu (filF (fun _ => nI 0) iw 64) (nI 0)) (fun n k hk => by
    have e := filF_s (fun _ => nI 0) iw k
    rw [X8_findEnough_L10]
    generalize X8_findEnough_L10 fu st rt en (nI w) (nI h) (nI i) (nI c) (nI (wd w i)) n = rec
    simp (disch := omega) only [nb0, pz_c0, pz_c1, pz_c2, pz_c3, pz_c4, pz_c5, pz_c6, pz_c7, pz_c8, pz_c9, pz_c10, pz_c11, pz_c12, pz_c13, pz_c14, pz_c15, pz_c16, pz_c17, pz_c18, pz_c19, pz_c20, pz_c21, pz_c22, pz_c23, pz_c24, pz_c25, pz_c26, pz_c27, pz_c28, pz_c29, pz_c30, pz_c31, pz_c32, pz_c33, pz_c34, pz_c35, pz_c36, pz_c42, pz_c48, pz_c57, pz_c59, pz_c60, pz_c63, pz_c64, pz_c66, pz_c96, pz_c97, pz_c99, pz_c100, pz_c122, pz_c127, pz_c128, pz_c200, pz_c255, pz_c299, pz_c300, pz_c336, pz_c354, pz_c585, pz_c666, pz_c708, pz_c1000, pz_c1170, pz_c4095, pz_c4096, pz_c4608, pz_c1000000, nI_add, pk_mul, pk_sub, pz_sub, pk_div, pz_or, pz_and, pz_xor, pz_n31, pz_shl, pz_shr, pz_eq, pz_le, pz_lt, pz_eqm, pz_meq, pz_mmeq, pz_lem, pz_mle, pz_ltm, pz_mlt, pz_mmle, pz_mmlt, pz_rd, pz_ck, pz_let, pz_cl, pz_bind, pz_gd, pz_zbb, eI_of, eI_N, pz_leT, pz_leF, pz_ltT, pz_ltF, pz_eqT, pz_eqF, if_pos, if_neg, if_true, if_false, ite_true, ite_false, pz_b0, pz_b1i, pz_bf, pz_bt, Bool.false_eq_true, Bool.true_eq_false, decide_true, decide_false, and_true, and_false, true_and, false_and, and_self, or_true, or_false, true_or, false_or, or_self, not_true_eq_false, not_false_eq_true, ne_eq, reduceIte, eq_self, upd_at, e]
    try rw [show vp_nar .boolean (nI 0) = nI 0 from nb0, e]) (fun n => by
    rw [X8_findEnough_L10]
    generalize X8_findEnough_L10 fu st rt en (nI w) (nI h) (nI i) (nI c) (nI (wd w i)) n = rec
    simp (disch := omega) only [pz_c0, pz_c1, pz_c2, pz_c3, pz_c4, pz_c5, pz_c6, pz_c7, pz_c8, pz_c9, pz_c10, pz_c11, pz_c12, pz_c13, pz_c14, pz_c15, pz_c16, pz_c17, pz_c18, pz_c19, pz_c20, pz_c21, pz_c22, pz_c23, pz_c24, pz_c25, pz_c26, pz_c27, pz_c28, pz_c29, pz_c30, pz_c31, pz_c32, pz_c33, pz_c34, pz_c35, pz_c36, pz_c42, pz_c48, pz_c57, pz_c59, pz_c60, pz_c63, pz_c64, pz_c66, pz_c96, pz_c97, pz_c99, pz_c100, pz_c122, pz_c127, pz_c128, pz_c200, pz_c255, pz_c299, pz_c300, pz_c336, pz_c354, pz_c585, pz_c666, pz_c708, pz_c1000, pz_c1170, pz_c4095, pz_c4096, pz_c4608, pz_c1000000, nI_add, pk_mul, pk_sub, pz_sub, pk_div, pz_or, pz_and, pz_xor, pz_n31, pz_shl, pz_shr, pz_eq, pz_le, pz_lt, pz_eqm, pz_meq, pz_mmeq, pz_lem, pz_mle, pz_ltm, pz_mlt, pz_mmle, pz_mmlt, pz_rd, pz_ck, pz_let, pz_cl, pz_bind, pz_gd, pz_zbb, eI_of, eI_N, pz_leT, pz_leF, pz_ltT, pz_ltF, pz_eqT, pz_eqF, if_pos, if_neg, if_true, if_false, ite_true, ite_false, pz_b0, pz_b1i, pz_bf, pz_bt, Bool.false_eq_true, Bool.true_eq_false, decide_true, decide_false, and_true, and_false, true_and, false_and, and_self, or_true, or_false, true_or, false_or, or_self, not_true_eq_false, not_false_eq_true, ne_eq, reduceIte, eq_self, upd_at]) fu 0 (by omega) (by omega)
  rw [filF_0] at l1
  -- what some shape wants
  have l2 := pz_up (fun n k => X8_findEnough_L34 fu st rt en (nI w) (nI h) (nI i) (nI c) (nI (wd w i)) n (filF (fun m => bI (wb s h w (wd w i) c m k)) iw 64) (nI k)) 4096 (X8_findEnough_L93 fu st rt (filF (fun m => bI (wb s h w (wd w i) c m 4096)) iw 64) (nI i) (nI c) fu en (nI 0)) (fun n k hk => by
    have hrd := rd_rng (s := s) k
    have e1 := eI_lt (j := wd w i) (by omega) (x := rd s k) (by omega)
    have e2 := x8_menOf (fu := fu) (c := c) hf I R hh hc hd hk
    have hm : mnX s h w c k = 65535 ∨ mnX s h w c k < 64 := (mnS_rng (h := h) (w := w) (x := k) I hc 12 (by omega)).2
    rw [X8_findEnough_L34]
    generalize X8_findEnough_L34 fu st rt en (nI w) (nI h) (nI i) (nI c) (nI (wd w i)) n = rec
    have same : ¬ (rd s k = wd w i ∧ mnX s h w c k < 64) → filF (fun m => bI (wb s h w (wd w i) c m (k + 1))) iw 64 = filF (fun m => bI (wb s h w (wd w i) c m k)) iw 64 := by
      intro g
      funext m
      rcases Nat.lt_or_ge m 64 with q | q
      · rw [filF_in q, filF_in q, wb, decide_eq_false (by rintro ⟨a, b⟩; exact g ⟨a, by omega⟩), Bool.or_false]
      · rw [filF_out q, filF_out q]
    by_cases hr : rd s k = wd w i
    · rcases hm with hm | hm
      · rw [same (by omega)]
        simp (disch := omega) only [hT k hk, e1, hr, e2, hm, X8_findEnough_J68, X8_findEnough_J84, pz_c0, pz_c1, pz_c2, pz_c3, pz_c4, pz_c5, pz_c6, pz_c7, pz_c8, pz_c9, pz_c10, pz_c11, pz_c12, pz_c13, pz_c14, pz_c15, pz_c16, pz_c17, pz_c18, pz_c19, pz_c20, pz_c21, pz_c22, pz_c23, pz_c24, pz_c25, pz_c26, pz_c27, pz_c28, pz_c29, pz_c30, pz_c31, pz_c32, pz_c33, pz_c34, pz_c35, pz_c36, pz_c42, pz_c48, pz_c57, pz_c59, pz_c60, pz_c63, pz_c64, pz_c66, pz_c96, pz_c97, pz_c99, pz_c100, pz_c122, pz_c127, pz_c128, pz_c200, pz_c255, pz_c299, pz_c300, pz_c336, pz_c354, pz_c585, pz_c666, pz_c708, pz_c1000, pz_c1170, pz_c4095, pz_c4096, pz_c4608, pz_c1000000, nI_add, pk_mul, pk_sub, pz_sub, pk_div, pz_or, pz_and, pz_xor, pz_n31, pz_shl, pz_shr, pz_eq, pz_le, pz_lt, pz_eqm, pz_meq, pz_mmeq, pz_lem, pz_mle, pz_ltm, pz_mlt, pz_mmle, pz_mmlt, pz_rd, pz_ck, pz_let, pz_cl, pz_bind, pz_gd, pz_zbb, eI_of, eI_N, pz_leT, pz_leF, pz_ltT, pz_ltF, pz_eqT, pz_eqF, if_pos, if_neg, if_true, if_false, ite_true, ite_false, pz_b0, pz_b1i, pz_bf, pz_bt, Bool.false_eq_true, Bool.true_eq_false, decide_true, decide_false, and_true, and_false, true_and, false_and, and_self, or_true, or_false, true_or, false_or, or_self, not_true_eq_false, not_false_eq_true, ne_eq, reduceIte, eq_self, upd_at]
      · have eu : upd (filF (fun m => bI (wb s h w (wd w i) c m k)) iw 64) (mnX s h w c k) (nI 1) = filF (fun m => bI (wb s h w (wd w i) c m (k + 1))) iw 64 := by
          funext m
          rw [upd_at]
          by_cases q : m = mnX s h w c k
          · subst q
            rw [if_pos rfl, filF_in hm, wb, decide_eq_true ⟨hr, rfl⟩, Bool.or_true]; rfl
          · rw [if_neg q]
            rcases Nat.lt_or_ge m 64 with g | g
            · rw [filF_in g, filF_in g, wb, decide_eq_false (by rintro ⟨a, b⟩; exact q b.symm), Bool.or_false]
            · rw [filF_out g, filF_out g]
        simp (disch := omega) only [hT k hk, e1, hr, e2, X8_findEnough_J68, X8_findEnough_J84, pz_c0, pz_c1, pz_c2, pz_c3, pz_c4, pz_c5, pz_c6, pz_c7, pz_c8, pz_c9, pz_c10, pz_c11, pz_c12, pz_c13, pz_c14, pz_c15, pz_c16, pz_c17, pz_c18, pz_c19, pz_c20, pz_c21, pz_c22, pz_c23, pz_c24, pz_c25, pz_c26, pz_c27, pz_c28, pz_c29, pz_c30, pz_c31, pz_c32, pz_c33, pz_c34, pz_c35, pz_c36, pz_c42, pz_c48, pz_c57, pz_c59, pz_c60, pz_c63, pz_c64, pz_c66, pz_c96, pz_c97, pz_c99, pz_c100, pz_c122, pz_c127, pz_c128, pz_c200, pz_c255, pz_c299, pz_c300, pz_c336, pz_c354, pz_c585, pz_c666, pz_c708, pz_c1000, pz_c1170, pz_c4095, pz_c4096, pz_c4608, pz_c1000000, nI_add, pk_mul, pk_sub, pz_sub, pk_div, pz_or, pz_and, pz_xor, pz_n31, pz_shl, pz_shr, pz_eq, pz_le, pz_lt, pz_eqm, pz_meq, pz_mmeq, pz_lem, pz_mle, pz_ltm, pz_mlt, pz_mmle, pz_mmlt, pz_rd, pz_ck, pz_let, pz_cl, pz_bind, pz_gd, pz_zbb, eI_of, eI_N, pz_leT, pz_leF, pz_ltT, pz_ltF, pz_eqT, pz_eqF, if_pos, if_neg, if_true, if_false, ite_true, ite_false, pz_b0, pz_b1i, pz_bf, pz_bt, Bool.false_eq_true, Bool.true_eq_false, decide_true, decide_false, and_true, and_false, true_and, false_and, and_self, or_true, or_false, true_or, false_or, or_self, not_true_eq_false, not_false_eq_true, ne_eq, reduceIte, eq_self, upd_at]
        try rw [show vp_nar .boolean (nI 1) = nI 1 from nb1]
        rw [eu]
    · rw [same (fun q => hr q.1)]
      simp (disch := omega) only [hT k hk, e1, hr, X8_findEnough_J68, X8_findEnough_J84, pz_c0, pz_c1, pz_c2, pz_c3, pz_c4, pz_c5, pz_c6, pz_c7, pz_c8, pz_c9, pz_c10, pz_c11, pz_c12, pz_c13, pz_c14, pz_c15, pz_c16, pz_c17, pz_c18, pz_c19, pz_c20, pz_c21, pz_c22, pz_c23, pz_c24, pz_c25, pz_c26, pz_c27, pz_c28, pz_c29, pz_c30, pz_c31, pz_c32, pz_c33, pz_c34, pz_c35, pz_c36, pz_c42, pz_c48, pz_c57, pz_c59, pz_c60, pz_c63, pz_c64, pz_c66, pz_c96, pz_c97, pz_c99, pz_c100, pz_c122, pz_c127, pz_c128, pz_c200, pz_c255, pz_c299, pz_c300, pz_c336, pz_c354, pz_c585, pz_c666, pz_c708, pz_c1000, pz_c1170, pz_c4095, pz_c4096, pz_c4608, pz_c1000000, nI_add, pk_mul, pk_sub, pz_sub, pk_div, pz_or, pz_and, pz_xor, pz_n31, pz_shl, pz_shr, pz_eq, pz_le, pz_lt, pz_eqm, pz_meq, pz_mmeq, pz_lem, pz_mle, pz_ltm, pz_mlt, pz_mmle, pz_mmlt, pz_rd, pz_ck, pz_let, pz_cl, pz_bind, pz_gd, pz_zbb, eI_of, eI_N, pz_leT, pz_leF, pz_ltT, pz_ltF, pz_eqT, pz_eqF, if_pos, if_neg, if_true, if_false, ite_true, ite_false, pz_b0, pz_b1i, pz_bf, pz_bt, Bool.false_eq_true, Bool.true_eq_false, decide_true, decide_false, and_true, and_false, true_and, false_and, and_self, or_true, or_false, true_or, false_or, or_self, not_true_eq_false, not_false_eq_true, ne_eq, reduceIte, eq_self, upd_at]) (fun n => by
    rw [X8_findEnough_L34]
    generalize X8_findEnough_L34 fu st rt en (nI w) (nI h) (nI i) (nI c) (nI (wd w i)) n = rec
    simp (disch := omega) only [pz_c0, pz_c1, pz_c2, pz_c3, pz_c4, pz_c5, pz_c6, pz_c7, pz_c8, pz_c9, pz_c10, pz_c11, pz_c12, pz_c13, pz_c14, pz_c15, pz_c16, pz_c17, pz_c18, pz_c19, pz_c20, pz_c21, pz_c22, pz_c23, pz_c24, pz_c25, pz_c26, pz_c27, pz_c28, pz_c29, pz_c30, pz_c31, pz_c32, pz_c33, pz_c34, pz_c35, pz_c36, pz_c42, pz_c48, pz_c57, pz_c59, pz_c60, pz_c63, pz_c64, pz_c66, pz_c96, pz_c97, pz_c99, pz_c100, pz_c122, pz_c127, pz_c128, pz_c200, pz_c255, pz_c299, pz_c300, pz_c336, pz_c354, pz_c585, pz_c666, pz_c708, pz_c1000, pz_c1170, pz_c4095, pz_c4096, pz_c4608, pz_c1000000, nI_add, pk_mul, pk_sub, pz_sub, pk_div, pz_or, pz_and, pz_xor, pz_n31, pz_shl, pz_shr, pz_eq, pz_le, pz_lt, pz_eqm, pz_meq, pz_mmeq, pz_lem, pz_mle, pz_ltm, pz_mlt, pz_mmle, pz_mmlt, pz_rd, pz_ck, pz_let, pz_cl, pz_bind, pz_gd, pz_zbb, eI_of, eI_N, pz_leT, pz_leF, pz_ltT, pz_ltF, pz_eqT, pz_eqF, if_pos, if_neg, if_true, if_false, ite_true, ite_false, pz_b0, pz_b1i, pz_bf, pz_bt, Bool.false_eq_true, Bool.true_eq_false, decide_true, decide_false, and_true, and_false, true_and, false_and, and_self, or_true, or_false, true_or, false_or, or_self, not_true_eq_false, not_false_eq_true, ne_eq, reduceIte, eq_self, upd_at]) fu 0 (by omega) (by omega)
  have ez : filF (fun _ => nI 0) iw 64 = filF (fun m => bI (wb s h w (wd w i) c m 0)) iw 64 := rfl
  have hW : ∀ m, m < 64 → filF (fun m => bI (wb s h w (wd w i) c m 4096)) iw 64 m = bI (wb s h w (wd w i) c m 4096) := fun m hm => filF_in hm
  generalize filF (fun m => bI (wb s h w (wd w i) c m 4096)) iw 64 = iw2 at l2 hW
  -- each set
  have l3 : ∃ r, X8_findEnough_L93 fu st rt iw2 (nI i) (nI c) fu en (nI 0) = some r ∧ (∀ set, set < 64 → r.1 (64 * (24 * i + c) + set) = bI (FT s h w set (wd w i) c)) ∧ ∀ q, q < 64 * (24 * i + c) ∨ 64 * (24 * i + c) + 64 ≤ q → r.1 q = en q := by
    refine pz_rel (fun n k (a : Nat → Int32) => X8_findEnough_L93 fu st rt iw2 (nI i) (nI c) n a (nI k)) (fun k a => (∀ set, set < k → a (64 * (24 * i + c) + set) = bI (FT s h w set (wd w i) c)) ∧ ∀ q, q < 64 * (24 * i + c) ∨ 64 * (24 * i + c) + k ≤ q → a q = en q) 64 _ (fun n k a hk ha => ?_) (fun n a ha => ?_) fu 0 en (by omega) (by omega) ⟨fun set hset => absurd hset (Nat.not_lt_zero _), fun q _ => rfl⟩
    · right
      have inner := pz_up (fun n2 m => X8_findEnough_L106 fu (X8_findEnough_L93 fu st rt iw2 (nI i) (nI c) n) st rt a iw2 (nI i) (nI c) (nI k) n2 (bI (ib s h w (wd w i) c k m)) (nI m)) (k + 1) (X8_findEnough_L93 fu st rt iw2 (nI i) (nI c) n (upd a (64 * (24 * i + c) + k) (bI (ib s h w (wd w i) c k (k + 1)))) (nI (k + 1))) (fun n2 m hm => by
        have hal : m &&& (k ^^^ 63) < 64 := Nat.and_lt_two_pow (n := 6) _ (Nat.xor_lt_two_pow (n := 6) (by omega) (by decide))
        have hnt := pz_not6 (show m < 64 by omega) hk
        have hwm := hW m (by omega)
        rw [X8_findEnough_L106]
        generalize X8_findEnough_L106 fu (X8_findEnough_L93 fu st rt iw2 (nI i) (nI c) n) st rt a iw2 (nI i) (nI c) (nI k) n2 = rec
        rw [ib]
        cases hib : ib s h w (wd w i) c k m
        · cases hwb : wb s h w (wd w i) c m 4096
          · simp (disch := omega) only [hwm, hwb, X8_findEnough_J138, X8_findEnough_J142, X8_findEnough_J143, Bool.false_and, Bool.or_false, pz_c0, pz_c1, pz_c2, pz_c3, pz_c4, pz_c5, pz_c6, pz_c7, pz_c8, pz_c9, pz_c10, pz_c11, pz_c12, pz_c13, pz_c14, pz_c15, pz_c16, pz_c17, pz_c18, pz_c19, pz_c20, pz_c21, pz_c22, pz_c23, pz_c24, pz_c25, pz_c26, pz_c27, pz_c28, pz_c29, pz_c30, pz_c31, pz_c32, pz_c33, pz_c34, pz_c35, pz_c36, pz_c42, pz_c48, pz_c57, pz_c59, pz_c60, pz_c63, pz_c64, pz_c66, pz_c96, pz_c97, pz_c99, pz_c100, pz_c122, pz_c127, pz_c128, pz_c200, pz_c255, pz_c299, pz_c300, pz_c336, pz_c354, pz_c585, pz_c666, pz_c708, pz_c1000, pz_c1170, pz_c4095, pz_c4096, pz_c4608, pz_c1000000, nI_add, pk_mul, pk_sub, pz_sub, pk_div, pz_or, pz_and, pz_xor, pz_n31, pz_shl, pz_shr, pz_eq, pz_le, pz_lt, pz_eqm, pz_meq, pz_mmeq, pz_lem, pz_mle, pz_ltm, pz_mlt, pz_mmle, pz_mmlt, pz_rd, pz_ck, pz_let, pz_cl, pz_bind, pz_gd, pz_zbb, eI_of, eI_N, pz_leT, pz_leF, pz_ltT, pz_ltF, pz_eqT, pz_eqF, if_pos, if_neg, if_true, if_false, ite_true, ite_false, pz_b0, pz_b1i, pz_bf, pz_bt, Bool.false_eq_true, Bool.true_eq_false, decide_true, decide_false, and_true, and_false, true_and, false_and, and_self, or_true, or_false, true_or, false_or, or_self, not_true_eq_false, not_false_eq_true, ne_eq, reduceIte, eq_self, upd_at]
          · by_cases hz : m &&& (k ^^^ 63) = 0
            · simp (disch := omega) only [hwm, hwb, hnt, hz, X8_findEnough_J138, X8_findEnough_J142, X8_findEnough_J143, Bool.true_and, Bool.or_true, pz_c0, pz_c1, pz_c2, pz_c3, pz_c4, pz_c5, pz_c6, pz_c7, pz_c8, pz_c9, pz_c10, pz_c11, pz_c12, pz_c13, pz_c14, pz_c15, pz_c16, pz_c17, pz_c18, pz_c19, pz_c20, pz_c21, pz_c22, pz_c23, pz_c24, pz_c25, pz_c26, pz_c27, pz_c28, pz_c29, pz_c30, pz_c31, pz_c32, pz_c33, pz_c34, pz_c35, pz_c36, pz_c42, pz_c48, pz_c57, pz_c59, pz_c60, pz_c63, pz_c64, pz_c66, pz_c96, pz_c97, pz_c99, pz_c100, pz_c122, pz_c127, pz_c128, pz_c200, pz_c255, pz_c299, pz_c300, pz_c336, pz_c354, pz_c585, pz_c666, pz_c708, pz_c1000, pz_c1170, pz_c4095, pz_c4096, pz_c4608, pz_c1000000, nI_add, pk_mul, pk_sub, pz_sub, pk_div, pz_or, pz_and, pz_xor, pz_n31, pz_shl, pz_shr, pz_eq, pz_le, pz_lt, pz_eqm, pz_meq, pz_mmeq, pz_lem, pz_mle, pz_ltm, pz_mlt, pz_mmle, pz_mmlt, pz_rd, pz_ck, pz_let, pz_cl, pz_bind, pz_gd, pz_zbb, eI_of, eI_N, pz_leT, pz_leF, pz_ltT, pz_ltF, pz_eqT, pz_eqF, if_pos, if_neg, if_true, if_false, ite_true, ite_false, pz_b0, pz_b1i, pz_bf, pz_bt, Bool.false_eq_true, Bool.true_eq_false, decide_true, decide_false, and_true, and_false, true_and, false_and, and_self, or_true, or_false, true_or, false_or, or_self, not_true_eq_false, not_false_eq_true, ne_eq, reduceIte, eq_self, upd_at]
            · simp (disch := omega) only [hwm, hwb, hnt, hz, X8_findEnough_J138, X8_findEnough_J142, X8_findEnough_J143, Bool.and_false, Bool.or_false, pz_c0, pz_c1, pz_c2, pz_c3, pz_c4, pz_c5, pz_c6, pz_c7, pz_c8, pz_c9, pz_c10, pz_c11, pz_c12, pz_c13, pz_c14, pz_c15, pz_c16, pz_c17, pz_c18, pz_c19, pz_c20, pz_c21, pz_c22, pz_c23, pz_c24, pz_c25, pz_c26, pz_c27, pz_c28, pz_c29, pz_c30, pz_c31, pz_c32, pz_c33, pz_c34, pz_c35, pz_c36, pz_c42, pz_c48, pz_c57, pz_c59, pz_c60, pz_c63, pz_c64, pz_c66, pz_c96, pz_c97, pz_c99, pz_c100, pz_c122, pz_c127, pz_c128, pz_c200, pz_c255, pz_c299, pz_c300, pz_c336, pz_c354, pz_c585, pz_c666, pz_c708, pz_c1000, pz_c1170, pz_c4095, pz_c4096, pz_c4608, pz_c1000000, nI_add, pk_mul, pk_sub, pz_sub, pk_div, pz_or, pz_and, pz_xor, pz_n31, pz_shl, pz_shr, pz_eq, pz_le, pz_lt, pz_eqm, pz_meq, pz_mmeq, pz_lem, pz_mle, pz_ltm, pz_mlt, pz_mmle, pz_mmlt, pz_rd, pz_ck, pz_let, pz_cl, pz_bind, pz_gd, pz_zbb, eI_of, eI_N, pz_leT, pz_leF, pz_ltT, pz_ltF, pz_eqT, pz_eqF, if_pos, if_neg, if_true, if_false, ite_true, ite_false, pz_b0, pz_b1i, pz_bf, pz_bt, Bool.false_eq_true, Bool.true_eq_false, decide_true, decide_false, and_true, and_false, true_and, false_and, and_self, or_true, or_false, true_or, false_or, or_self, not_true_eq_false, not_false_eq_true, ne_eq, reduceIte, eq_self, upd_at]
        · simp (disch := omega) only [X8_findEnough_J138, X8_findEnough_J142, X8_findEnough_J143, Bool.true_or, pz_c0, pz_c1, pz_c2, pz_c3, pz_c4, pz_c5, pz_c6, pz_c7, pz_c8, pz_c9, pz_c10, pz_c11, pz_c12, pz_c13, pz_c14, pz_c15, pz_c16, pz_c17, pz_c18, pz_c19, pz_c20, pz_c21, pz_c22, pz_c23, pz_c24, pz_c25, pz_c26, pz_c27, pz_c28, pz_c29, pz_c30, pz_c31, pz_c32, pz_c33, pz_c34, pz_c35, pz_c36, pz_c42, pz_c48, pz_c57, pz_c59, pz_c60, pz_c63, pz_c64, pz_c66, pz_c96, pz_c97, pz_c99, pz_c100, pz_c122, pz_c127, pz_c128, pz_c200, pz_c255, pz_c299, pz_c300, pz_c336, pz_c354, pz_c585, pz_c666, pz_c708, pz_c1000, pz_c1170, pz_c4095, pz_c4096, pz_c4608, pz_c1000000, nI_add, pk_mul, pk_sub, pz_sub, pk_div, pz_or, pz_and, pz_xor, pz_n31, pz_shl, pz_shr, pz_eq, pz_le, pz_lt, pz_eqm, pz_meq, pz_mmeq, pz_lem, pz_mle, pz_ltm, pz_mlt, pz_mmle, pz_mmlt, pz_rd, pz_ck, pz_let, pz_cl, pz_bind, pz_gd, pz_zbb, eI_of, eI_N, pz_leT, pz_leF, pz_ltT, pz_ltF, pz_eqT, pz_eqF, if_pos, if_neg, if_true, if_false, ite_true, ite_false, pz_b0, pz_b1i, pz_bf, pz_bt, Bool.false_eq_true, Bool.true_eq_false, decide_true, decide_false, and_true, and_false, true_and, false_and, and_self, or_true, or_false, true_or, false_or, or_self, not_true_eq_false, not_false_eq_true, ne_eq, reduceIte, eq_self, upd_at]) (fun n2 => by
        rw [X8_findEnough_L106]
        generalize X8_findEnough_L106 fu (X8_findEnough_L93 fu st rt iw2 (nI i) (nI c) n) st rt a iw2 (nI i) (nI c) (nI k) n2 = rec
        simp (disch := omega) only [nbI, pz_c0, pz_c1, pz_c2, pz_c3, pz_c4, pz_c5, pz_c6, pz_c7, pz_c8, pz_c9, pz_c10, pz_c11, pz_c12, pz_c13, pz_c14, pz_c15, pz_c16, pz_c17, pz_c18, pz_c19, pz_c20, pz_c21, pz_c22, pz_c23, pz_c24, pz_c25, pz_c26, pz_c27, pz_c28, pz_c29, pz_c30, pz_c31, pz_c32, pz_c33, pz_c34, pz_c35, pz_c36, pz_c42, pz_c48, pz_c57, pz_c59, pz_c60, pz_c63, pz_c64, pz_c66, pz_c96, pz_c97, pz_c99, pz_c100, pz_c122, pz_c127, pz_c128, pz_c200, pz_c255, pz_c299, pz_c300, pz_c336, pz_c354, pz_c585, pz_c666, pz_c708, pz_c1000, pz_c1170, pz_c4095, pz_c4096, pz_c4608, pz_c1000000, nI_add, pk_mul, pk_sub, pz_sub, pk_div, pz_or, pz_and, pz_xor, pz_n31, pz_shl, pz_shr, pz_eq, pz_le, pz_lt, pz_eqm, pz_meq, pz_mmeq, pz_lem, pz_mle, pz_ltm, pz_mlt, pz_mmle, pz_mmlt, pz_rd, pz_ck, pz_let, pz_cl, pz_bind, pz_gd, pz_zbb, eI_of, eI_N, pz_leT, pz_leF, pz_ltT, pz_ltF, pz_eqT, pz_eqF, if_pos, if_neg, if_true, if_false, ite_true, ite_false, pz_b0, pz_b1i, pz_bf, pz_bt, Bool.false_eq_true, Bool.true_eq_false, decide_true, decide_false, and_true, and_false, true_and, false_and, and_self, or_true, or_false, true_or, false_or, or_self, not_true_eq_false, not_false_eq_true, ne_eq, reduceIte, eq_self, upd_at]) fu 0 (by omega) (by omega)
      refine ⟨upd a (64 * (24 * i + c) + k) (bI (ib s h w (wd w i) c k (k + 1))), ⟨fun set hset => ?_, fun q hq => ?_⟩, ?_⟩
      · rw [upd_at]
        by_cases e : set = k
        · subst e
          rw [if_pos rfl, ib_FT I hh hc hwd hk]
        · rw [if_neg (by omega)]
          exact ha.1 set (by omega)
      · rw [upd_at, if_neg (by omega)]
        exact ha.2 q (by omega)
      · try simp only
        rw [X8_findEnough_L93, ← inner]
        generalize X8_findEnough_L93 fu st rt iw2 (nI i) (nI c) n = rec
        simp (disch := omega) only [ib, pz_c0, pz_c1, pz_c2, pz_c3, pz_c4, pz_c5, pz_c6, pz_c7, pz_c8, pz_c9, pz_c10, pz_c11, pz_c12, pz_c13, pz_c14, pz_c15, pz_c16, pz_c17, pz_c18, pz_c19, pz_c20, pz_c21, pz_c22, pz_c23, pz_c24, pz_c25, pz_c26, pz_c27, pz_c28, pz_c29, pz_c30, pz_c31, pz_c32, pz_c33, pz_c34, pz_c35, pz_c36, pz_c42, pz_c48, pz_c57, pz_c59, pz_c60, pz_c63, pz_c64, pz_c66, pz_c96, pz_c97, pz_c99, pz_c100, pz_c122, pz_c127, pz_c128, pz_c200, pz_c255, pz_c299, pz_c300, pz_c336, pz_c354, pz_c585, pz_c666, pz_c708, pz_c1000, pz_c1170, pz_c4095, pz_c4096, pz_c4608, pz_c1000000, nI_add, pk_mul, pk_sub, pz_sub, pk_div, pz_or, pz_and, pz_xor, pz_n31, pz_shl, pz_shr, pz_eq, pz_le, pz_lt, pz_eqm, pz_meq, pz_mmeq, pz_lem, pz_mle, pz_ltm, pz_mlt, pz_mmle, pz_mmlt, pz_rd, pz_ck, pz_let, pz_cl, pz_bind, pz_gd, pz_zbb, eI_of, eI_N, pz_leT, pz_leF, pz_ltT, pz_ltF, pz_eqT, pz_eqF, if_pos, if_neg, if_true, if_false, ite_true, ite_false, pz_b0, pz_b1i, pz_bf, pz_bt, Bool.false_eq_true, Bool.true_eq_false, decide_true, decide_false, and_true, and_false, true_and, false_and, and_self, or_true, or_false, true_or, false_or, or_self, not_true_eq_false, not_false_eq_true, ne_eq, reduceIte, eq_self, upd_at]
    · refine ⟨(a, iw2), ?_, ha.1, ha.2⟩
      try simp only
      rw [X8_findEnough_L93]
      generalize X8_findEnough_L93 fu st rt iw2 (nI i) (nI c) n = rec
      simp (disch := omega) only [pz_c0, pz_c1, pz_c2, pz_c3, pz_c4, pz_c5, pz_c6, pz_c7, pz_c8, pz_c9, pz_c10, pz_c11, pz_c12, pz_c13, pz_c14, pz_c15, pz_c16, pz_c17, pz_c18, pz_c19, pz_c20, pz_c21, pz_c22, pz_c23, pz_c24, pz_c25, pz_c26, pz_c27, pz_c28, pz_c29, pz_c30, pz_c31, pz_c32, pz_c33, pz_c34, pz_c35, pz_c36, pz_c42, pz_c48, pz_c57, pz_c59, pz_c60, pz_c63, pz_c64, pz_c66, pz_c96, pz_c97, pz_c99, pz_c100, pz_c122, pz_c127, pz_c128, pz_c200, pz_c255, pz_c299, pz_c300, pz_c336, pz_c354, pz_c585, pz_c666, pz_c708, pz_c1000, pz_c1170, pz_c4095, pz_c4096, pz_c4608, pz_c1000000, nI_add, pk_mul, pk_sub, pz_sub, pk_div, pz_or, pz_and, pz_xor, pz_n31, pz_shl, pz_shr, pz_eq, pz_le, pz_lt, pz_eqm, pz_meq, pz_mmeq, pz_lem, pz_mle, pz_ltm, pz_mlt, pz_mmle, pz_mmlt, pz_rd, pz_ck, pz_let, pz_cl, pz_bind, pz_gd, pz_zbb, eI_of, eI_N, pz_leT, pz_leF, pz_ltT, pz_ltF, pz_eqT, pz_eqF, if_pos, if_neg, if_true, if_false, ite_true, ite_false, pz_b0, pz_b1i, pz_bf, pz_bt, Bool.false_eq_true, Bool.true_eq_false, decide_true, decide_false, and_true, and_false, true_and, false_and, and_self, or_true, or_false, true_or, false_or, or_self, not_true_eq_false, not_false_eq_true, ne_eq, reduceIte, eq_self, upd_at]
  obtain ⟨r, e3, g1, g2⟩ := l3
  refine ⟨r, ?_, g1, g2⟩
  rw [f_X8_findEnough, hlo, pz_bind]
  rw [ez] at l1
  exact l1.trans (l2.trans e3)
end
