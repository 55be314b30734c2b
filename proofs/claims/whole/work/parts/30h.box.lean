/-! A BOX OF A WORD, by trying all shapes (the reference) -/
def cel (c k : Nat) : Nat := c + 12 * (k / 3) + k % 3
def prS (s : Nat → Nat) (h w c x : Nat) : Nat → Nat
  | 0 => 0
  | i + 1 => if (x ^^^ shL s h c).testBit i = true then (if prN s h (cel c i) w = 65535 ∨ prS s h w c x i = 65535 then 65535 else prS s h w c x i + prN s h (cel c i) w) else prS s h w c x i
def prX (s : Nat → Nat) (h w c x : Nat) : Nat := prS s h w c x 12
def best (f : Nat → Nat) : Nat → Nat × Nat
  | 0 => (65535, 65535)
  | n + 1 => if f n < (best f n).1 then (f n, n) else best f n
def bxF (s : Nat → Nat) (h w c j x : Nat) : Nat := if rd s x = j then prX s h w c x else 65535
def BX (s : Nat → Nat) (h w i c : Nat) : Nat × Nat := best (bxF s h w c (wd w i)) 4096
theorem best_spec {f : Nat → Nat} : ∀ n, (∀ k, k < n → f k ≤ 65535) → ((best f n).1 = 65535 ∧ (best f n).2 = 65535 ∧ ∀ k, k < n → f k = 65535) ∨ ((best f n).1 < 65535 ∧ (best f n).2 < n ∧ f (best f n).2 = (best f n).1 ∧ (∀ k, k < n → (best f n).1 ≤ f k) ∧ ∀ k, k < (best f n).2 → (best f n).1 < f k)
  | 0, _ => Or.inl ⟨rfl, rfl, fun k h => absurd h (Nat.not_lt_zero k)⟩
  | n + 1, h => by
    have ih := best_spec n (fun k hk => h k (by omega))
    have hn := h n (by omega)
    rw [best]
    by_cases g : f n < (best f n).1
    · rw [if_pos g]
      right
      rcases ih with ⟨a, b, c⟩ | ⟨a, b, c, d, e⟩
      · refine ⟨by simp only; omega, by simp only; omega, rfl, fun k hk => ?_, fun k hk => ?_⟩
        · rcases Nat.lt_or_ge k n with q | q
          · have := c k q; simp only; omega
          · obtain rfl : k = n := by omega
            exact Nat.le_refl _
        · have := c k hk; simp only; omega
      · refine ⟨by simp only; omega, by simp only; omega, rfl, fun k hk => ?_, fun k hk => ?_⟩
        · rcases Nat.lt_or_ge k n with q | q
          · have := d k q; simp only; omega
          · obtain rfl : k = n := by omega
            exact Nat.le_refl _
        · have := d k hk; simp only; omega
    · rw [if_neg g]
      rcases ih with ⟨a, b, c⟩ | ⟨a, b, c, d, e⟩
      · left
        refine ⟨a, b, fun k hk => ?_⟩
        rcases Nat.lt_or_ge k n with q | q
        · exact c k q
        · obtain rfl : k = n := by omega
          omega
      · right
        refine ⟨a, by omega, c, fun k hk => ?_, e⟩
        rcases Nat.lt_or_ge k n with q | q
        · exact d k q
        · obtain rfl : k = n := by omega
          omega
theorem upd_upd (f : Nat → Int32) (k : Nat) (x y : Int32) : upd (upd f k x) k y = upd f k y := by
  funext j
  simp only [upd]
  split <;> rfl
section
variable {fu : Nat} {s : Nat → Nat} {st ones : Nat → Int32} {h w c : Nat}
theorem cel_lt {k : Nat} (hc : c < 22) (hk : k < 12) : cel c k < 60 := by unfold cel; omega
theorem prS_rng (I : Iv s) (hc : c < 22) {x : Nat} : ∀ i, i ≤ 12 → prS s h w c x i = 65535 ∨ prS s h w c x i ≤ 21 * i
  | 0, _ => Or.inr (Nat.le_refl 0)
  | i + 1, hi => by
    have ih := prS_rng (x := x) I hc i (by omega)
    have hp := prN_rng (s := s) I (h := h) (w := w) (cel_lt (k := i) hc (by omega))
    rw [prS]
    repeat' split
    · exact Or.inl rfl
    · right; omega
    · rcases ih with ih | ih
      · exact Or.inl ih
      · right; omega
theorem prX_rng (I : Iv s) (hc : c < 22) {x : Nat} : prX s h w c x = 65535 ∨ prX s h w c x ≤ 252 := prS_rng I hc 12 (by omega)
theorem prS_N {x : Nat} : ∀ i, prS s h w c x i = 65535 → ∀ j, prS s h w c x (i + j) = 65535 := by
  intro i hi j
  induction j with
  | zero => exact hi
  | succ j ih =>
    rw [← Nat.add_assoc, prS, ih]
    split <;> simp
theorem prS_iff (I : Iv s) (hc : c < 22) {x : Nat} : ∀ i, i ≤ 12 → (prS s h w c x i = 65535 ↔ ∃ k, k < i ∧ (x ^^^ shL s h c).testBit k = true ∧ prN s h (cel c k) w = 65535)
  | 0, _ => by
    constructor
    · intro h; rw [prS] at h; exact absurd h (by decide)
    · rintro ⟨k, hk, -⟩; omega
  | i + 1, hi => by
    have ih := prS_iff (x := x) I hc i (by omega)
    have hr := prS_rng (h := h) (w := w) (x := x) I hc i (by omega)
    have hp := prN_rng (s := s) I (h := h) (w := w) (cel_lt (k := i) hc (by omega))
    rw [prS]
    constructor
    · intro g
      by_cases hb : (x ^^^ shL s h c).testBit i = true
      · rw [if_pos hb] at g
        by_cases hn : prN s h (cel c i) w = 65535
        · exact ⟨i, by omega, hb, hn⟩
        · by_cases ha : prS s h w c x i = 65535
          · obtain ⟨k, h1, h2, h3⟩ := ih.mp ha
            exact ⟨k, by omega, h2, h3⟩
          · rw [if_neg (by omega)] at g
            omega
      · rw [if_neg hb] at g
        obtain ⟨k, h1, h2, h3⟩ := ih.mp g
        exact ⟨k, by omega, h2, h3⟩
    · rintro ⟨k, h1, h2, h3⟩
      rcases Nat.lt_or_ge k i with q | q
      · have := ih.mpr ⟨k, q, h2, h3⟩
        rw [this]
        split <;> simp
      · obtain rfl : k = i := by omega
        rw [if_pos h2, if_pos (Or.inl h3)]
theorem x8_priceOf (hf : 5000 ≤ fu) (I : Iv s) (R : SR st s) (hh : h < 4) (hc : c < 22) (hw : okD w) {x : Nat} (hx : x < 4096) : f_X8_priceOf fu st (nI w) (nI h) (nI c) (nI x) = some (eI (prX s h w c x)) := by
  rw [f_X8_priceOf, x8_shapeAt hf I R hh hc, pz_bind, pz_xor]
  have hxx := xor_lt hx (shL_lt s h c)
  have main := pz_upE (fun n i => X8_priceOf_L17 fu st (nI w) (nI h) (nI c) (nI (x ^^^ shL s h c)) n (nI (prS s h w c x i)) (nI i)) 12 (some (eI (prX s h w c x))) (fun i => prS s h w c x i ≠ 65535) (fun n i hi hp => ?_) (fun n hp => ?_) fu 0 (by omega) (by omega) (by rw [prS]; decide)
  · exact main
  · have hr := prS_rng (h := h) (w := w) (x := x) I hc i (by omega)
    have hcl := cel_lt (k := i) hc hi
    have hp2 := prN_rng (s := s) I (h := h) (w := w) hcl
    have hpr := x8_price (fu := fu) hf I R hh hcl hw
    have hce : f_X8_cellOf fu (nI c) (nI i) = some (nI (cel c i)) := x8_cellOf hi
    have hb1 := Bool.toNat_le ((x ^^^ shL s h c).testBit i)
    rw [X8_priceOf_L17]
    generalize X8_priceOf_L17 fu st (nI w) (nI h) (nI c) (nI (x ^^^ shL s h c)) n = rec
    rw [prS]
    by_cases hb : (x ^^^ shL s h c).testBit i = true
    · by_cases hn : prN s h (cel c i) w = 65535
      · left
        have e : prX s h w c x = 65535 := by
          have := (prS_iff (x := x) (w := w) I hc 12 (by omega)).mpr ⟨i, hi, hb, hn⟩
          exact this
        rw [e]
        simp (disch := omega) only [hce, hpr, hb, hn, pz_b1, Bool.toNat_true, pz_c0, pz_c1, pz_c2, pz_c3, pz_c4, pz_c5, pz_c6, pz_c7, pz_c8, pz_c9, pz_c10, pz_c11, pz_c12, pz_c13, pz_c14, pz_c15, pz_c16, pz_c17, pz_c18, pz_c19, pz_c20, pz_c21, pz_c22, pz_c23, pz_c24, pz_c25, pz_c26, pz_c27, pz_c28, pz_c29, pz_c30, pz_c31, pz_c32, pz_c33, pz_c34, pz_c35, pz_c36, pz_c42, pz_c48, pz_c57, pz_c59, pz_c60, pz_c63, pz_c64, pz_c66, pz_c96, pz_c97, pz_c99, pz_c100, pz_c122, pz_c127, pz_c128, pz_c200, pz_c255, pz_c299, pz_c300, pz_c336, pz_c354, pz_c585, pz_c666, pz_c708, pz_c1000, pz_c1170, pz_c4095, pz_c4096, pz_c4608, pz_c1000000, nI_add, pk_mul, pk_sub, pz_sub, pk_div, pz_or, pz_and, pz_xor, pz_n31, pz_shl, pz_shr, pz_eq, pz_le, pz_lt, pz_eqm, pz_meq, pz_mmeq, pz_lem, pz_mle, pz_ltm, pz_mlt, pz_mmle, pz_mmlt, pz_rd, pz_ck, pz_let, pz_cl, pz_bind, pz_gd, pz_zbb, eI_of, eI_N, pz_leT, pz_leF, pz_ltT, pz_ltF, pz_eqT, pz_eqF, if_pos, if_neg, if_true, if_false, ite_true, ite_false, pz_b0, pz_b1i, pz_bf, pz_bt, Bool.false_eq_true, Bool.true_eq_false, decide_true, decide_false, and_true, and_false, true_and, false_and, and_self, or_true, or_false, true_or, false_or, or_self, not_true_eq_false, not_false_eq_true, ne_eq, reduceIte, eq_self, upd_at]
      · right
        refine ⟨?_, ?_⟩
        · rw [if_pos hb, if_neg (by omega)]; omega
        · simp (disch := omega) only [hce, hpr, hb, hn, pz_b1, Bool.toNat_true, X8_priceOf_J64, pz_c0, pz_c1, pz_c2, pz_c3, pz_c4, pz_c5, pz_c6, pz_c7, pz_c8, pz_c9, pz_c10, pz_c11, pz_c12, pz_c13, pz_c14, pz_c15, pz_c16, pz_c17, pz_c18, pz_c19, pz_c20, pz_c21, pz_c22, pz_c23, pz_c24, pz_c25, pz_c26, pz_c27, pz_c28, pz_c29, pz_c30, pz_c31, pz_c32, pz_c33, pz_c34, pz_c35, pz_c36, pz_c42, pz_c48, pz_c57, pz_c59, pz_c60, pz_c63, pz_c64, pz_c66, pz_c96, pz_c97, pz_c99, pz_c100, pz_c122, pz_c127, pz_c128, pz_c200, pz_c255, pz_c299, pz_c300, pz_c336, pz_c354, pz_c585, pz_c666, pz_c708, pz_c1000, pz_c1170, pz_c4095, pz_c4096, pz_c4608, pz_c1000000, nI_add, pk_mul, pk_sub, pz_sub, pk_div, pz_or, pz_and, pz_xor, pz_n31, pz_shl, pz_shr, pz_eq, pz_le, pz_lt, pz_eqm, pz_meq, pz_mmeq, pz_lem, pz_mle, pz_ltm, pz_mlt, pz_mmle, pz_mmlt, pz_rd, pz_ck, pz_let, pz_cl, pz_bind, pz_gd, pz_zbb, eI_of, eI_N, pz_leT, pz_leF, pz_ltT, pz_ltF, pz_eqT, pz_eqF, if_pos, if_neg, if_true, if_false, ite_true, ite_false, pz_b0, pz_b1i, pz_bf, pz_bt, Bool.false_eq_true, Bool.true_eq_false, decide_true, decide_false, and_true, and_false, true_and, false_and, and_self, or_true, or_false, true_or, false_or, or_self, not_true_eq_false, not_false_eq_true, ne_eq, reduceIte, eq_self, upd_at]
    · rw [Bool.not_eq_true] at hb
      right
      refine ⟨?_, ?_⟩
      · rw [hb, if_neg (by decide)]; exact hp
      · simp (disch := omega) only [hb, pz_b1, Bool.toNat_false, X8_priceOf_J64, pz_c0, pz_c1, pz_c2, pz_c3, pz_c4, pz_c5, pz_c6, pz_c7, pz_c8, pz_c9, pz_c10, pz_c11, pz_c12, pz_c13, pz_c14, pz_c15, pz_c16, pz_c17, pz_c18, pz_c19, pz_c20, pz_c21, pz_c22, pz_c23, pz_c24, pz_c25, pz_c26, pz_c27, pz_c28, pz_c29, pz_c30, pz_c31, pz_c32, pz_c33, pz_c34, pz_c35, pz_c36, pz_c42, pz_c48, pz_c57, pz_c59, pz_c60, pz_c63, pz_c64, pz_c66, pz_c96, pz_c97, pz_c99, pz_c100, pz_c122, pz_c127, pz_c128, pz_c200, pz_c255, pz_c299, pz_c300, pz_c336, pz_c354, pz_c585, pz_c666, pz_c708, pz_c1000, pz_c1170, pz_c4095, pz_c4096, pz_c4608, pz_c1000000, nI_add, pk_mul, pk_sub, pz_sub, pk_div, pz_or, pz_and, pz_xor, pz_n31, pz_shl, pz_shr, pz_eq, pz_le, pz_lt, pz_eqm, pz_meq, pz_mmeq, pz_lem, pz_mle, pz_ltm, pz_mlt, pz_mmle, pz_mmlt, pz_rd, pz_ck, pz_let, pz_cl, pz_bind, pz_gd, pz_zbb, eI_of, eI_N, pz_leT, pz_leF, pz_ltT, pz_ltF, pz_eqT, pz_eqF, if_pos, if_neg, if_true, if_false, ite_true, ite_false, pz_b0, pz_b1i, pz_bf, pz_bt, Bool.false_eq_true, Bool.true_eq_false, decide_true, decide_false, and_true, and_false, true_and, false_and, and_self, or_true, or_false, true_or, false_or, or_self, not_true_eq_false, not_false_eq_true, ne_eq, reduceIte, eq_self, upd_at]
  · have hr := prX_rng (h := h) (w := w) (x := x) I hc
    rw [prX] at hr ⊢
    simp (disch := omega) only [X8_priceOf_L17, pz_c0, pz_c1, pz_c2, pz_c3, pz_c4, pz_c5, pz_c6, pz_c7, pz_c8, pz_c9, pz_c10, pz_c11, pz_c12, pz_c13, pz_c14, pz_c15, pz_c16, pz_c17, pz_c18, pz_c19, pz_c20, pz_c21, pz_c22, pz_c23, pz_c24, pz_c25, pz_c26, pz_c27, pz_c28, pz_c29, pz_c30, pz_c31, pz_c32, pz_c33, pz_c34, pz_c35, pz_c36, pz_c42, pz_c48, pz_c57, pz_c59, pz_c60, pz_c63, pz_c64, pz_c66, pz_c96, pz_c97, pz_c99, pz_c100, pz_c122, pz_c127, pz_c128, pz_c200, pz_c255, pz_c299, pz_c300, pz_c336, pz_c354, pz_c585, pz_c666, pz_c708, pz_c1000, pz_c1170, pz_c4095, pz_c4096, pz_c4608, pz_c1000000, nI_add, pk_mul, pk_sub, pz_sub, pk_div, pz_or, pz_and, pz_xor, pz_n31, pz_shl, pz_shr, pz_eq, pz_le, pz_lt, pz_eqm, pz_meq, pz_mmeq, pz_lem, pz_mle, pz_ltm, pz_mlt, pz_mmle, pz_mmlt, pz_rd, pz_ck, pz_let, pz_cl, pz_bind, pz_gd, pz_zbb, eI_of, eI_N, pz_leT, pz_leF, pz_ltT, pz_ltF, pz_eqT, pz_eqF, if_pos, if_neg, if_true, if_false, ite_true, ite_false, pz_b0, pz_b1i, pz_bf, pz_bt, Bool.false_eq_true, Bool.true_eq_false, decide_true, decide_false, and_true, and_false, true_and, false_and, and_self, or_true, or_false, true_or, false_or, or_self, not_true_eq_false, not_false_eq_true, ne_eq, reduceIte, eq_self, upd_at]
theorem x8_findReads {rt : Nat → Int32} (hf : 5000 ≤ fu) (I : Iv s) (R : SR st s) (hO : ∀ k, k < 4096 → ones k = nI (pc k)) : f_X8_findReads fu st ones rt = some (filF (fun k => eI (rd s k)) rt 4096) := by
  rw [f_X8_findReads]
  have main := pz_up (fun n i => X8_findReads_L2 fu st ones n (filF (fun k => eI (rd s k)) rt i) (nI i)) 4096 (some (filF (fun k => eI (rd s k)) rt 4096)) (fun n i hi => ?_) (fun n => ?_) fu 0 (by omega) (by omega)
  · rw [filF_0] at main
    exact main
  · have e := filF_s (fun k => eI (rd s k)) rt i
    rw [X8_findReads_L2]
    generalize X8_findReads_L2 fu st ones n = rec
    simp (disch := omega) only [x8_readAs hf I R hO hi, pz_c0, pz_c1, pz_c2, pz_c3, pz_c4, pz_c5, pz_c6, pz_c7, pz_c8, pz_c9, pz_c10, pz_c11, pz_c12, pz_c13, pz_c14, pz_c15, pz_c16, pz_c17, pz_c18, pz_c19, pz_c20, pz_c21, pz_c22, pz_c23, pz_c24, pz_c25, pz_c26, pz_c27, pz_c28, pz_c29, pz_c30, pz_c31, pz_c32, pz_c33, pz_c34, pz_c35, pz_c36, pz_c42, pz_c48, pz_c57, pz_c59, pz_c60, pz_c63, pz_c64, pz_c66, pz_c96, pz_c97, pz_c99, pz_c100, pz_c122, pz_c127, pz_c128, pz_c200, pz_c255, pz_c299, pz_c300, pz_c336, pz_c354, pz_c585, pz_c666, pz_c708, pz_c1000, pz_c1170, pz_c4095, pz_c4096, pz_c4608, pz_c1000000, nI_add, pk_mul, pk_sub, pz_sub, pk_div, pz_or, pz_and, pz_xor, pz_n31, pz_shl, pz_shr, pz_eq, pz_le, pz_lt, pz_eqm, pz_meq, pz_mmeq, pz_lem, pz_mle, pz_ltm, pz_mlt, pz_mmle, pz_mmlt, pz_rd, pz_ck, pz_let, pz_cl, pz_bind, pz_gd, pz_zbb, eI_of, eI_N, pz_leT, pz_leF, pz_ltT, pz_ltF, pz_eqT, pz_eqF, if_pos, if_neg, if_true, if_false, ite_true, ite_false, pz_b0, pz_b1i, pz_bf, pz_bt, Bool.false_eq_true, Bool.true_eq_false, decide_true, decide_false, and_true, and_false, true_and, false_and, and_self, or_true, or_false, true_or, false_or, or_self, not_true_eq_false, not_false_eq_true, ne_eq, reduceIte, eq_self, upd_at, e]
  · rw [X8_findReads_L2]
    generalize X8_findReads_L2 fu st ones n = rec
    simp (disch := omega) only [pz_c0, pz_c1, pz_c2, pz_c3, pz_c4, pz_c5, pz_c6, pz_c7, pz_c8, pz_c9, pz_c10, pz_c11, pz_c12, pz_c13, pz_c14, pz_c15, pz_c16, pz_c17, pz_c18, pz_c19, pz_c20, pz_c21, pz_c22, pz_c23, pz_c24, pz_c25, pz_c26, pz_c27, pz_c28, pz_c29, pz_c30, pz_c31, pz_c32, pz_c33, pz_c34, pz_c35, pz_c36, pz_c42, pz_c48, pz_c57, pz_c59, pz_c60, pz_c63, pz_c64, pz_c66, pz_c96, pz_c97, pz_c99, pz_c100, pz_c122, pz_c127, pz_c128, pz_c200, pz_c255, pz_c299, pz_c300, pz_c336, pz_c354, pz_c585, pz_c666, pz_c708, pz_c1000, pz_c1170, pz_c4095, pz_c4096, pz_c4608, pz_c1000000, nI_add, pk_mul, pk_sub, pz_sub, pk_div, pz_or, pz_and, pz_xor, pz_n31, pz_shl, pz_shr, pz_eq, pz_le, pz_lt, pz_eqm, pz_meq, pz_mmeq, pz_lem, pz_mle, pz_ltm, pz_mlt, pz_mmle, pz_mmlt, pz_rd, pz_ck, pz_let, pz_cl, pz_bind, pz_gd, pz_zbb, eI_of, eI_N, pz_leT, pz_leF, pz_ltT, pz_ltF, pz_eqT, pz_eqF, if_pos, if_neg, if_true, if_false, ite_true, ite_false, pz_b0, pz_b1i, pz_bf, pz_bt, Bool.false_eq_true, Bool.true_eq_false, decide_true, decide_false, and_true, and_false, true_and, false_and, and_self, or_true, or_false, true_or, false_or, or_self, not_true_eq_false, not_false_eq_true, ne_eq, reduceIte, eq_self, upd_at]
theorem bxF_rng (I : Iv s) (hc : c < 22) {j x : Nat} : bxF s h w c j x = 65535 ∨ bxF s h w c j x ≤ 252 := by
  unfold bxF
  split
  · exact prX_rng I hc
  · exact Or.inl rfl
theorem best_rng {f : Nat → Nat} {B : Nat} (hf : ∀ k, f k = 65535 ∨ f k ≤ B) : ∀ n, (best f n).1 = 65535 ∨ (best f n).1 ≤ B
  | 0 => Or.inl rfl
  | n + 1 => by
    rw [best]
    split
    · exact hf n
    · exact best_rng hf n
theorem eI_lt {j : Nat} (hj : j < 6) {x : Nat} (hx : x < 6 ∨ x = 65535) : (eI x = nI j) = (x = j) := by
  apply propext
  rcases hx with h | h
  · rw [eI_of (by omega), pz_eq (by omega) (by omega)]
  · rw [h, eI_N, pz_meq (by omega) (by decide) (by decide)]
    constructor
    · exact False.elim
    · omega
theorem x8_makeBox {rt le ma : Nat → Int32} (hf : 5000 ≤ fu) (I : Iv s) (R : SR st s) (hT : ∀ k, k < 4096 → rt k = eI (rd s k)) (hh : h < 4) (hc : c < 22) (hw : okW s w) {i : Nat} (hi : i < wl w) : f_X8_makeBox fu st rt le ma (nI w) (nI h) (nI i) (nI c) = some (upd le (24 * i + c) (eI (BX s h w i c).1), upd ma (24 * i + c) (eI (BX s h w i c).2)) := by
  have hwr := wl_rng w
  have hd := okW_D hw
  have hwd := wd_lt hw hi
  have h3 := I.2.2.2.1
  have hlo := x8_letterOf (fu := fu) hd hw.1 hi
  have main := pz_up (fun n k => X8_makeBox_L35 fu st rt (nI w) (nI h) (nI c) (nI (24 * i + c)) (nI (wd w i)) n (upd le (24 * i + c) (eI (best (bxF s h w c (wd w i)) k).1)) (upd ma (24 * i + c) (eI (best (bxF s h w c (wd w i)) k).2)) (nI k)) 4096 (some (upd le (24 * i + c) (eI (BX s h w i c).1), upd ma (24 * i + c) (eI (BX s h w i c).2))) (fun n k hk => ?_) (fun n => ?_) fu 0 (by omega) (by omega)
  · have hw6 : w ≤ 666 := hw.2.1
    simp (disch := omega) only [f_X8_makeBox, hlo, pz_c0, pz_c1, pz_c2, pz_c3, pz_c4, pz_c5, pz_c6, pz_c7, pz_c8, pz_c9, pz_c10, pz_c11, pz_c12, pz_c13, pz_c14, pz_c15, pz_c16, pz_c17, pz_c18, pz_c19, pz_c20, pz_c21, pz_c22, pz_c23, pz_c24, pz_c25, pz_c26, pz_c27, pz_c28, pz_c29, pz_c30, pz_c31, pz_c32, pz_c33, pz_c34, pz_c35, pz_c36, pz_c42, pz_c48, pz_c57, pz_c59, pz_c60, pz_c63, pz_c64, pz_c66, pz_c96, pz_c97, pz_c99, pz_c100, pz_c122, pz_c127, pz_c128, pz_c200, pz_c255, pz_c299, pz_c300, pz_c336, pz_c354, pz_c585, pz_c666, pz_c708, pz_c1000, pz_c1170, pz_c4095, pz_c4096, pz_c4608, pz_c1000000, nI_add, pk_mul, pk_sub, pz_sub, pk_div, pz_or, pz_and, pz_xor, pz_n31, pz_shl, pz_shr, pz_eq, pz_le, pz_lt, pz_eqm, pz_meq, pz_mmeq, pz_lem, pz_mle, pz_ltm, pz_mlt, pz_mmle, pz_mmlt, pz_rd, pz_ck, pz_let, pz_cl, pz_bind, pz_gd, pz_zbb, eI_of, eI_N, pz_leT, pz_leF, pz_ltT, pz_ltF, pz_eqT, pz_eqF, if_pos, if_neg, if_true, if_false, ite_true, ite_false, pz_b0, pz_b1i, pz_bf, pz_bt, Bool.false_eq_true, Bool.true_eq_false, decide_true, decide_false, and_true, and_false, true_and, false_and, and_self, or_true, or_false, true_or, false_or, or_self, not_true_eq_false, not_false_eq_true, ne_eq, reduceIte, eq_self, upd_at]
    exact main
  · have hb := best_rng (f := bxF s h w c (wd w i)) (B := 252) (fun k => bxF_rng I hc) k
    have hp := prX_rng (h := h) (w := w) (x := k) I hc
    have hrd := rd_rng (s := s) k
    have e1 := eI_lt (j := wd w i) (by omega) (x := rd s k) (by omega)
    have e2 := x8_priceOf (fu := fu) hf I R hh hc hd hk
    rw [X8_makeBox_L35]
    generalize X8_makeBox_L35 fu st rt (nI w) (nI h) (nI c) (nI (24 * i + c)) (nI (wd w i)) n = rec
    rw [best]
    by_cases hr : rd s k = wd w i
    · have eb : bxF s h w c (wd w i) k = prX s h w c k := by rw [bxF, if_pos hr]
      rw [eb]
      rcases hp with hp | hp
      · simp (disch := omega) only [hT k hk, e1, hr, e2, hp, X8_makeBox_J69, X8_makeBox_J118, pz_c0, pz_c1, pz_c2, pz_c3, pz_c4, pz_c5, pz_c6, pz_c7, pz_c8, pz_c9, pz_c10, pz_c11, pz_c12, pz_c13, pz_c14, pz_c15, pz_c16, pz_c17, pz_c18, pz_c19, pz_c20, pz_c21, pz_c22, pz_c23, pz_c24, pz_c25, pz_c26, pz_c27, pz_c28, pz_c29, pz_c30, pz_c31, pz_c32, pz_c33, pz_c34, pz_c35, pz_c36, pz_c42, pz_c48, pz_c57, pz_c59, pz_c60, pz_c63, pz_c64, pz_c66, pz_c96, pz_c97, pz_c99, pz_c100, pz_c122, pz_c127, pz_c128, pz_c200, pz_c255, pz_c299, pz_c300, pz_c336, pz_c354, pz_c585, pz_c666, pz_c708, pz_c1000, pz_c1170, pz_c4095, pz_c4096, pz_c4608, pz_c1000000, nI_add, pk_mul, pk_sub, pz_sub, pk_div, pz_or, pz_and, pz_xor, pz_n31, pz_shl, pz_shr, pz_eq, pz_le, pz_lt, pz_eqm, pz_meq, pz_mmeq, pz_lem, pz_mle, pz_ltm, pz_mlt, pz_mmle, pz_mmlt, pz_rd, pz_ck, pz_let, pz_cl, pz_bind, pz_gd, pz_zbb, eI_of, eI_N, pz_leT, pz_leF, pz_ltT, pz_ltF, pz_eqT, pz_eqF, if_pos, if_neg, if_true, if_false, ite_true, ite_false, pz_b0, pz_b1i, pz_bf, pz_bt, Bool.false_eq_true, Bool.true_eq_false, decide_true, decide_false, and_true, and_false, true_and, false_and, and_self, or_true, or_false, true_or, false_or, or_self, not_true_eq_false, not_false_eq_true, ne_eq, reduceIte, eq_self, upd_at]
      · rcases hb with hb | hb
        · simp (disch := omega) only [hT k hk, e1, hr, e2, hb, X8_makeBox_J69, X8_makeBox_J118, X8_makeBox_J100, pk_us, upd_upd, pz_c0, pz_c1, pz_c2, pz_c3, pz_c4, pz_c5, pz_c6, pz_c7, pz_c8, pz_c9, pz_c10, pz_c11, pz_c12, pz_c13, pz_c14, pz_c15, pz_c16, pz_c17, pz_c18, pz_c19, pz_c20, pz_c21, pz_c22, pz_c23, pz_c24, pz_c25, pz_c26, pz_c27, pz_c28, pz_c29, pz_c30, pz_c31, pz_c32, pz_c33, pz_c34, pz_c35, pz_c36, pz_c42, pz_c48, pz_c57, pz_c59, pz_c60, pz_c63, pz_c64, pz_c66, pz_c96, pz_c97, pz_c99, pz_c100, pz_c122, pz_c127, pz_c128, pz_c200, pz_c255, pz_c299, pz_c300, pz_c336, pz_c354, pz_c585, pz_c666, pz_c708, pz_c1000, pz_c1170, pz_c4095, pz_c4096, pz_c4608, pz_c1000000, nI_add, pk_mul, pk_sub, pz_sub, pk_div, pz_or, pz_and, pz_xor, pz_n31, pz_shl, pz_shr, pz_eq, pz_le, pz_lt, pz_eqm, pz_meq, pz_mmeq, pz_lem, pz_mle, pz_ltm, pz_mlt, pz_mmle, pz_mmlt, pz_rd, pz_ck, pz_let, pz_cl, pz_bind, pz_gd, pz_zbb, eI_of, eI_N, pz_leT, pz_leF, pz_ltT, pz_ltF, pz_eqT, pz_eqF, if_pos, if_neg, if_true, if_false, ite_true, ite_false, pz_b0, pz_b1i, pz_bf, pz_bt, Bool.false_eq_true, Bool.true_eq_false, decide_true, decide_false, and_true, and_false, true_and, false_and, and_self, or_true, or_false, true_or, false_or, or_self, not_true_eq_false, not_false_eq_true, ne_eq, reduceIte, eq_self, upd_at]
        · by_cases hlt : prX s h w c k < (best (bxF s h w c (wd w i)) k).1
          · simp (disch := omega) only [hT k hk, e1, hr, e2, X8_makeBox_J69, X8_makeBox_J118, X8_makeBox_J100, pk_us, upd_upd, pz_c0, pz_c1, pz_c2, pz_c3, pz_c4, pz_c5, pz_c6, pz_c7, pz_c8, pz_c9, pz_c10, pz_c11, pz_c12, pz_c13, pz_c14, pz_c15, pz_c16, pz_c17, pz_c18, pz_c19, pz_c20, pz_c21, pz_c22, pz_c23, pz_c24, pz_c25, pz_c26, pz_c27, pz_c28, pz_c29, pz_c30, pz_c31, pz_c32, pz_c33, pz_c34, pz_c35, pz_c36, pz_c42, pz_c48, pz_c57, pz_c59, pz_c60, pz_c63, pz_c64, pz_c66, pz_c96, pz_c97, pz_c99, pz_c100, pz_c122, pz_c127, pz_c128, pz_c200, pz_c255, pz_c299, pz_c300, pz_c336, pz_c354, pz_c585, pz_c666, pz_c708, pz_c1000, pz_c1170, pz_c4095, pz_c4096, pz_c4608, pz_c1000000, nI_add, pk_mul, pk_sub, pz_sub, pk_div, pz_or, pz_and, pz_xor, pz_n31, pz_shl, pz_shr, pz_eq, pz_le, pz_lt, pz_eqm, pz_meq, pz_mmeq, pz_lem, pz_mle, pz_ltm, pz_mlt, pz_mmle, pz_mmlt, pz_rd, pz_ck, pz_let, pz_cl, pz_bind, pz_gd, pz_zbb, eI_of, eI_N, pz_leT, pz_leF, pz_ltT, pz_ltF, pz_eqT, pz_eqF, if_pos, if_neg, if_true, if_false, ite_true, ite_false, pz_b0, pz_b1i, pz_bf, pz_bt, Bool.false_eq_true, Bool.true_eq_false, decide_true, decide_false, and_true, and_false, true_and, false_and, and_self, or_true, or_false, true_or, false_or, or_self, not_true_eq_false, not_false_eq_true, ne_eq, reduceIte, eq_self, upd_at]
          · simp (disch := omega) only [hT k hk, e1, hr, e2, X8_makeBox_J69, X8_makeBox_J118, X8_makeBox_J100, pk_us, upd_upd, pz_c0, pz_c1, pz_c2, pz_c3, pz_c4, pz_c5, pz_c6, pz_c7, pz_c8, pz_c9, pz_c10, pz_c11, pz_c12, pz_c13, pz_c14, pz_c15, pz_c16, pz_c17, pz_c18, pz_c19, pz_c20, pz_c21, pz_c22, pz_c23, pz_c24, pz_c25, pz_c26, pz_c27, pz_c28, pz_c29, pz_c30, pz_c31, pz_c32, pz_c33, pz_c34, pz_c35, pz_c36, pz_c42, pz_c48, pz_c57, pz_c59, pz_c60, pz_c63, pz_c64, pz_c66, pz_c96, pz_c97, pz_c99, pz_c100, pz_c122, pz_c127, pz_c128, pz_c200, pz_c255, pz_c299, pz_c300, pz_c336, pz_c354, pz_c585, pz_c666, pz_c708, pz_c1000, pz_c1170, pz_c4095, pz_c4096, pz_c4608, pz_c1000000, nI_add, pk_mul, pk_sub, pz_sub, pk_div, pz_or, pz_and, pz_xor, pz_n31, pz_shl, pz_shr, pz_eq, pz_le, pz_lt, pz_eqm, pz_meq, pz_mmeq, pz_lem, pz_mle, pz_ltm, pz_mlt, pz_mmle, pz_mmlt, pz_rd, pz_ck, pz_let, pz_cl, pz_bind, pz_gd, pz_zbb, eI_of, eI_N, pz_leT, pz_leF, pz_ltT, pz_ltF, pz_eqT, pz_eqF, if_pos, if_neg, if_true, if_false, ite_true, ite_false, pz_b0, pz_b1i, pz_bf, pz_bt, Bool.false_eq_true, Bool.true_eq_false, decide_true, decide_false, and_true, and_false, true_and, false_and, and_self, or_true, or_false, true_or, false_or, or_self, not_true_eq_false, not_false_eq_true, ne_eq, reduceIte, eq_self, upd_at]
    · have eb : bxF s h w c (wd w i) k = 65535 := by rw [bxF, if_neg hr]
      rw [eb]
      simp (disch := omega) only [hT k hk, e1, hr, X8_makeBox_J69, X8_makeBox_J118, pz_c0, pz_c1, pz_c2, pz_c3, pz_c4, pz_c5, pz_c6, pz_c7, pz_c8, pz_c9, pz_c10, pz_c11, pz_c12, pz_c13, pz_c14, pz_c15, pz_c16, pz_c17, pz_c18, pz_c19, pz_c20, pz_c21, pz_c22, pz_c23, pz_c24, pz_c25, pz_c26, pz_c27, pz_c28, pz_c29, pz_c30, pz_c31, pz_c32, pz_c33, pz_c34, pz_c35, pz_c36, pz_c42, pz_c48, pz_c57, pz_c59, pz_c60, pz_c63, pz_c64, pz_c66, pz_c96, pz_c97, pz_c99, pz_c100, pz_c122, pz_c127, pz_c128, pz_c200, pz_c255, pz_c299, pz_c300, pz_c336, pz_c354, pz_c585, pz_c666, pz_c708, pz_c1000, pz_c1170, pz_c4095, pz_c4096, pz_c4608, pz_c1000000, nI_add, pk_mul, pk_sub, pz_sub, pk_div, pz_or, pz_and, pz_xor, pz_n31, pz_shl, pz_shr, pz_eq, pz_le, pz_lt, pz_eqm, pz_meq, pz_mmeq, pz_lem, pz_mle, pz_ltm, pz_mlt, pz_mmle, pz_mmlt, pz_rd, pz_ck, pz_let, pz_cl, pz_bind, pz_gd, pz_zbb, eI_of, eI_N, pz_leT, pz_leF, pz_ltT, pz_ltF, pz_eqT, pz_eqF, if_pos, if_neg, if_true, if_false, ite_true, ite_false, pz_b0, pz_b1i, pz_bf, pz_bt, Bool.false_eq_true, Bool.true_eq_false, decide_true, decide_false, and_true, and_false, true_and, false_and, and_self, or_true, or_false, true_or, false_or, or_self, not_true_eq_false, not_false_eq_true, ne_eq, reduceIte, eq_self, upd_at]
  · rw [X8_makeBox_L35]
    generalize X8_makeBox_L35 fu st rt (nI w) (nI h) (nI c) (nI (24 * i + c)) (nI (wd w i)) n = rec
    simp (disch := omega) only [pz_c0, pz_c1, pz_c2, pz_c3, pz_c4, pz_c5, pz_c6, pz_c7, pz_c8, pz_c9, pz_c10, pz_c11, pz_c12, pz_c13, pz_c14, pz_c15, pz_c16, pz_c17, pz_c18, pz_c19, pz_c20, pz_c21, pz_c22, pz_c23, pz_c24, pz_c25, pz_c26, pz_c27, pz_c28, pz_c29, pz_c30, pz_c31, pz_c32, pz_c33, pz_c34, pz_c35, pz_c36, pz_c42, pz_c48, pz_c57, pz_c59, pz_c60, pz_c63, pz_c64, pz_c66, pz_c96, pz_c97, pz_c99, pz_c100, pz_c122, pz_c127, pz_c128, pz_c200, pz_c255, pz_c299, pz_c300, pz_c336, pz_c354, pz_c585, pz_c666, pz_c708, pz_c1000, pz_c1170, pz_c4095, pz_c4096, pz_c4608, pz_c1000000, nI_add, pk_mul, pk_sub, pz_sub, pk_div, pz_or, pz_and, pz_xor, pz_n31, pz_shl, pz_shr, pz_eq, pz_le, pz_lt, pz_eqm, pz_meq, pz_mmeq, pz_lem, pz_mle, pz_ltm, pz_mlt, pz_mmle, pz_mmlt, pz_rd, pz_ck, pz_let, pz_cl, pz_bind, pz_gd, pz_zbb, eI_of, eI_N, pz_leT, pz_leF, pz_ltT, pz_ltF, pz_eqT, pz_eqF, if_pos, if_neg, if_true, if_false, ite_true, ite_false, pz_b0, pz_b1i, pz_bf, pz_bt, Bool.false_eq_true, Bool.true_eq_false, decide_true, decide_false, and_true, and_false, true_and, false_and, and_self, or_true, or_false, true_or, false_or, or_self, not_true_eq_false, not_false_eq_true, ne_eq, reduceIte, eq_self, upd_at]
    rfl
end
