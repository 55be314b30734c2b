/-! COUNTING BITS, AND WHAT A SHAPE IS READ AS -/
def ctN (p : Nat → Bool) : Nat → Nat
  | 0 => 0
  | n + 1 => ctN p n + (p n).toNat
theorem ctN_le (p : Nat → Bool) : ∀ n, ctN p n ≤ n
  | 0 => Nat.le_refl 0
  | n + 1 => by
    have h := ctN_le p n
    have h2 : (p n).toNat ≤ 1 := Bool.toNat_le (p n)
    rw [ctN]; omega
theorem ctN_cong {p q : Nat → Bool} : ∀ {n : Nat}, (∀ k, k < n → p k = q k) → ctN p n = ctN q n
  | 0, _ => rfl
  | n + 1, h => by rw [ctN, ctN, ctN_cong (fun k hk => h k (by omega)), h n (by omega)]
theorem ctN_xor (p q : Nat → Bool) : ∀ n, ctN (fun i => p i ^^ q i) n ≤ ctN p n + ctN q n
  | 0 => Nat.le_refl 0
  | n + 1 => by
    have h := ctN_xor p q n
    rw [ctN, ctN, ctN]
    cases p n <;> cases q n <;> simp <;> omega
theorem ctN_sub {w d : Nat → Bool} : ∀ {n : Nat}, (∀ k, k < n → w k = true → d k = true) → ctN d n = ctN w n + ctN (fun i => d i ^^ w i) n
  | 0, _ => rfl
  | n + 1, h => by
    have h1 := ctN_sub (n := n) (fun k hk => h k (by omega))
    have h2 := h n (by omega)
    rw [ctN, ctN, ctN]
    cases hw : w n <;> cases hd : d n <;> simp [hw, hd] at h2 ⊢ <;> omega
def pc (n : Nat) : Nat := ctN n.testBit 12
theorem pc_le (n : Nat) : pc n ≤ 12 := ctN_le _ _
theorem pc_xor (a b : Nat) : pc (a ^^^ b) ≤ pc a + pc b := by
  have h := ctN_xor a.testBit b.testBit 12
  rw [pc, ctN_cong (q := fun i => a.testBit i ^^ b.testBit i) (fun k _ => Nat.testBit_xor ..)]
  exact h
theorem pc_sub {w d : Nat} (h : ∀ i, i < 12 → w.testBit i = true → d.testBit i = true) : pc d = pc w + pc (d ^^^ w) := by
  have h2 := ctN_sub (n := 12) h
  rw [pc, h2, pc, pc, ctN_cong (q := fun i => d.testBit i ^^ w.testBit i) (p := (d ^^^ w).testBit) (fun k _ => Nat.testBit_xor ..)]
set_option maxRecDepth 100000 in
theorem j6_all : (List.range 4096).all (fun i => decide (f_J6_bitCount_0f7a4 0 (nI i) = some (nI (pc i)))) = true := by decide +kernel
theorem j6_pc {fu n : Nat} (h : n < 4096) : f_J6_bitCount_0f7a4 fu (nI n) = some (nI (pc n)) := by
  have h1 := List.all_eq_true.mp j6_all n (List.mem_range.mpr h)
  exact of_decide_eq_true h1
theorem xor_lt {a b : Nat} (ha : a < 4096) (hb : b < 4096) : a ^^^ b < 4096 := Nat.xor_lt_two_pow (n := 12) ha hb
theorem and_lt {a b : Nat} (hb : b < 4096) : a &&& b < 4096 := Nat.and_lt_two_pow (n := 12) a hb
def rdF (s : Nat → Nat) (x : Nat) : Nat → Nat × Nat
  | 0 => (s 5 + 1, 65535)
  | k + 1 => if pc (x ^^^ s (30 + k)) < (rdF s x k).1 then (pc (x ^^^ s (30 + k)), k) else if pc (x ^^^ s (30 + k)) = (rdF s x k).1 then ((rdF s x k).1, 65535) else rdF s x k
def rd (s : Nat → Nat) (x : Nat) : Nat := (rdF s x (s 3)).2
theorem rdF_q (s : Nat → Nat) (x : Nat) : ∀ k, (rdF s x k).1 ≤ s 5 + 1 ∧ (∀ i, i < k → (rdF s x k).1 ≤ pc (x ^^^ s (30 + i))) ∧ (((rdF s x k).2 < k ∧ pc (x ^^^ s (30 + (rdF s x k).2)) = (rdF s x k).1 ∧ (rdF s x k).1 ≤ s 5 ∧ ∀ i, i < k → i ≠ (rdF s x k).2 → (rdF s x k).1 < pc (x ^^^ s (30 + i))) ∨ ((rdF s x k).2 = 65535 ∧ ((rdF s x k).1 = s 5 + 1 ∨ ∃ i j, i < k ∧ j < k ∧ i ≠ j ∧ pc (x ^^^ s (30 + i)) = (rdF s x k).1 ∧ pc (x ^^^ s (30 + j)) = (rdF s x k).1)))
  | 0 => ⟨Nat.le_refl _, fun i h => absurd h (Nat.not_lt_zero i), Or.inr ⟨rfl, Or.inl rfl⟩⟩
  | k + 1 => by
    obtain ⟨h1, h2, h3⟩ := rdF_q s x k
    rw [rdF]
    rcases Nat.lt_trichotomy (pc (x ^^^ s (30 + k))) (rdF s x k).1 with h | h | h
    · rw [if_pos h]
      refine ⟨by omega, fun i hi => ?_, Or.inl ⟨by omega, rfl, by omega, fun i hi hn => ?_⟩⟩
      · rcases Nat.lt_or_ge i k with h4 | h4
        · have := h2 i h4
          simp only
          omega
        · obtain rfl : i = k := by omega
          exact Nat.le_refl _
      · have := h2 i (by simp only at hn; omega)
        simp only
        omega
    · rw [if_neg (by omega), if_pos h]
      refine ⟨h1, fun i hi => ?_, Or.inr ⟨rfl, ?_⟩⟩
      · rcases Nat.lt_or_ge i k with h4 | h4
        · exact h2 i h4
        · obtain rfl : i = k := by omega
          simp only
          omega
      · rcases h3 with ⟨a, b, c, d⟩ | ⟨a, b⟩
        · exact Or.inr ⟨(rdF s x k).2, k, by omega, by omega, by omega, b, h⟩
        · rcases b with b | ⟨i, j, b1, b2, b3, b4, b5⟩
          · exact Or.inl b
          · exact Or.inr ⟨i, j, by omega, by omega, b3, b4, b5⟩
    · rw [if_neg (by omega), if_neg (by omega)]
      refine ⟨h1, fun i hi => ?_, ?_⟩
      · rcases Nat.lt_or_ge i k with h4 | h4
        · exact h2 i h4
        · obtain rfl : i = k := by omega
          omega
      · rcases h3 with ⟨a, b, c, d⟩ | ⟨a, b⟩
        · refine Or.inl ⟨by omega, b, c, fun i hi hn => ?_⟩
          rcases Nat.lt_or_ge i k with h4 | h4
          · exact d i h4 hn
          · obtain rfl : i = k := by omega
            exact h
        · refine Or.inr ⟨a, ?_⟩
          rcases b with b | ⟨i, j, b1, b2, b3, b4, b5⟩
          · exact Or.inl b
          · exact Or.inr ⟨i, j, by omega, by omega, b3, b4, b5⟩
theorem rd_iff {s : Nat → Nat} {x j : Nat} (hl : s 3 ≤ 6) (hj : j < s 3) : rd s x = j ↔ pc (x ^^^ s (30 + j)) ≤ s 5 ∧ ∀ i, i < s 3 → i ≠ j → pc (x ^^^ s (30 + j)) < pc (x ^^^ s (30 + i)) := by
  obtain ⟨h1, h2, h3⟩ := rdF_q s x (s 3)
  rw [rd]
  constructor
  · intro h
    rcases h3 with ⟨a, b, c, d⟩ | ⟨a, b⟩
    · rw [h] at b d
      exact ⟨by omega, fun i hi hn => by have := d i hi hn; omega⟩
    · omega
  · rintro ⟨h4, h5⟩
    rcases h3 with ⟨a, b, c, d⟩ | ⟨a, b⟩
    · rcases Nat.decEq (rdF s x (s 3)).2 j with e | e
      · have g1 := h5 _ a e
        have g2 := d j hj (Ne.symm e)
        omega
      · exact e
    · rcases b with b | ⟨i, k, b1, b2, b3, b4, b5⟩
      · have := h2 j hj
        omega
      · have g := h2 j hj
        rcases Nat.decEq i j with e | e
        · have := h5 i b1 e
          omega
        · have := h5 k b2 (by omega)
          omega
theorem rd_rng {s : Nat → Nat} (x : Nat) : rd s x < s 3 ∨ rd s x = 65535 := by
  obtain ⟨h1, h2, h3⟩ := rdF_q s x (s 3)
  rcases h3 with ⟨a, -⟩ | ⟨a, -⟩
  · exact Or.inl a
  · exact Or.inr a
/-- a box can be read as a letter if, and only if, it is where alone what must stay is wrong -/
theorem fits_iff {s : Nat → Nat} {j na mu : Nat} (hl : s 3 ≤ 6) (hj : j < s 3) (hs : s (30 + j) < 4096) (hna : na < 4096) (hmu : mu < 4096) : rd s (s (30 + j) ^^^ ((s (30 + j) ^^^ na) &&& mu)) = j ↔ ∃ y, y < 4096 ∧ rd s y = j ∧ (y ^^^ na) &&& mu = 0 := by
  have e1 : ∀ a b c : Nat, a ^^^ b = 0 → a = b := fun a b c h => by
    apply Nat.eq_of_testBit_eq
    intro i
    have := congrArg (fun z => z.testBit i) h
    simp only [Nat.testBit_xor, Nat.zero_testBit] at this
    revert this
    cases a.testBit i <;> cases b.testBit i <;> simp
  constructor
  · intro h
    refine ⟨_, xor_lt hs (and_lt hmu), h, ?_⟩
    apply Nat.eq_of_testBit_eq
    intro i
    simp only [Nat.testBit_and, Nat.testBit_xor, Nat.zero_testBit]
    cases (s (30 + j)).testBit i <;> cases na.testBit i <;> cases mu.testBit i <;> rfl
  · rintro ⟨y, hy, h1, h2⟩
    rw [rd_iff hl hj] at h1 ⊢
    obtain ⟨h3, h4⟩ := h1
    have b : ∀ i, ((y.testBit i ^^ na.testBit i) && mu.testBit i) = false := fun i => by
      have := congrArg (fun z => z.testBit i) h2
      simpa only [Nat.testBit_and, Nat.testBit_xor, Nat.zero_testBit] using this
    have ew : s (30 + j) ^^^ ((s (30 + j) ^^^ na) &&& mu) ^^^ s (30 + j) = (s (30 + j) ^^^ na) &&& mu := by
      apply Nat.eq_of_testBit_eq
      intro i
      simp only [Nat.testBit_and, Nat.testBit_xor]
      cases (s (30 + j)).testBit i <;> cases na.testBit i <;> cases mu.testBit i <;> rfl
    have es : ∀ i, i < 12 → ((s (30 + j) ^^^ na) &&& mu).testBit i = true → (y ^^^ s (30 + j)).testBit i = true := fun i _ => by
      have := b i
      simp only [Nat.testBit_and, Nat.testBit_xor]
      revert this
      cases (s (30 + j)).testBit i <;> cases na.testBit i <;> cases mu.testBit i <;> cases y.testBit i <;> simp
    have ep := pc_sub es
    rw [ew]
    refine ⟨by omega, fun i hi hn => ?_⟩
    have g := h4 i hi hn
    have t := pc_xor (s (30 + j) ^^^ ((s (30 + j) ^^^ na) &&& mu) ^^^ s (30 + i)) ((y ^^^ s (30 + j)) ^^^ ((s (30 + j) ^^^ na) &&& mu))
    have et : (s (30 + j) ^^^ ((s (30 + j) ^^^ na) &&& mu) ^^^ s (30 + i)) ^^^ ((y ^^^ s (30 + j)) ^^^ ((s (30 + j) ^^^ na) &&& mu)) = y ^^^ s (30 + i) := by
      apply Nat.eq_of_testBit_eq
      intro k
      simp only [Nat.testBit_and, Nat.testBit_xor]
      cases (s (30 + j)).testBit k <;> cases na.testBit k <;> cases mu.testBit k <;> cases y.testBit k <;> cases (s (30 + i)).testBit k <;> rfl
    rw [et] at t
    omega
section
variable {fu : Nat} {s : Nat → Nat}
theorem x5_readAs {shapes : Nat → Int32} (hf : 5000 ≤ fu) (I : Iv s) (hS : ∀ k, k < s 3 → shapes k = nI (s (30 + k))) {x : Nat} (hx : x < 4096) : f_X5_readAs fu (nI (s 5)) (nI (s 3)) shapes (nI x) = some (eI (rd s x)) := by
  obtain ⟨-, -, -, i3, -, i5, -, -, -, i30, -⟩ := I
  rw [f_X5_readAs, rd, pz_c1, pz_c0, nI_add]
  refine pz_up (fun n i => X5_readAs_L12 fu (nI (s 5)) (nI (s 3)) shapes (nI x) n (nI (rdF s x i).1) (eI (rdF s x i).2) (nI i)) (s 3) _ (fun n i hi => ?_) (fun n => ?_) fu 0 (by omega) (by omega)
  · have hq := (rdF_q s x i).1
    have hb := i30 i hi
    have hxx := xor_lt hx hb
    have hp := pc_le (x ^^^ s (30 + i))
    simp (disch := omega) only [X5_readAs_L12, X5_readAs_J58, hS i hi, j6_pc, pz_c0, pz_c1, pz_c2, pz_c3, pz_c4, pz_c5, pz_c6, pz_c7, pz_c8, pz_c9, pz_c10, pz_c11, pz_c12, pz_c13, pz_c14, pz_c15, pz_c16, pz_c17, pz_c18, pz_c19, pz_c20, pz_c21, pz_c22, pz_c23, pz_c24, pz_c25, pz_c26, pz_c27, pz_c28, pz_c29, pz_c30, pz_c31, pz_c32, pz_c33, pz_c34, pz_c35, pz_c36, pz_c42, pz_c48, pz_c57, pz_c59, pz_c60, pz_c63, pz_c64, pz_c66, pz_c96, pz_c97, pz_c99, pz_c100, pz_c122, pz_c127, pz_c128, pz_c200, pz_c255, pz_c299, pz_c300, pz_c336, pz_c354, pz_c585, pz_c666, pz_c708, pz_c1000, pz_c1170, pz_c4095, pz_c4096, pz_c4608, pz_c1000000, nI_add, pk_mul, pk_sub, pz_sub, pk_div, pz_or, pz_and, pz_xor, pz_n31, pz_shl, pz_shr, pz_eq, pz_le, pz_lt, pz_eqm, pz_meq, pz_mmeq, pz_lem, pz_mle, pz_ltm, pz_mlt, pz_mmle, pz_mmlt, pz_rd, pz_ck, pz_let, pz_cl, pz_bind, pz_gd, pz_zbb, eI_of, eI_N, pz_leT, pz_leF, pz_ltT, pz_ltF, pz_eqT, pz_eqF, if_pos, if_neg, if_true, if_false, ite_true, ite_false, pz_b0, pz_b1i, pz_bf, pz_bt, Bool.false_eq_true, Bool.true_eq_false, decide_true, decide_false, and_true, and_false, true_and, false_and, and_self, or_true, or_false, true_or, false_or, or_self, not_true_eq_false, not_false_eq_true, ne_eq, reduceIte, eq_self, upd_at]
    rw [rdF]
    rcases Nat.lt_trichotomy (pc (x ^^^ s (30 + i))) (rdF s x i).1 with h | h | h
    · simp (disch := omega) only [pz_c0, pz_c1, pz_c2, pz_c3, pz_c4, pz_c5, pz_c6, pz_c7, pz_c8, pz_c9, pz_c10, pz_c11, pz_c12, pz_c13, pz_c14, pz_c15, pz_c16, pz_c17, pz_c18, pz_c19, pz_c20, pz_c21, pz_c22, pz_c23, pz_c24, pz_c25, pz_c26, pz_c27, pz_c28, pz_c29, pz_c30, pz_c31, pz_c32, pz_c33, pz_c34, pz_c35, pz_c36, pz_c42, pz_c48, pz_c57, pz_c59, pz_c60, pz_c63, pz_c64, pz_c66, pz_c96, pz_c97, pz_c99, pz_c100, pz_c122, pz_c127, pz_c128, pz_c200, pz_c255, pz_c299, pz_c300, pz_c336, pz_c354, pz_c585, pz_c666, pz_c708, pz_c1000, pz_c1170, pz_c4095, pz_c4096, pz_c4608, pz_c1000000, nI_add, pk_mul, pk_sub, pz_sub, pk_div, pz_or, pz_and, pz_xor, pz_n31, pz_shl, pz_shr, pz_eq, pz_le, pz_lt, pz_eqm, pz_meq, pz_mmeq, pz_lem, pz_mle, pz_ltm, pz_mlt, pz_mmle, pz_mmlt, pz_rd, pz_ck, pz_let, pz_cl, pz_bind, pz_gd, pz_zbb, eI_of, eI_N, pz_leT, pz_leF, pz_ltT, pz_ltF, pz_eqT, pz_eqF, if_pos, if_neg, if_true, if_false, ite_true, ite_false, pz_b0, pz_b1i, pz_bf, pz_bt, Bool.false_eq_true, Bool.true_eq_false, decide_true, decide_false, and_true, and_false, true_and, false_and, and_self, or_true, or_false, true_or, false_or, or_self, not_true_eq_false, not_false_eq_true, ne_eq, reduceIte, eq_self, upd_at]
    · simp (disch := omega) only [pz_c0, pz_c1, pz_c2, pz_c3, pz_c4, pz_c5, pz_c6, pz_c7, pz_c8, pz_c9, pz_c10, pz_c11, pz_c12, pz_c13, pz_c14, pz_c15, pz_c16, pz_c17, pz_c18, pz_c19, pz_c20, pz_c21, pz_c22, pz_c23, pz_c24, pz_c25, pz_c26, pz_c27, pz_c28, pz_c29, pz_c30, pz_c31, pz_c32, pz_c33, pz_c34, pz_c35, pz_c36, pz_c42, pz_c48, pz_c57, pz_c59, pz_c60, pz_c63, pz_c64, pz_c66, pz_c96, pz_c97, pz_c99, pz_c100, pz_c122, pz_c127, pz_c128, pz_c200, pz_c255, pz_c299, pz_c300, pz_c336, pz_c354, pz_c585, pz_c666, pz_c708, pz_c1000, pz_c1170, pz_c4095, pz_c4096, pz_c4608, pz_c1000000, nI_add, pk_mul, pk_sub, pz_sub, pk_div, pz_or, pz_and, pz_xor, pz_n31, pz_shl, pz_shr, pz_eq, pz_le, pz_lt, pz_eqm, pz_meq, pz_mmeq, pz_lem, pz_mle, pz_ltm, pz_mlt, pz_mmle, pz_mmlt, pz_rd, pz_ck, pz_let, pz_cl, pz_bind, pz_gd, pz_zbb, eI_of, eI_N, pz_leT, pz_leF, pz_ltT, pz_ltF, pz_eqT, pz_eqF, if_pos, if_neg, if_true, if_false, ite_true, ite_false, pz_b0, pz_b1i, pz_bf, pz_bt, Bool.false_eq_true, Bool.true_eq_false, decide_true, decide_false, and_true, and_false, true_and, false_and, and_self, or_true, or_false, true_or, false_or, or_self, not_true_eq_false, not_false_eq_true, ne_eq, reduceIte, eq_self, upd_at]
    · simp (disch := omega) only [pz_c0, pz_c1, pz_c2, pz_c3, pz_c4, pz_c5, pz_c6, pz_c7, pz_c8, pz_c9, pz_c10, pz_c11, pz_c12, pz_c13, pz_c14, pz_c15, pz_c16, pz_c17, pz_c18, pz_c19, pz_c20, pz_c21, pz_c22, pz_c23, pz_c24, pz_c25, pz_c26, pz_c27, pz_c28, pz_c29, pz_c30, pz_c31, pz_c32, pz_c33, pz_c34, pz_c35, pz_c36, pz_c42, pz_c48, pz_c57, pz_c59, pz_c60, pz_c63, pz_c64, pz_c66, pz_c96, pz_c97, pz_c99, pz_c100, pz_c122, pz_c127, pz_c128, pz_c200, pz_c255, pz_c299, pz_c300, pz_c336, pz_c354, pz_c585, pz_c666, pz_c708, pz_c1000, pz_c1170, pz_c4095, pz_c4096, pz_c4608, pz_c1000000, nI_add, pk_mul, pk_sub, pz_sub, pk_div, pz_or, pz_and, pz_xor, pz_n31, pz_shl, pz_shr, pz_eq, pz_le, pz_lt, pz_eqm, pz_meq, pz_mmeq, pz_lem, pz_mle, pz_ltm, pz_mlt, pz_mmle, pz_mmlt, pz_rd, pz_ck, pz_let, pz_cl, pz_bind, pz_gd, pz_zbb, eI_of, eI_N, pz_leT, pz_leF, pz_ltT, pz_ltF, pz_eqT, pz_eqF, if_pos, if_neg, if_true, if_false, ite_true, ite_false, pz_b0, pz_b1i, pz_bf, pz_bt, Bool.false_eq_true, Bool.true_eq_false, decide_true, decide_false, and_true, and_false, true_and, false_and, and_self, or_true, or_false, true_or, false_or, or_self, not_true_eq_false, not_false_eq_true, ne_eq, reduceIte, eq_self, upd_at]
  · simp (disch := omega) only [X5_readAs_L12, pz_c0, pz_c1, pz_c2, pz_c3, pz_c4, pz_c5, pz_c6, pz_c7, pz_c8, pz_c9, pz_c10, pz_c11, pz_c12, pz_c13, pz_c14, pz_c15, pz_c16, pz_c17, pz_c18, pz_c19, pz_c20, pz_c21, pz_c22, pz_c23, pz_c24, pz_c25, pz_c26, pz_c27, pz_c28, pz_c29, pz_c30, pz_c31, pz_c32, pz_c33, pz_c34, pz_c35, pz_c36, pz_c42, pz_c48, pz_c57, pz_c59, pz_c60, pz_c63, pz_c64, pz_c66, pz_c96, pz_c97, pz_c99, pz_c100, pz_c122, pz_c127, pz_c128, pz_c200, pz_c255, pz_c299, pz_c300, pz_c336, pz_c354, pz_c585, pz_c666, pz_c708, pz_c1000, pz_c1170, pz_c4095, pz_c4096, pz_c4608, pz_c1000000, nI_add, pk_mul, pk_sub, pz_sub, pk_div, pz_or, pz_and, pz_xor, pz_n31, pz_shl, pz_shr, pz_eq, pz_le, pz_lt, pz_eqm, pz_meq, pz_mmeq, pz_lem, pz_mle, pz_ltm, pz_mlt, pz_mmle, pz_mmlt, pz_rd, pz_ck, pz_let, pz_cl, pz_bind, pz_gd, pz_zbb, eI_of, eI_N, pz_leT, pz_leF, pz_ltT, pz_ltF, pz_eqT, pz_eqF, if_pos, if_neg, if_true, if_false, ite_true, ite_false, pz_b0, pz_b1i, pz_bf, pz_bt, Bool.false_eq_true, Bool.true_eq_false, decide_true, decide_false, and_true, and_false, true_and, false_and, and_self, or_true, or_false, true_or, false_or, or_self, not_true_eq_false, not_false_eq_true, ne_eq, reduceIte, eq_self, upd_at]
theorem x8_readAs {st ones : Nat → Int32} (hf : 5000 ≤ fu) (I : Iv s) (R : SR st s) (hO : ∀ k, k < 4096 → ones k = nI (pc k)) {x : Nat} (hx : x < 4096) : f_X8_readAs fu st ones (nI x) = some (eI (rd s x)) := by
  have hd := SR_hd I R
  obtain ⟨-, -, -, i3, -, i5, -, -, -, i30, -⟩ := I
  rw [f_X8_readAs, rd, hd.2.2.2.2.2, pz_c1, pz_c0, nI_add]
  refine pz_up (fun n i => X8_readAs_L14 fu st ones (nI x) n (nI (rdF s x i).1) (eI (rdF s x i).2) (nI i)) (s 3) _ (fun n i hi => ?_) (fun n => ?_) fu 0 (by omega) (by omega)
  · have hq := (rdF_q s x i).1
    have hb := i30 i hi
    have hxx := xor_lt hx hb
    have hp := pc_le (x ^^^ s (30 + i))
    have e1 := R (30 + i) (by omega)
    have e2 := hO _ hxx
    simp (disch := omega) only [X8_readAs_L14, X8_readAs_J66, X8_readAs_J79, hd.2.2.2.1, e1, e2, pz_c0, pz_c1, pz_c2, pz_c3, pz_c4, pz_c5, pz_c6, pz_c7, pz_c8, pz_c9, pz_c10, pz_c11, pz_c12, pz_c13, pz_c14, pz_c15, pz_c16, pz_c17, pz_c18, pz_c19, pz_c20, pz_c21, pz_c22, pz_c23, pz_c24, pz_c25, pz_c26, pz_c27, pz_c28, pz_c29, pz_c30, pz_c31, pz_c32, pz_c33, pz_c34, pz_c35, pz_c36, pz_c42, pz_c48, pz_c57, pz_c59, pz_c60, pz_c63, pz_c64, pz_c66, pz_c96, pz_c97, pz_c99, pz_c100, pz_c122, pz_c127, pz_c128, pz_c200, pz_c255, pz_c299, pz_c300, pz_c336, pz_c354, pz_c585, pz_c666, pz_c708, pz_c1000, pz_c1170, pz_c4095, pz_c4096, pz_c4608, pz_c1000000, nI_add, pk_mul, pk_sub, pz_sub, pk_div, pz_or, pz_and, pz_xor, pz_n31, pz_shl, pz_shr, pz_eq, pz_le, pz_lt, pz_eqm, pz_meq, pz_mmeq, pz_lem, pz_mle, pz_ltm, pz_mlt, pz_mmle, pz_mmlt, pz_rd, pz_ck, pz_let, pz_cl, pz_bind, pz_gd, pz_zbb, eI_of, eI_N, pz_leT, pz_leF, pz_ltT, pz_ltF, pz_eqT, pz_eqF, if_pos, if_neg, if_true, if_false, ite_true, ite_false, pz_b0, pz_b1i, pz_bf, pz_bt, Bool.false_eq_true, Bool.true_eq_false, decide_true, decide_false, and_true, and_false, true_and, false_and, and_self, or_true, or_false, true_or, false_or, or_self, not_true_eq_false, not_false_eq_true, ne_eq, reduceIte, eq_self, upd_at]
    rw [rdF]
    rcases Nat.lt_trichotomy (pc (x ^^^ s (30 + i))) (rdF s x i).1 with h | h | h
    · simp (disch := omega) only [pz_c0, pz_c1, pz_c2, pz_c3, pz_c4, pz_c5, pz_c6, pz_c7, pz_c8, pz_c9, pz_c10, pz_c11, pz_c12, pz_c13, pz_c14, pz_c15, pz_c16, pz_c17, pz_c18, pz_c19, pz_c20, pz_c21, pz_c22, pz_c23, pz_c24, pz_c25, pz_c26, pz_c27, pz_c28, pz_c29, pz_c30, pz_c31, pz_c32, pz_c33, pz_c34, pz_c35, pz_c36, pz_c42, pz_c48, pz_c57, pz_c59, pz_c60, pz_c63, pz_c64, pz_c66, pz_c96, pz_c97, pz_c99, pz_c100, pz_c122, pz_c127, pz_c128, pz_c200, pz_c255, pz_c299, pz_c300, pz_c336, pz_c354, pz_c585, pz_c666, pz_c708, pz_c1000, pz_c1170, pz_c4095, pz_c4096, pz_c4608, pz_c1000000, nI_add, pk_mul, pk_sub, pz_sub, pk_div, pz_or, pz_and, pz_xor, pz_n31, pz_shl, pz_shr, pz_eq, pz_le, pz_lt, pz_eqm, pz_meq, pz_mmeq, pz_lem, pz_mle, pz_ltm, pz_mlt, pz_mmle, pz_mmlt, pz_rd, pz_ck, pz_let, pz_cl, pz_bind, pz_gd, pz_zbb, eI_of, eI_N, pz_leT, pz_leF, pz_ltT, pz_ltF, pz_eqT, pz_eqF, if_pos, if_neg, if_true, if_false, ite_true, ite_false, pz_b0, pz_b1i, pz_bf, pz_bt, Bool.false_eq_true, Bool.true_eq_false, decide_true, decide_false, and_true, and_false, true_and, false_and, and_self, or_true, or_false, true_or, false_or, or_self, not_true_eq_false, not_false_eq_true, ne_eq, reduceIte, eq_self, upd_at]
    · simp (disch := omega) only [pz_c0, pz_c1, pz_c2, pz_c3, pz_c4, pz_c5, pz_c6, pz_c7, pz_c8, pz_c9, pz_c10, pz_c11, pz_c12, pz_c13, pz_c14, pz_c15, pz_c16, pz_c17, pz_c18, pz_c19, pz_c20, pz_c21, pz_c22, pz_c23, pz_c24, pz_c25, pz_c26, pz_c27, pz_c28, pz_c29, pz_c30, pz_c31, pz_c32, pz_c33, pz_c34, pz_c35, pz_c36, pz_c42, pz_c48, pz_c57, pz_c59, pz_c60, pz_c63, pz_c64, pz_c66, pz_c96, pz_c97, pz_c99, pz_c100, pz_c122, pz_c127, pz_c128, pz_c200, pz_c255, pz_c299, pz_c300, pz_c336, pz_c354, pz_c585, pz_c666, pz_c708, pz_c1000, pz_c1170, pz_c4095, pz_c4096, pz_c4608, pz_c1000000, nI_add, pk_mul, pk_sub, pz_sub, pk_div, pz_or, pz_and, pz_xor, pz_n31, pz_shl, pz_shr, pz_eq, pz_le, pz_lt, pz_eqm, pz_meq, pz_mmeq, pz_lem, pz_mle, pz_ltm, pz_mlt, pz_mmle, pz_mmlt, pz_rd, pz_ck, pz_let, pz_cl, pz_bind, pz_gd, pz_zbb, eI_of, eI_N, pz_leT, pz_leF, pz_ltT, pz_ltF, pz_eqT, pz_eqF, if_pos, if_neg, if_true, if_false, ite_true, ite_false, pz_b0, pz_b1i, pz_bf, pz_bt, Bool.false_eq_true, Bool.true_eq_false, decide_true, decide_false, and_true, and_false, true_and, false_and, and_self, or_true, or_false, true_or, false_or, or_self, not_true_eq_false, not_false_eq_true, ne_eq, reduceIte, eq_self, upd_at]
    · simp (disch := omega) only [pz_c0, pz_c1, pz_c2, pz_c3, pz_c4, pz_c5, pz_c6, pz_c7, pz_c8, pz_c9, pz_c10, pz_c11, pz_c12, pz_c13, pz_c14, pz_c15, pz_c16, pz_c17, pz_c18, pz_c19, pz_c20, pz_c21, pz_c22, pz_c23, pz_c24, pz_c25, pz_c26, pz_c27, pz_c28, pz_c29, pz_c30, pz_c31, pz_c32, pz_c33, pz_c34, pz_c35, pz_c36, pz_c42, pz_c48, pz_c57, pz_c59, pz_c60, pz_c63, pz_c64, pz_c66, pz_c96, pz_c97, pz_c99, pz_c100, pz_c122, pz_c127, pz_c128, pz_c200, pz_c255, pz_c299, pz_c300, pz_c336, pz_c354, pz_c585, pz_c666, pz_c708, pz_c1000, pz_c1170, pz_c4095, pz_c4096, pz_c4608, pz_c1000000, nI_add, pk_mul, pk_sub, pz_sub, pk_div, pz_or, pz_and, pz_xor, pz_n31, pz_shl, pz_shr, pz_eq, pz_le, pz_lt, pz_eqm, pz_meq, pz_mmeq, pz_lem, pz_mle, pz_ltm, pz_mlt, pz_mmle, pz_mmlt, pz_rd, pz_ck, pz_let, pz_cl, pz_bind, pz_gd, pz_zbb, eI_of, eI_N, pz_leT, pz_leF, pz_ltT, pz_ltF, pz_eqT, pz_eqF, if_pos, if_neg, if_true, if_false, ite_true, ite_false, pz_b0, pz_b1i, pz_bf, pz_bt, Bool.false_eq_true, Bool.true_eq_false, decide_true, decide_false, and_true, and_false, true_and, false_and, and_self, or_true, or_false, true_or, false_or, or_self, not_true_eq_false, not_false_eq_true, ne_eq, reduceIte, eq_self, upd_at]
  · simp (disch := omega) only [X8_readAs_L14, hd.2.2.2.1, pz_c0, pz_c1, pz_c2, pz_c3, pz_c4, pz_c5, pz_c6, pz_c7, pz_c8, pz_c9, pz_c10, pz_c11, pz_c12, pz_c13, pz_c14, pz_c15, pz_c16, pz_c17, pz_c18, pz_c19, pz_c20, pz_c21, pz_c22, pz_c23, pz_c24, pz_c25, pz_c26, pz_c27, pz_c28, pz_c29, pz_c30, pz_c31, pz_c32, pz_c33, pz_c34, pz_c35, pz_c36, pz_c42, pz_c48, pz_c57, pz_c59, pz_c60, pz_c63, pz_c64, pz_c66, pz_c96, pz_c97, pz_c99, pz_c100, pz_c122, pz_c127, pz_c128, pz_c200, pz_c255, pz_c299, pz_c300, pz_c336, pz_c354, pz_c585, pz_c666, pz_c708, pz_c1000, pz_c1170, pz_c4095, pz_c4096, pz_c4608, pz_c1000000, nI_add, pk_mul, pk_sub, pz_sub, pk_div, pz_or, pz_and, pz_xor, pz_n31, pz_shl, pz_shr, pz_eq, pz_le, pz_lt, pz_eqm, pz_meq, pz_mmeq, pz_lem, pz_mle, pz_ltm, pz_mlt, pz_mmle, pz_mmlt, pz_rd, pz_ck, pz_let, pz_cl, pz_bind, pz_gd, pz_zbb, eI_of, eI_N, pz_leT, pz_leF, pz_ltT, pz_ltF, pz_eqT, pz_eqF, if_pos, if_neg, if_true, if_false, ite_true, ite_false, pz_b0, pz_b1i, pz_bf, pz_bt, Bool.false_eq_true, Bool.true_eq_false, decide_true, decide_false, and_true, and_false, true_and, false_and, and_self, or_true, or_false, true_or, false_or, or_self, not_true_eq_false, not_false_eq_true, ne_eq, reduceIte, eq_self, upd_at]
end
