/-! THE PLACES OF A WORD, in their order: (line, columns of the three boxes) -/
abbrev PL : Type := Nat × Nat × Nat × Nat
def pcol (p : PL) (i : Nat) : Nat := if i = 0 then p.2.1 else if i = 1 then p.2.2.1 else p.2.2.2
def pnx (W n : Nat) (p : PL) : PL :=
  if n = 1 then (if p.2.1 + 4 ≤ W then (p.1, p.2.1 + 1, 4, 8) else (p.1 + 1, 0, 4, 8))
  else if n = 2 then (if p.2.2.1 + 4 ≤ W then (p.1, p.2.1, p.2.2.1 + 1, 8) else if p.2.1 + 8 ≤ W then (p.1, p.2.1 + 1, p.2.1 + 5, 8) else (p.1 + 1, 0, 4, 8))
  else (if p.2.2.2 + 4 ≤ W then (p.1, p.2.1, p.2.2.1, p.2.2.2 + 1) else if p.2.2.1 + 8 ≤ W then (p.1, p.2.1, p.2.2.1 + 1, p.2.2.1 + 5) else if p.2.1 + 12 ≤ W then (p.1, p.2.1 + 1, p.2.1 + 5, p.2.1 + 9) else (p.1 + 1, 0, 4, 8))
def plk (W n : Nat) : Nat → PL
  | 0 => (0, 0, 4, 8)
  | k + 1 => pnx W n (plk W n k)
def PN (W H n : Nat) : Nat := (H - 3) * (if n = 1 then W - 2 else if n = 2 then (W - 6) * (W - 5) / 2 else (W - 10) * (W - 9) * (W - 8) / 6)
def pok (W H n : Nat) (p : PL) : Prop := p.1 + 4 ≤ H ∧ (if n = 1 then p.2.1 + 3 ≤ W else if n = 2 then p.2.1 + 4 ≤ p.2.2.1 ∧ p.2.2.1 + 3 ≤ W else p.2.1 + 4 ≤ p.2.2.1 ∧ p.2.2.1 + 4 ≤ p.2.2.2 ∧ p.2.2.2 + 3 ≤ W)
def pokB (W H n : Nat) (p : PL) : Bool := decide (p.1 + 4 ≤ H) && (if n = 1 then decide (p.2.1 + 3 ≤ W) else if n = 2 then decide (p.2.1 + 4 ≤ p.2.2.1) && decide (p.2.2.1 + 3 ≤ W) else decide (p.2.1 + 4 ≤ p.2.2.1) && (decide (p.2.2.1 + 4 ≤ p.2.2.2) && decide (p.2.2.2 + 3 ≤ W)))
theorem pokB_iff {W H n : Nat} {p : PL} : pokB W H n p = true ↔ pok W H n p := by
  unfold pokB pok
  by_cases h1 : n = 1
  · simp [h1]
  · by_cases h2 : n = 2
    · simp [h2]
    · simp [h1, h2]
def plB (W H n : Nat) : Bool := (decide (PN W H n ≤ 42) && (List.range 43).all (fun k => !decide (k ≤ PN W H n) || (decide ((plk W n k).1 ≤ 4) && (decide ((plk W n k).2.1 ≤ 20) && (decide ((plk W n k).2.2.1 ≤ 20) && decide ((plk W n k).2.2.2 ≤ 20)))))) && (List.range 43).all (fun k => (!decide (k < PN W H n) || pokB W H n (plk W n k)) && (!decide (k = PN W H n) || (if k = 0 then decide (W < 4 * n - 1) else decide ((plk W n k).1 + 3 = H))))
set_option maxRecDepth 100000 in
theorem pl_A : (List.range 13).all (fun W => (List.range 6).all (fun H => (List.range 4).all (fun n => !decide (3 ≤ W ∧ 4 ≤ H ∧ 1 ≤ n) || plB W H n))) = true := by decide +kernel
theorem pl_B (W : Nat) (hW : W < 13) (H : Nat) (hH : H < 6) (n : Nat) (hn : n < 4) (h1 : 3 ≤ W) (h2 : 4 ≤ H) (h3 : 1 ≤ n) : plB W H n = true := by
  have h := List.all_eq_true.mp (List.all_eq_true.mp (List.all_eq_true.mp pl_A W (List.mem_range.mpr hW)) H (List.mem_range.mpr hH)) n (List.mem_range.mpr hn)
  simpa [h1, h2, h3] using h
theorem pl_le {W H n : Nat} (hW : 3 ≤ W ∧ W ≤ 12) (hH : 4 ≤ H ∧ H ≤ 5) (hn : 1 ≤ n ∧ n ≤ 3) : PN W H n ≤ 42 := by
  have h := pl_B W (by omega) H (by omega) n (by omega) hW.1 hH.1 hn.1
  rw [plB, Bool.and_eq_true, Bool.and_eq_true] at h
  exact of_decide_eq_true h.1.1
theorem pl_bd {W H n k : Nat} (hW : 3 ≤ W ∧ W ≤ 12) (hH : 4 ≤ H ∧ H ≤ 5) (hn : 1 ≤ n ∧ n ≤ 3) (hk : k ≤ PN W H n) : (plk W n k).1 ≤ 4 ∧ ∀ i, pcol (plk W n k) i ≤ 20 := by
  have h0 := pl_le hW hH hn
  have h := pl_B W (by omega) H (by omega) n (by omega) hW.1 hH.1 hn.1
  rw [plB, Bool.and_eq_true, Bool.and_eq_true, List.all_eq_true] at h
  have h2 := h.1.2 k (List.mem_range.mpr (by omega))
  simp only [hk, decide_true, Bool.not_true, Bool.false_or, Bool.and_eq_true, decide_eq_true_eq] at h2
  refine ⟨h2.1, fun i => ?_⟩
  unfold pcol
  split
  · exact h2.2.1
  · split
    · exact h2.2.2.1
    · exact h2.2.2.2
theorem pl_at {W H n k : Nat} (hW : 3 ≤ W ∧ W ≤ 12) (hH : 4 ≤ H ∧ H ≤ 5) (hn : 1 ≤ n ∧ n ≤ 3) (hk : k < 43) : (k < PN W H n → pok W H n (plk W n k)) ∧ (k = PN W H n → if k = 0 then W < 4 * n - 1 else (plk W n k).1 + 3 = H) := by
  have h := pl_B W (by omega) H (by omega) n (by omega) hW.1 hH.1 hn.1
  rw [plB, Bool.and_eq_true, List.all_eq_true] at h
  have h2 := h.2 k (List.mem_range.mpr hk)
  rw [Bool.and_eq_true] at h2
  constructor
  · intro h3
    have h4 := h2.1
    simp only [h3, decide_true, Bool.not_true, Bool.false_or] at h4
    exact pokB_iff.mp h4
  · intro h3
    have h4 := h2.2
    simp only [h3, decide_true, Bool.not_true, Bool.false_or] at h4
    rw [← h3] at h4
    split at h4
    · rename_i h5
      rw [if_pos h5]; exact of_decide_eq_true h4
    · rename_i h5
      rw [if_neg h5]; exact of_decide_eq_true h4
def pinB (W H n : Nat) : Bool := (List.range 2).all (fun y => (List.range 10).all (fun a => if n = 1 then !pokB W H n (y, a, 4, 8) || (List.range (PN W H n)).any (fun k => plk W n k == (y, a, 4, 8)) else (List.range 10).all (fun b => if n = 2 then !pokB W H n (y, a, b, 8) || (List.range (PN W H n)).any (fun k => plk W n k == (y, a, b, 8)) else (List.range 10).all (fun c => !pokB W H n (y, a, b, c) || (List.range (PN W H n)).any (fun k => plk W n k == (y, a, b, c))))))
set_option maxRecDepth 100000 in
theorem pin_A : (List.range 13).all (fun W => (List.range 6).all (fun H => (List.range 4).all (fun n => !decide (3 ≤ W ∧ 4 ≤ H ∧ 1 ≤ n) || pinB W H n))) = true := by decide +kernel
theorem pin_B (W : Nat) (hW : W < 13) (H : Nat) (hH : H < 6) (n : Nat) (hn : n < 4) (h1 : 3 ≤ W) (h2 : 4 ≤ H) (h3 : 1 ≤ n) : pinB W H n = true := by
  have h := List.all_eq_true.mp (List.all_eq_true.mp (List.all_eq_true.mp pin_A W (List.mem_range.mpr hW)) H (List.mem_range.mpr hH)) n (List.mem_range.mpr hn)
  simpa [h1, h2, h3] using h
theorem pl_in {W H n : Nat} (hW : 3 ≤ W ∧ W ≤ 12) (hH : 4 ≤ H ∧ H ≤ 5) (hn : 1 ≤ n ∧ n ≤ 3) {p : PL} (h : pok W H n p) (h1 : n = 1 → p.2.2.1 = 4) (h2 : n ≤ 2 → p.2.2.2 = 8) : ∃ k, k < PN W H n ∧ plk W n k = p := by
  have hB := pin_B W (by omega) H (by omega) n (by omega) hW.1 hH.1 hn.1
  obtain ⟨y, a, b, c⟩ := p
  have hB2 := pokB_iff.mpr h
  unfold pok at h
  simp only at h h1 h2
  rw [pinB, List.all_eq_true] at hB
  have g := hB y (List.mem_range.mpr (by omega))
  rw [List.all_eq_true] at g
  by_cases n1 : n = 1
  · subst n1
    rw [if_pos rfl] at h
    have g2 := g a (List.mem_range.mpr (by omega))
    obtain rfl := h1 rfl
    obtain rfl := h2 (by omega)
    rw [if_pos rfl, hB2, Bool.not_true, Bool.false_or, List.any_eq_true] at g2
    obtain ⟨k, hk, e⟩ := g2
    exact ⟨k, List.mem_range.mp hk, by simpa using e⟩
  · rw [if_neg n1] at h
    by_cases n2 : n = 2
    · subst n2
      rw [if_pos rfl] at h
      have g2 := g a (List.mem_range.mpr (by omega))
      rw [if_neg n1, List.all_eq_true] at g2
      have g3 := g2 b (List.mem_range.mpr (by omega))
      obtain rfl := h2 (by omega)
      rw [if_pos rfl, hB2, Bool.not_true, Bool.false_or, List.any_eq_true] at g3
      obtain ⟨k, hk, e⟩ := g3
      exact ⟨k, List.mem_range.mp hk, by simpa using e⟩
    · rw [if_neg n2] at h
      have g2 := g a (List.mem_range.mpr (by omega))
      rw [if_neg n1, List.all_eq_true] at g2
      have g3 := g2 b (List.mem_range.mpr (by omega))
      rw [if_neg n2, List.all_eq_true] at g3
      have g4 := g3 c (List.mem_range.mpr (by omega))
      rw [hB2, Bool.not_true, Bool.false_or, List.any_eq_true] at g4
      obtain ⟨k, hk, e⟩ := g4
      exact ⟨k, List.mem_range.mp hk, by simpa using e⟩
def packF (cols : Nat → Int32) (f n c : Nat) : Nat → Int32 := fun j => if f ≤ j ∧ j < n then nI (c + 4 * (j - f)) else cols j
def CR (cols : Nat → Int32) (n : Nat) (p : PL) : Prop := ∀ i, i < n → cols i = nI (pcol p i)
section
variable {fu : Nat} {cols : Nat → Int32} {W H n : Nat} {p : PL}
theorem x3_packFrom {f c : Nat} (hf : 5000 ≤ fu) (hn : n ≤ 3) (hfn : f ≤ n) (hc : c < 100) : f_X3_packFrom fu (nI n) cols (nI f) (nI c) = some (packF cols f n c) := by
  rw [f_X3_packFrom]
  have main := pz_up (fun m i => X3_packFrom_L2 fu (nI n) (nI f) (nI c) m (packF cols f (f + i) c) (nI (f + i))) (n - f) (some (packF cols f n c)) (fun m i hi => ?_) (fun m => ?_) fu 0 (by omega) (by omega)
  · have e : packF cols f (f + 0) c = cols := by
      funext j
      rw [packF, if_neg (by omega)]
    rw [e] at main
    exact main
  · simp (disch := omega) only [X3_packFrom_L2, pz_c0, pz_c1, pz_c2, pz_c3, pz_c4, pz_c5, pz_c6, pz_c7, pz_c8, pz_c9, pz_c10, pz_c11, pz_c12, pz_c13, pz_c14, pz_c15, pz_c16, pz_c17, pz_c18, pz_c19, pz_c20, pz_c21, pz_c22, pz_c23, pz_c24, pz_c25, pz_c26, pz_c27, pz_c28, pz_c29, pz_c30, pz_c31, pz_c32, pz_c33, pz_c34, pz_c35, pz_c36, pz_c42, pz_c48, pz_c57, pz_c59, pz_c60, pz_c63, pz_c64, pz_c66, pz_c96, pz_c97, pz_c99, pz_c100, pz_c122, pz_c127, pz_c128, pz_c200, pz_c255, pz_c299, pz_c300, pz_c336, pz_c354, pz_c585, pz_c666, pz_c708, pz_c1000, pz_c1170, pz_c4095, pz_c4096, pz_c4608, pz_c1000000, nI_add, pk_mul, pk_sub, pz_sub, pk_div, pz_or, pz_and, pz_xor, pz_n31, pz_shl, pz_shr, pz_eq, pz_le, pz_lt, pz_eqm, pz_meq, pz_mmeq, pz_lem, pz_mle, pz_ltm, pz_mlt, pz_mmle, pz_mmlt, pz_rd, pz_ck, pz_let, pz_cl, pz_bind, pz_gd, pz_zbb, eI_of, eI_N, pz_leT, pz_leF, pz_ltT, pz_ltF, pz_eqT, pz_eqF, if_pos, if_neg, if_true, if_false, ite_true, ite_false, pz_b0, pz_b1i, pz_bf, pz_bt, Bool.false_eq_true, Bool.true_eq_false, decide_true, decide_false, and_true, and_false, true_and, false_and, and_self, or_true, or_false, true_or, false_or, or_self, not_true_eq_false, not_false_eq_true, ne_eq, reduceIte, eq_self, upd_at]
    rw [← Nat.add_assoc]
    congr 1
    funext j
    unfold upd packF
    by_cases h : j = f + i
    · subst h
      rw [if_pos rfl, if_pos (by omega)]
    · rw [if_neg h]
      by_cases h2 : f ≤ j ∧ j < f + i
      · rw [if_pos (by omega), if_pos (by omega)]
      · rw [if_neg (by omega), if_neg (by omega)]
  · rw [show f + (n - f) = n by omega]
    simp (disch := omega) only [X3_packFrom_L2, pz_c0, pz_c1, pz_c2, pz_c3, pz_c4, pz_c5, pz_c6, pz_c7, pz_c8, pz_c9, pz_c10, pz_c11, pz_c12, pz_c13, pz_c14, pz_c15, pz_c16, pz_c17, pz_c18, pz_c19, pz_c20, pz_c21, pz_c22, pz_c23, pz_c24, pz_c25, pz_c26, pz_c27, pz_c28, pz_c29, pz_c30, pz_c31, pz_c32, pz_c33, pz_c34, pz_c35, pz_c36, pz_c42, pz_c48, pz_c57, pz_c59, pz_c60, pz_c63, pz_c64, pz_c66, pz_c96, pz_c97, pz_c99, pz_c100, pz_c122, pz_c127, pz_c128, pz_c200, pz_c255, pz_c299, pz_c300, pz_c336, pz_c354, pz_c585, pz_c666, pz_c708, pz_c1000, pz_c1170, pz_c4095, pz_c4096, pz_c4608, pz_c1000000, nI_add, pk_mul, pk_sub, pz_sub, pk_div, pz_or, pz_and, pz_xor, pz_n31, pz_shl, pz_shr, pz_eq, pz_le, pz_lt, pz_eqm, pz_meq, pz_mmeq, pz_lem, pz_mle, pz_ltm, pz_mlt, pz_mmle, pz_mmlt, pz_rd, pz_ck, pz_let, pz_cl, pz_bind, pz_gd, pz_zbb, eI_of, eI_N, pz_leT, pz_leF, pz_ltT, pz_ltF, pz_eqT, pz_eqF, if_pos, if_neg, if_true, if_false, ite_true, ite_false, pz_b0, pz_b1i, pz_bf, pz_bt, Bool.false_eq_true, Bool.true_eq_false, decide_true, decide_false, and_true, and_false, true_and, false_and, and_self, or_true, or_false, true_or, false_or, or_self, not_true_eq_false, not_false_eq_true, ne_eq, reduceIte, eq_self, upd_at]
theorem pn_pos (hW : 3 ≤ W ∧ W ≤ 12) (hH : 4 ≤ H ∧ H ≤ 5) (hn : 1 ≤ n ∧ n ≤ 3) : 0 < PN W H n ↔ 4 * n ≤ W + 1 := by
  have h := pl_at hW hH hn (k := 0) (by omega)
  constructor
  · intro h2
    have h3 := (h.1 h2).2
    simp only [plk] at h3
    split at h3
    · omega
    · split at h3 <;> omega
  · intro h2
    rcases Nat.eq_zero_or_pos (PN W H n) with e | e
    · have h3 := h.2 e.symm
      rw [if_pos rfl] at h3
      omega
    · exact e
theorem x3_begin {y b lc lt : Int32} (hf : 5000 ≤ fu) (hW : 3 ≤ W ∧ W ≤ 12) (hH : 4 ≤ H ∧ H ≤ 5) (hn : 1 ≤ n ∧ n ≤ 3) : ∃ c2, CR c2 n (0, 0, 4, 8) ∧ f_X3_begin fu y b lc lt cols (nI W) (nI H) (nI n) = some (bI (decide (0 < PN W H n)), nI 0, nI n, nI (W - 3), nI (H - 4), c2) := by
  have hp := pn_pos hW hH hn
  refine ⟨packF cols 0 n 0, ?_, ?_⟩
  rotate_left
  · by_cases h : 0 < PN W H n
    · rw [decide_eq_true h]
      have h2 := hp.mp h
      simp (disch := omega) only [f_X3_begin, f_X3_mostToRight, x3_packFrom hf, pz_c0, pz_c1, pz_c2, pz_c3, pz_c4, pz_c5, pz_c6, pz_c7, pz_c8, pz_c9, pz_c10, pz_c11, pz_c12, pz_c13, pz_c14, pz_c15, pz_c16, pz_c17, pz_c18, pz_c19, pz_c20, pz_c21, pz_c22, pz_c23, pz_c24, pz_c25, pz_c26, pz_c27, pz_c28, pz_c29, pz_c30, pz_c31, pz_c32, pz_c33, pz_c34, pz_c35, pz_c36, pz_c42, pz_c48, pz_c57, pz_c59, pz_c60, pz_c63, pz_c64, pz_c66, pz_c96, pz_c97, pz_c99, pz_c100, pz_c122, pz_c127, pz_c128, pz_c200, pz_c255, pz_c299, pz_c300, pz_c336, pz_c354, pz_c585, pz_c666, pz_c708, pz_c1000, pz_c1170, pz_c4095, pz_c4096, pz_c4608, pz_c1000000, nI_add, pk_mul, pk_sub, pz_sub, pk_div, pz_or, pz_and, pz_xor, pz_n31, pz_shl, pz_shr, pz_eq, pz_le, pz_lt, pz_eqm, pz_meq, pz_mmeq, pz_lem, pz_mle, pz_ltm, pz_mlt, pz_mmle, pz_mmlt, pz_rd, pz_ck, pz_let, pz_cl, pz_bind, pz_gd, pz_zbb, eI_of, eI_N, pz_leT, pz_leF, pz_ltT, pz_ltF, pz_eqT, pz_eqF, if_pos, if_neg, if_true, if_false, ite_true, ite_false, pz_b0, pz_b1i, pz_bf, pz_bt, Bool.false_eq_true, Bool.true_eq_false, decide_true, decide_false, and_true, and_false, true_and, false_and, and_self, or_true, or_false, true_or, false_or, or_self, not_true_eq_false, not_false_eq_true, ne_eq, reduceIte, eq_self, upd_at]
    · rw [decide_eq_false h]
      have h2 : ¬ 4 * n ≤ W + 1 := fun h3 => h (hp.mpr h3)
      have h3 : nI (W - 3) - nI (4 * (n - 1 - 0)) < nI 0 := by
        rw [← pz_c0]
        exact pk_sneg (by omega) (by omega)
      simp (disch := omega) only [f_X3_begin, f_X3_mostToRight, x3_packFrom hf, h3, pz_c0, pz_c1, pz_c2, pz_c3, pz_c4, pz_c5, pz_c6, pz_c7, pz_c8, pz_c9, pz_c10, pz_c11, pz_c12, pz_c13, pz_c14, pz_c15, pz_c16, pz_c17, pz_c18, pz_c19, pz_c20, pz_c21, pz_c22, pz_c23, pz_c24, pz_c25, pz_c26, pz_c27, pz_c28, pz_c29, pz_c30, pz_c31, pz_c32, pz_c33, pz_c34, pz_c35, pz_c36, pz_c42, pz_c48, pz_c57, pz_c59, pz_c60, pz_c63, pz_c64, pz_c66, pz_c96, pz_c97, pz_c99, pz_c100, pz_c122, pz_c127, pz_c128, pz_c200, pz_c255, pz_c299, pz_c300, pz_c336, pz_c354, pz_c585, pz_c666, pz_c708, pz_c1000, pz_c1170, pz_c4095, pz_c4096, pz_c4608, pz_c1000000, nI_add, pk_mul, pk_sub, pz_sub, pk_div, pz_or, pz_and, pz_xor, pz_n31, pz_shl, pz_shr, pz_eq, pz_le, pz_lt, pz_eqm, pz_meq, pz_mmeq, pz_lem, pz_mle, pz_ltm, pz_mlt, pz_mmle, pz_mmlt, pz_rd, pz_ck, pz_let, pz_cl, pz_bind, pz_gd, pz_zbb, eI_of, eI_N, pz_leT, pz_leF, pz_ltT, pz_ltF, pz_eqT, pz_eqF, if_pos, if_neg, if_true, if_false, ite_true, ite_false, pz_b0, pz_b1i, pz_bf, pz_bt, Bool.false_eq_true, Bool.true_eq_false, decide_true, decide_false, and_true, and_false, true_and, false_and, and_self, or_true, or_false, true_or, false_or, or_self, not_true_eq_false, not_false_eq_true, ne_eq, reduceIte, eq_self, upd_at]
  · intro i hi
    rw [packF, if_pos (by omega)]
    rcases (show i = 0 ∨ i = 1 ∨ i = 2 by omega) with e | e | e <;> subst e <;> rfl
theorem go_hit {k i : Nat} {lt y : Int32} (hf : 5000 ≤ fu) (hW : 3 ≤ W ∧ W ≤ 12) (hn : n ≤ 3) (hi : i < n) {c : Nat} (hc : cols i = nI c) (h : c + 4 * (n - i) ≤ W) : X3_goOn_L7 fu y (nI n) (nI (W - 3)) lt cols (k + 1) (nI i) = some (nI 1, y, packF cols i n (c + 1)) := by
  rw [X3_goOn_L7]
  generalize X3_goOn_L7 fu y (nI n) (nI (W - 3)) lt cols k = rec
  simp (disch := omega) only [f_X3_mostToRight, x3_packFrom hf, hc, pz_c0, pz_c1, pz_c2, pz_c3, pz_c4, pz_c5, pz_c6, pz_c7, pz_c8, pz_c9, pz_c10, pz_c11, pz_c12, pz_c13, pz_c14, pz_c15, pz_c16, pz_c17, pz_c18, pz_c19, pz_c20, pz_c21, pz_c22, pz_c23, pz_c24, pz_c25, pz_c26, pz_c27, pz_c28, pz_c29, pz_c30, pz_c31, pz_c32, pz_c33, pz_c34, pz_c35, pz_c36, pz_c42, pz_c48, pz_c57, pz_c59, pz_c60, pz_c63, pz_c64, pz_c66, pz_c96, pz_c97, pz_c99, pz_c100, pz_c122, pz_c127, pz_c128, pz_c200, pz_c255, pz_c299, pz_c300, pz_c336, pz_c354, pz_c585, pz_c666, pz_c708, pz_c1000, pz_c1170, pz_c4095, pz_c4096, pz_c4608, pz_c1000000, nI_add, pk_mul, pk_sub, pz_sub, pk_div, pz_or, pz_and, pz_xor, pz_n31, pz_shl, pz_shr, pz_eq, pz_le, pz_lt, pz_eqm, pz_meq, pz_mmeq, pz_lem, pz_mle, pz_ltm, pz_mlt, pz_mmle, pz_mmlt, pz_rd, pz_ck, pz_let, pz_cl, pz_bind, pz_gd, pz_zbb, eI_of, eI_N, pz_leT, pz_leF, pz_ltT, pz_ltF, pz_eqT, pz_eqF, if_pos, if_neg, if_true, if_false, ite_true, ite_false, pz_b0, pz_b1i, pz_bf, pz_bt, Bool.false_eq_true, Bool.true_eq_false, decide_true, decide_false, and_true, and_false, true_and, false_and, and_self, or_true, or_false, true_or, false_or, or_self, not_true_eq_false, not_false_eq_true, ne_eq, reduceIte, eq_self, upd_at]
theorem go_miss {k i : Nat} {lt y : Int32} (hW : 3 ≤ W ∧ W ≤ 12) (hn : n ≤ 3) (hi : i < n) {c : Nat} (hc : cols i = nI c) (h3 : 4 * n ≤ W + 1) (h2 : c < 100) (h : W < c + 4 * (n - i)) : X3_goOn_L7 fu y (nI n) (nI (W - 3)) lt cols (k + 1) (nI i) = X3_goOn_L7 fu y (nI n) (nI (W - 3)) lt cols k (nI i + -1) := by
  rw [X3_goOn_L7]
  generalize X3_goOn_L7 fu y (nI n) (nI (W - 3)) lt cols k = rec
  simp (disch := omega) only [f_X3_mostToRight, hc, pz_c0, pz_c1, pz_c2, pz_c3, pz_c4, pz_c5, pz_c6, pz_c7, pz_c8, pz_c9, pz_c10, pz_c11, pz_c12, pz_c13, pz_c14, pz_c15, pz_c16, pz_c17, pz_c18, pz_c19, pz_c20, pz_c21, pz_c22, pz_c23, pz_c24, pz_c25, pz_c26, pz_c27, pz_c28, pz_c29, pz_c30, pz_c31, pz_c32, pz_c33, pz_c34, pz_c35, pz_c36, pz_c42, pz_c48, pz_c57, pz_c59, pz_c60, pz_c63, pz_c64, pz_c66, pz_c96, pz_c97, pz_c99, pz_c100, pz_c122, pz_c127, pz_c128, pz_c200, pz_c255, pz_c299, pz_c300, pz_c336, pz_c354, pz_c585, pz_c666, pz_c708, pz_c1000, pz_c1170, pz_c4095, pz_c4096, pz_c4608, pz_c1000000, nI_add, pk_mul, pk_sub, pz_sub, pk_div, pz_or, pz_and, pz_xor, pz_n31, pz_shl, pz_shr, pz_eq, pz_le, pz_lt, pz_eqm, pz_meq, pz_mmeq, pz_lem, pz_mle, pz_ltm, pz_mlt, pz_mmle, pz_mmlt, pz_rd, pz_ck, pz_let, pz_cl, pz_bind, pz_gd, pz_zbb, eI_of, eI_N, pz_leT, pz_leF, pz_ltT, pz_ltF, pz_eqT, pz_eqF, if_pos, if_neg, if_true, if_false, ite_true, ite_false, pz_b0, pz_b1i, pz_bf, pz_bt, Bool.false_eq_true, Bool.true_eq_false, decide_true, decide_false, and_true, and_false, true_and, false_and, and_self, or_true, or_false, true_or, false_or, or_self, not_true_eq_false, not_false_eq_true, ne_eq, reduceIte, eq_self, upd_at]
theorem go_end {k y : Nat} (hf : 5000 ≤ fu) (hn : n ≤ 3) (hH : 4 ≤ H ∧ H ≤ 5) (hy : y < 10) {lc : Int32} : X3_goOn_L7 fu (nI y) (nI n) lc (nI (H - 4)) cols (k + 1) (-nI 1) = some (bI (decide (y + 1 + 4 ≤ H)), nI (y + 1), packF cols 0 n 0) := by
  have hk := x3_packFrom (cols := cols) (n := n) (f := 0) (c := 0) hf hn (by omega) (by omega)
  rw [X3_goOn_L7, if_pos (show -nI 1 < (0 : Int32) by decide +kernel), show f_X3_packFrom fu (nI n) cols 0 0 = some (packF cols 0 n 0) from hk, pz_bind, show nI y + 1 = nI (y + 1) from nI_1 y]
  have e := pz_lt (show H - 4 < 2 ^ 31 by omega) (show y + 1 < 2 ^ 31 by omega)
  by_cases h2 : y + 1 + 4 ≤ H
  · rw [if_neg (by rw [e]; omega), decide_eq_true h2]; rfl
  · rw [if_pos (by rw [e]; omega), decide_eq_false h2]; rfl
theorem x3_goOn (hf : 5000 ≤ fu) (hW : 3 ≤ W ∧ W ≤ 12) (hH : 4 ≤ H ∧ H ≤ 5) (hn : 1 ≤ n ∧ n ≤ 3) (hp : pok W H n p) (hC : CR cols n p) : ∃ c2, CR c2 n (pnx W n p) ∧ f_X3_goOn fu (nI p.1) (nI n) (nI (W - 3)) (nI (H - 4)) cols = some (bI (decide ((pnx W n p).1 + 4 ≤ H)), nI (pnx W n p).1, c2) := by
  obtain ⟨m, hm⟩ : ∃ m, fu = m + 5 := ⟨fu - 5, by omega⟩
  obtain ⟨hp1, hp2⟩ := hp
  have m1 : ∀ i : Nat, nI (i + 1) + -1 = nI i := pk_m1
  have m0 : nI 0 + -1 = -nI 1 := by decide +kernel
  have b1 : bI (decide (p.1 + 4 ≤ H)) = nI 1 := by rw [decide_eq_true hp1]; rfl
  rw [f_X3_goOn]
  rcases (show n = 1 ∨ n = 2 ∨ n = 3 by omega) with e | e | e
  · subst e
    rw [if_pos rfl] at hp2
    have c0 : cols 0 = nI p.2.1 := hC 0 (by omega)
    rw [show nI 1 - 1 = nI 0 by decide +kernel, show X3_goOn_L7 fu (nI p.1) (nI 1) (nI (W - 3)) (nI (H - 4)) cols fu = X3_goOn_L7 fu (nI p.1) (nI 1) (nI (W - 3)) (nI (H - 4)) cols (m + 5) by rw [← hm]]
    by_cases h : p.2.1 + 4 ≤ W
    · rw [show pnx W 1 p = (p.1, p.2.1 + 1, 4, 8) by simp [pnx, h], go_hit hf hW (by omega) (by omega) c0 (by omega), b1]
      refine ⟨packF cols 0 1 (p.2.1 + 1), ?_, rfl⟩
      intro i hi
      obtain rfl : i = 0 := by omega
      rfl
    · rw [show pnx W 1 p = (p.1 + 1, 0, 4, 8) by simp [pnx, h], go_miss hW (by omega) (by omega) c0 (by omega) (by omega) (by omega), m0, go_end hf (by omega) hH (by omega)]
      refine ⟨packF cols 0 1 0, ?_, rfl⟩
      intro i hi
      obtain rfl : i = 0 := by omega
      rfl
  · subst e
    rw [if_neg (by decide), if_pos rfl] at hp2
    have c0 : cols 0 = nI p.2.1 := hC 0 (by omega)
    have c1 : cols 1 = nI p.2.2.1 := hC 1 (by omega)
    rw [show nI 2 - 1 = nI 1 by decide +kernel, show X3_goOn_L7 fu (nI p.1) (nI 2) (nI (W - 3)) (nI (H - 4)) cols fu = X3_goOn_L7 fu (nI p.1) (nI 2) (nI (W - 3)) (nI (H - 4)) cols (m + 5) by rw [← hm]]
    by_cases h : p.2.2.1 + 4 ≤ W
    · rw [show pnx W 2 p = (p.1, p.2.1, p.2.2.1 + 1, 8) by simp [pnx, h], go_hit hf hW (by omega) (by omega) c1 (by omega), b1]
      refine ⟨packF cols 1 2 (p.2.2.1 + 1), ?_, rfl⟩
      intro i hi
      rcases (show i = 0 ∨ i = 1 by omega) with e | e <;> subst e
      · exact c0
      · rfl
    · rw [go_miss hW (by omega) (by omega) c1 (by omega) (by omega) (by omega), m1 0]
      by_cases h1 : p.2.1 + 8 ≤ W
      · rw [show pnx W 2 p = (p.1, p.2.1 + 1, p.2.1 + 5, 8) by simp [pnx, h, h1], go_hit hf hW (by omega) (by omega) c0 (by omega), b1]
        refine ⟨packF cols 0 2 (p.2.1 + 1), ?_, rfl⟩
        intro i hi
        rcases (show i = 0 ∨ i = 1 by omega) with e | e <;> subst e <;> rfl
      · rw [show pnx W 2 p = (p.1 + 1, 0, 4, 8) by simp [pnx, h, h1], go_miss hW (by omega) (by omega) c0 (by omega) (by omega) (by omega), m0, go_end hf (by omega) hH (by omega)]
        refine ⟨packF cols 0 2 0, ?_, rfl⟩
        intro i hi
        rcases (show i = 0 ∨ i = 1 by omega) with e | e <;> subst e <;> rfl
  · subst e
    rw [if_neg (by decide), if_neg (by decide)] at hp2
    have c0 : cols 0 = nI p.2.1 := hC 0 (by omega)
    have c1 : cols 1 = nI p.2.2.1 := hC 1 (by omega)
    have c2 : cols 2 = nI p.2.2.2 := hC 2 (by omega)
    rw [show nI 3 - 1 = nI 2 by decide +kernel, show X3_goOn_L7 fu (nI p.1) (nI 3) (nI (W - 3)) (nI (H - 4)) cols fu = X3_goOn_L7 fu (nI p.1) (nI 3) (nI (W - 3)) (nI (H - 4)) cols (m + 5) by rw [← hm]]
    by_cases h : p.2.2.2 + 4 ≤ W
    · rw [show pnx W 3 p = (p.1, p.2.1, p.2.2.1, p.2.2.2 + 1) by simp [pnx, h], go_hit hf hW (by omega) (by omega) c2 (by omega), b1]
      refine ⟨packF cols 2 3 (p.2.2.2 + 1), ?_, rfl⟩
      intro i hi
      rcases (show i = 0 ∨ i = 1 ∨ i = 2 by omega) with e | e | e <;> subst e
      · exact c0
      · exact c1
      · rfl
    · rw [go_miss hW (by omega) (by omega) c2 (by omega) (by omega) (by omega), m1 1]
      by_cases h1 : p.2.2.1 + 8 ≤ W
      · rw [show pnx W 3 p = (p.1, p.2.1, p.2.2.1 + 1, p.2.2.1 + 5) by simp [pnx, h, h1], go_hit hf hW (by omega) (by omega) c1 (by omega), b1]
        refine ⟨packF cols 1 3 (p.2.2.1 + 1), ?_, rfl⟩
        intro i hi
        rcases (show i = 0 ∨ i = 1 ∨ i = 2 by omega) with e | e | e <;> subst e
        · exact c0
        · rfl
        · rfl
      · rw [go_miss hW (by omega) (by omega) c1 (by omega) (by omega) (by omega), m1 0]
        by_cases h3 : p.2.1 + 12 ≤ W
        · rw [show pnx W 3 p = (p.1, p.2.1 + 1, p.2.1 + 5, p.2.1 + 9) by simp [pnx, h, h1, h3], go_hit hf hW (by omega) (by omega) c0 (by omega), b1]
          refine ⟨packF cols 0 3 (p.2.1 + 1), ?_, rfl⟩
          intro i hi
          rcases (show i = 0 ∨ i = 1 ∨ i = 2 by omega) with e | e | e <;> subst e <;> rfl
        · rw [show pnx W 3 p = (p.1 + 1, 0, 4, 8) by simp [pnx, h, h1, h3], go_miss hW (by omega) (by omega) c0 (by omega) (by omega) (by omega), m0, go_end hf (by omega) hH (by omega)]
          refine ⟨packF cols 0 3 0, ?_, rfl⟩
          intro i hi
          rcases (show i = 0 ∨ i = 1 ∨ i = 2 by omega) with e | e | e <;> subst e <;> rfl
end
