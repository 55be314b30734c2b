/-! LEAST PAINS OF A WORD (the class) -/
def sel3 {α : Type} (i : Nat) (a b c : α) : α := if i = 0 then a else if i = 1 then b else c
theorem sel_set {i j : Nat} (hi : i < 3) (hj : j < 3) (p0 p1 p2 : Nat → Int32) (c d : Nat) (v : Int32) : sel3 i (setI j 0 p0 c v) (setI j 1 p1 c v) (setI j 2 p2 c v) d = if i = j ∧ d = c then v else sel3 i p0 p1 p2 d := by
  rcases (show i = 0 ∨ i = 1 ∨ i = 2 by omega) with e | e | e <;> rcases (show j = 0 ∨ j = 1 ∨ j = 2 by omega) with g | g | g <;> subst e <;> subst g <;> simp [sel3, setI, upd]
abbrev S7 : Type := (Nat → Int32) × (Nat → Int32) × (Nat → Int32) × (Nat → Int32) × (Nat → Int32) × (Nat → Int32) × (Nat → Int32)
def PSd (s : Nat → Nat) (h w : Nat) (a : S7) (D : Nat → Nat → Nat → Prop) : Prop := ∀ i y x, i < wl w → y + 4 ≤ s 1 → 4 * i ≤ x → x + 3 + 4 * (wl w - 1 - i) ≤ s 0 → D i y x → sel3 i a.2.1 a.2.2.1 a.2.2.2.1 (12 * y + x) = pI (BX s h w i (12 * y + x)).1 ∧ ((BX s h w i (12 * y + x)).1 ≠ 65535 → sel3 i a.2.2.2.2.1 a.2.2.2.2.2.1 a.2.2.2.2.2.2 (12 * y + x) = nI (BX s h w i (12 * y + x)).2)
section
variable {fu : Nat} {s : Nat → Nat} {kinds painOf payFor refused shapes dv le : Nat → Int32} {owned litIn : Nat → Int64} {h w bits : Nat}
theorem sb_keep {a : S7} {D : Nat → Nat → Nat → Prop} (I : Iv s) (hd : PSd s h w a D) {i y x : Nat} (hi : i < wl w) (hy : y + 4 ≤ s 1) (hx : x + 3 ≤ s 0) {r : S7} (h1 : r.2.1 = setI i 0 a.2.1 (12 * y + x) (pI (BX s h w i (12 * y + x)).1)) (h2 : r.2.2.1 = setI i 1 a.2.2.1 (12 * y + x) (pI (BX s h w i (12 * y + x)).1)) (h3 : r.2.2.2.1 = setI i 2 a.2.2.2.1 (12 * y + x) (pI (BX s h w i (12 * y + x)).1)) (h4 : (BX s h w i (12 * y + x)).1 ≠ 65535 → r.2.2.2.2.1 = setI i 0 a.2.2.2.2.1 (12 * y + x) (nI (BX s h w i (12 * y + x)).2) ∧ r.2.2.2.2.2.1 = setI i 1 a.2.2.2.2.2.1 (12 * y + x) (nI (BX s h w i (12 * y + x)).2) ∧ r.2.2.2.2.2.2 = setI i 2 a.2.2.2.2.2.2 (12 * y + x) (nI (BX s h w i (12 * y + x)).2)) (h5 : (BX s h w i (12 * y + x)).1 = 65535 → r.2.2.2.2.1 = setI i 0 a.2.2.2.2.1 (12 * y + x) (nI 0) ∧ r.2.2.2.2.2.1 = setI i 1 a.2.2.2.2.2.1 (12 * y + x) (nI 0) ∧ r.2.2.2.2.2.2 = setI i 2 a.2.2.2.2.2.2 (12 * y + x) (nI 0)) : PSd s h w r (fun i' y' x' => D i' y' x' ∨ (i' = i ∧ y' = y ∧ x' = x)) := by
  have hr := wl_rng w
  have i0 := I.1
  intro i' y' x' hi' hy' hx1 hx2 hD
  rw [h1, h2, h3, sel_set (by omega) (by omega)]
  by_cases e : i' = i ∧ 12 * y' + x' = 12 * y + x
  · obtain ⟨e1, e2⟩ := e
    subst e1
    have ey : y' = y := by omega
    have ex : x' = x := by omega
    subst ey
    subst ex
    rw [if_pos ⟨rfl, rfl⟩]
    refine ⟨rfl, fun hn => ?_⟩
    obtain ⟨g1, g2, g3⟩ := h4 hn
    rw [g1, g2, g3, sel_set (by omega) (by omega), if_pos ⟨rfl, rfl⟩]
  · rw [if_neg e]
    have hD2 : D i' y' x' := by
      rcases hD with q | ⟨q1, q2, q3⟩
      · exact q
      · exfalso; apply e; exact ⟨q1, by omega⟩
    have g := hd i' y' x' hi' hy' hx1 hx2 hD2
    refine ⟨g.1, fun hn => ?_⟩
    by_cases hb : (BX s h w i (12 * y + x)).1 = 65535
    · obtain ⟨g1, g2, g3⟩ := h5 hb
      rw [g1, g2, g3, sel_set (by omega) (by omega), if_neg e]
      exact g.2 hn
    · obtain ⟨g1, g2, g3⟩ := h4 hb
      rw [g1, g2, g3, sel_set (by omega) (by omega), if_neg e]
      exact g.2 hn
theorem PSd_mono {a : S7} {D D2 : Nat → Nat → Nat → Prop} (hd : PSd s h w a D) (hm : ∀ i y x, i < wl w → y + 4 ≤ s 1 → 4 * i ≤ x → x + 3 + 4 * (wl w - 1 - i) ≤ s 0 → D2 i y x → D i y x) : PSd s h w a D2 := fun i y x h1 h2 h3 h4 h5 => hd i y x h1 h2 h3 h4 (hm i y x h1 h2 h3 h4 h5)
/-- a word as the class has it -/
def LW (w : Nat) (bits : Nat) (le : Nat → Int32) : Prop := bits < 64 ∧ (∀ k, k < 6 → bits.testBit k = inW w k) ∧ ∀ i, i < wl w → le i = nI (wd w i)
theorem sa_x {rec16 rec28 : (Nat → Int32) → (Nat → Int32) → (Nat → Int32) → (Nat → Int32) → (Nat → Int32) → (Nat → Int32) → (Nat → Int32) → Int32 → Option S7} (hf : 5000 ≤ fu) (I : Iv s) (T : TR s kinds painOf payFor refused owned) (L : LR s litIn) (S : HR s shapes) (hD : DV dv) (hh : h < 4) (hw : okW s w) (hl : LW w bits le) (hp : 4 * wl w ≤ s 0 + 1) {i y : Nat} (hi : i < wl w) (hy : y + 4 ≤ s 1) {a : S7} (ha : PSd s h w a (fun i' y' x' => i' < i ∨ (i' = i ∧ y' < y))) : ∃ b : S7, PSd s h w b (fun i' y' x' => i' < i ∨ (i' = i ∧ y' < y + 1)) ∧ X1_shapeAllBoxes_L45 fu rec16 rec28 (nI (wl w)) (nI (s 0 - 3)) dv (nI (s 1)) (nI (s 5)) (nI (s 2)) (nI (s 3)) kinds painOf refused owned litIn shapes (nI (wl w)) (nI bits) le (nI h) (lN (MAY s h w 63)) (nI i) (nI y) fu a.1 a.2.1 a.2.2.1 a.2.2.2.1 a.2.2.2.2.1 a.2.2.2.2.2.1 a.2.2.2.2.2.2 (nI (4 * i)) = rec28 b.1 b.2.1 b.2.2.1 b.2.2.2.1 b.2.2.2.2.1 b.2.2.2.2.2.1 b.2.2.2.2.2.2 (nI (y + 1)) := by
  have hr := wl_rng w
  have i0 := I.1
  have i1 := I.2.1
  have main := pz_relC (fun n k (b : S7) => X1_shapeAllBoxes_L45 fu rec16 rec28 (nI (wl w)) (nI (s 0 - 3)) dv (nI (s 1)) (nI (s 5)) (nI (s 2)) (nI (s 3)) kinds painOf refused owned litIn shapes (nI (wl w)) (nI bits) le (nI h) (lN (MAY s h w 63)) (nI i) (nI y) n b.1 b.2.1 b.2.2.1 b.2.2.2.1 b.2.2.2.2.1 b.2.2.2.2.2.1 b.2.2.2.2.2.2 (nI (4 * i + k))) (fun k b => PSd s h w b (fun i' y' x' => (i' < i ∨ (i' = i ∧ y' < y)) ∨ (i' = i ∧ y' = y ∧ x' < 4 * i + k))) (s 0 + 2 - 4 * wl w) (fun b => rec28 b.1 b.2.1 b.2.2.1 b.2.2.2.1 b.2.2.2.2.1 b.2.2.2.2.2.1 b.2.2.2.2.2.2 (nI (y + 1))) (fun n k b hk hb => ?_) (fun n b hb => ?_) fu 0 a (by omega) (by omega) (PSd_mono ha (fun i' y' x' h1 h2 h3 h4 h5 => by omega))
  · obtain ⟨b, h1, h2⟩ := main
    exact ⟨b, PSd_mono h1 (fun i' y' x' g1 g2 g3 g4 g5 => by omega), h2⟩
  · have hx : 4 * i + k + 3 ≤ s 0 := by omega
    obtain ⟨r, e, g1, g2, g3, g4, g5⟩ := x1_shapeBox (poc := b.1) (p0 := b.2.1) (p1 := b.2.2.1) (p2 := b.2.2.2.1) (s0 := b.2.2.2.2.1) (s1 := b.2.2.2.2.2.1) (s2 := b.2.2.2.2.2.2) (c := 12 * y + (4 * i + k)) hf I T L S hD hh (by omega) hw hi
    refine ⟨r, PSd_mono (sb_keep I hb hi hy (by omega) g1 g2 g3 g4 g5) (fun i' y' x' q1 q2 q3 q4 q5 => by omega), ?_⟩
    try simp only
    rw [X1_shapeAllBoxes_L45]
    generalize X1_shapeAllBoxes_L45 fu rec16 rec28 (nI (wl w)) (nI (s 0 - 3)) dv (nI (s 1)) (nI (s 5)) (nI (s 2)) (nI (s 3)) kinds painOf refused owned litIn shapes (nI (wl w)) (nI bits) le (nI h) (lN (MAY s h w 63)) (nI i) (nI y) n = rec
    simp (disch := omega) only [f_X3_mostToRight, hl.2.2 i hi, pz_c0, pz_c1, pz_c2, pz_c3, pz_c4, pz_c5, pz_c6, pz_c7, pz_c8, pz_c9, pz_c10, pz_c11, pz_c12, pz_c13, pz_c14, pz_c15, pz_c16, pz_c17, pz_c18, pz_c19, pz_c20, pz_c21, pz_c22, pz_c23, pz_c24, pz_c25, pz_c26, pz_c27, pz_c28, pz_c29, pz_c30, pz_c31, pz_c32, pz_c33, pz_c34, pz_c35, pz_c36, pz_c42, pz_c48, pz_c57, pz_c59, pz_c60, pz_c63, pz_c64, pz_c66, pz_c96, pz_c97, pz_c99, pz_c100, pz_c122, pz_c127, pz_c128, pz_c200, pz_c255, pz_c299, pz_c300, pz_c336, pz_c354, pz_c585, pz_c666, pz_c708, pz_c1000, pz_c1170, pz_c4095, pz_c4096, pz_c4608, pz_c1000000, nI_add, pk_mul, pk_sub, pz_sub, pk_div, pz_or, pz_and, pz_xor, pz_n31, pz_shl, pz_shr, pz_eq, pz_le, pz_lt, pz_eqm, pz_meq, pz_mmeq, pz_lem, pz_mle, pz_ltm, pz_mlt, pz_mmle, pz_mmlt, pz_rd, pz_ck, pz_let, pz_cl, pz_bind, pz_gd, pz_zbb, eI_of, eI_N, pz_leT, pz_leF, pz_ltT, pz_ltF, pz_eqT, pz_eqF, if_pos, if_neg, if_true, if_false, ite_true, ite_false, pz_b0, pz_b1i, pz_bf, pz_bt, Bool.false_eq_true, Bool.true_eq_false, decide_true, decide_false, and_true, and_false, true_and, false_and, and_self, or_true, or_false, true_or, false_or, or_self, not_true_eq_false, not_false_eq_true, ne_eq, reduceIte, eq_self, upd_at]
    rw [e, pz_bind]
    rfl
  · try simp only
    rw [X1_shapeAllBoxes_L45]
    generalize X1_shapeAllBoxes_L45 fu rec16 rec28 (nI (wl w)) (nI (s 0 - 3)) dv (nI (s 1)) (nI (s 5)) (nI (s 2)) (nI (s 3)) kinds painOf refused owned litIn shapes (nI (wl w)) (nI bits) le (nI h) (lN (MAY s h w 63)) (nI i) (nI y) n = rec
    simp (disch := omega) only [f_X3_mostToRight, pz_c0, pz_c1, pz_c2, pz_c3, pz_c4, pz_c5, pz_c6, pz_c7, pz_c8, pz_c9, pz_c10, pz_c11, pz_c12, pz_c13, pz_c14, pz_c15, pz_c16, pz_c17, pz_c18, pz_c19, pz_c20, pz_c21, pz_c22, pz_c23, pz_c24, pz_c25, pz_c26, pz_c27, pz_c28, pz_c29, pz_c30, pz_c31, pz_c32, pz_c33, pz_c34, pz_c35, pz_c36, pz_c42, pz_c48, pz_c57, pz_c59, pz_c60, pz_c63, pz_c64, pz_c66, pz_c96, pz_c97, pz_c99, pz_c100, pz_c122, pz_c127, pz_c128, pz_c200, pz_c255, pz_c299, pz_c300, pz_c336, pz_c354, pz_c585, pz_c666, pz_c708, pz_c1000, pz_c1170, pz_c4095, pz_c4096, pz_c4608, pz_c1000000, nI_add, pk_mul, pk_sub, pz_sub, pk_div, pz_or, pz_and, pz_xor, pz_n31, pz_shl, pz_shr, pz_eq, pz_le, pz_lt, pz_eqm, pz_meq, pz_mmeq, pz_lem, pz_mle, pz_ltm, pz_mlt, pz_mmle, pz_mmlt, pz_rd, pz_ck, pz_let, pz_cl, pz_bind, pz_gd, pz_zbb, eI_of, eI_N, pz_leT, pz_leF, pz_ltT, pz_ltF, pz_eqT, pz_eqF, if_pos, if_neg, if_true, if_false, ite_true, ite_false, pz_b0, pz_b1i, pz_bf, pz_bt, Bool.false_eq_true, Bool.true_eq_false, decide_true, decide_false, and_true, and_false, true_and, false_and, and_self, or_true, or_false, true_or, false_or, or_self, not_true_eq_false, not_false_eq_true, ne_eq, reduceIte, eq_self, upd_at]
theorem sa_y {rec16 : (Nat → Int32) → (Nat → Int32) → (Nat → Int32) → (Nat → Int32) → (Nat → Int32) → (Nat → Int32) → (Nat → Int32) → Int32 → Option S7} (hf : 5000 ≤ fu) (I : Iv s) (T : TR s kinds painOf payFor refused owned) (L : LR s litIn) (S : HR s shapes) (hD : DV dv) (hh : h < 4) (hw : okW s w) (hl : LW w bits le) (hp : 4 * wl w ≤ s 0 + 1) {i : Nat} (hi : i < wl w) {a : S7} (ha : PSd s h w a (fun i' y' x' => i' < i)) : ∃ b : S7, PSd s h w b (fun i' y' x' => i' < i + 1) ∧ X1_shapeAllBoxes_L28 fu rec16 (nI (wl w)) (nI (s 0 - 3)) dv (nI (s 1)) (nI (s 5)) (nI (s 2)) (nI (s 3)) kinds painOf refused owned litIn shapes (nI (wl w)) (nI bits) le (nI h) (lN (MAY s h w 63)) (nI i) fu a.1 a.2.1 a.2.2.1 a.2.2.2.1 a.2.2.2.2.1 a.2.2.2.2.2.1 a.2.2.2.2.2.2 (nI 0) = rec16 b.1 b.2.1 b.2.2.1 b.2.2.2.1 b.2.2.2.2.1 b.2.2.2.2.2.1 b.2.2.2.2.2.2 (nI (i + 1)) := by
  have hr := wl_rng w
  have i0 := I.1
  have i1 := I.2.1
  have main := pz_relC (fun n y (b : S7) => X1_shapeAllBoxes_L28 fu rec16 (nI (wl w)) (nI (s 0 - 3)) dv (nI (s 1)) (nI (s 5)) (nI (s 2)) (nI (s 3)) kinds painOf refused owned litIn shapes (nI (wl w)) (nI bits) le (nI h) (lN (MAY s h w 63)) (nI i) n b.1 b.2.1 b.2.2.1 b.2.2.2.1 b.2.2.2.2.1 b.2.2.2.2.2.1 b.2.2.2.2.2.2 (nI y)) (fun y b => PSd s h w b (fun i' y' x' => i' < i ∨ (i' = i ∧ y' < y))) (s 1 - 3) (fun b => rec16 b.1 b.2.1 b.2.2.1 b.2.2.2.1 b.2.2.2.2.1 b.2.2.2.2.2.1 b.2.2.2.2.2.2 (nI (i + 1))) (fun n y b hy hb => ?_) (fun n b hb => ?_) fu 0 a (by omega) (by omega) (PSd_mono ha (fun i' y' x' h1 h2 h3 h4 h5 => by omega))
  · obtain ⟨b, h1, h2⟩ := main
    exact ⟨b, PSd_mono h1 (fun i' y' x' g1 g2 g3 g4 g5 => by omega), h2⟩
  · obtain ⟨b2, g1, g2⟩ := sa_x (rec16 := rec16) (rec28 := X1_shapeAllBoxes_L28 fu rec16 (nI (wl w)) (nI (s 0 - 3)) dv (nI (s 1)) (nI (s 5)) (nI (s 2)) (nI (s 3)) kinds painOf refused owned litIn shapes (nI (wl w)) (nI bits) le (nI h) (lN (MAY s h w 63)) (nI i) n) hf I T L S hD hh hw hl hp hi (show y + 4 ≤ s 1 by omega) hb
    refine ⟨b2, g1, ?_⟩
    try simp only
    rw [X1_shapeAllBoxes_L28, ← g2]
    generalize X1_shapeAllBoxes_L28 fu rec16 (nI (wl w)) (nI (s 0 - 3)) dv (nI (s 1)) (nI (s 5)) (nI (s 2)) (nI (s 3)) kinds painOf refused owned litIn shapes (nI (wl w)) (nI bits) le (nI h) (lN (MAY s h w 63)) (nI i) n = rec
    simp (disch := omega) only [pz_c0, pz_c1, pz_c2, pz_c3, pz_c4, pz_c5, pz_c6, pz_c7, pz_c8, pz_c9, pz_c10, pz_c11, pz_c12, pz_c13, pz_c14, pz_c15, pz_c16, pz_c17, pz_c18, pz_c19, pz_c20, pz_c21, pz_c22, pz_c23, pz_c24, pz_c25, pz_c26, pz_c27, pz_c28, pz_c29, pz_c30, pz_c31, pz_c32, pz_c33, pz_c34, pz_c35, pz_c36, pz_c42, pz_c48, pz_c57, pz_c59, pz_c60, pz_c63, pz_c64, pz_c66, pz_c96, pz_c97, pz_c99, pz_c100, pz_c122, pz_c127, pz_c128, pz_c200, pz_c255, pz_c299, pz_c300, pz_c336, pz_c354, pz_c585, pz_c666, pz_c708, pz_c1000, pz_c1170, pz_c4095, pz_c4096, pz_c4608, pz_c1000000, nI_add, pk_mul, pk_sub, pz_sub, pk_div, pz_or, pz_and, pz_xor, pz_n31, pz_shl, pz_shr, pz_eq, pz_le, pz_lt, pz_eqm, pz_meq, pz_mmeq, pz_lem, pz_mle, pz_ltm, pz_mlt, pz_mmle, pz_mmlt, pz_rd, pz_ck, pz_let, pz_cl, pz_bind, pz_gd, pz_zbb, eI_of, eI_N, pz_leT, pz_leF, pz_ltT, pz_ltF, pz_eqT, pz_eqF, if_pos, if_neg, if_true, if_false, ite_true, ite_false, pz_b0, pz_b1i, pz_bf, pz_bt, Bool.false_eq_true, Bool.true_eq_false, decide_true, decide_false, and_true, and_false, true_and, false_and, and_self, or_true, or_false, true_or, false_or, or_self, not_true_eq_false, not_false_eq_true, ne_eq, reduceIte, eq_self, upd_at]
  · try simp only
    rw [X1_shapeAllBoxes_L28]
    generalize X1_shapeAllBoxes_L28 fu rec16 (nI (wl w)) (nI (s 0 - 3)) dv (nI (s 1)) (nI (s 5)) (nI (s 2)) (nI (s 3)) kinds painOf refused owned litIn shapes (nI (wl w)) (nI bits) le (nI h) (lN (MAY s h w 63)) (nI i) n = rec
    simp (disch := omega) only [pz_c0, pz_c1, pz_c2, pz_c3, pz_c4, pz_c5, pz_c6, pz_c7, pz_c8, pz_c9, pz_c10, pz_c11, pz_c12, pz_c13, pz_c14, pz_c15, pz_c16, pz_c17, pz_c18, pz_c19, pz_c20, pz_c21, pz_c22, pz_c23, pz_c24, pz_c25, pz_c26, pz_c27, pz_c28, pz_c29, pz_c30, pz_c31, pz_c32, pz_c33, pz_c34, pz_c35, pz_c36, pz_c42, pz_c48, pz_c57, pz_c59, pz_c60, pz_c63, pz_c64, pz_c66, pz_c96, pz_c97, pz_c99, pz_c100, pz_c122, pz_c127, pz_c128, pz_c200, pz_c255, pz_c299, pz_c300, pz_c336, pz_c354, pz_c585, pz_c666, pz_c708, pz_c1000, pz_c1170, pz_c4095, pz_c4096, pz_c4608, pz_c1000000, nI_add, pk_mul, pk_sub, pz_sub, pk_div, pz_or, pz_and, pz_xor, pz_n31, pz_shl, pz_shr, pz_eq, pz_le, pz_lt, pz_eqm, pz_meq, pz_mmeq, pz_lem, pz_mle, pz_ltm, pz_mlt, pz_mmle, pz_mmlt, pz_rd, pz_ck, pz_let, pz_cl, pz_bind, pz_gd, pz_zbb, eI_of, eI_N, pz_leT, pz_leF, pz_ltT, pz_ltF, pz_eqT, pz_eqF, if_pos, if_neg, if_true, if_false, ite_true, ite_false, pz_b0, pz_b1i, pz_bf, pz_bt, Bool.false_eq_true, Bool.true_eq_false, decide_true, decide_false, and_true, and_false, true_and, false_and, and_self, or_true, or_false, true_or, false_or, or_self, not_true_eq_false, not_false_eq_true, ne_eq, reduceIte, eq_self, upd_at]
theorem x1_shapeAll (hf : 5000 ≤ fu) (I : Iv s) (T : TR s kinds painOf payFor refused owned) (L : LR s litIn) (S : HR s shapes) (hD : DV dv) (hh : h < 4) (hw : okW s w) (hl : LW w bits le) (hp : 4 * wl w ≤ s 0 + 1) (a : S7) : ∃ b : S7, PSd s h w b (fun _ _ _ => True) ∧ f_X1_shapeAllBoxes fu (nI (wl w)) (nI (s 0 - 3)) dv a.1 a.2.1 a.2.2.1 a.2.2.2.1 a.2.2.2.2.1 a.2.2.2.2.2.1 a.2.2.2.2.2.2 (nI (s 1)) (nI (s 5)) (nI (s 2)) (nI (s 3)) kinds painOf refused owned litIn shapes (nI (wl w)) (nI bits) le (nI h) = some b := by
  have hr := wl_rng w
  have hm := x5_changeable (fu := fu) (w := w) (set := 63) (bits := bits) hf I T L hh (by decide) hl.1 hl.2.1
  have main := pz_rel (fun n i (b : S7) => X1_shapeAllBoxes_L16 fu (nI (wl w)) (nI (s 0 - 3)) dv (nI (s 1)) (nI (s 5)) (nI (s 2)) (nI (s 3)) kinds painOf refused owned litIn shapes (nI (wl w)) (nI bits) le (nI h) (lN (MAY s h w 63)) n b.1 b.2.1 b.2.2.1 b.2.2.2.1 b.2.2.2.2.1 b.2.2.2.2.2.1 b.2.2.2.2.2.2 (nI i)) (fun i b => PSd s h w b (fun i' y' x' => i' < i)) (wl w) (fun b => PSd s h w b (fun _ _ _ => True)) (fun n i b hi hb => ?_) (fun n b hb => ?_) fu 0 a (by omega) (by omega) (fun i y x h1 h2 h3 h4 h5 => absurd h5 (Nat.not_lt_zero i))
  · obtain ⟨b, h1, h2⟩ := main
    refine ⟨b, h2, ?_⟩
    rw [f_X1_shapeAllBoxes, show f_X5_changeable fu (nI (s 2)) kinds refused owned litIn (nI h) (nI bits) 63 = _ from hm, pz_bind]
    exact h1
  · right
    obtain ⟨b2, g1, g2⟩ := sa_y (rec16 := X1_shapeAllBoxes_L16 fu (nI (wl w)) (nI (s 0 - 3)) dv (nI (s 1)) (nI (s 5)) (nI (s 2)) (nI (s 3)) kinds painOf refused owned litIn shapes (nI (wl w)) (nI bits) le (nI h) (lN (MAY s h w 63)) n) hf I T L S hD hh hw hl hp hi hb
    refine ⟨b2, g1, ?_⟩
    try simp only
    rw [X1_shapeAllBoxes_L16, ← g2]
    generalize X1_shapeAllBoxes_L16 fu (nI (wl w)) (nI (s 0 - 3)) dv (nI (s 1)) (nI (s 5)) (nI (s 2)) (nI (s 3)) kinds painOf refused owned litIn shapes (nI (wl w)) (nI bits) le (nI h) (lN (MAY s h w 63)) n = rec
    simp (disch := omega) only [pz_c0, pz_c1, pz_c2, pz_c3, pz_c4, pz_c5, pz_c6, pz_c7, pz_c8, pz_c9, pz_c10, pz_c11, pz_c12, pz_c13, pz_c14, pz_c15, pz_c16, pz_c17, pz_c18, pz_c19, pz_c20, pz_c21, pz_c22, pz_c23, pz_c24, pz_c25, pz_c26, pz_c27, pz_c28, pz_c29, pz_c30, pz_c31, pz_c32, pz_c33, pz_c34, pz_c35, pz_c36, pz_c42, pz_c48, pz_c57, pz_c59, pz_c60, pz_c63, pz_c64, pz_c66, pz_c96, pz_c97, pz_c99, pz_c100, pz_c122, pz_c127, pz_c128, pz_c200, pz_c255, pz_c299, pz_c300, pz_c336, pz_c354, pz_c585, pz_c666, pz_c708, pz_c1000, pz_c1170, pz_c4095, pz_c4096, pz_c4608, pz_c1000000, nI_add, pk_mul, pk_sub, pz_sub, pk_div, pz_or, pz_and, pz_xor, pz_n31, pz_shl, pz_shr, pz_eq, pz_le, pz_lt, pz_eqm, pz_meq, pz_mmeq, pz_lem, pz_mle, pz_ltm, pz_mlt, pz_mmle, pz_mmlt, pz_rd, pz_ck, pz_let, pz_cl, pz_bind, pz_gd, pz_zbb, eI_of, eI_N, pz_leT, pz_leF, pz_ltT, pz_ltF, pz_eqT, pz_eqF, if_pos, if_neg, if_true, if_false, ite_true, ite_false, pz_b0, pz_b1i, pz_bf, pz_bt, Bool.false_eq_true, Bool.true_eq_false, decide_true, decide_false, and_true, and_false, true_and, false_and, and_self, or_true, or_false, true_or, false_or, or_self, not_true_eq_false, not_false_eq_true, ne_eq, reduceIte, eq_self, upd_at]
  · refine ⟨b, ?_, fun i y x h1 h2 h3 h4 _ => hb i y x h1 h2 h3 h4 h1⟩
    try simp only
    rw [X1_shapeAllBoxes_L16]
    generalize X1_shapeAllBoxes_L16 fu (nI (wl w)) (nI (s 0 - 3)) dv (nI (s 1)) (nI (s 5)) (nI (s 2)) (nI (s 3)) kinds painOf refused owned litIn shapes (nI (wl w)) (nI bits) le (nI h) (lN (MAY s h w 63)) n = rec
    simp (disch := omega) only [pz_c0, pz_c1, pz_c2, pz_c3, pz_c4, pz_c5, pz_c6, pz_c7, pz_c8, pz_c9, pz_c10, pz_c11, pz_c12, pz_c13, pz_c14, pz_c15, pz_c16, pz_c17, pz_c18, pz_c19, pz_c20, pz_c21, pz_c22, pz_c23, pz_c24, pz_c25, pz_c26, pz_c27, pz_c28, pz_c29, pz_c30, pz_c31, pz_c32, pz_c33, pz_c34, pz_c35, pz_c36, pz_c42, pz_c48, pz_c57, pz_c59, pz_c60, pz_c63, pz_c64, pz_c66, pz_c96, pz_c97, pz_c99, pz_c100, pz_c122, pz_c127, pz_c128, pz_c200, pz_c255, pz_c299, pz_c300, pz_c336, pz_c354, pz_c585, pz_c666, pz_c708, pz_c1000, pz_c1170, pz_c4095, pz_c4096, pz_c4608, pz_c1000000, nI_add, pk_mul, pk_sub, pz_sub, pk_div, pz_or, pz_and, pz_xor, pz_n31, pz_shl, pz_shr, pz_eq, pz_le, pz_lt, pz_eqm, pz_meq, pz_mmeq, pz_lem, pz_mle, pz_ltm, pz_mlt, pz_mmle, pz_mmlt, pz_rd, pz_ck, pz_let, pz_cl, pz_bind, pz_gd, pz_zbb, eI_of, eI_N, pz_leT, pz_leF, pz_ltT, pz_ltF, pz_eqT, pz_eqF, if_pos, if_neg, if_true, if_false, ite_true, ite_false, pz_b0, pz_b1i, pz_bf, pz_bt, Bool.false_eq_true, Bool.true_eq_false, decide_true, decide_false, and_true, and_false, true_and, false_and, and_self, or_true, or_false, true_or, false_or, or_self, not_true_eq_false, not_false_eq_true, ne_eq, reduceIte, eq_self, upd_at]
end
