/-! TWO: the pictures of a word -/
def inb (y x c : Nat) : Bool := decide (x ≤ c % 12) && (decide (c % 12 < x + 3) && (decide (y ≤ c / 12) && decide (c / 12 < y + 4)))
def idx (y x c : Nat) : Nat := 3 * (c / 12 - y) + (c % 12 - x)
def litP (s : Nat → Nat) (h c : Nat) : Bool := decide (s (96 + 60 * h + c) = 1)
def pcF (s : Nat → Nat) (h w : Nat) (p : PL) : Nat → Nat → Bool
  | 0, c => litP s h c
  | i + 1, c => if inb p.1 (pcol p i) c = true then (s (30 + wd w i)).testBit (idx p.1 (pcol p i) c) else pcF s h w p i c
def PCN (s : Nat → Nat) (h w : Nat) (p : PL) (i : Nat) : Nat := mkN (pcF s h w p i) 60
def woF (sh y x v c : Nat) : Bool := inb y x c && (decide (c / 12 < y + v) && sh.testBit (idx y x c))
theorem all60 {i : Nat} (h : i < 60) : Nat.testBit 18446744073709551615 i = true := by
  have : ∀ i, i < 60 → Nat.testBit 18446744073709551615 i = true := by decide +kernel
  exact this i h
theorem not_bit {b i : Nat} (h : i < 60) : (b ^^^ 18446744073709551615).testBit i = !b.testBit i := by
  rw [Nat.testBit_xor, all60 h]; simp
theorem and60 {a b : Nat} (h : a < 2 ^ 60) : a &&& b < 2 ^ 60 := Nat.lt_of_le_of_lt Nat.and_le_left h
section
variable {fu : Nat} {s : Nat → Nat} {h w : Nat}
theorem PCN_bit {p : PL} {i c : Nat} (hc : c < 60) : (PCN s h w p i).testBit c = pcF s h w p i c := by
  rw [PCN, mkN_bit]; simp [hc]
theorem PCN_lt {p : PL} {i : Nat} : PCN s h w p i < 2 ^ 60 := mkN_lt _ 60
theorem wo_step {sh y x v : Nat} (hx : x ≤ 9) (hy : y ≤ 1) (hv : v < 4) : mkN (woF sh y x v) 60 ||| (((sh >>> (3 * v)) &&& 7) <<< (12 * y + x + 12 * v)) = mkN (woF sh y x (v + 1)) 60 := by
  apply mkN_eq
  · apply Nat.or_lt_two_pow (mkN_lt _ _)
    rw [Nat.shiftLeft_eq]
    have h7 : (sh >>> (3 * v)) &&& 7 < 2 ^ 3 := Nat.and_lt_two_pow (n := 3) _ (by decide)
    calc ((sh >>> (3 * v)) &&& 7) * 2 ^ (12 * y + x + 12 * v) < 2 ^ 3 * 2 ^ (12 * y + x + 12 * v) := Nat.mul_lt_mul_of_pos_right h7 (Nat.two_pow_pos _)
      _ = 2 ^ (3 + (12 * y + x + 12 * v)) := (Nat.pow_add ..).symm
      _ ≤ 2 ^ 60 := Nat.pow_le_pow_right (by decide) (by omega)
  · intro c hc
    rw [Nat.testBit_or, mkN_bit, Nat.testBit_shiftLeft, Nat.testBit_and, Nat.testBit_shiftRight]
    simp only [hc, decide_true, Bool.true_and]
    by_cases hin : 12 * y + x + 12 * v ≤ c ∧ c - (12 * y + x + 12 * v) < 3
    · have e1 : inb y x c = true := by
        simp only [inb, Bool.and_eq_true, decide_eq_true_eq]; omega
      have e2 : idx y x c = 3 * v + (c - (12 * y + x + 12 * v)) := by unfold idx; omega
      rw [woF, woF, e1, e2, b7 hin.2, decide_eq_true hin.1, decide_eq_false (show ¬ c / 12 < y + v by omega), decide_eq_true (show c / 12 < y + (v + 1) by omega)]
      simp
    · have e : (decide (c ≥ 12 * y + x + 12 * v) && (sh.testBit (3 * v + (c - (12 * y + x + 12 * v))) && Nat.testBit 7 (c - (12 * y + x + 12 * v)))) = false := by
        rcases Nat.lt_or_ge c (12 * y + x + 12 * v) with q | q
        · rw [decide_eq_false (by omega)]; rfl
        · rw [b7n (by omega)]; simp
      rw [e, Bool.or_false, woF, woF]
      cases hb : inb y x c
      · rfl
      · simp only [inb, Bool.and_eq_true, decide_eq_true_eq] at hb
        have : decide (c / 12 < y + (v + 1)) = decide (c / 12 < y + v) := by
          simp only [decide_eq_decide]; omega
        rw [this]
theorem x7_windowsOf {sh y x : Nat} (hf : 5000 ≤ fu) (hs : sh < 4096) (hx : x ≤ 9) (hy : y ≤ 1) : f_X7_windowsOf fu (nI sh) (nI (12 * y + x)) = some (lN (mkN (woF sh y x 4) 60)) := by
  rw [f_X7_windowsOf]
  have main := pz_up (fun n v => X7_windowsOf_L5 fu (nI sh) (nI (12 * y + x)) n (lN (mkN (woF sh y x v) 60)) (nI v)) 4 (some (lN (mkN (woF sh y x 4) 60))) (fun n v hv => ?_) (fun n => ?_) fu 0 (by omega) (by omega)
  · have e : mkN (woF sh y x 0) 60 = 0 := by
      symm
      apply mkN_eq (by decide)
      intro c hc
      rw [Nat.zero_testBit, woF]
      cases hb : inb y x c
      · rfl
      · simp only [inb, Bool.and_eq_true, decide_eq_true_eq] at hb
        rw [decide_eq_false (by omega)]; rfl
    rw [e] at main
    exact main
  · have e := wo_step (sh := sh) hx hy hv
    have hsh : (sh >>> (3 * v)) &&& 7 < 2 ^ 3 := Nat.and_lt_two_pow (n := 3) _ (by decide)
    rw [X7_windowsOf_L5]
    generalize X7_windowsOf_L5 fu (nI sh) (nI (12 * y + x)) n = rec
    simp (disch := omega) only [pz_c0, pz_c1, pz_c2, pz_c3, pz_c4, pz_c5, pz_c6, pz_c7, pz_c8, pz_c9, pz_c10, pz_c11, pz_c12, pz_c13, pz_c14, pz_c15, pz_c16, pz_c17, pz_c18, pz_c19, pz_c20, pz_c21, pz_c22, pz_c23, pz_c24, pz_c25, pz_c26, pz_c27, pz_c28, pz_c29, pz_c30, pz_c31, pz_c32, pz_c33, pz_c34, pz_c35, pz_c36, pz_c42, pz_c48, pz_c57, pz_c59, pz_c60, pz_c63, pz_c64, pz_c66, pz_c96, pz_c97, pz_c99, pz_c100, pz_c122, pz_c127, pz_c128, pz_c200, pz_c255, pz_c299, pz_c300, pz_c336, pz_c354, pz_c585, pz_c666, pz_c708, pz_c1000, pz_c1170, pz_c4095, pz_c4096, pz_c4608, pz_c1000000, nI_add, pk_mul, pk_sub, pz_sub, pk_div, pz_or, pz_and, pz_xor, pz_n31, pz_shl, pz_shr, pz_eq, pz_le, pz_lt, pz_eqm, pz_meq, pz_mmeq, pz_lem, pz_mle, pz_ltm, pz_mlt, pz_mmle, pz_mmlt, pz_rd, pz_ck, pz_let, pz_cl, pz_bind, pz_gd, pz_zbb, eI_of, eI_N, pz_leT, pz_leF, pz_ltT, pz_ltF, pz_eqT, pz_eqF, if_pos, if_neg, if_true, if_false, ite_true, ite_false, pz_b0, pz_b1i, pz_bf, pz_bt, Bool.false_eq_true, Bool.true_eq_false, decide_true, decide_false, and_true, and_false, true_and, false_and, and_self, or_true, or_false, true_or, false_or, or_self, not_true_eq_false, not_false_eq_true, ne_eq, reduceIte, eq_self, upd_at, pz_L0, pz_L1, pz_L7, pz_L31, pz_L63, pz_L255, pz_L4095, nI_l, pz_n63, pz_63, pz_u63, pz_ushr, pz_shlL, pz_orL, pz_andL, pz_xorL, lN_i, pz_cmp, e]
  · rw [X7_windowsOf_L5]
    generalize X7_windowsOf_L5 fu (nI sh) (nI (12 * y + x)) n = rec
    simp (disch := omega) only [pz_c0, pz_c1, pz_c2, pz_c3, pz_c4, pz_c5, pz_c6, pz_c7, pz_c8, pz_c9, pz_c10, pz_c11, pz_c12, pz_c13, pz_c14, pz_c15, pz_c16, pz_c17, pz_c18, pz_c19, pz_c20, pz_c21, pz_c22, pz_c23, pz_c24, pz_c25, pz_c26, pz_c27, pz_c28, pz_c29, pz_c30, pz_c31, pz_c32, pz_c33, pz_c34, pz_c35, pz_c36, pz_c42, pz_c48, pz_c57, pz_c59, pz_c60, pz_c63, pz_c64, pz_c66, pz_c96, pz_c97, pz_c99, pz_c100, pz_c122, pz_c127, pz_c128, pz_c200, pz_c255, pz_c299, pz_c300, pz_c336, pz_c354, pz_c585, pz_c666, pz_c708, pz_c1000, pz_c1170, pz_c4095, pz_c4096, pz_c4608, pz_c1000000, nI_add, pk_mul, pk_sub, pz_sub, pk_div, pz_or, pz_and, pz_xor, pz_n31, pz_shl, pz_shr, pz_eq, pz_le, pz_lt, pz_eqm, pz_meq, pz_mmeq, pz_lem, pz_mle, pz_ltm, pz_mlt, pz_mmle, pz_mmlt, pz_rd, pz_ck, pz_let, pz_cl, pz_bind, pz_gd, pz_zbb, eI_of, eI_N, pz_leT, pz_leF, pz_ltT, pz_ltF, pz_eqT, pz_eqF, if_pos, if_neg, if_true, if_false, ite_true, ite_false, pz_b0, pz_b1i, pz_bf, pz_bt, Bool.false_eq_true, Bool.true_eq_false, decide_true, decide_false, and_true, and_false, true_and, false_and, and_self, or_true, or_false, true_or, false_or, or_self, not_true_eq_false, not_false_eq_true, ne_eq, reduceIte, eq_self, upd_at]
theorem pic_step {p : PL} {i : Nat} : (PCN s h w p i &&& (mkN (woF 4095 p.1 (pcol p i) 4) 60 ^^^ 18446744073709551615)) ||| mkN (woF (s (30 + wd w i)) p.1 (pcol p i) 4) 60 = PCN s h w p (i + 1) := by
  apply mkN_eq
  · exact Nat.or_lt_two_pow (and60 PCN_lt) (mkN_lt _ _)
  · intro c hc
    rw [Nat.testBit_or, Nat.testBit_and, PCN_bit hc, not_bit hc, mkN_bit, mkN_bit]
    simp only [hc, decide_true, Bool.true_and]
    rw [pcF, woF, woF]
    cases hb : inb p.1 (pcol p i) c
    · simp
    · simp only [inb, Bool.and_eq_true, decide_eq_true_eq] at hb
      have t : ∀ k, k < 12 → Nat.testBit 4095 k = true := by decide +kernel
      have hi : idx p.1 (pcol p i) c < 12 := by unfold idx; omega
      rw [t _ hi, decide_eq_true (show c / 12 < p.1 + 4 by omega)]
      simp
theorem x2_picture {le shapes cols : Nat → Int32} (hf : 5000 ≤ fu) (I : Iv s) (S : HR s shapes) (hw : okW s w) (hl : ∀ i, i < wl w → le i = nI (wd w i)) {p : PL} (hp : pok (s 0) (s 1) (wl w) p) (hC : CR cols (wl w) p) : f_X2_picture fu (nI p.1) cols shapes (nI (wl w)) le (lN (LI s h)) = some (lN (PCN s h w p (wl w))) := by
  have hr := wl_rng w
  have i0 := I.1
  have i1 := I.2.1
  have e0 : LI s h = PCN s h w p 0 := rfl
  rw [f_X2_picture, e0]
  refine pz_up (fun n i => X2_picture_L6 fu (nI p.1) cols shapes (nI (wl w)) le n (lN (PCN s h w p i)) (nI i)) (wl w) _ (fun n i hi => ?_) (fun n => ?_) fu 0 (by omega) (by omega)
  · have hc := pok_col (by omega) hp hi
    have hwd := wd_lt hw hi
    have i3 := I.2.2.2.1
    have hs := I.2.2.2.2.2.2.2.2.2.1 _ hwd
    have ea := x7_windowsOf (fu := fu) (sh := 4095) (y := p.1) (x := pcol p i) hf (by decide) (by omega) (by omega)
    have eb := x7_windowsOf (fu := fu) (sh := s (30 + wd w i)) (y := p.1) (x := pcol p i) hf hs (by omega) (by omega)
    have es := pic_step (s := s) (h := h) (w := w) (p := p) (i := i)
    have hci := hC i hi
    have hli := hl i hi
    have hsi := S _ hwd
    rw [X2_picture_L6]
    generalize X2_picture_L6 fu (nI p.1) cols shapes (nI (wl w)) le n = rec
    simp (disch := omega) only [f_X3_window, hci, hli, hsi, ea, eb, pz_c0, pz_c1, pz_c2, pz_c3, pz_c4, pz_c5, pz_c6, pz_c7, pz_c8, pz_c9, pz_c10, pz_c11, pz_c12, pz_c13, pz_c14, pz_c15, pz_c16, pz_c17, pz_c18, pz_c19, pz_c20, pz_c21, pz_c22, pz_c23, pz_c24, pz_c25, pz_c26, pz_c27, pz_c28, pz_c29, pz_c30, pz_c31, pz_c32, pz_c33, pz_c34, pz_c35, pz_c36, pz_c42, pz_c48, pz_c57, pz_c59, pz_c60, pz_c63, pz_c64, pz_c66, pz_c96, pz_c97, pz_c99, pz_c100, pz_c122, pz_c127, pz_c128, pz_c200, pz_c255, pz_c299, pz_c300, pz_c336, pz_c354, pz_c585, pz_c666, pz_c708, pz_c1000, pz_c1170, pz_c4095, pz_c4096, pz_c4608, pz_c1000000, nI_add, pk_mul, pk_sub, pz_sub, pk_div, pz_or, pz_and, pz_xor, pz_n31, pz_shl, pz_shr, pz_eq, pz_le, pz_lt, pz_eqm, pz_meq, pz_mmeq, pz_lem, pz_mle, pz_ltm, pz_mlt, pz_mmle, pz_mmlt, pz_rd, pz_ck, pz_let, pz_cl, pz_bind, pz_gd, pz_zbb, eI_of, eI_N, pz_leT, pz_leF, pz_ltT, pz_ltF, pz_eqT, pz_eqF, if_pos, if_neg, if_true, if_false, ite_true, ite_false, pz_b0, pz_b1i, pz_bf, pz_bt, Bool.false_eq_true, Bool.true_eq_false, decide_true, decide_false, and_true, and_false, true_and, false_and, and_self, or_true, or_false, true_or, false_or, or_self, not_true_eq_false, not_false_eq_true, ne_eq, reduceIte, eq_self, upd_at]
    rw [pz_negL, pz_xorL, pz_andL, pz_orL, es]
  · rw [X2_picture_L6]
    generalize X2_picture_L6 fu (nI p.1) cols shapes (nI (wl w)) le n = rec
    simp (disch := omega) only [pz_c0, pz_c1, pz_c2, pz_c3, pz_c4, pz_c5, pz_c6, pz_c7, pz_c8, pz_c9, pz_c10, pz_c11, pz_c12, pz_c13, pz_c14, pz_c15, pz_c16, pz_c17, pz_c18, pz_c19, pz_c20, pz_c21, pz_c22, pz_c23, pz_c24, pz_c25, pz_c26, pz_c27, pz_c28, pz_c29, pz_c30, pz_c31, pz_c32, pz_c33, pz_c34, pz_c35, pz_c36, pz_c42, pz_c48, pz_c57, pz_c59, pz_c60, pz_c63, pz_c64, pz_c66, pz_c96, pz_c97, pz_c99, pz_c100, pz_c122, pz_c127, pz_c128, pz_c200, pz_c255, pz_c299, pz_c300, pz_c336, pz_c354, pz_c585, pz_c666, pz_c708, pz_c1000, pz_c1170, pz_c4095, pz_c4096, pz_c4608, pz_c1000000, nI_add, pk_mul, pk_sub, pz_sub, pk_div, pz_or, pz_and, pz_xor, pz_n31, pz_shl, pz_shr, pz_eq, pz_le, pz_lt, pz_eqm, pz_meq, pz_mmeq, pz_lem, pz_mle, pz_ltm, pz_mlt, pz_mmle, pz_mmlt, pz_rd, pz_ck, pz_let, pz_cl, pz_bind, pz_gd, pz_zbb, eI_of, eI_N, pz_leT, pz_leF, pz_ltT, pz_ltF, pz_eqT, pz_eqF, if_pos, if_neg, if_true, if_false, ite_true, ite_false, pz_b0, pz_b1i, pz_bf, pz_bt, Bool.false_eq_true, Bool.true_eq_false, decide_true, decide_false, and_true, and_false, true_and, false_and, and_self, or_true, or_false, true_or, false_or, or_self, not_true_eq_false, not_false_eq_true, ne_eq, reduceIte, eq_self, upd_at]
/-- whether the picture at a place can be -/
def canP (s : Nat → Nat) (h w : Nat) (p : PL) : Nat → Bool
  | 0 => true
  | i + 1 => canP s h w p i && decide (prX s h w (12 * p.1 + pcol p i) (s (30 + wd w i)) ≠ 65535)
theorem canP_iff {p : PL} : ∀ m, canP s h w p m = true ↔ ∀ i, i < m → prX s h w (12 * p.1 + pcol p i) (s (30 + wd w i)) ≠ 65535
  | 0 => ⟨(fun _ i hi => absurd hi (Nat.not_lt_zero i)), (fun _ => rfl)⟩
  | m + 1 => by
    rw [canP, Bool.and_eq_true, canP_iff m, decide_eq_true_eq]
    constructor
    · rintro ⟨a, b⟩ i hi
      rcases Nat.lt_or_ge i m with q | q
      · exact a i q
      · obtain rfl : i = m := by omega
        exact b
    · intro a
      exact ⟨fun i hi => a i (by omega), a m (by omega)⟩
theorem pok_gap {W H n : Nat} {p : PL} (hn : n ≤ 3) (hp : pok W H n p) {i j : Nat} (hij : i < j) (hj : j < n) : pcol p i + 4 ≤ pcol p j := by
  obtain ⟨a, q⟩ := hp
  rcases (show n = 1 ∨ n = 2 ∨ n = 3 by omega) with e | e | e
  · omega
  · subst e
    rw [if_neg (by decide), if_pos rfl] at q
    obtain rfl : i = 0 := by omega
    obtain rfl : j = 1 := by omega
    simp only [pcol]; simp; omega
  · subst e
    rw [if_neg (by decide), if_neg (by decide)] at q
    rcases (show (i = 0 ∧ j = 1) ∨ (i = 0 ∧ j = 2) ∨ (i = 1 ∧ j = 2) by omega) with ⟨g1, g2⟩ | ⟨g1, g2⟩ | ⟨g1, g2⟩ <;> subst g1 <;> subst g2 <;> simp only [pcol] <;> simp <;> omega
theorem pcF_in {p : PL} {W H n : Nat} (hW : W ≤ 12) (hn : n ≤ 3) (hp : pok W H n p) {i c : Nat} (hi : i < n) (hb : inb p.1 (pcol p i) c = true) : ∀ m, i < m → m ≤ n → pcF s h w p m c = (s (30 + wd w i)).testBit (idx p.1 (pcol p i) c)
  | 0, h1, _ => absurd h1 (Nat.not_lt_zero i)
  | m + 1, h1, h2 => by
    rw [pcF]
    rcases Nat.lt_or_ge i m with q | q
    · have hg := pok_gap hn hp q (by omega)
      have hno : inb p.1 (pcol p m) c = false := by
        rw [← Bool.not_eq_true]
        intro hb2
        simp only [inb, Bool.and_eq_true, decide_eq_true_eq] at hb hb2
        omega
      rw [hno, if_neg (by decide)]
      exact pcF_in hW hn hp hi hb m q (by omega)
    · obtain rfl : i = m := by omega
      rw [if_pos hb]
theorem pcF_out {p : PL} {c : Nat} : ∀ m, (∀ i, i < m → inb p.1 (pcol p i) c = false) → pcF s h w p m c = litP s h c
  | 0, _ => rfl
  | m + 1, g => by
    rw [pcF, g m (by omega), if_neg (by decide)]
    exact pcF_out m (fun i hi => g i (by omega))
theorem pic_can (I : Iv s) (hh : h < 4) (hw : okW s w) {p : PL} (hp : pok (s 0) (s 1) (wl w) p) : ((PCN s h w p (wl w) ^^^ LI s h) &&& (MAY s h w 63 ^^^ 18446744073709551615) = 0) ↔ canP s h w p (wl w) = true := by
  have hr := wl_rng w
  have i0 := I.1
  have i1 := I.2.1
  have hLI : ∀ c, c < 60 → (LI s h).testBit c = litP s h c := fun c hc => LI_bit hc
  have hMY : ∀ c, c < 60 → (MAY s h w 63).testBit c = mayB s h w 63 c := fun c hc => by rw [MAY, mkN_bit]; simp [hc]
  have main : ((PCN s h w p (wl w) ^^^ LI s h) &&& (MAY s h w 63 ^^^ 18446744073709551615) = 0) ↔ ∀ c, c < 60 → pcF s h w p (wl w) c ≠ litP s h c → mayB s h w 63 c = true := by
    constructor
    · intro g c hc hne
      have := congrArg (fun z => z.testBit c) g
      simp only [Nat.testBit_and, Nat.testBit_xor, Nat.zero_testBit, PCN_bit hc, hLI c hc, hMY c hc, all60 hc] at this
      revert this hne
      cases pcF s h w p (wl w) c <;> cases litP s h c <;> cases mayB s h w 63 c <;> simp
    · intro g
      apply Nat.eq_of_testBit_eq
      intro c
      rcases Nat.lt_or_ge c 60 with hc | hc
      · rw [Nat.testBit_and, Nat.testBit_xor, not_bit hc, PCN_bit hc, hLI c hc, hMY c hc, Nat.zero_testBit]
        have := g c hc
        revert this
        cases pcF s h w p (wl w) c <;> cases litP s h c <;> cases mayB s h w 63 c <;> simp
      · rw [Nat.testBit_and, Nat.testBit_lt_two_pow (x := PCN s h w p (wl w) ^^^ LI s h) (Nat.lt_of_lt_of_le (Nat.xor_lt_two_pow PCN_lt (LI_lt s h)) (Nat.pow_le_pow_right (n := 2) (by decide) hc)), Nat.zero_testBit]
        rfl
  rw [main, canP_iff]
  constructor
  · intro g i hi
    have hc := pok_col (by omega) hp hi
    have hwd := wd_lt hw hi
    have hs := I.2.2.2.2.2.2.2.2.2.1 _ hwd
    refine (mu_price I hh (boxB_lt I (pok_box I (by omega) hp hi)) hs).mp ((mu_iff hs).mpr (fun k hk hb => ?_))
    have hcl : cel (12 * p.1 + pcol p i) k < 60 := cel_lt (boxB_lt I (pok_box I (by omega) hp hi)) hk
    have e1 : cel (12 * p.1 + pcol p i) k % 12 = pcol p i + k % 3 := by unfold cel; omega
    have e2 : cel (12 * p.1 + pcol p i) k / 12 = p.1 + k / 3 := by unfold cel; omega
    have hin : inb p.1 (pcol p i) (cel (12 * p.1 + pcol p i) k) = true := by
      simp only [inb, Bool.and_eq_true, decide_eq_true_eq]
      rw [e1, e2]
      refine ⟨?_, ?_, ?_, ?_⟩ <;> omega
    have hid : idx p.1 (pcol p i) (cel (12 * p.1 + pcol p i) k) = k := by
      unfold idx
      rw [e1, e2]
      omega
    have hv := pcF_in (s := s) (h := h) (w := w) i0.2 (by omega) hp hi hin (wl w) hi (Nat.le_refl _)
    rw [hid] at hv
    refine g _ hcl ?_
    rw [hv]
    rw [Nat.testBit_xor, shL, shp, mkN_bit] at hb
    simp only [hk, decide_true, Bool.true_and] at hb
    intro e
    rw [e, litP, show cel (12 * p.1 + pcol p i) k = 12 * p.1 + pcol p i + 12 * (k / 3) + k % 3 from rfl] at hb
    simp at hb
  · intro g c hc hne
    by_cases hex : ∃ i, i < wl w ∧ inb p.1 (pcol p i) c = true
    · obtain ⟨i, hi, hin⟩ := hex
      have hc2 := pok_col (by omega) hp hi
      have hwd := wd_lt hw hi
      have hs := I.2.2.2.2.2.2.2.2.2.1 _ hwd
      have hk := (mu_iff hs).mp ((mu_price I hh (boxB_lt I (pok_box I (by omega) hp hi)) hs).mpr (g i hi))
      have hv := pcF_in (s := s) (h := h) (w := w) i0.2 (by omega) hp hi hin (wl w) hi (Nat.le_refl _)
      simp only [inb, Bool.and_eq_true, decide_eq_true_eq] at hin
      have hid : idx p.1 (pcol p i) c < 12 := by unfold idx; omega
      have hce : cel (12 * p.1 + pcol p i) (idx p.1 (pcol p i) c) = c := by unfold cel idx; omega
      have := hk _ hid (by
        rw [Nat.testBit_xor, shL, shp, mkN_bit]
        simp only [hid, decide_true, Bool.true_and]
        rw [show 12 * p.1 + pcol p i + 12 * (idx p.1 (pcol p i) c / 3) + idx p.1 (pcol p i) c % 3 = c from hce]
        rw [hv, litP] at hne
        revert hne
        cases (s (30 + wd w i)).testBit (idx p.1 (pcol p i) c) <;> cases decide (s (96 + 60 * h + c) = 1) <;> simp)
      rw [hce] at this
      exact this
    · exfalso
      apply hne
      apply pcF_out
      intro i hi
      rw [← Bool.not_eq_true]
      intro q
      exact hex ⟨i, hi, q⟩
/-- the pictures that can be, in the order of their places -/
def WL (s : Nat → Nat) (h w : Nat) : Nat → List Nat
  | 0 => []
  | k + 1 => if canP s h w (plk (s 0) (wl w) k) (wl w) = true then WL s h w k ++ [PCN s h w (plk (s 0) (wl w) k) (wl w)] else WL s h w k
def AL (ar : Nat → Int64) (o : Nat) (l : List Nat) : Prop := ∀ j, j < l.length → ar (o + j) = lN (l.getD j 0)
theorem WL_len : ∀ k, (WL s h w k).length ≤ k
  | 0 => Nat.le_refl 0
  | k + 1 => by
    have := WL_len k
    rw [WL]
    split
    · rw [List.length_append, List.length_singleton]; omega
    · omega
theorem WL_lt : ∀ k x, x ∈ WL s h w k → x < 2 ^ 60
  | 0, x, hx => by cases hx
  | k + 1, x, hx => by
    rw [WL] at hx
    split at hx
    · rcases List.mem_append.mp hx with q | q
      · exact WL_lt k x q
      · rw [List.mem_singleton] at q
        rw [q]; exact PCN_lt
    · exact WL_lt k x hx
theorem AL_push {ar : Nat → Int64} {o x : Nat} {l : List Nat} (hA : AL ar o l) : AL (vp_updL ar (o + l.length) (lN x)) o (l ++ [x]) := by
  intro j hj
  rw [List.length_append, List.length_singleton] at hj
  by_cases e : j = l.length
  · subst e
    rw [pk_uLs]
    simp
  · rw [pk_uLn (by omega), hA j (by omega), List.getD_eq_getElem?_getD, List.getD_eq_getElem?_getD, List.getElem?_append_left (by omega)]
theorem x2_find {kn y bo lc lt : Int32} {li : Nat → Int64} {le shapes co kinds painOf payFor refused : Nat → Int32} {owned litIn : Nat → Int64} {bits : Nat} (hf : 5000 ≤ fu) (I : Iv s) (T : TR s kinds painOf payFor refused owned) (L : LR s litIn) (S : HR s shapes) (hh : h < 4) (hw : okW s w) (hl : LW w bits le) : ∃ r, f_X2_find fu kn li y bo lc lt co (nI (s 0)) (nI (s 1)) (nI (s 2)) kinds refused owned litIn shapes (nI (wl w)) (nI bits) le (nI h) = some r ∧ r.1 = nI (WL s h w (PN (s 0) (s 1) (wl w))).length ∧ AL r.2.1 0 (WL s h w (PN (s 0) (s 1) (wl w))) := by
  have hr := wl_rng w
  have i0 := I.1
  have i1 := I.2.1
  have hN := pl_le i0 i1 hr
  obtain ⟨c1, hC1, eb⟩ := x3_begin (fu := fu) (cols := co) (y := y) (b := bo) (lc := lc) (lt := lt) hf i0 i1 hr
  rw [f_X2_find, eb, pz_bind]
  by_cases h0 : 0 < PN (s 0) (s 1) (wl w)
  · have ech := x5_changeable (fu := fu) (w := w) (set := 63) (bits := bits) hf I T L hh (by decide) hl.1 hl.2.1
    rw [decide_eq_true h0]
    dsimp only
    rw [if_neg b_t, show f_X5_changeable fu (nI (s 2)) kinds refused owned litIn (nI h) (nI bits) 63 = _ from ech, pz_bind]
    refine pz_rel (fun n k (a : Int32 × (Nat → Int64) × Int32 × (Nat → Int32)) => X2_find_L37 fu (nI (wl w)) (nI (s 0 - 3)) (nI (s 1 - 4)) (nI (s 0)) (nI (s 1)) (nI (s 2)) kinds refused owned litIn shapes (nI (wl w)) (nI bits) le (nI h) (lN (MAY s h w 63)) n a.1 a.2.1 a.2.2.1 a.2.2.2 (nI k)) (fun k a => k < PN (s 0) (s 1) (wl w) ∧ a.1 = nI (WL s h w k).length ∧ AL a.2.1 0 (WL s h w k) ∧ a.2.2.1 = nI (plk (s 0) (wl w) k).1 ∧ CR a.2.2.2 (wl w) (plk (s 0) (wl w) k)) (PN (s 0) (s 1) (wl w)) _ (fun n k a hk ha => ?_) (fun n a ha => absurd ha.1 (Nat.lt_irrefl _)) fu 0 (nI 0, li, nI 0, c1) (by omega) (by omega) ⟨h0, rfl, (fun j hj => absurd hj (Nat.not_lt_zero j)), rfl, hC1⟩
    obtain ⟨a1, a2, a3, a4⟩ := a
    obtain ⟨-, h1, h2, h3, h4⟩ := ha
    simp only at h1 h2 h3 h4
    subst h1
    subst h3
    have hp := (pl_at i0 i1 hr (k := k) (by omega)).1 hk
    have hat := pl_at i0 i1 hr (k := k + 1) (by omega)
    obtain ⟨c2, hc2, eg⟩ := x3_goOn (fu := fu) hf i0 i1 hr hp h4
    have epi := x2_picture (fu := fu) (h := h) hf I S hw hl.2.2 hp h4
    have hcan := pic_can I hh hw hp
    have hlen := WL_len (s := s) (h := h) (w := w) k
    have h42 : ¬ (42 : Int32) ≤ nI k := by rw [pz_c42, pz_le (by decide) (by omega)]; omega
    have h42b : ¬ (42 : Int32) ≤ nI (WL s h w k).length := by rw [pz_c42, pz_le (by decide) (by omega)]; omega
    have hz : (lg_cmp ((lN (PCN s h w (plk (s 0) (wl w) k) (wl w)) ^^^ lN (LI s h)) &&& (lN (MAY s h w 63) ^^^ (-1 : Int64))) (0 : Int64) = 0) = (canP s h w (plk (s 0) (wl w) k) (wl w) = true) := by
      rw [pz_negL, pz_xorL, pz_xorL, pz_andL, pz_L0, pz_c0, pz_cmp (lt60 (and60 (Nat.xor_lt_two_pow PCN_lt (LI_lt s h)))) (by decide)]
      exact propext hcan
    -- the state behind this place
    have behind : ∃ v2, AL v2 0 (WL s h w (k + 1)) ∧ X2_find_L37 fu (nI (wl w)) (nI (s 0 - 3)) (nI (s 1 - 4)) (nI (s 0)) (nI (s 1)) (nI (s 2)) kinds refused owned litIn shapes (nI (wl w)) (nI bits) le (nI h) (lN (MAY s h w 63)) (n + 1) (nI (WL s h w k).length) a2 (nI (plk (s 0) (wl w) k).1) a4 (nI k) = X2_find_J109 fu (X2_find_L37 fu (nI (wl w)) (nI (s 0 - 3)) (nI (s 1 - 4)) (nI (s 0)) (nI (s 1)) (nI (s 2)) kinds refused owned litIn shapes (nI (wl w)) (nI bits) le (nI h) (lN (MAY s h w 63)) n) (nI (WL s h w (k + 1)).length) v2 (nI (plk (s 0) (wl w) k).1) (nI (wl w)) (nI (s 0 - 3)) (nI (s 1 - 4)) a4 (nI (s 0)) (nI (s 1)) (nI (s 2)) kinds refused owned litIn shapes (nI (wl w)) (nI bits) le (nI h) (lN (MAY s h w 63)) (nI k) := by
      by_cases hc : canP s h w (plk (s 0) (wl w) k) (wl w) = true
      · have hp2 := AL_push (x := PCN s h w (plk (s 0) (wl w) k) (wl w)) h2
        rw [Nat.zero_add] at hp2
        refine ⟨vp_updL a2 (WL s h w k).length (lN (PCN s h w (plk (s 0) (wl w) k) (wl w))), ?_, ?_⟩
        · rw [WL, if_pos hc]; exact hp2
        · rw [X2_find_L37, if_neg h42, pz_rd _ _ hh (by omega), L h hh, epi, pz_bind, pz_rd _ _ hh (by omega), L h hh, if_pos (by rw [hz]; exact hc), if_neg h42b, pz_ck _ (by omega) (by omega), pz_cl (by omega), nI_1, WL, if_pos hc, List.length_append, List.length_singleton]
      · refine ⟨a2, ?_, ?_⟩
        · rw [WL, if_neg hc]; exact h2
        · rw [X2_find_L37, if_neg h42, pz_rd _ _ hh (by omega), L h hh, epi, pz_bind, pz_rd _ _ hh (by omega), L h hh, if_neg (by rw [hz]; exact hc), WL, if_neg hc]
    obtain ⟨v2, k1, k2⟩ := behind
    rcases Nat.lt_or_ge (k + 1) (PN (s 0) (s 1) (wl w)) with hnx | hnx
    · right
      refine ⟨(nI (WL s h w (k + 1)).length, v2, nI (plk (s 0) (wl w) (k + 1)).1, c2), ⟨hnx, rfl, k1, rfl, hc2⟩, ?_⟩
      refine k2.trans ?_
      have hgo : decide ((pnx (s 0) (wl w) (plk (s 0) (wl w) k)).1 + 4 ≤ s 1) = true := decide_eq_true (hat.1 hnx).1
      rw [X2_find_J109, eg, pz_bind, hgo]
      dsimp only
      rw [if_neg b_t, nI_1]
      rfl
    · left
      have hgo : decide ((pnx (s 0) (wl w) (plk (s 0) (wl w) k)).1 + 4 ≤ s 1) = false := by
        have h5 := hat.2 (by omega)
        rw [if_neg (by omega)] at h5
        apply decide_eq_false
        rw [show pnx (s 0) (wl w) (plk (s 0) (wl w) k) = plk (s 0) (wl w) (k + 1) from rfl]
        omega
      rw [show k + 1 = PN (s 0) (s 1) (wl w) by omega] at k1 k2
      refine ⟨_, k2.trans (by rw [X2_find_J109, eg, pz_bind, hgo]; dsimp only; rw [if_pos b_f]), rfl, k1⟩
  · have e0 : PN (s 0) (s 1) (wl w) = 0 := by omega
    rw [decide_eq_false h0, e0]
    dsimp only
    rw [if_pos b_f]
    exact ⟨_, rfl, rfl, fun j hj => absurd hj (Nat.not_lt_zero j)⟩
end
