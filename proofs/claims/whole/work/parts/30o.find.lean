/-! THE CLASS FINDS THE LEAST PAINS -/
section
variable {fu : Nat} {s : Nat → Nat} {kinds painOf payFor refused shapes dv le : Nat → Int32} {owned litIn : Nat → Int64} {h w bits : Nat}
def sumI (s : Nat → Nat) (h w : Nat) (p : PL) : Nat → Nat
  | 0 => 0
  | i + 1 => sumI s h w p i + (if (BX s h w i (12 * p.1 + pcol p i)).1 = 65535 then 1000000 else (BX s h w i (12 * p.1 + pcol p i)).1)
theorem sumI_q (I : Iv s) {p : PL} (hp : pok (s 0) (s 1) (wl w) p) : ∀ i, i ≤ wl w → sumI s h w p i ≤ 1000000 * i ∧ ((totS s h w p i = 65535 ∧ 1000000 ≤ sumI s h w p i) ∨ (totS s h w p i ≠ 65535 ∧ sumI s h w p i = totS s h w p i))
  | 0, _ => ⟨Nat.le_refl 0, Or.inr ⟨by rw [totS]; decide, rfl⟩⟩
  | i + 1, hi => by
    have hr := wl_rng w
    have ih := sumI_q I hp i (by omega)
    have ht := totS_rng (s := s) (h := h) I hp i (by omega)
    have hb := BX_rng (s := s) (h := h) (w := w) (i := i) I (boxB_lt I (pok_box I (n := wl w) (by omega) hp (i := i) (by omega)))
    rw [sumI, totS]
    by_cases g : (BX s h w i (12 * p.1 + pcol p i)).1 = 65535
    · rw [if_pos g, if_pos (Or.inl g)]
      refine ⟨by omega, Or.inl ⟨rfl, by omega⟩⟩
    · rw [if_neg g]
      by_cases g2 : totS s h w p i = 65535
      · rw [if_pos (Or.inr g2)]
        refine ⟨by omega, Or.inl ⟨rfl, by omega⟩⟩
      · rw [if_neg (by omega)]
        refine ⟨by omega, Or.inr ⟨by omega, by omega⟩⟩
theorem pI_at {p : PL} {i : Nat} : pI (BX s h w i (12 * p.1 + pcol p i)).1 = nI (if (BX s h w i (12 * p.1 + pcol p i)).1 = 65535 then 1000000 else (BX s h w i (12 * p.1 + pcol p i)).1) := by
  unfold pI
  split <;> rfl
theorem pok_rng {W H n : Nat} {p : PL} (hn : n ≤ 3) (hp : pok W H n p) {i : Nat} (hi : i < n) : 4 * i ≤ pcol p i ∧ pcol p i + 3 + 4 * (n - 1 - i) ≤ W := by
  obtain ⟨a, q⟩ := hp
  rcases (show n = 1 ∨ n = 2 ∨ n = 3 by omega) with e | e | e
  · subst e
    rw [if_pos rfl] at q
    obtain rfl : i = 0 := by omega
    simp only [pcol]
    simp
    omega
  · subst e
    rw [if_neg (by decide), if_pos rfl] at q
    rcases (show i = 0 ∨ i = 1 by omega) with g | g <;> subst g <;> simp only [pcol] <;> simp <;> omega
  · subst e
    rw [if_neg (by decide), if_neg (by decide)] at q
    rcases (show i = 0 ∨ i = 1 ∨ i = 2 by omega) with g | g | g <;> subst g <;> simp only [pcol] <;> simp <;> omega
/-- what a place asks of the boxes' rows -/
theorem PS_at {b : S7} (I : Iv s) (hb : PSd s h w b (fun _ _ _ => True)) {p : PL} (hp : pok (s 0) (s 1) (wl w) p) {i : Nat} (hi : i < wl w) : sel3 i b.2.1 b.2.2.1 b.2.2.2.1 (12 * p.1 + pcol p i) = pI (BX s h w i (12 * p.1 + pcol p i)).1 ∧ ((BX s h w i (12 * p.1 + pcol p i)).1 ≠ 65535 → sel3 i b.2.2.2.2.1 b.2.2.2.2.2.1 b.2.2.2.2.2.2 (12 * p.1 + pcol p i) = nI (BX s h w i (12 * p.1 + pcol p i)).2) := by
  have hr := wl_rng w
  have hc := pok_col (by omega) hp hi
  have hg := pok_rng (by omega) hp hi
  exact hb i p.1 (pcol p i) hi hc.2 hg.1 hg.2 trivial
theorem x1_keep {p0 p1 p2 cols s0 s1 s2 wi sh : Nat → Int32} {b : S7} (hf : 5000 ≤ fu) (I : Iv s) (hb : PSd s h w b (fun _ _ _ => True)) {p : PL} (hp : pok (s 0) (s 1) (wl w) p) (hC : CR cols (wl w) p) (hn : ∀ i, i < wl w → (BX s h w i (12 * p.1 + pcol p i)).1 ≠ 65535) : ∃ r, f_X1_keepPlace fu wi sh (nI p.1) cols b.2.2.2.2.1 b.2.2.2.2.2.1 b.2.2.2.2.2.2 (nI (wl w)) = some r ∧ ∀ i, i < wl w → r.1 i = nI (12 * p.1 + pcol p i) ∧ r.2 i = nI (BX s h w i (12 * p.1 + pcol p i)).2 := by
  have hr := wl_rng w
  have i0 := I.1
  have i1 := I.2.1
  rw [f_X1_keepPlace]
  refine pz_rel (fun n i (a : (Nat → Int32) × (Nat → Int32)) => X1_keepPlace_L2 fu (nI p.1) cols b.2.2.2.2.1 b.2.2.2.2.2.1 b.2.2.2.2.2.2 (nI (wl w)) n a.1 a.2 (nI i)) (fun i a => ∀ j, j < i → a.1 j = nI (12 * p.1 + pcol p j) ∧ a.2 j = nI (BX s h w j (12 * p.1 + pcol p j)).2) (wl w) _ (fun n i a hi ha => ?_) (fun n a ha => ?_) fu 0 (wi, sh) (by omega) (by omega) (fun j hj => absurd hj (Nat.not_lt_zero j))
  · right
    have hc := pok_col (by omega) hp hi
    have hx := (PS_at I hb hp hi).2 (hn i hi)
    refine ⟨(upd a.1 i (nI (12 * p.1 + pcol p i)), upd a.2 i (nI (BX s h w i (12 * p.1 + pcol p i)).2)), fun j hj => ?_, ?_⟩
    · by_cases e : j = i
      · subst e
        try simp only
        rw [pk_us, pk_us]
        exact ⟨rfl, rfl⟩
      · try simp only
        rw [pk_un e, pk_un e]
        exact ha j (by omega)
    · try simp only
      rw [X1_keepPlace_L2]
      generalize X1_keepPlace_L2 fu (nI p.1) cols b.2.2.2.2.1 b.2.2.2.2.2.1 b.2.2.2.2.2.2 (nI (wl w)) n = rec
      have hci := hC i hi
      rcases (show i = 0 ∨ i = 1 ∨ i = 2 by omega) with e | e | e <;> subst e <;> simp only [sel3] at hx <;> simp at hx <;> simp (disch := omega) only [f_X3_window, hci, pk_us, hx, pz_c0, pz_c1, pz_c2, pz_c3, pz_c4, pz_c5, pz_c6, pz_c7, pz_c8, pz_c9, pz_c10, pz_c11, pz_c12, pz_c13, pz_c14, pz_c15, pz_c16, pz_c17, pz_c18, pz_c19, pz_c20, pz_c21, pz_c22, pz_c23, pz_c24, pz_c25, pz_c26, pz_c27, pz_c28, pz_c29, pz_c30, pz_c31, pz_c32, pz_c33, pz_c34, pz_c35, pz_c36, pz_c42, pz_c48, pz_c57, pz_c59, pz_c60, pz_c63, pz_c64, pz_c66, pz_c96, pz_c97, pz_c99, pz_c100, pz_c122, pz_c127, pz_c128, pz_c200, pz_c255, pz_c299, pz_c300, pz_c336, pz_c354, pz_c585, pz_c666, pz_c708, pz_c1000, pz_c1170, pz_c4095, pz_c4096, pz_c4608, pz_c1000000, nI_add, pk_mul, pk_sub, pz_sub, pk_div, pz_or, pz_and, pz_xor, pz_n31, pz_shl, pz_shr, pz_eq, pz_le, pz_lt, pz_eqm, pz_meq, pz_mmeq, pz_lem, pz_mle, pz_ltm, pz_mlt, pz_mmle, pz_mmlt, pz_rd, pz_ck, pz_let, pz_cl, pz_bind, pz_gd, pz_zbb, eI_of, eI_N, pz_leT, pz_leF, pz_ltT, pz_ltF, pz_eqT, pz_eqF, if_pos, if_neg, if_true, if_false, ite_true, ite_false, pz_b0, pz_b1i, pz_bf, pz_bt, Bool.false_eq_true, Bool.true_eq_false, decide_true, decide_false, and_true, and_false, true_and, false_and, and_self, or_true, or_false, true_or, false_or, or_self, not_true_eq_false, not_false_eq_true, ne_eq, reduceIte, eq_self, upd_at]
  · refine ⟨a, ?_, ha⟩
    try simp only
    rw [X1_keepPlace_L2]
    generalize X1_keepPlace_L2 fu (nI p.1) cols b.2.2.2.2.1 b.2.2.2.2.2.1 b.2.2.2.2.2.2 (nI (wl w)) n = rec
    simp (disch := omega) only [pz_c0, pz_c1, pz_c2, pz_c3, pz_c4, pz_c5, pz_c6, pz_c7, pz_c8, pz_c9, pz_c10, pz_c11, pz_c12, pz_c13, pz_c14, pz_c15, pz_c16, pz_c17, pz_c18, pz_c19, pz_c20, pz_c21, pz_c22, pz_c23, pz_c24, pz_c25, pz_c26, pz_c27, pz_c28, pz_c29, pz_c30, pz_c31, pz_c32, pz_c33, pz_c34, pz_c35, pz_c36, pz_c42, pz_c48, pz_c57, pz_c59, pz_c60, pz_c63, pz_c64, pz_c66, pz_c96, pz_c97, pz_c99, pz_c100, pz_c122, pz_c127, pz_c128, pz_c200, pz_c255, pz_c299, pz_c300, pz_c336, pz_c354, pz_c585, pz_c666, pz_c708, pz_c1000, pz_c1170, pz_c4095, pz_c4096, pz_c4608, pz_c1000000, nI_add, pk_mul, pk_sub, pz_sub, pk_div, pz_or, pz_and, pz_xor, pz_n31, pz_shl, pz_shr, pz_eq, pz_le, pz_lt, pz_eqm, pz_meq, pz_mmeq, pz_lem, pz_mle, pz_ltm, pz_mlt, pz_mmle, pz_mmlt, pz_rd, pz_ck, pz_let, pz_cl, pz_bind, pz_gd, pz_zbb, eI_of, eI_N, pz_leT, pz_leF, pz_ltT, pz_ltF, pz_eqT, pz_eqF, if_pos, if_neg, if_true, if_false, ite_true, ite_false, pz_b0, pz_b1i, pz_bf, pz_bt, Bool.false_eq_true, Bool.true_eq_false, decide_true, decide_false, and_true, and_false, true_and, false_and, and_self, or_true, or_false, true_or, false_or, or_self, not_true_eq_false, not_false_eq_true, ne_eq, reduceIte, eq_self, upd_at]
theorem tot_N {p : PL} {m : Nat} (ht : totS s h w p m ≠ 65535) (i : Nat) (hi : i < m) : (BX s h w i (12 * p.1 + pcol p i)).1 ≠ 65535 := by
  induction m with
  | zero => exact absurd hi (Nat.not_lt_zero i)
  | succ m ih =>
    rw [totS] at ht
    split at ht
    · exact absurd rfl ht
    · rename_i g
      rcases Nat.lt_or_ge i m with q | q
      · exact ih (fun e => g (Or.inr e)) q
      · obtain rfl : i = m := by omega
        exact fun e => g (Or.inl e)
/-- the sum of a place, and what follows it -/
theorem f1_sum {rec35 : (Nat → Int32) → (Nat → Int32) → Int32 → (Nat → Int32) → Int32 → Int32 → Option (Int32 × (Nat → Int32) × (Nat → Int32) × Int32 × Int32 × Int32 × Int32 × (Nat → Int32) × (Nat → Int32) × (Nat → Int32) × (Nat → Int32) × (Nat → Int32) × (Nat → Int32) × (Nat → Int32) × (Nat → Int32))} {q0 lc lt wd2 hi2 v5 : Int32} {wi sh cols : Nat → Int32} {b : S7} (hf : 5000 ≤ fu) (I : Iv s) (hb : PSd s h w b (fun _ _ _ => True)) {p : PL} (hp : pok (s 0) (s 1) (wl w) p) (hC : CR cols (wl w) p) {B : Nat} (hB : B = 65535 ∨ B ≤ 756) : ∃ r : (Nat → Int32) × (Nat → Int32), (totS s h w p (wl w) < B → ∀ i, i < wl w → r.1 i = nI (12 * p.1 + pcol p i) ∧ r.2 i = nI (BX s h w i (12 * p.1 + pcol p i)).2) ∧ X1_find_L48 fu rec35 q0 wi sh (nI p.1) (nI (wl w)) lc lt cols dv b.1 b.2.1 b.2.2.1 b.2.2.2.1 b.2.2.2.2.1 b.2.2.2.2.2.1 b.2.2.2.2.2.2 wd2 hi2 (nI (s 5)) (nI (s 2)) (nI (s 3)) kinds painOf refused owned litIn shapes (nI (wl w)) (nI bits) le (pI B) v5 fu 0 0 = if totS s h w p (wl w) < B then X1_find_J104 fu rec35 q0 r.1 r.2 (nI p.1) (nI (wl w)) lc lt cols dv b.1 b.2.1 b.2.2.1 b.2.2.2.1 b.2.2.2.2.1 b.2.2.2.2.2.1 b.2.2.2.2.2.2 wd2 hi2 (nI (s 5)) (nI (s 2)) (nI (s 3)) kinds painOf refused owned litIn shapes (nI (wl w)) (nI bits) le (nI (totS s h w p (wl w))) v5 else X1_find_J104 fu rec35 q0 wi sh (nI p.1) (nI (wl w)) lc lt cols dv b.1 b.2.1 b.2.2.1 b.2.2.2.1 b.2.2.2.2.1 b.2.2.2.2.2.1 b.2.2.2.2.2.2 wd2 hi2 (nI (s 5)) (nI (s 2)) (nI (s 3)) kinds painOf refused owned litIn shapes (nI (wl w)) (nI bits) le (pI B) v5 := by
  have hr := wl_rng w
  have i0 := I.1
  have i1 := I.2.1
  have hsq := sumI_q (s := s) (h := h) I hp (wl w) (Nat.le_refl _)
  have ht := totS_rng (s := s) (h := h) I hp (wl w) (Nat.le_refl _)
  have loop : X1_find_L48 fu rec35 q0 wi sh (nI p.1) (nI (wl w)) lc lt cols dv b.1 b.2.1 b.2.2.1 b.2.2.2.1 b.2.2.2.2.1 b.2.2.2.2.2.1 b.2.2.2.2.2.2 wd2 hi2 (nI (s 5)) (nI (s 2)) (nI (s 3)) kinds painOf refused owned litIn shapes (nI (wl w)) (nI bits) le (pI B) v5 fu (nI 0) (nI 0) = if pI B ≤ nI (sumI s h w p (wl w)) then X1_find_J104 fu rec35 q0 wi sh (nI p.1) (nI (wl w)) lc lt cols dv b.1 b.2.1 b.2.2.1 b.2.2.2.1 b.2.2.2.2.1 b.2.2.2.2.2.1 b.2.2.2.2.2.2 wd2 hi2 (nI (s 5)) (nI (s 2)) (nI (s 3)) kinds painOf refused owned litIn shapes (nI (wl w)) (nI bits) le (pI B) v5 else (f_X1_keepPlace fu wi sh (nI p.1) cols b.2.2.2.2.1 b.2.2.2.2.2.1 b.2.2.2.2.2.2 (nI (wl w))).bind fun t101 => X1_find_J104 fu rec35 q0 t101.1 t101.2 (nI p.1) (nI (wl w)) lc lt cols dv b.1 b.2.1 b.2.2.1 b.2.2.2.1 b.2.2.2.2.1 b.2.2.2.2.2.1 b.2.2.2.2.2.2 wd2 hi2 (nI (s 5)) (nI (s 2)) (nI (s 3)) kinds painOf refused owned litIn shapes (nI (wl w)) (nI bits) le (nI (sumI s h w p (wl w))) v5 := by
    refine pz_up (fun n i => X1_find_L48 fu rec35 q0 wi sh (nI p.1) (nI (wl w)) lc lt cols dv b.1 b.2.1 b.2.2.1 b.2.2.2.1 b.2.2.2.2.1 b.2.2.2.2.2.1 b.2.2.2.2.2.2 wd2 hi2 (nI (s 5)) (nI (s 2)) (nI (s 3)) kinds painOf refused owned litIn shapes (nI (wl w)) (nI bits) le (pI B) v5 n (nI (sumI s h w p i)) (nI i)) (wl w) _ (fun n i hi => ?_) (fun n => ?_) fu 0 (by omega) (by omega)
    · have hc := pok_col (by omega) hp hi
      have hx := (PS_at I hb hp hi).1
      have hq := sumI_q (s := s) (h := h) I hp i (by omega)
      have hci := hC i hi
      rw [pI_at] at hx
      rw [X1_find_L48]
      generalize X1_find_L48 fu rec35 q0 wi sh (nI p.1) (nI (wl w)) lc lt cols dv b.1 b.2.1 b.2.2.1 b.2.2.2.1 b.2.2.2.2.1 b.2.2.2.2.2.1 b.2.2.2.2.2.2 wd2 hi2 (nI (s 5)) (nI (s 2)) (nI (s 3)) kinds painOf refused owned litIn shapes (nI (wl w)) (nI bits) le (pI B) v5 n = rec
      rw [sumI]
      rcases (show i = 0 ∨ i = 1 ∨ i = 2 by omega) with e | e | e <;> subst e <;> simp only [sel3] at hx <;> simp at hx <;> simp (disch := omega) only [f_X3_window, hci, pz_c0, pz_c1, pz_c2, pz_c3, pz_c4, pz_c5, pz_c6, pz_c7, pz_c8, pz_c9, pz_c10, pz_c11, pz_c12, pz_c13, pz_c14, pz_c15, pz_c16, pz_c17, pz_c18, pz_c19, pz_c20, pz_c21, pz_c22, pz_c23, pz_c24, pz_c25, pz_c26, pz_c27, pz_c28, pz_c29, pz_c30, pz_c31, pz_c32, pz_c33, pz_c34, pz_c35, pz_c36, pz_c42, pz_c48, pz_c57, pz_c59, pz_c60, pz_c63, pz_c64, pz_c66, pz_c96, pz_c97, pz_c99, pz_c100, pz_c122, pz_c127, pz_c128, pz_c200, pz_c255, pz_c299, pz_c300, pz_c336, pz_c354, pz_c585, pz_c666, pz_c708, pz_c1000, pz_c1170, pz_c4095, pz_c4096, pz_c4608, pz_c1000000, nI_add, pk_mul, pk_sub, pz_sub, pk_div, pz_or, pz_and, pz_xor, pz_n31, pz_shl, pz_shr, pz_eq, pz_le, pz_lt, pz_eqm, pz_meq, pz_mmeq, pz_lem, pz_mle, pz_ltm, pz_mlt, pz_mmle, pz_mmlt, pz_rd, pz_ck, pz_let, pz_cl, pz_bind, pz_gd, pz_zbb, eI_of, eI_N, pz_leT, pz_leF, pz_ltT, pz_ltF, pz_eqT, pz_eqF, if_pos, if_neg, if_true, if_false, ite_true, ite_false, pz_b0, pz_b1i, pz_bf, pz_bt, Bool.false_eq_true, Bool.true_eq_false, decide_true, decide_false, and_true, and_false, true_and, false_and, and_self, or_true, or_false, true_or, false_or, or_self, not_true_eq_false, not_false_eq_true, ne_eq, reduceIte, eq_self, upd_at] <;> rw [hx, nI_add]
    · rw [X1_find_L48]
      generalize X1_find_L48 fu rec35 q0 wi sh (nI p.1) (nI (wl w)) lc lt cols dv b.1 b.2.1 b.2.2.1 b.2.2.2.1 b.2.2.2.2.1 b.2.2.2.2.2.1 b.2.2.2.2.2.2 wd2 hi2 (nI (s 5)) (nI (s 2)) (nI (s 3)) kinds painOf refused owned litIn shapes (nI (wl w)) (nI bits) le (pI B) v5 n = rec
      rw [if_pos (by rw [pz_le (by omega) (by omega)]; omega)]
  have hcmp : (pI B ≤ nI (sumI s h w p (wl w))) ↔ ¬ totS s h w p (wl w) < B := by
    unfold pI
    rcases hB with hB | hB
    · rw [if_pos hB, pz_le (by omega) (by omega)]
      omega
    · rw [if_neg (by omega), pz_le (by omega) (by omega)]
      omega
  by_cases hlt : totS s h w p (wl w) < B
  · have hne : totS s h w p (wl w) ≠ 65535 := by omega
    obtain ⟨r, e, g⟩ := x1_keep (wi := wi) (sh := sh) (p0 := wi) (p1 := wi) (p2 := wi) (s0 := wi) (s1 := wi) (s2 := wi) hf I hb hp hC (tot_N hne)
    refine ⟨r, fun _ => g, ?_⟩
    rw [if_pos hlt]
    refine Eq.trans loop ?_
    rw [if_neg (fun q => hcmp.mp q hlt), e, pz_bind, show sumI s h w p (wl w) = totS s h w p (wl w) by omega]
  · refine ⟨(wi, sh), fun q => absurd q hlt, ?_⟩
    rw [if_neg hlt]
    refine Eq.trans loop ?_
    rw [if_pos (hcmp.mpr hlt)]
theorem x1_find {q0 y bo lc lt : Int32} {wi sh co poc p0 p1 p2 s0 s1 s2 : Nat → Int32} (hf : 5000 ≤ fu) (I : Iv s) (T : TR s kinds painOf payFor refused owned) (L : LR s litIn) (S : HR s shapes) (hD : DV dv) (hh : h < 4) (hw : okW s w) (hl : LW w bits le) : ∃ r, f_X1_find fu q0 wi sh y bo lc lt co dv poc p0 p1 p2 s0 s1 s2 (nI (s 0)) (nI (s 1)) (nI (s 5)) (nI (s 2)) (nI (s 3)) kinds painOf refused owned litIn shapes (nI (wl w)) (nI bits) le (nI h) = some r ∧ r.1 = eI (BP s h w).1 ∧ ((BP s h w).1 ≠ 65535 → ∀ i, i < wl w → r.2.1 i = nI (12 * (plk (s 0) (wl w) (BP s h w).2).1 + pcol (plk (s 0) (wl w) (BP s h w).2) i) ∧ r.2.2.1 i = nI (BX s h w i (12 * (plk (s 0) (wl w) (BP s h w).2).1 + pcol (plk (s 0) (wl w) (BP s h w).2) i)).2) := by
  have hr := wl_rng w
  have i0 := I.1
  have i1 := I.2.1
  have hN := pl_le i0 i1 hr
  have hpos := pn_pos i0 i1 hr
  obtain ⟨c1, hC1, eb⟩ := x3_begin (fu := fu) (cols := co) (y := y) (b := bo) (lc := lc) (lt := lt) hf i0 i1 hr
  rw [f_X1_find, eb, pz_bind]
  by_cases h0 : 0 < PN (s 0) (s 1) (wl w)
  · obtain ⟨b, hb, ea⟩ := x1_shapeAll (fu := fu) hf I T L S hD hh hw hl (hpos.mp h0) (poc, p0, p1, p2, s0, s1, s2)
    rw [decide_eq_true h0]
    dsimp only at ea ⊢
    rw [if_neg (show ¬ bI true = 0 by decide), ea, pz_bind]
    have hB : ∀ k, k ≤ PN (s 0) (s 1) (wl w) → (best (TT s h w) k).1 = 65535 ∨ (best (TT s h w) k).1 ≤ 756 := fun k hk => bestW_rng (fun j hj => TT_rng I (by omega))
    refine pz_rel (fun n k (a : (Nat → Int32) × (Nat → Int32) × Int32 × (Nat → Int32) × Int32) => X1_find_L35 fu (-1) (nI (wl w)) (nI (s 0 - 3)) (nI (s 1 - 4)) dv b.1 b.2.1 b.2.2.1 b.2.2.2.1 b.2.2.2.2.1 b.2.2.2.2.2.1 b.2.2.2.2.2.2 (nI (s 0)) (nI (s 1)) (nI (s 5)) (nI (s 2)) (nI (s 3)) kinds painOf refused owned litIn shapes (nI (wl w)) (nI bits) le n a.1 a.2.1 a.2.2.1 a.2.2.2.1 a.2.2.2.2 (nI k)) (fun k a => k < PN (s 0) (s 1) (wl w) ∧ a.2.2.1 = nI (plk (s 0) (wl w) k).1 ∧ CR a.2.2.2.1 (wl w) (plk (s 0) (wl w) k) ∧ a.2.2.2.2 = pI (best (TT s h w) k).1 ∧ ((best (TT s h w) k).1 ≠ 65535 → ∀ i, i < wl w → a.1 i = nI (12 * (plk (s 0) (wl w) (best (TT s h w) k).2).1 + pcol (plk (s 0) (wl w) (best (TT s h w) k).2) i) ∧ a.2.1 i = nI (BX s h w i (12 * (plk (s 0) (wl w) (best (TT s h w) k).2).1 + pcol (plk (s 0) (wl w) (best (TT s h w) k).2) i)).2)) (PN (s 0) (s 1) (wl w)) _ (fun n k a hk ha => ?_) (fun n a ha => absurd ha.1 (Nat.lt_irrefl _)) fu 0 (wi, sh, nI 0, c1, 1000000) (by omega) (by omega) ⟨h0, rfl, hC1, rfl, fun q => absurd rfl q⟩
    obtain ⟨a1, a2, a3, a4, a5⟩ := a
    obtain ⟨-, h1, h2, h3, h4⟩ := ha
    simp only at h1 h2 h3 h4
    subst h1
    subst h3
    have hp := (pl_at i0 i1 hr (k := k) (by omega)).1 hk
    have hat := pl_at i0 i1 hr (k := k + 1) (by omega)
    obtain ⟨c2, hc2, eg⟩ := x3_goOn (fu := fu) hf i0 i1 hr hp h2
    obtain ⟨r, g1, g2⟩ := f1_sum (fu := fu) (dv := dv) (le := le) (bits := bits) (kinds := kinds) (painOf := painOf) (refused := refused) (shapes := shapes) (owned := owned) (litIn := litIn) (rec35 := X1_find_L35 fu (-1) (nI (wl w)) (nI (s 0 - 3)) (nI (s 1 - 4)) dv b.1 b.2.1 b.2.2.1 b.2.2.2.1 b.2.2.2.2.1 b.2.2.2.2.2.1 b.2.2.2.2.2.2 (nI (s 0)) (nI (s 1)) (nI (s 5)) (nI (s 2)) (nI (s 3)) kinds painOf refused owned litIn shapes (nI (wl w)) (nI bits) le n) (q0 := -1) (lc := nI (s 0 - 3)) (lt := nI (s 1 - 4)) (wd2 := nI (s 0)) (hi2 := nI (s 1)) (v5 := nI k) (wi := a1) (sh := a2) hf I hb hp h2 (hB k (by omega))
    rw [show totS s h w (plk (s 0) (wl w) k) (wl w) = TT s h w k from rfl] at g1 g2
    have hTT := TT_rng (s := s) (h := h) (w := w) I hk
    -- the state behind this place
    have behind : ∃ (v1 v2 : Nat → Int32), ((best (TT s h w) (k + 1)).1 ≠ 65535 → ∀ i, i < wl w → v1 i = nI (12 * (plk (s 0) (wl w) (best (TT s h w) (k + 1)).2).1 + pcol (plk (s 0) (wl w) (best (TT s h w) (k + 1)).2) i) ∧ v2 i = nI (BX s h w i (12 * (plk (s 0) (wl w) (best (TT s h w) (k + 1)).2).1 + pcol (plk (s 0) (wl w) (best (TT s h w) (k + 1)).2) i)).2) ∧ X1_find_L35 fu (-1) (nI (wl w)) (nI (s 0 - 3)) (nI (s 1 - 4)) dv b.1 b.2.1 b.2.2.1 b.2.2.2.1 b.2.2.2.2.1 b.2.2.2.2.2.1 b.2.2.2.2.2.2 (nI (s 0)) (nI (s 1)) (nI (s 5)) (nI (s 2)) (nI (s 3)) kinds painOf refused owned litIn shapes (nI (wl w)) (nI bits) le (n + 1) a1 a2 (nI (plk (s 0) (wl w) k).1) a4 (pI (best (TT s h w) k).1) (nI k) = X1_find_J104 fu (X1_find_L35 fu (-1) (nI (wl w)) (nI (s 0 - 3)) (nI (s 1 - 4)) dv b.1 b.2.1 b.2.2.1 b.2.2.2.1 b.2.2.2.2.1 b.2.2.2.2.2.1 b.2.2.2.2.2.2 (nI (s 0)) (nI (s 1)) (nI (s 5)) (nI (s 2)) (nI (s 3)) kinds painOf refused owned litIn shapes (nI (wl w)) (nI bits) le n) (-1) v1 v2 (nI (plk (s 0) (wl w) k).1) (nI (wl w)) (nI (s 0 - 3)) (nI (s 1 - 4)) a4 dv b.1 b.2.1 b.2.2.1 b.2.2.2.1 b.2.2.2.2.1 b.2.2.2.2.2.1 b.2.2.2.2.2.2 (nI (s 0)) (nI (s 1)) (nI (s 5)) (nI (s 2)) (nI (s 3)) kinds painOf refused owned litIn shapes (nI (wl w)) (nI bits) le (pI (best (TT s h w) (k + 1)).1) (nI k) := by
      have h42 : ¬ (42 : Int32) ≤ nI k := by
        rw [pz_c42, pz_le (by omega) (by omega)]; omega
      by_cases hlt : TT s h w k < (best (TT s h w) k).1
      · refine ⟨r.1, r.2, fun _ => ?_, ?_⟩
        · rw [best, if_pos hlt]
          exact g1 hlt
        · rw [if_pos hlt] at g2
          rw [X1_find_L35, if_neg h42]
          refine g2.trans ?_
          rw [best, if_pos hlt]
          simp only
          rw [pI, if_neg (by have := hB k (by omega); omega)]
      · refine ⟨a1, a2, ?_, ?_⟩
        · rw [best, if_neg hlt]
          exact h4
        · rw [if_neg hlt] at g2
          rw [X1_find_L35, if_neg h42]
          refine g2.trans ?_
          rw [best, if_neg hlt]
    obtain ⟨v1, v2, k1, k2⟩ := behind
    have hbk := hB (k + 1) (by omega)
    rcases Nat.lt_or_ge (k + 1) (PN (s 0) (s 1) (wl w)) with hnx | hnx
    · right
      refine ⟨(v1, v2, nI (plk (s 0) (wl w) (k + 1)).1, c2, pI (best (TT s h w) (k + 1)).1), ⟨hnx, rfl, hc2, rfl, k1⟩, ?_⟩
      refine k2.trans ?_
      have hgo : decide ((pnx (s 0) (wl w) (plk (s 0) (wl w) k)).1 + 4 ≤ s 1) = true := decide_eq_true (hat.1 hnx).1
      rw [X1_find_J104, eg, pz_bind, hgo]
      dsimp only
      rw [if_neg (show ¬ bI true = 0 by decide), nI_1]
      rfl
    · left
      have hgo : decide ((pnx (s 0) (wl w) (plk (s 0) (wl w) k)).1 + 4 ≤ s 1) = false := by
        have h5 := hat.2 (by omega)
        rw [if_neg (by omega)] at h5
        apply decide_eq_false
        rw [show pnx (s 0) (wl w) (plk (s 0) (wl w) k) = plk (s 0) (wl w) (k + 1) from rfl]
        omega
      have hBP : best (TT s h w) (k + 1) = BP s h w := by rw [BP, show k + 1 = PN (s 0) (s 1) (wl w) by omega]
      rw [hBP] at k1 k2 hbk
      rcases hbk with hbk | hbk
      · refine ⟨_, k2.trans (by rw [X1_find_J104, eg, pz_bind, hgo]; dsimp only; rw [if_pos (show bI false = 0 by decide), X1_find_J123, if_pos (by rw [hbk]; decide +kernel)]), ?_, fun q => absurd hbk q⟩
        rw [hbk]; rfl
      · refine ⟨_, k2.trans (by rw [X1_find_J104, eg, pz_bind, hgo]; dsimp only; rw [if_pos (show bI false = 0 by decide), X1_find_J123, if_neg (by rw [pI, if_neg (by omega), pz_c1000000, pz_le (by omega) (by omega)]; omega)]), ?_, fun q => k1 q⟩
        rw [eI_of (by omega)]
        dsimp only
        rw [pI, if_neg (by omega)]
  · have e0 : PN (s 0) (s 1) (wl w) = 0 := by omega
    have eB : BP s h w = (65535, 65535) := by rw [BP, e0]; rfl
    rw [decide_eq_false h0]
    dsimp only
    rw [if_pos (show bI false = 0 by decide)]
    exact ⟨_, rfl, by rw [eB]; rfl, fun q => absurd (by rw [eB]) q⟩
end
