/-! TOKENS: words, in a plan -/
theorem ch_all : ∀ i, i < 6 → ∀ k, k < 6 → k < lnN i → mm_ch i k = nI (chN i k) := by decide +kernel
theorem ch_lt : ∀ i, i < 6 → ∀ k, k < 6 → chN i k < 256 := by decide +kernel
theorem ln_all : ∀ i, i < 6 → mm_len.getD i 0 = lnN i ∧ lnN i ≤ 6 := by decide +kernel
theorem maB_off {b : Nat → Nat} {p i : Nat} : ∀ {n k : Nat}, k ≤ n → maB b p i k = false → maB b p i n = false
  | 0, k, h, e => by rw [show k = 0 by omega] at e; exact e
  | n + 1, k, h, e => by
    rcases Nat.lt_or_ge k (n + 1) with q | q
    · rw [maB, maB_off (show k ≤ n by omega) e]; rfl
    · rw [show k = n + 1 by omega] at e; exact e
section
variable {fu : Nat} {tl : Nat} {b : Nat → Nat} {bytes text : Nat → Int32} {len ts : Int32}
theorem x4_letters {tk ta tv : Int32} (X : TX tl b len bytes ts text) : ∀ m k n, m + k = tl → m < n → X4_takeWord_L0 fu len tk ta tv bytes n (nI k) = X4_takeWord_J39 fu len (nI (ltN b m k)) tk ta tv bytes
  | _, _, 0, _, h => absurd h (Nat.not_lt_zero _)
  | 0, k, n + 1, h1, _ => by
    have x3 := X.2.2.1
    rw [X4_takeWord_L0, X.1, if_pos (by rw [pz_le (by omega) (by omega)]; omega), ltN]
  | m + 1, k, n + 1, h1, h2 => by
    have x3 := X.2.2.1
    obtain ⟨c1, c2, -⟩ := X.2.2.2 k (by omega)
    have ih := x4_letters (tk := tk) (ta := ta) (tv := tv) X m (k + 1) n (by omega) (by omega)
    rw [X4_takeWord_L0, if_neg (by rw [X.1, pz_le (by omega) (by omega)]; omega), pz_rd _ _ (by omega) (by omega), c2, x4_isSmallLetter c1, pz_bind, ltN]
    cases g : isS (b k)
    · rw [if_pos b_f, if_neg (by decide)]
    · rw [if_neg b_t, if_pos rfl, nI_1]
      exact ih
theorem x4_wordOf {i : Nat} (hi : i < 6) : f_X4_wordOf fu (nI i) = some (1000 + i) := by
  rw [f_X4_wordOf]
  rcases (show i = 0 ∨ i = 1 ∨ i = 2 ∨ i = 3 ∨ i = 4 ∨ i = 5 by omega) with rfl | rfl | rfl | rfl | rfl | rfl <;> decide +kernel
theorem x4_isTokenText {p e i : Nat} (X : TX tl b len bytes ts text) (hf : 5000 ≤ fu) (hi : i < 6) (hp : p ≤ e) (he : e ≤ tl) : f_X4_isTokenText fu (nI e) (nI p) bytes (1000 + i) = some (bI (mtB b p (e - p) i)) := by
  have x3 := X.2.2.1
  obtain ⟨l1, l2⟩ := ln_all i hi
  have el : f_J0_length (1000 + i) = some (nI (lnN i)) := by rw [f_J0_length, if_pos (by omega), Nat.add_sub_cancel_left, l1]
  rw [f_X4_isTokenText, el, pz_bind, pk_sub hp, mtB]
  by_cases g : lnN i = e - p
  · rw [if_pos (by rw [g]), decide_eq_true g, Bool.true_and]
    refine pz_upE (fun n k => X4_isTokenText_L20 fu (nI e) (nI p) bytes (1000 + i) n (nI k)) (lnN i) _ (fun k => maB b p i k = true) (fun n k hk hP => ?_) (fun n hP => ?_) fu 0 (by omega) (by omega) rfl
    · obtain ⟨c1, c2, -⟩ := X.2.2.2 (p + k) (by omega)
      have h3 := ch_lt i hi k (by omega)
      try simp only
      rw [X4_isTokenText_L20]
      generalize X4_isTokenText_L20 fu (nI e) (nI p) bytes (1000 + i) n = rec
      have ec : f_J0_charAt (1000 + i) (nI k) = some (nI (chN i k)) := by
        rw [f_J0_charAt, if_pos ⟨by omega, by rw [Nat.add_sub_cancel_left, l1]; exact pz_ib hk (by omega)⟩, Nat.add_sub_cancel_left, pz_cl (by omega), ch_all i hi k (by omega) hk]
      rw [el, pz_bind, if_neg (by rw [pz_le (by omega) (by omega)]; omega), ec, pz_bind, nI_add, pz_rd _ _ (by omega) (by omega), c2]
      by_cases q : b (p + k) = chN i k
      · right
        rw [if_pos (by rw [q]), nI_1]
        exact ⟨by rw [maB, hP, decide_eq_true q]; rfl, rfl⟩
      · left
        rw [if_neg (by rw [pz_eq (by omega) (by omega)]; omega), maB_off (show k + 1 ≤ lnN i from hk) (by rw [maB, decide_eq_false q, Bool.and_false])]
        rfl
    · try simp only
      rw [X4_isTokenText_L20, el, pz_bind, if_pos (by rw [pz_le (by omega) (by omega)]; omega), hP]
      rfl
  · rw [if_neg (by rw [pz_eq (by omega) (by omega)]; exact g), decide_eq_false g, Bool.false_and]
    rfl
theorem x4_word {tk tv : Int32} {p e : Nat} (X : TX tl b len bytes ts text) (hf : 5000 ≤ fu) (hp : p ≤ e) (he : e ≤ tl) : X4_takeWord_J39 fu len (nI e) tk (nI p) tv bytes = some (nI e, (if wdV b p (e - p) 6 = 6 then 4 else 0), (if wdV b p (e - p) 6 = 6 then tv else nI (wdV b p (e - p) 6))) := by
  rw [X4_takeWord_J39]
  refine pz_up (fun n i => X4_takeWord_L46 fu len (nI e) (nI p) bytes n (if wdV b p (e - p) i = 6 then 4 else 0) (if wdV b p (e - p) i = 6 then tv else nI (wdV b p (e - p) i)) (nI i)) 6 _ (fun n i hi => ?_) (fun n => ?_) fu 0 (by omega) (by omega)
  · try simp only
    rw [X4_takeWord_L46]
    generalize X4_takeWord_L46 fu len (nI e) (nI p) bytes n = rec
    have ew : wdV b p (e - p) (i + 1) = if mtB b p (e - p) i = true then i else wdV b p (e - p) i := rfl
    rw [if_neg (by rw [pz_c6, pz_le (by omega) (by omega)]; omega), x4_wordOf hi, pz_bind, x4_isTokenText X hf hi hp he, pz_bind, ew]
    cases g : mtB b p (e - p) i
    · rw [if_pos b_f, X4_takeWord_J73, nI_1, if_neg (show ¬ false = true by decide)]
    · rw [if_neg b_t, X4_takeWord_J73, nI_1, if_pos (show true = true from rfl), if_neg (show ¬ i = 6 by omega), if_neg (show ¬ i = 6 by omega)]
  · try simp only
    rw [X4_takeWord_L46, if_pos (by decide +kernel)]
theorem x8_letters {tk nu : Int32} {p : Nat} (X : TX tl b len bytes ts text) : ∀ m j n, m + (p + j) = tl → m < n → (∀ i, i < j → isS (b (p + i)) = true) → X8_next_L77 fu ts (nI p) tk nu text n (nI (p + j)) (lN (pkN b p j)) = some (nI (ltN b m (p + j)), nI p, tk, nu, lN (pkN b p (ltN b m (p + j) - p)))
  | _, _, 0, _, h, _ => absurd h (Nat.not_lt_zero _)
  | 0, j, n + 1, h1, _, _ => by
    have x3 := X.2.2.1
    have eb : btN' tl b (p + j) = 65535 := by rw [btN', if_neg (by omega)]
    rw [X8_next_L77, x8_byteAt X (by omega), pz_bind, eb, show f_X8_in fu (eI 65535) 97 122 = some (bI false) from (x8_in (lo := 97) (hi := 122) (by decide) (by decide) _).trans (by decide +kernel), pz_bind, if_pos b_f, ltN, Nat.add_sub_cancel_left]
  | m + 1, j, n + 1, h1, h2, h3 => by
    have x3 := X.2.2.1
    obtain ⟨c1, -, c2⟩ := X.2.2.2 (p + j) (by omega)
    have eb : btN' tl b (p + j) = b (p + j) := by rw [btN', if_pos (by omega)]
    rw [X8_next_L77]
    rw [x8_byteAt X (by omega), pz_bind, eb, eI_of (by omega), show f_X8_in fu (nI (b (p + j))) 97 122 = some (bI (decide (97 ≤ vN (nI (b (p + j))) ∧ vN (nI (b (p + j))) ≤ 122))) from x8_in (lo := 97) (hi := 122) (by decide) (by decide) _, pz_bind, vN_n (by omega), show decide (97 ≤ b (p + j) ∧ b (p + j) ≤ 122) = isS (b (p + j)) from rfl, ltN]
    cases hf : isS (b (p + j))
    · rw [if_pos b_f, if_neg (show ¬ false = true by decide), Nat.add_sub_cancel_left]
    · have h4 : ∀ i, i < j + 1 → isS (b (p + i)) = true := fun i hi => by
        rcases Nat.lt_or_ge i j with q | q
        · exact h3 i q
        · rw [show i = j by omega]; exact hf
      have ih := x8_letters (tk := tk) (nu := nu) (p := p) X m (j + 1) n (by omega) (by omega) h4
      rw [← Nat.add_assoc] at ih
      rw [if_neg b_t, if_pos (show true = true from rfl), pk_sub (by omega), Nat.add_sub_cancel_left]
      by_cases g : 7 ≤ j
      · have e : pkN b p (j + 1) = 0 := by rw [pkN, if_pos g]
        rw [e] at ih
        rw [if_pos (by rw [pz_c7, pz_le (by omega) (by omega)]; exact g), X8_next_J131, nI_1]
        exact ih
      · have e : pkN b p (j + 1) = 256 * pkN b p j + b (p + j) := by rw [pkN, if_neg g]
        have eo : pkN b p j <<< 8 ||| b (p + j) = 256 * pkN b p j + b (p + j) := by
          rw [← Nat.shiftLeft_add_eq_or_of_lt (show b (p + j) < 2 ^ 8 from c1), Nat.shiftLeft_eq, Nat.mul_comm]
        rw [e] at ih
        rw [if_neg (by rw [pz_c7, pz_le (by omega) (by omega)]; exact g), pz_bind, X8_next_J131, nI_1, pz_c8, pz_L63, pz_63 (by omega), pz_shlL _ (by omega), nI_l (by omega), pz_orL, eo]
        exact ih
end
