/-! TOKENS: numbers, as the reference takes them -/
section
variable {fu : Nat} {tl : Nat} {b : Nat → Nat} {bytes text : Nat → Int32} {len ts : Int32}
theorem x8_number {tk : Int32} {wo : Int64} {k0 : Nat} (X : TX tl b len bytes ts text) : ∀ m j n, m + (k0 + j) = tl → m < n → (∀ i, i < j → isF (b (k0 + i)) = true) → X8_next_L163 fu ts (nI k0) tk wo text n (nI (k0 + j)) (nI (nuV b k0 j)) = some (nI (fgN b m (k0 + j)), nI k0, (if 5 ≤ fgN b m (k0 + j) - k0 then 4 else 2), nI (nuV b k0 (fgN b m (k0 + j) - k0)), wo)
  | _, _, 0, _, h, _ => absurd h (Nat.not_lt_zero _)
  | 0, j, n + 1, h1, _, _ => by
    have x3 := X.2.2.1
    have eb : btN' tl b (k0 + j) = 65535 := by rw [btN', if_neg (by omega)]
    rw [X8_next_L163, x8_byteAt X (by omega), pz_bind, eb, show f_X8_in fu (eI 65535) 48 57 = some (bI false) from (x8_in (lo := 48) (hi := 57) (by decide) (by decide) _).trans (by decide +kernel), pz_bind, if_pos b_f, pk_sub (by omega), fgN, Nat.add_sub_cancel_left]
    by_cases g : 5 ≤ j
    · rw [if_pos (by rw [pz_c5, pz_le (by omega) (by omega)]; exact g), X8_next_J256, if_pos g]
    · rw [if_neg (by rw [pz_c5, pz_le (by omega) (by omega)]; exact g), X8_next_J256, if_neg g]
  | m + 1, j, n + 1, h1, h2, h3 => by
    have x3 := X.2.2.1
    obtain ⟨c1, -, c2⟩ := X.2.2.2 (k0 + j) (by omega)
    have eb : btN' tl b (k0 + j) = b (k0 + j) := by rw [btN', if_pos (by omega)]
    have hv := nuV_lt j h3
    rw [X8_next_L163]
    rw [x8_byteAt X (by omega), pz_bind, eb, eI_of (by omega), show f_X8_in fu (nI (b (k0 + j))) 48 57 = some (bI (decide (48 ≤ vN (nI (b (k0 + j))) ∧ vN (nI (b (k0 + j))) ≤ 57))) from x8_in (lo := 48) (hi := 57) (by decide) (by decide) _, pz_bind, vN_n (by omega), show decide (48 ≤ b (k0 + j) ∧ b (k0 + j) ≤ 57) = isF (b (k0 + j)) from rfl, fgN]
    cases hf : isF (b (k0 + j))
    · rw [if_pos b_f, pk_sub (by omega), Nat.add_sub_cancel_left, if_neg (show ¬ false = true by decide), Nat.add_sub_cancel_left]
      by_cases g : 5 ≤ j
      · rw [if_pos (by rw [pz_c5, pz_le (by omega) (by omega)]; exact g), X8_next_J256, if_pos g]
      · rw [if_neg (by rw [pz_c5, pz_le (by omega) (by omega)]; exact g), X8_next_J256, if_neg g]
    · have ih := x8_number (tk := tk) (wo := wo) (k0 := k0) X m (j + 1) n (by omega) (by omega) (fun i hi => by
        rcases Nat.lt_or_ge i j with q | q
        · exact h3 i q
        · rw [show i = j by omega]; exact hf)
      have hff := of_decide_eq_true hf
      rw [← Nat.add_assoc] at ih
      rw [if_neg b_t, if_pos (show true = true from rfl), pk_sub (by omega), Nat.add_sub_cancel_left]
      by_cases g : 4 ≤ j
      · have e : nuV b k0 (j + 1) = nuV b k0 j := by rw [nuV, if_pos g]
        rw [e] at ih
        rw [if_pos (by rw [pz_c4, pz_le (by omega) (by omega)]; exact g), X8_next_J221, nI_1]
        exact ih
      · have e : nuV b k0 (j + 1) = 10 * nuV b k0 j + b (k0 + j) - 48 := by rw [nuV, if_neg g]
        rw [e] at ih
        rw [if_neg (by rw [pz_c4, pz_le (by omega) (by omega)]; exact g), pz_bind, X8_next_J221, nI_1, pz_c10, pk_mul, nI_add, pz_c48, pk_sub (by omega)]
        exact ih
end
