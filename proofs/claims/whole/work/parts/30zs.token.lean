/-! TOKENS: numbers -/
def fgN (b : Nat → Nat) : Nat → Nat → Nat
  | 0, k => k
  | m + 1, k => if isF (b k) = true then fgN b m (k + 1) else k
def nuV (b : Nat → Nat) (k0 : Nat) : Nat → Nat
  | 0 => 0
  | j + 1 => if 4 ≤ j then nuV b k0 j else 10 * nuV b k0 j + b (k0 + j) - 48
theorem fgN_rng {b : Nat → Nat} : ∀ m k, k ≤ fgN b m k ∧ fgN b m k ≤ k + m
  | 0, k => ⟨Nat.le_refl _, Nat.le_refl _⟩
  | m + 1, k => by
    rw [fgN]
    split
    · have := fgN_rng (b := b) m (k + 1)
      omega
    · omega
theorem nuV_lt {b : Nat → Nat} {k0 : Nat} : ∀ j, (∀ i, i < j → isF (b (k0 + i)) = true) → (j = 0 → nuV b k0 j < 1) ∧ (j ≤ 1 → nuV b k0 j < 10) ∧ (j ≤ 2 → nuV b k0 j < 100) ∧ (j ≤ 3 → nuV b k0 j < 1000) ∧ nuV b k0 j < 10000
  | 0, _ => by
    rw [nuV]; omega
  | j + 1, h => by
    obtain ⟨h0, h1, h2, h3, h4⟩ := nuV_lt j (fun i hi => h i (by omega))
    have hf := of_decide_eq_true (h j (by omega))
    rw [nuV]
    split
    · omega
    · omega
section
variable {fu : Nat} {tl : Nat} {b : Nat → Nat} {bytes text : Nat → Int32} {len ts : Int32}
theorem x4_number {tk : Int32} {k0 : Nat} (X : TX tl b len bytes ts text) : ∀ m j n, m + (k0 + j) = tl → m < n → (∀ i, i < j → isF (b (k0 + i)) = true) → X4_takeNumber_L5 fu len tk (nI k0) bytes n (nI (k0 + j)) (nI (nuV b k0 j)) = X4_takeNumber_J81 fu len (nI (fgN b m (k0 + j))) tk (nI k0) (nI (nuV b k0 (fgN b m (k0 + j) - k0))) bytes
  | _, _, 0, _, h, _ => absurd h (Nat.not_lt_zero _)
  | 0, j, n + 1, h1, _, _ => by
    have x3 := X.2.2.1
    rw [X4_takeNumber_L5, X.1, if_pos (by rw [pz_le (by omega) (by omega)]; omega), fgN, Nat.add_sub_cancel_left]
  | m + 1, j, n + 1, h1, h2, h3 => by
    have x3 := X.2.2.1
    obtain ⟨c1, c2, -⟩ := X.2.2.2 (k0 + j) (by omega)
    have hv := nuV_lt j h3
    rw [X4_takeNumber_L5]
    rw [if_neg (by rw [X.1, pz_le (by omega) (by omega)]; omega), pz_rd _ _ (by omega) (by omega), c2, x4_isFigure c1, pz_bind, fgN]
    cases hf : isF (b (k0 + j))
    · rw [if_pos b_f, if_neg (by decide), Nat.add_sub_cancel_left]
    · have ih := x4_number (tk := tk) (k0 := k0) X m (j + 1) n (by omega) (by omega) (fun i hi => by
        rcases Nat.lt_or_ge i j with q | q
        · exact h3 i q
        · rw [show i = j by omega]; exact hf)
      have hff := of_decide_eq_true hf
      rw [← Nat.add_assoc] at ih
      rw [if_neg b_t, if_pos rfl, pk_sub (by omega), Nat.add_sub_cancel_left]
      by_cases g : 4 ≤ j
      · have e : nuV b k0 (j + 1) = nuV b k0 j := by rw [nuV, if_pos g]
        rw [e] at ih
        rw [if_pos (by rw [pz_c4, pz_le (by omega) (by omega)]; exact g), X4_takeNumber_J68, nI_1]
        exact ih
      · have e : nuV b k0 (j + 1) = 10 * nuV b k0 j + b (k0 + j) - 48 := by rw [nuV, if_neg g]
        rw [e] at ih
        rw [if_neg (by rw [pz_c4, pz_le (by omega) (by omega)]; exact g), pz_rd _ _ (by omega) (by omega), c2, X4_takeNumber_J68, nI_1, pz_c10, pk_mul, nI_add, pz_c48, pk_sub (by omega)]
        exact ih
end
