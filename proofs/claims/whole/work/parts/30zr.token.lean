/-! TOKENS: the spaces before one -/
def skN (tl : Nat) (b : Nat → Nat) : Nat → Nat → Nat
  | 0, k => k
  | m + 1, k => if b k = 32 then skN tl b m (k + 1) else k
theorem skN_rng {tl : Nat} {b : Nat → Nat} : ∀ m k, k ≤ skN tl b m k ∧ skN tl b m k ≤ k + m
  | 0, k => ⟨Nat.le_refl _, Nat.le_refl _⟩
  | m + 1, k => by
    rw [skN]
    split
    · have := skN_rng (tl := tl) (b := b) m (k + 1)
      omega
    · omega
theorem skN_end {tl : Nat} {b : Nat → Nat} : ∀ m k, skN tl b m k < k + m → b (skN tl b m k) ≠ 32
  | 0, k, h => absurd h (by rw [skN]; omega)
  | m + 1, k, h => by
    rw [skN] at h ⊢
    split at h
    · rename_i g
      rw [if_pos g]
      exact skN_end m (k + 1) (by omega)
    · rename_i g
      rw [if_neg g]; exact g
section
variable {fu : Nat} {tl : Nat} {b : Nat → Nat} {bytes text : Nat → Int32} {len ts : Int32}
theorem x8_byteAt (X : TX tl b len bytes ts text) {k : Nat} (hk : k ≤ tl) : f_X8_byteAt fu ts text (nI k) = some (eI (btN' tl b k)) := by
  obtain ⟨-, x2, x3, x4⟩ := X
  rw [f_X8_byteAt, x2, btN']
  by_cases h : k < tl
  · have hb := (x4 k h).1
    rw [if_neg (by rw [pz_le (by omega) (by omega)]; omega), pz_rd _ _ (by omega) (by omega), (x4 k h).2.2, if_pos h, eI_of (by omega)]
  · rw [if_pos (by rw [pz_le (by omega) (by omega)]; omega), if_neg h]; rfl
theorem x4_skip {tk ta tv : Int32} (X : TX tl b len bytes ts text) : ∀ m k n, m + k = tl → m < n → X4_takeToken_L0 fu len tk ta tv bytes n (nI k) = X4_takeToken_J38 fu len (nI (skN tl b m k)) tk ta tv bytes
  | _, _, 0, _, h => absurd h (Nat.not_lt_zero _)
  | 0, k, n + 1, h1, _ => by
    have x3 := X.2.2.1
    rw [X4_takeToken_L0, X.1, if_pos (by rw [pz_le (by omega) (by omega)]; omega), skN]
  | m + 1, k, n + 1, h1, h2 => by
    have x3 := X.2.2.1
    obtain ⟨c1, c2, -⟩ := X.2.2.2 k (by omega)
    have ih := x4_skip (tk := tk) (ta := ta) (tv := tv) X m (k + 1) n (by omega) (by omega)
    rw [X4_takeToken_L0]
    rw [if_neg (by rw [X.1, pz_le (by omega) (by omega)]; omega), pz_rd _ _ (by omega) (by omega), c2, skN]
    by_cases g : b k = 32
    · rw [if_pos (by rw [g]; rfl), if_pos g, nI_1]
      exact ih
    · rw [if_neg (by rw [pz_c32, pz_eq (by omega) (by omega)]; exact g), if_neg g]
theorem x8_skip {st tk nu : Int32} {wo : Int64} (X : TX tl b len bytes ts text) : ∀ m k n, m + k = tl → m < n → ∃ n2, X8_next_L0 fu ts st tk nu wo text n (nI k) = X8_next_L0 fu ts st tk nu wo text (n2 + 1) (nI (skN tl b m k))
  | _, _, 0, _, h => absurd h (Nat.not_lt_zero _)
  | 0, k, n + 1, h1, _ => ⟨n, rfl⟩
  | m + 1, k, n + 1, h1, h2 => by
    have x3 := X.2.2.1
    obtain ⟨c1, -, c2⟩ := X.2.2.2 k (by omega)
    rw [skN]
    by_cases g : b k = 32
    · obtain ⟨n2, ih⟩ := x8_skip (st := st) (tk := tk) (nu := nu) (wo := wo) X m (k + 1) n (by omega) (by omega)
      refine ⟨n2, ?_⟩
      rw [if_pos g, ← ih]
      have eb : btN' tl b k = 32 := by rw [btN', if_pos (by omega), g]
      rw [X8_next_L0, x8_byteAt X (by omega), pz_bind, eb, if_pos (show eI 32 = 32 from rfl), nI_1]
    · exact ⟨n, by rw [if_neg g]⟩
end
