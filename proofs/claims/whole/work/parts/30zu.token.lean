/-! TOKENS: words, their letters -/
def ltN (b : Nat → Nat) : Nat → Nat → Nat
  | 0, k => k
  | m + 1, k => if isS (b k) = true then ltN b m (k + 1) else k
theorem ltN_rng {b : Nat → Nat} : ∀ m k, k ≤ ltN b m k ∧ ltN b m k ≤ k + m
  | 0, k => ⟨Nat.le_refl _, Nat.le_refl _⟩
  | m + 1, k => by
    rw [ltN]
    split
    · have := ltN_rng (b := b) m (k + 1)
      omega
    · omega
theorem ltN_in {b : Nat → Nat} : ∀ m k i, k ≤ i → i < ltN b m k → isS (b i) = true
  | 0, k, i, h1, h2 => absurd h2 (by rw [ltN]; omega)
  | m + 1, k, i, h1, h2 => by
    rw [ltN] at h2
    by_cases g : isS (b k) = true
    · rw [if_pos g] at h2
      by_cases q : i = k
      · rw [q]; exact g
      · exact ltN_in m (k + 1) i (by omega) h2
    · rw [if_neg g] at h2; omega
theorem ltN_pos {b : Nat → Nat} {m k : Nat} (h : isS (b k) = true) : k < ltN b (m + 1) k := by
  rw [ltN, if_pos h]
  have := ltN_rng (b := b) m (k + 1)
  omega
/-- the letters of a word as the reference packs them; none from the eighth on -/
def pkN (b : Nat → Nat) (p : Nat) : Nat → Nat
  | 0 => 0
  | j + 1 => if 7 ≤ j then 0 else 256 * pkN b p j + b (p + j)
def wlN : List (List Nat) := [[119, 97, 108, 108], [116, 101, 110, 97, 110, 116], [104, 97, 115], [108, 101, 116, 116, 101, 114], [108, 105, 116], [115, 108, 97, 99, 107]]
def lnN (i : Nat) : Nat := (wlN.getD i []).length
def chN (i k : Nat) : Nat := (wlN.getD i []).getD k 0
def wcN (i : Nat) : Nat := [2002873452, 127978992397940, 6840691, 119183001281906, 7104884, 495739560811].getD i 0
def maB (b : Nat → Nat) (p i : Nat) : Nat → Bool
  | 0 => true
  | k + 1 => maB b p i k && decide (b (p + k) = chN i k)
def mtB (b : Nat → Nat) (p n i : Nat) : Bool := decide (lnN i = n) && maB b p i (lnN i)
def wdV (b : Nat → Nat) (p n : Nat) : Nat → Nat
  | 0 => 6
  | i + 1 => if mtB b p n i = true then i else wdV b p n i
theorem pkN_lt {b : Nat → Nat} {p : Nat} : ∀ j, (∀ k, k < j → b (p + k) < 256) → (j ≤ 7 → pkN b p j < 256 ^ j) ∧ pkN b p j < 256 ^ 7
  | 0, _ => ⟨fun _ => by rw [pkN]; decide, by rw [pkN]; decide⟩
  | j + 1, h => by
    obtain ⟨h1, -⟩ := pkN_lt j (fun k hk => h k (by omega))
    have hb := h j (by omega)
    rw [pkN]
    split
    · exact ⟨fun q => by omega, by decide⟩
    · rename_i g
      have h2 := h1 (by omega)
      have h3 : 256 * pkN b p j + b (p + j) < 256 ^ (j + 1) := by rw [Nat.pow_succ]; omega
      exact ⟨fun _ => h3, Nat.lt_of_lt_of_le h3 (Nat.pow_le_pow_right (by decide) (by omega))⟩
theorem pkN_big {b : Nat → Nat} {p n : Nat} (h : 8 ≤ n) : pkN b p n = 0 := by
  obtain ⟨m, rfl⟩ : ∃ m, n = m + 1 := ⟨n - 1, by omega⟩
  rw [pkN, if_pos (by omega)]
theorem pk_word {b : Nat → Nat} {p n i : Nat} (hb : ∀ k, k < n → 97 ≤ b (p + k) ∧ b (p + k) ≤ 122) (hi : i < 6) : (pkN b p n = wcN i) = (mtB b p n i = true) := by
  apply propext
  rcases Nat.lt_or_ge n 8 with h8 | h8
  · have c0 := hb 0
    have c1 := hb 1
    have c2 := hb 2
    have c3 := hb 3
    have c4 := hb 4
    have c5 := hb 5
    have c6 := hb 6
    clear hb
    rcases (show i = 0 ∨ i = 1 ∨ i = 2 ∨ i = 3 ∨ i = 4 ∨ i = 5 by omega) with rfl | rfl | rfl | rfl | rfl | rfl <;> rcases (show n = 0 ∨ n = 1 ∨ n = 2 ∨ n = 3 ∨ n = 4 ∨ n = 5 ∨ n = 6 ∨ n = 7 by omega) with rfl | rfl | rfl | rfl | rfl | rfl | rfl | rfl <;>
      simp only [mtB, maB, pkN, wcN, lnN, chN, wlN, List.getD_cons_zero, List.getD_cons_succ, List.length_cons, List.length_nil, Bool.and_eq_true, decide_eq_true_eq, Nat.reduceLeDiff, if_false, Nat.zero_add, Nat.reduceAdd, Nat.reduceEqDiff, true_and, false_and, iff_false, Nat.succ_ne_self] <;> omega
  · rw [pkN_big h8]
    rcases (show i = 0 ∨ i = 1 ∨ i = 2 ∨ i = 3 ∨ i = 4 ∨ i = 5 by omega) with rfl | rfl | rfl | rfl | rfl | rfl <;>
      simp only [mtB, maB, wcN, lnN, chN, wlN, List.getD_cons_zero, List.getD_cons_succ, List.length_cons, List.length_nil, Bool.and_eq_true, decide_eq_true_eq, Nat.zero_add, Nat.reduceAdd] <;> omega
