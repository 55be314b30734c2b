/-! TOKENS of a plan: bytes and their kinds -/
def btN' (tl : Nat) (b : Nat → Nat) (k : Nat) : Nat := if k < tl then b k else 65535
def isF (x : Nat) : Bool := decide (48 ≤ x ∧ x ≤ 57)
def isS (x : Nat) : Bool := decide (97 ≤ x ∧ x ≤ 122)
section
variable {fu : Nat}
theorem x4_isFigure {x : Nat} (hx : x < 256) : f_X4_isFigure fu (nI x) = some (bI (isF x)) := by
  rw [f_X4_isFigure, isF, X4_isFigure_J16]
  rcases rngI (nI x) (lo := 48) (hi := 57) (by decide) (by decide) with ⟨a1, a2, -, a3⟩ | ⟨a1, a2⟩
  · rw [vN_n (by omega)] at a1
    rw [if_neg (show ¬ nI x < 48 from a2), if_neg (show ¬ 57 < nI x from a3), decide_eq_true a1]; rfl
  · rw [vN_n (by omega)] at a1
    rw [decide_eq_false a1]
    rcases a2 with g | ⟨g1, -, g2⟩
    · rw [if_pos (show nI x < 48 from g)]; rfl
    · rw [if_neg (show ¬ nI x < 48 from g1), if_pos (show 57 < nI x from g2)]; rfl
theorem x4_isSmallLetter {x : Nat} (hx : x < 256) : f_X4_isSmallLetter fu (nI x) = some (bI (isS x)) := by
  rw [f_X4_isSmallLetter, isS, X4_isSmallLetter_J16]
  rcases rngI (nI x) (lo := 97) (hi := 122) (by decide) (by decide) with ⟨a1, a2, -, a3⟩ | ⟨a1, a2⟩
  · rw [vN_n (by omega)] at a1
    rw [if_neg (show ¬ nI x < 97 from a2), if_neg (show ¬ 122 < nI x from a3), decide_eq_true a1]; rfl
  · rw [vN_n (by omega)] at a1
    rw [decide_eq_false a1]
    rcases a2 with g | ⟨g1, -, g2⟩
    · rw [if_pos (show nI x < 97 from g)]; rfl
    · rw [if_neg (show ¬ nI x < 97 from g1), if_pos (show 122 < nI x from g2)]; rfl
end
