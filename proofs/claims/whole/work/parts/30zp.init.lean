/-! THE REFERENCE ANEW: its table of ones and its row -/
theorem pc_half : (List.range 4096).all (fun k => decide (pc k = pc (k / 2) + k % 2)) = true := by decide +kernel
theorem pc_h {k : Nat} (h : k < 4096) : pc k = pc (k / 2) + k % 2 := of_decide_eq_true (List.all_eq_true.mp pc_half k (List.mem_range.mpr h))
section
variable {fu : Nat}
theorem x8_init (hf : 5000 ≤ fu) : ∃ r, f_X8_init fu = some r ∧ SR r.1 (AN 12 5) ∧ ∀ k, k < 4096 → r.2 k = nI (pc k) := by
  rw [f_X8_init]
  refine pz_rel (fun n k (a : Nat → Int32) => X8_init_L152 fu (fun _ => 0) n a (nI k)) (fun k a => 1 ≤ k ∧ ∀ j, j < k → a j = nI (pc j)) 4096 _ (fun n k a hk ha => ?_) (fun n a ha => ?_) fu 1 (fun _ => 0) (by omega) (by omega) ⟨Nat.le_refl _, fun j hj => by
    obtain rfl : j = 0 := by omega
    show (0 : Int32) = nI (pc 0)
    decide +kernel⟩
  · right
    refine ⟨upd a k (nI (pc k)), ⟨by omega, fun j hj => ?_⟩, ?_⟩
    · by_cases g : j = k
      · rw [g, pk_us]
      · rw [pk_un g, ha.2 j (by omega)]
    · have hc := ha.2 (k / 2) (by omega)
      have hp := pc_h hk
      try simp only
      rw [X8_init_L152]
      generalize X8_init_L152 fu (fun _ => 0) n = rec
      rw [if_neg (by rw [pz_c4096, pz_le (by decide) (by omega)]; omega), pz_c2, pk_div (by omega) (by omega) (by omega), pz_rd _ _ (by omega) (by omega), pz_ck _ (by omega) (by omega), pz_cl (by omega), hc, pk_mul, pk_sub (by omega), pz_rm, nI_add, ← hp, nI_1]
  · try simp only
    rw [X8_init_L152, if_pos (by decide +kernel)]
    obtain ⟨r, e1, e2⟩ := x8_anew (fu := fu) (st := fun _ => 0) (w := 12) (h := 5) hf (by decide) (by decide)
    rw [show f_X8_anew fu (fun _ => 0) 12 5 = some r from e1, pz_bind]
    exact ⟨_, rfl, e2, ha.2⟩
end
