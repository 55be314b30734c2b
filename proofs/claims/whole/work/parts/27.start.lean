/-! THE ENTRY: what the tables and the Statement's premises give -/
def st_ix (i : Nat) : Nat := 82 + 2 * i
def st_tm (i : Nat) : Term := .string "LitWindows$Plan" (st_ix i)
abbrev st_fl : List Cond := flatC (Jvm.Cond.and given_1 narrow_1)
theorem st_six {P : Nat → Prop} (h0 : P 0) (h1 : P 1) (h2 : P 2) (h3 : P 3) (h4 : P 4) (h5 : P 5) : ∀ i, i < 6 → P i := by
  intro i hi
  rcases (show i = 0 ∨ i = 1 ∨ i = 2 ∨ i = 3 ∨ i = 4 ∨ i = 5 by omega) with rfl | rfl | rfl | rfl | rfl | rfl <;> assumption
theorem st_ex : ∀ i, i < 6 → Cond.exactly (st_tm i) "java/lang/String" ∈ st_fl := by decide +kernel
theorem st_co : ∀ i, i < 6 → Cond.eq (.field (st_tm i) "java/lang/String" "coder" "B") (.int 0) ∈ st_fl := by decide +kernel
theorem st_ar : ∀ i, i < 6 → Cond.arrayOf (.field (st_tm i) "java/lang/String" "value" "[B") .byte ∈ st_fl := by decide +kernel
theorem st_le : ∀ i, i < 6 → Cond.eq (.length (.field (st_tm i) "java/lang/String" "value" "[B")) (.int (Int32.ofNat (mm_len.getD i 0))) ∈ st_fl := by decide +kernel
theorem st_el : ∀ i, i < 6 → ∀ j, j < 6 → j < mm_len.getD i 0 → Cond.eq (.elem (.field (st_tm i) "java/lang/String" "value" "[B") (.int (Int32.ofNat j))) (.int ((mm_byt.getD i []).getD j 0)) ∈ st_fl := by decide +kernel
theorem st_ne : ∀ i, i < 6 → ∀ j, j < 6 → i ≠ j → Cond.not (Cond.eq (st_tm i) (st_tm j)) ∈ st_fl ∨ Cond.not (Cond.eq (st_tm j) (st_tm i)) ∈ st_fl := by decide +kernel
theorem st_sr : ∀ i, i < 6 → ∃ q : Nat × String, mm_cix[i]? = some q ∧ q.1 = st_ix i ∧ Cond.stringRef "LitWindows$Plan" q.1 q.2 ∈ lw_tbl := by
  refine st_six ?_ ?_ ?_ ?_ ?_ ?_
  · exact ⟨_, rfl, rfl, List.mem_of_getElem? (i := 550) (by decide +kernel)⟩
  · exact ⟨_, rfl, rfl, List.mem_of_getElem? (i := 551) (by decide +kernel)⟩
  · exact ⟨_, rfl, rfl, List.mem_of_getElem? (i := 552) (by decide +kernel)⟩
  · exact ⟨_, rfl, rfl, List.mem_of_getElem? (i := 553) (by decide +kernel)⟩
  · exact ⟨_, rfl, rfl, List.mem_of_getElem? (i := 554) (by decide +kernel)⟩
  · exact ⟨_, rfl, rfl, List.mem_of_getElem? (i := 555) (by decide +kernel)⟩
theorem st_str {args : Array Value} {s : State} (hgv : (Jvm.Cond.and given_1 narrow_1).before args s = true) : ∃ adK adV : Nat → Nat, vk_S 6 mm_len mm_byt adK adV (fun q => s.heap.size ≤ q) s s.heap ∧ ∀ i : Nat, i < 6 → (st_tm i).eval args s none [] s = some (.ref (adK i)) := by
  have hf := flat_of_before _ hgv
  refine vk_Sof (tm := st_tm) (fun i hi => ?_) (fun i hi => hf _ (st_ex i hi)) (fun i hi => hf _ (st_co i hi)) (fun i hi => hf _ (st_ar i hi)) (fun i hi => hf _ (st_le i hi)) (fun i hi j hj => hf _ (st_el i hi j ?_ hj)) (fun i j hi hj hij => ?_) (fun a ha => Nat.not_le.mpr ha)
  · have := mm_len6 hi
    omega
  · have := mm_len6 hi
    omega
  · rcases st_ne i hi j hj hij with h | h
    · exact Or.inl (hf _ h)
    · exact Or.inr (hf _ h)
