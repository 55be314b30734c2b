/-! THE ENTRY: what the tables and the Statement's premises give -/
def st_ix (i : Nat) : Nat := 82 + 2 * i
def st_tm (i : Nat) : Term := .string "LitWindows$Plan" (st_ix i)
abbrev st_fl : List Cond := flatC (Jvm.Cond.and given_1 narrow_1)
theorem st_six {P : Nat → Prop} (h0 : P 0) (h1 : P 1) (h2 : P 2) (h3 : P 3) (h4 : P 4) (h5 : P 5) : ∀ i, i < 6 → P i := by
  intro i hi
  rcases (show i = 0 ∨ i = 1 ∨ i = 2 ∨ i = 3 ∨ i = 4 ∨ i = 5 by omega) with rfl | rfl | rfl | rfl | rfl | rfl <;> assumption
theorem st_ex : ∀ i, i < 6 → Cond.exactly (st_tm i) "java/lang/String" ∈ st_fl := by decide +kernel
theorem st_co : ∀ i, i < 6 → Cond.eq (.field (st_tm i) "java/lang/String" "coder" "B") (.int 0) ∈ st_fl := by decide +kernel
theorem st_ar : ∀ i, i < 6 → Cond.arrayOf (.field (st_tm i) "java/lang/String" "value" "[B") .byte ∈ st_fl := by decide +kernel
theorem st_le : ∀ i, i < 6 → Cond.eq (.length (.field (st_tm i) "java/lang/String" "value" "[B")) (.int (Int32.ofNat (mm_len.getD i 0))) ∈ st_fl := by decide +kernel
theorem st_el : ∀ i, i < 6 → ∀ j, j < 6 → j < mm_len.getD i 0 → Cond.eq (.elem (.field (st_tm i) "java/lang/String" "value" "[B") (.int (Int32.ofNat j))) (.int ((mm_byt.getD i []).getD j 0)) ∈ st_fl := by decide +kernel
theorem st_ne : ∀ i, i < 6 → ∀ j, j < 6 → i ≠ j → Cond.not (Cond.eq (st_tm i) (st_tm j)) ∈ st_fl ∨ Cond.not (Cond.eq (st_tm j) (st_tm i)) ∈ st_fl := by decide +kernel
theorem st_sr : ∀ i, i < 6 → ∃ q : Nat × String, mm_cix[i]? = some q ∧ q.1 = st_ix i ∧ Cond.stringRef "LitWindows$Plan" q.1 q.2 ∈ lw_tbl := by
  refine st_six ?_ ?_ ?_ ?_ ?_ ?_
  · exact ⟨_, rfl, rfl, List.mem_of_getElem? (i := 549) (by decide +kernel)⟩
  · exact ⟨_, rfl, rfl, List.mem_of_getElem? (i := 550) (by decide +kernel)⟩
  · exact ⟨_, rfl, rfl, List.mem_of_getElem? (i := 551) (by decide +kernel)⟩
  · exact ⟨_, rfl, rfl, List.mem_of_getElem? (i := 552) (by decide +kernel)⟩
  · exact ⟨_, rfl, rfl, List.mem_of_getElem? (i := 553) (by decide +kernel)⟩
  · exact ⟨_, rfl, rfl, List.mem_of_getElem? (i := 554) (by decide +kernel)⟩
theorem st_str {args : Array Value} {s : State} (hgv : (Jvm.Cond.and given_1 narrow_1).before args s = true) : ∃ adK adV : Nat → Nat, vk_S 6 mm_len mm_byt adK adV (fun q => s.heap.size ≤ q) s s.heap ∧ ∀ i : Nat, i < 6 → (st_tm i).eval args s none [] s = some (.ref (adK i)) := by
  have hf := flat_of_before _ hgv
  refine vk_Sof (tm := st_tm) (fun i hi => ?_) (fun i hi => hf _ (st_ex i hi)) (fun i hi => hf _ (st_co i hi)) (fun i hi => hf _ (st_ar i hi)) (fun i hi => hf _ (st_le i hi)) (fun i hi j hj => hf _ (st_el i hi j ?_ hj)) (fun i j hi hj hij => ?_) (fun a ha => Nat.not_le.mpr ha)
  · have := mm_len6 hi
    omega
  · have := mm_len6 hi
    omega
  · rcases st_ne i hi j hj hij with h | h
    · exact Or.inl (hf _ h)
    · exact Or.inr (hf _ h)
theorem st_arr {args : Array Value} {s : State} {ty : FieldType} (h : (Cond.arrayClass ty).before args s = true) : ∃ c : ClassId, ArrOfT s c ty ∧ s.vm.findClass ("[" ++ ty.toString) = some c := by
  obtain ⟨c, k, comp, h1, h2, h3⟩ := Cond.arrayClass_spec h
  exact ⟨c, fun N z => ⟨(fun q hq => by cases hq), k, h2, comp, h3⟩, h1⟩
theorem st_arr2 {args : Array Value} {s : State} (h : (Cond.arrayOver (.array .int)).before args s = true) : ∃ c : ClassId, ArrOfT s c (.array .int) ∧ s.vm.findClass ("[" ++ (FieldType.array .int).toString) = some c := by
  obtain ⟨comp, c, k, h1, h2, h3, h4, h5⟩ := arrayOverA_spec h
  exact ⟨c, fun N z => ⟨(fun q hq => by cases hq), k, h3, comp, h4⟩, h5⟩
theorem st_big {w : Cond} (h : w ∈ mm_big) : w ∈ lw_tbl := (List.mem_filter.mp h).1
theorem st_kn {args : Array Value} {s : State} (hts : ∀ w ∈ lw_tbl, w.before args s = true) {C : String} {T : u_T} {N : Nat} (hin : ∀ w ∈ u_ws C T N, w ∈ mm_big) (hi : Cond.instantiable C N ∈ lw_tbl) : ∃ (cC : ClassId) (iS : Nat → Nat), u_Kn s C T N cC iS :=
  u_known hts (fun w hw => st_big (hin w hw)) (hts _ hi)
theorem st_K {args : Array Value} {s : State} (hts : ∀ w ∈ lw_tbl, w.before args s = true) : ∃ (D : va_G) (ck : Nat → ClassId), va_K D vwCl (mm_ty ck) s := by
  obtain ⟨c0, i0, k0⟩ := st_kn hts inX0 (List.mem_of_getElem? (i := 310) (by decide +kernel))
  obtain ⟨c1, i1, k1⟩ := st_kn hts inX1 (List.mem_of_getElem? (i := 230) (by decide +kernel))
  obtain ⟨c2, i2, k2⟩ := st_kn hts inX2 (List.mem_of_getElem? (i := 292) (by decide +kernel))
  obtain ⟨c3, i3, k3⟩ := st_kn hts inX3 (List.mem_of_getElem? (i := 236) (by decide +kernel))
  obtain ⟨c4, i4, k4⟩ := st_kn hts inX4 (List.mem_of_getElem? (i := 167) (by decide +kernel))
  obtain ⟨c5, i5, k5⟩ := st_kn hts inX5 (List.mem_of_getElem? (i := 91) (by decide +kernel))
  obtain ⟨c6, i6, k6⟩ := st_kn hts inX6 (List.mem_of_getElem? (i := 203) (by decide +kernel))
  obtain ⟨c7, i7, k7⟩ := st_kn hts inX7 (List.mem_of_getElem? (i := 83) (by decide +kernel))
  obtain ⟨c8, i8, k8⟩ := st_kn hts inX8 (List.mem_of_getElem? (i := 903) (by decide +kernel))
  obtain ⟨a0, b0, e0⟩ := st_arr (hts (.arrayClass .int) (List.mem_of_getElem? (i := 164) (by decide +kernel)))
  obtain ⟨a1, b1, e1⟩ := st_arr (hts (.arrayClass .long) (List.mem_of_getElem? (i := 165) (by decide +kernel)))
  obtain ⟨a2, b2, e2⟩ := st_arr (hts (.arrayClass .boolean) (List.mem_of_getElem? (i := 341) (by decide +kernel)))
  obtain ⟨a3, b3, e3⟩ := st_arr2 (hts (.arrayOver (.array .int)) (List.mem_of_getElem? (i := 258) (by decide +kernel)))
  refine ⟨(fun k => [c0, c1, c2, c3, c4, c5, c6, c7, c8].getD k 0, fun k => [i0, i1, i2, i3, i4, i5, i6, i7, i8].getD k (fun _ => 0)), fun k => [a0, a1, a2, a3].getD k 0, ?_, ?_⟩
  · intro c q hq
    have hc : c < 9 := (List.getElem?_eq_some_iff.mp hq).1
    rcases (show c = 0 ∨ c = 1 ∨ c = 2 ∨ c = 3 ∨ c = 4 ∨ c = 5 ∨ c = 6 ∨ c = 7 ∨ c = 8 by omega) with rfl | rfl | rfl | rfl | rfl | rfl | rfl | rfl | rfl <;> cases hq <;> assumption
  · intro k q hq
    have hk : k < 4 := (List.getElem?_eq_some_iff.mp hq).1
    rcases (show k = 0 ∨ k = 1 ∨ k = 2 ∨ k = 3 by omega) with rfl | rfl | rfl | rfl <;> cases hq
    · exact ⟨b0, e0⟩
    · exact ⟨b1, e1⟩
    · exact ⟨b2, e2⟩
    · exact ⟨b3, e3⟩
theorem st_nest : ∀ q ∈ mm_nest, Cond.methodLinkNest q.1 q.2.1 q.2.2.1 q.2.2.2 ∈ lw_tbl := by decide +kernel
theorem st_N {args : Array Value} {s : State} {b : Nat} (hts : ∀ w ∈ lw_tbl, w.before args s = true) (hgv : (Jvm.Cond.and given_1 narrow_1).before args s = true) : ∃ ad : Nat → Nat, ad 4000 = b ∧ mm_N ad (fun q => s.heap.size ≤ q) s := by
  obtain ⟨adK, adV, hV, hE⟩ := st_str hgv
  have hf := flat_of_before _ hgv
  have e1 : ∀ i, i < 6 → (fun k => if k = 4000 then b else if k < 2000 then adK (k - 1000) else adV (k - 2000)) (1000 + i) = adK i := by
    intro i hi
    show (if 1000 + i = 4000 then b else if 1000 + i < 2000 then adK (1000 + i - 1000) else adV (1000 + i - 2000)) = adK i
    rw [if_neg (by omega), if_pos (by omega), Nat.add_sub_cancel_left]
  have e2 : ∀ i, i < 6 → (fun k => if k = 4000 then b else if k < 2000 then adK (k - 1000) else adV (k - 2000)) (2000 + i) = adV i := by
    intro i hi
    show (if 2000 + i = 4000 then b else if 2000 + i < 2000 then adK (2000 + i - 1000) else adV (2000 + i - 2000)) = adV i
    rw [if_neg (by omega), if_neg (by omega), Nat.add_sub_cancel_left]
  refine ⟨fun k => if k = 4000 then b else if k < 2000 then adK (k - 1000) else adV (k - 2000), by simp, fun q hq => va_Nw.of rfl (hts _ (st_nest q hq)), ?_, ?_, ?_, ?_⟩
  · refine ⟨fun i hi => ?_, fun i j hi hj h => ?_⟩
    · have h := hV.1 i hi
      rw [e1 i hi, e2 i hi]
      exact h
    · rw [e1 i hi, e1 j hj] at h
      exact hV.2 i j hi hj h
  · intro i q hq
    have hi : i < 6 := (List.getElem?_eq_some_iff.mp hq).1
    obtain ⟨q', h1, h2, h3⟩ := st_sr i hi
    have hqq : q' = q := Option.some.inj (h1.symm.trans hq)
    subst hqq
    rw [e1 i hi]
    refine vk_R.of (A := args) (hts _ h3) ?_
    rw [h2]
    exact hE i hi
  · exact va_Zof (hts _ (List.mem_of_getElem? (i := 568) (by decide +kernel))) (hts _ (List.mem_of_getElem? (i := 75) (by decide +kernel))) (va_eqt (hf _ (by decide +kernel))) (fun a ha => Nat.not_le.mpr ha)
  · exact va_Zqof (hts _ (List.mem_of_getElem? (i := 584) (by decide +kernel))) (hts _ (List.mem_of_getElem? (i := 77) (by decide +kernel))) (hf _ (by decide +kernel)) (fun a ha => Nat.not_le.mpr ha)
