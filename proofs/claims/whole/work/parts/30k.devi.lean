/-! THE DEVIATIONS as the class makes them -/
def AR (dv : Nat → Int32) (l : List Nat) : Prop := ∀ k, k < l.length → dv k = nI (l.getD k 0)
def DV (dv : Nat → Int32) : Prop := ∀ k, k < 299 → dv k = nI (devL.getD k 0)
theorem adL_ok {v : Nat} (hv : v < 4096) : ∀ (j : Nat) (l : List Nat), j ≤ 12 → l.length ≤ 299 → (∀ x, x ∈ l → x < 4096) → l.length ≤ (adL v j l).length ∧ (adL v j l).length ≤ 299 ∧ ∀ x, x ∈ adL v j l → x < 4096
  | 0, l, _, h, h2 => ⟨Nat.le_refl _, h, h2⟩
  | j + 1, l, hj, h, h2 => by
    rw [adL]
    split
    · rename_i g
      have ih := adL_ok hv j (l ++ [v ||| (1 <<< (12 - (j + 1)))]) (by omega) (by rw [List.length_append]; simp; omega) (fun x hx => by
        rcases List.mem_append.mp hx with q | q
        · exact h2 x q
        · rw [List.mem_singleton] at q
          subst q
          apply Nat.or_lt_two_pow (n := 12) hv
          rw [Nat.shiftLeft_eq, Nat.one_mul]
          exact Nat.pow_lt_pow_right (by decide) (by omega))
      rw [List.length_append, List.length_singleton] at ih
      exact ⟨by omega, ih.2.1, ih.2.2⟩
    · exact adL_ok hv j l (by omega) h h2
theorem adR_ok {e : Nat} : ∀ (j f : Nat) (l : List Nat), l.length ≤ 299 → (∀ x, x ∈ l → x < 4096) → l.length ≤ (adR f e j l).length ∧ (adR f e j l).length ≤ 299 ∧ ∀ x, x ∈ adR f e j l → x < 4096
  | 0, f, l, h, h2 => ⟨Nat.le_refl _, h, h2⟩
  | j + 1, f, l, h, h2 => by
    rw [adR]
    split
    · have hv : l.getD f 0 < 4096 := by
        rw [List.getD_eq_getElem?_getD]
        cases hq : l[f]? with
        | none => decide
        | some q => exact h2 q (List.mem_of_getElem? hq)
      have a := adL_ok hv 12 l (by omega) h h2
      have ih := adR_ok (e := e) j (f + 1) _ a.2.1 a.2.2
      exact ⟨by omega, ih.2.1, ih.2.2⟩
    · exact ⟨Nat.le_refl _, h, h2⟩
theorem AR_push {dv : Nat → Int32} {l : List Nat} {x : Nat} (h : AR dv l) : AR (upd dv l.length (nI x)) (l ++ [x]) := by
  intro k hk
  rw [List.length_append] at hk
  simp at hk
  rw [upd_at]
  by_cases e : k = l.length
  · subst e
    rw [if_pos rfl]
    simp
  · rw [if_neg e, h k (by omega), List.getD_eq_getElem?_getD, List.getD_eq_getElem?_getD, List.getElem?_append_left (by omega)]
section
variable {fu : Nat}
theorem x1_add {v : Nat} (hv : v < 4096) : ∀ (j n : Nat) (dv : Nat → Int32) (l : List Nat), j ≤ 12 → j < n → l.length ≤ 299 → AR dv l → ∃ d2, AR d2 (adL v j l) ∧ X1_addLarger_L5 fu (nI v) n dv (nI l.length) (nI (12 - j)) = some (nI (adL v j l).length, d2)
  | 0, n, dv, l, _, hn, hl, hA => by
    obtain ⟨m, rfl⟩ : ∃ m, n = m + 1 := ⟨n - 1, by omega⟩
    refine ⟨dv, hA, ?_⟩
    rw [X1_addLarger_L5]
    generalize X1_addLarger_L5 fu (nI v) m = rec
    simp (disch := omega) only [adL, pz_c0, pz_c1, pz_c2, pz_c3, pz_c4, pz_c5, pz_c6, pz_c7, pz_c8, pz_c9, pz_c10, pz_c11, pz_c12, pz_c13, pz_c14, pz_c15, pz_c16, pz_c17, pz_c18, pz_c19, pz_c20, pz_c21, pz_c22, pz_c23, pz_c24, pz_c25, pz_c26, pz_c27, pz_c28, pz_c29, pz_c30, pz_c31, pz_c32, pz_c33, pz_c34, pz_c35, pz_c36, pz_c42, pz_c48, pz_c57, pz_c59, pz_c60, pz_c63, pz_c64, pz_c66, pz_c96, pz_c97, pz_c99, pz_c100, pz_c122, pz_c127, pz_c128, pz_c200, pz_c255, pz_c299, pz_c300, pz_c336, pz_c354, pz_c585, pz_c666, pz_c708, pz_c1000, pz_c1170, pz_c4095, pz_c4096, pz_c4608, pz_c1000000, nI_add, pk_mul, pk_sub, pz_sub, pk_div, pz_or, pz_and, pz_xor, pz_n31, pz_shl, pz_shr, pz_eq, pz_le, pz_lt, pz_eqm, pz_meq, pz_mmeq, pz_lem, pz_mle, pz_ltm, pz_mlt, pz_mmle, pz_mmlt, pz_rd, pz_ck, pz_let, pz_cl, pz_bind, pz_gd, pz_zbb, eI_of, eI_N, pz_leT, pz_leF, pz_ltT, pz_ltF, pz_eqT, pz_eqF, if_pos, if_neg, if_true, if_false, ite_true, ite_false, pz_b0, pz_b1i, pz_bf, pz_bt, Bool.false_eq_true, Bool.true_eq_false, decide_true, decide_false, and_true, and_false, true_and, false_and, and_self, or_true, or_false, true_or, false_or, or_self, not_true_eq_false, not_false_eq_true, ne_eq, reduceIte, eq_self, upd_at]
  | j + 1, n, dv, l, hj, hn, hl, hA => by
    obtain ⟨m, rfl⟩ : ∃ m, n = m + 1 := ⟨n - 1, by omega⟩
    have hsh : v >>> (12 - (j + 1)) ≤ v := by rw [Nat.shiftRight_eq_div_pow]; exact Nat.div_le_self _ _
    have ec : 12 - (j + 1) + 1 = 12 - j := by omega
    rw [adL]
    by_cases g : v >>> (12 - (j + 1)) = 0 ∧ l.length < 299
    · rw [if_pos g]
      obtain ⟨d2, h1, h2⟩ := x1_add hv j m (upd dv l.length (nI (v ||| (1 <<< (12 - (j + 1)))))) (l ++ [v ||| (1 <<< (12 - (j + 1)))]) (by omega) (by omega) (by rw [List.length_append]; simp; omega) (AR_push hA)
      refine ⟨d2, h1, ?_⟩
      rw [← h2, X1_addLarger_L5]
      have el : (l ++ [v ||| (1 <<< (12 - (j + 1)))]).length = l.length + 1 := by simp
      rw [el]
      generalize X1_addLarger_L5 fu (nI v) m = rec
      obtain ⟨g1, g2⟩ := g
      simp (disch := omega) only [X1_addLarger_J41, g1, ec, pz_c0, pz_c1, pz_c2, pz_c3, pz_c4, pz_c5, pz_c6, pz_c7, pz_c8, pz_c9, pz_c10, pz_c11, pz_c12, pz_c13, pz_c14, pz_c15, pz_c16, pz_c17, pz_c18, pz_c19, pz_c20, pz_c21, pz_c22, pz_c23, pz_c24, pz_c25, pz_c26, pz_c27, pz_c28, pz_c29, pz_c30, pz_c31, pz_c32, pz_c33, pz_c34, pz_c35, pz_c36, pz_c42, pz_c48, pz_c57, pz_c59, pz_c60, pz_c63, pz_c64, pz_c66, pz_c96, pz_c97, pz_c99, pz_c100, pz_c122, pz_c127, pz_c128, pz_c200, pz_c255, pz_c299, pz_c300, pz_c336, pz_c354, pz_c585, pz_c666, pz_c708, pz_c1000, pz_c1170, pz_c4095, pz_c4096, pz_c4608, pz_c1000000, nI_add, pk_mul, pk_sub, pz_sub, pk_div, pz_or, pz_and, pz_xor, pz_n31, pz_shl, pz_shr, pz_eq, pz_le, pz_lt, pz_eqm, pz_meq, pz_mmeq, pz_lem, pz_mle, pz_ltm, pz_mlt, pz_mmle, pz_mmlt, pz_rd, pz_ck, pz_let, pz_cl, pz_bind, pz_gd, pz_zbb, eI_of, eI_N, pz_leT, pz_leF, pz_ltT, pz_ltF, pz_eqT, pz_eqF, if_pos, if_neg, if_true, if_false, ite_true, ite_false, pz_b0, pz_b1i, pz_bf, pz_bt, Bool.false_eq_true, Bool.true_eq_false, decide_true, decide_false, and_true, and_false, true_and, false_and, and_self, or_true, or_false, true_or, false_or, or_self, not_true_eq_false, not_false_eq_true, ne_eq, reduceIte, eq_self, upd_at]
    · rw [if_neg g]
      obtain ⟨d2, h1, h2⟩ := x1_add hv j m dv l (by omega) (by omega) hl hA
      refine ⟨d2, h1, ?_⟩
      rw [← h2, X1_addLarger_L5]
      generalize X1_addLarger_L5 fu (nI v) m = rec
      by_cases g1 : v >>> (12 - (j + 1)) = 0
      · have g2 : ¬ l.length < 299 := fun q => g ⟨g1, q⟩
        simp (disch := omega) only [X1_addLarger_J41, g1, ec, pz_c0, pz_c1, pz_c2, pz_c3, pz_c4, pz_c5, pz_c6, pz_c7, pz_c8, pz_c9, pz_c10, pz_c11, pz_c12, pz_c13, pz_c14, pz_c15, pz_c16, pz_c17, pz_c18, pz_c19, pz_c20, pz_c21, pz_c22, pz_c23, pz_c24, pz_c25, pz_c26, pz_c27, pz_c28, pz_c29, pz_c30, pz_c31, pz_c32, pz_c33, pz_c34, pz_c35, pz_c36, pz_c42, pz_c48, pz_c57, pz_c59, pz_c60, pz_c63, pz_c64, pz_c66, pz_c96, pz_c97, pz_c99, pz_c100, pz_c122, pz_c127, pz_c128, pz_c200, pz_c255, pz_c299, pz_c300, pz_c336, pz_c354, pz_c585, pz_c666, pz_c708, pz_c1000, pz_c1170, pz_c4095, pz_c4096, pz_c4608, pz_c1000000, nI_add, pk_mul, pk_sub, pz_sub, pk_div, pz_or, pz_and, pz_xor, pz_n31, pz_shl, pz_shr, pz_eq, pz_le, pz_lt, pz_eqm, pz_meq, pz_mmeq, pz_lem, pz_mle, pz_ltm, pz_mlt, pz_mmle, pz_mmlt, pz_rd, pz_ck, pz_let, pz_cl, pz_bind, pz_gd, pz_zbb, eI_of, eI_N, pz_leT, pz_leF, pz_ltT, pz_ltF, pz_eqT, pz_eqF, if_pos, if_neg, if_true, if_false, ite_true, ite_false, pz_b0, pz_b1i, pz_bf, pz_bt, Bool.false_eq_true, Bool.true_eq_false, decide_true, decide_false, and_true, and_false, true_and, false_and, and_self, or_true, or_false, true_or, false_or, or_self, not_true_eq_false, not_false_eq_true, ne_eq, reduceIte, eq_self, upd_at]
      · simp (disch := omega) only [X1_addLarger_J41, g1, ec, pz_c0, pz_c1, pz_c2, pz_c3, pz_c4, pz_c5, pz_c6, pz_c7, pz_c8, pz_c9, pz_c10, pz_c11, pz_c12, pz_c13, pz_c14, pz_c15, pz_c16, pz_c17, pz_c18, pz_c19, pz_c20, pz_c21, pz_c22, pz_c23, pz_c24, pz_c25, pz_c26, pz_c27, pz_c28, pz_c29, pz_c30, pz_c31, pz_c32, pz_c33, pz_c34, pz_c35, pz_c36, pz_c42, pz_c48, pz_c57, pz_c59, pz_c60, pz_c63, pz_c64, pz_c66, pz_c96, pz_c97, pz_c99, pz_c100, pz_c122, pz_c127, pz_c128, pz_c200, pz_c255, pz_c299, pz_c300, pz_c336, pz_c354, pz_c585, pz_c666, pz_c708, pz_c1000, pz_c1170, pz_c4095, pz_c4096, pz_c4608, pz_c1000000, nI_add, pk_mul, pk_sub, pz_sub, pk_div, pz_or, pz_and, pz_xor, pz_n31, pz_shl, pz_shr, pz_eq, pz_le, pz_lt, pz_eqm, pz_meq, pz_mmeq, pz_lem, pz_mle, pz_ltm, pz_mlt, pz_mmle, pz_mmlt, pz_rd, pz_ck, pz_let, pz_cl, pz_bind, pz_gd, pz_zbb, eI_of, eI_N, pz_leT, pz_leF, pz_ltT, pz_ltF, pz_eqT, pz_eqF, if_pos, if_neg, if_true, if_false, ite_true, ite_false, pz_b0, pz_b1i, pz_bf, pz_bt, Bool.false_eq_true, Bool.true_eq_false, decide_true, decide_false, and_true, and_false, true_and, false_and, and_self, or_true, or_false, true_or, false_or, or_self, not_true_eq_false, not_false_eq_true, ne_eq, reduceIte, eq_self, upd_at]
theorem x1_ring (hf : 5000 ≤ fu) {e : Nat} {v3 : Int32} {rec : (Nat → Int32) → Int32 → Int32 → Int32 → Option (Nat → Int32)} : ∀ (j f n : Nat) (dv : Nat → Int32) (l : List Nat), f + j = e → j < n → e ≤ l.length → l.length ≤ 299 → (∀ x, x ∈ l → x < 4096) → AR dv l → ∃ d2, AR d2 (adR f e j l) ∧ X1_init_L90 fu rec v3 (nI e) n dv (nI l.length) (nI f) = rec d2 (nI (adR f e j l).length) (nI e) (v3 + 1)
  | 0, f, n, dv, l, he, hn, hel, hl, hb, hA => by
    obtain ⟨m, rfl⟩ : ∃ m, n = m + 1 := ⟨n - 1, by omega⟩
    refine ⟨dv, hA, ?_⟩
    rw [X1_init_L90]
    generalize X1_init_L90 fu rec v3 (nI e) m = rec2
    simp (disch := omega) only [adR, pz_c0, pz_c1, pz_c2, pz_c3, pz_c4, pz_c5, pz_c6, pz_c7, pz_c8, pz_c9, pz_c10, pz_c11, pz_c12, pz_c13, pz_c14, pz_c15, pz_c16, pz_c17, pz_c18, pz_c19, pz_c20, pz_c21, pz_c22, pz_c23, pz_c24, pz_c25, pz_c26, pz_c27, pz_c28, pz_c29, pz_c30, pz_c31, pz_c32, pz_c33, pz_c34, pz_c35, pz_c36, pz_c42, pz_c48, pz_c57, pz_c59, pz_c60, pz_c63, pz_c64, pz_c66, pz_c96, pz_c97, pz_c99, pz_c100, pz_c122, pz_c127, pz_c128, pz_c200, pz_c255, pz_c299, pz_c300, pz_c336, pz_c354, pz_c585, pz_c666, pz_c708, pz_c1000, pz_c1170, pz_c4095, pz_c4096, pz_c4608, pz_c1000000, nI_add, pk_mul, pk_sub, pz_sub, pk_div, pz_or, pz_and, pz_xor, pz_n31, pz_shl, pz_shr, pz_eq, pz_le, pz_lt, pz_eqm, pz_meq, pz_mmeq, pz_lem, pz_mle, pz_ltm, pz_mlt, pz_mmle, pz_mmlt, pz_rd, pz_ck, pz_let, pz_cl, pz_bind, pz_gd, pz_zbb, eI_of, eI_N, pz_leT, pz_leF, pz_ltT, pz_ltF, pz_eqT, pz_eqF, if_pos, if_neg, if_true, if_false, ite_true, ite_false, pz_b0, pz_b1i, pz_bf, pz_bt, Bool.false_eq_true, Bool.true_eq_false, decide_true, decide_false, and_true, and_false, true_and, false_and, and_self, or_true, or_false, true_or, false_or, or_self, not_true_eq_false, not_false_eq_true, ne_eq, reduceIte, eq_self, upd_at]
  | j + 1, f, n, dv, l, he, hn, hel, hl, hb, hA => by
    obtain ⟨m, rfl⟩ : ∃ m, n = m + 1 := ⟨n - 1, by omega⟩
    have hv : l.getD f 0 < 4096 := by
      rw [List.getD_eq_getElem?_getD]
      cases hq : l[f]? with
      | none => decide
      | some q => exact hb q (List.mem_of_getElem? hq)
    obtain ⟨d1, h1, h2⟩ := x1_add (fu := fu) hv 12 fu dv l (by omega) (by omega) hl hA
    have ok := adL_ok hv 12 l (by omega) hl hb
    obtain ⟨d2, h3, h4⟩ := x1_ring hf (e := e) (v3 := v3) (rec := rec) j (f + 1) m d1 (adL (l.getD f 0) 12 l) (by omega) (by omega) (by omega) ok.2.1 ok.2.2 h1
    refine ⟨d2, ?_, ?_⟩
    · rw [adR, if_pos (by omega)]; exact h3
    · rw [adR, if_pos (by omega), ← h4, X1_init_L90]
      generalize X1_init_L90 fu rec v3 (nI e) m = rec2
      have h5 : f_X1_addLarger fu dv (nI (l.getD f 0)) (nI l.length) = some (nI (adL (l.getD f 0) 12 l).length, d1) := h2
      simp (disch := omega) only [hA f (by omega), h5, pz_c0, pz_c1, pz_c2, pz_c3, pz_c4, pz_c5, pz_c6, pz_c7, pz_c8, pz_c9, pz_c10, pz_c11, pz_c12, pz_c13, pz_c14, pz_c15, pz_c16, pz_c17, pz_c18, pz_c19, pz_c20, pz_c21, pz_c22, pz_c23, pz_c24, pz_c25, pz_c26, pz_c27, pz_c28, pz_c29, pz_c30, pz_c31, pz_c32, pz_c33, pz_c34, pz_c35, pz_c36, pz_c42, pz_c48, pz_c57, pz_c59, pz_c60, pz_c63, pz_c64, pz_c66, pz_c96, pz_c97, pz_c99, pz_c100, pz_c122, pz_c127, pz_c128, pz_c200, pz_c255, pz_c299, pz_c300, pz_c336, pz_c354, pz_c585, pz_c666, pz_c708, pz_c1000, pz_c1170, pz_c4095, pz_c4096, pz_c4608, pz_c1000000, nI_add, pk_mul, pk_sub, pz_sub, pk_div, pz_or, pz_and, pz_xor, pz_n31, pz_shl, pz_shr, pz_eq, pz_le, pz_lt, pz_eqm, pz_meq, pz_mmeq, pz_lem, pz_mle, pz_ltm, pz_mlt, pz_mmle, pz_mmlt, pz_rd, pz_ck, pz_let, pz_cl, pz_bind, pz_gd, pz_zbb, eI_of, eI_N, pz_leT, pz_leF, pz_ltT, pz_ltF, pz_eqT, pz_eqF, if_pos, if_neg, if_true, if_false, ite_true, ite_false, pz_b0, pz_b1i, pz_bf, pz_bt, Bool.false_eq_true, Bool.true_eq_false, decide_true, decide_false, and_true, and_false, true_and, false_and, and_self, or_true, or_false, true_or, false_or, or_self, not_true_eq_false, not_false_eq_true, ne_eq, reduceIte, eq_self, upd_at]
set_option maxRecDepth 100000 in
theorem dev_l1 : (adR 0 1 1 [0]).length = 13 := by decide +kernel
set_option maxRecDepth 100000 in
theorem dev_l2 : (adR 1 13 12 (adR 0 1 1 [0])).length = 79 := by decide +kernel
theorem x1_init (hf : 5000 ≤ fu) : ∃ dv, f_X1_init fu = some dv ∧ DV dv := by
  obtain ⟨m, hm⟩ : ∃ m, fu = m + 5 := ⟨fu - 5, by omega⟩
  have b0 : ∀ x, x ∈ [0] → x < 4096 := by intro x hx; rw [List.mem_singleton] at hx; omega
  have ok1 := adR_ok (e := 1) 1 0 [0] (by decide) b0
  have ok2 := adR_ok (e := 13) 12 1 _ ok1.2.1 ok1.2.2
  have start : f_X1_init fu = X1_init_L79 fu (m + 5) (fun _ => 0) (nI 1) (nI 0) (nI 1) := by rw [f_X1_init, ← hm]; rfl
  obtain ⟨d1, a1, e1⟩ := x1_ring (fu := fu) hf (e := 1) (v3 := nI 1) (rec := X1_init_L79 fu (m + 4)) 1 0 fu (fun _ => 0) [0] rfl (by omega) (by decide) (by decide) b0 (fun k hk => by
    simp at hk
    subst hk
    rfl)
  obtain ⟨d2, a2, e2⟩ := x1_ring (fu := fu) hf (e := 13) (v3 := nI 2) (rec := X1_init_L79 fu (m + 3)) 12 1 fu d1 _ rfl (by omega) (by rw [dev_l1]; omega) ok1.2.1 ok1.2.2 a1
  obtain ⟨d3, a3, e3⟩ := x1_ring (fu := fu) hf (e := 79) (v3 := nI 3) (rec := X1_init_L79 fu (m + 2)) 66 13 fu d2 _ rfl (by omega) (by rw [dev_l2]; omega) ok2.2.1 ok2.2.2 a2
  rw [dev_l1] at e1 e2
  rw [dev_l2] at e2 e3
  refine ⟨d3, ?_, ?_⟩
  · rw [start, X1_init_L79, if_neg (by decide +kernel)]
    rw [show X1_init_L90 fu (X1_init_L79 fu (m + 4)) (nI 1) (nI 1) fu (fun _ => 0) (nI 1) (nI 0) = _ from e1]
    rw [show nI 1 + 1 = nI 2 from rfl, X1_init_L79, if_neg (by decide +kernel), e2]
    rw [show nI 2 + 1 = nI 3 from rfl, X1_init_L79, if_neg (by decide +kernel), e3]
    rw [show nI 3 + 1 = nI 4 from rfl, X1_init_L79, if_pos (by decide +kernel)]
  · intro k hk
    have h := a3 k (by
      have := devL_len
      rw [show devL = adR 13 79 66 (adR 1 13 12 (adR 0 1 1 [0])) from rfl] at this
      omega)
    exact h
end
/-! what must be known of them -/
theorem dev_lt {k : Nat} (hk : k < 299) : devL.getD k 0 < 4096 := by
  have h := List.all_eq_true.mp devL_bd
  have hl := devL_len
  rw [List.getD_eq_getElem?_getD, List.getElem?_eq_getElem (by omega)]
  exact of_decide_eq_true (h _ (List.getElem_mem _))
theorem zip_mono {l : List Nat} (hz : (l.zip (l.drop 1)).all (fun v => decide (pc v.1 ≤ pc v.2)) = true) {k : Nat} (hk : k + 1 < l.length) : pc (l.getD k 0) ≤ pc (l.getD (k + 1) 0) := by
  have e : (l.zip (l.drop 1))[k]? = some (l.getD k 0, l.getD (k + 1) 0) := by
    rw [List.getElem?_zip_eq_some]
    rw [List.getElem?_drop, List.getD_eq_getElem?_getD, List.getD_eq_getElem?_getD, List.getElem?_eq_getElem (by omega), List.getElem?_eq_getElem (show 1 + k < l.length by omega), List.getElem?_eq_getElem (show k + 1 < l.length by omega)]
    refine ⟨rfl, ?_⟩
    simp only [Option.getD_some, Nat.add_comm 1 k]
  have h := List.all_eq_true.mp hz _ (List.mem_of_getElem? e)
  exact of_decide_eq_true h
theorem dev_mono1 {k : Nat} (hk : k + 1 < 299) : pc (devL.getD k 0) ≤ pc (devL.getD (k + 1) 0) := zip_mono devL_pc (by rw [devL_len]; exact hk)
theorem dev_mono {k j : Nat} (h : k ≤ j) (hj : j < 299) : pc (devL.getD k 0) ≤ pc (devL.getD j 0) := by
  induction j with
  | zero => obtain rfl : k = 0 := by omega
            exact Nat.le_refl _
  | succ j ih =>
    rcases Nat.lt_or_ge j k with q | q
    · obtain rfl : k = j + 1 := by omega
      exact Nat.le_refl _
    · exact Nat.le_trans (ih q (by omega)) (dev_mono1 hj)
theorem dev_in {m : Nat} (hm : m < 4096) (hp : pc m ≤ 3) : ∃ k, k < 299 ∧ devL.getD k 0 = m := by
  have h := List.all_eq_true.mp devL_all m (List.mem_range.mpr hm)
  have hl := devL_len
  rw [decide_eq_false (by omega), Bool.false_or, List.contains_iff_mem] at h
  obtain ⟨k, hk, e⟩ := List.getElem_of_mem h
  refine ⟨k, by omega, ?_⟩
  rw [List.getD_eq_getElem?_getD, List.getElem?_eq_getElem hk]
  exact e
