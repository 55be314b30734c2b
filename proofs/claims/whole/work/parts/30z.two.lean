/-! TWO: the reference's walls, and the fewest that differ -/
theorem pz_shrL {x k : Nat} (hx : x < 2 ^ 62) (hk : k < 64) : lN x >>> lN k = lN (x >>> k) := by
  have h : ∀ k, k < 64 → ((lN k).toBitVec.smod 64).toNat = k := by decide +kernel
  have h2 : x >>> k ≤ x := by rw [Nat.shiftRight_eq_div_pow]; exact Nat.div_le_self _ _
  apply Int64.toInt_inj.1
  have e : (lN x >>> lN k).toInt = (lN x).toInt >>> k := by
    show ((lN x).toBitVec.sshiftRight ((lN k).toBitVec.smod 64).toNat).toInt = _
    rw [h k hk, BitVec.toInt_sshiftRight]
    rfl
  rw [e, pk_lT (by omega), pk_lT (by omega), Int.shiftRight_eq_div_pow, Nat.shiftRight_eq_div_pow]
  rfl
def PCK (s : Nat → Nat) (h w : Nat) (p : PL) (i k : Nat) : Nat := mkN (fun c => if inb p.1 (pcol p i) c = true ∧ idx p.1 (pcol p i) c < k then (s (30 + wd w i)).testBit (idx p.1 (pcol p i) c) else pcF s h w p i c) 60
def mnj (a : Nat) (B : List Nat) (m : Nat) : Nat → Nat
  | 0 => m
  | j + 1 => if ctN (a ^^^ B.getD j 0).testBit 60 < mnj a B m j then ctN (a ^^^ B.getD j 0).testBit 60 else mnj a B m j
def mni (A B : List Nat) : Nat → Nat
  | 0 => 65535
  | i + 1 => mnj (A.getD i 0) B (mni A B i) B.length
theorem mnj_rng {a : Nat} {B : List Nat} {m : Nat} (hm : m = 65535 ∨ m ≤ 60) : ∀ j, mnj a B m j = 65535 ∨ mnj a B m j ≤ 60
  | 0 => hm
  | j + 1 => by
    have h := ctN_le (a ^^^ B.getD j 0).testBit 60
    rw [mnj]
    split
    · right; exact h
    · exact mnj_rng hm j
theorem mni_rng {A B : List Nat} : ∀ i, mni A B i = 65535 ∨ mni A B i ≤ 60
  | 0 => Or.inl rfl
  | i + 1 => mnj_rng (mni_rng i) _
theorem getD_lt {l : List Nat} {N : Nat} (h : ∀ x, x ∈ l → x < N) (h0 : 0 < N) (j : Nat) : l.getD j 0 < N := by
  rw [List.getD_eq_getElem?_getD]
  cases hq : l[j]? with
  | none => exact h0
  | some q => exact h q (List.mem_of_getElem? hq)
section
variable {fu : Nat} {s : Nat → Nat} {st ones rf : Nat → Int32} {h w : Nat}
theorem x8_wallOf (hf : 5000 ≤ fu) (I : Iv s) (R : SR st s) (hh : h < 4) : f_X8_wallOf fu st (nI h) = some (lN (LI s h)) := by
  rw [f_X8_wallOf, LI]
  refine pz_up (fun n c => X8_wallOf_L5 fu st (nI h) n (lN (mkN (fun c => decide (s (96 + 60 * h + c) = 1)) c)) (nI c)) 60 _ (fun n c hc => ?_) (fun n => ?_) fu 0 (by omega) (by omega)
  · have e1 := R (96 + 60 * h + c) (by omega)
    have e2 := I.2.2.2.2.2.2.2.2.1 (60 * h + c) (by omega)
    rw [← Nat.add_assoc] at e2
    rw [X8_wallOf_L5]
    generalize X8_wallOf_L5 fu st (nI h) n = rec
    simp (disch := omega) only [e1, pz_c0, pz_c1, pz_c2, pz_c3, pz_c4, pz_c5, pz_c6, pz_c7, pz_c8, pz_c9, pz_c10, pz_c11, pz_c12, pz_c13, pz_c14, pz_c15, pz_c16, pz_c17, pz_c18, pz_c19, pz_c20, pz_c21, pz_c22, pz_c23, pz_c24, pz_c25, pz_c26, pz_c27, pz_c28, pz_c29, pz_c30, pz_c31, pz_c32, pz_c33, pz_c34, pz_c35, pz_c36, pz_c42, pz_c48, pz_c57, pz_c59, pz_c60, pz_c63, pz_c64, pz_c66, pz_c96, pz_c97, pz_c99, pz_c100, pz_c122, pz_c127, pz_c128, pz_c200, pz_c255, pz_c299, pz_c300, pz_c336, pz_c354, pz_c585, pz_c666, pz_c708, pz_c1000, pz_c1170, pz_c4095, pz_c4096, pz_c4608, pz_c1000000, nI_add, pk_mul, pk_sub, pz_sub, pk_div, pz_or, pz_and, pz_xor, pz_n31, pz_shl, pz_shr, pz_eq, pz_le, pz_lt, pz_eqm, pz_meq, pz_mmeq, pz_lem, pz_mle, pz_ltm, pz_mlt, pz_mmle, pz_mmlt, pz_rd, pz_ck, pz_let, pz_cl, pz_bind, pz_gd, pz_zbb, eI_of, eI_N, pz_leT, pz_leF, pz_ltT, pz_ltF, pz_eqT, pz_eqF, if_pos, if_neg, if_true, if_false, ite_true, ite_false, pz_b0, pz_b1i, pz_bf, pz_bt, Bool.false_eq_true, Bool.true_eq_false, decide_true, decide_false, and_true, and_false, true_and, false_and, and_self, or_true, or_false, true_or, false_or, or_self, not_true_eq_false, not_false_eq_true, ne_eq, reduceIte, eq_self, upd_at, pz_L0, pz_L1, pz_L7, pz_L31, pz_L63, pz_L255, pz_L4095, nI_l, pz_n63, pz_63, pz_u63, pz_ushr, pz_shlL, pz_orL, pz_andL, pz_xorL, lN_i, pz_cmp]
    rw [mkN]
    congr 3
    rcases (show s (96 + 60 * h + c) = 0 ∨ s (96 + 60 * h + c) = 1 by omega) with e | e <;> rw [e] <;> rfl
  · rw [X8_wallOf_L5]
    generalize X8_wallOf_L5 fu st (nI h) n = rec
    simp (disch := omega) only [pz_c0, pz_c1, pz_c2, pz_c3, pz_c4, pz_c5, pz_c6, pz_c7, pz_c8, pz_c9, pz_c10, pz_c11, pz_c12, pz_c13, pz_c14, pz_c15, pz_c16, pz_c17, pz_c18, pz_c19, pz_c20, pz_c21, pz_c22, pz_c23, pz_c24, pz_c25, pz_c26, pz_c27, pz_c28, pz_c29, pz_c30, pz_c31, pz_c32, pz_c33, pz_c34, pz_c35, pz_c36, pz_c42, pz_c48, pz_c57, pz_c59, pz_c60, pz_c63, pz_c64, pz_c66, pz_c96, pz_c97, pz_c99, pz_c100, pz_c122, pz_c127, pz_c128, pz_c200, pz_c255, pz_c299, pz_c300, pz_c336, pz_c354, pz_c585, pz_c666, pz_c708, pz_c1000, pz_c1170, pz_c4095, pz_c4096, pz_c4608, pz_c1000000, nI_add, pk_mul, pk_sub, pz_sub, pk_div, pz_or, pz_and, pz_xor, pz_n31, pz_shl, pz_shr, pz_eq, pz_le, pz_lt, pz_eqm, pz_meq, pz_mmeq, pz_lem, pz_mle, pz_ltm, pz_mlt, pz_mmle, pz_mmlt, pz_rd, pz_ck, pz_let, pz_cl, pz_bind, pz_gd, pz_zbb, eI_of, eI_N, pz_leT, pz_leF, pz_ltT, pz_ltF, pz_eqT, pz_eqF, if_pos, if_neg, if_true, if_false, ite_true, ite_false, pz_b0, pz_b1i, pz_bf, pz_bt, Bool.false_eq_true, Bool.true_eq_false, decide_true, decide_false, and_true, and_false, true_and, false_and, and_self, or_true, or_false, true_or, false_or, or_self, not_true_eq_false, not_false_eq_true, ne_eq, reduceIte, eq_self, upd_at]
theorem PCK_step {p : PL} {i k : Nat} (hx : pcol p i ≤ 9) (hy : p.1 ≤ 1) (hk : k < 12) : (PCK s h w p i k &&& ((1 <<< cel (12 * p.1 + pcol p i) k) ^^^ 18446744073709551615)) ||| (((s (30 + wd w i) >>> k) &&& 1) <<< cel (12 * p.1 + pcol p i) k) = PCK s h w p i (k + 1) := by
  have hcl : cel (12 * p.1 + pcol p i) k < 60 := by unfold cel; omega
  have e1 : cel (12 * p.1 + pcol p i) k % 12 = pcol p i + k % 3 := by unfold cel; omega
  have e2 : cel (12 * p.1 + pcol p i) k / 12 = p.1 + k / 3 := by unfold cel; omega
  have b1 : (s (30 + wd w i) >>> k) &&& 1 < 2 ^ 1 := Nat.and_lt_two_pow (n := 1) _ (by decide)
  apply mkN_eq
  · apply Nat.or_lt_two_pow (and60 (mkN_lt _ 60))
    rw [Nat.shiftLeft_eq]
    calc ((s (30 + wd w i) >>> k) &&& 1) * 2 ^ cel (12 * p.1 + pcol p i) k < 2 ^ 1 * 2 ^ cel (12 * p.1 + pcol p i) k := Nat.mul_lt_mul_of_pos_right b1 (Nat.two_pow_pos _)
      _ = 2 ^ (1 + cel (12 * p.1 + pcol p i) k) := (Nat.pow_add ..).symm
      _ ≤ 2 ^ 60 := Nat.pow_le_pow_right (by decide) (by omega)
  · intro c hc
    rw [Nat.testBit_or, Nat.testBit_and, not_bit hc, one_bit, pz_b1, Nat.testBit_shiftLeft, PCK, mkN_bit]
    simp only [hc, decide_true, Bool.true_and]
    by_cases e : c = cel (12 * p.1 + pcol p i) k
    · have hin : inb p.1 (pcol p i) c = true := by
        subst e
        simp only [inb, Bool.and_eq_true, decide_eq_true_eq]
        rw [e1, e2]
        refine ⟨?_, ?_, ?_, ?_⟩ <;> omega
      have hid : idx p.1 (pcol p i) c = k := by
        subst e
        unfold idx
        rw [e1, e2]
        omega
      rw [if_pos (show inb p.1 (pcol p i) c = true ∧ idx p.1 (pcol p i) c < k + 1 from ⟨hin, by omega⟩), hid, decide_eq_true e, e, Nat.sub_self]
      cases (s (30 + wd w i)).testBit k <;> simp
    · have hz : (decide (c ≥ cel (12 * p.1 + pcol p i) k) && ((s (30 + wd w i)).testBit k).toNat.testBit (c - cel (12 * p.1 + pcol p i) k)) = false := by
        rcases Nat.lt_or_ge c (cel (12 * p.1 + pcol p i) k) with q | q
        · rw [decide_eq_false (by omega)]; rfl
        · have : ((s (30 + wd w i)).testBit k).toNat.testBit (c - cel (12 * p.1 + pcol p i) k) = false := by
            apply Nat.testBit_lt_two_pow
            have h3 := Bool.toNat_le ((s (30 + wd w i)).testBit k)
            have h4 : 2 ^ 1 ≤ 2 ^ (c - cel (12 * p.1 + pcol p i) k) := Nat.pow_le_pow_right (by decide) (by omega)
            omega
          rw [this]; simp
      rw [hz, decide_eq_false e, Bool.or_false, Bool.not_false, Bool.and_true]
      have hiff : (inb p.1 (pcol p i) c = true ∧ idx p.1 (pcol p i) c < k + 1) ↔ (inb p.1 (pcol p i) c = true ∧ idx p.1 (pcol p i) c < k) := by
        constructor
        · rintro ⟨g1, g2⟩
          refine ⟨g1, ?_⟩
          simp only [inb, Bool.and_eq_true, decide_eq_true_eq] at g1
          have : idx p.1 (pcol p i) c ≠ k := by
            intro q
            apply e
            unfold idx at q
            unfold cel
            omega
          omega
        · rintro ⟨g1, g2⟩
          exact ⟨g1, by omega⟩
      by_cases g : inb p.1 (pcol p i) c = true ∧ idx p.1 (pcol p i) c < k
      · rw [if_pos g, if_pos (hiff.mpr g)]
      · rw [if_neg g, if_neg (fun q => g (hiff.mp q))]
theorem PCK_0 {p : PL} {i : Nat} : PCK s h w p i 0 = PCN s h w p i := by
  unfold PCK PCN
  apply mkN_cong
  intro c _
  rw [if_neg (fun q => Nat.not_lt_zero _ q.2)]
theorem PCK_12 {p : PL} {i : Nat} : PCK s h w p i 12 = PCN s h w p (i + 1) := by
  unfold PCK PCN
  apply mkN_cong
  intro c _
  rw [pcF]
  by_cases g : inb p.1 (pcol p i) c = true
  · rw [if_pos g, if_pos]
    refine ⟨g, ?_⟩
    simp only [inb, Bool.and_eq_true, decide_eq_true_eq] at g
    unfold idx
    omega
  · rw [if_neg g, if_neg (fun q => g q.1)]
theorem fa_cells {rec12 : Int32 → (Nat → Int32) → (Nat → Int64) → (Nat → Int32) → Option (Int32 × (Nat → Int32) × (Nat → Int64) × (Nat → Int32))} {rec33 : Int32 → Int64 → Int32 → Option (Int32 × (Nat → Int32) × (Nat → Int64) × (Nat → Int32))} {ln v1 v2 v3 v4 v7 : Int32} {co wm : Nat → Int32} {wa : Nat → Int64} {p : PL} {i : Nat} (hf : 5000 ≤ fu) (hs : s (30 + wd w i) < 4096) (hx : pcol p i ≤ 9) (hy : p.1 ≤ 1) : X8_findWalls_L104 fu rec12 rec33 ln st co wa wm v1 v2 v3 v4 v7 (nI (12 * p.1 + pcol p i)) (nI (s (30 + wd w i))) fu (lN (PCN s h w p i)) 0 = rec33 v4 (lN (PCN s h w p (i + 1))) (v7 + 1) := by
  have main := pz_up (fun n k => X8_findWalls_L104 fu rec12 rec33 ln st co wa wm v1 v2 v3 v4 v7 (nI (12 * p.1 + pcol p i)) (nI (s (30 + wd w i))) n (lN (PCK s h w p i k)) (nI k)) 12 (rec33 v4 (lN (PCK s h w p i 12)) (v7 + 1)) (fun n k hk => ?_) (fun n => ?_) fu 0 (by omega) (by omega)
  · rw [PCK_0, PCK_12] at main
    exact main
  · have e := PCK_step (s := s) (h := h) (w := w) hx hy hk
    have hb1 := Bool.toNat_le ((s (30 + wd w i)).testBit k)
    have hce : f_X8_cellOf fu (nI (12 * p.1 + pcol p i)) (nI k) = some (nI (cel (12 * p.1 + pcol p i) k)) := x8_cellOf hk
    have hcl : cel (12 * p.1 + pcol p i) k < 60 := by unfold cel; omega
    rw [pz_b1] at e
    rw [X8_findWalls_L104]
    generalize X8_findWalls_L104 fu rec12 rec33 ln st co wa wm v1 v2 v3 v4 v7 (nI (12 * p.1 + pcol p i)) (nI (s (30 + wd w i))) n = rec
    rw [pz_negL]
    simp (disch := omega) only [hce, pz_c0, pz_c1, pz_c2, pz_c3, pz_c4, pz_c5, pz_c6, pz_c7, pz_c8, pz_c9, pz_c10, pz_c11, pz_c12, pz_c13, pz_c14, pz_c15, pz_c16, pz_c17, pz_c18, pz_c19, pz_c20, pz_c21, pz_c22, pz_c23, pz_c24, pz_c25, pz_c26, pz_c27, pz_c28, pz_c29, pz_c30, pz_c31, pz_c32, pz_c33, pz_c34, pz_c35, pz_c36, pz_c42, pz_c48, pz_c57, pz_c59, pz_c60, pz_c63, pz_c64, pz_c66, pz_c96, pz_c97, pz_c99, pz_c100, pz_c122, pz_c127, pz_c128, pz_c200, pz_c255, pz_c299, pz_c300, pz_c336, pz_c354, pz_c585, pz_c666, pz_c708, pz_c1000, pz_c1170, pz_c4095, pz_c4096, pz_c4608, pz_c1000000, nI_add, pk_mul, pk_sub, pz_sub, pk_div, pz_or, pz_and, pz_xor, pz_n31, pz_shl, pz_shr, pz_eq, pz_le, pz_lt, pz_eqm, pz_meq, pz_mmeq, pz_lem, pz_mle, pz_ltm, pz_mlt, pz_mmle, pz_mmlt, pz_rd, pz_ck, pz_let, pz_cl, pz_bind, pz_gd, pz_zbb, eI_of, eI_N, pz_leT, pz_leF, pz_ltT, pz_ltF, pz_eqT, pz_eqF, if_pos, if_neg, if_true, if_false, ite_true, ite_false, pz_b0, pz_b1i, pz_bf, pz_bt, Bool.false_eq_true, Bool.true_eq_false, decide_true, decide_false, and_true, and_false, true_and, false_and, and_self, or_true, or_false, true_or, false_or, or_self, not_true_eq_false, not_false_eq_true, ne_eq, reduceIte, eq_self, upd_at, pz_L0, pz_L1, pz_L7, pz_L31, pz_L63, pz_L255, pz_L4095, nI_l, pz_n63, pz_63, pz_u63, pz_ushr, pz_shlL, pz_orL, pz_andL, pz_xorL, lN_i, pz_cmp, pz_b1]
    rw [e]
  · rw [X8_findWalls_L104]
    generalize X8_findWalls_L104 fu rec12 rec33 ln st co wa wm v1 v2 v3 v4 v7 (nI (12 * p.1 + pcol p i)) (nI (s (30 + wd w i))) n = rec
    rw [if_pos (by decide +kernel)]
theorem fa_row {rec12 : Int32 → (Nat → Int32) → (Nat → Int64) → (Nat → Int32) → Option (Int32 × (Nat → Int32) × (Nat → Int64) × (Nat → Int32))} {v1 : Int32} {co wm : Nat → Int32} {wa : Nat → Int64} (hf : 5000 ≤ fu) (I : Iv s) (R : SR st s) (hh : h < 4) (hw : okW s w) {p : PL} (hp : pok (s 0) (s 1) (wl w) p) (hC : CR co (wl w) p) : X8_findWalls_L33 fu rec12 (nI p.1) st co wa wm v1 (nI w) (nI h) fu 1 (lN (LI s h)) 0 = if canP s h w p (wl w) = true then (mm_rd wm 2 v1 fun x176 => mm_ck 128 ((64 * v1) + x176) (mm_rd wm 2 v1 fun x187 => mm_ck 2 v1 (X8_findWalls_J191 fu rec12 (nI p.1) st co (vp_updL wa ((64 * v1) + x176).toNatClampNeg (lN (PCN s h w p (wl w)))) (upd wm v1.toNatClampNeg (x187 + 1)) v1 (nI w) (nI h)))) else X8_findWalls_J191 fu rec12 (nI p.1) st co wa wm v1 (nI w) (nI h) := by
  have hr := wl_rng w
  have hw6 : w ≤ 666 := hw.2.1
  have i0 := I.1
  have i1 := I.2.1
  have i3 := I.2.2.2.1
  have hd := okW_D hw
  refine pz_up (fun n i => X8_findWalls_L33 fu rec12 (nI p.1) st co wa wm v1 (nI w) (nI h) n (bI (canP s h w p i)) (lN (PCN s h w p i)) (nI i)) (wl w) _ (fun n i hi => ?_) (fun n => ?_) fu 0 (by omega) (by omega)
  · have hc := pok_col (by omega) hp hi
    have hb := boxB_lt I (pok_box I (by omega) hp hi)
    have hwd := wd_lt hw hi
    have hs := I.2.2.2.2.2.2.2.2.2.1 _ hwd
    have hlo := x8_letterOf (fu := fu) hd hw.1 hi
    have hpr := x8_priceOf (fu := fu) hf I R hh hb hd hs
    have hrg := prX_rng (h := h) (w := w) (x := s (30 + wd w i)) I hb
    have est := R (30 + wd w i) (by omega)
    have hci := hC i hi
    rw [X8_findWalls_L33]
    have hcells := fun v4 : Int32 => fa_cells (fu := fu) (s := s) (st := st) (h := h) (w := w) (rec12 := rec12) (rec33 := X8_findWalls_L33 fu rec12 (nI p.1) st co wa wm v1 (nI w) (nI h) n) (ln := nI p.1) (v1 := v1) (v2 := nI w) (v3 := nI h) (v4 := v4) (v7 := nI i) (co := co) (wm := wm) (wa := wa) (p := p) (i := i) hf hs (by omega) (by omega)
    generalize X8_findWalls_L33 fu rec12 (nI p.1) st co wa wm v1 (nI w) (nI h) n = rec at hcells
    have hc0 := hcells 0
    have hc1 := hcells 1
    rw [canP]
    cases hcp : canP s h w p i
    · simp (disch := omega) only [x8_longOf, hci, hlo, est, X8_findWalls_J98, X8_findWalls_J99, Bool.false_and, pz_c0, pz_c1, pz_c2, pz_c3, pz_c4, pz_c5, pz_c6, pz_c7, pz_c8, pz_c9, pz_c10, pz_c11, pz_c12, pz_c13, pz_c14, pz_c15, pz_c16, pz_c17, pz_c18, pz_c19, pz_c20, pz_c21, pz_c22, pz_c23, pz_c24, pz_c25, pz_c26, pz_c27, pz_c28, pz_c29, pz_c30, pz_c31, pz_c32, pz_c33, pz_c34, pz_c35, pz_c36, pz_c42, pz_c48, pz_c57, pz_c59, pz_c60, pz_c63, pz_c64, pz_c66, pz_c96, pz_c97, pz_c99, pz_c100, pz_c122, pz_c127, pz_c128, pz_c200, pz_c255, pz_c299, pz_c300, pz_c336, pz_c354, pz_c585, pz_c666, pz_c708, pz_c1000, pz_c1170, pz_c4095, pz_c4096, pz_c4608, pz_c1000000, nI_add, pk_mul, pk_sub, pz_sub, pk_div, pz_or, pz_and, pz_xor, pz_n31, pz_shl, pz_shr, pz_eq, pz_le, pz_lt, pz_eqm, pz_meq, pz_mmeq, pz_lem, pz_mle, pz_ltm, pz_mlt, pz_mmle, pz_mmlt, pz_rd, pz_ck, pz_let, pz_cl, pz_bind, pz_gd, pz_zbb, eI_of, eI_N, pz_leT, pz_leF, pz_ltT, pz_ltF, pz_eqT, pz_eqF, if_pos, if_neg, if_true, if_false, ite_true, ite_false, pz_b0, pz_b1i, pz_bf, pz_bt, Bool.false_eq_true, Bool.true_eq_false, decide_true, decide_false, and_true, and_false, true_and, false_and, and_self, or_true, or_false, true_or, false_or, or_self, not_true_eq_false, not_false_eq_true, ne_eq, reduceIte, eq_self, upd_at]
      rw [show (0 : Int32) = nI 0 from rfl] at hc0
      rw [hc0, nI_1]
    · rcases hrg with hrg | hrg
      · simp (disch := omega) only [x8_longOf, hci, hlo, est, hpr, hrg, X8_findWalls_J98, X8_findWalls_J99, Bool.true_and, pz_c0, pz_c1, pz_c2, pz_c3, pz_c4, pz_c5, pz_c6, pz_c7, pz_c8, pz_c9, pz_c10, pz_c11, pz_c12, pz_c13, pz_c14, pz_c15, pz_c16, pz_c17, pz_c18, pz_c19, pz_c20, pz_c21, pz_c22, pz_c23, pz_c24, pz_c25, pz_c26, pz_c27, pz_c28, pz_c29, pz_c30, pz_c31, pz_c32, pz_c33, pz_c34, pz_c35, pz_c36, pz_c42, pz_c48, pz_c57, pz_c59, pz_c60, pz_c63, pz_c64, pz_c66, pz_c96, pz_c97, pz_c99, pz_c100, pz_c122, pz_c127, pz_c128, pz_c200, pz_c255, pz_c299, pz_c300, pz_c336, pz_c354, pz_c585, pz_c666, pz_c708, pz_c1000, pz_c1170, pz_c4095, pz_c4096, pz_c4608, pz_c1000000, nI_add, pk_mul, pk_sub, pz_sub, pk_div, pz_or, pz_and, pz_xor, pz_n31, pz_shl, pz_shr, pz_eq, pz_le, pz_lt, pz_eqm, pz_meq, pz_mmeq, pz_lem, pz_mle, pz_ltm, pz_mlt, pz_mmle, pz_mmlt, pz_rd, pz_ck, pz_let, pz_cl, pz_bind, pz_gd, pz_zbb, eI_of, eI_N, pz_leT, pz_leF, pz_ltT, pz_ltF, pz_eqT, pz_eqF, if_pos, if_neg, if_true, if_false, ite_true, ite_false, pz_b0, pz_b1i, pz_bf, pz_bt, Bool.false_eq_true, Bool.true_eq_false, decide_true, decide_false, and_true, and_false, true_and, false_and, and_self, or_true, or_false, true_or, false_or, or_self, not_true_eq_false, not_false_eq_true, ne_eq, reduceIte, eq_self, upd_at]
        rw [show (0 : Int32) = nI 0 from rfl] at hc0
        rw [hc0, nI_1]
      · simp (disch := omega) only [x8_longOf, hci, hlo, est, hpr, X8_findWalls_J98, X8_findWalls_J99, Bool.true_and, pz_c0, pz_c1, pz_c2, pz_c3, pz_c4, pz_c5, pz_c6, pz_c7, pz_c8, pz_c9, pz_c10, pz_c11, pz_c12, pz_c13, pz_c14, pz_c15, pz_c16, pz_c17, pz_c18, pz_c19, pz_c20, pz_c21, pz_c22, pz_c23, pz_c24, pz_c25, pz_c26, pz_c27, pz_c28, pz_c29, pz_c30, pz_c31, pz_c32, pz_c33, pz_c34, pz_c35, pz_c36, pz_c42, pz_c48, pz_c57, pz_c59, pz_c60, pz_c63, pz_c64, pz_c66, pz_c96, pz_c97, pz_c99, pz_c100, pz_c122, pz_c127, pz_c128, pz_c200, pz_c255, pz_c299, pz_c300, pz_c336, pz_c354, pz_c585, pz_c666, pz_c708, pz_c1000, pz_c1170, pz_c4095, pz_c4096, pz_c4608, pz_c1000000, nI_add, pk_mul, pk_sub, pz_sub, pk_div, pz_or, pz_and, pz_xor, pz_n31, pz_shl, pz_shr, pz_eq, pz_le, pz_lt, pz_eqm, pz_meq, pz_mmeq, pz_lem, pz_mle, pz_ltm, pz_mlt, pz_mmle, pz_mmlt, pz_rd, pz_ck, pz_let, pz_cl, pz_bind, pz_gd, pz_zbb, eI_of, eI_N, pz_leT, pz_leF, pz_ltT, pz_ltF, pz_eqT, pz_eqF, if_pos, if_neg, if_true, if_false, ite_true, ite_false, pz_b0, pz_b1i, pz_bf, pz_bt, Bool.false_eq_true, Bool.true_eq_false, decide_true, decide_false, and_true, and_false, true_and, false_and, and_self, or_true, or_false, true_or, false_or, or_self, not_true_eq_false, not_false_eq_true, ne_eq, reduceIte, eq_self, upd_at]
        rw [show (1 : Int32) = nI 1 from rfl, show (0 : Int32) = nI 0 from rfl] at hc1
        rw [hc1, nI_add]
  · rw [X8_findWalls_L33]
    generalize X8_findWalls_L33 fu rec12 (nI p.1) st co wa wm v1 (nI w) (nI h) n = rec
    rw [x8_longOf (by omega), pz_bind, if_pos (by rw [pz_le (by omega) (by omega)]; omega)]
    cases hcp : canP s h w p (wl w)
    · rw [if_pos b_f]; rfl
    · rw [if_neg b_t]; rfl
theorem x8_findWalls {l0 : Int32} {co wm : Nat → Int32} {wa : Nat → Int64} {q : Nat} (hf : 5000 ≤ fu) (I : Iv s) (R : SR st s) (hh : h < 4) (hw : okW s w) (hq : q < 2) : ∃ r, f_X8_findWalls fu l0 st co wa wm (nI q) (nI w) (nI h) = some r ∧ r.2.2.2 q = nI (WL s h w (PN (s 0) (s 1) (wl w))).length ∧ AL r.2.2.1 (64 * q) (WL s h w (PN (s 0) (s 1) (wl w))) ∧ (∀ j, j ≠ q → r.2.2.2 j = wm j) ∧ ∀ j, (j < 64 * q ∨ 64 * q + 64 ≤ j) → r.2.2.1 j = wa j := by
  have hr := wl_rng w
  have hw6 : w ≤ 666 := hw.2.1
  have hN := pl_le I.1 I.2.1 hr
  have e2 := x8_firstRow (fu := fu) (cols := co) (l := l0) (w := w) hf (by omega)
  rw [f_X8_findWalls, pz_ck _ hq (by omega), e2, pz_bind, pz_cl (by omega)]
  refine pz_rel (fun n k (a : Int32 × (Nat → Int32) × (Nat → Int64) × (Nat → Int32)) => X8_findWalls_L12 fu st (nI q) (nI w) (nI h) n a.1 a.2.1 a.2.2.1 a.2.2.2) (fun k a => a.1 = nI (plk (s 0) (wl w) k).1 ∧ CR a.2.1 (wl w) (plk (s 0) (wl w) k) ∧ a.2.2.2 q = nI (WL s h w k).length ∧ AL a.2.2.1 (64 * q) (WL s h w k) ∧ (∀ j, j ≠ q → a.2.2.2 j = wm j) ∧ ∀ j, (j < 64 * q ∨ 64 * q + 64 ≤ j) → a.2.2.1 j = wa j) (PN (s 0) (s 1) (wl w)) _ (fun n k a hk ha => ?_) (fun n a ha => ?_) fu 0 (nI 0, packF co 0 (wl w) 0, wa, upd wm q 0) (by omega) (by omega) ⟨rfl, ?_, pk_us, (fun j hj => absurd hj (Nat.not_lt_zero j)), (fun j hj => pk_un hj), (fun j _ => rfl)⟩
  · right
    obtain ⟨a1, a2, a3, a4⟩ := a
    obtain ⟨h1, h2, h3, h4, h5, h6⟩ := ha
    simp only at h1 h2 h3 h4 h5 h6
    subst h1
    have hp := (pl_at I.1 I.2.1 hr (k := k) (by omega)).1 hk
    have hrow := x8_isRow (fu := fu) I R (w := w) (by omega) (k := k) (by omega) h2
    obtain ⟨c2, hc2, enx⟩ := x8_nextRow (fu := fu) (w := w) hf I R (by omega) hp h2
    have hfr := fa_row (fu := fu) (rec12 := X8_findWalls_L12 fu st (nI q) (nI w) (nI h) n) (v1 := nI q) (wm := a4) (wa := a3) hf I R hh hw hp h2
    have hlen := WL_len (s := s) (h := h) (w := w) k
    by_cases hc : canP s h w (plk (s 0) (wl w) k) (wl w) = true
    · have hp2 := AL_push (x := PCN s h w (plk (s 0) (wl w) k) (wl w)) h4
      refine ⟨(nI (plk (s 0) (wl w) (k + 1)).1, c2, vp_updL a3 (64 * q + (WL s h w k).length) (lN (PCN s h w (plk (s 0) (wl w) k) (wl w))), upd a4 q (nI ((WL s h w k).length + 1))), ⟨rfl, hc2, ?_, ?_, fun j hj => ?_, fun j hj => ?_⟩, ?_⟩
      · rw [WL, if_pos hc, List.length_append, List.length_singleton]
        exact pk_us
      · rw [WL, if_pos hc]
        exact hp2
      · show upd a4 q _ j = _
        rw [pk_un hj]; exact h5 j hj
      · show vp_updL a3 _ _ j = _
        rw [pk_uLn (by omega)]; exact h6 j hj
      · try simp only
        rw [X8_findWalls_L12, hrow, pz_bind, decide_eq_true hk, if_neg b_t, x8_wallOf hf I R hh, pz_bind, hfr, if_pos hc, pz_rd _ _ hq (by omega), h3, pz_c64, pk_mul, nI_add, pz_ck _ (by omega) (by omega), pz_rd _ _ hq (by omega), h3, pz_ck _ hq (by omega), pz_cl (by omega), pz_cl (by omega), nI_1, X8_findWalls_J191, enx, pz_bind]
        rfl
    · refine ⟨(nI (plk (s 0) (wl w) (k + 1)).1, c2, a3, a4), ⟨rfl, hc2, ?_, ?_, h5, h6⟩, ?_⟩
      · rw [WL, if_neg hc]
        exact h3
      · rw [WL, if_neg hc]
        exact h4
      · try simp only
        rw [X8_findWalls_L12, hrow, pz_bind, decide_eq_true hk, if_neg b_t, x8_wallOf hf I R hh, pz_bind, hfr, if_neg hc, X8_findWalls_J191, enx, pz_bind]
        rfl
  · obtain ⟨a1, a2, a3, a4⟩ := a
    obtain ⟨h1, h2, h3, h4, h5, h6⟩ := ha
    simp only at h1 h2 h3 h4 h5 h6
    subst h1
    have hrow := x8_isRow (fu := fu) I R (w := w) (by omega) (k := PN (s 0) (s 1) (wl w)) (by omega) h2
    try simp only
    rw [X8_findWalls_L12, hrow, pz_bind, decide_eq_false (by omega), if_pos b_f]
    exact ⟨_, rfl, h3, h4, h5, h6⟩
  · intro i hi
    show packF co 0 (wl w) 0 i = _
    rw [packF, if_pos (by omega)]
    simp only [plk]
    rcases (show i = 0 ∨ i = 1 ∨ i = 2 by omega) with e | e | e <;> subst e <;> rfl
theorem x8_onesOf {x : Nat} (hf : 5000 ≤ fu) (hO : ∀ k, k < 4096 → ones k = nI (pc k)) (hx : x < 2 ^ 60) : f_X8_onesOf fu ones (lN x) = some (nI (ctN x.testBit 60)) := by
  rw [f_X8_onesOf]
  refine pz_up (fun n k => X8_onesOf_L5 fu ones (lN x) n (nI (ctN x.testBit (12 * k))) (nI (12 * k))) 5 _ (fun n k hk => ?_) (fun n => ?_) fu 0 (by omega) (by omega)
  · have hl : (x >>> (12 * k)) &&& 4095 < 4096 := Nat.and_lt_two_pow (n := 12) _ (by decide)
    have hx2 : x < 2 ^ 62 := by omega
    have e := ct_chunk x (12 * k)
    have ho := hO _ hl
    rw [X8_onesOf_L5]
    generalize X8_onesOf_L5 fu ones (lN x) n = rec
    simp (disch := omega) only [pz_c0, pz_c1, pz_c2, pz_c3, pz_c4, pz_c5, pz_c6, pz_c7, pz_c8, pz_c9, pz_c10, pz_c11, pz_c12, pz_c13, pz_c14, pz_c15, pz_c16, pz_c17, pz_c18, pz_c19, pz_c20, pz_c21, pz_c22, pz_c23, pz_c24, pz_c25, pz_c26, pz_c27, pz_c28, pz_c29, pz_c30, pz_c31, pz_c32, pz_c33, pz_c34, pz_c35, pz_c36, pz_c42, pz_c48, pz_c57, pz_c59, pz_c60, pz_c63, pz_c64, pz_c66, pz_c96, pz_c97, pz_c99, pz_c100, pz_c122, pz_c127, pz_c128, pz_c200, pz_c255, pz_c299, pz_c300, pz_c336, pz_c354, pz_c585, pz_c666, pz_c708, pz_c1000, pz_c1170, pz_c4095, pz_c4096, pz_c4608, pz_c1000000, nI_add, pk_mul, pk_sub, pz_sub, pk_div, pz_or, pz_and, pz_xor, pz_n31, pz_shl, pz_shr, pz_eq, pz_le, pz_lt, pz_eqm, pz_meq, pz_mmeq, pz_lem, pz_mle, pz_ltm, pz_mlt, pz_mmle, pz_mmlt, pz_rd, pz_ck, pz_let, pz_cl, pz_bind, pz_gd, pz_zbb, eI_of, eI_N, pz_leT, pz_leF, pz_ltT, pz_ltF, pz_eqT, pz_eqF, if_pos, if_neg, if_true, if_false, ite_true, ite_false, pz_b0, pz_b1i, pz_bf, pz_bt, Bool.false_eq_true, Bool.true_eq_false, decide_true, decide_false, and_true, and_false, true_and, false_and, and_self, or_true, or_false, true_or, false_or, or_self, not_true_eq_false, not_false_eq_true, ne_eq, reduceIte, eq_self, upd_at, pz_L0, pz_L1, pz_L7, pz_L31, pz_L63, pz_L255, pz_L4095, nI_l, pz_n63, pz_63, pz_u63, pz_ushr, pz_shlL, pz_orL, pz_andL, pz_xorL, lN_i, pz_cmp, pz_shrL, ho]
    rw [show 12 * (k + 1) = 12 * k + 12 by omega, e]
  · rw [X8_onesOf_L5]
    generalize X8_onesOf_L5 fu ones (lN x) n = rec
    rw [if_pos (by decide +kernel)]
end
