/-! LEAST PAINS (the class) -/
section
variable {fu : Nat} {s : Nat → Nat} {kinds painOf payFor refused shapes dv : Nat → Int32} {owned litIn : Nat → Int64} {h w c : Nat}
def setI (i q : Nat) (f : Nat → Int32) (c : Nat) (v : Int32) : Nat → Int32 := if i = q then upd f c v else f
theorem sb_end {p0 p1 p2 s0 s1 s2 poc : Nat → Int32} {a1 a2 a3 : Int32} {v10 v11 : Int32} {i : Nat} (hi : i < 3) (hc : c < 60) : X1_shapeBox_J172 fu dv poc p0 p1 p2 s0 s1 s2 a1 a2 a3 kinds painOf owned litIn shapes (nI i) (nI c) v10 v11 = some (poc, setI i 0 p0 c v10, setI i 1 p1 c v10, setI i 2 p2 c v10, setI i 0 s0 c v11, setI i 1 s1 c v11, setI i 2 s2 c v11) := by
  rcases (show i = 0 ∨ i = 1 ∨ i = 2 by omega) with e | e | e <;> subst e <;> simp (disch := omega) only [X1_shapeBox_J172, setI, pz_c0, pz_c1, pz_c2, pz_c3, pz_c4, pz_c5, pz_c6, pz_c7, pz_c8, pz_c9, pz_c10, pz_c11, pz_c12, pz_c13, pz_c14, pz_c15, pz_c16, pz_c17, pz_c18, pz_c19, pz_c20, pz_c21, pz_c22, pz_c23, pz_c24, pz_c25, pz_c26, pz_c27, pz_c28, pz_c29, pz_c30, pz_c31, pz_c32, pz_c33, pz_c34, pz_c35, pz_c36, pz_c42, pz_c48, pz_c57, pz_c59, pz_c60, pz_c63, pz_c64, pz_c66, pz_c96, pz_c97, pz_c99, pz_c100, pz_c122, pz_c127, pz_c128, pz_c200, pz_c255, pz_c299, pz_c300, pz_c336, pz_c354, pz_c585, pz_c666, pz_c708, pz_c1000, pz_c1170, pz_c4095, pz_c4096, pz_c4608, pz_c1000000, nI_add, pk_mul, pk_sub, pz_sub, pk_div, pz_or, pz_and, pz_xor, pz_n31, pz_shl, pz_shr, pz_eq, pz_le, pz_lt, pz_eqm, pz_meq, pz_mmeq, pz_lem, pz_mle, pz_ltm, pz_mlt, pz_mmle, pz_mmlt, pz_rd, pz_ck, pz_let, pz_cl, pz_bind, pz_gd, pz_zbb, eI_of, eI_N, pz_leT, pz_leF, pz_ltT, pz_ltF, pz_eqT, pz_eqF, if_pos, if_neg, if_true, if_false, ite_true, ite_false, pz_b0, pz_b1i, pz_bf, pz_bt, Bool.false_eq_true, Bool.true_eq_false, decide_true, decide_false, and_true, and_false, true_and, false_and, and_self, or_true, or_false, true_or, false_or, or_self, not_true_eq_false, not_false_eq_true, ne_eq, reduceIte, eq_self, upd_at]
theorem bx_pc (I : Iv s) {j x : Nat} (hj : j < s 3) (hn : bxF s h w c j x ≠ 65535) : pc (x ^^^ s (30 + j)) ≤ s 5 := by
  unfold bxF at hn
  split at hn
  · rename_i e
    exact ((rd_iff I.2.2.2.1 hj).mp e).1
  · exact absurd rfl hn
set_option maxHeartbeats 4000000 in
theorem sb_step {pc2 p0 p1 p2 s0 s1 s2 : Nat → Int32} (hf : 5000 ≤ fu) (I : Iv s) (S : HR s shapes) (hD : DV dv) (hP : ∀ k, k < 12 → pc2 k = eI (prN s h (cel c k) 0)) (hh : h < 4) (hc : c < 22) {j : Nat} (hj : j < s 3) {k f ch n i : Nat} (hk : k < 299) (hf1 : f ≤ 1000000) (hf2 : ch < 4096) (hs5 : ¬ s 5 < pc (devL.getD k 0)) : X1_shapeBox_L48 fu dv pc2 p0 p1 p2 s0 s1 s2 (nI (s 5)) (nI (s 2)) (nI (s 3)) kinds painOf owned litIn shapes (nI i) (nI j) (nI c) (nI (shL s h c)) (nI (muS s h w 63 c)) (n + 1) (nI f) (nI ch) (nI k) = if bxF s h w c j (s (30 + j) ^^^ devL.getD k 0) ≠ 65535 ∧ (bxF s h w c j (s (30 + j) ^^^ devL.getD k 0) < f ∨ (bxF s h w c j (s (30 + j) ^^^ devL.getD k 0) = f ∧ s (30 + j) ^^^ devL.getD k 0 < ch)) then X1_shapeBox_L48 fu dv pc2 p0 p1 p2 s0 s1 s2 (nI (s 5)) (nI (s 2)) (nI (s 3)) kinds painOf owned litIn shapes (nI i) (nI j) (nI c) (nI (shL s h c)) (nI (muS s h w 63 c)) n (nI (bxF s h w c j (s (30 + j) ^^^ devL.getD k 0))) (nI (s (30 + j) ^^^ devL.getD k 0)) (nI (k + 1)) else X1_shapeBox_L48 fu dv pc2 p0 p1 p2 s0 s1 s2 (nI (s 5)) (nI (s 2)) (nI (s 3)) kinds painOf owned litIn shapes (nI i) (nI j) (nI c) (nI (shL s h c)) (nI (muS s h w 63 c)) n (nI f) (nI ch) (nI (k + 1)) := by
  have i5 := I.2.2.2.2.2.1
  have i3 := I.2.2.2.1
  have hsh : s (30 + j) < 4096 := I.2.2.2.2.2.2.2.2.2.1 _ hj
  have hd := dev_lt hk
  have hj6 := j6_pc (fu := fu) hd
  have hpl := pc_le (devL.getD k 0)
  have hx := xor_lt hsh hd
  have hmu := mu_price (s := s) (h := h) (w := w) I hh hc hx
  have hp := prX_rng (h := h) (w := w) (x := s (30 + j) ^^^ devL.getD k 0) I hc
  have hml := muS_lt s h w 63 c
  have hal := and_lt (a := (s (30 + j) ^^^ devL.getD k 0) ^^^ shL s h c) hml
  have hdk := hD k hk
  have hsj := S _ hj
  have hread := x5_readAs (fu := fu) hf I S hx
  have hpains := fun q => x1_painsOfCells (w := w) hf I hP hc hx q
  have hrr := rd_rng (s := s) (s (30 + j) ^^^ devL.getD k 0)
  have hre := eI_lt (j := j) (by omega) (x := rd s (s (30 + j) ^^^ devL.getD k 0)) (by omega)
  have hbx : bxF s h w c j (s (30 + j) ^^^ devL.getD k 0) = if rd s (s (30 + j) ^^^ devL.getD k 0) = j then prX s h w c (s (30 + j) ^^^ devL.getD k 0) else 65535 := rfl
  rw [X1_shapeBox_L48]
  generalize X1_shapeBox_L48 fu dv pc2 p0 p1 p2 s0 s1 s2 (nI (s 5)) (nI (s 2)) (nI (s 3)) kinds painOf owned litIn shapes (nI i) (nI j) (nI c) (nI (shL s h c)) (nI (muS s h w 63 c)) n = rec
  rw [hbx]
  by_cases hz : ((s (30 + j) ^^^ devL.getD k 0) ^^^ shL s h c) &&& muS s h w 63 c = 0
  · have hpn := hmu.mp hz
    have hpa := hpains hpn
    clear hpains hmu hbx
    simp (disch := omega) only [hdk, hj6, hsj, hz, hpa, hread, hre, X1_shapeBox_J136, X1_shapeBox_J140, X1_shapeBox_J141, X1_shapeBox_J166, pz_c0, pz_c1, pz_c2, pz_c3, pz_c4, pz_c5, pz_c6, pz_c7, pz_c8, pz_c9, pz_c10, pz_c11, pz_c12, pz_c13, pz_c14, pz_c15, pz_c16, pz_c17, pz_c18, pz_c19, pz_c20, pz_c21, pz_c22, pz_c23, pz_c24, pz_c25, pz_c26, pz_c27, pz_c28, pz_c29, pz_c30, pz_c31, pz_c32, pz_c33, pz_c34, pz_c35, pz_c36, pz_c42, pz_c48, pz_c57, pz_c59, pz_c60, pz_c63, pz_c64, pz_c66, pz_c96, pz_c97, pz_c99, pz_c100, pz_c122, pz_c127, pz_c128, pz_c200, pz_c255, pz_c299, pz_c300, pz_c336, pz_c354, pz_c585, pz_c666, pz_c708, pz_c1000, pz_c1170, pz_c4095, pz_c4096, pz_c4608, pz_c1000000, nI_add, pk_mul, pk_sub, pz_sub, pk_div, pz_or, pz_and, pz_xor, pz_n31, pz_shl, pz_shr, pz_eq, pz_le, pz_lt, pz_eqm, pz_meq, pz_mmeq, pz_lem, pz_mle, pz_ltm, pz_mlt, pz_mmle, pz_mmlt, pz_rd, pz_ck, pz_let, pz_cl, pz_bind, pz_gd, pz_zbb, eI_of, eI_N, pz_leT, pz_leF, pz_ltT, pz_ltF, pz_eqT, pz_eqF, if_pos, if_neg, if_true, if_false, ite_true, ite_false, pz_b0, pz_b1i, pz_bf, pz_bt, Bool.false_eq_true, Bool.true_eq_false, decide_true, decide_false, and_true, and_false, true_and, false_and, and_self, or_true, or_false, true_or, false_or, or_self, not_true_eq_false, not_false_eq_true, ne_eq, reduceIte, eq_self, upd_at]
    clear hread hre hpa hrr hdk hsj hj6
    generalize prX s h w c (s (30 + j) ^^^ devL.getD k 0) = A at *
    generalize s (30 + j) ^^^ devL.getD k 0 = M at *
    by_cases h4 : rd s M = j
    · simp only [h4, if_true]
      by_cases h1 : A < f
      · simp only [h1, if_true, true_or, and_true]
        rw [if_pos hpn]
      · by_cases h2 : A = f
        · by_cases h3 : ch ≤ M
          · rw [if_neg h1, if_pos h2, if_pos h3, if_neg (by omega)]
          · rw [if_neg h1, if_pos h2, if_neg h3, if_pos (by omega)]
        · rw [if_neg h1, if_neg h2, if_neg (by omega)]
    · simp only [h4, if_false, ite_self, ne_eq, not_true_eq_false, false_and]
  · have hpn : prX s h w c (s (30 + j) ^^^ devL.getD k 0) = 65535 := Classical.byContradiction (fun q => hz (hmu.mpr q))
    rw [hpn]
    simp (disch := omega) only [hdk, hj6, hsj, hz, X1_shapeBox_J166, ite_self, pz_c0, pz_c1, pz_c2, pz_c3, pz_c4, pz_c5, pz_c6, pz_c7, pz_c8, pz_c9, pz_c10, pz_c11, pz_c12, pz_c13, pz_c14, pz_c15, pz_c16, pz_c17, pz_c18, pz_c19, pz_c20, pz_c21, pz_c22, pz_c23, pz_c24, pz_c25, pz_c26, pz_c27, pz_c28, pz_c29, pz_c30, pz_c31, pz_c32, pz_c33, pz_c34, pz_c35, pz_c36, pz_c42, pz_c48, pz_c57, pz_c59, pz_c60, pz_c63, pz_c64, pz_c66, pz_c96, pz_c97, pz_c99, pz_c100, pz_c122, pz_c127, pz_c128, pz_c200, pz_c255, pz_c299, pz_c300, pz_c336, pz_c354, pz_c585, pz_c666, pz_c708, pz_c1000, pz_c1170, pz_c4095, pz_c4096, pz_c4608, pz_c1000000, nI_add, pk_mul, pk_sub, pz_sub, pk_div, pz_or, pz_and, pz_xor, pz_n31, pz_shl, pz_shr, pz_eq, pz_le, pz_lt, pz_eqm, pz_meq, pz_mmeq, pz_lem, pz_mle, pz_ltm, pz_mlt, pz_mmle, pz_mmlt, pz_rd, pz_ck, pz_let, pz_cl, pz_bind, pz_gd, pz_zbb, eI_of, eI_N, pz_leT, pz_leF, pz_ltT, pz_ltF, pz_eqT, pz_eqF, if_pos, if_neg, if_true, if_false, ite_true, ite_false, pz_b0, pz_b1i, pz_bf, pz_bt, Bool.false_eq_true, Bool.true_eq_false, decide_true, decide_false, and_true, and_false, true_and, false_and, and_self, or_true, or_false, true_or, false_or, or_self, not_true_eq_false, not_false_eq_true, ne_eq, reduceIte, eq_self, upd_at]
set_option maxHeartbeats 4000000 in
theorem x1_shapeBox {poc p0 p1 p2 s0 s1 s2 : Nat → Int32} (hf : 5000 ≤ fu) (I : Iv s) (T : TR s kinds painOf payFor refused owned) (L : LR s litIn) (S : HR s shapes) (hD : DV dv) (hh : h < 4) (hc : c < 22) (hw : okW s w) {i : Nat} (hi : i < wl w) : ∃ r, f_X1_shapeBox fu dv poc p0 p1 p2 s0 s1 s2 (nI (s 5)) (nI (s 2)) (nI (s 3)) kinds painOf owned litIn shapes (nI i) (nI (wd w i)) (nI c) (nI h) (lN (MAY s h w 63)) = some r ∧ r.2.1 = setI i 0 p0 c (pI (BX s h w i c).1) ∧ r.2.2.1 = setI i 1 p1 c (pI (BX s h w i c).1) ∧ r.2.2.2.1 = setI i 2 p2 c (pI (BX s h w i c).1) ∧ ((BX s h w i c).1 ≠ 65535 → r.2.2.2.2.1 = setI i 0 s0 c (nI (BX s h w i c).2) ∧ r.2.2.2.2.2.1 = setI i 1 s1 c (nI (BX s h w i c).2) ∧ r.2.2.2.2.2.2 = setI i 2 s2 c (nI (BX s h w i c).2)) ∧ (((BX s h w i c).1 = 65535) → r.2.2.2.2.1 = setI i 0 s0 c (nI 0) ∧ r.2.2.2.2.2.1 = setI i 1 s1 c (nI 0) ∧ r.2.2.2.2.2.2 = setI i 2 s2 c (nI 0)) := by
  have hwr := wl_rng w
  have hwd := wd_lt hw hi
  have i5 := I.2.2.2.2.2.1
  have i3 := I.2.2.2.1
  have hsh : s (30 + wd w i) < 4096 := I.2.2.2.2.2.2.2.2.2.1 _ hwd
  have hV : ∀ x, bxF s h w c (wd w i) x = 65535 ∨ bxF s h w c (wd w i) x ≤ 252 := fun x => bxF_rng I hc
  have key := lx_best (V := bxF s h w c (wd w i)) (sl := s 5) hsh (by omega) hV (fun x _ hn => bx_pc I hwd hn)
  have hmay : shp (MAY s h w 63).testBit c = shp (mayB s h w 63) c := by
    unfold shp
    apply mkN_cong
    intro k hk
    rw [MAY, mkN_bit]
    simp
    omega
  have start : f_X1_shapeBox fu dv poc p0 p1 p2 s0 s1 s2 (nI (s 5)) (nI (s 2)) (nI (s 3)) kinds painOf owned litIn shapes (nI i) (nI (wd w i)) (nI c) (nI h) (lN (MAY s h w 63)) = X1_shapeBox_L48 fu dv (filF (fun k => eI (prN s h (cel c k) 0)) poc 12) p0 p1 p2 s0 s1 s2 (nI (s 5)) (nI (s 2)) (nI (s 3)) kinds painOf owned litIn shapes (nI i) (nI (wd w i)) (nI c) (nI (shL s h c)) (nI (muS s h w 63 c)) fu (nI 1000000) (nI 0) (nI 0) := by
    have e1 := x7_shapeIn (fu := fu) (c := c) hf (LI_lt s h) (by omega)
    have e2 := x7_shapeIn (fu := fu) (c := c) hf (MAY_lt s h w 63) (by omega)
    rw [shL_LI hc] at e1
    rw [hmay] at e2
    have e3 := pz_not (shp_lt (mayB s h w 63) c)
    have e4 := x1_tellCells (poc := poc) hf I T L hh hc
    rw [f_X1_shapeBox, pz_rd _ _ hh (by omega), L h hh, e1, pz_bind, e2, pz_bind, show ((nI (shp (mayB s h w 63) c) ^^^ -1) &&& 4095 : Int32) = nI (muS s h w 63 c) from e3, pz_let, e4, pz_bind]
    rfl
  have hP : ∀ k, k < 12 → filF (fun k => eI (prN s h (cel c k) 0)) poc 12 k = eI (prN s h (cel c k) 0) := fun k hk => filF_in hk
  have loop : X1_shapeBox_L48 fu dv (filF (fun k => eI (prN s h (cel c k) 0)) poc 12) p0 p1 p2 s0 s1 s2 (nI (s 5)) (nI (s 2)) (nI (s 3)) kinds painOf owned litIn shapes (nI i) (nI (wd w i)) (nI c) (nI (shL s h c)) (nI (muS s h w 63 c)) fu (nI 1000000) (nI 0) (nI 0) = X1_shapeBox_J172 fu dv (filF (fun k => eI (prN s h (cel c k) 0)) poc 12) p0 p1 p2 s0 s1 s2 (nI (s 5)) (nI (s 2)) (nI (s 3)) kinds painOf owned litIn shapes (nI i) (nI c) (nI (lx (bxF s h w c (wd w i)) (s (30 + wd w i)) (s 5) 299).1) (nI (lx (bxF s h w c (wd w i)) (s (30 + wd w i)) (s 5) 299).2) := by
    generalize filF (fun k => eI (prN s h (cel c k) 0)) poc 12 = pc2 at hP
    refine pz_upE (fun n k => X1_shapeBox_L48 fu dv pc2 p0 p1 p2 s0 s1 s2 (nI (s 5)) (nI (s 2)) (nI (s 3)) kinds painOf owned litIn shapes (nI i) (nI (wd w i)) (nI c) (nI (shL s h c)) (nI (muS s h w 63 c)) n (nI (lx (bxF s h w c (wd w i)) (s (30 + wd w i)) (s 5) k).1) (nI (lx (bxF s h w c (wd w i)) (s (30 + wd w i)) (s 5) k).2) (nI k)) 299 _ (fun _ => True) (fun n k hk _ => ?_) (fun n _ => ?_) fu 0 (by omega) (by omega) trivial
    · have hq := lx_q (sh := s (30 + wd w i)) (sl := s 5) hV k (by omega)
      have hl1 : (lx (bxF s h w c (wd w i)) (s (30 + wd w i)) (s 5) k).1 ≤ 1000000 := by
        rcases hq with ⟨a, -⟩ | ⟨a, -⟩
        · rw [a]; exact Nat.le_refl _
        · omega
      have hl2 : (lx (bxF s h w c (wd w i)) (s (30 + wd w i)) (s 5) k).2 < 4096 := by
        rcases hq with ⟨a, -⟩ | ⟨-, -, -, ⟨q, c1, c2⟩, -⟩
        · rw [a]; decide
        · rw [c2]; exact xor_lt hsh (dev_lt (by omega))
      by_cases hs5 : s 5 < pc (devL.getD k 0)
      · left
        have he := lx_end (V := bxF s h w c (wd w i)) (sh := s (30 + wd w i)) hs5 (299 - k) (by omega)
        rw [show k + (299 - k) = 299 by omega] at he
        have hd := dev_lt hk
        have hj6 := j6_pc (fu := fu) hd
        have hpl := pc_le (devL.getD k 0)
        rw [he, X1_shapeBox_L48]
        generalize X1_shapeBox_L48 fu dv pc2 p0 p1 p2 s0 s1 s2 (nI (s 5)) (nI (s 2)) (nI (s 3)) kinds painOf owned litIn shapes (nI i) (nI (wd w i)) (nI c) (nI (shL s h c)) (nI (muS s h w 63 c)) n = rec
        simp (disch := omega) only [hD k hk, hj6, pz_c0, pz_c1, pz_c2, pz_c3, pz_c4, pz_c5, pz_c6, pz_c7, pz_c8, pz_c9, pz_c10, pz_c11, pz_c12, pz_c13, pz_c14, pz_c15, pz_c16, pz_c17, pz_c18, pz_c19, pz_c20, pz_c21, pz_c22, pz_c23, pz_c24, pz_c25, pz_c26, pz_c27, pz_c28, pz_c29, pz_c30, pz_c31, pz_c32, pz_c33, pz_c34, pz_c35, pz_c36, pz_c42, pz_c48, pz_c57, pz_c59, pz_c60, pz_c63, pz_c64, pz_c66, pz_c96, pz_c97, pz_c99, pz_c100, pz_c122, pz_c127, pz_c128, pz_c200, pz_c255, pz_c299, pz_c300, pz_c336, pz_c354, pz_c585, pz_c666, pz_c708, pz_c1000, pz_c1170, pz_c4095, pz_c4096, pz_c4608, pz_c1000000, nI_add, pk_mul, pk_sub, pz_sub, pk_div, pz_or, pz_and, pz_xor, pz_n31, pz_shl, pz_shr, pz_eq, pz_le, pz_lt, pz_eqm, pz_meq, pz_mmeq, pz_lem, pz_mle, pz_ltm, pz_mlt, pz_mmle, pz_mmlt, pz_rd, pz_ck, pz_let, pz_cl, pz_bind, pz_gd, pz_zbb, eI_of, eI_N, pz_leT, pz_leF, pz_ltT, pz_ltF, pz_eqT, pz_eqF, if_pos, if_neg, if_true, if_false, ite_true, ite_false, pz_b0, pz_b1i, pz_bf, pz_bt, Bool.false_eq_true, Bool.true_eq_false, decide_true, decide_false, and_true, and_false, true_and, false_and, and_self, or_true, or_false, true_or, false_or, or_self, not_true_eq_false, not_false_eq_true, ne_eq, reduceIte, eq_self, upd_at]
      · right
        refine ⟨trivial, ?_⟩
        rw [sb_step hf I S hD hP hh hc hwd hk hl1 hl2 hs5, lx]
        by_cases hg : bxF s h w c (wd w i) (s (30 + wd w i) ^^^ devL.getD k 0) ≠ 65535 ∧ (bxF s h w c (wd w i) (s (30 + wd w i) ^^^ devL.getD k 0) < (lx (bxF s h w c (wd w i)) (s (30 + wd w i)) (s 5) k).1 ∨ (bxF s h w c (wd w i) (s (30 + wd w i) ^^^ devL.getD k 0) = (lx (bxF s h w c (wd w i)) (s (30 + wd w i)) (s 5) k).1 ∧ s (30 + wd w i) ^^^ devL.getD k 0 < (lx (bxF s h w c (wd w i)) (s (30 + wd w i)) (s 5) k).2))
        · rw [if_pos hg, if_pos ⟨by omega, hg⟩]
        · rw [if_neg hg, if_neg (fun q => hg q.2)]
    · rw [X1_shapeBox_L48]
      generalize X1_shapeBox_L48 fu dv pc2 p0 p1 p2 s0 s1 s2 (nI (s 5)) (nI (s 2)) (nI (s 3)) kinds painOf owned litIn shapes (nI i) (nI (wd w i)) (nI c) (nI (shL s h c)) (nI (muS s h w 63 c)) n = rec
      simp (disch := omega) only [pz_c0, pz_c1, pz_c2, pz_c3, pz_c4, pz_c5, pz_c6, pz_c7, pz_c8, pz_c9, pz_c10, pz_c11, pz_c12, pz_c13, pz_c14, pz_c15, pz_c16, pz_c17, pz_c18, pz_c19, pz_c20, pz_c21, pz_c22, pz_c23, pz_c24, pz_c25, pz_c26, pz_c27, pz_c28, pz_c29, pz_c30, pz_c31, pz_c32, pz_c33, pz_c34, pz_c35, pz_c36, pz_c42, pz_c48, pz_c57, pz_c59, pz_c60, pz_c63, pz_c64, pz_c66, pz_c96, pz_c97, pz_c99, pz_c100, pz_c122, pz_c127, pz_c128, pz_c200, pz_c255, pz_c299, pz_c300, pz_c336, pz_c354, pz_c585, pz_c666, pz_c708, pz_c1000, pz_c1170, pz_c4095, pz_c4096, pz_c4608, pz_c1000000, nI_add, pk_mul, pk_sub, pz_sub, pk_div, pz_or, pz_and, pz_xor, pz_n31, pz_shl, pz_shr, pz_eq, pz_le, pz_lt, pz_eqm, pz_meq, pz_mmeq, pz_lem, pz_mle, pz_ltm, pz_mlt, pz_mmle, pz_mmlt, pz_rd, pz_ck, pz_let, pz_cl, pz_bind, pz_gd, pz_zbb, eI_of, eI_N, pz_leT, pz_leF, pz_ltT, pz_ltF, pz_eqT, pz_eqF, if_pos, if_neg, if_true, if_false, ite_true, ite_false, pz_b0, pz_b1i, pz_bf, pz_bt, Bool.false_eq_true, Bool.true_eq_false, decide_true, decide_false, and_true, and_false, true_and, false_and, and_self, or_true, or_false, true_or, false_or, or_self, not_true_eq_false, not_false_eq_true, ne_eq, reduceIte, eq_self, upd_at]
  refine ⟨_, by rw [start, loop, sb_end (by omega) (by omega)], ?_⟩
  rcases key with ⟨k1, k2⟩ | ⟨k1, k2⟩
  · rw [k2]
    have e : pI (BX s h w i c).1 = nI 1000000 := by rw [pI, BX, if_pos k1]
    rw [e]
    exact ⟨rfl, rfl, rfl, fun q => absurd k1 q, fun _ => ⟨rfl, rfl, rfl⟩⟩
  · rw [k2]
    have e : pI (BX s h w i c).1 = nI (BX s h w i c).1 := by rw [pI, BX, if_neg k1]
    rw [e]
    exact ⟨rfl, rfl, rfl, fun _ => ⟨rfl, rfl, rfl⟩, fun q => absurd q k1⟩
end
