/-! COUNTING THE BITS OF A LONG -/
def kM (m : Nat) : Nat → Nat
  | 0 => 0
  | k + 1 => 256 * kM m k + m
def kA (k x : Nat) : Nat := x - ((x >>> 1) &&& kM 85 k)
def kB (k x : Nat) : Nat := (x &&& kM 51 k) + ((x >>> 2) &&& kM 51 k)
def kC (k x : Nat) : Nat := (x + (x >>> 4)) &&& kM 15 k
theorem and_split {l m : Nat} (hl : l < 256) (hm : m < 256) (h H : Nat) : (256 * h + l) &&& (256 * H + m) = 256 * (h &&& H) + (l &&& m) := by
  have hlm : l &&& m < 256 := Nat.and_lt_two_pow (n := 8) _ hm
  apply Nat.eq_of_testBit_eq
  intro i
  rw [Nat.testBit_and, show (256 : Nat) = 2 ^ 8 from rfl, Nat.testBit_two_pow_mul_add _ (by exact hl), Nat.testBit_two_pow_mul_add _ (by exact hm), Nat.testBit_two_pow_mul_add _ (by exact hlm)]
  split
  · rw [Nat.testBit_and]
  · rw [Nat.testBit_and]
theorem by85 : (List.range 256).all (fun l => decide ((l / 2 + 128) &&& 85 = l / 2 &&& 85) && decide (l / 2 &&& 85 ≤ l)) = true := by decide +kernel
theorem by51 : (List.range 256).all (fun l => (List.range 4).all (fun q => decide ((l / 4 + 64 * q) &&& 51 = l / 4 &&& 51) && (decide (((l &&& 51) + (l / 4 &&& 51)) % 16 ≤ 6) && decide ((l &&& 51) + (l / 4 &&& 51) ≤ 102)))) = true := by decide +kernel
theorem by15 : (List.range 103).all (fun l => (List.range 7).all (fun q => decide ((l + l / 16 + 16 * q) &&& 15 = (l + l / 16) &&& 15))) = true := by decide +kernel
def bA (l : Nat) : Nat := l - (l / 2 &&& 85)
def bB (l : Nat) : Nat := (l &&& 51) + (l / 4 &&& 51)
def bC (l : Nat) : Nat := (l + l / 16) &&& 15
theorem f85 {l q : Nat} (hl : l < 256) (hq : q < 2) : (l / 2 + 128 * q) &&& 85 = l / 2 &&& 85 ∧ l / 2 &&& 85 ≤ l := by
  have h := List.all_eq_true.mp by85 l (List.mem_range.mpr hl)
  rw [Bool.and_eq_true] at h
  have h1 := of_decide_eq_true h.1
  have h2 := of_decide_eq_true h.2
  refine ⟨?_, h2⟩
  rcases (show q = 0 ∨ q = 1 by omega) with e | e <;> subst e
  · rfl
  · exact h1
theorem f51 {l q : Nat} (hl : l < 256) (hq : q < 4) : (l / 4 + 64 * q) &&& 51 = l / 4 &&& 51 ∧ bB l % 16 ≤ 6 ∧ bB l ≤ 102 := by
  have h := List.all_eq_true.mp (List.all_eq_true.mp by51 l (List.mem_range.mpr hl)) q (List.mem_range.mpr hq)
  rw [Bool.and_eq_true, Bool.and_eq_true] at h
  exact ⟨of_decide_eq_true h.1, of_decide_eq_true h.2.1, of_decide_eq_true h.2.2⟩
theorem f15 {l q : Nat} (hl : l < 103) (hq : q < 7) : (l + l / 16 + 16 * q) &&& 15 = (l + l / 16) &&& 15 := of_decide_eq_true (List.all_eq_true.mp (List.all_eq_true.mp by15 l (List.mem_range.mpr hl)) q (List.mem_range.mpr hq))
theorem kA_s {k l h : Nat} (hl : l < 256) : kA (k + 1) (256 * h + l) = 256 * kA k h + bA l := by
  unfold kA bA
  have e : (256 * h + l) >>> 1 = 256 * (h >>> 1) + (l / 2 + 128 * (h % 2)) := by
    rw [Nat.shiftRight_eq_div_pow, Nat.shiftRight_eq_div_pow]; omega
  have f := f85 hl (show h % 2 < 2 by omega)
  have hle : (h >>> 1) &&& kM 85 k ≤ h := Nat.le_trans Nat.and_le_left (by rw [Nat.shiftRight_eq_div_pow]; exact Nat.div_le_self _ _)
  rw [kM, e, and_split (by omega) (by decide), f.1]
  have f2 := f.2
  generalize (h >>> 1) &&& kM 85 k = u at *
  generalize l / 2 &&& 85 = v at *
  omega
theorem bA_lt {l : Nat} (hl : l < 256) : bA l < 256 := by unfold bA; omega
theorem kB_s {k l h : Nat} (hl : l < 256) : kB (k + 1) (256 * h + l) = 256 * kB k h + bB l := by
  unfold kB bB
  have e : (256 * h + l) >>> 2 = 256 * (h >>> 2) + (l / 4 + 64 * (h % 4)) := by
    rw [Nat.shiftRight_eq_div_pow, Nat.shiftRight_eq_div_pow]; omega
  have f := f51 hl (show h % 4 < 4 by omega)
  rw [kM, e, and_split hl (by decide), and_split (by omega) (by decide), f.1]
  omega
theorem kB_low (k x : Nat) : kB k x % 16 ≤ 6 := by
  cases k with
  | zero => unfold kB kM; simp
  | succ k =>
    have e : x = 256 * (x / 256) + x % 256 := by omega
    rw [e, kB_s (by omega)]
    have := (f51 (l := x % 256) (q := 0) (by omega) (by decide)).2.1
    omega
theorem kC_s {k l h : Nat} (hl : l ≤ 102) (hh : h % 16 ≤ 6) : kC (k + 1) (256 * h + l) = 256 * kC k h + bC l := by
  unfold kC bC
  have e : (256 * h + l) + (256 * h + l) >>> 4 = 256 * (h + h >>> 4) + (l + l / 16 + 16 * (h % 16)) := by
    rw [Nat.shiftRight_eq_div_pow, Nat.shiftRight_eq_div_pow]; omega
  have f := f15 (l := l) (q := h % 16) (by omega) (by omega)
  rw [kM, e, and_split (by omega) (by decide), f]
theorem kG_s {k l h : Nat} (hl : l < 256) : kC (k + 1) (kB (k + 1) (kA (k + 1) (256 * h + l))) = 256 * kC k (kB k (kA k h)) + bC (bB (bA l)) := by
  rw [kA_s hl, kB_s (bA_lt hl), kC_s (f51 (q := 0) (bA_lt hl) (by decide)).2.2 (kB_low _ _)]
def c8 (l : Nat) : Nat := ctN l.testBit 8
theorem by8 : (List.range 256).all (fun l => decide (bC (bB (bA l)) = c8 l)) = true := by decide +kernel
theorem f8 {l : Nat} (hl : l < 256) : bC (bB (bA l)) = c8 l := of_decide_eq_true (List.all_eq_true.mp by8 l (List.mem_range.mpr hl))
theorem ctN_add (p : Nat → Bool) (m : Nat) : ∀ n, ctN p (m + n) = ctN p m + ctN (fun k => p (m + k)) n
  | 0 => rfl
  | n + 1 => by rw [← Nat.add_assoc, ctN, ctN_add p m n, ctN]; omega
theorem ct_byte (x n : Nat) : ctN x.testBit (8 + n) = c8 (x % 256) + ctN (x / 256).testBit n := by
  rw [ctN_add]
  congr 1
  · unfold c8
    apply ctN_cong
    intro k hk
    rw [show (256 : Nat) = 2 ^ 8 from rfl, Nat.testBit_mod_two_pow]
    simp [hk]
  · apply ctN_cong
    intro k hk
    rw [show (256 : Nat) = 2 ^ 8 from rfl, Nat.testBit_div_two_pow, Nat.add_comm]
theorem ct_chunk (x k : Nat) : ctN x.testBit (k + 12) = ctN x.testBit k + pc ((x >>> k) &&& 4095) := by
  rw [ctN_add]
  congr 1
  unfold pc
  apply ctN_cong
  intro i hi
  have t : ∀ i, i < 12 → Nat.testBit 4095 i = true := by decide +kernel
  rw [Nat.testBit_and, t i hi, Nat.testBit_shiftRight, Bool.and_true]
theorem c8_le (l : Nat) : c8 l ≤ 8 := ctN_le _ _
theorem kM5 : kM 85 8 = 6148914691236517205 := by decide +kernel
theorem kM3 : kM 51 8 = 3689348814741910323 := by decide +kernel
theorem kM0 : kM 15 8 = 1085102592571150095 := by decide +kernel
theorem pz_negL : (-1 : Int64) = lN 18446744073709551615 := by decide +kernel
theorem swar_sum {Y0 Y1 Y2 Y3 Y4 Y5 Y6 Y7 a0 a1 a2 a3 a4 a5 a6 a7 : Nat} (h0 : Y0 = 256 * Y1 + a0) (h1 : Y1 = 256 * Y2 + a1) (h2 : Y2 = 256 * Y3 + a2) (h3 : Y3 = 256 * Y4 + a3) (h4 : Y4 = 256 * Y5 + a4) (h5 : Y5 = 256 * Y6 + a5) (h6 : Y6 = 256 * Y7 + a6) (h7 : Y7 = a7) (b0 : a0 ≤ 8) (b1 : a1 ≤ 8) (b2 : a2 ≤ 8) (b3 : a3 ≤ 8) (b4 : a4 ≤ 8) (b5 : a5 ≤ 8) (b6 : a6 ≤ 8) (b7 : a7 ≤ 8) : ((Y0 + Y0 >>> 8 + (Y0 + Y0 >>> 8) >>> 16 + (Y0 + Y0 >>> 8 + (Y0 + Y0 >>> 8) >>> 16) >>> 32) &&& 127) = a0 + (a1 + (a2 + (a3 + (a4 + (a5 + (a6 + a7)))))) ∧ Y0 < 2 ^ 60 := by
  have e1 : Y0 >>> 8 = Y1 := by
    rw [Nat.shiftRight_eq_div_pow]; clear h1 h2 h3 h4 h5 h6 h7; omega
  have e2 : (Y0 + Y1) >>> 16 = Y2 + Y3 := by
    rw [Nat.shiftRight_eq_div_pow]; clear h3 h4 h5 h6 h7; omega
  have q0 : Y0 = 4294967296 * Y4 + (16777216 * a3 + 65536 * a2 + 256 * a1 + a0) := by clear e1 e2 h4 h5 h6 h7; omega
  have q1 : Y1 = 4294967296 * Y5 + (16777216 * a4 + 65536 * a3 + 256 * a2 + a1) := by clear e1 e2 h0 h5 h6 h7 q0; omega
  have q2 : Y2 = 4294967296 * Y6 + (16777216 * a5 + 65536 * a4 + 256 * a3 + a2) := by clear e1 e2 h0 h1 h6 h7 q0 q1; omega
  have q3 : Y3 = 4294967296 * Y7 + (16777216 * a6 + 65536 * a5 + 256 * a4 + a3) := by clear e1 e2 h0 h1 h2 h7 q0 q1 q2; omega
  have e3 : (Y0 + Y1 + (Y2 + Y3)) >>> 32 = Y4 + Y5 + (Y6 + Y7) := by
    rw [Nat.shiftRight_eq_div_pow]
    clear e1 e2 h0 h1 h2 h3 h4 h5 h6 h7
    omega
  rw [e1, e2, e3, show (127 : Nat) = 2 ^ 7 - 1 from rfl, Nat.and_two_pow_sub_one_eq_mod]
  constructor
  · clear e1 e2 e3 q0 q1 q2 q3
    omega
  · clear e1 e2 e3 q1 q2 q3 h0 h1 h2 h3
    omega
theorem swar {x : Nat} (hx : x < 2 ^ 60) : ((kC 8 (kB 8 (kA 8 x)) + kC 8 (kB 8 (kA 8 x)) >>> 8 + (kC 8 (kB 8 (kA 8 x)) + kC 8 (kB 8 (kA 8 x)) >>> 8) >>> 16 + (kC 8 (kB 8 (kA 8 x)) + kC 8 (kB 8 (kA 8 x)) >>> 8 + (kC 8 (kB 8 (kA 8 x)) + kC 8 (kB 8 (kA 8 x)) >>> 8) >>> 16) >>> 32) &&& 127) = ctN x.testBit 60 ∧ kC 8 (kB 8 (kA 8 x)) < 2 ^ 60 := by
  have e64 : ctN x.testBit 64 = ctN x.testBit 60 := by
    rw [show 64 = 60 + 4 from rfl, ctN_add]
    have : ctN (fun k => x.testBit (60 + k)) 4 = ctN (fun _ => false) 4 := ctN_cong (fun k _ => Nat.testBit_lt_two_pow (Nat.lt_of_lt_of_le hx (Nat.pow_le_pow_right (by decide) (by omega))))
    rw [this]; rfl
  have step : ∀ (k y : Nat), kC (k + 1) (kB (k + 1) (kA (k + 1) y)) = 256 * kC k (kB k (kA k (y / 256))) + c8 (y % 256) := by
    intro k y
    have e : y = 256 * (y / 256) + y % 256 := by omega
    have := kG_s (k := k) (h := y / 256) (l := y % 256) (by omega)
    rw [← e] at this
    rw [this, f8 (by omega)]
  have z : ∀ y, kC 0 y = 0 := fun y => by unfold kC kM; simp
  have g : ctN x.testBit 64 = c8 (x % 256) + (c8 (x / 256 % 256) + (c8 (x / 256 / 256 % 256) + (c8 (x / 256 / 256 / 256 % 256) + (c8 (x / 256 / 256 / 256 / 256 % 256) + (c8 (x / 256 / 256 / 256 / 256 / 256 % 256) + (c8 (x / 256 / 256 / 256 / 256 / 256 / 256 % 256) + c8 (x / 256 / 256 / 256 / 256 / 256 / 256 / 256 % 256))))))) := by
    rw [show 64 = 8 + (8 + (8 + (8 + (8 + (8 + (8 + (8 + 0))))))) from rfl, ct_byte, ct_byte, ct_byte, ct_byte, ct_byte, ct_byte, ct_byte, ct_byte]
    rfl
  rw [← e64, g]
  exact swar_sum (step 7 x) (step 6 (x / 256)) (step 5 _) (step 4 _) (step 3 _) (step 2 _) (step 1 _) ((step 0 _).trans (by rw [z, Nat.mul_zero, Nat.zero_add])) (c8_le _) (c8_le _) (c8_le _) (c8_le _) (c8_le _) (c8_le _) (c8_le _) (c8_le _)
section
variable {fu : Nat}
theorem j13 {x : Nat} (hx : x < 2 ^ 60) : f_J13_bitCount_95d88 fu (lN x) = some (nI (ctN x.testBit 60)) := by
  have hs := swar hx
  have le1 : (x >>> 1) &&& kM 85 8 ≤ x := Nat.le_trans Nat.and_le_left (by rw [Nat.shiftRight_eq_div_pow]; exact Nat.div_le_self _ _)
  have hA : kA 8 x ≤ x := Nat.sub_le _ _
  have hB : kB 8 (kA 8 x) < 2 ^ 63 := by
    have h1 : kA 8 x &&& kM 51 8 ≤ kM 51 8 := Nat.and_le_right
    have h2 : kA 8 x >>> 2 &&& kM 51 8 ≤ kM 51 8 := Nat.and_le_right
    rw [kM3] at h1 h2
    unfold kB
    rw [kM3]
    omega
  generalize hy : kC 8 (kB 8 (kA 8 x)) = y at hs
  have y1 : y >>> 8 ≤ y := by rw [Nat.shiftRight_eq_div_pow]; exact Nat.div_le_self _ _
  have y2 : (y + y >>> 8) >>> 16 ≤ y + y >>> 8 := by rw [Nat.shiftRight_eq_div_pow]; exact Nat.div_le_self _ _
  have y3 : (y + y >>> 8 + (y + y >>> 8) >>> 16) >>> 32 ≤ y + y >>> 8 + (y + y >>> 8) >>> 16 := by rw [Nat.shiftRight_eq_div_pow]; exact Nat.div_le_self _ _
  have c5 : (6148914691236517205 : Int64) = lN (kM 85 8) := by rw [kM5]; rfl
  have c3 : (3689348814741910323 : Int64) = lN (kM 51 8) := by rw [kM3]; rfl
  have c0 : (1085102592571150095 : Int64) = lN (kM 15 8) := by rw [kM0]; rfl
  have p60 : (2 : Nat) ^ 60 < 2 ^ 64 := by decide
  have e1 : (lN x - (((lN x).toUInt64 >>> ((1 : Int32).toInt64.toUInt64 &&& Int64.toUInt64 63)).toInt64 &&& 6148914691236517205) : Int64) = lN (kA 8 x) := by
    rw [c5]
    simp (disch := omega) only [pz_c0, pz_c1, pz_c2, pz_c3, pz_c4, pz_c5, pz_c6, pz_c7, pz_c8, pz_c9, pz_c10, pz_c11, pz_c12, pz_c13, pz_c14, pz_c15, pz_c16, pz_c17, pz_c18, pz_c19, pz_c20, pz_c21, pz_c22, pz_c23, pz_c24, pz_c25, pz_c26, pz_c27, pz_c28, pz_c29, pz_c30, pz_c31, pz_c32, pz_c33, pz_c34, pz_c35, pz_c36, pz_c42, pz_c48, pz_c57, pz_c59, pz_c60, pz_c63, pz_c64, pz_c66, pz_c96, pz_c97, pz_c99, pz_c100, pz_c122, pz_c127, pz_c128, pz_c200, pz_c255, pz_c299, pz_c300, pz_c336, pz_c354, pz_c585, pz_c666, pz_c708, pz_c1000, pz_c1170, pz_c4095, pz_c4096, pz_c4608, pz_c1000000, pz_L0, pz_L1, pz_L7, pz_L31, pz_L63, pz_L255, pz_L4095, nI_l, pz_n63, pz_63, pz_u63, pz_ushr, pz_shlL, pz_orL, pz_andL, pz_xorL, lN_i, pz_cmp]
    rw [lN_sub le1]; rfl
  have e2 : (lN (kA 8 x) &&& 3689348814741910323) + (((lN (kA 8 x)).toUInt64 >>> ((2 : Int32).toInt64.toUInt64 &&& Int64.toUInt64 63)).toInt64 &&& 3689348814741910323) = lN (kB 8 (kA 8 x)) := by
    rw [c3]
    simp (disch := omega) only [pz_c0, pz_c1, pz_c2, pz_c3, pz_c4, pz_c5, pz_c6, pz_c7, pz_c8, pz_c9, pz_c10, pz_c11, pz_c12, pz_c13, pz_c14, pz_c15, pz_c16, pz_c17, pz_c18, pz_c19, pz_c20, pz_c21, pz_c22, pz_c23, pz_c24, pz_c25, pz_c26, pz_c27, pz_c28, pz_c29, pz_c30, pz_c31, pz_c32, pz_c33, pz_c34, pz_c35, pz_c36, pz_c42, pz_c48, pz_c57, pz_c59, pz_c60, pz_c63, pz_c64, pz_c66, pz_c96, pz_c97, pz_c99, pz_c100, pz_c122, pz_c127, pz_c128, pz_c200, pz_c255, pz_c299, pz_c300, pz_c336, pz_c354, pz_c585, pz_c666, pz_c708, pz_c1000, pz_c1170, pz_c4095, pz_c4096, pz_c4608, pz_c1000000, pz_L0, pz_L1, pz_L7, pz_L31, pz_L63, pz_L255, pz_L4095, nI_l, pz_n63, pz_63, pz_u63, pz_ushr, pz_shlL, pz_orL, pz_andL, pz_xorL, lN_i, pz_cmp, lN_add]
    rfl
  have e3 : (lN (kB 8 (kA 8 x)) + (((lN (kB 8 (kA 8 x))).toUInt64 >>> ((4 : Int32).toInt64.toUInt64 &&& Int64.toUInt64 63)).toInt64)) &&& 1085102592571150095 = lN y := by
    rw [c0]
    simp (disch := omega) only [pz_c0, pz_c1, pz_c2, pz_c3, pz_c4, pz_c5, pz_c6, pz_c7, pz_c8, pz_c9, pz_c10, pz_c11, pz_c12, pz_c13, pz_c14, pz_c15, pz_c16, pz_c17, pz_c18, pz_c19, pz_c20, pz_c21, pz_c22, pz_c23, pz_c24, pz_c25, pz_c26, pz_c27, pz_c28, pz_c29, pz_c30, pz_c31, pz_c32, pz_c33, pz_c34, pz_c35, pz_c36, pz_c42, pz_c48, pz_c57, pz_c59, pz_c60, pz_c63, pz_c64, pz_c66, pz_c96, pz_c97, pz_c99, pz_c100, pz_c122, pz_c127, pz_c128, pz_c200, pz_c255, pz_c299, pz_c300, pz_c336, pz_c354, pz_c585, pz_c666, pz_c708, pz_c1000, pz_c1170, pz_c4095, pz_c4096, pz_c4608, pz_c1000000, pz_L0, pz_L1, pz_L7, pz_L31, pz_L63, pz_L255, pz_L4095, nI_l, pz_n63, pz_63, pz_u63, pz_ushr, pz_shlL, pz_orL, pz_andL, pz_xorL, lN_i, pz_cmp, lN_add]
    rw [← hy]; rfl
  rw [f_J13_bitCount_95d88, pz_let, e1, pz_let, e2, pz_let, e3, pz_let]
  simp (disch := omega) only [pz_c0, pz_c1, pz_c2, pz_c3, pz_c4, pz_c5, pz_c6, pz_c7, pz_c8, pz_c9, pz_c10, pz_c11, pz_c12, pz_c13, pz_c14, pz_c15, pz_c16, pz_c17, pz_c18, pz_c19, pz_c20, pz_c21, pz_c22, pz_c23, pz_c24, pz_c25, pz_c26, pz_c27, pz_c28, pz_c29, pz_c30, pz_c31, pz_c32, pz_c33, pz_c34, pz_c35, pz_c36, pz_c42, pz_c48, pz_c57, pz_c59, pz_c60, pz_c63, pz_c64, pz_c66, pz_c96, pz_c97, pz_c99, pz_c100, pz_c122, pz_c127, pz_c128, pz_c200, pz_c255, pz_c299, pz_c300, pz_c336, pz_c354, pz_c585, pz_c666, pz_c708, pz_c1000, pz_c1170, pz_c4095, pz_c4096, pz_c4608, pz_c1000000, pz_L0, pz_L1, pz_L7, pz_L31, pz_L63, pz_L255, pz_L4095, nI_l, pz_n63, pz_63, pz_u63, pz_ushr, pz_shlL, pz_orL, pz_andL, pz_xorL, lN_i, pz_cmp, lN_add, pz_let, pz_and]
  rw [hs.1]
end
