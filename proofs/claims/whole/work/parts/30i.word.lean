/-! A WORD LAID BY TRYING ALL PLACES (the reference) -/
def totS (s : Nat → Nat) (h w : Nat) (p : PL) : Nat → Nat
  | 0 => 0
  | i + 1 => if (BX s h w i (12 * p.1 + pcol p i)).1 = 65535 ∨ totS s h w p i = 65535 then 65535 else totS s h w p i + (BX s h w i (12 * p.1 + pcol p i)).1
def TT (s : Nat → Nat) (h w k : Nat) : Nat := totS s h w (plk (s 0) (wl w) k) (wl w)
def BP (s : Nat → Nat) (h w : Nat) : Nat × Nat := best (TT s h w) (PN (s 0) (s 1) (wl w))
def LMok (s : Nat → Nat) (h w : Nat) (le ma : Nat → Int32) (m : Nat) : Prop := ∀ i, i < m → ∀ c, boxB s c = true → le (24 * i + c) = eI (BX s h w i c).1 ∧ ma (24 * i + c) = eI (BX s h w i c).2
section
variable {fu : Nat} {s : Nat → Nat} {st ones : Nat → Int32} {h w : Nat}
theorem boxB_lt (I : Iv s) {c : Nat} (h : boxB s c = true) : c < 22 := by
  obtain ⟨i0, i1, -⟩ := I
  simp only [boxB, decide_eq_true_eq] at h
  omega
theorem pok_col {W H n : Nat} {p : PL} (hn : n ≤ 3) (hp : pok W H n p) {i : Nat} (hi : i < n) : pcol p i + 3 ≤ W ∧ p.1 + 4 ≤ H := by
  obtain ⟨a, b⟩ := hp
  refine ⟨?_, a⟩
  rcases (show n = 1 ∨ n = 2 ∨ n = 3 by omega) with e | e | e
  · subst e
    rw [if_pos rfl] at b
    obtain rfl : i = 0 := by omega
    exact b
  · subst e
    rw [if_neg (by decide), if_pos rfl] at b
    rcases (show i = 0 ∨ i = 1 by omega) with e | e <;> subst e <;> simp only [pcol] <;> simp <;> omega
  · subst e
    rw [if_neg (by decide), if_neg (by decide)] at b
    rcases (show i = 0 ∨ i = 1 ∨ i = 2 by omega) with e | e | e <;> subst e <;> simp only [pcol] <;> simp <;> omega
theorem pok_box (I : Iv s) {n : Nat} {p : PL} (hn : n ≤ 3) (hp : pok (s 0) (s 1) n p) {i : Nat} (hi : i < n) : boxB s (12 * p.1 + pcol p i) = true := by
  have h := pok_col hn hp hi
  obtain ⟨i0, i1, -⟩ := I
  simp only [boxB, decide_eq_true_eq]
  omega
theorem BX_rng (I : Iv s) {c : Nat} (hc : c < 22) {i : Nat} : (BX s h w i c).1 = 65535 ∨ (BX s h w i c).1 ≤ 252 := best_rng (fun k => bxF_rng I hc) 4096
theorem totS_rng (I : Iv s) {p : PL} (hp : pok (s 0) (s 1) (wl w) p) : ∀ i, i ≤ wl w → totS s h w p i = 65535 ∨ totS s h w p i ≤ 252 * i
  | 0, _ => Or.inr (Nat.le_refl 0)
  | i + 1, hi => by
    have hr := wl_rng w
    have ih := totS_rng I hp i (by omega)
    have hb := BX_rng (s := s) (h := h) (w := w) (i := i) I (boxB_lt I (pok_box I (n := wl w) (by omega) hp (i := i) (by omega)))
    rw [totS]
    split
    · exact Or.inl rfl
    · right; omega
theorem TT_rng (I : Iv s) {k : Nat} (hk : k < PN (s 0) (s 1) (wl w)) : TT s h w k = 65535 ∨ TT s h w k ≤ 756 := by
  have hr := wl_rng w
  have hp := (pl_at I.1 I.2.1 hr (k := k) (by have := pl_le I.1 I.2.1 hr; omega)).1 hk
  have := totS_rng (h := h) I hp (wl w) (Nat.le_refl _)
  rw [TT]
  omega
theorem bestW_rng {f : Nat → Nat} {B : Nat} : ∀ {n : Nat}, (∀ k, k < n → f k = 65535 ∨ f k ≤ B) → (best f n).1 = 65535 ∨ (best f n).1 ≤ B
  | 0, _ => Or.inl rfl
  | n + 1, hf => by
    rw [best]
    split
    · exact hf n (by omega)
    · exact bestW_rng (fun k hk => hf k (by omega))
theorem x8_makeBoxes {rt le ma : Nat → Int32} (hf : 5000 ≤ fu) (I : Iv s) (R : SR st s) (hO : ∀ k, k < 4096 → ones k = nI (pc k)) (hh : h < 4) (hw : okW s w) : ∃ r, f_X8_makeBoxes fu st ones rt le ma (nI w) (nI h) = some r ∧ LMok s h w r.2.1 r.2.2 (wl w) := by
  have hr := wl_rng w
  have hw6 : w ≤ 666 := hw.2.1
  rw [f_X8_makeBoxes, x8_findReads hf I R hO, pz_bind]
  have hT : ∀ k, k < 4096 → filF (fun k => eI (rd s k)) rt 4096 k = eI (rd s k) := fun k hk => filF_in hk
  generalize filF (fun k => eI (rd s k)) rt 4096 = rt2 at hT
  refine pz_rel (fun n i (a : (Nat → Int32) × (Nat → Int32)) => X8_makeBoxes_L6 fu st ones rt2 (nI w) (nI h) n a.1 a.2 (nI i)) (fun i a => LMok s h w a.1 a.2 i) (wl w) _ (fun n i a hi ha => ?_) (fun n a ha => ?_) fu 0 (le, ma) (by omega) (by omega) (fun i hi => absurd hi (Nat.not_lt_zero i))
  · right
    have step : ∃ b : (Nat → Int32) × (Nat → Int32), (LMok s h w b.1 b.2 i ∧ ∀ d, d < 24 → boxB s d = true → b.1 (24 * i + d) = eI (BX s h w i d).1 ∧ b.2 (24 * i + d) = eI (BX s h w i d).2) ∧ X8_makeBoxes_L17 fu (X8_makeBoxes_L6 fu st ones rt2 (nI w) (nI h) n) st ones rt2 (nI w) (nI h) (nI i) fu a.1 a.2 (nI 0) = X8_makeBoxes_L6 fu st ones rt2 (nI w) (nI h) n b.1 b.2 (nI (i + 1)) := by
      refine pz_relC (fun n2 c (b : (Nat → Int32) × (Nat → Int32)) => X8_makeBoxes_L17 fu (X8_makeBoxes_L6 fu st ones rt2 (nI w) (nI h) n) st ones rt2 (nI w) (nI h) (nI i) n2 b.1 b.2 (nI c)) (fun c b => LMok s h w b.1 b.2 i ∧ ∀ d, d < c → boxB s d = true → b.1 (24 * i + d) = eI (BX s h w i d).1 ∧ b.2 (24 * i + d) = eI (BX s h w i d).2) 24 (fun b => X8_makeBoxes_L6 fu st ones rt2 (nI w) (nI h) n b.1 b.2 (nI (i + 1))) (fun m c b hc hb => ?_) (fun m b hb => ?_) fu 0 a (by omega) (by omega) ⟨ha, fun d hd => absurd hd (Nat.not_lt_zero d)⟩
      · try simp only
        rw [X8_makeBoxes_L17]
        generalize X8_makeBoxes_L17 fu (X8_makeBoxes_L6 fu st ones rt2 (nI w) (nI h) n) st ones rt2 (nI w) (nI h) (nI i) m = rec17
        generalize X8_makeBoxes_L6 fu st ones rt2 (nI w) (nI h) n = rec6
        cases hbx : boxB s c
        · refine ⟨b, ⟨hb.1, fun d hd hdb => ?_⟩, ?_⟩
          · rcases Nat.lt_or_ge d c with q | q
            · exact hb.2 d q hdb
            · obtain rfl : d = c := by omega
              rw [hbx] at hdb; cases hdb
          · simp (disch := omega) only [x8_isBox I R, vN_n, hbx, X8_makeBoxes_J42, pz_c0, pz_c1, pz_c2, pz_c3, pz_c4, pz_c5, pz_c6, pz_c7, pz_c8, pz_c9, pz_c10, pz_c11, pz_c12, pz_c13, pz_c14, pz_c15, pz_c16, pz_c17, pz_c18, pz_c19, pz_c20, pz_c21, pz_c22, pz_c23, pz_c24, pz_c25, pz_c26, pz_c27, pz_c28, pz_c29, pz_c30, pz_c31, pz_c32, pz_c33, pz_c34, pz_c35, pz_c36, pz_c42, pz_c48, pz_c57, pz_c59, pz_c60, pz_c63, pz_c64, pz_c66, pz_c96, pz_c97, pz_c99, pz_c100, pz_c122, pz_c127, pz_c128, pz_c200, pz_c255, pz_c299, pz_c300, pz_c336, pz_c354, pz_c585, pz_c666, pz_c708, pz_c1000, pz_c1170, pz_c4095, pz_c4096, pz_c4608, pz_c1000000, nI_add, pk_mul, pk_sub, pz_sub, pk_div, pz_or, pz_and, pz_xor, pz_n31, pz_shl, pz_shr, pz_eq, pz_le, pz_lt, pz_eqm, pz_meq, pz_mmeq, pz_lem, pz_mle, pz_ltm, pz_mlt, pz_mmle, pz_mmlt, pz_rd, pz_ck, pz_let, pz_cl, pz_bind, pz_gd, pz_zbb, eI_of, eI_N, pz_leT, pz_leF, pz_ltT, pz_ltF, pz_eqT, pz_eqF, if_pos, if_neg, if_true, if_false, ite_true, ite_false, pz_b0, pz_b1i, pz_bf, pz_bt, Bool.false_eq_true, Bool.true_eq_false, decide_true, decide_false, and_true, and_false, true_and, false_and, and_self, or_true, or_false, true_or, false_or, or_self, not_true_eq_false, not_false_eq_true, ne_eq, reduceIte, eq_self, upd_at]
        · have hc2 := boxB_lt I hbx
          refine ⟨(upd b.1 (24 * i + c) (eI (BX s h w i c).1), upd b.2 (24 * i + c) (eI (BX s h w i c).2)), ⟨fun i' hi' d hd => ?_, fun d hd hdb => ?_⟩, ?_⟩
          · have hd2 := boxB_lt I hd
            try simp only
            rw [pk_un (by omega), pk_un (by omega)]
            exact hb.1 i' hi' d hd
          · rcases Nat.lt_or_ge d c with q | q
            · try simp only
              rw [pk_un (by omega), pk_un (by omega)]
              exact hb.2 d q hdb
            · obtain rfl : d = c := by omega
              try simp only
              rw [pk_us, pk_us]
              exact ⟨rfl, rfl⟩
          · simp (disch := omega) only [x8_isBox I R, vN_n, hbx, X8_makeBoxes_J42, x8_makeBox hf I R hT hh hc2 hw hi, pz_c0, pz_c1, pz_c2, pz_c3, pz_c4, pz_c5, pz_c6, pz_c7, pz_c8, pz_c9, pz_c10, pz_c11, pz_c12, pz_c13, pz_c14, pz_c15, pz_c16, pz_c17, pz_c18, pz_c19, pz_c20, pz_c21, pz_c22, pz_c23, pz_c24, pz_c25, pz_c26, pz_c27, pz_c28, pz_c29, pz_c30, pz_c31, pz_c32, pz_c33, pz_c34, pz_c35, pz_c36, pz_c42, pz_c48, pz_c57, pz_c59, pz_c60, pz_c63, pz_c64, pz_c66, pz_c96, pz_c97, pz_c99, pz_c100, pz_c122, pz_c127, pz_c128, pz_c200, pz_c255, pz_c299, pz_c300, pz_c336, pz_c354, pz_c585, pz_c666, pz_c708, pz_c1000, pz_c1170, pz_c4095, pz_c4096, pz_c4608, pz_c1000000, nI_add, pk_mul, pk_sub, pz_sub, pk_div, pz_or, pz_and, pz_xor, pz_n31, pz_shl, pz_shr, pz_eq, pz_le, pz_lt, pz_eqm, pz_meq, pz_mmeq, pz_lem, pz_mle, pz_ltm, pz_mlt, pz_mmle, pz_mmlt, pz_rd, pz_ck, pz_let, pz_cl, pz_bind, pz_gd, pz_zbb, eI_of, eI_N, pz_leT, pz_leF, pz_ltT, pz_ltF, pz_eqT, pz_eqF, if_pos, if_neg, if_true, if_false, ite_true, ite_false, pz_b0, pz_b1i, pz_bf, pz_bt, Bool.false_eq_true, Bool.true_eq_false, decide_true, decide_false, and_true, and_false, true_and, false_and, and_self, or_true, or_false, true_or, false_or, or_self, not_true_eq_false, not_false_eq_true, ne_eq, reduceIte, eq_self, upd_at]
      · try simp only
        rw [X8_makeBoxes_L17]
        generalize X8_makeBoxes_L17 fu (X8_makeBoxes_L6 fu st ones rt2 (nI w) (nI h) n) st ones rt2 (nI w) (nI h) (nI i) m = rec17
        generalize X8_makeBoxes_L6 fu st ones rt2 (nI w) (nI h) n = rec6
        simp (disch := omega) only [pz_c0, pz_c1, pz_c2, pz_c3, pz_c4, pz_c5, pz_c6, pz_c7, pz_c8, pz_c9, pz_c10, pz_c11, pz_c12, pz_c13, pz_c14, pz_c15, pz_c16, pz_c17, pz_c18, pz_c19, pz_c20, pz_c21, pz_c22, pz_c23, pz_c24, pz_c25, pz_c26, pz_c27, pz_c28, pz_c29, pz_c30, pz_c31, pz_c32, pz_c33, pz_c34, pz_c35, pz_c36, pz_c42, pz_c48, pz_c57, pz_c59, pz_c60, pz_c63, pz_c64, pz_c66, pz_c96, pz_c97, pz_c99, pz_c100, pz_c122, pz_c127, pz_c128, pz_c200, pz_c255, pz_c299, pz_c300, pz_c336, pz_c354, pz_c585, pz_c666, pz_c708, pz_c1000, pz_c1170, pz_c4095, pz_c4096, pz_c4608, pz_c1000000, nI_add, pk_mul, pk_sub, pz_sub, pk_div, pz_or, pz_and, pz_xor, pz_n31, pz_shl, pz_shr, pz_eq, pz_le, pz_lt, pz_eqm, pz_meq, pz_mmeq, pz_lem, pz_mle, pz_ltm, pz_mlt, pz_mmle, pz_mmlt, pz_rd, pz_ck, pz_let, pz_cl, pz_bind, pz_gd, pz_zbb, eI_of, eI_N, pz_leT, pz_leF, pz_ltT, pz_ltF, pz_eqT, pz_eqF, if_pos, if_neg, if_true, if_false, ite_true, ite_false, pz_b0, pz_b1i, pz_bf, pz_bt, Bool.false_eq_true, Bool.true_eq_false, decide_true, decide_false, and_true, and_false, true_and, false_and, and_self, or_true, or_false, true_or, false_or, or_self, not_true_eq_false, not_false_eq_true, ne_eq, reduceIte, eq_self, upd_at]
    obtain ⟨b, hb, e⟩ := step
    refine ⟨b, fun i' hi' c hc => ?_, ?_⟩
    · rcases Nat.lt_or_ge i' i with q | q
      · exact hb.1 i' q c hc
      · obtain rfl : i' = i := by omega
        exact hb.2 c (by have := boxB_lt I hc; omega) hc
    · have e2 := pz_le (show wl w < 2 ^ 31 by omega) (show i < 2 ^ 31 by omega)
      try simp only
      rw [X8_makeBoxes_L6, x8_longOf (by omega), pz_bind, if_neg (by rw [e2]; omega)]
      exact e
  · try simp only
    have e2 := pz_le (show wl w < 2 ^ 31 by omega) (show wl w < 2 ^ 31 by omega)
    rw [X8_makeBoxes_L6, x8_longOf (by omega), pz_bind, if_pos (by rw [e2]; omega)]
    exact ⟨_, rfl, ha⟩
/-- the sum over the boxes of one place, and what follows it -/
theorem fw_sum {fl : Int32} {rt le ma co fc : Nat → Int32} {rec16 : Int32 → Int32 → Int32 → (Nat → Int32) → (Nat → Int32) → Option (Int32 × Int32 × Int32 × (Nat → Int32) × (Nat → Int32) × (Nat → Int32) × (Nat → Int32) × (Nat → Int32))} (hf : 5000 ≤ fu) (I : Iv s) (hw : okW s w) (hM : LMok s h w le ma (wl w)) {p : PL} (hp : pok (s 0) (s 1) (wl w) p) (hC : CR co (wl w) p) {B : Nat} (hB : B = 65535 ∨ B ≤ 756) : X8_findWord_L29 fu rec16 (nI p.1) (eI B) fl st ones rt le ma co fc (nI w) fu 0 0 = if totS s h w p (wl w) < B then X8_findWord_J113 fu rec16 (nI p.1) (eI B) fl st ones rt le ma co fc (nI w) (nI (totS s h w p (wl w))) else X8_findWord_J155 fu rec16 (nI p.1) (eI B) fl st ones rt le ma co fc (nI w) := by
  have hr := wl_rng w
  have hw6 : w ≤ 666 := hw.2.1
  have main := pz_up (fun n i => X8_findWord_L29 fu rec16 (nI p.1) (eI B) fl st ones rt le ma co fc (nI w) n (eI (totS s h w p i)) (nI i)) (wl w) (if totS s h w p (wl w) < B then X8_findWord_J113 fu rec16 (nI p.1) (eI B) fl st ones rt le ma co fc (nI w) (nI (totS s h w p (wl w))) else X8_findWord_J155 fu rec16 (nI p.1) (eI B) fl st ones rt le ma co fc (nI w)) (fun n i hi => ?_) (fun n => ?_) fu 0 (by omega) (by omega)
  · exact main
  · have hc := pok_col (by omega) hp hi
    have hb := pok_box I (by omega) hp hi
    have hm := (hM i hi _ hb).1
    have hbl := boxB_lt I hb
    have hx := BX_rng (s := s) (h := h) (w := w) (i := i) I hbl
    have ht := totS_rng (s := s) (h := h) I hp i (by omega)
    have i0 := I.1
    have i1 := I.2.1
    rw [X8_findWord_L29]
    generalize X8_findWord_L29 fu rec16 (nI p.1) (eI B) fl st ones rt le ma co fc (nI w) n = rec
    rw [totS]
    rw [← Nat.add_assoc] at hm
    rcases hx with hx | hx
    · simp (disch := omega) only [x8_longOf, hC i hi, hm, hx, X8_findWord_J77, X8_findWord_J85, pz_c0, pz_c1, pz_c2, pz_c3, pz_c4, pz_c5, pz_c6, pz_c7, pz_c8, pz_c9, pz_c10, pz_c11, pz_c12, pz_c13, pz_c14, pz_c15, pz_c16, pz_c17, pz_c18, pz_c19, pz_c20, pz_c21, pz_c22, pz_c23, pz_c24, pz_c25, pz_c26, pz_c27, pz_c28, pz_c29, pz_c30, pz_c31, pz_c32, pz_c33, pz_c34, pz_c35, pz_c36, pz_c42, pz_c48, pz_c57, pz_c59, pz_c60, pz_c63, pz_c64, pz_c66, pz_c96, pz_c97, pz_c99, pz_c100, pz_c122, pz_c127, pz_c128, pz_c200, pz_c255, pz_c299, pz_c300, pz_c336, pz_c354, pz_c585, pz_c666, pz_c708, pz_c1000, pz_c1170, pz_c4095, pz_c4096, pz_c4608, pz_c1000000, nI_add, pk_mul, pk_sub, pz_sub, pk_div, pz_or, pz_and, pz_xor, pz_n31, pz_shl, pz_shr, pz_eq, pz_le, pz_lt, pz_eqm, pz_meq, pz_mmeq, pz_lem, pz_mle, pz_ltm, pz_mlt, pz_mmle, pz_mmlt, pz_rd, pz_ck, pz_let, pz_cl, pz_bind, pz_gd, pz_zbb, eI_of, eI_N, pz_leT, pz_leF, pz_ltT, pz_ltF, pz_eqT, pz_eqF, if_pos, if_neg, if_true, if_false, ite_true, ite_false, pz_b0, pz_b1i, pz_bf, pz_bt, Bool.false_eq_true, Bool.true_eq_false, decide_true, decide_false, and_true, and_false, true_and, false_and, and_self, or_true, or_false, true_or, false_or, or_self, not_true_eq_false, not_false_eq_true, ne_eq, reduceIte, eq_self, upd_at]
    · rcases ht with ht | ht
      · simp (disch := omega) only [x8_longOf, hC i hi, hm, ht, X8_findWord_J77, X8_findWord_J85, pz_c0, pz_c1, pz_c2, pz_c3, pz_c4, pz_c5, pz_c6, pz_c7, pz_c8, pz_c9, pz_c10, pz_c11, pz_c12, pz_c13, pz_c14, pz_c15, pz_c16, pz_c17, pz_c18, pz_c19, pz_c20, pz_c21, pz_c22, pz_c23, pz_c24, pz_c25, pz_c26, pz_c27, pz_c28, pz_c29, pz_c30, pz_c31, pz_c32, pz_c33, pz_c34, pz_c35, pz_c36, pz_c42, pz_c48, pz_c57, pz_c59, pz_c60, pz_c63, pz_c64, pz_c66, pz_c96, pz_c97, pz_c99, pz_c100, pz_c122, pz_c127, pz_c128, pz_c200, pz_c255, pz_c299, pz_c300, pz_c336, pz_c354, pz_c585, pz_c666, pz_c708, pz_c1000, pz_c1170, pz_c4095, pz_c4096, pz_c4608, pz_c1000000, nI_add, pk_mul, pk_sub, pz_sub, pk_div, pz_or, pz_and, pz_xor, pz_n31, pz_shl, pz_shr, pz_eq, pz_le, pz_lt, pz_eqm, pz_meq, pz_mmeq, pz_lem, pz_mle, pz_ltm, pz_mlt, pz_mmle, pz_mmlt, pz_rd, pz_ck, pz_let, pz_cl, pz_bind, pz_gd, pz_zbb, eI_of, eI_N, pz_leT, pz_leF, pz_ltT, pz_ltF, pz_eqT, pz_eqF, if_pos, if_neg, if_true, if_false, ite_true, ite_false, pz_b0, pz_b1i, pz_bf, pz_bt, Bool.false_eq_true, Bool.true_eq_false, decide_true, decide_false, and_true, and_false, true_and, false_and, and_self, or_true, or_false, true_or, false_or, or_self, not_true_eq_false, not_false_eq_true, ne_eq, reduceIte, eq_self, upd_at]
      · simp (disch := omega) only [x8_longOf, hC i hi, hm, X8_findWord_J77, X8_findWord_J85, pz_c0, pz_c1, pz_c2, pz_c3, pz_c4, pz_c5, pz_c6, pz_c7, pz_c8, pz_c9, pz_c10, pz_c11, pz_c12, pz_c13, pz_c14, pz_c15, pz_c16, pz_c17, pz_c18, pz_c19, pz_c20, pz_c21, pz_c22, pz_c23, pz_c24, pz_c25, pz_c26, pz_c27, pz_c28, pz_c29, pz_c30, pz_c31, pz_c32, pz_c33, pz_c34, pz_c35, pz_c36, pz_c42, pz_c48, pz_c57, pz_c59, pz_c60, pz_c63, pz_c64, pz_c66, pz_c96, pz_c97, pz_c99, pz_c100, pz_c122, pz_c127, pz_c128, pz_c200, pz_c255, pz_c299, pz_c300, pz_c336, pz_c354, pz_c585, pz_c666, pz_c708, pz_c1000, pz_c1170, pz_c4095, pz_c4096, pz_c4608, pz_c1000000, nI_add, pk_mul, pk_sub, pz_sub, pk_div, pz_or, pz_and, pz_xor, pz_n31, pz_shl, pz_shr, pz_eq, pz_le, pz_lt, pz_eqm, pz_meq, pz_mmeq, pz_lem, pz_mle, pz_ltm, pz_mlt, pz_mmle, pz_mmlt, pz_rd, pz_ck, pz_let, pz_cl, pz_bind, pz_gd, pz_zbb, eI_of, eI_N, pz_leT, pz_leF, pz_ltT, pz_ltF, pz_eqT, pz_eqF, if_pos, if_neg, if_true, if_false, ite_true, ite_false, pz_b0, pz_b1i, pz_bf, pz_bt, Bool.false_eq_true, Bool.true_eq_false, decide_true, decide_false, and_true, and_false, true_and, false_and, and_self, or_true, or_false, true_or, false_or, or_self, not_true_eq_false, not_false_eq_true, ne_eq, reduceIte, eq_self, upd_at]
  · have ht := totS_rng (s := s) (h := h) I hp (wl w) (by omega)
    rw [X8_findWord_L29]
    generalize X8_findWord_L29 fu rec16 (nI p.1) (eI B) fl st ones rt le ma co fc (nI w) n = rec
    rcases ht with ht | ht
    · have hn : ¬ 65535 < B := by omega
      simp (disch := omega) only [x8_longOf, ht, pz_c0, pz_c1, pz_c2, pz_c3, pz_c4, pz_c5, pz_c6, pz_c7, pz_c8, pz_c9, pz_c10, pz_c11, pz_c12, pz_c13, pz_c14, pz_c15, pz_c16, pz_c17, pz_c18, pz_c19, pz_c20, pz_c21, pz_c22, pz_c23, pz_c24, pz_c25, pz_c26, pz_c27, pz_c28, pz_c29, pz_c30, pz_c31, pz_c32, pz_c33, pz_c34, pz_c35, pz_c36, pz_c42, pz_c48, pz_c57, pz_c59, pz_c60, pz_c63, pz_c64, pz_c66, pz_c96, pz_c97, pz_c99, pz_c100, pz_c122, pz_c127, pz_c128, pz_c200, pz_c255, pz_c299, pz_c300, pz_c336, pz_c354, pz_c585, pz_c666, pz_c708, pz_c1000, pz_c1170, pz_c4095, pz_c4096, pz_c4608, pz_c1000000, nI_add, pk_mul, pk_sub, pz_sub, pk_div, pz_or, pz_and, pz_xor, pz_n31, pz_shl, pz_shr, pz_eq, pz_le, pz_lt, pz_eqm, pz_meq, pz_mmeq, pz_lem, pz_mle, pz_ltm, pz_mlt, pz_mmle, pz_mmlt, pz_rd, pz_ck, pz_let, pz_cl, pz_bind, pz_gd, pz_zbb, eI_of, eI_N, pz_leT, pz_leF, pz_ltT, pz_ltF, pz_eqT, pz_eqF, if_pos, if_neg, if_true, if_false, ite_true, ite_false, pz_b0, pz_b1i, pz_bf, pz_bt, Bool.false_eq_true, Bool.true_eq_false, decide_true, decide_false, and_true, and_false, true_and, false_and, and_self, or_true, or_false, true_or, false_or, or_self, not_true_eq_false, not_false_eq_true, ne_eq, reduceIte, eq_self, upd_at]
    · rcases hB with hB | hB
      · simp (disch := omega) only [x8_longOf, hB, pz_c0, pz_c1, pz_c2, pz_c3, pz_c4, pz_c5, pz_c6, pz_c7, pz_c8, pz_c9, pz_c10, pz_c11, pz_c12, pz_c13, pz_c14, pz_c15, pz_c16, pz_c17, pz_c18, pz_c19, pz_c20, pz_c21, pz_c22, pz_c23, pz_c24, pz_c25, pz_c26, pz_c27, pz_c28, pz_c29, pz_c30, pz_c31, pz_c32, pz_c33, pz_c34, pz_c35, pz_c36, pz_c42, pz_c48, pz_c57, pz_c59, pz_c60, pz_c63, pz_c64, pz_c66, pz_c96, pz_c97, pz_c99, pz_c100, pz_c122, pz_c127, pz_c128, pz_c200, pz_c255, pz_c299, pz_c300, pz_c336, pz_c354, pz_c585, pz_c666, pz_c708, pz_c1000, pz_c1170, pz_c4095, pz_c4096, pz_c4608, pz_c1000000, nI_add, pk_mul, pk_sub, pz_sub, pk_div, pz_or, pz_and, pz_xor, pz_n31, pz_shl, pz_shr, pz_eq, pz_le, pz_lt, pz_eqm, pz_meq, pz_mmeq, pz_lem, pz_mle, pz_ltm, pz_mlt, pz_mmle, pz_mmlt, pz_rd, pz_ck, pz_let, pz_cl, pz_bind, pz_gd, pz_zbb, eI_of, eI_N, pz_leT, pz_leF, pz_ltT, pz_ltF, pz_eqT, pz_eqF, if_pos, if_neg, if_true, if_false, ite_true, ite_false, pz_b0, pz_b1i, pz_bf, pz_bt, Bool.false_eq_true, Bool.true_eq_false, decide_true, decide_false, and_true, and_false, true_and, false_and, and_self, or_true, or_false, true_or, false_or, or_self, not_true_eq_false, not_false_eq_true, ne_eq, reduceIte, eq_self, upd_at]
      · by_cases hlt : totS s h w p (wl w) < B
        · simp (disch := omega) only [x8_longOf, pz_c0, pz_c1, pz_c2, pz_c3, pz_c4, pz_c5, pz_c6, pz_c7, pz_c8, pz_c9, pz_c10, pz_c11, pz_c12, pz_c13, pz_c14, pz_c15, pz_c16, pz_c17, pz_c18, pz_c19, pz_c20, pz_c21, pz_c22, pz_c23, pz_c24, pz_c25, pz_c26, pz_c27, pz_c28, pz_c29, pz_c30, pz_c31, pz_c32, pz_c33, pz_c34, pz_c35, pz_c36, pz_c42, pz_c48, pz_c57, pz_c59, pz_c60, pz_c63, pz_c64, pz_c66, pz_c96, pz_c97, pz_c99, pz_c100, pz_c122, pz_c127, pz_c128, pz_c200, pz_c255, pz_c299, pz_c300, pz_c336, pz_c354, pz_c585, pz_c666, pz_c708, pz_c1000, pz_c1170, pz_c4095, pz_c4096, pz_c4608, pz_c1000000, nI_add, pk_mul, pk_sub, pz_sub, pk_div, pz_or, pz_and, pz_xor, pz_n31, pz_shl, pz_shr, pz_eq, pz_le, pz_lt, pz_eqm, pz_meq, pz_mmeq, pz_lem, pz_mle, pz_ltm, pz_mlt, pz_mmle, pz_mmlt, pz_rd, pz_ck, pz_let, pz_cl, pz_bind, pz_gd, pz_zbb, eI_of, eI_N, pz_leT, pz_leF, pz_ltT, pz_ltF, pz_eqT, pz_eqF, if_pos, if_neg, if_true, if_false, ite_true, ite_false, pz_b0, pz_b1i, pz_bf, pz_bt, Bool.false_eq_true, Bool.true_eq_false, decide_true, decide_false, and_true, and_false, true_and, false_and, and_self, or_true, or_false, true_or, false_or, or_self, not_true_eq_false, not_false_eq_true, ne_eq, reduceIte, eq_self, upd_at]
        · simp (disch := omega) only [x8_longOf, pz_c0, pz_c1, pz_c2, pz_c3, pz_c4, pz_c5, pz_c6, pz_c7, pz_c8, pz_c9, pz_c10, pz_c11, pz_c12, pz_c13, pz_c14, pz_c15, pz_c16, pz_c17, pz_c18, pz_c19, pz_c20, pz_c21, pz_c22, pz_c23, pz_c24, pz_c25, pz_c26, pz_c27, pz_c28, pz_c29, pz_c30, pz_c31, pz_c32, pz_c33, pz_c34, pz_c35, pz_c36, pz_c42, pz_c48, pz_c57, pz_c59, pz_c60, pz_c63, pz_c64, pz_c66, pz_c96, pz_c97, pz_c99, pz_c100, pz_c122, pz_c127, pz_c128, pz_c200, pz_c255, pz_c299, pz_c300, pz_c336, pz_c354, pz_c585, pz_c666, pz_c708, pz_c1000, pz_c1170, pz_c4095, pz_c4096, pz_c4608, pz_c1000000, nI_add, pk_mul, pk_sub, pz_sub, pk_div, pz_or, pz_and, pz_xor, pz_n31, pz_shl, pz_shr, pz_eq, pz_le, pz_lt, pz_eqm, pz_meq, pz_mmeq, pz_lem, pz_mle, pz_ltm, pz_mlt, pz_mmle, pz_mmlt, pz_rd, pz_ck, pz_let, pz_cl, pz_bind, pz_gd, pz_zbb, eI_of, eI_N, pz_leT, pz_leF, pz_ltT, pz_ltF, pz_eqT, pz_eqF, if_pos, if_neg, if_true, if_false, ite_true, ite_false, pz_b0, pz_b1i, pz_bf, pz_bt, Bool.false_eq_true, Bool.true_eq_false, decide_true, decide_false, and_true, and_false, true_and, false_and, and_self, or_true, or_false, true_or, false_or, or_self, not_true_eq_false, not_false_eq_true, ne_eq, reduceIte, eq_self, upd_at]
theorem fw_keep {y v3 fp fl : Int32} {rt le ma co fc : Nat → Int32} {rec16 : Int32 → Int32 → Int32 → (Nat → Int32) → (Nat → Int32) → Option (Int32 × Int32 × Int32 × (Nat → Int32) × (Nat → Int32) × (Nat → Int32) × (Nat → Int32) × (Nat → Int32))} {vw : Int32} (hf : 5000 ≤ fu) : X8_findWord_J113 fu rec16 y fp fl st ones rt le ma co fc vw v3 = X8_findWord_J155 fu rec16 y v3 y st ones rt le ma co (filF co fc 3) vw := by
  rw [X8_findWord_J113]
  have main := pz_up (fun n i => X8_findWord_L129 fu rec16 y v3 y st ones rt le ma co vw n (filF co fc i) (nI i)) 3 (X8_findWord_J155 fu rec16 y v3 y st ones rt le ma co (filF co fc 3) vw) (fun n i hi => ?_) (fun n => ?_) fu 0 (by omega) (by omega)
  · rw [filF_0] at main
    exact main
  · rw [X8_findWord_L129]
    generalize X8_findWord_L129 fu rec16 y v3 y st ones rt le ma co vw n = rec
    have e := filF_s co fc i
    simp (disch := omega) only [pz_c0, pz_c1, pz_c2, pz_c3, pz_c4, pz_c5, pz_c6, pz_c7, pz_c8, pz_c9, pz_c10, pz_c11, pz_c12, pz_c13, pz_c14, pz_c15, pz_c16, pz_c17, pz_c18, pz_c19, pz_c20, pz_c21, pz_c22, pz_c23, pz_c24, pz_c25, pz_c26, pz_c27, pz_c28, pz_c29, pz_c30, pz_c31, pz_c32, pz_c33, pz_c34, pz_c35, pz_c36, pz_c42, pz_c48, pz_c57, pz_c59, pz_c60, pz_c63, pz_c64, pz_c66, pz_c96, pz_c97, pz_c99, pz_c100, pz_c122, pz_c127, pz_c128, pz_c200, pz_c255, pz_c299, pz_c300, pz_c336, pz_c354, pz_c585, pz_c666, pz_c708, pz_c1000, pz_c1170, pz_c4095, pz_c4096, pz_c4608, pz_c1000000, nI_add, pk_mul, pk_sub, pz_sub, pk_div, pz_or, pz_and, pz_xor, pz_n31, pz_shl, pz_shr, pz_eq, pz_le, pz_lt, pz_eqm, pz_meq, pz_mmeq, pz_lem, pz_mle, pz_ltm, pz_mlt, pz_mmle, pz_mmlt, pz_rd, pz_ck, pz_let, pz_cl, pz_bind, pz_gd, pz_zbb, eI_of, eI_N, pz_leT, pz_leF, pz_ltT, pz_ltF, pz_eqT, pz_eqF, if_pos, if_neg, if_true, if_false, ite_true, ite_false, pz_b0, pz_b1i, pz_bf, pz_bt, Bool.false_eq_true, Bool.true_eq_false, decide_true, decide_false, and_true, and_false, true_and, false_and, and_self, or_true, or_false, true_or, false_or, or_self, not_true_eq_false, not_false_eq_true, ne_eq, reduceIte, eq_self, upd_at, e]
  · rw [X8_findWord_L129]
    generalize X8_findWord_L129 fu rec16 y v3 y st ones rt le ma co vw n = rec
    simp (disch := omega) only [pz_c0, pz_c1, pz_c2, pz_c3, pz_c4, pz_c5, pz_c6, pz_c7, pz_c8, pz_c9, pz_c10, pz_c11, pz_c12, pz_c13, pz_c14, pz_c15, pz_c16, pz_c17, pz_c18, pz_c19, pz_c20, pz_c21, pz_c22, pz_c23, pz_c24, pz_c25, pz_c26, pz_c27, pz_c28, pz_c29, pz_c30, pz_c31, pz_c32, pz_c33, pz_c34, pz_c35, pz_c36, pz_c42, pz_c48, pz_c57, pz_c59, pz_c60, pz_c63, pz_c64, pz_c66, pz_c96, pz_c97, pz_c99, pz_c100, pz_c122, pz_c127, pz_c128, pz_c200, pz_c255, pz_c299, pz_c300, pz_c336, pz_c354, pz_c585, pz_c666, pz_c708, pz_c1000, pz_c1170, pz_c4095, pz_c4096, pz_c4608, pz_c1000000, nI_add, pk_mul, pk_sub, pz_sub, pk_div, pz_or, pz_and, pz_xor, pz_n31, pz_shl, pz_shr, pz_eq, pz_le, pz_lt, pz_eqm, pz_meq, pz_mmeq, pz_lem, pz_mle, pz_ltm, pz_mlt, pz_mmle, pz_mmlt, pz_rd, pz_ck, pz_let, pz_cl, pz_bind, pz_gd, pz_zbb, eI_of, eI_N, pz_leT, pz_leF, pz_ltT, pz_ltF, pz_eqT, pz_eqF, if_pos, if_neg, if_true, if_false, ite_true, ite_false, pz_b0, pz_b1i, pz_bf, pz_bt, Bool.false_eq_true, Bool.true_eq_false, decide_true, decide_false, and_true, and_false, true_and, false_and, and_self, or_true, or_false, true_or, false_or, or_self, not_true_eq_false, not_false_eq_true, ne_eq, reduceIte, eq_self, upd_at]
theorem x8_findWord {l0 fp0 fl0 : Int32} {rt le ma co fc : Nat → Int32} (hf : 5000 ≤ fu) (I : Iv s) (R : SR st s) (hO : ∀ k, k < 4096 → ones k = nI (pc k)) (hh : h < 4) (hw : okW s w) : ∃ r, f_X8_findWord fu l0 fp0 fl0 st ones rt le ma co fc (nI w) (nI h) = some r ∧ r.2.1 = eI (BP s h w).1 ∧ LMok s h w r.2.2.2.2.1 r.2.2.2.2.2.1 (wl w) ∧ ((BP s h w).1 ≠ 65535 → r.2.2.1 = nI (plk (s 0) (wl w) (BP s h w).2).1 ∧ CR r.2.2.2.2.2.2.2 (wl w) (plk (s 0) (wl w) (BP s h w).2)) := by
  have hr := wl_rng w
  have hw6 : w ≤ 666 := hw.2.1
  have hN := pl_le I.1 I.2.1 hr
  obtain ⟨r1, e1, hM⟩ := x8_makeBoxes (fu := fu) (rt := rt) (le := le) (ma := ma) (h := h) hf I R hO hh hw
  have e2 := x8_firstRow (fu := fu) (cols := co) (l := l0) (w := w) hf (by omega)
  rw [f_X8_findWord, e1, pz_bind, e2, pz_bind]
  have hB : ∀ k, k ≤ PN (s 0) (s 1) (wl w) → (best (TT s h w) k).1 = 65535 ∨ (best (TT s h w) k).1 ≤ 756 := fun k hk => bestW_rng (fun j hj => TT_rng I (by omega))
  refine pz_rel (fun n k (a : Int32 × Int32 × Int32 × (Nat → Int32) × (Nat → Int32)) => X8_findWord_L16 fu st ones r1.1 r1.2.1 r1.2.2 (nI w) n a.1 a.2.1 a.2.2.1 a.2.2.2.1 a.2.2.2.2) (fun k a => a.1 = nI (plk (s 0) (wl w) k).1 ∧ CR a.2.2.2.1 (wl w) (plk (s 0) (wl w) k) ∧ a.2.1 = eI (best (TT s h w) k).1 ∧ ((best (TT s h w) k).1 ≠ 65535 → a.2.2.1 = nI (plk (s 0) (wl w) (best (TT s h w) k).2).1 ∧ CR a.2.2.2.2 (wl w) (plk (s 0) (wl w) (best (TT s h w) k).2))) (PN (s 0) (s 1) (wl w)) _ (fun n k a hk ha => ?_) (fun n a ha => ?_) fu 0 (nI 0, -1, fl0, packF co 0 (wl w) 0, fc) (by omega) (by omega) ⟨rfl, ?_, rfl, fun h => absurd rfl h⟩
  · right
    obtain ⟨a1, a2, a3, a4, a5⟩ := a
    obtain ⟨h1, h2, h3, h4⟩ := ha
    simp only at h1 h2 h3 h4
    subst h1
    have hp := (pl_at I.1 I.2.1 hr (k := k) (by omega)).1 hk
    have hrow := x8_isRow (fu := fu) I R (w := w) (by omega) (k := k) (by omega) h2
    obtain ⟨c2, hc2, enx⟩ := x8_nextRow (fu := fu) (w := w) hf I R (by omega) hp h2
    have hsum := fw_sum (fu := fu) (st := st) (ones := ones) (fl := a3) (rt := r1.1) (fc := a5) (rec16 := X8_findWord_L16 fu st ones r1.1 r1.2.1 r1.2.2 (nI w) n) hf I hw hM hp h2 (hB k (by omega))
    rw [show totS s h w (plk (s 0) (wl w) k) (wl w) = TT s h w k from rfl] at hsum
    by_cases hlt : TT s h w k < (best (TT s h w) k).1
    · refine ⟨(nI (plk (s 0) (wl w) (k + 1)).1, nI (TT s h w k), nI (plk (s 0) (wl w) k).1, c2, filF a4 a5 3), ⟨rfl, hc2, ?_, fun _ => ?_⟩, ?_⟩
      · try simp only
        rw [best, if_pos hlt]
        have := TT_rng (s := s) (h := h) (w := w) I hk
        rw [eI_of]
        have := hB k (by omega)
        simp only
        omega
      · try simp only
        rw [best, if_pos hlt]
        refine ⟨rfl, fun i hi => ?_⟩
        rw [filF_in (by omega)]
        exact h2 i hi
      · try simp only
        rw [X8_findWord_L16, hrow, pz_bind, decide_eq_true hk, if_neg (by decide), h3, hsum, if_pos hlt, fw_keep hf, X8_findWord_J155, enx, pz_bind]
        rfl
    · refine ⟨(nI (plk (s 0) (wl w) (k + 1)).1, a2, a3, c2, a5), ⟨rfl, hc2, ?_, ?_⟩, ?_⟩
      · try simp only
        rw [best, if_neg hlt]
        exact h3
      · try simp only
        rw [best, if_neg hlt]
        exact h4
      · try simp only
        rw [X8_findWord_L16, hrow, pz_bind, decide_eq_true hk, if_neg (by decide), h3, hsum, if_neg hlt, X8_findWord_J155, enx, pz_bind]
        rfl
  · obtain ⟨a1, a2, a3, a4, a5⟩ := a
    obtain ⟨h1, h2, h3, h4⟩ := ha
    simp only at h1 h2 h3 h4
    subst h1
    have hrow := x8_isRow (fu := fu) I R (w := w) (by omega) (k := PN (s 0) (s 1) (wl w)) (by omega) h2
    try simp only
    rw [X8_findWord_L16, hrow, pz_bind, decide_eq_false (by omega), pz_bf, if_pos (by decide)]
    exact ⟨_, rfl, h3, hM, h4⟩
  · intro i hi
    show packF co 0 (wl w) 0 i = _
    rw [packF, if_pos (by omega)]
    simp only [plk]
    rcases (show i = 0 ∨ i = 1 ∨ i = 2 by omega) with e | e | e <;> subst e <;> rfl
end
