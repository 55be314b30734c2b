/-! DEAD: the class, and the call -/
/-- a loop over the places of p that are listed, from place c on -/
def fo {σ : Type} (p : Nat → Bool) (g : Nat → σ → σ) : Nat → Nat → σ → σ
  | 0, _, a => a
  | m + 1, c, a => fo p g m (c + 1) (if p c = true then g c a else a)
theorem pz_fil {σ ρ : Type} (W : Nat → Nat → σ → Option ρ) (p : Nat → Bool) (N : Nat) (g : Nat → σ → σ) (K : σ → Option ρ) (hs : ∀ n c a, c < N → p c = true → W (n + 1) (ctN p c) a = W n (ctN p c + 1) (g c a)) (hx : ∀ n a, W (n + 1) (ctN p N) a = K a) : ∀ m c n a, m + c = N → m < n → W n (ctN p c) a = K (fo p g m c a)
  | 0, c, 0, a, _, h2 => absurd h2 (Nat.not_lt_zero _)
  | 0, c, n + 1, a, h1, _ => by
    obtain rfl : c = N := by omega
    exact hx n a
  | m + 1, c, 0, a, _, h2 => absurd h2 (Nat.not_lt_zero _)
  | m + 1, c, n + 1, a, h1, h2 => by
    rw [fo]
    by_cases h : p c = true
    · rw [hs n c a (by omega) h, if_pos h]
      have e : ctN p (c + 1) = ctN p c + 1 := by rw [ctN, h]; rfl
      rw [← e]
      exact pz_fil W p N g K hs hx m (c + 1) n _ (by omega) (by omega)
    · rw [if_neg h]
      have e : ctN p (c + 1) = ctN p c := by rw [ctN, Bool.eq_false_iff.mpr h]; rfl
      rw [← e]
      exact pz_fil W p N g K hs hx m (c + 1) (n + 1) _ (by omega) (by omega)
theorem pz_fo {σ ρ : Type} (W : Nat → Nat → σ → Option ρ) (p : Nat → Bool) (N : Nat) (g : Nat → σ → σ) (K : σ → Option ρ) (hs : ∀ n c a, c < N → W (n + 1) c a = W n (c + 1) (if p c = true then g c a else a)) (hx : ∀ n a, W (n + 1) N a = K a) : ∀ m c n a, m + c = N → m < n → W n c a = K (fo p g m c a)
  | 0, c, 0, a, _, h2 => absurd h2 (Nat.not_lt_zero _)
  | 0, c, n + 1, a, h1, _ => by
    obtain rfl : c = N := by omega
    exact hx n a
  | m + 1, c, 0, a, _, h2 => absurd h2 (Nat.not_lt_zero _)
  | m + 1, c, n + 1, a, h1, h2 => by
    rw [fo, hs n c a (by omega)]
    exact pz_fo W p N g K hs hx m (c + 1) n _ (by omega) (by omega)
theorem fo_none {σ : Type} {p : Nat → Bool} {g : Nat → σ → σ} (h : ∀ c, p c = false) : ∀ m c a, fo p g m c a = a
  | 0, _, _ => rfl
  | m + 1, c, a => by rw [fo, h c, if_neg (by decide)]; exact fo_none h m (c + 1) a
theorem ctN_mono {p : Nat → Bool} {a : Nat} : ∀ {b : Nat}, a ≤ b → ctN p a ≤ ctN p b
  | 0, h => by rw [show a = 0 by omega]; exact Nat.le_refl _
  | b + 1, h => by
    rcases Nat.lt_or_ge a (b + 1) with q | q
    · have := ctN_mono (p := p) (show a ≤ b by omega)
      rw [ctN]; omega
    · rw [show a = b + 1 by omega]; exact Nat.le_refl _
theorem ctN_in {p : Nat → Bool} {a b : Nat} (h : a < b) (hp : p a = true) : ctN p a < ctN p b := by
  have h1 := ctN_mono (p := p) (show a + 1 ≤ b from h)
  rw [ctN, hp] at h1
  have : (true).toNat = 1 := rfl
  omega
def btN (d : Nat) : Nat := if d = 65535 then 0 else 1 <<< d
theorem btN_lt {d : Nat} (h : d = 65535 ∨ d < 60) : btN d < 2 ^ 60 := by
  rw [btN]
  split
  · exact Nat.two_pow_pos 60
  · rw [Nat.shiftLeft_eq, Nat.one_mul]
    exact Nat.pow_lt_pow_right (by decide) (by omega)
theorem btN_bit {d c : Nat} (hc : c < 60) : (btN d).testBit c = decide (c = d) := by
  rw [btN]
  split
  · rw [Nat.zero_testBit, decide_eq_false (by omega)]
  · exact one_bit
theorem d2_bit {d1 d2 c : Nat} (hc : c < 60) : (btN d1 ||| btN d2).testBit c = d2P d1 d2 c := by
  rw [Nat.testBit_or, btN_bit hc, btN_bit hc, d2P]
section
variable {fu : Nat} {s : Nat → Nat} {st ones rf : Nat → Int32}
theorem boxB_xy (I : Iv s) {c : Nat} (h : boxB s c = true) : c % 12 ≤ 9 ∧ c / 12 ≤ 1 := by
  have h0 := I.1
  have h1 := I.2.1
  have h2 := of_decide_eq_true h
  omega
def SHK (s : Nat → Nat) (k : Nat) : Nat := mkN (woF (s (30 + s (336 + 3 * k + 1))) (s (336 + 3 * k) / 12) (s (336 + 3 * k) % 12) 4) 60
def SOK (s : Nat → Nat) (k : Nat) : Bool := decide (rd s (s (30 + s (336 + 3 * k + 1))) = s (336 + 3 * k + 2))
theorem x0_tellReadings {shown : Nat → Int64} {soW shapes readAt meant readSo : Nat → Int32} (hf : 5000 ≤ fu) (I : Iv s) (S : HR s shapes) (D : DR s readAt meant readSo) : ∃ r, f_X0_tellReadings fu shown soW (nI (s 5)) (nI (s 3)) (nI (s 4)) shapes readAt meant readSo = some r ∧ ∀ k, k < s 4 → r.1 k = lN (SHK s k) ∧ r.2 k = bI (SOK s k) := by
  have i4 := I.2.2.2.2.1
  have i3 := I.2.2.2.1
  rw [f_X0_tellReadings]
  refine pz_rel (fun n k (a : (Nat → Int64) × (Nat → Int32)) => X0_tellReadings_L2 fu (nI (s 5)) (nI (s 3)) (nI (s 4)) shapes readAt meant readSo n a.1 a.2 (nI k)) (fun k a => ∀ j, j < k → a.1 j = lN (SHK s j) ∧ a.2 j = bI (SOK s j)) (s 4) _ (fun n k a hk ha => ?_) (fun n a ha => ?_) fu 0 (shown, soW) (by omega) (by omega) (fun j hj => absurd hj (Nat.not_lt_zero j))
  · right
    obtain ⟨hb, hm, hso⟩ := I.2.2.2.2.2.2.2.2.2.2 k hk
    obtain ⟨q1, q2, q3⟩ := D k hk
    have ha2 := boxB_xy I hb
    have hsh := I.2.2.2.2.2.2.2.2.2.1 _ hm
    have eS := S _ hm
    have ew := x7_windowsOf (fu := fu) (sh := s (30 + s (336 + 3 * k + 1))) (y := s (336 + 3 * k) / 12) (x := s (336 + 3 * k) % 12) hf hsh ha2.1 ha2.2
    rw [Nat.div_add_mod] at ew
    have hr := rd_rng (s := s) (s (30 + s (336 + 3 * k + 1)))
    refine ⟨(vp_updL a.1 k (lN (SHK s k)), upd a.2 k (bI (SOK s k))), fun j hj => ?_, ?_⟩
    · rcases Nat.lt_or_ge j k with g | g
      · show vp_updL a.1 k _ j = _ ∧ upd a.2 k _ j = _
        rw [pk_uLn (by omega), pk_un (by omega)]
        exact ha j g
      · obtain rfl : j = k := by omega
        exact ⟨pk_uLs, pk_us⟩
    · try simp only
      rw [X0_tellReadings_L2]
      generalize X0_tellReadings_L2 fu (nI (s 5)) (nI (s 3)) (nI (s 4)) shapes readAt meant readSo n = rec
      rw [if_neg (by rw [pz_le (by omega) (by omega)]; omega), pz_rd _ _ (by omega) (by omega), q2, pz_rd _ _ (by omega) (by omega), eS, pz_rd _ _ (by omega) (by omega), q1, ew, pz_bind, pz_ck _ (by omega) (by omega), x5_readAs hf I S hsh, pz_bind, pz_rd _ _ (by omega) (by omega), q3, pz_cl (by omega)]
      by_cases g : rd s (s (30 + s (336 + 3 * k + 1))) = s (336 + 3 * k + 2)
      · rw [if_pos (by rw [g]), X0_tellReadings_J62, pz_ck _ (by omega) (by omega), pz_cl (by omega), nb1, nI_1, SOK, decide_eq_true g]; rfl
      · rw [if_neg (by rw [eI_eq (by omega) (by omega)]; exact g), X0_tellReadings_J62, pz_ck _ (by omega) (by omega), pz_cl (by omega), nb0, nI_1, SOK, decide_eq_false g]; rfl
  · try simp only
    rw [X0_tellReadings_L2]
    generalize X0_tellReadings_L2 fu (nI (s 5)) (nI (s 3)) (nI (s 4)) shapes readAt meant readSo n = rec
    rw [if_pos (by rw [pz_le (by omega) (by omega)]; omega)]
    exact ⟨_, rfl, ha⟩
theorem x0_tellWindows {wn : Nat → Int32} (hf : 5000 ≤ fu) (I : Iv s) : ∃ r, f_X0_tellWindows fu wn (nI (s 0)) (nI (s 1)) = some r ∧ r.1 = nI (ctN (winB s) 60) ∧ ∀ c, c < 60 → winB s c = true → r.2 (ctN (winB s) c) = nI c := by
  rw [f_X0_tellWindows]
  refine pz_rel (fun n c (a : Nat → Int32) => X0_tellWindows_L4 fu (nI (s 0)) (nI (s 1)) n a (nI (ctN (winB s) c)) (nI c)) (fun c a => ∀ j, j < c → winB s j = true → a (ctN (winB s) j) = nI j) 60 _ (fun n c a hc ha => ?_) (fun n a ha => ?_) fu 0 wn (by omega) (by omega) (fun j hj => absurd hj (Nat.not_lt_zero j))
  · right
    have hle := ctN_le (winB s) c
    have ew := x5_isWindow (fu := fu) I (nI c)
    rw [vN_n (by omega)] at ew
    try simp only
    rw [X0_tellWindows_L4]
    generalize X0_tellWindows_L4 fu (nI (s 0)) (nI (s 1)) n = rec
    rw [if_neg (by rw [pz_c60, pz_le (by decide) (by omega)]; omega), ew, pz_bind, ctN]
    cases hw : winB s c
    · refine ⟨a, fun j hj hp => ?_, ?_⟩
      · rcases Nat.lt_or_ge j c with g | g
        · exact ha j g hp
        · obtain rfl : j = c := by omega
          rw [hw] at hp; cases hp
      · rw [if_pos b_f, X0_tellWindows_J28, nI_1]; rfl
    · refine ⟨upd a (ctN (winB s) c) (nI c), fun j hj hp => ?_, ?_⟩
      · rcases Nat.lt_or_ge j c with g | g
        · have := ctN_in g hp
          rw [pk_un (by omega)]
          exact ha j g hp
        · obtain rfl : j = c := by omega
          exact pk_us
      · rw [if_neg b_t, pz_ck _ (by omega) (by omega), pz_cl (by omega), X0_tellWindows_J28, nI_1, nI_1]; rfl
  · try simp only
    rw [X0_tellWindows_L4]
    generalize X0_tellWindows_L4 fu (nI (s 0)) (nI (s 1)) n = rec
    rw [if_pos (by decide +kernel)]
    exact ⟨_, rfl, rfl, ha⟩
theorem x0_tells {shown : Nat → Int64} {soW shapes readAt meant readSo : Nat → Int32} {d k : Nat} {p : Nat → Bool} (hf : 5000 ≤ fu) (I : Iv s) (S : HR s shapes) (D : DR s readAt meant readSo) (hT : ∀ k, k < s 4 → shown k = lN (SHK s k) ∧ soW k = bI (SOK s k)) (_hd : d < 2 ^ 60) (hp : ∀ c, c < 60 → d.testBit c = p c) (hk : k < s 4) : f_X0_tells fu shown soW (nI (s 5)) (nI (s 3)) shapes readAt readSo (nI k) (lN d) = some (bI (decide (rd s (DK (s (30 + s (336 + 3 * k + 1))) (s (336 + 3 * k)) p 12) = s (336 + 3 * k + 2)))) := by
  have i4 := I.2.2.2.2.1
  have i3 := I.2.2.2.1
  obtain ⟨hb, hm, hso⟩ := I.2.2.2.2.2.2.2.2.2.2 k hk
  obtain ⟨q1, q2, q3⟩ := D k hk
  obtain ⟨t1, t2⟩ := hT k hk
  have ha2 := boxB_xy I hb
  have ha := boxB_lt I hb
  have hsh := I.2.2.2.2.2.2.2.2.2.1 _ hm
  have hSl : SHK s k < 2 ^ 60 := mkN_lt _ 60
  rw [f_X0_tells, pz_rd _ _ (by omega) (by omega), t1, pz_andL]
  by_cases hz : SHK s k &&& d = 0
  · have e := sh_none hsh ha ha2.1 hp hz
    rw [if_pos (by rw [pz_L0, pz_c0, pz_cmp (lt60 (and60 hSl)) (by decide)]; exact hz), pz_rd _ _ (by omega) (by omega), t2, pz_zbb, pz_gd, e]
    rfl
  · have e := sh_rest (sh := s (30 + s (336 + 3 * k + 1))) ha ha2.1 hp
    have hr := rd_rng (s := s) (DK (s (30 + s (336 + 3 * k + 1))) (s (336 + 3 * k)) p 12)
    rw [if_neg (by rw [pz_L0, pz_c0, pz_cmp (lt60 (and60 hSl)) (by decide)]; exact hz), pz_rd _ _ (by omega) (by omega), t1, pz_rd _ _ (by omega) (by omega), q1, pz_negL, pz_xorL, pz_andL, x7_shapeIn hf (and60 hSl) (by omega), pz_bind, show shp (SHK s k &&& (d ^^^ 18446744073709551615)).testBit (s (336 + 3 * k)) = _ from e, x5_readAs hf I S DK_lt, pz_bind, pz_rd _ _ (by omega) (by omega), q3]
    by_cases g : rd s (DK (s (30 + s (336 + 3 * k + 1))) (s (336 + 3 * k)) p 12) = s (336 + 3 * k + 2)
    · rw [if_pos (by rw [g]), decide_eq_true g]; rfl
    · rw [if_neg (by rw [eI_eq (by omega) (by omega)]; exact g), decide_eq_false g]; rfl
theorem soAll_off {p : Nat → Bool} {k : Nat} : ∀ {n : Nat}, k ≤ n → soAll s p k = false → soAll s p n = false
  | 0, h, e => by rw [show k = 0 by omega] at e; exact e
  | n + 1, h, e => by
    rcases Nat.lt_or_ge k (n + 1) with q | q
    · rw [soAll, soAll_off (show k ≤ n by omega) e]; rfl
    · rw [show k = n + 1 by omega] at e; exact e
theorem x0_tellsAll {shown : Nat → Int64} {soW shapes readAt meant readSo : Nat → Int32} {d : Nat} {p : Nat → Bool} (hf : 5000 ≤ fu) (I : Iv s) (S : HR s shapes) (D : DR s readAt meant readSo) (hT : ∀ k, k < s 4 → shown k = lN (SHK s k) ∧ soW k = bI (SOK s k)) (hd : d < 2 ^ 60) (hp : ∀ c, c < 60 → d.testBit c = p c) : f_X0_tellsAll fu shown soW (nI (s 5)) (nI (s 3)) (nI (s 4)) shapes readAt readSo (lN d) = some (bI (soAll s p (s 4))) := by
  have i4 := I.2.2.2.2.1
  rw [f_X0_tellsAll]
  refine pz_upE (fun n k => X0_tellsAll_L3 fu shown soW (nI (s 5)) (nI (s 3)) (nI (s 4)) shapes readAt readSo (lN d) n (nI k)) (s 4) _ (fun k => soAll s p k = true) (fun n k hk hP => ?_) (fun n hP => ?_) fu 0 (by omega) (by omega) rfl
  · have e := x0_tells (fu := fu) (k := k) hf I S D hT hd hp hk
    try simp only
    rw [X0_tellsAll_L3]
    generalize X0_tellsAll_L3 fu shown soW (nI (s 5)) (nI (s 3)) (nI (s 4)) shapes readAt readSo (lN d) n = rec
    rw [if_neg (by rw [pz_le (by omega) (by omega)]; omega), e, pz_bind]
    by_cases g : rd s (DK (s (30 + s (336 + 3 * k + 1))) (s (336 + 3 * k)) p 12) = s (336 + 3 * k + 2)
    · right
      rw [decide_eq_true g, if_neg b_t, nI_1]
      refine ⟨?_, rfl⟩
      rw [soAll, hP, decide_eq_true g]; rfl
    · left
      have hoff : soAll s p (k + 1) = false := by rw [soAll, decide_eq_false g, Bool.and_false]
      rw [decide_eq_false g, if_pos b_f, soAll_off (show k + 1 ≤ s 4 from hk) hoff]; rfl
  · try simp only
    rw [X0_tellsAll_L3, if_pos (by rw [pz_le (by omega) (by omega)]; omega), hP]; rfl
theorem x0_look {shown : Nat → Int64} {soW shapes readAt meant readSo : Nat → Int32} {d1 d2 : Nat} {v1 m z l g : Int32} (hf : 5000 ≤ fu) (I : Iv s) (S : HR s shapes) (D : DR s readAt meant readSo) (hT : ∀ k, k < s 4 → shown k = lN (SHK s k) ∧ soW k = bI (SOK s k)) (h1 : d1 = 65535 ∨ d1 < 60) (h2 : d2 = 65535 ∨ d2 < 60) : f_X0_look fu m z l g shown soW (nI (s 5)) (nI (s 3)) (nI (s 4)) shapes readAt readSo v1 (eI d1) (eI d2) = some (tk s (d2P d1 d2) v1 (eI d1) (eI d2) (m, z, l, g)) := by
  have key : X0_look_J26 fu m z l g shown soW (nI (s 5)) (nI (s 3)) (nI (s 4)) shapes readAt readSo v1 (eI d1) (eI d2) (lN (btN d2)) (lN (btN d1)) = some (tk s (d2P d1 d2) v1 (eI d1) (eI d2) (m, z, l, g)) := by
    rw [X0_look_J26, pz_orL, x0_tellsAll hf I S D hT (Nat.or_lt_two_pow (btN_lt h1) (btN_lt h2)) (fun c hc => d2_bit hc), pz_bind, tk]
    cases soAll s (d2P d1 d2) (s 4)
    · rw [if_pos b_f, if_neg (by decide)]
    · rw [if_neg b_t, if_pos rfl]
      by_cases hm : m = 0
      · rw [if_pos hm, X0_look_J63]
        dsimp only
        rw [if_pos hm]
      · rw [if_neg hm, X0_look_J63]
        dsimp only
        rw [if_neg hm]
  have sh : ∀ d, d < 60 → ((1 : Int64) <<< ((nI d).toInt64 &&& 63)) = lN (btN d) := fun d hd => by
    rw [pz_L63, pz_63 (by omega), pz_L1, pz_shlL _ (by omega), btN, if_neg (by omega)]
  have two : ∀ x : Int64, x = lN (btN d1) → X0_look_J12 fu m z l g shown soW (nI (s 5)) (nI (s 3)) (nI (s 4)) shapes readAt readSo v1 (eI d1) (eI d2) x = some (tk s (d2P d1 d2) v1 (eI d1) (eI d2) (m, z, l, g)) := fun x hx => by
    rw [hx, X0_look_J12]
    rcases h2 with e | e
    · rw [if_pos (by rw [e]; rfl), ← key]
      rw [e]
      rfl
    · rw [if_neg (by rw [eI_of (by omega), pz_c1, pz_eqm (by omega) (by decide) (by decide)]; exact id), ← key]
      rw [eI_of (n := d2) (by omega), sh d2 e]
  rw [f_X0_look]
  rcases h1 with e | e
  · rw [if_pos (by rw [e]; rfl)]
    exact two _ (by rw [e]; rfl)
  · rw [if_neg (by rw [eI_of (by omega), pz_c1, pz_eqm (by omega) (by decide) (by decide)]; exact id)]
    exact two _ (by rw [eI_of (n := d1) (by omega)]; exact sh d1 e)
end
