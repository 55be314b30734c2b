/-- an entry of own's constants is field k of class ci -/
def mm_fld (own : String) (ix ci k : Nat) : Prop := ∃ (C : String) (T : u_T) (N : Nat), vwCl[ci]? = some (C, T, N) ∧ k < N ∧ Cond.fieldLink own ix (T k).1 (T k).2.1 (T k).2.2.1 ∈ mm_big ∧ ∀ w ∈ u_ws C T N, w ∈ mm_big
/-- and it may be written, with values of type ty -/
def mm_fldP (own : String) (ix ci k : Nat) (ty : FieldType) (fin : Bool) : Prop := ∃ (C : String) (T : u_T) (N : Nat) (ty0 : Nat → FieldType), vwCl[ci]? = some (C, T, N) ∧ k < N ∧ Cond.fieldLink own ix (T k).1 (T k).2.1 (T k).2.2.1 ∈ mm_big ∧ (∀ w ∈ u_ws C T N, w ∈ mm_big) ∧
  (∀ k, k < N → parseFieldDescriptor (T k).2.2.1 = some (ty0 k)) ∧ (∀ a, a < N → ∀ b, b < N → a ≠ b → (T a).2.1 ≠ (T b).2.1) ∧ (T k).2.2.2 = fin ∧ parseFieldDescriptor (T k).2.2.1 = some ty
theorem mm_e_obj {ad : Nat → Nat} {ck : Nat → ClassId} {ci : Nat} {fs : List Value} : mm_e ad ck (.inr (ci, fs)) = .inr (ci, fs.map (mm_v ad)) := rfl
section MMH
variable {M : mm_M} {Fr : mm_T} {cs ss pc pc' : Nat} {l l' : List (Nat × Value)} {rest : List Value} {ws ws' : mm_W}
theorem mm_getf {ix ci kf a : Nat} {fs : List Value} {v : Value} (hf : mm_fld M.1.cls ix ci kf) (hd : decode M.2.1 pc = .ok (.getfield ix, 3)) (ha : ws[a]? = some (.inr (ci, fs))) (hv : fs[kf]? = some v) (hp : pc + 3 = pc') (kk : mm_Wp M Fr cs ss pc' l (v :: rest) ws) : mm_Wp M Fr cs ss pc l (.ref a :: rest) ws := by
  subst hp
  intro p la e s m args below meth c D ad ck A H locs ls Q hF hFr hP hD hS hl
  obtain ⟨C, T, N, h1, h2, h3, h4⟩ := hf
  exact va_get (D := D) (ci := ci) (v := mm_v ad v) (C := C) (T := T) (N := N) hF.1 hF.2.1 hF.2.2.2.2.1 h4 hF.2.2.2.1 hF.2.2.2.2.2.2.2.1 hP a (mm_w_at ha) h1 kf h2 (hF.2.2.2.2.1 _ h3) (fun _ h => h) (by simp [hv]) hd (kk.use hF hFr hP hD hS hl)
theorem mm_putf {ix ci kf a : Nat} {fs : List Value} {v : Value} {ty : FieldType} (hf : mm_fldP M.1.cls ix ci kf ty false) (hd : decode M.2.1 pc = .ok (.putfield ix, 3)) (ha : ws[a]? = some (.inr (ci, fs))) (hl2 : kf < fs.length) (hn : ∀ ad, narrow ty (mm_v ad v) = mm_v ad v) (hfit : ∀ ad, fits ty (mm_v ad v) = true) (hw : ws.set a (.inr (ci, fs.set kf v)) = ws') (hp : pc + 3 = pc') (kk : mm_Wp M Fr cs ss pc' l rest ws') : mm_Wp M Fr cs ss pc l (v :: .ref a :: rest) ws := by
  subst hp; subst hw
  intro p la e s m args below meth c D ad ck A H locs ls Q hF hFr hP hD hS hl
  obtain ⟨C, T, N, ty0, h1, h2, h3, h4, h5, h6, h7, h8⟩ := hf
  refine va_put (D := D) (ci := ci) (v := mm_v ad v) (ty := ty) (C := C) (T := T) (N := N) hF.1 hF.2.1 hF.2.2.2.2.1 h4 ty0 h5 h6 hF.2.2.2.1 hF.2.2.2.2.2.2.2.1 hP hD hS a (mm_w_at ha) h1 kf h2 (hF.2.2.2.2.1 _ h3) (fun _ h => h) h7 h8 (hn ad) (hfit ad) (by simpa using hl2) hd (fun H1 locs1 hP1 hD1 hS1 => ?_)
  have e1 : (mm_w ad ck ws).set a (ad a, .inr (ci, (fs.map (mm_v ad)).set kf (mm_v ad v))) = mm_w ad ck (ws.set a (.inr (ci, fs.set kf v))) := by
    rw [← mm_w_set, mm_e_obj, List.map_set]
  exact kk.use hF hFr (e1 ▸ hP1) (e1 ▸ hD1) hS1 hl
theorem mm_iald {a n : Nat} {f : Nat → Int32} {i : Int32} {x : Int32} (hd : decode M.2.1 pc = .ok (.iaload, 1)) (ha : ws[a]? = some (.inl (0, n, .inl f))) (hin : vp_in i n) (hx : f i.toNatClampNeg = x) (hp : pc + 1 = pc') (kk : mm_Wp M Fr cs ss pc' l (.int x :: rest) ws) : mm_Wp M Fr cs ss pc l (.int i :: .ref a :: rest) ws := by
  subst hp; subst hx
  intro p la e s m args below meth c D ad ck A H locs ls Q hF hFr hP hD hS hl
  exact va_iald hF.1 hF.2.1 hF.2.2.2.2.2.2.2.1 hP a 0 (mm_w_at ha) rfl hin hd (kk.use hF hFr hP hD hS hl)
theorem mm_lald {a n : Nat} {f : Nat → Int64} {i : Int32} {x : Int64} (hd : decode M.2.1 pc = .ok (.laload, 1)) (ha : ws[a]? = some (.inl (1, n, .inr (.inl f)))) (hin : vp_in i n) (hx : f i.toNatClampNeg = x) (hp : pc + 1 = pc') (kk : mm_Wp M Fr cs ss pc' l (.long x :: rest) ws) : mm_Wp M Fr cs ss pc l (.int i :: .ref a :: rest) ws := by
  subst hp; subst hx
  intro p la e s m args below meth c D ad ck A H locs ls Q hF hFr hP hD hS hl
  exact va_lald hF.1 hF.2.1 hF.2.2.2.2.2.2.2.1 hP a 1 (mm_w_at ha) rfl hin hd (kk.use hF hFr hP hD hS hl)
theorem mm_zald {a n : Nat} {f : Nat → Int32} {i : Int32} {x : Int32} (hd : decode M.2.1 pc = .ok (.baload, 1)) (ha : ws[a]? = some (.inl (2, n, .inl f))) (hin : vp_in i n) (hx : f i.toNatClampNeg = x) (hp : pc + 1 = pc') (kk : mm_Wp M Fr cs ss pc' l (.int x :: rest) ws) : mm_Wp M Fr cs ss pc l (.int i :: .ref a :: rest) ws := by
  subst hp; subst hx
  intro p la e s m args below meth c D ad ck A H locs ls Q hF hFr hP hD hS hl
  exact va_zald hF.1 hF.2.1 hF.2.2.2.2.2.2.2.1 hP a 2 (mm_w_at ha) rfl hin hd (kk.use hF hFr hP hD hS hl)
theorem mm_aald {a n b : Nat} {f : Nat → Option Nat} {i : Int32} (hd : decode M.2.1 pc = .ok (.aaload, 1)) (ha : ws[a]? = some (.inl (3, n, .inr (.inr (.inr (.inr f)))))) (hin : vp_in i n) (hb : f i.toNatClampNeg = some b) (hp : pc + 1 = pc') (kk : mm_Wp M Fr cs ss pc' l (.ref b :: rest) ws) : mm_Wp M Fr cs ss pc l (.int i :: .ref a :: rest) ws := by
  subst hp
  intro p la e s m args below meth c D ad ck A H locs ls Q hF hFr hP hD hS hl
  have hlt : i.toNatClampNeg < n := Nat.not_le.mp fun q => hin (Or.inr q)
  have hK := hF.2.2.2.2.2.2.2.1
  exact W.aald (v := .ref (ad b)) (ty := .array .int) hF.1 hF.2.1 (hP a _ (mm_w_at ha)) ((hK.2 3 (ck 3, .array .int) rfl).1 n (fun j => va_rf ((f j).map ad))) rfl (fun q => by cases q) (by show ¬ (i < 0 ∨ (arrV _ _ _).slots.size ≤ _); rw [arrV_size]; exact hin) (by show (arrV (ck 3) n (fun j => va_rf ((f j).map ad))).slots[i.toNatClampNeg]? = _; rw [arrV_read _ _ hlt, hb]; rfl) rfl rfl hd (kk.use hF hFr hP hD hS hl)
theorem mm_iast {a n k : Nat} {f : Nat → Int32} {i x : Int32} (hd : decode M.2.1 pc = .ok (.iastore, 1)) (ha : ws[a]? = some (.inl (0, n, .inl f))) (hin : vp_in i n) (hk : i.toNatClampNeg = k) (hw : ws.set a (.inl (0, n, .inl (upd f k x))) = ws') (hp : pc + 1 = pc') (kk : mm_Wp M Fr cs ss pc' l rest ws') : mm_Wp M Fr cs ss pc l (.int x :: .int i :: .ref a :: rest) ws := by
  subst hp; subst hw; subst hk
  intro p la e s m args below meth c D ad ck A H locs ls Q hF hFr hP hD hS hl
  refine va_iast hF.1 hF.2.1 hF.2.2.2.2.2.2.2.1 hP hD hS a 0 (mm_w_at ha) rfl hin hd (fun H1 locs1 hP1 hD1 hS1 => ?_)
  have e1 : (mm_w ad ck ws).set a (ad a, .inl (ck 0, n, .inl (upd f i.toNatClampNeg x))) = mm_w ad ck (ws.set a (.inl (0, n, .inl (upd f i.toNatClampNeg x)))) := by
    rw [← mm_w_set]; rfl
  exact kk.use hF hFr (e1 ▸ hP1) (e1 ▸ hD1) hS1 hl
theorem mm_last {a n k : Nat} {f : Nat → Int64} {i : Int32} {x : Int64} (hd : decode M.2.1 pc = .ok (.lastore, 1)) (ha : ws[a]? = some (.inl (1, n, .inr (.inl f)))) (hin : vp_in i n) (hk : i.toNatClampNeg = k) (hw : ws.set a (.inl (1, n, .inr (.inl (vp_updL f k x)))) = ws') (hp : pc + 1 = pc') (kk : mm_Wp M Fr cs ss pc' l rest ws') : mm_Wp M Fr cs ss pc l (.long x :: .int i :: .ref a :: rest) ws := by
  subst hp; subst hw; subst hk
  intro p la e s m args below meth c D ad ck A H locs ls Q hF hFr hP hD hS hl
  refine va_last hF.1 hF.2.1 hF.2.2.2.2.2.2.2.1 hP hD hS a 1 (mm_w_at ha) rfl hin hd (fun H1 locs1 hP1 hD1 hS1 => ?_)
  have e1 : (mm_w ad ck ws).set a (ad a, .inl (ck 1, n, .inr (.inl (vp_updL f i.toNatClampNeg x)))) = mm_w ad ck (ws.set a (.inl (1, n, .inr (.inl (vp_updL f i.toNatClampNeg x))))) := by
    rw [← mm_w_set]; rfl
  exact kk.use hF hFr (e1 ▸ hP1) (e1 ▸ hD1) hS1 hl
theorem mm_zast {a n k : Nat} {f : Nat → Int32} {i x : Int32} (hd : decode M.2.1 pc = .ok (.bastore, 1)) (ha : ws[a]? = some (.inl (2, n, .inl f))) (hin : vp_in i n) (hk : i.toNatClampNeg = k) (hw : ws.set a (.inl (2, n, .inl (upd f k (vp_nar .boolean x)))) = ws') (hp : pc + 1 = pc') (kk : mm_Wp M Fr cs ss pc' l rest ws') : mm_Wp M Fr cs ss pc l (.int x :: .int i :: .ref a :: rest) ws := by
  subst hp; subst hw; subst hk
  intro p la e s m args below meth c D ad ck A H locs ls Q hF hFr hP hD hS hl
  refine va_zast hF.1 hF.2.1 hF.2.2.2.2.2.2.2.1 hP hD hS a 2 (mm_w_at ha) rfl hin hd (fun H1 locs1 hP1 hD1 hS1 => ?_)
  have e1 : (mm_w ad ck ws).set a (ad a, .inl (ck 2, n, .inl (upd f i.toNatClampNeg (vp_nar .boolean x)))) = mm_w ad ck (ws.set a (.inl (2, n, .inl (upd f i.toNatClampNeg (vp_nar .boolean x))))) := by
    rw [← mm_w_set]; rfl
  exact kk.use hF hFr (e1 ▸ hP1) (e1 ▸ hD1) hS1 hl
end MMH
section MME
variable {M : mm_M} {Post : Option Value → mm_W → Prop} {pc : Nat} {l : List (Nat × Value)} {ws : mm_W}
theorem mm_iret {x : Int32} (hr : M.2.2.2.1 = some .int) (hd : decode M.2.1 pc = .ok (.ireturn, 1)) (h : Post (some (.int x)) ws) : mm_Wp M (mm_R Post) 0 0 pc l [.int x] ws := by
  intro p la e s m args below meth c D ad ck A H locs ls Q hF hFr hP hD hS hl
  have hq : Q = MQ below (mm_Q Post D ad ck A) args s 0 0 A := hFr
  rw [hq]
  exact W.iret hF.1 hF.2.1 (hF.2.2.2.2.2.1.trans hr) (fun t ht hW => ⟨⟨some (.int x), ws, rfl, h, by rw [ht]; exact hP⟩, hS.F ht⟩) hS.2.2 hd hF.2.2.2.2.2.2.1
theorem mm_zret {x : Int32} (hr : M.2.2.2.1 = some .boolean) (hz : x = 0 ∨ x = 1) (hd : decode M.2.1 pc = .ok (.ireturn, 1)) (h : Post (some (.int x)) ws) : mm_Wp M (mm_R Post) 0 0 pc l [.int x] ws := by
  intro p la e s m args below meth c D ad ck A H locs ls Q hF hFr hP hD hS hl
  have hq : Q = MQ below (mm_Q Post D ad ck A) args s 0 0 A := hFr
  rw [hq]
  exact W.zret hF.1 hF.2.1 (hF.2.2.2.2.2.1.trans hr) (by rcases hz with rfl | rfl <;> decide) (fun t ht hW => ⟨⟨some (.int x), ws, rfl, h, by rw [ht]; exact hP⟩, hS.F ht⟩) hS.2.2 hd hF.2.2.2.2.2.2.1
theorem mm_lret {x : Int64} (hr : M.2.2.2.1 = some .long) (hd : decode M.2.1 pc = .ok (.lreturn, 1)) (h : Post (some (.long x)) ws) : mm_Wp M (mm_R Post) 0 0 pc l [.long x] ws := by
  intro p la e s m args below meth c D ad ck A H locs ls Q hF hFr hP hD hS hl
  have hq : Q = MQ below (mm_Q Post D ad ck A) args s 0 0 A := hFr
  rw [hq]
  exact W.lret hF.1 hF.2.1 (hF.2.2.2.2.2.1.trans hr) (fun t ht hW => ⟨⟨some (.long x), ws, rfl, h, by rw [ht]; exact hP⟩, hS.F ht⟩) hS.2.2 hd hF.2.2.2.2.2.2.1
theorem mm_vret (hr : M.2.2.2.1 = none) (hd : decode M.2.1 pc = .ok (.return_, 1)) (h : Post none ws) : mm_Wp M (mm_R Post) 0 0 pc l [] ws := by
  intro p la e s m args below meth c D ad ck A H locs ls Q hF hFr hP hD hS hl
  have hq : Q = MQ below (mm_Q Post D ad ck A) args s 0 0 A := hFr
  rw [hq]
  exact W.vret hF.1 hF.2.1 (hF.2.2.2.2.2.1.trans hr) (fun t ht hW => ⟨⟨none, ws, rfl, h, by rw [ht]; exact hP⟩, hS.F ht⟩) hS.2.2 hd hF.2.2.2.2.2.2.1
theorem mm_aret {x : Nat} {C : String} (hr : M.2.2.2.1 = some (.object C)) (hd : decode M.2.1 pc = .ok (.areturn, 1)) (h : Post (some (.ref x)) ws) : mm_Wp M (mm_R Post) 0 0 pc l [.ref x] ws := by
  intro p la e s m args below meth c D ad ck A H locs ls Q hF hFr hP hD hS hl
  have hq : Q = MQ below (mm_Q Post D ad ck A) args s 0 0 A := hFr
  rw [hq]
  exact W.aret (v := .ref (ad x)) hF.1 hF.2.1 (hF.2.2.2.2.2.1.trans hr) (Or.inl ⟨C, rfl⟩) (Or.inr ⟨_, rfl⟩) (fun t ht hW => ⟨⟨some (.ref x), ws, rfl, h, by rw [ht]; exact hP⟩, hS.F ht⟩) hS.2.2 hd hF.2.2.2.2.2.2.1
end MME
/-! CALLS: the callee's world is cut out by places; what comes back is put at the same places -/
def mm_rn (is : List Nat) (k : Nat) : Nat := if k < 1000 then is.getD k 0 else k
def mm_re (r : Nat → Nat) : mm_E → mm_E
  | .inl x => .inl (x.1, mm_a r x.2)
  | .inr x => .inr (x.1, x.2.map (mm_v r))
theorem mm_v_v {ad r : Nat → Nat} (v : Value) : mm_v ad (mm_v r v) = mm_v (fun k => ad (r k)) v := by cases v <;> rfl
theorem mm_a_a {ad r : Nat → Nat} (x : vp_A) : mm_a ad (mm_a r x) = mm_a (fun k => ad (r k)) x := by
  obtain ⟨n, x⟩ := x
  rcases x with x | x | x | x | x <;> simp [mm_a, Option.map_map, Function.comp_def]
theorem mm_e_re {ad r : Nat → Nat} {ck : Nat → ClassId} (e : mm_E) : mm_e ad ck (mm_re r e) = mm_e (fun k => ad (r k)) ck e := by
  rcases e with x | x
  · simp [mm_e, mm_re, mm_a_a]
  · simp [mm_e, mm_re, mm_v_v]
def mm_paste : mm_W → List Nat → mm_W → mm_W
  | ws, i :: is, e :: es => mm_paste (ws.set i e) is es
  | ws, _, _ => ws
theorem mm_paste_len : ∀ (is : List Nat) (es ws : mm_W), (mm_paste ws is es).length = ws.length
  | [], es, ws => by cases es <;> rfl
  | i :: is, [], ws => rfl
  | i :: is, e :: es, ws => by rw [mm_paste, mm_paste_len is es]; simp
theorem mm_paste_at : ∀ (is : List Nat) (es ws : mm_W) (k : Nat) (e : mm_E), va_nd is = true → es.length = is.length → (mm_paste ws is es)[k]? = some e → (∃ j : Nat, is[j]? = some k ∧ es[j]? = some e) ∨ (k ∉ is ∧ ws[k]? = some e)
  | [], es, ws, k, e, _, _, h => by
    cases es with
    | nil => exact Or.inr ⟨by simp, h⟩
    | cons a b => exact Or.inr ⟨by simp, h⟩
  | i :: is, [], ws, k, e, _, hl, h => by simp at hl
  | i :: is, x :: es, ws, k, e, hn, hl, h => by
    simp only [va_nd, Bool.and_eq_true, decide_eq_true_eq] at hn
    rw [mm_paste] at h
    rcases mm_paste_at is es (ws.set i x) k e hn.2 (by simpa using hl) h with ⟨j, h1, h2⟩ | ⟨h1, h2⟩
    · exact Or.inl ⟨j + 1, by simpa using h1, by simpa using h2⟩
    · by_cases hk : k = i
      · subst hk
        have hlt : k < ws.length := by
          have := (List.getElem?_eq_some_iff.mp h2).1
          simpa using this
        rw [List.getElem?_set_self hlt] at h2
        cases h2
        exact Or.inl ⟨0, rfl, rfl⟩
      · rw [List.getElem?_set_ne (Ne.symm hk)] at h2
        exact Or.inr ⟨by simp [hk, h1], h2⟩
theorem mm_D_len {A : Nat → Prop} {ad : Nat → Nat} {ck : Nat → ClassId} {ws ws2 : mm_W} (hl : ws2.length = ws.length) (h : va_D A (mm_w ad ck ws)) : va_D A (mm_w ad ck ws2) := by
  have key : ∀ (k : Nat) (q : Nat × va_E), (mm_w ad ck ws2)[k]? = some q → ∃ q0, (mm_w ad ck ws)[k]? = some q0 ∧ q0.1 = q.1 := by
    intro k q hk
    obtain ⟨e, he, rfl⟩ := mm_w_of hk
    have hlt : k < ws.length := by rw [← hl]; exact (List.getElem?_eq_some_iff.mp he).1
    exact ⟨_, mm_w_at (List.getElem?_eq_getElem hlt), rfl⟩
  refine ⟨fun i j p q hi hj hpq => ?_, fun k q hk => ?_⟩
  · obtain ⟨p0, h1, h2⟩ := key i p hi
    obtain ⟨q0, h3, h4⟩ := key j q hj
    exact h.1 i j p0 q0 h1 h3 (h2.trans (hpq.trans h4.symm))
  · obtain ⟨q0, h1, h2⟩ := key k q hk
    rw [← h2]; exact h.2 k q0 h1
/-- the callee's world out of the caller's -/
theorem mm_cut {ad : Nat → Nat} {ck : Nat → ClassId} {ws wc : mm_W} {is : List Nat} (hc : is.map (fun i => ws[i]?) = wc.map (fun e => some (mm_re (mm_rn is) e))) (hsz : is.length < 1000) : is.map (fun i => (mm_w ad ck ws)[i]?) = (mm_w (fun k => ad (mm_rn is k)) ck wc).map some := by
  have hlen : is.length = wc.length := by have := congrArg List.length hc; simpa using this
  apply List.ext_getElem?
  intro j
  have hj : (is.map (fun i => ws[i]?))[j]? = (wc.map (fun e => some (mm_re (mm_rn is) e)))[j]? := by rw [hc]
  simp only [List.getElem?_map] at hj ⊢
  cases h1 : is[j]? with
  | none =>
    have hn : wc[j]? = none := by
      rw [List.getElem?_eq_none_iff] at h1 ⊢
      omega
    simp [mm_w, hn, List.getElem?_mapIdx]
  | some i =>
    have hlt : j < wc.length := by rw [← hlen]; exact (List.getElem?_eq_some_iff.mp h1).1
    have hw : wc[j]? = some wc[j] := List.getElem?_eq_getElem hlt
    rw [h1, hw] at hj
    simp only [Option.map_some, Option.some.injEq] at hj
    rw [Option.map_some, mm_w_at hj, mm_w_at hw, Option.map_some, mm_e_re]
    have e1 : mm_rn is j = i := by
      unfold mm_rn
      rw [if_pos (by omega), List.getD_eq_getElem?_getD, h1]
      rfl
    rw [e1]
theorem mm_join {D : va_G} {A : Nat → Prop} {ad : Nat → Nat} {ck : Nat → ClassId} {ws wc w1 : mm_W} {is : List Nat} {H H1 : Heap} (hP : va_P D vwCl (mm_w ad ck ws) H) (hD : va_D A (mm_w ad ck ws)) (hc : is.map (fun i => ws[i]?) = wc.map (fun e => some (mm_re (mm_rn is) e))) (hn : va_nd is = true) (hsz : is.length < 1000) (hlen : w1.length = wc.length)
    (hk : ∀ q : Nat, q < H.size → ¬ va_A (mm_w (fun k => ad (mm_rn is k)) ck wc) H.size q → H1[q]? = H[q]?) (hP1 : va_P D vwCl (mm_w (fun k => ad (mm_rn is k)) ck w1) H1) : va_P D vwCl (mm_w ad ck (mm_paste ws is (w1.map (mm_re (mm_rn is))))) H1 := by
  have hcut := mm_cut (ad := ad) (ck := ck) hc hsz
  have hlen2 : is.length = wc.length := by have := congrArg List.length hc; simpa using this
  intro k q hq
  obtain ⟨e, he, rfl⟩ := mm_w_of hq
  rcases mm_paste_at is _ ws k e hn (by simp; omega) he with ⟨j, h1, h2⟩ | ⟨h1, h2⟩
  · rw [List.getElem?_map] at h2
    cases hw : w1[j]? with
    | none => rw [hw] at h2; cases h2
    | some e1 =>
      rw [hw] at h2
      simp only [Option.map_some, Option.some.injEq] at h2
      have e2 : mm_rn is j = k := by
        unfold mm_rn
        have : j < is.length := (List.getElem?_eq_some_iff.mp h1).1
        rw [if_pos (by omega), List.getD_eq_getElem?_getD, h1]
        rfl
      have h3 := hP1 j _ (mm_w_at hw)
      rw [← h2, mm_e_re]
      rw [e2] at h3
      exact h3
  · have hl := (hP k _ (mm_w_at h2)).lt
    refine (hP k _ (mm_w_at h2)).kept (hk _ hl ?_)
    rintro (⟨j, e3, h3⟩ | h3)
    · have h4 : (is.map (fun i => (mm_w ad ck ws)[i]?))[j]? = some (some (ad k, e3)) := by rw [hcut, List.getElem?_map, h3]; rfl
      rw [List.getElem?_map] at h4
      cases h5 : is[j]? with
      | none => rw [h5] at h4; cases h4
      | some i =>
        rw [h5] at h4
        have h6 : (mm_w ad ck ws)[i]? = some (ad k, e3) := Option.some.inj h4
        have h7 := hD.1 k i _ _ (mm_w_at h2) h6 rfl
        subst h7
        exact h1 (List.mem_of_getElem? h5)
    · exact absurd hl (Nat.not_lt.mpr h3)
theorem mm_af {A : Nat → Prop} {ad : Nat → Nat} {ck : Nat → ClassId} {ws wc : mm_W} {is : List Nat} {s : State} {H : Heap} {locs : List Loc} (hD : va_D A (mm_w ad ck ws)) (hS : va_S A s.heap H locs) (hA : ∀ q, s.heap.size ≤ q → A q) (hc : is.map (fun i => ws[i]?) = wc.map (fun e => some (mm_re (mm_rn is) e))) (hsz : is.length < 1000) : ∀ q, va_A (mm_w (fun k => ad (mm_rn is k)) ck wc) H.size q → A q := va_free hD hS hA is (mm_cut hc hsz)
