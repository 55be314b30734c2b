/-! NEW CELLS: they go to the end of the world; the addresses of the places below stay -/
def mm_vb (n : Nat) : Value → Bool
  | .ref k => decide (k < n) || decide (1000 ≤ k)
  | _ => true
def mm_eb (n : Nat) : mm_E → Bool
  | .inl x => match x.2.2 with
    | .inr (.inr (.inr (.inr f))) => (List.range x.2.1).all (fun j => match f j with | none => true | some k => decide (k < n) || decide (1000 ≤ k))
    | _ => true
  | .inr x => x.2.all (mm_vb n)
def mm_wb (n : Nat) (ws : mm_W) : Bool := ws.all (mm_eb n)
/-- ad2 is ad at the places below n and at the constants -/
def mm_ag (n : Nat) (ad ad2 : Nat → Nat) : Prop := ∀ i, (i < n ∨ 1000 ≤ i) → ad2 i = ad i
theorem mm_v_ag {n : Nat} {ad ad2 : Nat → Nat} (h : mm_ag n ad ad2) {v : Value} (hv : mm_vb n v = true) : mm_v ad2 v = mm_v ad v := by
  cases v with
  | ref k =>
    simp only [mm_vb, Bool.or_eq_true, decide_eq_true_eq] at hv
    simp only [mm_v, h k hv]
  | _ => rfl
theorem mm_vs_ag {n : Nat} {ad ad2 : Nat → Nat} (h : mm_ag n ad ad2) {l : List Value} (hv : l.all (mm_vb n) = true) : l.map (mm_v ad2) = l.map (mm_v ad) := by
  apply List.map_congr_left
  intro v hm
  exact mm_v_ag h (List.all_eq_true.mp hv v hm)
theorem arrV_cong {c : ClassId} {N : Nat} {f g : Nat → Value} (h : ∀ j, j < N → f j = g j) : arrV c N f = arrV c N g := by
  unfold arrV
  have e : (fun j : Fin N => f j.val) = (fun j : Fin N => g j.val) := funext fun j => h j.val j.isLt
  rw [e]
theorem mm_at_ag {D : va_G} {n : Nat} {ad ad2 : Nat → Nat} {ck : Nat → ClassId} (h : mm_ag n ad ad2) {a : Nat} {e : mm_E} (he : mm_eb n e = true) {H : Heap} (hP : va_at D vwCl (a, mm_e ad ck e) H) : va_at D vwCl (a, mm_e ad2 ck e) H := by
  rcases e with x | x
  · obtain ⟨t, m, f⟩ := x
    rcases f with f | f | f | f | f
    · exact hP
    · exact hP
    · exact hP
    · exact hP
    · have h1 : H[a]? = some (vp_cell (ck t) (m, .inr (.inr (.inr (.inr (fun j => (f j).map ad)))))) := hP
      show H[a]? = some (vp_cell (ck t) (m, .inr (.inr (.inr (.inr (fun j => (f j).map ad2))))))
      rw [h1, vp_cell_q, vp_cell_q]
      congr 1
      apply arrV_cong
      intro j hj
      have h2 := List.all_eq_true.mp he j (List.mem_range.mpr hj)
      show va_rf ((f j).map ad) = va_rf ((f j).map ad2)
      cases hf : f j with
      | none => rfl
      | some k =>
        simp only [hf, Bool.or_eq_true, decide_eq_true_eq] at h2
        simp only [Option.map_some, h k h2]
  · have e1 : x.2.map (mm_v ad2) = x.2.map (mm_v ad) := mm_vs_ag h he
    show va_at D vwCl (a, .inr (x.1, x.2.map (mm_v ad2))) H
    rw [e1]
    exact hP
theorem mm_P_ag {D : va_G} {n : Nat} {ad ad2 : Nat → Nat} {ck : Nat → ClassId} {ws : mm_W} {H : Heap} (h : mm_ag n ad ad2) (hl : ws.length ≤ n) (hb : mm_wb n ws = true) (hP : va_P D vwCl (mm_w ad ck ws) H) : va_P D vwCl (mm_w ad2 ck ws) H := by
  intro k q hq
  obtain ⟨e, he, rfl⟩ := mm_w_of hq
  have hk : k < ws.length := (List.getElem?_eq_some_iff.mp he).1
  have h1 := mm_at_ag h (List.all_eq_true.mp hb e (List.mem_of_getElem? he)) (hP k _ (mm_w_at he))
  rw [h k (Or.inl (by omega))]
  exact h1
theorem va_D_fst {A : Nat → Prop} {w1 w2 : va_W} (h : w2.map (fun q => q.1) = w1.map (fun q => q.1)) (hD : va_D A w1) : va_D A w2 := by
  have key : ∀ (k : Nat) (q : Nat × va_E), w2[k]? = some q → ∃ q0, w1[k]? = some q0 ∧ q0.1 = q.1 := by
    intro k q hk
    have h1 : (w2.map (fun q => q.1))[k]? = some q.1 := by rw [List.getElem?_map, hk]; rfl
    rw [h, List.getElem?_map] at h1
    cases h2 : w1[k]? with
    | none => rw [h2] at h1; cases h1
    | some q0 => rw [h2] at h1; exact ⟨q0, rfl, Option.some.inj h1⟩
  refine ⟨fun i j p q hi hj hpq => ?_, fun k q hk => ?_⟩
  · obtain ⟨p0, h1, h2⟩ := key i p hi
    obtain ⟨q0, h3, h4⟩ := key j q hj
    exact hD.1 i j p0 q0 h1 h3 (h2.trans (hpq.trans h4.symm))
  · obtain ⟨q0, h1, h2⟩ := key k q hk
    rw [← h2]; exact hD.2 k q0 h1
theorem mm_w_fst {ad : Nat → Nat} {ck : Nat → ClassId} {ws : mm_W} : (mm_w ad ck ws).map (fun q => q.1) = (List.range ws.length).map ad := by
  apply List.ext_getElem?
  intro i
  simp only [mm_w, List.getElem?_map, List.getElem?_mapIdx]
  by_cases h : i < ws.length
  · rw [List.getElem?_eq_getElem h, List.getElem?_range h]
    rfl
  · rw [List.getElem?_eq_none (by omega), List.getElem?_eq_none (by simp; omega)]
    rfl
theorem mm_D_ag {A : Nat → Prop} {n : Nat} {ad ad2 : Nat → Nat} {ck : Nat → ClassId} {ws : mm_W} (h : mm_ag n ad ad2) (hl : ws.length ≤ n) (hD : va_D A (mm_w ad ck ws)) : va_D A (mm_w ad2 ck ws) := by
  refine va_D_fst ?_ hD
  rw [mm_w_fst, mm_w_fst]
  apply List.map_congr_left
  intro i hi
  exact h i (Or.inl (by have := List.mem_range.mp hi; omega))
theorem mm_w_app {ad : Nat → Nat} {ck : Nat → ClassId} {ws : mm_W} {e : mm_E} : mm_w ad ck (ws ++ [e]) = mm_w ad ck ws ++ [(ad ws.length, mm_e ad ck e)] := by
  simp [mm_w, List.mapIdx_append]
theorem mm_N_ad {ad ad2 : Nat → Nat} {n : Nat} {A : Nat → Prop} {s : State} (h : mm_N ad A s) (ha : mm_ag n ad ad2) : mm_N ad2 A s := by
  obtain ⟨h1, h2, h3, h4, h5⟩ := h
  have e1 : (fun i => ad2 (1000 + i)) = (fun i => ad (1000 + i)) := funext fun i => ha _ (Or.inr (by omega))
  have e2 : (fun i => ad2 (2000 + i)) = (fun i => ad (2000 + i)) := funext fun i => ha _ (Or.inr (by omega))
  refine ⟨h1, by rw [e1, e2]; exact h2, fun i q hi => ?_, h4, h5⟩
  rw [ha _ (Or.inr (by omega))]
  exact h3 i q hi
/-- the frame's end doesn't look at places from n0 on -/
def mm_St (Fr : mm_T) (n0 : Nat) : Prop := ∀ (p : Program) (la : Launch) (e : Env) (s : State) (m : MethodId) (args : Array Value) (below : List Frame) (meth : Method) (D : va_G) (ad ad2 : Nat → Nat) (ck : Nat → ClassId) (A : Nat → Prop) (Q : State → Prop), mm_ag n0 ad ad2 → Fr p la e s m args below meth D ad ck A Q → Fr p la e s m args below meth D ad2 ck A Q
theorem mm_ag_le {n k : Nat} {ad ad2 : Nat → Nat} (h : mm_ag n ad ad2) (hk : k ≤ n) : mm_ag k ad ad2 := fun i hi => h i (by omega)
/-- all that a step to a world with one more cell asks of what is there -/
def mm_fr (ws : mm_W) (l : List (Nat × Value)) (rest : List Value) (k : Nat) : Prop := ws.length = k ∧ k < 900 ∧ mm_wb k ws = true ∧ l.all (fun q => mm_vb k q.2) = true ∧ rest.all (mm_vb k) = true
theorem mm_l_ag {n : Nat} {ad ad2 : Nat → Nat} (h : mm_ag n ad ad2) {l : List (Nat × Value)} (hv : l.all (fun q => mm_vb n q.2) = true) : mm_l ad2 l = mm_l ad l := by
  apply List.map_congr_left
  intro q hm
  rw [mm_v_ag h (List.all_eq_true.mp hv q hm)]
theorem mm_grow {M : mm_M} {Fr : mm_T} {cs ss pc n0 k : Nat} {l : List (Nat × Value)} {rest : List Value} {ws : mm_W} {e : mm_E} (hSt : mm_St Fr n0) (hn0 : n0 ≤ k) (hfr : mm_fr ws l rest k) (he : mm_eb k e = true) (kk : mm_Wp M Fr cs ss pc l (.ref k :: rest) (ws ++ [e]))
    {p : Program} {la : Launch} {en : Env} {s : State} {m : MethodId} {args : Array Value} {below : List Frame} {meth : Method} {c : Code} {D : va_G} {ad : Nat → Nat} {ck : Nat → ClassId} {A : Nat → Prop} {H : Heap} {locs : List Loc} {ls : Array Slot} {Q : State → Prop} {q : Nat}
    (hF : mm_F M p s m args meth c D ad ck A) (hFr : Fr p la en s m args below meth D ad ck A Q) (hP : va_P D vwCl (mm_w ad ck ws ++ [(q, mm_e ad ck e)]) H) (hD : va_D A (mm_w ad ck ws ++ [(q, mm_e ad ck e)])) (hS : va_S A s.heap H locs) (hl : lv_has ls M.2.2.1 (mm_l ad l)) :
    W p la en M.2.2.2.2 s m args below meth c H locs cs ss Q (F0 m pc ls (.ref q :: rest.map (mm_v ad))) := by
  obtain ⟨h1, h2, h3, h4, h5⟩ := hfr
  have hag : mm_ag k ad (fun i => if i = k then q else ad i) := by
    intro i hi
    show (if i = k then q else ad i) = ad i
    rw [if_neg (by omega)]
  have hF2 : mm_F M p s m args meth c D (fun i => if i = k then q else ad i) ck A := by
    obtain ⟨a1, a2, a3, a4, a5, a6, a7, a8, a9, a10⟩ := hF
    exact ⟨a1, a2, a3, a4, a5, a6, a7, a8, mm_N_ad a9 hag, a10⟩
  have hP1 : va_P D vwCl (mm_w ad ck ws) H := fun i x hx => hP i x (by rw [List.getElem?_append_left (by exact (List.getElem?_eq_some_iff.mp hx).1)]; exact hx)
  have hPe : va_at D vwCl (q, mm_e ad ck e) H := hP ws.length _ (by rw [List.getElem?_append_right (by rw [mm_w_len]; exact Nat.le_refl _), mm_w_len, Nat.sub_self]; rfl)
  have hP2 : va_P D vwCl (mm_w (fun i => if i = k then q else ad i) ck (ws ++ [e])) H := by
    rw [mm_w_app, h1]
    refine (mm_P_ag hag (by omega) h3 hP1).app ?_
    intro i x hx
    have hz : i < 1 := (List.getElem?_eq_some_iff.mp hx).1
    rw [show i = 0 by omega] at hx
    cases hx
    have h9 := mm_at_ag (D := D) hag he hPe
    show va_at D vwCl ((if k = k then q else ad k), _) H
    rw [if_pos rfl]
    exact h9
  have hD2 : va_D A (mm_w (fun i => if i = k then q else ad i) ck (ws ++ [e])) := by
    refine va_D_fst ?_ hD
    rw [mm_w_fst]
    rw [List.map_append, mm_w_fst]
    simp only [List.length_append, List.length_singleton, List.range_succ, List.map_append, List.map_cons, List.map_nil, h1]
    congr 1
    · apply List.map_congr_left
      intro i hi
      exact hag i (Or.inl (List.mem_range.mp hi))
  have h9 := kk.use hF2 (hSt _ _ _ _ _ _ _ _ _ _ _ _ _ _ (mm_ag_le hag hn0) hFr) hP2 hD2 hS (by rw [mm_l_ag hag h4]; exact hl)
  have e2 : (Value.ref k :: rest).map (mm_v (fun i => if i = k then q else ad i)) = .ref q :: rest.map (mm_v ad) := by
    rw [List.map_cons, mm_vs_ag hag h5]
    show Value.ref (if k = k then q else ad k) :: _ = _
    rw [if_pos rfl]
  rw [e2] at h9
  exact h9
section MMA
variable {M M' : mm_M} {Fr : mm_T} {cs ss pc pc' n0 k : Nat} {l l' : List (Nat × Value)} {rest : List Value} {ws ws' : mm_W}
theorem mm_newarr {at' : ArrayType} {ty : FieldType} {t N : Nat} {n : Int32} {z : (Nat → Int32) ⊕ (Nat → Int64) ⊕ (Nat → UInt32) ⊕ (Nat → UInt64) ⊕ (Nat → Option Nat)} (hty : newarray.typeOf at' = ty) (hnq : ∀ f, z ≠ .inr (.inr (.inr (.inr f)))) (ht : ∀ ck, (mm_ty ck)[t]? = some (ck t, ty)) (hra : ∀ (U : State) (c : ClassId), va_RA U c ty = (U.vm.findClass ("[" ++ ty.toString) = some c)) (hz : ∀ c : ClassId, vp_cell c (N, z) = arrV c N (fun _ => defaultValue ty)) (hc : Cond.arrayClass ty ∈ mm_big) (hd : decode M.2.1 pc = .ok (.newarray at', 2)) (hn : ¬ n < 0) (hN : n.toNatClampNeg = N) (hby : N * componentBytes ty ≤ 536870912) (hcells : cs + 1 ≤ M.2.2.2.2.cells) (hslots : ss + N ≤ M.2.2.2.2.slots) (hSt : mm_St Fr n0) (hn0 : n0 ≤ k) (hfr : mm_fr ws l rest k) (hw : ws ++ [.inl (t, N, z)] = ws') (hp : pc + 2 = pc')
    (kk : mm_Wp M Fr (cs + 1) (ss + N) pc' l (.ref k :: rest) ws') : mm_Wp M Fr cs ss pc l (.int n :: rest) ws := by
  subst hp; subst hw; subst hty
  intro p la e s m args below meth c D ad ck A H locs ls Q hF hFr hP hD hS hl
  have hzz : ∀ f, mm_a f (N, z) = (N, z) := by
    intro f
    rcases z with z | z | z | z | z <;> first | rfl | exact absurd rfl (hnq z)
  refine va_newa hF.1 hF.2.1 (hF.2.2.2.2.1 _ hc) rfl hF.2.2.2.2.2.2.2.1 hP hD hS hF.2.2.2.2.2.2.2.2.2 (a0 := (N, z)) hz hn hN hby hcells hslots hd (fun q cA H1 hK1 hP1 hD1 hS1 => ?_)
  have hcA : cA = ck t := by
    have g1 := (hF.2.2.2.2.2.2.2.1.2 t _ (ht ck)).2
    have g2 := (hK1.2 (mm_ty ck).length (cA, newarray.typeOf at') (by rw [List.getElem?_append_right (Nat.le_refl _), Nat.sub_self]; rfl)).2
    rw [hra] at g1 g2
    exact Option.some.inj (g2.symm.trans g1)
  subst hcA
  have e1 : ((q, (.inl (ck t, (N, z)) : va_E)) : Nat × va_E) = (q, mm_e ad ck (.inl (t, N, z))) := by
    show _ = (q, Sum.inl (ck t, mm_a ad (N, z)))
    rw [hzz]
  rw [e1] at hP1 hD1
  exact mm_grow (e := .inl (t, N, z)) hSt hn0 hfr (by rcases z with z | z | z | z | z <;> first | rfl | exact absurd rfl (hnq z)) kk hF hFr hP1 hD1 hS1 hl
theorem mm_newI {N : Nat} {n : Int32} (hc : Cond.arrayClass .int ∈ mm_big) (hd : decode M.2.1 pc = .ok (.newarray .int, 2)) (hn : ¬ n < 0) (hN : n.toNatClampNeg = N) (hby : N * 4 ≤ 536870912) (hcells : cs + 1 ≤ M.2.2.2.2.cells) (hslots : ss + N ≤ M.2.2.2.2.slots) (hSt : mm_St Fr n0) (hn0 : n0 ≤ k) (hfr : mm_fr ws l rest k) (hw : ws ++ [.inl (0, N, .inl (fun _ => 0))] = ws') (hp : pc + 2 = pc')
    (kk : mm_Wp M Fr (cs + 1) (ss + N) pc' l (.ref k :: rest) ws') : mm_Wp M Fr cs ss pc l (.int n :: rest) ws :=
  mm_newarr (at' := .int) (ty := .int) (t := 0) (z := .inl (fun _ => 0)) rfl (fun _ h => by cases h) (fun _ => rfl) (fun _ _ => rfl) (fun _ => rfl) hc hd hn hN hby hcells hslots hSt hn0 hfr hw hp kk
theorem mm_newJ {N : Nat} {n : Int32} (hc : Cond.arrayClass .long ∈ mm_big) (hd : decode M.2.1 pc = .ok (.newarray .long, 2)) (hn : ¬ n < 0) (hN : n.toNatClampNeg = N) (hby : N * 8 ≤ 536870912) (hcells : cs + 1 ≤ M.2.2.2.2.cells) (hslots : ss + N ≤ M.2.2.2.2.slots) (hSt : mm_St Fr n0) (hn0 : n0 ≤ k) (hfr : mm_fr ws l rest k) (hw : ws ++ [.inl (1, N, .inr (.inl (fun _ => 0)))] = ws') (hp : pc + 2 = pc')
    (kk : mm_Wp M Fr (cs + 1) (ss + N) pc' l (.ref k :: rest) ws') : mm_Wp M Fr cs ss pc l (.int n :: rest) ws :=
  mm_newarr (at' := .long) (ty := .long) (t := 1) (z := .inr (.inl (fun _ => 0))) rfl (fun _ h => by cases h) (fun _ => rfl) (fun _ _ => rfl) (fun _ => rfl) hc hd hn hN hby hcells hslots hSt hn0 hfr hw hp kk
theorem mm_newZ {N : Nat} {n : Int32} (hc : Cond.arrayClass .boolean ∈ mm_big) (hd : decode M.2.1 pc = .ok (.newarray .boolean, 2)) (hn : ¬ n < 0) (hN : n.toNatClampNeg = N) (hby : N * 1 ≤ 536870912) (hcells : cs + 1 ≤ M.2.2.2.2.cells) (hslots : ss + N ≤ M.2.2.2.2.slots) (hSt : mm_St Fr n0) (hn0 : n0 ≤ k) (hfr : mm_fr ws l rest k) (hw : ws ++ [.inl (2, N, .inl (fun _ => 0))] = ws') (hp : pc + 2 = pc')
    (kk : mm_Wp M Fr (cs + 1) (ss + N) pc' l (.ref k :: rest) ws') : mm_Wp M Fr cs ss pc l (.int n :: rest) ws :=
  mm_newarr (at' := .boolean) (ty := .boolean) (t := 2) (z := .inl (fun _ => 0)) rfl (fun _ h => by cases h) (fun _ => rfl) (fun _ _ => rfl) (fun _ => rfl) hc hd hn hN hby hcells hslots hSt hn0 hfr hw hp kk
/-- new C -/
def mm_cl (own : String) (ix ci : Nat) (N : Nat) (fs : List Value) : Prop := ∃ (C : String) (T : u_T) (ty : Nat → FieldType), vwCl[ci]? = some (C, T, N) ∧ Cond.classLink own ix C ∈ mm_big ∧ Cond.instantiable C N ∈ mm_big ∧ Cond.initialized C ∈ mm_big ∧ (∀ w ∈ u_ws C T N, w ∈ mm_big) ∧ (∀ k, k < N → parseFieldDescriptor (T k).2.2.1 = some (ty k)) ∧ (∀ j, j < N → defaultValue (ty j) = vp_V fs j) ∧ (∀ ad, fs.map (mm_v ad) = fs) ∧ ∀ n, fs.all (mm_vb n) = true
theorem mm_newo {ix ci N : Nat} {fs : List Value} (hc : mm_cl M.1.cls ix ci N fs) (hd : decode M.2.1 pc = .ok (.new ix, 3)) (hcells : cs + 1 ≤ M.2.2.2.2.cells) (hslots : ss + N ≤ M.2.2.2.2.slots) (hSt : mm_St Fr n0) (hn0 : n0 ≤ k) (hfr : mm_fr ws l rest k) (hw : ws ++ [.inr (ci, fs)] = ws') (hp : pc + 3 = pc')
    (kk : mm_Wp M Fr (cs + 1) (ss + N) pc' l (.ref k :: rest) ws') : mm_Wp M Fr cs ss pc l rest ws := by
  subst hp; subst hw
  intro p la e s m args below meth c D ad ck A H locs ls Q hF hFr hP hD hS hl
  obtain ⟨C, T, ty, h1, h2, h3, h4, h5, h6, h7, h8, h9⟩ := hc
  have hts := hF.2.2.2.2.1
  refine va_new hF.1 hF.2.1 hts h5 ty h6 hF.2.2.2.1 (hts _ h2) (hts _ h3) (hts _ h4) hF.2.2.2.2.2.2.2.1 hP hD hS hF.2.2.2.2.2.2.2.2.2 h1 h7 hcells hslots hd (fun q H1 hP1 hD1 hS1 => ?_)
  have e1 : ((q, (.inr (ci, fs) : va_E)) : Nat × va_E) = (q, mm_e ad ck (.inr (ci, fs))) := by
    show _ = (q, Sum.inr (ci, fs.map (mm_v ad)))
    rw [h8]
  rw [e1] at hP1 hD1
  exact mm_grow (e := .inr (ci, fs)) hSt hn0 hfr (h9 k) kk hF hFr hP1 hD1 hS1 hl
theorem mm_obji {ix : Nat} {a : Nat} (hc : Cond.methodLink M.1.cls ix objectInit ∈ mm_big ∧ Cond.instanceMethod objectInit ∈ mm_big ∧ Cond.code objectInit ⟨#[0xb1]⟩ 1 none ∈ mm_big) (hd : decode M.2.1 pc = .ok (.invokespecial ix, 3)) (hf1 : 1 ≤ M.2.2.2.2.frames) (hf2 : (rest.map fun v => v.category).sum + 12 ≤ M.2.2.2.2.locals) (hp : pc + 3 = pc') (kk : mm_Wp M Fr cs ss pc' l rest ws) : mm_Wp M Fr cs ss pc l (.ref a :: rest) ws := by
  subst hp
  intro p la e s m args below meth c D ad ck A H locs ls Q hF hFr hP hD hS hl
  have hts := hF.2.2.2.2.1
  have hr2 : ((rest.map (mm_v ad)).map fun v => v.category).sum = (rest.map fun v => v.category).sum := by
    rw [List.map_map]
    congr 1
    apply List.map_congr_left
    intro v _
    exact mm_v_cat ad v
  refine W.objInit (a := ad a) (rest := rest.map (mm_v ad)) hF.1 hF.2.1 hF.2.2.2.1 (hts _ hc.1) (hts _ hc.2.1) (hts _ hc.2.2) rfl (hl.1.trans hF.2.2.1.symm) rfl hd hf1 ?_ (W.eq (g2 := F0 m (pc + 3) ls (rest.map (mm_v ad))) rfl (kk.use hF hFr hP hD hS hl))
  show 2 * 0 + _ + 12 ≤ _
  rw [hr2]
  omega
/-- a final field, in its constructor -/
def mm_ini (Fr : mm_T) : Prop := ∀ (p : Program) (la : Launch) (e : Env) (s : State) (m : MethodId) (args : Array Value) (below : List Frame) (meth : Method) (D : va_G) (ad : Nat → Nat) (ck : Nat → ClassId) (A : Nat → Prop) (Q : State → Prop), Fr p la e s m args below meth D ad ck A Q → meth.name = "<init>"
theorem mm_putF {ix ci kf a : Nat} {fs : List Value} {v : Value} {ty : FieldType} (hI : mm_ini Fr) (hf : mm_fldP M.1.cls ix ci kf ty true) (hown : ∀ (C : String) (T : u_T) (N : Nat), vwCl[ci]? = some (C, T, N) → (T kf).1 = M.1.cls) (hd : decode M.2.1 pc = .ok (.putfield ix, 3)) (ha : ws[a]? = some (.inr (ci, fs))) (hl2 : kf < fs.length) (hn : ∀ ad, narrow ty (mm_v ad v) = mm_v ad v) (hfit : ∀ ad, fits ty (mm_v ad v) = true) (hw : ws.set a (.inr (ci, fs.set kf v)) = ws') (hp : pc + 3 = pc') (kk : mm_Wp M Fr cs ss pc' l rest ws') : mm_Wp M Fr cs ss pc l (v :: .ref a :: rest) ws := by
  subst hp; subst hw
  intro p la e s m args below meth c D ad ck A H locs ls Q hF hFr hP hD hS hl
  obtain ⟨C, T, N, ty0, h1, h2, h3, h4, h5, h6, h7, h8⟩ := hf
  refine va_putF (D := D) (ci := ci) (v := mm_v ad v) (ty := ty) (C := C) (T := T) (N := N) hF.1 hF.2.1 hF.2.2.2.2.1 h4 ty0 h5 h6 hF.2.2.2.1 hF.2.2.2.2.2.2.2.1 hP hD hS a (mm_w_at ha) h1 kf h2 (hF.2.2.2.2.1 _ h3) (fun _ h => h) h7 (hI _ _ _ _ _ _ _ _ _ _ _ _ _ hFr) (hown C T N h1) h8 (hn ad) (hfit ad) (by simpa using hl2) hd (fun H1 locs1 hP1 hD1 hS1 => ?_)
  have e1 : (mm_w ad ck ws).set a (ad a, .inr (ci, (fs.map (mm_v ad)).set kf (mm_v ad v))) = mm_w ad ck (ws.set a (.inr (ci, fs.set kf v))) := by
    rw [← mm_w_set, mm_e_obj, List.map_set]
  exact kk.use hF hFr (e1 ▸ hP1) (e1 ▸ hD1) hS1 hl
end MMA
