/-! WORLDS BY PLACES: a method's world is a list of cells; a reference in it is a place (its number in the list); the addresses are any function of the places -/
abbrev mm_E : Type := (Nat × vp_A) ⊕ (Nat × List Value)
abbrev mm_W : Type := List mm_E
abbrev mm_M : Type := MethodName × ByteArray × Nat × Option FieldType × Room
def mm_v (ad : Nat → Nat) : Value → Value
  | .ref k => .ref (ad k)
  | v => v
def mm_a (ad : Nat → Nat) (a : vp_A) : vp_A := (a.1, match a.2 with
  | .inr (.inr (.inr (.inr f))) => .inr (.inr (.inr (.inr (fun j => (f j).map ad))))
  | x => x)
def mm_e (ad : Nat → Nat) (ck : Nat → ClassId) : mm_E → va_E
  | .inl x => .inl (ck x.1, mm_a ad x.2)
  | .inr x => .inr (x.1, x.2.map (mm_v ad))
def mm_w (ad : Nat → Nat) (ck : Nat → ClassId) (ws : mm_W) : va_W := ws.mapIdx (fun i e => (ad i, mm_e ad ck e))
def mm_l (ad : Nat → Nat) (l : List (Nat × Value)) : List (Nat × Value) := l.map (fun q => (q.1, mm_v ad q.2))
def mm_ty (ck : Nat → ClassId) : List (ClassId × FieldType) := [(ck 0, .int), (ck 1, .long), (ck 2, .boolean), (ck 3, .array .int)]
theorem mm_v_cat (ad : Nat → Nat) (v : Value) : (mm_v ad v).category = v.category := by cases v <;> rfl
theorem mm_w_at {ad : Nat → Nat} {ck : Nat → ClassId} {ws : mm_W} {k : Nat} {e : mm_E} (h : ws[k]? = some e) : (mm_w ad ck ws)[k]? = some (ad k, mm_e ad ck e) := by
  simp [mm_w, List.getElem?_mapIdx, h]
theorem mm_w_of {ad : Nat → Nat} {ck : Nat → ClassId} {ws : mm_W} {k : Nat} {q : Nat × va_E} (h : (mm_w ad ck ws)[k]? = some q) : ∃ e, ws[k]? = some e ∧ q = (ad k, mm_e ad ck e) := by
  simp only [mm_w, List.getElem?_mapIdx] at h
  cases hk : ws[k]? with
  | none => rw [hk] at h; cases h
  | some e => rw [hk] at h; exact ⟨e, rfl, (Option.some.inj h).symm⟩
theorem mm_w_len {ad : Nat → Nat} {ck : Nat → ClassId} {ws : mm_W} : (mm_w ad ck ws).length = ws.length := by simp [mm_w]
theorem mm_w_set {ad : Nat → Nat} {ck : Nat → ClassId} {ws : mm_W} {k : Nat} {e : mm_E} : (mm_w ad ck ws).set k (ad k, mm_e ad ck e) = mm_w ad ck (ws.set k e) := by
  apply List.ext_getElem?
  intro i
  simp only [mm_w, List.getElem?_set, List.getElem?_mapIdx, List.length_mapIdx]
  by_cases h : k = i
  · subst h
    by_cases hl : k < ws.length <;> simp [hl]
  · simp [h]
theorem mm_l_at {ad : Nat → Nat} {l : List (Nat × Value)} {k i : Nat} {v : Value} (h : l[k]? = some (i, v)) : (mm_l ad l)[k]? = some (i, mm_v ad v) := by simp [mm_l, h]
/-- a value put into a local of one word -/
def mm_put (i : Nat) (v : Value) (l : List (Nat × Value)) : List (Nat × Value) := (i, v) :: l.filter (fun q => !(q.1 == i) && !(q.1 + 1 == i && q.2.category == 2))
/-- of two words -/
def mm_put2 (i : Nat) (v : Value) (l : List (Nat × Value)) : List (Nat × Value) := (i, v) :: l.filter (fun q => !(q.1 == i) && (!(q.1 == i + 1) && !(q.1 + 1 == i && q.2.category == 2)))
theorem mm_l_put {ad : Nat → Nat} {l : List (Nat × Value)} {i : Nat} {v : Value} : (i, mm_v ad v) :: (mm_l ad l).filter (fun q => !(q.1 == i) && !(q.1 + 1 == i && q.2.category == 2)) = mm_l ad (mm_put i v l) := by
  simp only [mm_l, mm_put, List.map_cons, List.filter_map]
  congr 2
  apply List.filter_congr
  intro q _
  simp [Function.comp, mm_v_cat]
theorem mm_l_put2 {ad : Nat → Nat} {l : List (Nat × Value)} {i : Nat} {v : Value} : (i, mm_v ad v) :: (mm_l ad l).filter (fun q => !(q.1 == i) && (!(q.1 == i + 1) && !(q.1 + 1 == i && q.2.category == 2))) = mm_l ad (mm_put2 i v l) := by
  simp only [mm_l, mm_put2, List.map_cons, List.filter_map]
  congr 2
  apply List.filter_congr
  intro q _
  simp [Function.comp, mm_v_cat]
theorem mm_l_pick {ad : Nat → Nat} {l : List (Nat × Value)} {ks : List Nat} : lv_pick (mm_l ad l) ks = mm_l ad (lv_pick l ks) := by
  simp only [lv_pick, mm_l, List.map_filterMap]
  congr 1
  funext k
  simp
/-! the tables' words that are good for every method -/
def mm_big : List Cond := lw_tbl.filter goodWord
theorem mm_in {w : Cond} (i : Nat) (h : lw_tbl[i]? = some w) (hg : goodWord w = true) : w ∈ mm_big := List.mem_filter.mpr ⟨List.mem_of_getElem? h, hg⟩
def mm_ws (M : mm_M) : List Cond := .code M.1 M.2.1 M.2.2.1 M.2.2.2.1 :: mm_big
theorem mm_big_good : GoodIn mm_big mm_big := fun w h => ⟨h, good_of_word (List.mem_filter.mp h).2⟩
theorem mm_ws_good {M : mm_M} (h : Cond.code M.1 M.2.1 M.2.2.1 M.2.2.2.1 ∈ mm_big) : GoodIn mm_big (mm_ws M) := by
  intro w hw
  rcases List.mem_cons.mp hw with rfl | hw
  · exact mm_big_good _ h
  · exact mm_big_good _ hw
/-- what holds of the surroundings: links to private members of nest mates, the String constants, two statics -/
def mm_nest : List (String × Nat × MethodName × String) := [("LitWindows", 11, ⟨"LitWindows$Wall", "<init>", "()V"⟩, "LitWindows"), ("LitWindows", 34, ⟨"LitWindows$Plan", "<init>", "()V"⟩, "LitWindows"), ("LitWindows", 41, ⟨"LitWindows$Word", "<init>", "()V"⟩, "LitWindows"), ("LitWindows$LeastPains", 24, ⟨"LitWindows$Places", "<init>", "()V"⟩, "LitWindows"), ("LitWindows", 58, ⟨"LitWindows$Pictures", "<init>", "()V"⟩, "LitWindows"), ("LitWindows$Pictures", 21, ⟨"LitWindows$Places", "<init>", "()V"⟩, "LitWindows"), ("LitWindows", 68, ⟨"LitWindows$DarkLamps", "<init>", "()V"⟩, "LitWindows"), ("LitWindows$Wall", 95, ⟨"LitWindows", "isShape", "(I)Z"⟩, "LitWindows"), ("LitWindows$Wall", 98, ⟨"LitWindows", "isHour", "(I)Z"⟩, "LitWindows"), ("LitWindows$LeastPains", 99, ⟨"LitWindows", "shapeIn", "(JI)I"⟩, "LitWindows"), ("LitWindows$Pictures", 61, ⟨"LitWindows", "windowsOf", "(II)J"⟩, "LitWindows"), ("LitWindows$Wall", 116, ⟨"LitWindows", "shapeIn", "(JI)I"⟩, "LitWindows"), ("LitWindows$DarkLamps", 66, ⟨"LitWindows", "windowsOf", "(II)J"⟩, "LitWindows"), ("LitWindows$DarkLamps", 87, ⟨"LitWindows", "shapeIn", "(JI)I"⟩, "LitWindows")]
def mm_len : List Nat := [4, 6, 3, 6, 3, 5]
def mm_byt : List (List Int32) := [[119, 97, 108, 108], [116, 101, 110, 97, 110, 116], [104, 97, 115], [108, 101, 116, 116, 101, 114], [108, 105, 116], [115, 108, 97, 99, 107]]
def mm_cix : List (Nat × String) := [(82, "wall"), (84, "tenant"), (86, "has"), (88, "letter"), (90, "lit"), (92, "slack")]
def mm_N (ad : Nat → Nat) (A : Nat → Prop) (U : State) : Prop :=
  (∀ q ∈ mm_nest, va_Nw (.methodLinkNest q.1 q.2.1 q.2.2.1 q.2.2.2) U) ∧
  vk_S 6 mm_len mm_byt (fun i => ad (1000 + i)) (fun i => ad (2000 + i)) A U U.heap ∧
  (∀ (i : Nat) (q : Nat × String), mm_cix[i]? = some q → vk_R "LitWindows$Plan" q.1 q.2 (ad (1000 + i)) U) ∧
  va_Z "java/lang/String" "COMPACT_STRINGS" "Z" (.int 1) A U U.heap ∧
  va_Zq "jdk/internal/util/Preconditions" "SIOOBE_FORMATTER" "Ljava/util/function/BiFunction;" A U U.heap
theorem mm_N.move {ad ad2 : Nat → Nat} {A B : Nat → Prop} {s U : State} (h : mm_N ad A s) (hW : s.WarmedH U.vm) (hq : ∀ a : Nat, a < s.heap.size → ¬ A a → U.heap[a]? = s.heap[a]?) (hAB : ∀ q, B q → A q) (had : ∀ i, 1000 ≤ i → ad2 i = ad i) : mm_N ad2 B U := by
  obtain ⟨h1, h2, h3, h4, h5⟩ := h
  have e1 : (fun i => ad2 (1000 + i)) = (fun i => ad (1000 + i)) := funext fun i => had _ (by omega)
  have e2 : (fun i => ad2 (2000 + i)) = (fun i => ad (2000 + i)) := funext fun i => had _ (by omega)
  refine ⟨fun q hq => va_Nw.warmM hW (h1 q hq), ?_, fun i q hi => ?_, ?_, ?_⟩
  · rw [e1, e2]
    exact ((h2.moved hW.alike).kept hq).narrow hAB
  · rw [had _ (by omega)]
    exact (h3 i q hi).warm hW
  · exact ((h4.moved hW.alike).kept hq).narrow hAB
  · exact ((h5.moved hW.alike).kept hq).narrow hAB
theorem mm_N.same {ad : Nat → Nat} {A : Nat → Prop} {s U : State} (h : mm_N ad A s) (hv : U.vm = s.vm) (hh : U.heap = s.heap) : mm_N ad A U := by
  obtain ⟨h1, h2, h3, h4, h5⟩ := h
  have hal : s.vm.Alike U.vm := by rw [hv]; exact Vm.Alike.refl _
  refine ⟨fun q hq => va_Nw.same rfl hv.symm (h1 q hq), ?_, fun i q hi => (h3 i q hi).same hv, ?_, ?_⟩
  · rw [hh]; exact h2.moved hal
  · rw [hh]; exact h4.moved hal
  · rw [hh]; exact h5.moved hal
/-- what a frame of method M knows -/
def mm_F (M : mm_M) (p : Program) (s : State) (m : MethodId) (args : Array Value) (meth : Method) (c : Code) (D : va_G) (ad : Nat → Nat) (ck : Nat → ClassId) (A : Nat → Prop) : Prop :=
  p.tables.exec = Jvm.exec ∧ c.code = M.2.1 ∧ c.maxLocals = M.2.2.1 ∧ s.vm.findClass M.1.cls = some m.cls ∧ (∀ w ∈ mm_big, w.before args s = true) ∧ meth.sig.returnType = M.2.2.2.1 ∧ meth.locks = false ∧ va_K D vwCl (mm_ty ck) s ∧ mm_N ad A s ∧ (∀ q, s.heap.size ≤ q → A q)
abbrev mm_T : Type := Program → Launch → Env → State → MethodId → Array Value → List Frame → Method → va_G → (Nat → Nat) → (Nat → ClassId) → (Nat → Prop) → (State → Prop) → Prop
/-- the machine at pc of M with the locals l, the stack st, the world ws comes to its end -/
def mm_Wp (M : mm_M) (Fr : mm_T) (cs ss pc : Nat) (l : List (Nat × Value)) (st : List Value) (ws : mm_W) : Prop :=
  ∀ (p : Program) (la : Launch) (e : Env) (s : State) (m : MethodId) (args : Array Value) (below : List Frame) (meth : Method) (c : Code) (D : va_G) (ad : Nat → Nat) (ck : Nat → ClassId) (A : Nat → Prop) (H : Heap) (locs : List Loc) (ls : Array Slot) (Q : State → Prop),
    mm_F M p s m args meth c D ad ck A → Fr p la e s m args below meth D ad ck A Q → va_P D vwCl (mm_w ad ck ws) H → va_D A (mm_w ad ck ws) → va_S A s.heap H locs → lv_has ls M.2.2.1 (mm_l ad l) →
    W p la e M.2.2.2.2 s m args below meth c H locs cs ss Q (F0 m pc ls (st.map (mm_v ad)))
theorem mm_Wp.use {M : mm_M} {Fr : mm_T} {cs ss pc : Nat} {l : List (Nat × Value)} {st : List Value} {ws : mm_W} (h : mm_Wp M Fr cs ss pc l st ws) {p : Program} {la : Launch} {e : Env} {s : State} {m : MethodId} {args : Array Value} {below : List Frame} {meth : Method} {c : Code} {D : va_G} {ad : Nat → Nat} {ck : Nat → ClassId} {A : Nat → Prop} {H : Heap} {locs : List Loc} {ls : Array Slot} {Q : State → Prop}
    (hF : mm_F M p s m args meth c D ad ck A) (hFr : Fr p la e s m args below meth D ad ck A Q) (hP : va_P D vwCl (mm_w ad ck ws) H) (hD : va_D A (mm_w ad ck ws)) (hS : va_S A s.heap H locs) (hl : lv_has ls M.2.2.1 (mm_l ad l)) :
    W p la e M.2.2.2.2 s m args below meth c H locs cs ss Q (F0 m pc ls (st.map (mm_v ad))) := h p la e s m args below meth c D ad ck A H locs ls Q hF hFr hP hD hS hl
def mm_Q (Post : Option Value → mm_W → Prop) (D : va_G) (ad : Nat → Nat) (ck : Nat → ClassId) (A : Nat → Prop) : Array Value → State → Outcome → State → Prop := fun _ st oc t =>
  (∃ (rv : Option Value) (ws : mm_W), oc = .returned (rv.map (mm_v ad)) ∧ Post rv ws ∧ va_P D vwCl (mm_w ad ck ws) t.heap) ∧ va_F A st t
/-- a method that makes no cells -/
def mm_R (Post : Option Value → mm_W → Prop) : mm_T := fun _ _ _ s _ args below _ D ad ck A Q => Q = MQ below (mm_Q Post D ad ck A) args s 0 0 A
/-- the contract -/
def mm_Ok (M : mm_M) (av : List Value) (ws : mm_W) (Post : Option Value → mm_W → Prop) : Prop :=
  ∀ (la : Launch) (D : va_G) (ad : Nat → Nat) (ck : Nat → ClassId) (sz : Nat), Met la M.1 (mm_ws M) M.2.2.2.2
    (va_Pc (av.map (mm_v ad)) (fun U => U.heap.size = sz ∧ va_P D vwCl (mm_w ad ck ws) U.heap ∧ va_K D vwCl (mm_ty ck) U ∧ va_D (fun _ => True) (mm_w ad ck ws) ∧ mm_N ad (va_A (mm_w ad ck ws) sz) U))
    (mm_Q Post D ad ck (va_A (mm_w ad ck ws) sz)) 0 0 (va_A (mm_w ad ck ws) sz)
theorem mm_args {ad : Nat → Nat} : ∀ (vs : List Value) (n : Nat), lv_args n (vs.map (mm_v ad)) = mm_l ad (lv_args n vs)
  | [], n => rfl
  | v :: vs, n => by
    simp only [List.map_cons, lv_args, mm_v_cat, mm_args vs]
    rfl
theorem mm_sl {ad : Nat → Nat} (vs : List Value) : (lg_sl (vs.map (mm_v ad))).length = (lg_sl vs).length := by
  simp only [lg_sl, List.flatMap_map, List.length_flatMap]
  congr 1
  apply List.map_congr_left
  intro v _
  simp only [mm_v_cat]
  split <;> rfl
theorem mm_Ok.of {M : mm_M} {av : List Value} {ws : mm_W} {Post : Option Value → mm_W → Prop} {l : List (Nat × Value)} (hy : plainName M.1.cls = true) (hl : lv_args 0 av = l) (hn : (lg_sl av).length ≤ M.2.2.1) (k : mm_Wp M (mm_R Post) 0 0 0 l [] ws) : mm_Ok M av ws Post := by
  intro la D ad ck sz
  refine Met.ofW (cc := M.2.1) (maxL := M.2.2.1) (ret := M.2.2.2.1) hy rfl ?_
  intro p e s m args below meth c s₁ B hml hv
  obtain ⟨rfl, hsz, hP, hK, hD0, hN⟩ := hv
  have hts := atoms_spec (ws := mm_ws M) B.pre
  subst hsz
  have hD := hD0.self (sz := s.heap.size)
  have hl2 := lv_entry (av.map (mm_v ad)) (n := M.2.2.1) (by rw [mm_sl]; exact hn)
  rw [mm_args, hl] at hl2
  rw [lg_entry_eq]
  exact k.use (ls := (lg_sl (av.map (mm_v ad)) ++ List.replicate (M.2.2.1 - (lg_sl (av.map (mm_v ad))).length) Slot.unset).toArray) ⟨B.exec, B.bytes, hml, findClass_of_methodNamed B.named, fun w hw => hts w (List.mem_cons_of_mem _ hw), B.returns, B.notSynchronized, hK, hN, fun q h => Or.inr h⟩ rfl hP hD va_S.rf hl2
