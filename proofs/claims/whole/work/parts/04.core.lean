/-! PURE WORLDS: a list of cells whose references are places in that list; V0: the judgement over it -/
abbrev px_E : Type := (Nat × vp_A) ⊕ (Nat × List Value)
abbrev px_H : Type := List px_E
/-- class numbers, slots, array classes, addresses of the places, addresses of the tables -/
abbrev px_G : Type := (Nat → ClassId) × (Nat → Nat → Nat) × (Nat → ClassId) × (Nat → Nat) × (Nat → Nat)
abbrev px_M : Type := MethodName × ByteArray × Nat × Option FieldType
/-- the tables' words that stay true under every warming -/
def px_tbl : List Cond := lw_tbl.filter goodWord
theorem px_in {w : Cond} (h : w ∈ lw_tbl) (hg : goodWord w = true) : w ∈ px_tbl := List.mem_filter.mpr ⟨h, hg⟩
/-- links to private members of nest mates -/
def px_nest : List (String × Nat × MethodName × String) := [("GladSide", 9, ⟨"GladSide$Street", "<init>", "()V"⟩, "GladSide"), ("GladSide", 22, ⟨"GladSide$Law", "<init>", "()V"⟩, "GladSide"), ("GladSide", 54, ⟨"GladSide$Tape", "<init>", "()V"⟩, "GladSide"), ("GladSide$Tape", 9, ⟨"GladSide$Law", "<init>", "()V"⟩, "GladSide"), ("GladSide", 90, ⟨"GladSide$Acts", "<init>", "()V"⟩, "GladSide"), ("GladSide$Smells", 33, ⟨"GladSide", "placesApart", "(II)I"⟩, "GladSide"), ("GladSide$Votes", 49, ⟨"GladSide", "placesApart", "(II)I"⟩, "GladSide")]
def px_N (U : State) : Prop := ∀ q ∈ px_nest, va_Nw (.methodLinkNest q.1 q.2.1 q.2.2.1 q.2.2.2) U
def px_v (E : px_G) : Value → Value
  | .ref p => .ref (E.2.2.2.1 p)
  | .float i => .ref (E.2.2.2.2 i.toNat)
  | v => v
theorem px_cat (E : px_G) (v : Value) : (px_v E v).category = v.category := by cases v <;> rfl
def px_e (E : px_G) : px_E → va_E
  | .inl a => .inl (E.2.2.1 a.1, a.2)
  | .inr o => .inr (o.1, o.2.map (px_v E))
def px_w (E : px_G) (h : px_H) : va_W := h.mapIdx fun p e => (E.2.2.2.1 p, px_e E e)
theorem px_w_get {E : px_G} {h : px_H} {p : Nat} {e : px_E} (hp : h[p]? = some e) : (px_w E h)[p]? = some (E.2.2.2.1 p, px_e E e) := by
  simp [px_w, List.getElem?_mapIdx, hp]
theorem px_w_len (E : px_G) (h : px_H) : (px_w E h).length = h.length := by simp [px_w]
theorem px_w_set {E : px_G} {h : px_H} {p : Nat} {e : px_E} : (px_w E h).set p (E.2.2.2.1 p, px_e E e) = px_w E (h.set p e) := by
  apply List.ext_getElem?
  intro i
  simp only [px_w, List.getElem?_set, List.getElem?_mapIdx, List.length_mapIdx]
  by_cases hi : p = i
  · subst hi
    by_cases hl : p < h.length
    · simp [hl]
    · simp [hl]
  · simp [hi]
theorem px_w_app {E : px_G} {h : px_H} {e : px_E} : px_w E (h ++ [e]) = px_w E h ++ [(E.2.2.2.1 h.length, px_e E e)] := by
  simp [px_w, List.mapIdx_append]
def px_ty : Nat → FieldType
  | 0 => .int
  | 1 => .byte
  | 2 => .boolean
  | 3 => .short
  | _ => .long
def px_tys (E : px_G) : List (ClassId × FieldType) := [(E.2.2.1 0, .int), (E.2.2.1 1, .byte), (E.2.2.1 2, .boolean), (E.2.2.1 3, .short), (E.2.2.1 4, .long)]
def px_K (E : px_G) (U : State) : Prop := va_K (E.1, E.2.1) vwCl (px_tys E) U
def px_P (E : px_G) (h : px_H) (H : Heap) : Prop := va_P (E.1, E.2.1) vwCl (px_w E h) H
/-- the places that aren't made yet: the machine's next addresses -/
def px_Z (z : Bool) (E : px_G) (n : Nat) (H : Heap) : Prop := z = true → ∀ j : Nat, E.2.2.2.1 (n + j) = H.size + j
/-- the static tables: class, name, length, values -/
def px_lst (l : List Int32) : Nat → Int32 := fun j => l.getD j 0
def px_stt : List (String × String × Nat × (Nat → Int32)) := [("GladSide$Numbers", "LEAST", 12, px_lst [0, 0, 1, 0, 0, 0, 0, 0, 0, 2, 1, 0]), ("GladSide$Numbers", "MOST", 12, px_lst [11, 99, 9, 40, 9, 3, 9, 1, 1, 30, 9, 199]), ("GladSide$Acts", "ABOVE", 8, px_lst [-1, 0, 0, 2, 1, 3, 0, 6]), ("GladSide$Acts", "OWN", 32, px_lst [1, 10, 11, 2, 20, 0, 0, 0, 0, 30, 0, 0, 0, 41, 40, 0, 0, 0, 0, 50, 0, 0, 60, 61, 70, 0, 0, 0, 81, 80, 0, 0])]
/-- whether cells are made; further tables (the law's script) behind the four static ones -/
abbrev px_X : Type := Bool × List (Nat × (Nat → Int32))
def px_tab (XT : List (Nat × (Nat → Int32))) : List (Nat × (Nat → Int32)) := px_stt.map (fun q => (q.2.2.1, q.2.2.2)) ++ XT
def px_S (E : px_G) (XT : List (Nat × (Nat → Int32))) (A : Nat → Prop) (U : State) (H : Heap) : Prop := (∀ (i : Nat) (q : String × String × Nat × (Nat → Int32)), px_stt[i]? = some q → va_Z q.1 q.2.1 "[I" (.ref (E.2.2.2.2 i)) A U H) ∧ ∀ (i : Nat) (q : Nat × (Nat → Int32)), (px_tab XT)[i]? = some q → va_T .int (E.2.2.2.2 i) q.1 (fun j => .int (q.2 j)) A U H
theorem px_S.moved {E : px_G} {XT : List (Nat × (Nat → Int32))} {A : Nat → Prop} {u U : State} {H : Heap} (hvm : u.vm.Alike U.vm) (h : px_S E XT A u H) : px_S E XT A U H :=
  ⟨fun i q hq => va_Z.moved hvm (h.1 i q hq), fun i q hq => va_T.moved hvm (h.2 i q hq)⟩
theorem px_S.kept {E : px_G} {XT : List (Nat × (Nat → Int32))} {A : Nat → Prop} {U : State} {H H1 : Heap} (h : px_S E XT A U H) (hq : ∀ a : Nat, a < H.size → ¬ A a → H1[a]? = H[a]?) : px_S E XT A U H1 :=
  ⟨fun i q hi => va_Z.kept (h.1 i q hi) hq, fun i q hi => va_T.kept (h.2 i q hi) hq⟩
theorem px_S.narrow {E : px_G} {XT : List (Nat × (Nat → Int32))} {A B : Nat → Prop} {U : State} {H : Heap} (h : px_S E XT A U H) (hAB : ∀ q, B q → A q) : px_S E XT B U H :=
  ⟨fun i q hi => va_Z.narrow (h.1 i q hi) hAB, fun i q hi => va_T.narrow (h.2 i q hi) hAB⟩
theorem px_S.less {E : px_G} {XT : List (Nat × (Nat → Int32))} {A : Nat → Prop} {U : State} {H : Heap} (h : px_S E XT A U H) : px_S E [] A U H := by
  refine ⟨h.1, fun i q hi => ?_⟩
  refine h.2 i q ?_
  have hl : i < (px_tab []).length := (List.getElem?_eq_some_iff.mp hi).1
  unfold px_tab at hi hl ⊢
  rw [List.append_nil] at hi hl
  rw [List.getElem?_append_left hl]
  exact hi
/-- the locals: a list by places; .null where nothing is known (or a second half stands) -/
def px_nz : Value → Bool
  | .null => false
  | _ => true
def px_al (E : px_G) (ls : List Value) : List (Nat × Value) := (ls.mapIdx fun i v => (i, v)).filterMap fun q => if px_nz q.2 then some (q.1, px_v E q.2) else none
theorem px_al_mem {E : px_G} {ls : List Value} {i : Nat} {w : Value} : (i, w) ∈ px_al E ls ↔ ∃ v, ls[i]? = some v ∧ px_nz v = true ∧ w = px_v E v := by
  unfold px_al
  rw [List.mem_filterMap]
  constructor
  · rintro ⟨⟨j, v⟩, hm, h⟩
    obtain ⟨k, hk⟩ := List.getElem?_of_mem hm
    rw [List.getElem?_mapIdx] at hk
    cases hv : ls[k]? with
    | none => rw [hv] at hk; cases hk
    | some x =>
      rw [hv] at hk
      cases hk
      by_cases hz : px_nz v = true
      · rw [if_pos hz] at h
        cases h
        exact ⟨v, hv, hz, rfl⟩
      · rw [if_neg hz] at h
        cases h
  · rintro ⟨v, hv, hz, rfl⟩
    refine ⟨(i, v), List.mem_of_getElem? (i := i) (by rw [List.getElem?_mapIdx, hv]; rfl), by rw [if_pos hz]⟩
def px_L (E : px_G) (nL : Nat) (lr : Array Slot) (ls : List Value) : Prop := lv_has lr nL (px_al E ls)
theorem px_L.at {E : px_G} {nL : Nat} {lr : Array Slot} {ls : List Value} (h : px_L E nL lr ls) {i : Nat} {v : Value} (hv : ls[i]? = some v) (hz : px_nz v = true) : lr[i]? = some (.val (px_v E v)) :=
  h.2.2 (i, px_v E v) (px_al_mem.mpr ⟨v, hv, hz, rfl⟩)
theorem px_L.sub {E : px_G} {nL : Nat} {lr : Array Slot} {l : List (Nat × Value)} {ls : List Value} (h : lv_has lr nL l) (hm : ∀ q ∈ px_al E ls, q ∈ l) : px_L E nL lr ls := ⟨h.1, h.2.1, fun q hq => h.2.2 q (hm q hq)⟩
/-- a word's store: what stood one place ahead isn't a long -/
def px_ok1 (ls : List Value) (i : Nat) : Prop := ∀ (j : Nat) (v : Value), j + 1 = i → ls[j]? = some v → v.category = 1
theorem px_L.store1 {E : px_G} {nL : Nat} {lr : Array Slot} {ls : List Value} {i : Nat} {v : Value} (ho : px_ok1 ls i) (h : lv_has lr nL ((i, px_v E v) :: (px_al E ls).filter (fun q => !(q.1 == i) && !(q.1 + 1 == i && q.2.category == 2)))) : px_L E nL lr (ls.set i v) := by
  refine px_L.sub h ?_
  rintro ⟨j, w⟩ hq
  obtain ⟨x, hx, hz, rfl⟩ := px_al_mem.mp hq
  rw [List.getElem?_set] at hx
  by_cases hj : i = j
  · subst hj
    rw [if_pos rfl] at hx
    split at hx
    · cases hx
      exact List.mem_cons_self
    · cases hx
  · rw [if_neg hj] at hx
    refine List.mem_cons_of_mem _ (List.mem_filter.mpr ⟨px_al_mem.mpr ⟨x, hx, hz, rfl⟩, ?_⟩)
    have hne : ¬ j = i := fun e => hj e.symm
    by_cases h1 : j + 1 = i
    · have := ho j x h1 hx
      simp [hne, px_cat, this]
    · simp [hne, h1]
theorem px_L.store2 {E : px_G} {nL : Nat} {lr : Array Slot} {ls : List Value} {i : Nat} {v : Value} (ho : px_ok1 ls i) (h : lv_has lr nL ((i, px_v E v) :: (px_al E ls).filter (fun q => !(q.1 == i) && (!(q.1 == i + 1) && !(q.1 + 1 == i && q.2.category == 2))))) : px_L E nL lr ((ls.set i v).set (i + 1) .null) := by
  refine px_L.sub h ?_
  rintro ⟨j, w⟩ hq
  obtain ⟨x, hx, hz, rfl⟩ := px_al_mem.mp hq
  rw [List.getElem?_set] at hx
  by_cases hj1 : i + 1 = j
  · subst hj1
    rw [if_pos rfl] at hx
    split at hx
    · cases hx
      cases hz
    · cases hx
  · rw [if_neg hj1, List.getElem?_set] at hx
    by_cases hj : i = j
    · subst hj
      rw [if_pos rfl] at hx
      split at hx
      · cases hx
        exact List.mem_cons_self
      · cases hx
    · rw [if_neg hj] at hx
      refine List.mem_cons_of_mem _ (List.mem_filter.mpr ⟨px_al_mem.mpr ⟨x, hx, hz, rfl⟩, ?_⟩)
      have hne : ¬ j = i := fun e => hj e.symm
      have hne1 : ¬ j = i + 1 := fun e => hj1 e.symm
      by_cases h1 : j + 1 = i
      · have := ho j x h1 hx
        simp [hne, hne1, px_cat, this]
      · simp [hne, hne1, h1]
/-- a method's first locals -/
def px_ent : List Value → List Value
  | [] => []
  | v :: vs => if v.category = 2 then v :: .null :: px_ent vs else v :: px_ent vs
theorem px_ent_args (E : px_G) : ∀ (vs : List Value) (k i : Nat) (v : Value), (px_ent vs)[i]? = some v → px_nz v = true → (k + i, px_v E v) ∈ lv_args k (vs.map (px_v E))
  | [], k, i, v, h, _ => by simp [px_ent] at h
  | x :: xs, k, i, v, h, hz => by
    show (k + i, px_v E v) ∈ (k, px_v E x) :: lv_args (if (px_v E x).category = 2 then k + 2 else k + 1) (xs.map (px_v E))
    rw [px_cat]
    unfold px_ent at h
    by_cases hc : x.category = 2
    · rw [if_pos hc] at h ⊢
      match i, h with
      | 0, h => cases h; exact List.mem_cons_self
      | 1, h => cases h; cases hz
      | i + 2, h =>
        have := px_ent_args E xs (k + 2) i v h hz
        rw [show k + 2 + i = k + (i + 2) by omega] at this
        exact List.mem_cons_of_mem _ this
    · rw [if_neg hc] at h ⊢
      match i, h with
      | 0, h => cases h; exact List.mem_cons_self
      | i + 1, h =>
        have := px_ent_args E xs (k + 1) i v h hz
        rw [show k + 1 + i = k + (i + 1) by omega] at this
        exact List.mem_cons_of_mem _ this
def px_pad (n : Nat) (ls : List Value) : List Value := ls ++ List.replicate (n - ls.length) .null
theorem px_L.entry (E : px_G) {vs : List Value} {n : Nat} {lr : Array Slot} (h : lv_has lr n (lv_args 0 (vs.map (px_v E)))) : px_L E n lr (px_pad n (px_ent vs)) := by
  refine px_L.sub h ?_
  rintro ⟨j, w⟩ hq
  obtain ⟨x, hx, hz, rfl⟩ := px_al_mem.mp hq
  unfold px_pad at hx
  by_cases hl : j < (px_ent vs).length
  · rw [List.getElem?_append_left hl] at hx
    have := px_ent_args E vs 0 j x hx hz
    rwa [Nat.zero_add] at this
  · rw [List.getElem?_append_right (by omega)] at hx
    have := List.eq_of_mem_replicate (List.mem_of_getElem? hx)
    subst this
    cases hz
/-- what is fixed while a method runs -/
def px_Fix (p : Program) (s : State) (m : MethodId) (args : Array Value) (meth : Method) (c : Code) (M : px_M) : Prop :=
  p.tables.exec = Jvm.exec ∧ c.code = M.2.1 ∧ c.maxLocals = M.2.2.1 ∧ s.vm.findClass M.1.cls = some m.cls ∧ (∀ w ∈ px_tbl, w.before args s = true) ∧ meth.name = M.1.name ∧ px_N s
def px_At (E : px_G) (XT : px_X) (A : Nat → Prop) (s : State) (h : px_H) (H : Heap) (locs : List Loc) : Prop :=
  px_K E s ∧ px_P E h H ∧ va_D A (px_w E h) ∧ va_S A s.heap H locs ∧ (∀ q : Nat, s.heap.size ≤ q → A q) ∧ px_Z XT.1 E h.length H ∧ px_S E XT.2 A s s.heap
/-- where and how a method may end -/
def px_ret (M : px_M) (pc : Nat) (r : Option Value) : Prop := match r with
  | none => decode M.2.1 pc = .ok (.return_, 1) ∧ M.2.2.2 = none
  | some (.int v) => decode M.2.1 pc = .ok (.ireturn, 1) ∧ ∃ ty, M.2.2.2 = some ty ∧ narrow ty (.int v) = .int v
  | some (.long _) => decode M.2.1 pc = .ok (.lreturn, 1) ∧ M.2.2.2 = some .long
  | some (.ref _) => decode M.2.1 pc = .ok (.areturn, 1) ∧ ∃ rt, M.2.2.2 = some rt ∧ ((∃ n, rt = .object n) ∨ ∃ t, rt = .array t)
  | _ => False
def V0 (l : Launch) (R : Room) (M : px_M) (XT : px_X) (kc ks pc : Nat) (ls st : List Value) (h : px_H) (Q : Option Value → px_H → Prop) : Prop :=
  ∀ (E : px_G) (p : Program) (e : Env) (s : State) (m : MethodId) (args : Array Value) (below : List Frame) (meth : Method) (c : Code) (A : Nat → Prop) (H : Heap) (locs : List Loc) (lr : Array Slot) (Qs : State → Prop),
    px_Fix p s m args meth c M → px_At E XT A s h H locs → kc ≤ R.cells → ks ≤ R.slots → px_L E M.2.2.1 lr ls →
    (∀ (r : Option Value) (h' : px_H) (H' : Heap) (locs' : List Loc) (kc' ks' pc' : Nat) (lr' : Array Slot), Q r h' → px_At E XT A s h' H' locs' → kc' ≤ R.cells → ks' ≤ R.slots → px_ret M pc' r → W p l e R s m args below meth c H' locs' kc' ks' Qs (F0 m pc' lr' (r.toList.map (px_v E)))) →
    W p l e R s m args below meth c H locs kc ks Qs (F0 m pc lr (st.map (px_v E)))
def px_ws (M : px_M) : List Cond := .code M.1 M.2.1 M.2.2.1 M.2.2.2 :: px_tbl
def px_rm (d kc ks : Nat) : Room := { frames := d, cells := kc, slots := ks, locals := 41 * d }
def px_Pc (z : Bool) (E : px_G) (sz : Nat) (args : List Value) (h : px_H) : Array Value → State → Prop := va_Pc (args.map (px_v E)) (fun U => U.heap.size = sz ∧ px_P E h U.heap ∧ px_K E U ∧ va_D (fun _ => True) (px_w E h) ∧ px_Z z E h.length U.heap ∧ px_S E [] (va_A (px_w E h) sz) U U.heap ∧ px_N U)
def px_Qc (z : Bool) (E : px_G) (sz : Nat) (h : px_H) (Q : Option Value → px_H → Prop) : Array Value → State → Outcome → State → Prop := fun _ st oc t =>
  (∃ (r : Option Value) (h' : px_H), oc = .returned (r.map (px_v E)) ∧ Q r h' ∧ px_P E h' t.heap ∧ va_D (va_A (px_w E h) sz) (px_w E h') ∧ px_Z z E h'.length t.heap) ∧ va_F (va_A (px_w E h) sz) st t
/-- a CONTRACT: method M at args over the world h ends with Q -/
def Ct0 (l : Launch) (z : Bool) (M : px_M) (d kc ks : Nat) (args : List Value) (h : px_H) (Q : Option Value → px_H → Prop) : Prop :=
  ∀ (E : px_G) (sz : Nat), Met l M.1 (px_ws M) (px_rm d kc ks) (px_Pc z E sz args h) (px_Qc z E sz h Q) kc ks (va_A (px_w E h) sz)
theorem Met.ofWF {l : Launch} {y : MethodName} {ws ws' : List Cond} {rm : Room} {Pc : Array Value → State → Prop} {Qc : Array Value → State → Outcome → State → Prop} {mc ms : Nat} {free : Addr → Prop} {cc : ByteArray} {maxL : Nat} {ret : Option FieldType}
    (hy : plainFor y = true) (hw : ws = Cond.code y cc maxL ret :: ws')
    (body : ∀ p e s m args below meth c s₁, BodyLoose p l y (headSpec ws rm) cc maxL ret e s m args below meth c s₁ → c.maxLocals = maxL → Pc args s →
      W p l e (headSpec ws rm).room s m args below meth c s.heap [] 0 0 (MQ below Qc args s mc ms free) (entryFrame m args maxL)) : Met l y ws rm Pc Qc mc ms free := by
  refine MetFree.of_bodySF (code := cc) (maxLocals := maxL) (ret := ret) hy ?_ ?_
  · intro args s m h hn
    obtain ⟨meth, c, h1, h2, h3, h4, h5, h6, -, -⟩ := Cond.code_spec hn (atoms_spec (ws := ws) h _ (by rw [hw]; exact List.mem_cons_self))
    exact ⟨meth, c, h1, h2, h3, h4, h5, h6⟩
  · intro p e s m args below meth c s₁ B hml hP _
    have hh0 : s₁.heap = s.heap := by rw [B.state]; rfl
    obtain ⟨t, a1, o, b1, b2, b3⟩ := body p e s m args below meth c s₁ B hml hP s₁ hh0 (Stand.of_body B)
    exact ⟨t, o, a1, b1, b2, ⟨b3.1, b3.2⟩⟩
theorem px_sl (E : px_G) : ∀ vs : List Value, (lg_sl (vs.map (px_v E))).length = (px_ent vs).length
  | [] => rfl
  | v :: vs => by
    have ih := px_sl E vs
    show ((if (px_v E v).category = 2 then [Slot.val (px_v E v), .second] else [.val (px_v E v)]) ++ lg_sl (vs.map (px_v E))).length = _
    rw [px_cat, List.length_append, ih]
    show _ = (if v.category = 2 then v :: .null :: px_ent vs else v :: px_ent vs).length
    by_cases hc : v.category = 2
    · rw [if_pos hc, if_pos hc]; show 2 + (px_ent vs).length = (px_ent vs).length + 1 + 1; omega
    · rw [if_neg hc, if_neg hc]; show 1 + (px_ent vs).length = (px_ent vs).length + 1; omega
/-- a method's contract by its walk -/
theorem Ct0.of {l : Launch} {z : Bool} {M : px_M} {d kc ks : Nat} {args : List Value} {h : px_H} {Q : Option Value → px_H → Prop} (hy : plainFor M.1 = true) (hn : (px_ent args).length ≤ M.2.2.1) (ls : List Value) (hls : px_pad M.2.2.1 (px_ent args) = ls)
    (k : V0 l (px_rm d kc ks) M (z, []) 0 0 0 ls [] h Q) : Ct0 l z M d kc ks args h Q := by
  subst hls
  intro E sz
  refine Met.ofWF (cc := M.2.1) (maxL := M.2.2.1) (ret := M.2.2.2) (ws' := px_tbl) hy rfl ?_
  intro p e s m av below meth c s₁ B hml hv
  obtain ⟨rfl, hsz, hP, hK, hD0, hZ, hT, hNn⟩ := hv
  subst hsz
  have hts := atoms_spec (ws := px_ws M) B.pre
  have hnm := (name_of_methodNamed B.named B.method).1
  have hl := lv_entry (args.map (px_v E)) (n := M.2.2.1) (by rw [px_sl]; exact hn)
  rw [lg_entry_eq]
  refine k E p e s m _ below meth c (va_A (px_w E h) s.heap.size) s.heap [] _ _ ⟨B.exec, B.bytes, hml, findClass_of_methodNamed B.named, fun w hw => hts w (List.mem_cons_of_mem _ hw), hnm, hNn⟩ ⟨hK, hP, hD0.self, va_S.rf, fun q h => Or.inr h, hZ, hT⟩ (Nat.zero_le _) (Nat.zero_le _) (px_L.entry E hl) ?_
  intro r h' H' locs' kc' ks' pc' lr' hq hAt h1 h2 hr
  obtain ⟨hK', hP', hD', hS', -, hZ', -⟩ := hAt
  have fin : ∀ t : State, t.heap = H' → px_Qc z E s.heap.size h Q (args.map (px_v E)).toArray s (.returned (r.map (px_v E))) t := by
    intro t ht
    exact ⟨⟨r, h', rfl, hq, by rw [ht]; exact hP', hD', by rw [ht]; exact hZ'⟩, hS'.F ht⟩
  refine W.widen (k := kc) (n := ks) h1 h2 ?_
  match r, hr with
  | none, hr => exact W.vret B.exec B.bytes (B.returns.trans hr.2) (fun t ht _ => fin t ht) hS'.2.2 hr.1 B.notSynchronized
  | some (.int v), ⟨hr, ty, h3, h4⟩ => exact W.zret B.exec B.bytes (B.returns.trans h3) h4 (fun t ht _ => fin t ht) hS'.2.2 hr B.notSynchronized
  | some (.long v), hr => exact W.lret B.exec B.bytes (B.returns.trans hr.2) (fun t ht _ => fin t ht) hS'.2.2 hr.1 B.notSynchronized
  | some (.ref v), ⟨hr, rt, h3, h4⟩ => exact W.aret B.exec B.bytes (B.returns.trans h3) h4 (Or.inr ⟨_, rfl⟩) (fun t ht _ => fin t ht) hS'.2.2 hr B.notSynchronized
theorem Ct0.mono {l : Launch} {z : Bool} {M : px_M} {d kc ks : Nat} {args : List Value} {h : px_H} {Q Q' : Option Value → px_H → Prop} (c : Ct0 l z M d kc ks args h Q) (hq : ∀ r h', Q r h' → Q' r h') : Ct0 l z M d kc ks args h Q' := by
  intro E sz p e a1 a2 a3 s m av below hf hap hp hk
  obtain ⟨n, o, b1, b2, b3, ⟨⟨⟨r, h', c1, c2, c3⟩, c4⟩, b5⟩⟩ := c E sz p e a1 a2 a3 s m av below hf hap hp hk
  exact ⟨n, o, b1, b2, b3, ⟨⟨⟨r, h', c1, hq _ _ c2, c3⟩, c4⟩, b5⟩⟩
section PX
variable {l : Launch} {R : Room} {M : px_M} {XT : px_X} {kc ks pc : Nat} {ls st : List Value} {h : px_H} {Q : Option Value → px_H → Prop}

theorem V0_iadd {x y : Int32} (hd : decode M.2.1 pc = .ok (.iadd, 1))  (k : V0 l R M XT kc ks (pc + 1) ls (.int (x + y) :: st) h Q) : V0 l R M XT kc ks pc ls (.int y :: .int x :: st) h Q := by
  intro E p e s m args below meth c A H locs lr Qs hF hAt hkc hks hL hret
  exact lv_iadd hF.1 hF.2.1 hd (k E p e s m args below meth c A H locs lr Qs hF hAt hkc hks hL hret)
theorem V0_isub {x y : Int32} (hd : decode M.2.1 pc = .ok (.isub, 1))  (k : V0 l R M XT kc ks (pc + 1) ls (.int (x - y) :: st) h Q) : V0 l R M XT kc ks pc ls (.int y :: .int x :: st) h Q := by
  intro E p e s m args below meth c A H locs lr Qs hF hAt hkc hks hL hret
  exact lv_isub hF.1 hF.2.1 hd (k E p e s m args below meth c A H locs lr Qs hF hAt hkc hks hL hret)
theorem V0_imul {x y : Int32} (hd : decode M.2.1 pc = .ok (.imul, 1))  (k : V0 l R M XT kc ks (pc + 1) ls (.int (x * y) :: st) h Q) : V0 l R M XT kc ks pc ls (.int y :: .int x :: st) h Q := by
  intro E p e s m args below meth c A H locs lr Qs hF hAt hkc hks hL hret
  exact lv_imul hF.1 hF.2.1 hd (k E p e s m args below meth c A H locs lr Qs hF hAt hkc hks hL hret)
theorem V0_iand {x y : Int32} (hd : decode M.2.1 pc = .ok (.iand, 1))  (k : V0 l R M XT kc ks (pc + 1) ls (.int (x &&& y) :: st) h Q) : V0 l R M XT kc ks pc ls (.int y :: .int x :: st) h Q := by
  intro E p e s m args below meth c A H locs lr Qs hF hAt hkc hks hL hret
  exact lv_iand hF.1 hF.2.1 hd (k E p e s m args below meth c A H locs lr Qs hF hAt hkc hks hL hret)
theorem V0_ior {x y : Int32} (hd : decode M.2.1 pc = .ok (.ior, 1))  (k : V0 l R M XT kc ks (pc + 1) ls (.int (x ||| y) :: st) h Q) : V0 l R M XT kc ks pc ls (.int y :: .int x :: st) h Q := by
  intro E p e s m args below meth c A H locs lr Qs hF hAt hkc hks hL hret
  exact lv_ior hF.1 hF.2.1 hd (k E p e s m args below meth c A H locs lr Qs hF hAt hkc hks hL hret)
theorem V0_ixor {x y : Int32} (hd : decode M.2.1 pc = .ok (.ixor, 1))  (k : V0 l R M XT kc ks (pc + 1) ls (.int (x ^^^ y) :: st) h Q) : V0 l R M XT kc ks pc ls (.int y :: .int x :: st) h Q := by
  intro E p e s m args below meth c A H locs lr Qs hF hAt hkc hks hL hret
  exact lv_ixor hF.1 hF.2.1 hd (k E p e s m args below meth c A H locs lr Qs hF hAt hkc hks hL hret)
theorem V0_ishl {x y : Int32} (hd : decode M.2.1 pc = .ok (.ishl, 1))  (k : V0 l R M XT kc ks (pc + 1) ls (.int (x <<< (y &&& 31)) :: st) h Q) : V0 l R M XT kc ks pc ls (.int y :: .int x :: st) h Q := by
  intro E p e s m args below meth c A H locs lr Qs hF hAt hkc hks hL hret
  exact lv_ishl hF.1 hF.2.1 hd (k E p e s m args below meth c A H locs lr Qs hF hAt hkc hks hL hret)
theorem V0_ishr {x y : Int32} (hd : decode M.2.1 pc = .ok (.ishr, 1))  (k : V0 l R M XT kc ks (pc + 1) ls (.int (x >>> (y &&& 31)) :: st) h Q) : V0 l R M XT kc ks pc ls (.int y :: .int x :: st) h Q := by
  intro E p e s m args below meth c A H locs lr Qs hF hAt hkc hks hL hret
  exact lv_ishr hF.1 hF.2.1 hd (k E p e s m args below meth c A H locs lr Qs hF hAt hkc hks hL hret)
def px_rem (x y : Int32) : Int32 := x - x / y * y
def px_ushr (x y : Int32) : Int32 := (x.toUInt32 >>> (y.toUInt32 &&& Int32.toUInt32 31)).toInt32
theorem V0_idiv {x y : Int32} (hd : decode M.2.1 pc = .ok (.idiv, 1)) (hne : ¬ y = 0) (k : V0 l R M XT kc ks (pc + 1) ls (.int (x / y) :: st) h Q) : V0 l R M XT kc ks pc ls (.int y :: .int x :: st) h Q := by
  intro E p e s m args below meth c A H locs lr Qs hF hAt hkc hks hL hret
  exact lv_idiv hF.1 hF.2.1 hd hne (k E p e s m args below meth c A H locs lr Qs hF hAt hkc hks hL hret)
theorem V0_irem {x y : Int32} (hd : decode M.2.1 pc = .ok (.irem, 1)) (hne : ¬ y = 0) (k : V0 l R M XT kc ks (pc + 1) ls (.int (px_rem x y) :: st) h Q) : V0 l R M XT kc ks pc ls (.int y :: .int x :: st) h Q := by
  intro E p e s m args below meth c A H locs lr Qs hF hAt hkc hks hL hret
  exact lv_irem hF.1 hF.2.1 hd hne (k E p e s m args below meth c A H locs lr Qs hF hAt hkc hks hL hret)
theorem V0_iushr {x y : Int32} (hd : decode M.2.1 pc = .ok (.iushr, 1))  (k : V0 l R M XT kc ks (pc + 1) ls (.int (px_ushr x y) :: st) h Q) : V0 l R M XT kc ks pc ls (.int y :: .int x :: st) h Q := by
  intro E p e s m args below meth c A H locs lr Qs hF hAt hkc hks hL hret
  exact lv_iushr hF.1 hF.2.1 hd rfl (k E p e s m args below meth c A H locs lr Qs hF hAt hkc hks hL hret)
theorem V0_ineg {x : Int32} (hd : decode M.2.1 pc = .ok (.ineg, 1))  (k : V0 l R M XT kc ks (pc + 1) ls (.int (-x) :: st) h Q) : V0 l R M XT kc ks pc ls (.int x :: st) h Q := by
  intro E p e s m args below meth c A H locs lr Qs hF hAt hkc hks hL hret
  exact lv_ineg hF.1 hF.2.1 hd (k E p e s m args below meth c A H locs lr Qs hF hAt hkc hks hL hret)
theorem V0_ladd {x y : Int64} (hd : decode M.2.1 pc = .ok (.ladd, 1))  (k : V0 l R M XT kc ks (pc + 1) ls (.long (x + y) :: st) h Q) : V0 l R M XT kc ks pc ls (.long y :: .long x :: st) h Q := by
  intro E p e s m args below meth c A H locs lr Qs hF hAt hkc hks hL hret
  exact lv_ladd hF.1 hF.2.1 hd (k E p e s m args below meth c A H locs lr Qs hF hAt hkc hks hL hret)
theorem V0_land {x y : Int64} (hd : decode M.2.1 pc = .ok (.land, 1))  (k : V0 l R M XT kc ks (pc + 1) ls (.long (x &&& y) :: st) h Q) : V0 l R M XT kc ks pc ls (.long y :: .long x :: st) h Q := by
  intro E p e s m args below meth c A H locs lr Qs hF hAt hkc hks hL hret
  exact lv_land hF.1 hF.2.1 hd (k E p e s m args below meth c A H locs lr Qs hF hAt hkc hks hL hret)
theorem V0_lor {x y : Int64} (hd : decode M.2.1 pc = .ok (.lor, 1))  (k : V0 l R M XT kc ks (pc + 1) ls (.long (x ||| y) :: st) h Q) : V0 l R M XT kc ks pc ls (.long y :: .long x :: st) h Q := by
  intro E p e s m args below meth c A H locs lr Qs hF hAt hkc hks hL hret
  exact lv_lor hF.1 hF.2.1 hd (k E p e s m args below meth c A H locs lr Qs hF hAt hkc hks hL hret)
theorem V0_lshl {x : Int64} {y : Int32} (hd : decode M.2.1 pc = .ok (.lshl, 1))  (k : V0 l R M XT kc ks (pc + 1) ls (.long (x <<< (y.toInt64 &&& 63)) :: st) h Q) : V0 l R M XT kc ks pc ls (.int y :: .long x :: st) h Q := by
  intro E p e s m args below meth c A H locs lr Qs hF hAt hkc hks hL hret
  exact lv_lshl hF.1 hF.2.1 hd rfl (k E p e s m args below meth c A H locs lr Qs hF hAt hkc hks hL hret)
theorem V0_lcmp {x y : Int64} (hd : decode M.2.1 pc = .ok (.lcmp, 1))  (k : V0 l R M XT kc ks (pc + 1) ls (.int (lg_cmp x y) :: st) h Q) : V0 l R M XT kc ks pc ls (.long y :: .long x :: st) h Q := by
  intro E p e s m args below meth c A H locs lr Qs hF hAt hkc hks hL hret
  exact W.lcmp hF.1 hF.2.1 hd (k E p e s m args below meth c A H locs lr Qs hF hAt hkc hks hL hret)
theorem V0_i2l {x : Int32} (hd : decode M.2.1 pc = .ok (.i2l, 1))  (k : V0 l R M XT kc ks (pc + 1) ls (.long x.toInt64 :: st) h Q) : V0 l R M XT kc ks pc ls (.int x :: st) h Q := by
  intro E p e s m args below meth c A H locs lr Qs hF hAt hkc hks hL hret
  exact lv_i2l hF.1 hF.2.1 hd rfl (k E p e s m args below meth c A H locs lr Qs hF hAt hkc hks hL hret)
theorem V0_l2i {x : Int64} (hd : decode M.2.1 pc = .ok (.l2i, 1))  (k : V0 l R M XT kc ks (pc + 1) ls (.int x.toInt32 :: st) h Q) : V0 l R M XT kc ks pc ls (.long x :: st) h Q := by
  intro E p e s m args below meth c A H locs lr Qs hF hAt hkc hks hL hret
  exact lv_l2i hF.1 hF.2.1 hd rfl (k E p e s m args below meth c A H locs lr Qs hF hAt hkc hks hL hret)
theorem V0_i2b {x : Int32} (hd : decode M.2.1 pc = .ok (.i2b, 1))  (k : V0 l R M XT kc ks (pc + 1) ls (.int x.toInt8.toInt32 :: st) h Q) : V0 l R M XT kc ks pc ls (.int x :: st) h Q := by
  intro E p e s m args below meth c A H locs lr Qs hF hAt hkc hks hL hret
  exact lv_i2b hF.1 hF.2.1 hd rfl (k E p e s m args below meth c A H locs lr Qs hF hAt hkc hks hL hret)
theorem V0_i2s {x : Int32} (hd : decode M.2.1 pc = .ok (.i2s, 1))  (k : V0 l R M XT kc ks (pc + 1) ls (.int x.toInt16.toInt32 :: st) h Q) : V0 l R M XT kc ks pc ls (.int x :: st) h Q := by
  intro E p e s m args below meth c A H locs lr Qs hF hAt hkc hks hL hret
  exact lv_i2s hF.1 hF.2.1 hd rfl (k E p e s m args below meth c A H locs lr Qs hF hAt hkc hks hL hret)
theorem V0_iconst {n : Int} (v : Int32) (hd : decode M.2.1 pc = .ok (.iconst n, 1)) (hv : Int32.ofInt n = v) (k : V0 l R M XT kc ks (pc + 1) ls (.int v :: st) h Q) : V0 l R M XT kc ks pc ls (st) h Q := by
  intro E p e s m args below meth c A H locs lr Qs hF hAt hkc hks hL hret
  exact lv_iconst hF.1 hF.2.1 hd hv (k E p e s m args below meth c A H locs lr Qs hF hAt hkc hks hL hret)
theorem V0_bipush {n : Int} (v : Int32) (hd : decode M.2.1 pc = .ok (.bipush n, 2)) (hv : (Int8.ofInt n).toInt32 = v) (k : V0 l R M XT kc ks (pc + 2) ls (.int v :: st) h Q) : V0 l R M XT kc ks pc ls (st) h Q := by
  intro E p e s m args below meth c A H locs lr Qs hF hAt hkc hks hL hret
  exact lv_bipush hF.1 hF.2.1 hd hv (k E p e s m args below meth c A H locs lr Qs hF hAt hkc hks hL hret)
theorem V0_sipush {n : Int} (v : Int32) (hd : decode M.2.1 pc = .ok (.sipush n, 3)) (hv : (Int16.ofInt n).toInt32 = v) (k : V0 l R M XT kc ks (pc + 3) ls (.int v :: st) h Q) : V0 l R M XT kc ks pc ls (st) h Q := by
  intro E p e s m args below meth c A H locs lr Qs hF hAt hkc hks hL hret
  exact lv_sipush hF.1 hF.2.1 hd hv (k E p e s m args below meth c A H locs lr Qs hF hAt hkc hks hL hret)
theorem V0_lconst {n : Fin 2} (v : Int64) (hd : decode M.2.1 pc = .ok (.lconst n, 1)) (hv : Int64.ofNat (n : Nat) = v) (k : V0 l R M XT kc ks (pc + 1) ls (.long v :: st) h Q) : V0 l R M XT kc ks pc ls (st) h Q := by
  intro E p e s m args below meth c A H locs lr Qs hF hAt hkc hks hL hret
  exact lv_lconst hF.1 hF.2.1 hd hv (k E p e s m args below meth c A H locs lr Qs hF hAt hkc hks hL hret)
theorem V0_ldc {index : Nat} {v : Int32} (hd : decode M.2.1 pc = .ok (.ldc index, 2)) (hc : Cond.constant M.1.cls index v ∈ px_tbl) (k : V0 l R M XT kc ks (pc + 2) ls (.int v :: st) h Q) : V0 l R M XT kc ks pc ls (st) h Q := by
  intro E p e s m args below meth c A H locs lr Qs hF hAt hkc hks hL hret
  exact lv_ldc hF.1 hF.2.1 hF.2.2.2.1 (hF.2.2.2.2.1 _ hc) hd (k E p e s m args below meth c A H locs lr Qs hF hAt hkc hks hL hret)
theorem V0_ldcw {index : Nat} {v : Int32} (hd : decode M.2.1 pc = .ok (.ldc_w index, 3)) (hc : Cond.constant M.1.cls index v ∈ px_tbl) (k : V0 l R M XT kc ks (pc + 3) ls (.int v :: st) h Q) : V0 l R M XT kc ks pc ls (st) h Q := by
  intro E p e s m args below meth c A H locs lr Qs hF hAt hkc hks hL hret
  exact lv_ldcw hF.1 hF.2.1 hF.2.2.2.1 (hF.2.2.2.2.1 _ hc) hd (k E p e s m args below meth c A H locs lr Qs hF hAt hkc hks hL hret)
theorem V0_ldc2 {index : Nat} {v : Int64} (hd : decode M.2.1 pc = .ok (.ldc2_w index, 3)) (hc : Cond.constantLong M.1.cls index v ∈ px_tbl) (k : V0 l R M XT kc ks (pc + 3) ls (.long v :: st) h Q) : V0 l R M XT kc ks pc ls (st) h Q := by
  intro E p e s m args below meth c A H locs lr Qs hF hAt hkc hks hL hret
  exact lv_ldc2 hF.1 hF.2.1 hF.2.2.2.1 (hF.2.2.2.2.1 _ hc) hd (k E p e s m args below meth c A H locs lr Qs hF hAt hkc hks hL hret)
theorem V0_iload_n {k0 : Fin 4} {x : Int32} (hd : decode M.2.1 pc = .ok (.iload_n k0, 1)) (hl : ls[(k0 : Nat)]? = some (.int x)) (k : V0 l R M XT kc ks (pc + 1) ls (.int x :: st) h Q) : V0 l R M XT kc ks pc ls (st) h Q := by
  intro E p e s m args below meth c A H locs lr Qs hF hAt hkc hks hL hret
  exact lv_iload_n hF.1 hF.2.1 hd rfl (hL.at hl rfl) (k E p e s m args below meth c A H locs lr Qs hF hAt hkc hks hL hret)
theorem V0_aload_n {k0 : Fin 4} {x : Nat} (hd : decode M.2.1 pc = .ok (.aload_n k0, 1)) (hl : ls[(k0 : Nat)]? = some (.ref x)) (k : V0 l R M XT kc ks (pc + 1) ls (.ref x :: st) h Q) : V0 l R M XT kc ks pc ls (st) h Q := by
  intro E p e s m args below meth c A H locs lr Qs hF hAt hkc hks hL hret
  exact lv_aload_n hF.1 hF.2.1 hd rfl (hL.at hl rfl) (k E p e s m args below meth c A H locs lr Qs hF hAt hkc hks hL hret)
theorem V0_taload_n {k0 : Fin 4} {x : UInt32} (hd : decode M.2.1 pc = .ok (.aload_n k0, 1)) (hl : ls[(k0 : Nat)]? = some (.float x)) (k : V0 l R M XT kc ks (pc + 1) ls (.float x :: st) h Q) : V0 l R M XT kc ks pc ls (st) h Q := by
  intro E p e s m args below meth c A H locs lr Qs hF hAt hkc hks hL hret
  exact lv_aload_n hF.1 hF.2.1 hd rfl (hL.at hl rfl) (k E p e s m args below meth c A H locs lr Qs hF hAt hkc hks hL hret)
theorem V0_lload_n {k0 : Fin 4} {x : Int64} (hd : decode M.2.1 pc = .ok (.lload_n k0, 1)) (hl : ls[(k0 : Nat)]? = some (.long x)) (k : V0 l R M XT kc ks (pc + 1) ls (.long x :: st) h Q) : V0 l R M XT kc ks pc ls (st) h Q := by
  intro E p e s m args below meth c A H locs lr Qs hF hAt hkc hks hL hret
  exact lv_lload_n hF.1 hF.2.1 hd rfl (hL.at hl rfl) (k E p e s m args below meth c A H locs lr Qs hF hAt hkc hks hL hret)
theorem V0_iload {i : Nat} {x : Int32} (hd : decode M.2.1 pc = .ok (.iload i, 2)) (hl : ls[i]? = some (.int x)) (k : V0 l R M XT kc ks (pc + 2) ls (.int x :: st) h Q) : V0 l R M XT kc ks pc ls (st) h Q := by
  intro E p e s m args below meth c A H locs lr Qs hF hAt hkc hks hL hret
  exact lv_iload hF.1 hF.2.1 hd (hL.at hl rfl) (k E p e s m args below meth c A H locs lr Qs hF hAt hkc hks hL hret)
theorem V0_aload {i : Nat} {x : Nat} (hd : decode M.2.1 pc = .ok (.aload i, 2)) (hl : ls[i]? = some (.ref x)) (k : V0 l R M XT kc ks (pc + 2) ls (.ref x :: st) h Q) : V0 l R M XT kc ks pc ls (st) h Q := by
  intro E p e s m args below meth c A H locs lr Qs hF hAt hkc hks hL hret
  exact lv_aload hF.1 hF.2.1 hd (hL.at hl rfl) (k E p e s m args below meth c A H locs lr Qs hF hAt hkc hks hL hret)
theorem V0_lload {i : Nat} {x : Int64} (hd : decode M.2.1 pc = .ok (.lload i, 2)) (hl : ls[i]? = some (.long x)) (k : V0 l R M XT kc ks (pc + 2) ls (.long x :: st) h Q) : V0 l R M XT kc ks pc ls (st) h Q := by
  intro E p e s m args below meth c A H locs lr Qs hF hAt hkc hks hL hret
  exact lv_lload hF.1 hF.2.1 hd (hL.at hl rfl) (k E p e s m args below meth c A H locs lr Qs hF hAt hkc hks hL hret)
theorem V0_dup {va : Value} (hd : decode M.2.1 pc = .ok (.dup, 1)) (hva : va.category = 1) (k : V0 l R M XT kc ks (pc + 1) ls (va :: va :: st) h Q) : V0 l R M XT kc ks pc ls (va :: st) h Q := by
  intro E p e s m args below meth c A H locs lr Qs hF hAt hkc hks hL hret
  exact lv_dup hF.1 hF.2.1 hd ((px_cat E va).trans hva) (k E p e s m args below meth c A H locs lr Qs hF hAt hkc hks hL hret)
theorem V0_pop {va : Value} (hd : decode M.2.1 pc = .ok (.pop, 1)) (hva : va.category = 1) (k : V0 l R M XT kc ks (pc + 1) ls (st) h Q) : V0 l R M XT kc ks pc ls (va :: st) h Q := by
  intro E p e s m args below meth c A H locs lr Qs hF hAt hkc hks hL hret
  exact lv_pop hF.1 hF.2.1 hd ((px_cat E va).trans hva) (k E p e s m args below meth c A H locs lr Qs hF hAt hkc hks hL hret)
theorem V0_dup_x1 {va vb : Value} (hd : decode M.2.1 pc = .ok (.dup_x1, 1)) (hva : va.category = 1) (hvb : vb.category = 1) (k : V0 l R M XT kc ks (pc + 1) ls (va :: vb :: va :: st) h Q) : V0 l R M XT kc ks pc ls (va :: vb :: st) h Q := by
  intro E p e s m args below meth c A H locs lr Qs hF hAt hkc hks hL hret
  exact lv_dup_x1 hF.1 hF.2.1 hd ((px_cat E va).trans hva) ((px_cat E vb).trans hvb) (k E p e s m args below meth c A H locs lr Qs hF hAt hkc hks hL hret)
theorem V0_dup2 {va vb : Value} (hd : decode M.2.1 pc = .ok (.dup2, 1)) (hva : va.category = 1) (hvb : vb.category = 1) (k : V0 l R M XT kc ks (pc + 1) ls (va :: vb :: va :: vb :: st) h Q) : V0 l R M XT kc ks pc ls (va :: vb :: st) h Q := by
  intro E p e s m args below meth c A H locs lr Qs hF hAt hkc hks hL hret
  exact lv_dup2_11 hF.1 hF.2.1 hd ((px_cat E va).trans hva) ((px_cat E vb).trans hvb) (k E p e s m args below meth c A H locs lr Qs hF hAt hkc hks hL hret)
theorem V0_istore_nG {k0 : Fin 4} {x : Int32} (hd : decode M.2.1 pc = .ok (.istore_n k0, 1)) (hn : (k0 : Nat) < M.2.2.1) (ho : px_ok1 ls (k0 : Nat)) (k : V0 l R M XT kc ks (pc + 1) (ls.set (k0 : Nat) (.int x)) st h Q) : V0 l R M XT kc ks pc ls (.int x :: st) h Q := by
  intro E p e s m args below meth c A H locs lr Qs hF hAt hkc hks hL hret
  exact lv_istore_n hF.1 hF.2.1 hd rfl hL hn rfl (fun lr' hl' => k E p e s m args below meth c A H locs lr' Qs hF hAt hkc hks (px_L.store1 ho hl') hret)
theorem V0_istoreG {i : Nat} {x : Int32} (hd : decode M.2.1 pc = .ok (.istore i, 2)) (hn : i < M.2.2.1) (ho : px_ok1 ls i) (k : V0 l R M XT kc ks (pc + 2) (ls.set i (.int x)) st h Q) : V0 l R M XT kc ks pc ls (.int x :: st) h Q := by
  intro E p e s m args below meth c A H locs lr Qs hF hAt hkc hks hL hret
  exact lv_istore hF.1 hF.2.1 hd hL hn rfl (fun lr' hl' => k E p e s m args below meth c A H locs lr' Qs hF hAt hkc hks (px_L.store1 ho hl') hret)
theorem V0_astore_nG {k0 : Fin 4} {x : Nat} (hd : decode M.2.1 pc = .ok (.astore_n k0, 1)) (hn : (k0 : Nat) < M.2.2.1) (ho : px_ok1 ls (k0 : Nat)) (k : V0 l R M XT kc ks (pc + 1) (ls.set (k0 : Nat) (.ref x)) st h Q) : V0 l R M XT kc ks pc ls (.ref x :: st) h Q := by
  intro E p e s m args below meth c A H locs lr Qs hF hAt hkc hks hL hret
  exact lv_astore_n hF.1 hF.2.1 hd rfl hL hn rfl (fun lr' hl' => k E p e s m args below meth c A H locs lr' Qs hF hAt hkc hks (px_L.store1 ho hl') hret)
theorem V0_astoreG {i : Nat} {x : Nat} (hd : decode M.2.1 pc = .ok (.astore i, 2)) (hn : i < M.2.2.1) (ho : px_ok1 ls i) (k : V0 l R M XT kc ks (pc + 2) (ls.set i (.ref x)) st h Q) : V0 l R M XT kc ks pc ls (.ref x :: st) h Q := by
  intro E p e s m args below meth c A H locs lr Qs hF hAt hkc hks hL hret
  exact lv_astore hF.1 hF.2.1 hd hL hn rfl (fun lr' hl' => k E p e s m args below meth c A H locs lr' Qs hF hAt hkc hks (px_L.store1 ho hl') hret)
theorem V0_lstore_nG {k0 : Fin 4} {x : Int64} (hd : decode M.2.1 pc = .ok (.lstore_n k0, 1)) (hn : (k0 : Nat) + 1 < M.2.2.1) (ho : px_ok1 ls (k0 : Nat)) (k : V0 l R M XT kc ks (pc + 1) ((ls.set (k0 : Nat) (.long x)).set ((k0 : Nat) + 1) .null) st h Q) : V0 l R M XT kc ks pc ls (.long x :: st) h Q := by
  intro E p e s m args below meth c A H locs lr Qs hF hAt hkc hks hL hret
  exact lv_lstore_n hF.1 hF.2.1 hd rfl hL hn rfl (fun lr' hl' => k E p e s m args below meth c A H locs lr' Qs hF hAt hkc hks (px_L.store2 ho hl') hret)
theorem V0_lstoreG {i : Nat} {x : Int64} (hd : decode M.2.1 pc = .ok (.lstore i, 2)) (hn : i + 1 < M.2.2.1) (ho : px_ok1 ls i) (k : V0 l R M XT kc ks (pc + 2) ((ls.set i (.long x)).set (i + 1) .null) st h Q) : V0 l R M XT kc ks pc ls (.long x :: st) h Q := by
  intro E p e s m args below meth c A H locs lr Qs hF hAt hkc hks hL hret
  exact lv_lstore hF.1 hF.2.1 hd hL hn rfl (fun lr' hl' => k E p e s m args below meth c A H locs lr' Qs hF hAt hkc hks (px_L.store2 ho hl') hret)
theorem px_al_at {E : px_G} {ls : List Value} {i : Nat} {v : Value} (hv : ls[i]? = some v) (hz : px_nz v = true) : ∃ k : Nat, (px_al E ls)[k]? = some (i, px_v E v) := List.getElem?_of_mem (px_al_mem.mpr ⟨v, hv, hz, rfl⟩)
theorem V0_iincG {i : Nat} {n : Int} {x : Int32} (hd : decode M.2.1 pc = .ok (.iinc i n, 3)) (hl : ls[i]? = some (.int x)) (hn : i < M.2.2.1) (ho : px_ok1 ls i) (k : V0 l R M XT kc ks (pc + 3) (ls.set i (.int (x + Int32.ofInt n))) st h Q) : V0 l R M XT kc ks pc ls st h Q := by
  intro E p e s m args below meth c A H locs lr Qs hF hAt hkc hks hL hret
  obtain ⟨j, hj⟩ := px_al_at (E := E) hl rfl
  exact lv_iinc hF.1 hF.2.1 hd hL hj rfl hn rfl (fun lr' hl' => k E p e s m args below meth c A H locs lr' Qs hF hAt hkc hks (px_L.store1 (v := .int (x + Int32.ofInt n)) ho hl') hret)
theorem V0_if_eq {x : Int32} {off : Int} (tgt : Nat) (hd : decode M.2.1 pc = .ok (.ifCond .eq off, 3)) (ht : (pc : Int) + off = (tgt : Int)) (kt : x = 0 → V0 l R M XT kc ks tgt ls st h Q) (kf : ¬ x = 0 → V0 l R M XT kc ks (pc + 3) ls st h Q) : V0 l R M XT kc ks pc ls (.int x :: st) h Q := by
  intro E p e s m args below meth c A H locs lr Qs hF hAt hkc hks hL hret
  exact lv_if_eq hF.1 hF.2.1 hd ht (fun hc => kt hc E p e s m args below meth c A H locs lr Qs hF hAt hkc hks hL hret) (fun hc => kf hc E p e s m args below meth c A H locs lr Qs hF hAt hkc hks hL hret)
theorem V0_icmp_eq {x y : Int32} {off : Int} (tgt : Nat) (hd : decode M.2.1 pc = .ok (.if_icmp .eq off, 3)) (ht : (pc : Int) + off = (tgt : Int)) (kt : x = y → V0 l R M XT kc ks tgt ls st h Q) (kf : ¬ x = y → V0 l R M XT kc ks (pc + 3) ls st h Q) : V0 l R M XT kc ks pc ls (.int y :: .int x :: st) h Q := by
  intro E p e s m args below meth c A H locs lr Qs hF hAt hkc hks hL hret
  exact lv_icmp_eq hF.1 hF.2.1 hd ht (fun hc => kt hc E p e s m args below meth c A H locs lr Qs hF hAt hkc hks hL hret) (fun hc => kf hc E p e s m args below meth c A H locs lr Qs hF hAt hkc hks hL hret)
theorem V0_if_ne {x : Int32} {off : Int} (tgt : Nat) (hd : decode M.2.1 pc = .ok (.ifCond .ne off, 3)) (ht : (pc : Int) + off = (tgt : Int)) (kt : ¬ x = 0 → V0 l R M XT kc ks tgt ls st h Q) (kf : x = 0 → V0 l R M XT kc ks (pc + 3) ls st h Q) : V0 l R M XT kc ks pc ls (.int x :: st) h Q := by
  intro E p e s m args below meth c A H locs lr Qs hF hAt hkc hks hL hret
  exact lv_if_ne hF.1 hF.2.1 hd ht (fun hc => kt hc E p e s m args below meth c A H locs lr Qs hF hAt hkc hks hL hret) (fun hc => kf hc E p e s m args below meth c A H locs lr Qs hF hAt hkc hks hL hret)
theorem V0_icmp_ne {x y : Int32} {off : Int} (tgt : Nat) (hd : decode M.2.1 pc = .ok (.if_icmp .ne off, 3)) (ht : (pc : Int) + off = (tgt : Int)) (kt : ¬ x = y → V0 l R M XT kc ks tgt ls st h Q) (kf : x = y → V0 l R M XT kc ks (pc + 3) ls st h Q) : V0 l R M XT kc ks pc ls (.int y :: .int x :: st) h Q := by
  intro E p e s m args below meth c A H locs lr Qs hF hAt hkc hks hL hret
  exact lv_icmp_ne hF.1 hF.2.1 hd ht (fun hc => kt hc E p e s m args below meth c A H locs lr Qs hF hAt hkc hks hL hret) (fun hc => kf hc E p e s m args below meth c A H locs lr Qs hF hAt hkc hks hL hret)
theorem V0_if_lt {x : Int32} {off : Int} (tgt : Nat) (hd : decode M.2.1 pc = .ok (.ifCond .lt off, 3)) (ht : (pc : Int) + off = (tgt : Int)) (kt : x < 0 → V0 l R M XT kc ks tgt ls st h Q) (kf : ¬ x < 0 → V0 l R M XT kc ks (pc + 3) ls st h Q) : V0 l R M XT kc ks pc ls (.int x :: st) h Q := by
  intro E p e s m args below meth c A H locs lr Qs hF hAt hkc hks hL hret
  exact lv_if_lt hF.1 hF.2.1 hd ht (fun hc => kt hc E p e s m args below meth c A H locs lr Qs hF hAt hkc hks hL hret) (fun hc => kf hc E p e s m args below meth c A H locs lr Qs hF hAt hkc hks hL hret)
theorem V0_icmp_lt {x y : Int32} {off : Int} (tgt : Nat) (hd : decode M.2.1 pc = .ok (.if_icmp .lt off, 3)) (ht : (pc : Int) + off = (tgt : Int)) (kt : x < y → V0 l R M XT kc ks tgt ls st h Q) (kf : ¬ x < y → V0 l R M XT kc ks (pc + 3) ls st h Q) : V0 l R M XT kc ks pc ls (.int y :: .int x :: st) h Q := by
  intro E p e s m args below meth c A H locs lr Qs hF hAt hkc hks hL hret
  exact lv_icmp_lt hF.1 hF.2.1 hd ht (fun hc => kt hc E p e s m args below meth c A H locs lr Qs hF hAt hkc hks hL hret) (fun hc => kf hc E p e s m args below meth c A H locs lr Qs hF hAt hkc hks hL hret)
theorem V0_if_ge {x : Int32} {off : Int} (tgt : Nat) (hd : decode M.2.1 pc = .ok (.ifCond .ge off, 3)) (ht : (pc : Int) + off = (tgt : Int)) (kt : 0 ≤ x → V0 l R M XT kc ks tgt ls st h Q) (kf : ¬ 0 ≤ x → V0 l R M XT kc ks (pc + 3) ls st h Q) : V0 l R M XT kc ks pc ls (.int x :: st) h Q := by
  intro E p e s m args below meth c A H locs lr Qs hF hAt hkc hks hL hret
  exact lv_if_ge hF.1 hF.2.1 hd ht (fun hc => kt hc E p e s m args below meth c A H locs lr Qs hF hAt hkc hks hL hret) (fun hc => kf hc E p e s m args below meth c A H locs lr Qs hF hAt hkc hks hL hret)
theorem V0_icmp_ge {x y : Int32} {off : Int} (tgt : Nat) (hd : decode M.2.1 pc = .ok (.if_icmp .ge off, 3)) (ht : (pc : Int) + off = (tgt : Int)) (kt : y ≤ x → V0 l R M XT kc ks tgt ls st h Q) (kf : ¬ y ≤ x → V0 l R M XT kc ks (pc + 3) ls st h Q) : V0 l R M XT kc ks pc ls (.int y :: .int x :: st) h Q := by
  intro E p e s m args below meth c A H locs lr Qs hF hAt hkc hks hL hret
  exact lv_icmp_ge hF.1 hF.2.1 hd ht (fun hc => kt hc E p e s m args below meth c A H locs lr Qs hF hAt hkc hks hL hret) (fun hc => kf hc E p e s m args below meth c A H locs lr Qs hF hAt hkc hks hL hret)
theorem V0_if_gt {x : Int32} {off : Int} (tgt : Nat) (hd : decode M.2.1 pc = .ok (.ifCond .gt off, 3)) (ht : (pc : Int) + off = (tgt : Int)) (kt : 0 < x → V0 l R M XT kc ks tgt ls st h Q) (kf : ¬ 0 < x → V0 l R M XT kc ks (pc + 3) ls st h Q) : V0 l R M XT kc ks pc ls (.int x :: st) h Q := by
  intro E p e s m args below meth c A H locs lr Qs hF hAt hkc hks hL hret
  exact lv_if_gt hF.1 hF.2.1 hd ht (fun hc => kt hc E p e s m args below meth c A H locs lr Qs hF hAt hkc hks hL hret) (fun hc => kf hc E p e s m args below meth c A H locs lr Qs hF hAt hkc hks hL hret)
theorem V0_icmp_gt {x y : Int32} {off : Int} (tgt : Nat) (hd : decode M.2.1 pc = .ok (.if_icmp .gt off, 3)) (ht : (pc : Int) + off = (tgt : Int)) (kt : y < x → V0 l R M XT kc ks tgt ls st h Q) (kf : ¬ y < x → V0 l R M XT kc ks (pc + 3) ls st h Q) : V0 l R M XT kc ks pc ls (.int y :: .int x :: st) h Q := by
  intro E p e s m args below meth c A H locs lr Qs hF hAt hkc hks hL hret
  exact lv_icmp_gt hF.1 hF.2.1 hd ht (fun hc => kt hc E p e s m args below meth c A H locs lr Qs hF hAt hkc hks hL hret) (fun hc => kf hc E p e s m args below meth c A H locs lr Qs hF hAt hkc hks hL hret)
theorem V0_if_le {x : Int32} {off : Int} (tgt : Nat) (hd : decode M.2.1 pc = .ok (.ifCond .le off, 3)) (ht : (pc : Int) + off = (tgt : Int)) (kt : x ≤ 0 → V0 l R M XT kc ks tgt ls st h Q) (kf : ¬ x ≤ 0 → V0 l R M XT kc ks (pc + 3) ls st h Q) : V0 l R M XT kc ks pc ls (.int x :: st) h Q := by
  intro E p e s m args below meth c A H locs lr Qs hF hAt hkc hks hL hret
  exact lv_if_le hF.1 hF.2.1 hd ht (fun hc => kt hc E p e s m args below meth c A H locs lr Qs hF hAt hkc hks hL hret) (fun hc => kf hc E p e s m args below meth c A H locs lr Qs hF hAt hkc hks hL hret)
theorem V0_icmp_le {x y : Int32} {off : Int} (tgt : Nat) (hd : decode M.2.1 pc = .ok (.if_icmp .le off, 3)) (ht : (pc : Int) + off = (tgt : Int)) (kt : x ≤ y → V0 l R M XT kc ks tgt ls st h Q) (kf : ¬ x ≤ y → V0 l R M XT kc ks (pc + 3) ls st h Q) : V0 l R M XT kc ks pc ls (.int y :: .int x :: st) h Q := by
  intro E p e s m args below meth c A H locs lr Qs hF hAt hkc hks hL hret
  exact lv_icmp_le hF.1 hF.2.1 hd ht (fun hc => kt hc E p e s m args below meth c A H locs lr Qs hF hAt hkc hks hL hret) (fun hc => kf hc E p e s m args below meth c A H locs lr Qs hF hAt hkc hks hL hret)
theorem V0_goto {off : Int} (tgt : Nat) (hd : decode M.2.1 pc = .ok (.goto off, 3)) (ht : (pc : Int) + off = (tgt : Int)) (k : V0 l R M XT kc ks tgt ls st h Q) : V0 l R M XT kc ks pc ls st h Q := by
  intro E p e s m args below meth c A H locs lr Qs hF hAt hkc hks hL hret
  exact lv_goto hF.1 hF.2.1 hd ht (k E p e s m args below meth c A H locs lr Qs hF hAt hkc hks hL hret)
theorem V0_tableOut {dflt lo hi : Int} {offs : Array Int} {len : Nat} {x : Int32} (tgt : Nat) (hd : decode M.2.1 pc = .ok (.tableswitch dflt lo hi offs, len)) (h1 : x.toInt < lo ∨ hi < x.toInt) (ht : (pc : Int) + dflt = (tgt : Int)) (k : V0 l R M XT kc ks tgt ls st h Q) : V0 l R M XT kc ks pc ls (.int x :: st) h Q := by
  intro E p e s m args below meth c A H locs lr Qs hF hAt hkc hks hL hret
  exact lv_tableOut hF.1 hF.2.1 hd h1 ht (k E p e s m args below meth c A H locs lr Qs hF hAt hkc hks hL hret)
theorem V0_tableIn {dflt lo hi : Int} {offs : Array Int} {len : Nat} {x : Int32} {off : Int} (tgt : Nat) (hd : decode M.2.1 pc = .ok (.tableswitch dflt lo hi offs, len)) (h1 : ¬ x.toInt < lo) (h2 : ¬ hi < x.toInt) (ho : offs[(x.toInt - lo).toNat]? = some off) (ht : (pc : Int) + off = (tgt : Int)) (k : V0 l R M XT kc ks tgt ls st h Q) : V0 l R M XT kc ks pc ls (.int x :: st) h Q := by
  intro E p e s m args below meth c A H locs lr Qs hF hAt hkc hks hL hret
  exact lv_tableIn hF.1 hF.2.1 hd h1 h2 ho ht (k E p e s m args below meth c A H locs lr Qs hF hAt hkc hks hL hret)
theorem V0_lookup {dflt : Int} {ps : Array (Int × Int)} {len : Nat} {x : Int32} {off : Int} (tgt : Nat) (hd : decode M.2.1 pc = .ok (.lookupswitch dflt ps, len)) (hp : (ps.toList.zip (ps.toList.drop 1)).all (fun (a, next) => a.1 < next.1) = true) (ho : Op.lookupswitch.offset ps.toList dflt x.toInt = off) (ht : (pc : Int) + off = (tgt : Int)) (k : V0 l R M XT kc ks tgt ls st h Q) : V0 l R M XT kc ks pc ls (.int x :: st) h Q := by
  intro E p e s m args below meth c A H locs lr Qs hF hAt hkc hks hL hret
  exact lv_lookup hF.1 hF.2.1 hd hp ho ht (k E p e s m args below meth c A H locs lr Qs hF hAt hkc hks hL hret)
/-- a method's end -/
theorem V0_end (r : Option Value) (hr : px_ret M pc r) (hst : r.toList = st) (hq : Q r h) : V0 l R M XT kc ks pc ls st h Q := by
  intro E p e s m args below meth c A H locs lr Qs hF hAt hkc hks hL hret
  subst hst
  exact hret r h H locs kc ks pc lr hq hAt hkc hks hr
theorem V0.mono {Q' : Option Value → px_H → Prop} (k : V0 l R M XT kc ks pc ls st h Q') (hq : ∀ r h', Q' r h' → Q r h') : V0 l R M XT kc ks pc ls st h Q := by
  intro E p e s m args below meth c A H locs lr Qs hF hAt hkc hks hL hret
  exact k E p e s m args below meth c A H locs lr Qs hF hAt hkc hks hL (fun r h' H' locs' kc' ks' pc' lr' h1 => hret r h' H' locs' kc' ks' pc' lr' (hq r h' h1))
/-- fields: what the tables say of a place's field -/
def px_fl (own : String) (idx ci k : Nat) (fin : Bool) (ty : FieldType) : Prop := ∃ (C : String) (T : u_T) (N : Nat) (ty0 : Nat → FieldType), vwCl[ci]? = some (C, T, N) ∧ k < N ∧ (∀ w ∈ u_ws C T N, w ∈ px_tbl) ∧ (∀ k, k < N → parseFieldDescriptor (T k).2.2.1 = some (ty0 k)) ∧ (∀ a, a < N → ∀ b, b < N → a ≠ b → (T a).2.1 ≠ (T b).2.1) ∧ Cond.fieldLink own idx (T k).1 (T k).2.1 (T k).2.2.1 ∈ px_tbl ∧ (T k).1 = C ∧ (T k).2.2.2 = fin ∧ parseFieldDescriptor (T k).2.2.1 = some ty
theorem V0_get {idx ci k p0 : Nat} {fin : Bool} {ty : FieldType} {fs : List Value} {v : Value} (hd : decode M.2.1 pc = .ok (.getfield idx, 3)) (hf : px_fl M.1.cls idx ci k fin ty) (he : h[p0]? = some (.inr (ci, fs))) (hv : fs[k]? = some v) (kk : V0 l R M XT kc ks (pc + 3) ls (v :: st) h Q) : V0 l R M XT kc ks pc ls (.ref p0 :: st) h Q := by
  intro E p e s m args below meth c A H locs lr Qs hF hAt hkc hks hL hret
  obtain ⟨C, T, N, ty0, h1, h2, h3, h4, h5, h6, h7, h8, h9⟩ := hf
  exact va_get (D := (E.1, E.2.1)) (cl := vwCl) (ci := ci) (C := C) (T := T) (N := N) hF.1 hF.2.1 hF.2.2.2.2.1 h3 hF.2.2.2.1 hAt.1 hAt.2.1 p0 (px_w_get he) h1 k h2 (hF.2.2.2.2.1 _ h6) (fun _ h => h) (v := px_v E v) (by rw [List.getElem?_map, hv]; rfl) hd (kk E p e s m args below meth c A H locs lr Qs hF hAt hkc hks hL hret)
/-- the heap after a store: what is known of it -/
theorem px_At.upd {E : px_G} {A : Nat → Prop} {s : State} {h h1 : px_H} {H H1 : Heap} {locs locs1 : List Loc} (a : px_At E XT A s h H locs) (hl : h1.length = h.length) (hP : va_P (E.1, E.2.1) vwCl (px_w E h1) H1) (hD : va_D A (px_w E h1)) (hS : va_S A s.heap H1 locs1) (hz : H1.size = H.size) : px_At E XT A s h1 H1 locs1 :=
  ⟨a.1, hP, hD, hS, a.2.2.2.2.1, by unfold px_Z; rw [hl, hz]; exact a.2.2.2.2.2.1, a.2.2.2.2.2.2⟩

theorem px_put {own C : String} {T : u_T} {N ci index k p0 : Nat} {p : Program} {e : Env} {s : State} {m : MethodId} {args : Array Value} {below : List Frame} {meth : Method} {c : Code} {H : Heap} {locs : List Loc} {cells slots : Nat} {Qs : State → Prop} {cc : ByteArray} {lr : Array Slot} {rest : List Value} {E : px_G} {A : Nat → Prop} {ty0 : Nat → FieldType} (hexec : p.tables.exec = Jvm.exec) (hb : c.code = cc) (hts : ∀ w ∈ px_tbl, w.before args s = true) (hin : ∀ w ∈ u_ws C T N, w ∈ px_tbl) (hty : ∀ k, k < N → parseFieldDescriptor (T k).2.2.1 = some (ty0 k)) (hnm : ∀ a, a < N → ∀ b, b < N → a ≠ b → (T a).2.1 ≠ (T b).2.1) (hown : s.vm.findClass own = some m.cls) (hc : vwCl[ci]? = some (C, T, N)) (hk : k < N) (hlink : (Cond.fieldLink own index (T k).1 (T k).2.1 (T k).2.2.1).before args s = true) (hfin : (T k).2.2.2 = false ∨ ((T k).2.2.2 = true ∧ meth.name = "<init>" ∧ (T k).1 = own)) {ty : FieldType} {v : Value} (hd : parseFieldDescriptor (T k).2.2.1 = some ty) (hn : narrow ty (px_v E v) = px_v E v) (hfit : fits ty (px_v E v) = true)
    {fs : List Value} (hl : k < fs.length) (he : h[p0]? = some (.inr (ci, fs))) (a : px_At E XT A s h H locs) (hdg : decode cc pc = .ok (.putfield index, 3))
    (kk : ∀ (H1 : Heap) (locs1 : List Loc), px_At E XT A s (h.set p0 (.inr (ci, fs.set k v))) H1 locs1 → W p l e R s m args below meth c H1 locs1 cells slots Qs (F0 m (pc + 3) lr rest)) : W p l e R s m args below meth c H locs cells slots Qs (F0 m pc lr (px_v E v :: .ref (E.2.2.2.1 p0) :: rest)) := by
  have hK := a.1
  have hap := va_apart (own := own) hts hin ty0 hty hnm hK hc
  have he' := px_w_get (E := E) he
  obtain ⟨r, h1, cell, q1, q2, q3, q4⟩ := a.2.1 p0 _ he'
  have hr : r = (C, T, N) := Option.some.inj (h1.symm.trans hc)
  subst hr
  obtain ⟨hS, hfc, kC, hkC, hkind⟩ := hK.1 ci _ hc
  obtain ⟨cf, kf, fi, f, hi, hsl⟩ := hS k hk
  have fin : ∀ (H' : Heap) (L : List Loc), H'[E.2.2.2.1 p0]? = some (cell.setSlot f.slot (px_v E v)) → H'.size = H.size → (∀ q : Nat, q ≠ E.2.2.2.1 p0 → H'[q]? = H[q]?) → L = locs ++ [⟨E.2.2.2.1 p0, f.slot⟩] → px_At E XT A s (h.set p0 (.inr (ci, fs.set k v))) H' L := by
    intro H' L e1 e2 e3 e4
    subst e4
    have hat : va_at (E.1, E.2.1) vwCl (E.2.2.2.1 p0, .inr (ci, (fs.map (px_v E)).set k (px_v E v))) H' := by
      rw [hsl] at e1
      exact ⟨_, hc, t_OB.to (V := updV (vp_V (fs.map (px_v E))) k (px_v E v)) ⟨_, e1, q2, q3, t_set q4 hap hk (px_v E v)⟩ (fun j _ => vp_updV_set (by simpa using hl) (px_v E v) j)⟩
    have hset : (px_w E h).set p0 (E.2.2.2.1 p0, .inr (ci, (fs.map (px_v E)).set k (px_v E v))) = px_w E (h.set p0 (.inr (ci, fs.set k v))) := by
      rw [← px_w_set]
      simp [px_e, List.map_set]
    refine px_At.upd a (by simp) ?_ ?_ (va_S.put a.2.2.2.1 e2 e3 (a.2.2.1.2 p0 _ he')) e2
    · rw [← hset]
      exact va_P.set a.2.1 a.2.2.1 he' hat e3
    · rw [← hset]
      exact a.2.2.1.set he'
  have hst := (u_facts hfc hkC (u_lays hts hin hk) hi).1
  have hlay := hts _ (hin _ (u_in_lay hk))
  unfold u_lay at hlay
  rcases hfin with hfin | ⟨hfin, hin2, hdecl⟩
  · rw [if_neg (by rw [hfin]; decide)] at hlay
    have h6 := u_store hfc hkC hkind hlay hi hd hn hfit
    refine W.putK hexec hb (f := f) ⟨hown, hlink, ⟨_, _, _, hi⟩, hst⟩ (by rw [q2]; exact h6) q1 q3 (by rw [hsl]; exact k2_hasslot (q4 k hk)) rfl rfl hdg fun H' e1 e2 e3 => ?_
    exact kk H' _ (fin H' _ e1 e2 e3 rfl)
  · rw [if_pos hfin] at hlay
    have hcf : m.cls = cf := by
      obtain ⟨_, _, c', _, _, _, -, -, hf', -, -, -, hown2, -⟩ := Cond.laysFinal_spec hlay
      have e1 : c' = cf := by have := hi.symm.trans hf'; simp at this; exact this.1.symm
      rw [hdecl] at hown2
      rw [← e1]; exact Option.some.inj (hown.symm.trans hown2)
    have h6 := u_fits hfc hkC hkind (Or.inr hlay) hi hd hn hfit
    refine W.putFinK hexec hb hown hlink hi hst hcf hin2 (by rw [q2]; exact h6) q1 q3 (by rw [hsl]; exact k2_hasslot (q4 k hk)) rfl rfl hdg fun H' e1 e2 e3 => ?_
    exact kk H' _ (fin H' _ e1 e2 e3 rfl)
theorem V0_put {idx ci k p0 : Nat} {ty : FieldType} {fs : List Value} {v : Value} (hd : decode M.2.1 pc = .ok (.putfield idx, 3)) (hf : px_fl M.1.cls idx ci k false ty) (he : h[p0]? = some (.inr (ci, fs))) (hl : k < fs.length) (hn : ∀ E, narrow ty (px_v E v) = px_v E v) (hfit : ∀ E, fits ty (px_v E v) = true) (kk : V0 l R M XT kc ks (pc + 3) ls st (h.set p0 (.inr (ci, fs.set k v))) Q) : V0 l R M XT kc ks pc ls (v :: .ref p0 :: st) h Q := by
  intro E p e s m args below meth c A H locs lr Qs hF hAt hkc hks hL hret
  obtain ⟨C, T, N, ty0, h1, h2, h3, h4, h5, h6, h7, h8, h9⟩ := hf
  exact px_put hF.1 hF.2.1 hF.2.2.2.2.1 h3 h4 h5 hF.2.2.2.1 h1 h2 (hF.2.2.2.2.1 _ h6) (Or.inl h8) h9 (hn E) (hfit E) hl he hAt hd (fun H1 locs1 a1 => kk E p e s m args below meth c A H1 locs1 lr Qs hF a1 hkc hks hL hret)
theorem V0_putF {idx ci k p0 : Nat} {ty : FieldType} {fs : List Value} {v : Value} (hd : decode M.2.1 pc = .ok (.putfield idx, 3)) (hf : px_fl M.1.cls idx ci k true ty) (hi : M.1.name = "<init>") (hc : vwCl[ci]?.map (fun q => q.1) = some M.1.cls) (he : h[p0]? = some (.inr (ci, fs))) (hl : k < fs.length) (hn : ∀ E, narrow ty (px_v E v) = px_v E v) (hfit : ∀ E, fits ty (px_v E v) = true) (kk : V0 l R M XT kc ks (pc + 3) ls st (h.set p0 (.inr (ci, fs.set k v))) Q) : V0 l R M XT kc ks pc ls (v :: .ref p0 :: st) h Q := by
  intro E p e s m args below meth c A H locs lr Qs hF hAt hkc hks hL hret
  obtain ⟨C, T, N, ty0, h1, h2, h3, h4, h5, h6, h7, h8, h9⟩ := hf
  rw [h1] at hc
  have hc : C = M.1.cls := Option.some.inj hc
  exact px_put hF.1 hF.2.1 hF.2.2.2.2.1 h3 h4 h5 hF.2.2.2.1 h1 h2 (hF.2.2.2.2.1 _ h6) (Or.inr ⟨h8, hF.2.2.2.2.2.1.trans hi, h7.trans hc⟩) h9 (hn E) (hfit E) hl he hAt hd (fun H1 locs1 a1 => kk E p e s m args below meth c A H1 locs1 lr Qs hF a1 hkc hks hL hret)

theorem V0_iald {p0 n : Nat} {f : Nat → Int32} {i : Int32} (hd : decode M.2.1 pc = .ok (.iaload, 1)) (he : h[p0]? = some (.inl (0, n, .inl f))) (hi : vp_in i n) (kk : V0 l R M XT kc ks (pc + 1) ls (.int (f i.toNatClampNeg) :: st) h Q) : V0 l R M XT kc ks pc ls (.int i :: .ref p0 :: st) h Q := by
  intro E p e s m args below meth c A H locs lr Qs hF hAt hkc hks hL hret
  exact va_iald (D := (E.1, E.2.1)) (cl := vwCl) hF.1 hF.2.1 hAt.1 hAt.2.1 p0 0 (cA := E.2.2.1 0) (n := n) (f := f) (px_w_get he) rfl hi hd (kk E p e s m args below meth c A H locs lr Qs hF hAt hkc hks hL hret)
theorem V0_bald {p0 n : Nat} {f : Nat → Int32} {i : Int32} (hd : decode M.2.1 pc = .ok (.baload, 1)) (he : h[p0]? = some (.inl (1, n, .inl f))) (hi : vp_in i n) (kk : V0 l R M XT kc ks (pc + 1) ls (.int (f i.toNatClampNeg) :: st) h Q) : V0 l R M XT kc ks pc ls (.int i :: .ref p0 :: st) h Q := by
  intro E p e s m args below meth c A H locs lr Qs hF hAt hkc hks hL hret
  exact va_bald (D := (E.1, E.2.1)) (cl := vwCl) hF.1 hF.2.1 hAt.1 hAt.2.1 p0 1 (cA := E.2.2.1 1) (n := n) (f := f) (px_w_get he) rfl hi hd (kk E p e s m args below meth c A H locs lr Qs hF hAt hkc hks hL hret)
theorem V0_zald {p0 n : Nat} {f : Nat → Int32} {i : Int32} (hd : decode M.2.1 pc = .ok (.baload, 1)) (he : h[p0]? = some (.inl (2, n, .inl f))) (hi : vp_in i n) (kk : V0 l R M XT kc ks (pc + 1) ls (.int (f i.toNatClampNeg) :: st) h Q) : V0 l R M XT kc ks pc ls (.int i :: .ref p0 :: st) h Q := by
  intro E p e s m args below meth c A H locs lr Qs hF hAt hkc hks hL hret
  exact va_zald (D := (E.1, E.2.1)) (cl := vwCl) hF.1 hF.2.1 hAt.1 hAt.2.1 p0 2 (cA := E.2.2.1 2) (n := n) (f := f) (px_w_get he) rfl hi hd (kk E p e s m args below meth c A H locs lr Qs hF hAt hkc hks hL hret)
theorem V0_sald {p0 n : Nat} {f : Nat → Int32} {i : Int32} (hd : decode M.2.1 pc = .ok (.saload, 1)) (he : h[p0]? = some (.inl (3, n, .inl f))) (hi : vp_in i n) (kk : V0 l R M XT kc ks (pc + 1) ls (.int (f i.toNatClampNeg) :: st) h Q) : V0 l R M XT kc ks pc ls (.int i :: .ref p0 :: st) h Q := by
  intro E p e s m args below meth c A H locs lr Qs hF hAt hkc hks hL hret
  exact va_sald (D := (E.1, E.2.1)) (cl := vwCl) hF.1 hF.2.1 hAt.1 hAt.2.1 p0 3 (cA := E.2.2.1 3) (n := n) (f := f) (px_w_get he) rfl hi hd (kk E p e s m args below meth c A H locs lr Qs hF hAt hkc hks hL hret)
theorem V0_lald {p0 n : Nat} {f : Nat → Int64} {i : Int32} (hd : decode M.2.1 pc = .ok (.laload, 1)) (he : h[p0]? = some (.inl (4, n, .inr (.inl f)))) (hi : vp_in i n) (kk : V0 l R M XT kc ks (pc + 1) ls (.long (f i.toNatClampNeg) :: st) h Q) : V0 l R M XT kc ks pc ls (.int i :: .ref p0 :: st) h Q := by
  intro E p e s m args below meth c A H locs lr Qs hF hAt hkc hks hL hret
  exact va_lald (D := (E.1, E.2.1)) (cl := vwCl) hF.1 hF.2.1 hAt.1 hAt.2.1 p0 4 (cA := E.2.2.1 4) (n := n) (f := f) (px_w_get he) rfl hi hd (kk E p e s m args below meth c A H locs lr Qs hF hAt hkc hks hL hret)
/-- an array's cell behind a store -/
theorem px_At.arr {E : px_G} {A : Nat → Prop} {s : State} {H H1 : Heap} {locs : List Loc} {p0 t k : Nat} {a0 a1 : vp_A} (a : px_At E XT A s h H locs) (he : h[p0]? = some (.inl (t, a0))) (e1 : H1[E.2.2.2.1 p0]? = some (vp_cell (E.2.2.1 t) a1)) (z : H1.size = H.size) (oq : ∀ q : Nat, q ≠ E.2.2.2.1 p0 → H1[q]? = H[q]?) : px_At E XT A s (h.set p0 (.inl (t, a1))) H1 (locs ++ [⟨E.2.2.2.1 p0, k⟩]) := by
  have he' := px_w_get (E := E) he
  have hset : (px_w E h).set p0 (E.2.2.2.1 p0, .inl (E.2.2.1 t, a1)) = px_w E (h.set p0 (.inl (t, a1))) := by
    rw [← px_w_set]; rfl
  refine px_At.upd a (by simp) ?_ ?_ (va_S.put a.2.2.2.1 z oq (a.2.2.1.2 p0 _ he')) z
  · rw [← hset]
    exact va_P.set a.2.1 a.2.2.1 he' e1 oq
  · rw [← hset]
    exact a.2.2.1.set he'

theorem V0_iast {p0 n : Nat} {f : Nat → Int32} {i x : Int32} (hd : decode M.2.1 pc = .ok (.iastore, 1)) (he : h[p0]? = some (.inl (0, n, .inl f))) (hi : vp_in i n) (kk : V0 l R M XT kc ks (pc + 1) ls st (h.set p0 (.inl (0, n, .inl (upd f i.toNatClampNeg x)))) Q) : V0 l R M XT kc ks pc ls (.int x :: .int i :: .ref p0 :: st) h Q := by
  intro E p e s m args below meth c A H locs lr Qs hF hAt hkc hks hL hret
  refine W.iast hF.1 hF.2.1 (hAt.2.1 p0 _ (px_w_get he)) ((hAt.1.2 0 _ rfl).1 n (fun j => .int (f j))) (fun q => by cases q) (by show ¬ (i < 0 ∨ (arrV _ _ _).slots.size ≤ _); rw [arrV_size]; exact hi) rfl rfl hd fun H1 e1 z oq => ?_
  refine kk E p e s m args below meth c A H1 _ lr Qs hF (px_At.arr (k := _) hAt he ?_ z oq) hkc hks hL hret
  rw [e1]
  show some (Cell.setSlot (vp_cell _ (n, .inl f)) _ _) = _
  rw [vp_cell_i, vp_cell_i, arrV_store]
  congr 2
  funext q
  by_cases hq : q = i.toNatClampNeg
  · subst hq
    simp [updV, upd, vp_nar]
    try rfl
  · simp [updV, upd, hq]
theorem V0_bast {p0 n : Nat} {f : Nat → Int32} {i x : Int32} (hd : decode M.2.1 pc = .ok (.bastore, 1)) (he : h[p0]? = some (.inl (1, n, .inl f))) (hi : vp_in i n) (kk : V0 l R M XT kc ks (pc + 1) ls st (h.set p0 (.inl (1, n, .inl (upd f i.toNatClampNeg (vp_nar .byte x))))) Q) : V0 l R M XT kc ks pc ls (.int x :: .int i :: .ref p0 :: st) h Q := by
  intro E p e s m args below meth c A H locs lr Qs hF hAt hkc hks hL hret
  refine W.bast hF.1 hF.2.1 (hAt.2.1 p0 _ (px_w_get he)) ((hAt.1.2 1 _ rfl).1 n (fun j => .int (f j))) (fun q => by cases q) (by show ¬ (i < 0 ∨ (arrV _ _ _).slots.size ≤ _); rw [arrV_size]; exact hi) rfl rfl hd fun H1 e1 z oq => ?_
  refine kk E p e s m args below meth c A H1 _ lr Qs hF (px_At.arr (k := _) hAt he ?_ z oq) hkc hks hL hret
  rw [e1]
  show some (Cell.setSlot (vp_cell _ (n, .inl f)) _ _) = _
  rw [vp_cell_i, vp_cell_i, arrV_store]
  congr 2
  funext q
  by_cases hq : q = i.toNatClampNeg
  · subst hq
    simp [updV, upd, vp_nar]
    try rfl
  · simp [updV, upd, hq]
theorem V0_zast {p0 n : Nat} {f : Nat → Int32} {i x : Int32} (hd : decode M.2.1 pc = .ok (.bastore, 1)) (he : h[p0]? = some (.inl (2, n, .inl f))) (hi : vp_in i n) (kk : V0 l R M XT kc ks (pc + 1) ls st (h.set p0 (.inl (2, n, .inl (upd f i.toNatClampNeg (vp_nar .boolean x))))) Q) : V0 l R M XT kc ks pc ls (.int x :: .int i :: .ref p0 :: st) h Q := by
  intro E p e s m args below meth c A H locs lr Qs hF hAt hkc hks hL hret
  refine W.zast hF.1 hF.2.1 (hAt.2.1 p0 _ (px_w_get he)) ((hAt.1.2 2 _ rfl).1 n (fun j => .int (f j))) (fun q => by cases q) (by show ¬ (i < 0 ∨ (arrV _ _ _).slots.size ≤ _); rw [arrV_size]; exact hi) rfl rfl hd fun H1 e1 z oq => ?_
  refine kk E p e s m args below meth c A H1 _ lr Qs hF (px_At.arr (k := _) hAt he ?_ z oq) hkc hks hL hret
  rw [e1]
  show some (Cell.setSlot (vp_cell _ (n, .inl f)) _ _) = _
  rw [vp_cell_i, vp_cell_i, arrV_store]
  congr 2
  funext q
  by_cases hq : q = i.toNatClampNeg
  · subst hq
    simp [updV, upd, vp_nar]
    try rfl
  · simp [updV, upd, hq]
theorem V0_sast {p0 n : Nat} {f : Nat → Int32} {i x : Int32} (hd : decode M.2.1 pc = .ok (.sastore, 1)) (he : h[p0]? = some (.inl (3, n, .inl f))) (hi : vp_in i n) (kk : V0 l R M XT kc ks (pc + 1) ls st (h.set p0 (.inl (3, n, .inl (upd f i.toNatClampNeg (vp_nar .short x))))) Q) : V0 l R M XT kc ks pc ls (.int x :: .int i :: .ref p0 :: st) h Q := by
  intro E p e s m args below meth c A H locs lr Qs hF hAt hkc hks hL hret
  refine W.sast hF.1 hF.2.1 (hAt.2.1 p0 _ (px_w_get he)) ((hAt.1.2 3 _ rfl).1 n (fun j => .int (f j))) (fun q => by cases q) (by show ¬ (i < 0 ∨ (arrV _ _ _).slots.size ≤ _); rw [arrV_size]; exact hi) rfl rfl hd fun H1 e1 z oq => ?_
  refine kk E p e s m args below meth c A H1 _ lr Qs hF (px_At.arr (k := _) hAt he ?_ z oq) hkc hks hL hret
  rw [e1]
  show some (Cell.setSlot (vp_cell _ (n, .inl f)) _ _) = _
  rw [vp_cell_i, vp_cell_i, arrV_store]
  congr 2
  funext q
  by_cases hq : q = i.toNatClampNeg
  · subst hq
    simp [updV, upd, vp_nar]
    try rfl
  · simp [updV, upd, hq]
theorem V0_last {p0 n : Nat} {f : Nat → Int64} {i : Int32} {x : Int64} (hd : decode M.2.1 pc = .ok (.lastore, 1)) (he : h[p0]? = some (.inl (4, n, .inr (.inl f)))) (hi : vp_in i n) (kk : V0 l R M XT kc ks (pc + 1) ls st (h.set p0 (.inl (4, n, .inr (.inl (vp_updL f i.toNatClampNeg x))))) Q) : V0 l R M XT kc ks pc ls (.long x :: .int i :: .ref p0 :: st) h Q := by
  intro E p e s m args below meth c A H locs lr Qs hF hAt hkc hks hL hret
  refine W.last hF.1 hF.2.1 (hAt.2.1 p0 _ (px_w_get he)) ((hAt.1.2 4 _ rfl).1 n (fun j => .long (f j))) (fun q => by cases q) (by show ¬ (i < 0 ∨ (arrV _ _ _).slots.size ≤ _); rw [arrV_size]; exact hi) rfl rfl hd fun H1 e1 z oq => ?_
  refine kk E p e s m args below meth c A H1 _ lr Qs hF (px_At.arr (k := _) hAt he ?_ z oq) hkc hks hL hret
  rw [e1]
  show some (Cell.setSlot (vp_cell _ (n, .inr (.inl f))) _ _) = _
  rw [vp_cell_l, vp_cell_l, arrV_store]
  congr 2
  funext q
  by_cases hq : q = i.toNatClampNeg
  · subst hq
    simp [updV, vp_updL]
  · simp [updV, vp_updL, hq]
theorem V0_alen {p0 t n : Nat} {x : (Nat → Int32) ⊕ (Nat → Int64) ⊕ (Nat → UInt32) ⊕ (Nat → UInt64) ⊕ (Nat → Option Nat)} (v : Int32) (hd : decode M.2.1 pc = .ok (.arraylength, 1)) (he : h[p0]? = some (.inl (t, n, x))) (ht : t < 5) (hv : Int32.ofNat n = v) (kk : V0 l R M XT kc ks (pc + 1) ls (.int v :: st) h Q) : V0 l R M XT kc ks pc ls (.ref p0 :: st) h Q := by
  intro E p e s m args below meth c A H locs lr Qs hF hAt hkc hks hL hret
  have ht' : ∃ ty, (px_tys E)[t]? = some (E.2.2.1 t, ty) := by
    match t, ht with
    | 0, _ => exact ⟨_, rfl⟩
    | 1, _ => exact ⟨_, rfl⟩
    | 2, _ => exact ⟨_, rfl⟩
    | 3, _ => exact ⟨_, rfl⟩
    | 4, _ => exact ⟨_, rfl⟩
  obtain ⟨ty, ht'⟩ := ht'
  exact va_alen (D := (E.1, E.2.1)) (cl := vwCl) hF.1 hF.2.1 hAt.1 hAt.2.1 p0 t (px_w_get he) ht' hv hd (kk E p e s m args below meth c A H locs lr Qs hF hAt hkc hks hL hret)
/-- the tables -/
theorem px_tabAt {E : px_G} {A : Nat → Prop} {s : State} {H : Heap} {locs : List Loc} (a : px_At E XT A s h H locs) {i : Nat} {q : Nat × (Nat → Int32)} (hq : (px_tab XT.2)[i]? = some q) : va_T .int (E.2.2.2.2 i) q.1 (fun j => .int (q.2 j)) A s H :=
  (a.2.2.2.2.2.2.2 i q hq).kept (fun x h1 h2 => a.2.2.2.1.2.1 x h1 h2)
theorem px_big {n N : Nat} (h : n.toInt32 = Int32.ofNat N) (hN : N ≤ n) : True := trivial
theorem V0_tald {u : UInt32} {n : Nat} {f : Nat → Int32} {i : Int32} (hd : decode M.2.1 pc = .ok (.iaload, 1)) (ht : (px_tab XT.2)[u.toNat]? = some (n, f)) (hi : vp_in i n) (kk : V0 l R M XT kc ks (pc + 1) ls (.int (f i.toNatClampNeg) :: st) h Q) : V0 l R M XT kc ks pc ls (.int i :: .float u :: st) h Q := by
  intro E p e s m args below meth c A H locs lr Qs hF hAt hkc hks hL hret
  obtain ⟨cell, h1, h2, h3, h4, h5, h6, h7⟩ := px_tabAt hAt ht
  have hlt : i.toNatClampNeg < n := Nat.not_le.mp fun q => hi (Or.inr q)
  exact W.iald (v := .int (f i.toNatClampNeg)) hF.1 hF.2.1 h1 h2 h3 (fun q => q.elim (fun z => hi (Or.inl z)) (fun z => by have z : cell.slots.size ≤ i.toNatClampNeg := z; have h4 : n ≤ cell.slots.size := h4; omega)) (h6 _ hlt) rfl rfl hd (kk E p e s m args below meth c A H locs lr Qs hF hAt hkc hks hL hret)
theorem V0_talen {u : UInt32} {n : Nat} {f : Nat → Int32} (hd : decode M.2.1 pc = .ok (.arraylength, 1)) (ht : (px_tab XT.2)[u.toNat]? = some (n, f)) (kk : V0 l R M XT kc ks (pc + 1) ls (.int (Int32.ofNat n) :: st) h Q) : V0 l R M XT kc ks pc ls (.float u :: st) h Q := by
  intro E p e s m args below meth c A H locs lr Qs hF hAt hkc hks hL hret
  obtain ⟨cell, h1, h2, h3, h4, h5, h6, h7⟩ := px_tabAt hAt ht
  exact W.alen (n := Int32.ofNat n) hF.1 hF.2.1 h1 h2 h5 rfl rfl hd (kk E p e s m args below meth c A H locs lr Qs hF hAt hkc hks hL hret)
theorem V0_gets {idx : Nat} (u : UInt32) {q : String × String × Nat × (Nat → Int32)} (hd : decode M.2.1 pc = .ok (.getstatic idx, 3)) (ht : px_stt[u.toNat]? = some q) (hl : Cond.fieldLink M.1.cls idx q.1 q.2.1 "[I" ∈ px_tbl) (kk : V0 l R M XT kc ks (pc + 3) ls (.float u :: st) h Q) : V0 l R M XT kc ks pc ls st h Q := by
  intro E p e s m args below meth c A H locs lr Qs hF hAt hkc hks hL hret
  exact va_gets hF.1 hF.2.1 (hAt.2.2.2.2.2.2.1 u.toNat q ht) hAt.2.2.2.1 hF.2.2.2.1 (hF.2.2.2.2.1 _ hl) (fun _ h => h) hd (kk E p e s m args below meth c A H locs lr Qs hF hAt hkc hks hL hret)
theorem px_cats (E : px_G) : ∀ st : List Value, ((st.map (px_v E)).map fun v => v.category).sum = (st.map fun v => v.category).sum
  | [] => rfl
  | v :: st => by simp only [List.map_cons, List.sum_cons, px_cat, px_cats E st]

theorem V0_max {idx : Nat} {x y : Int32} (hd : decode M.2.1 pc = .ok (.invokestatic idx, 3)) (hl : Cond.methodLink M.1.cls idx Lib.Math.max.name ∈ px_tbl) (hs : Cond.static Lib.Math.max.name ∈ px_tbl) (hi : Cond.initialized "java/lang/Math" ∈ px_tbl) (hc : Cond.code Lib.Math.max.name Lib.Math.max.code 2 (some .int) ∈ px_tbl) (hR : 1 ≤ R.frames) (hst : (st.map fun v => v.category).sum + 13 ≤ R.locals) (kk : V0 l R M XT kc ks (pc + 3) ls (.int (if x < y then y else x) :: st) h Q) : V0 l R M XT kc ks pc ls (.int y :: .int x :: st) h Q := by
  intro E p e s m args below meth c A H locs lr Qs hF hAt hkc hks hL hret
  have T := hF.2.2.2.2.1
  exact va_mmax hF.1 hF.2.1 (hF.2.2.1.trans hL.1.symm) hF.2.2.2.1 (T _ hl) (T _ hs) (T _ hi) (T _ hc) hR (by rw [px_cats]; exact hst) hkc hks hd (kk E p e s m args below meth c A H locs lr Qs hF hAt hkc hks hL hret)
theorem V0_min {idx : Nat} {x y : Int32} (hd : decode M.2.1 pc = .ok (.invokestatic idx, 3)) (hl : Cond.methodLink M.1.cls idx Lib.Math.min.name ∈ px_tbl) (hs : Cond.static Lib.Math.min.name ∈ px_tbl) (hi : Cond.initialized "java/lang/Math" ∈ px_tbl) (hc : Cond.code Lib.Math.min.name Lib.Math.min.code 2 (some .int) ∈ px_tbl) (hR : 1 ≤ R.frames) (hst : (st.map fun v => v.category).sum + 13 ≤ R.locals) (kk : V0 l R M XT kc ks (pc + 3) ls (.int (if y < x then y else x) :: st) h Q) : V0 l R M XT kc ks pc ls (.int y :: .int x :: st) h Q := by
  intro E p e s m args below meth c A H locs lr Qs hF hAt hkc hks hL hret
  have T := hF.2.2.2.2.1
  exact va_mmin hF.1 hF.2.1 (hF.2.2.1.trans hL.1.symm) hF.2.2.2.1 (T _ hl) (T _ hs) (T _ hi) (T _ hc) hR (by rw [px_cats]; exact hst) hkc hks hd (kk E p e s m args below meth c A H locs lr Qs hF hAt hkc hks hL hret)
theorem V0_abs {idx : Nat} {x : Int32} (hd : decode M.2.1 pc = .ok (.invokestatic idx, 3)) (hl : Cond.methodLink M.1.cls idx Lib.Math.abs.name ∈ px_tbl) (hs : Cond.static Lib.Math.abs.name ∈ px_tbl) (hi : Cond.initialized "java/lang/Math" ∈ px_tbl) (hc : Cond.code Lib.Math.abs.name Lib.Math.abs.code 1 (some .int) ∈ px_tbl) (hR : 1 ≤ R.frames) (hst : (st.map fun v => v.category).sum + 13 ≤ R.locals) (kk : V0 l R M XT kc ks (pc + 3) ls (.int (if 0 ≤ x then x else -x) :: st) h Q) : V0 l R M XT kc ks pc ls (.int x :: st) h Q := by
  intro E p e s m args below meth c A H locs lr Qs hF hAt hkc hks hL hret
  have T := hF.2.2.2.2.1
  exact va_mabs hF.1 hF.2.1 (hF.2.2.1.trans hL.1.symm) hF.2.2.2.1 (T _ hl) (T _ hs) (T _ hi) (T _ hc) hR (by rw [px_cats]; first | exact hst | omega) hkc hks hd (kk E p e s m args below meth c A H locs lr Qs hF hAt hkc hks hL hret)
theorem px_At.copy {E : px_G} {A : Nat → Prop} {s : State} {H H1 : Heap} {locs locs1 : List Loc} {h1 : px_H} (hz : XT.1 = false) (a : px_At E XT A s h H locs) (hP : va_P (E.1, E.2.1) vwCl (px_w E h1) H1) (hD : va_D A (px_w E h1)) (hS : va_S A s.heap H1 locs1) : px_At E XT A s h1 H1 locs1 :=
  ⟨a.1, hP, hD, hS, a.2.2.2.2.1, (fun h9 => by rw [hz] at h9; cases h9), a.2.2.2.2.2.2⟩
theorem V0_copyi {idx q0 q1 n0 n1 : Nat} {f g : Nat → Int32} {sp dp n : Int32} (hz : XT.1 = false) (hd : decode M.2.1 pc = .ok (.invokestatic idx, 3)) (hl : Cond.methodLink M.1.cls idx arraycopyName ∈ px_tbl) (hnat : Cond.native arraycopyName ∈ px_tbl) (hs : Cond.static arraycopyName ∈ px_tbl) (hi : Cond.initialized "java/lang/System" ∈ px_tbl)
    (h0 : h[q0]? = some (.inl (0, n0, .inl f))) (h1 : h[q1]? = some (.inl (0, n1, .inl g))) (z1 : ¬ sp < 0) (z2 : ¬ dp < 0) (z3 : ¬ n < 0) (z4 : sp.toNatClampNeg + n.toNatClampNeg ≤ n0) (z5 : dp.toNatClampNeg + n.toNatClampNeg ≤ n1) (hR : 1 ≤ R.frames) (hst : (st.map fun v => v.category).sum + (nativeFrameWords "java/lang/System" "arraycopy" 5 + 11) ≤ R.locals)
    (kk : V0 l R M XT kc ks (pc + 3) ls st (h.set q1 (.inl (0, n1, .inl (va_cpy f g sp.toNatClampNeg dp.toNatClampNeg n.toNatClampNeg)))) Q) : V0 l R M XT kc ks pc ls (.int n :: .int dp :: .ref q1 :: .int sp :: .ref q0 :: st) h Q := by
  intro E p e s m args below meth c A H locs lr Qs hF hAt hkc hks hL hret
  have T := hF.2.2.2.2.1
  refine va_copyi (D := (E.1, E.2.1)) (cl := vwCl) (tys := px_tys E) (A := A) (H0 := s.heap) hF.1 hF.2.1 (hF.2.2.1.trans hL.1.symm) hF.2.2.2.1 (T _ hl) (T _ hnat) (T _ hs) (T _ hi) hAt.1 hAt.2.1 hAt.2.2.1 hAt.2.2.2.1 q0 q1 0 0 (px_w_get h0) (px_w_get h1) rfl rfl rfl z1 z2 z3 z4 z5 (fun _ _ => rfl) hR (by rw [px_cats]; exact hst) hd (fun H1 locs1 hP1 hD1 hS1 => ?_)
  have hset : (px_w E h).set q1 (E.2.2.2.1 q1, .inl (E.2.2.1 0, n1, .inl (va_cpy f g sp.toNatClampNeg dp.toNatClampNeg n.toNatClampNeg))) = px_w E (h.set q1 (.inl (0, n1, .inl (va_cpy f g sp.toNatClampNeg dp.toNatClampNeg n.toNatClampNeg)))) := by
    rw [← px_w_set]; rfl
  exact kk E p e s m args below meth c A H1 locs1 lr Qs hF (px_At.copy hz hAt (by rw [← hset]; exact hP1) (by rw [← hset]; exact hD1) hS1) hkc hks hL hret
theorem V0_copyl {idx q0 q1 n0 n1 : Nat} {f g : Nat → Int64} {sp dp n : Int32} (hz : XT.1 = false) (hd : decode M.2.1 pc = .ok (.invokestatic idx, 3)) (hl : Cond.methodLink M.1.cls idx arraycopyName ∈ px_tbl) (hnat : Cond.native arraycopyName ∈ px_tbl) (hs : Cond.static arraycopyName ∈ px_tbl) (hi : Cond.initialized "java/lang/System" ∈ px_tbl)
    (h0 : h[q0]? = some (.inl (4, n0, .inr (.inl f)))) (h1 : h[q1]? = some (.inl (4, n1, .inr (.inl g)))) (z1 : ¬ sp < 0) (z2 : ¬ dp < 0) (z3 : ¬ n < 0) (z4 : sp.toNatClampNeg + n.toNatClampNeg ≤ n0) (z5 : dp.toNatClampNeg + n.toNatClampNeg ≤ n1) (hR : 1 ≤ R.frames) (hst : (st.map fun v => v.category).sum + (nativeFrameWords "java/lang/System" "arraycopy" 5 + 11) ≤ R.locals)
    (kk : V0 l R M XT kc ks (pc + 3) ls st (h.set q1 (.inl (4, n1, .inr (.inl (va_cpy f g sp.toNatClampNeg dp.toNatClampNeg n.toNatClampNeg))))) Q) : V0 l R M XT kc ks pc ls (.int n :: .int dp :: .ref q1 :: .int sp :: .ref q0 :: st) h Q := by
  intro E p e s m args below meth c A H locs lr Qs hF hAt hkc hks hL hret
  have T := hF.2.2.2.2.1
  refine va_copyl (D := (E.1, E.2.1)) (cl := vwCl) (tys := px_tys E) (A := A) (H0 := s.heap) hF.1 hF.2.1 (hF.2.2.1.trans hL.1.symm) hF.2.2.2.1 (T _ hl) (T _ hnat) (T _ hs) (T _ hi) hAt.1 hAt.2.1 hAt.2.2.1 hAt.2.2.2.1 q0 q1 4 4 (px_w_get h0) (px_w_get h1) rfl rfl rfl z1 z2 z3 z4 z5 (fun _ _ => rfl) hR (by rw [px_cats]; exact hst) hd (fun H1 locs1 hP1 hD1 hS1 => ?_)
  have hset : (px_w E h).set q1 (E.2.2.2.1 q1, .inl (E.2.2.1 4, n1, .inr (.inl (va_cpy f g sp.toNatClampNeg dp.toNatClampNeg n.toNatClampNeg)))) = px_w E (h.set q1 (.inl (4, n1, .inr (.inl (va_cpy f g sp.toNatClampNeg dp.toNatClampNeg n.toNatClampNeg))))) := by
    rw [← px_w_set]; rfl
  exact kk E p e s m args below meth c A H1 locs1 lr Qs hF (px_At.copy hz hAt (by rw [← hset]; exact hP1) (by rw [← hset]; exact hD1) hS1) hkc hks hL hret
/-- java.lang.Object's constructor -/
theorem V0_objInit {idx p0 : Nat} (hd : decode M.2.1 pc = .ok (.invokespecial idx, 3)) (hl : Cond.methodLink M.1.cls idx objectInit ∈ px_tbl) (hi : Cond.instanceMethod objectInit ∈ px_tbl) (hc : Cond.code objectInit ⟨#[0xb1]⟩ 1 none ∈ px_tbl) (hR : 1 ≤ R.frames) (hst : (st.map fun v => v.category).sum + 12 ≤ R.locals) (kk : V0 l R M XT kc ks (pc + 3) ls st h Q) : V0 l R M XT kc ks pc ls (.ref p0 :: st) h Q := by
  intro E p e s m args below meth c A H locs lr Qs hF hAt hkc hks hL hret
  have T := hF.2.2.2.2.1
  refine W.objInit hF.1 hF.2.1 hF.2.2.2.1 (T _ hl) (T _ hi) (T _ hc) rfl (hL.1.trans hF.2.2.1.symm) rfl hd hR (by show 2 * 0 + _ + 12 ≤ _; rw [px_cats]; omega) ?_
  exact kk E p e s m args below meth c A H locs lr Qs hF hAt hkc hks hL hret

/-- what the tables say of a method of ours that is called -/
def px_ok (M' : px_M) (n : Nat) : Prop := Cond.code M'.1 M'.2.1 M'.2.2.1 M'.2.2.2 ∈ px_tbl ∧ Cond.initialized M'.1.cls ∈ px_tbl ∧ M'.1.cls ≠ "java/lang/invoke/MethodHandle" ∧ M'.1.cls ≠ "java/lang/invoke/VarHandle" ∧ (parseMethodDescriptor M'.1.desc).map (fun d => d.parameters.length) = some n
theorem px_good : ∀ w ∈ px_tbl, w ∈ px_tbl ∧ ((w.onTables && w.keeps) = true ∨ ∃ ty, w = .arrayClass ty) := by
  intro w hw
  exact ⟨hw, good_of_word (List.mem_filter.mp hw).2⟩
theorem px_ws_pay {M' : px_M} {n : Nat} (ho : px_ok M' n) {args : Array Value} {s : State} (hts : ∀ w ∈ px_tbl, w.before args s = true) : ∀ w ∈ px_ws M', ∀ (a' : Array Value) (U : State), s.WarmedH U.vm → w.before a' U = true := by
  refine pay_in hts (fun w hw => ?_)
  rcases List.mem_cons.mp hw with rfl | hw
  · exact px_good _ ho.1
  · exact px_good _ hw
theorem px_callB {M' : px_M} {n d kc' ks' idx : Nat} {own : String} (ho : px_ok M' n) {args : Array Value} {s : State} (hts : ∀ w ∈ px_tbl, w.before args s = true) (hl : Cond.methodLink own idx M'.1 ∈ px_tbl) (hR : d + 1 ≤ R.frames ∧ 8 + (M'.2.2.1 + 11) + 41 * d ≤ R.locals) : CallB R s args own idx M'.1 M'.2.1 M'.2.2.1 M'.2.2.2 (px_ws M') (px_rm d kc' ks') kc' ks' n := by
  refine ⟨rfl, rfl, hR.1, hR.2, px_ws_pay ho hts, List.mem_cons_self, hts _ ho.1, hts _ ho.2.1, ⟨ho.2.2.1, ho.2.2.2.1⟩, fun sig h => ?_, hts _ hl⟩
  have h2 := ho.2.2.2.2
  rw [h] at h2
  exact (Option.some.inj h2).symm
theorem px_callN {M' : px_M} {n d kc' ks' idx : Nat} {own host : String} (ho : px_ok M' n) {args : Array Value} {s : State} (hts : ∀ w ∈ px_tbl, w.before args s = true) (hl : (Cond.methodLinkNest own idx M'.1 host).before args s = true) (hR : d + 1 ≤ R.frames ∧ 8 + (M'.2.2.1 + 11) + 41 * d ≤ R.locals) : va_CN R s args own idx M'.1 host M'.2.1 M'.2.2.1 M'.2.2.2 (px_ws M') (px_rm d kc' ks') kc' ks' n := by
  refine ⟨⟨rfl, rfl, hR.1, hR.2, px_ws_pay ho hts, List.mem_cons_self⟩, hts _ ho.1, hts _ ho.2.1, ⟨ho.2.2.1, ho.2.2.2.1⟩, fun sig h => ?_, hl⟩
  have h2 := ho.2.2.2.2
  rw [h] at h2
  exact (Option.some.inj h2).symm
theorem px_blind {z : Bool} {E : px_G} {sz : Nat} {as : List Value} {h : px_H} : FrameBlind (px_Pc z E sz as h) := by
  rintro a U g mk ⟨q0, q1, q2, q3, q4, q5, q6, q7⟩
  exact ⟨q0, q1, q2, va_K.moved (u := U) (U := U.calling g mk a) (Vm.Alike.refl U.vm) q3, q4, q5, px_S.moved (u := U) (U := U.calling g mk a) (Vm.Alike.refl U.vm) q6, fun q hq => va_Nw.same (u := U) rfl rfl (q7 q hq)⟩
theorem px_sub {E : px_G} {A : Nat → Prop} {s : State} {H : Heap} {locs : List Loc} (a : px_At E XT A s h H locs) : ∀ q, va_A (px_w E h) H.size q → A q := by
  intro q hq
  rcases hq with ⟨k, e, hk⟩ | hq
  · exact a.2.2.1.2 k (q, e) hk
  · exact a.2.2.2.2.1 q (Nat.le_trans a.2.2.2.1.1 hq)
theorem px_pre {E : px_G} {A : Nat → Prop} {s : State} {H : Heap} {locs : List Loc} {as : List Value} (hN : px_N s) (a : px_At E XT A s h H locs) (U : State) (hU : U.heap = H) (hW : s.WarmedH U.vm) : px_Pc XT.1 E H.size as h (as.map (px_v E)).toArray U := by
  subst hU
  refine ⟨rfl, rfl, a.2.1, va_K.moved hW.alike a.1, a.2.2.1.weaken (fun _ _ _ _ => trivial), a.2.2.2.2.2.1, ?_, fun q hq => va_Nw.warmM hW (hN q hq)⟩
  exact px_S.moved hW.alike ((px_S.kept (a.2.2.2.2.2.2.less) (fun q h1 h2 => a.2.2.2.1.2.1 q h1 h2)).narrow (px_sub a))
/-- behind any call: the run, and the caller's goal -/
theorem px_after {E : px_G} {p : Program} {e : Env} {s : State} {m : MethodId} {args : Array Value} {below : List Frame} {meth : Method} {c : Code} {A : Nat → Prop} {H : Heap} {locs : List Loc} {lr : Array Slot} {Qs : State → Prop} {kc' ks' : Nat} {st0 : List Value} {av : Array Value} {Qk : Option Value → px_H → Prop}
    (run : va_Run p l e R s m args below meth c H locs kc ks kc' ks' (F0 m pc lr st0) (st.map (px_v E)) (px_Qc XT.1 E H.size h Qk av) (va_A (px_w E h) H.size))
    (hF : px_Fix p s m args meth c M) (hAt : px_At E XT A s h H locs) (hc : kc + kc' ≤ R.cells) (hs : ks + ks' ≤ R.slots) (hL : px_L E M.2.2.1 lr ls)
    (hret : ∀ (r : Option Value) (h' : px_H) (H' : Heap) (locs' : List Loc) (kc' ks' pc' : Nat) (lr' : Array Slot), Q r h' → px_At E XT A s h' H' locs' → kc' ≤ R.cells → ks' ≤ R.slots → px_ret M pc' r → W p l e R s m args below meth c H' locs' kc' ks' Qs (F0 m pc' lr' (r.toList.map (px_v E))))
    (kk : ∀ (r : Option Value) (h1 : px_H), Qk r h1 → V0 l R M XT (kc + kc') (ks + ks') (pc + 3) ls (r.toList ++ st) h1 Q) : W p l e R s m args below meth c H locs kc ks Qs (F0 m pc lr st0) := by
  intro T hT X
  obtain ⟨v, st₀, t, T', L, h0, X', hL', e1, e2, ⟨⟨r, h1, hv, hq, hP1, hD1, hZ1⟩, hz, hk⟩, stp⟩ := run T hT X
  have hv : v = r.map (px_v E) := by injection hv
  subst hv
  rw [h0] at hz hk
  have hsub := px_sub hAt
  have hAt1 : px_At E XT A s h1 T'.heap (locs ++ L) := by
    refine ⟨hAt.1, by rw [e1]; exact hP1, hD1.weaken (fun k q _ hh => hsub q.1 hh), ?_, hAt.2.2.2.2.1, by rw [e1]; exact hZ1, hAt.2.2.2.2.2.2⟩
    have hS := hAt.2.2.2.1
    refine ⟨Nat.le_trans hS.1 (by rw [e1]; exact hz), fun q g1 g2 => ?_, fun q hq => ?_⟩
    · rw [e1, hk q (Nat.lt_of_lt_of_le g1 hS.1) (fun zz => g2 (hsub q zz))]
      exact hS.2.1 q g1 g2
    · rcases List.mem_append.mp hq with hh | hh
      · exact hS.2.2 q hh
      · exact hsub _ (hL' q hh)
  obtain ⟨t2, a1, b1⟩ := kk r h1 hq E p e s m args below meth c A T'.heap (locs ++ L) lr Qs hF hAt1 hc hs hL hret T' rfl X'
  refine ⟨t2, stp t2 ?_, b1⟩
  have hst : (r.toList ++ st).map (px_v E) = (r.map (px_v E)).toList ++ st.map (px_v E) := by cases r <;> simp
  rw [hst] at a1
  exact a1
def px_okV (M' : px_M) (n : Nat) : Prop := px_ok M' n ∧ Cond.instanceMethod M'.1 ∈ px_tbl ∧ Cond.selects M'.1.cls M'.1 M'.1 ∈ px_tbl
def px_okS (M' : px_M) (n : Nat) : Prop := px_ok M' n ∧ Cond.static M'.1 ∈ px_tbl
def px_okI (M' : px_M) (n : Nat) : Prop := px_ok M' n ∧ Cond.instanceMethod M'.1 ∈ px_tbl ∧ M'.1.name = "<init>" ∧ M'.2.2.2 = none
theorem V0_callV {M' : px_M} {n d kc' ks' idx b ci : Nat} {As : List Value} {fs : List Value} {Qk : Option Value → px_H → Prop} {st0 : List Value} (hd : decode M.2.1 pc = .ok (.invokevirtual idx, 3)) (hl : Cond.methodLink M.1.cls idx M'.1 ∈ px_tbl) (ho : px_okV M' n) (hC : Ct0 l XT.1 M' d kc' ks' (.ref b :: As) h Qk) (hn : As.length = n) (hst : st0 = As.reverse ++ .ref b :: st) (he : h[b]? = some (.inr (ci, fs))) (hci : vwCl[ci]?.map (fun q => q.1) = some M'.1.cls)
    (hR : d + 1 ≤ R.frames ∧ 8 + (M'.2.2.1 + 11) + 41 * d ≤ R.locals) (hc : kc + kc' ≤ R.cells) (hs : ks + ks' ≤ R.slots) (hw : (st.map fun v => v.category).sum ≤ 8) (kk : ∀ (r : Option Value) (h1 : px_H), Qk r h1 → V0 l R M XT (kc + kc') (ks + ks') (pc + 3) ls (r.toList ++ st) h1 Q) : V0 l R M XT kc ks pc ls st0 h Q := by
  intro E p e s m args below meth c A H locs lr Qs hF hAt hkc hks hL hret
  subst hst
  have T := hF.2.2.2.2.1
  refine px_after (av := ((.ref b :: As).map (px_v E)).toArray) ?_ hF hAt hc hs hL hret kk
  obtain ⟨q, hq, hq1⟩ : ∃ q, vwCl[ci]? = some q ∧ q.1 = M'.1.cls := by
    cases hh : vwCl[ci]? with
    | none => rw [hh] at hci; cases hci
    | some q => rw [hh] at hci; exact ⟨q, rfl, Option.some.inj hci⟩
  have hrecv := va_recv (s := s) (H := H) hAt.1 hAt.2.1 hq (px_w_get (E := E) he)
  rw [hq1] at hrecv
  exact va_runV (As := As.map (px_v E)) (rest := st.map (px_v E)) (g := F0 m pc lr ((As.reverse ++ .ref b :: st).map (px_v E))) ⟨hF.1, hF.2.1, hF.2.2.1, hF.2.2.2.1, T⟩ (hC E H.size) ⟨px_callB ho.1 T hl hR, T _ ho.2.1, T _ ho.2.2⟩ ⟨px_blind, hrecv, fun U hU hW => px_pre (as := .ref b :: As) hF.2.2.2.2.2.2 hAt U hU hW⟩ rfl (by rw [List.length_map]; exact hn) hL.1 (by simp [List.map_append, List.map_reverse]; rfl) (lv_room (by rw [px_cats]; exact hw)) hd ⟨hc, hs⟩
theorem V0_callS {M' : px_M} {n d kc' ks' idx : Nat} {As : List Value} {Qk : Option Value → px_H → Prop} {st0 : List Value} (hd : decode M.2.1 pc = .ok (.invokestatic idx, 3)) (hl : Cond.methodLink M.1.cls idx M'.1 ∈ px_tbl) (ho : px_okS M' n) (hC : Ct0 l XT.1 M' d kc' ks' As h Qk) (hn : As.length = n) (hst : st0 = As.reverse ++ st)
    (hR : d + 1 ≤ R.frames ∧ 8 + (M'.2.2.1 + 11) + 41 * d ≤ R.locals) (hc : kc + kc' ≤ R.cells) (hs : ks + ks' ≤ R.slots) (hw : (st.map fun v => v.category).sum ≤ 8) (kk : ∀ (r : Option Value) (h1 : px_H), Qk r h1 → V0 l R M XT (kc + kc') (ks + ks') (pc + 3) ls (r.toList ++ st) h1 Q) : V0 l R M XT kc ks pc ls st0 h Q := by
  intro E p e s m args below meth c A H locs lr Qs hF hAt hkc hks hL hret
  subst hst
  have T := hF.2.2.2.2.1
  refine px_after (av := (As.map (px_v E)).toArray) ?_ hF hAt hc hs hL hret kk
  exact va_runS (As := As.map (px_v E)) (rest := st.map (px_v E)) (g := F0 m pc lr ((As.reverse ++ st).map (px_v E))) ⟨hF.1, hF.2.1, hF.2.2.1, hF.2.2.2.1, T⟩ (hC E H.size) ⟨px_callB ho.1 T hl hR, T _ ho.2⟩ ⟨px_blind, fun U hU hW => px_pre (as := As) hF.2.2.2.2.2.2 hAt U hU hW⟩ rfl (by rw [List.length_map]; exact hn) hL.1 (by simp [List.map_append, List.map_reverse]) (lv_room (by rw [px_cats]; exact hw)) hd ⟨hc, hs⟩
theorem V0_callSN {M' : px_M} {n d kc' ks' idx : Nat} {host : String} {As : List Value} {Qk : Option Value → px_H → Prop} {st0 : List Value} (hd : decode M.2.1 pc = .ok (.invokestatic idx, 3)) (hl : (M.1.cls, idx, M'.1, host) ∈ px_nest) (ho : px_okS M' n) (hC : Ct0 l XT.1 M' d kc' ks' As h Qk) (hn : As.length = n) (hst : st0 = As.reverse ++ st)
    (hR : d + 1 ≤ R.frames ∧ 8 + (M'.2.2.1 + 11) + 41 * d ≤ R.locals) (hc : kc + kc' ≤ R.cells) (hs : ks + ks' ≤ R.slots) (hw : (st.map fun v => v.category).sum ≤ 8) (kk : ∀ (r : Option Value) (h1 : px_H), Qk r h1 → V0 l R M XT (kc + kc') (ks + ks') (pc + 3) ls (r.toList ++ st) h1 Q) : V0 l R M XT kc ks pc ls st0 h Q := by
  intro E p e s m args below meth c A H locs lr Qs hF hAt hkc hks hL hret
  subst hst
  have T := hF.2.2.2.2.1
  refine px_after (av := (As.map (px_v E)).toArray) ?_ hF hAt hc hs hL hret kk
  exact va_runSN (As := As.map (px_v E)) (rest := st.map (px_v E)) (g := F0 m pc lr ((As.reverse ++ st).map (px_v E))) ⟨hF.1, hF.2.1, hF.2.2.1, hF.2.2.2.1, T⟩ (hC E H.size) ⟨px_callN ho.1 T (va_Nw.use rfl (hF.2.2.2.2.2.2 _ hl)) hR, T _ ho.2, trivial⟩ ⟨px_blind, fun U hU hW => px_pre (as := As) hF.2.2.2.2.2.2 hAt U hU hW⟩ rfl (by rw [List.length_map]; exact hn) hL.1 (by simp [List.map_append, List.map_reverse]) (lv_room (by rw [px_cats]; exact hw)) hd ⟨hc, hs⟩
theorem V0_callI {M' : px_M} {n d kc' ks' idx b : Nat} {As : List Value} {Qk : Option Value → px_H → Prop} {st0 : List Value} (hd : decode M.2.1 pc = .ok (.invokespecial idx, 3)) (hl : Cond.methodLink M.1.cls idx M'.1 ∈ px_tbl) (ho : px_okI M' n) (hC : Ct0 l XT.1 M' d kc' ks' (.ref b :: As) h Qk) (hn : As.length = n) (hst : st0 = As.reverse ++ .ref b :: st)
    (hR : d + 1 ≤ R.frames ∧ 8 + (M'.2.2.1 + 11) + 41 * d ≤ R.locals) (hc : kc + kc' ≤ R.cells) (hs : ks + ks' ≤ R.slots) (hw : (st.map fun v => v.category).sum ≤ 8) (kk : ∀ (r : Option Value) (h1 : px_H), Qk r h1 → V0 l R M XT (kc + kc') (ks + ks') (pc + 3) ls (r.toList ++ st) h1 Q) : V0 l R M XT kc ks pc ls st0 h Q := by
  intro E p e s m args below meth c A H locs lr Qs hF hAt hkc hks hL hret
  subst hst
  have T := hF.2.2.2.2.1
  refine px_after (av := ((.ref b :: As).map (px_v E)).toArray) ?_ hF hAt hc hs hL hret kk
  have hcb := px_callB (kc' := kc') (ks' := ks') ho.1 T hl hR
  rw [ho.2.2.2] at hcb
  exact va_runI (As := As.map (px_v E)) (rest := st.map (px_v E)) (g := F0 m pc lr ((As.reverse ++ .ref b :: st).map (px_v E))) ⟨hF.1, hF.2.1, hF.2.2.1, hF.2.2.2.1, T⟩ (hC E H.size) ⟨hcb, ho.2.2.1, T _ ho.2.1⟩ ⟨px_blind, fun U hU hW => px_pre (as := .ref b :: As) hF.2.2.2.2.2.2 hAt U hU hW⟩ rfl (by rw [List.length_map]; exact hn) hL.1 (by simp [List.map_append, List.map_reverse]; rfl) (lv_room (by rw [px_cats]; exact hw)) hd ⟨hc, hs⟩
theorem V0_callIN {M' : px_M} {n d kc' ks' idx b : Nat} {host : String} {As : List Value} {Qk : Option Value → px_H → Prop} {st0 : List Value} (hd : decode M.2.1 pc = .ok (.invokespecial idx, 3)) (hl : (M.1.cls, idx, M'.1, host) ∈ px_nest) (ho : px_okI M' n) (hC : Ct0 l XT.1 M' d kc' ks' (.ref b :: As) h Qk) (hn : As.length = n) (hst : st0 = As.reverse ++ .ref b :: st)
    (hR : d + 1 ≤ R.frames ∧ 8 + (M'.2.2.1 + 11) + 41 * d ≤ R.locals) (hc : kc + kc' ≤ R.cells) (hs : ks + ks' ≤ R.slots) (hw : (st.map fun v => v.category).sum ≤ 8) (kk : ∀ (r : Option Value) (h1 : px_H), Qk r h1 → V0 l R M XT (kc + kc') (ks + ks') (pc + 3) ls (r.toList ++ st) h1 Q) : V0 l R M XT kc ks pc ls st0 h Q := by
  intro E p e s m args below meth c A H locs lr Qs hF hAt hkc hks hL hret
  subst hst
  have T := hF.2.2.2.2.1
  refine px_after (av := ((.ref b :: As).map (px_v E)).toArray) ?_ hF hAt hc hs hL hret kk
  have hcb := px_callN (kc' := kc') (ks' := ks') ho.1 T (va_Nw.use rfl (hF.2.2.2.2.2.2 _ hl)) hR
  rw [ho.2.2.2] at hcb
  exact va_runIN (As := As.map (px_v E)) (rest := st.map (px_v E)) (g := F0 m pc lr ((As.reverse ++ .ref b :: st).map (px_v E))) ⟨hF.1, hF.2.1, hF.2.2.1, hF.2.2.2.1, T⟩ (hC E H.size) ⟨hcb, ho.2.2.1, T _ ho.2.1⟩ ⟨px_blind, fun U hU hW => px_pre (as := .ref b :: As) hF.2.2.2.2.2.2 hAt U hU hW⟩ rfl (by rw [List.length_map]; exact hn) hL.1 (by simp [List.map_append, List.map_reverse]; rfl) (lv_room (by rw [px_cats]; exact hw)) hd ⟨hc, hs⟩
/-- makes -/
theorem px_At.push {E : px_G} {A : Nat → Prop} {s : State} {H H1 : Heap} {locs : List Loc} {e : px_E} (hz : XT.1 = true) (a : px_At E XT A s h H locs) (he : va_at (E.1, E.2.1) vwCl (H.size, px_e E e) H1) (z1 : H1.size = H.size + 1) (o1 : ∀ q, q < H.size → H1[q]? = H[q]?) : px_At E XT A s (h ++ [e]) H1 locs ∧ E.2.2.2.1 h.length = H.size := by
  obtain ⟨hK, hP, hD, hS, hA, hZ, hT⟩ := a
  have hZ := hZ hz
  have h0 : E.2.2.2.1 h.length = H.size := by have := hZ 0; simpa using this
  have hk : ∀ (k : Nat) (x : Nat × va_E), (px_w E h)[k]? = some x → H1[x.1]? = H[x.1]? := fun k x hx => o1 x.1 ((hP k x hx).lt)
  refine ⟨⟨hK, ?_, ?_, ⟨Nat.le_trans hS.1 (by omega), fun x g1 g2 => (o1 x (Nat.lt_of_lt_of_le g1 hS.1)).trans (hS.2.1 x g1 g2), hS.2.2⟩, hA, ?_, hT⟩, h0⟩
  · unfold px_P
    rw [px_w_app, h0]
    refine (va_P.kept hP hk).app (fun k x hx => ?_)
    have hz1 : k < 1 := (List.getElem?_eq_some_iff.mp hx).1
    rw [show k = 0 by omega] at hx
    cases hx
    exact he
  · rw [px_w_app, h0]
    exact hD.push hP rfl (hA _ hS.1)
  · intro _ j
    rw [List.length_append, z1]
    have := hZ (1 + j)
    rw [← Nat.add_assoc] at this
    simp only [List.length_cons, List.length_nil, Nat.zero_add]
    omega
theorem V0_new {idx ci N nh : Nat} {C : String} {T : u_T} {ty : Nat → FieldType} {fs : List Value} (hz : XT.1 = true) (hd : decode M.2.1 pc = .ok (.new idx, 3)) (hc : vwCl[ci]? = some (C, T, N)) (hin : ∀ w ∈ u_ws C T N, w ∈ px_tbl) (hty : ∀ k, k < N → parseFieldDescriptor (T k).2.2.1 = some (ty k)) (hcl : Cond.classLink M.1.cls idx C ∈ px_tbl) (hi : Cond.instantiable C N ∈ px_tbl) (hini : Cond.initialized C ∈ px_tbl) (hfs : ∀ j, j < N → defaultValue (ty j) = vp_V fs j) (hnr : ∀ E, fs.map (px_v E) = fs) (hkc1 : kc + 1 ≤ R.cells) (hks1 : ks + N ≤ R.slots) (hh : h.length = nh)
    (kk : V0 l R M XT (kc + 1) (ks + N) (pc + 3) ls (.ref nh :: st) (h ++ [.inr (ci, fs)]) Q) : V0 l R M XT kc ks pc ls st h Q := by
  intro E p e s m args below meth c A H locs lr Qs hF hAt hkc hks hL hret
  subst hh
  have Tt := hF.2.2.2.2.1
  have hKn := hAt.1.1 ci _ hc
  refine W.newcK hF.1 hF.2.1 hF.2.2.2.1 (Tt _ hcl) (Tt _ hi) (Tt _ hini) rfl hd hkc1 hks1 hKn.2.1 rfl fun H1 kC hkC e1 z1 o1 => ?_
  have hat : va_at (E.1, E.2.1) vwCl (H.size, px_e E (.inr (ci, fs))) H1 := by
    show va_at _ _ (H.size, .inr (ci, fs.map (px_v E))) H1
    rw [hnr E]
    exact ⟨_, hc, (u_born ty Tt hin hKn hkC e1 hty).to hfs⟩
  obtain ⟨a1, h0⟩ := px_At.push hz hAt hat z1 o1
  have := kk E p e s m args below meth c A H1 locs lr Qs hF a1 hkc1 hks1 hL hret
  simp only [List.map_cons, px_v, h0] at this
  exact this
def px_at0 : Nat → ArrayType
  | 0 => .int
  | 1 => .byte
  | 2 => .boolean
  | 3 => .short
  | _ => .long
theorem px_arr {E : px_G} {U : State} (hK : px_K E U) {t : Nat} {ty : FieldType} (ht : (px_tys E)[t]? = some (E.2.2.1 t, ty)) (hty : ∀ C, ty ≠ .object C) {cA : ClassId} (h : U.vm.findClass ("[" ++ ty.toString) = some cA) : cA = E.2.2.1 t := by
  have h2 := (hK.2 t _ ht).2
  cases ty with
  | object C => exact absurd rfl (hty C)
  | _ => exact Option.some.inj (h.symm.trans h2)
theorem V0_newi {t N nh : Nat} {n : Int32} {ty : ArrayType} {fty : FieldType} (hz : XT.1 = true) (hd : decode M.2.1 pc = .ok (.newarray ty, 2)) (hfty : newarray.typeOf ty = fty) (ht : ∀ E : px_G, (px_tys E)[t]? = some (E.2.2.1 t, fty)) (hobj : ∀ C, fty ≠ .object C) (hdv : defaultValue fty = .int 0) (ha : Cond.arrayClass fty ∈ px_tbl) (hn : ¬ n < 0) (hN : n.toNatClampNeg = N) (hby : N * componentBytes fty ≤ 536870912) (hkc1 : kc + 1 ≤ R.cells) (hks1 : ks + N ≤ R.slots) (hh : h.length = nh)
    (kk : V0 l R M XT (kc + 1) (ks + N) (pc + 2) ls (.ref nh :: st) (h ++ [.inl (t, N, .inl (fun _ => 0))]) Q) : V0 l R M XT kc ks pc ls (.int n :: st) h Q := by
  intro E p e s m args below meth c A H locs lr Qs hF hAt hkc hks hL hret
  subst hh
  subst hfty
  have Tt := hF.2.2.2.2.1
  refine va_newaK hF.1 hF.2.1 (Tt _ ha) rfl hd rfl hn hN hby hkc1 hks1 rfl fun H1 cA e1 z1 o1 hAr hNm => ?_
  have hcA := px_arr hAt.1 (ht E) hobj hNm
  subst hcA
  rw [hdv] at e1
  obtain ⟨a1, h0⟩ := px_At.push (e := .inl (t, N, .inl (fun _ => 0))) hz hAt e1 z1 o1
  have := kk E p e s m args below meth c A H1 locs lr Qs hF a1 hkc1 hks1 hL hret
  simp only [List.map_cons, px_v, h0] at this
  exact this
theorem V0_newl {N nh : Nat} {n : Int32} (hz : XT.1 = true) (hd : decode M.2.1 pc = .ok (.newarray .long, 2)) (ha : Cond.arrayClass .long ∈ px_tbl) (hn : ¬ n < 0) (hN : n.toNatClampNeg = N) (hby : N * componentBytes .long ≤ 536870912) (hkc1 : kc + 1 ≤ R.cells) (hks1 : ks + N ≤ R.slots) (hh : h.length = nh)
    (kk : V0 l R M XT (kc + 1) (ks + N) (pc + 2) ls (.ref nh :: st) (h ++ [.inl (4, N, .inr (.inl (fun _ => 0)))]) Q) : V0 l R M XT kc ks pc ls (.int n :: st) h Q := by
  intro E p e s m args below meth c A H locs lr Qs hF hAt hkc hks hL hret
  subst hh
  have Tt := hF.2.2.2.2.1
  refine va_newaK (atype := .long) hF.1 hF.2.1 (Tt _ ha) rfl hd rfl hn hN hby hkc1 hks1 rfl fun H1 cA e1 z1 o1 hAr hNm => ?_
  have hcA := px_arr (t := 4) (ty := .long) hAt.1 rfl (fun C h => by cases h) hNm
  subst hcA
  obtain ⟨a1, h0⟩ := px_At.push (e := .inl (4, N, .inr (.inl (fun _ => 0)))) hz hAt e1 z1 o1
  have := kk E p e s m args below meth c A H1 locs lr Qs hF a1 hkc1 hks1 hL hret
  simp only [List.map_cons, px_v, h0] at this
  exact this

end PX
