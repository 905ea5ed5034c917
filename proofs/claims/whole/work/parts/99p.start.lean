/-! the law's entry: its two objects are made, then its loop -/
def V1 (l : Launch) (R : Room) (M : px_M) (X : List (Nat × (Nat → Int32))) (kc ks pc : Nat) (ls st : List Value) (h : px_H) (Q : Option Value → px_H → Prop) : Prop :=
  ∀ (E : px_G) (p : Program) (e : Env) (s : State) (m : MethodId) (args : Array Value) (below : List Frame) (meth : Method) (c : Code) (A : Nat → Prop) (H : Heap) (locs : List Loc) (lr : Array Slot) (Qs : State → Prop),
    px_Fix p s m args meth c M → px_At E (true, X) A s h H locs → kc ≤ R.cells → ks ≤ R.slots → px_L E M.2.2.1 lr ls →
    (∀ (r : Option Value) (h' : px_H) (H' : Heap) (locs' : List Loc) (kc' ks' pc' : Nat) (lr' : Array Slot), Q r h' → px_At E (false, X) A s h' H' locs' → kc' ≤ R.cells → ks' ≤ R.slots → px_ret M pc' r → W p l e R s m args below meth c H' locs' kc' ks' Qs (F0 m pc' lr' (r.toList.map (px_v E)))) →
    W p l e R s m args below meth c H locs kc ks Qs (F0 m pc lr (st.map (px_v E)))
section V1S
variable {l : Launch} {R : Room} {M : px_M} {X : List (Nat × (Nat → Int32))} {kc ks pc : Nat} {ls st : List Value} {h : px_H} {Q : Option Value → px_H → Prop}
theorem V1_of (k : V0 l R M (false, X) kc ks pc ls st h Q) : V1 l R M X kc ks pc ls st h Q := by
  intro E p e s m args below meth c A H locs lr Qs hF hAt hkc hks hL hret
  exact k E p e s m args below meth c A H locs lr Qs hF ⟨hAt.1, hAt.2.1, hAt.2.2.1, hAt.2.2.2.1, hAt.2.2.2.2.1, fun q => absurd q Bool.false_ne_true, hAt.2.2.2.2.2.2⟩ hkc hks hL hret
theorem V1_iconst {n : Int} (v : Int32) (hd : decode M.2.1 pc = .ok (.iconst n, 1)) (hv : Int32.ofInt n = v) (k : V1 l R M X kc ks (pc + 1) ls (.int v :: st) h Q) : V1 l R M X kc ks pc ls st h Q := by
  intro E p e s m args below meth c A H locs lr Qs hF hAt hkc hks hL hret
  exact lv_iconst hF.1 hF.2.1 hd hv (k E p e s m args below meth c A H locs lr Qs hF hAt hkc hks hL hret)
theorem V1_dup {va : Value} (hd : decode M.2.1 pc = .ok (.dup, 1)) (hva : va.category = 1) (k : V1 l R M X kc ks (pc + 1) ls (va :: va :: st) h Q) : V1 l R M X kc ks pc ls (va :: st) h Q := by
  intro E p e s m args below meth c A H locs lr Qs hF hAt hkc hks hL hret
  exact lv_dup hF.1 hF.2.1 hd ((px_cat E va).trans hva) (k E p e s m args below meth c A H locs lr Qs hF hAt hkc hks hL hret)
theorem V1_istore_nG {k0 : Fin 4} {x : Int32} (hd : decode M.2.1 pc = .ok (.istore_n k0, 1)) (hn : (k0 : Nat) < M.2.2.1) (ho : px_ok1 ls (k0 : Nat)) (k : V1 l R M X kc ks (pc + 1) (ls.set (k0 : Nat) (.int x)) st h Q) : V1 l R M X kc ks pc ls (.int x :: st) h Q := by
  intro E p e s m args below meth c A H locs lr Qs hF hAt hkc hks hL hret
  exact lv_istore_n hF.1 hF.2.1 hd rfl hL hn rfl (fun lr' hl' => k E p e s m args below meth c A H locs lr' Qs hF hAt hkc hks (px_L.store1 ho hl') hret)
theorem V1_astore_nG {k0 : Fin 4} {x : Nat} (hd : decode M.2.1 pc = .ok (.astore_n k0, 1)) (hn : (k0 : Nat) < M.2.2.1) (ho : px_ok1 ls (k0 : Nat)) (k : V1 l R M X kc ks (pc + 1) (ls.set (k0 : Nat) (.ref x)) st h Q) : V1 l R M X kc ks pc ls (.ref x :: st) h Q := by
  intro E p e s m args below meth c A H locs lr Qs hF hAt hkc hks hL hret
  exact lv_astore_n hF.1 hF.2.1 hd rfl hL hn rfl (fun lr' hl' => k E p e s m args below meth c A H locs lr' Qs hF hAt hkc hks (px_L.store1 ho hl') hret)
theorem V1_astore_1 {v0 c : Value} {t : List Value} {x : Nat} (hd : decode M.2.1 pc = .ok (.astore_n 1, 1)) (hn : 1 < M.2.2.1) (hp : v0.category = 1) (k : V1 l R M X kc ks (pc + 1) (v0 :: .ref x :: t) st h Q) : V1 l R M X kc ks pc (v0 :: c :: t) (.ref x :: st) h Q := V1_astore_nG hd hn (fun j v hj hv => by have hj : j = 0 := (by omega); subst hj; cases hv; exact hp) k
theorem V1_astore_2 {v0 v1 c : Value} {t : List Value} {x : Nat} (hd : decode M.2.1 pc = .ok (.astore_n 2, 1)) (hn : 2 < M.2.2.1) (hp : v1.category = 1) (k : V1 l R M X kc ks (pc + 1) (v0 :: v1 :: .ref x :: t) st h Q) : V1 l R M X kc ks pc (v0 :: v1 :: c :: t) (.ref x :: st) h Q := V1_astore_nG hd hn (fun j v hj hv => by have hj : j = 1 := (by omega); subst hj; cases hv; exact hp) k
theorem V1_istore_3 {v0 v1 v2 c : Value} {t : List Value} {x : Int32} (hd : decode M.2.1 pc = .ok (.istore_n 3, 1)) (hn : 3 < M.2.2.1) (hp : v2.category = 1) (k : V1 l R M X kc ks (pc + 1) (v0 :: v1 :: v2 :: .int x :: t) st h Q) : V1 l R M X kc ks pc (v0 :: v1 :: v2 :: c :: t) (.int x :: st) h Q := V1_istore_nG hd hn (fun j v hj hv => by have hj : j = 2 := (by omega); subst hj; cases hv; exact hp) k
theorem V1_new {idx ci N nh : Nat} {C : String} {T : u_T} {ty : Nat → FieldType} {fs : List Value} (hd : decode M.2.1 pc = .ok (.new idx, 3)) (hc : vwCl[ci]? = some (C, T, N)) (hin : ∀ w ∈ u_ws C T N, w ∈ px_tbl) (hty : ∀ k, k < N → parseFieldDescriptor (T k).2.2.1 = some (ty k)) (hcl : Cond.classLink M.1.cls idx C ∈ px_tbl) (hi : Cond.instantiable C N ∈ px_tbl) (hini : Cond.initialized C ∈ px_tbl) (hfs : ∀ j, j < N → defaultValue (ty j) = vp_V fs j) (hnr : ∀ E, fs.map (px_v E) = fs) (hkc1 : kc + 1 ≤ R.cells) (hks1 : ks + N ≤ R.slots) (hh : h.length = nh)
    (kk : V1 l R M X (kc + 1) (ks + N) (pc + 3) ls (.ref nh :: st) (h ++ [.inr (ci, fs)]) Q) : V1 l R M X kc ks pc ls st h Q := by
  intro E p e s m args below meth c A H locs lr Qs hF hAt hkc hks hL hret
  subst hh
  have Tt := hF.2.2.2.2.1
  have hKn := hAt.1.1 ci _ hc
  refine W.newcK hF.1 hF.2.1 hF.2.2.2.1 (Tt _ hcl) (Tt _ hi) (Tt _ hini) rfl hd hkc1 hks1 hKn.2.1 rfl fun H1 kC hkC e1 z1 o1 => ?_
  have hat : va_at (E.1, E.2.1) vwCl (H.size, px_e E (.inr (ci, fs))) H1 := by
    show va_at _ _ (H.size, .inr (ci, fs.map (px_v E))) H1
    rw [hnr E]
    exact ⟨_, hc, (u_born ty Tt hin hKn hkC e1 hty).to hfs⟩
  obtain ⟨a1, h0⟩ := px_At.push (XT := (true, X)) rfl hAt hat z1 o1
  have := kk E p e s m args below meth c A H1 locs lr Qs hF a1 hkc1 hks1 hL hret
  simp only [List.map_cons, px_v, h0] at this
  exact this
theorem px_after1 {E : px_G} {p : Program} {e : Env} {s : State} {m : MethodId} {args : Array Value} {below : List Frame} {meth : Method} {c : Code} {A : Nat → Prop} {H : Heap} {locs : List Loc} {lr : Array Slot} {Qs : State → Prop} {kc' ks' : Nat} {st0 : List Value} {av : Array Value} {Qk : Option Value → px_H → Prop}
    (run : va_Run p l e R s m args below meth c H locs kc ks kc' ks' (F0 m pc lr st0) (st.map (px_v E)) (px_Qc true E H.size h Qk av) (va_A (px_w E h) H.size))
    (hF : px_Fix p s m args meth c M) (hAt : px_At E (true, X) A s h H locs) (hc : kc + kc' ≤ R.cells) (hs : ks + ks' ≤ R.slots) (hL : px_L E M.2.2.1 lr ls)
    (hret : ∀ (r : Option Value) (h' : px_H) (H' : Heap) (locs' : List Loc) (kc' ks' pc' : Nat) (lr' : Array Slot), Q r h' → px_At E (false, X) A s h' H' locs' → kc' ≤ R.cells → ks' ≤ R.slots → px_ret M pc' r → W p l e R s m args below meth c H' locs' kc' ks' Qs (F0 m pc' lr' (r.toList.map (px_v E))))
    (kk : ∀ (r : Option Value) (h1 : px_H), Qk r h1 → V1 l R M X (kc + kc') (ks + ks') (pc + 3) ls (r.toList ++ st) h1 Q) : W p l e R s m args below meth c H locs kc ks Qs (F0 m pc lr st0) := by
  intro T hT X0
  obtain ⟨v, st₀, t, T', L, h0, X', hL', e1, e2, ⟨⟨r, h1, hv, hq, hP1, hD1, hZ1⟩, hz, hk⟩, stp⟩ := run T hT X0
  have hv : v = r.map (px_v E) := by injection hv
  subst hv
  rw [h0] at hz hk
  have hsub := px_sub hAt
  have hAt1 : px_At E (true, X) A s h1 T'.heap (locs ++ L) := by
    refine ⟨hAt.1, by rw [e1]; exact hP1, hD1.weaken (fun k q _ hh => hsub q.1 hh), ?_, hAt.2.2.2.2.1, by rw [e1]; exact hZ1, hAt.2.2.2.2.2.2⟩
    have hS := hAt.2.2.2.1
    refine ⟨Nat.le_trans hS.1 (by rw [e1]; exact hz), fun q g1 g2 => ?_, fun q hq => ?_⟩
    · rw [e1, hk q (Nat.lt_of_lt_of_le g1 hS.1) (fun zz => g2 (hsub q zz))]
      exact hS.2.1 q g1 g2
    · rcases List.mem_append.mp hq with hh | hh
      · exact hS.2.2 q hh
      · exact hsub _ (hL' q hh)
  obtain ⟨t2, a1, b1⟩ := kk r h1 hq E p e s m args below meth c A T'.heap (locs ++ L) lr Qs hF hAt1 hc hs hL hret T' rfl X'
  refine ⟨t2, stp t2 ?_, b1⟩
  have hst : (r.toList ++ st).map (px_v E) = (r.map (px_v E)).toList ++ st.map (px_v E) := by cases r <;> simp
  rw [hst] at a1
  exact a1
theorem V1_callI {M' : px_M} {n d kc' ks' idx b : Nat} {As : List Value} {Qk : Option Value → px_H → Prop} {st0 : List Value} (hd : decode M.2.1 pc = .ok (.invokespecial idx, 3)) (hl : Cond.methodLink M.1.cls idx M'.1 ∈ px_tbl) (ho : px_okI M' n) (hC : Ct0 l true M' d kc' ks' (.ref b :: As) h Qk) (hn : As.length = n) (hst : st0 = As.reverse ++ .ref b :: st)
    (hR : d + 1 ≤ R.frames ∧ 8 + (M'.2.2.1 + 11) + 41 * d ≤ R.locals) (hc : kc + kc' ≤ R.cells) (hs : ks + ks' ≤ R.slots) (hw : (st.map fun v => v.category).sum ≤ 8) (kk : ∀ (r : Option Value) (h1 : px_H), Qk r h1 → V1 l R M X (kc + kc') (ks + ks') (pc + 3) ls (r.toList ++ st) h1 Q) : V1 l R M X kc ks pc ls st0 h Q := by
  intro E p e s m args below meth c A H locs lr Qs hF hAt hkc hks hL hret
  subst hst
  have T := hF.2.2.2.2.1
  refine px_after1 (av := ((.ref b :: As).map (px_v E)).toArray) ?_ hF hAt hc hs hL hret kk
  have hcb := px_callB (kc' := kc') (ks' := ks') ho.1 T hl hR
  rw [ho.2.2.2] at hcb
  exact va_runI (As := As.map (px_v E)) (rest := st.map (px_v E)) (g := F0 m pc lr ((As.reverse ++ .ref b :: st).map (px_v E))) ⟨hF.1, hF.2.1, hF.2.2.1, hF.2.2.2.1, T⟩ (hC E H.size) ⟨hcb, ho.2.2.1, T _ ho.2.1⟩ ⟨px_blind, fun U hU hW => px_pre (as := .ref b :: As) hF.2.2.2.2.2.2 hAt U hU hW⟩ rfl (by rw [List.length_map]; exact hn) hL.1 (by simp [List.map_append, List.map_reverse]; rfl) (lv_room (by rw [px_cats]; exact hw)) hd ⟨hc, hs⟩
end V1S
/-- the first state -/
def i_0 : px_I := fun p => if p = 1 then (fun k => if k = 8 then 12 else if k = 9 then 5 else 0) else if p = 20 then (upd (upd (upd (upd (upd (upd (fun _ => 0) 0 (6)) 1 (6)) 2 (6)) 3 (6)) 4 (6)) 5 (6)) else if p = 64 then (upd (upd (upd (upd (fun _ => 0) 0 (0)) 1 (12)) 2 (5)) 3 (0)) else if p = 88 then (upd (upd (upd (upd (upd (upd (fun _ => 0) 0 (-1)) 1 (-1)) 2 (-1)) 3 (-1)) 4 (-1)) 5 (-1)) else fun _ => 0
def j_0 : px_J := fun _ _ => 0
def px_kl (I : px_I) (p : Nat) : Nat → List (Option Value) → List Value
  | _, [] => []
  | k, x :: xs => px_kv I p k x :: px_kl I p (k + 1) xs
theorem px_kl_eq {I : px_I} {p : Nat} : ∀ (xs : List (Option Value)) (k : Nat), xs.mapIdx (fun i x => px_kv I p (k + i) x) = px_kl I p k xs := by
  intro xs
  induction xs with
  | nil => intro k; rfl
  | cons x xs ih =>
    intro k
    rw [List.mapIdx_cons, px_kl, ← ih (k + 1)]
    have e : (fun i x => px_kv I p (k + (i + 1)) x) = (fun i x => px_kv I p (k + 1 + i) x) := by
      funext i x
      rw [show k + (i + 1) = k + 1 + i by omega]
    show px_kv I p (k + 0) x :: List.mapIdx (fun i x => px_kv I p (k + (i + 1)) x) xs = _
    rw [e, Nat.add_zero]
def px_md (I : px_I) (J : px_J) (p : Nat) : px_C → px_E
  | .inl a => .inl (a.1, a.2, if a.1 = 4 then .inr (.inl (J p)) else .inl (I p))
  | .inr o => .inr (o.1, px_kl I p 0 o.2)
theorem px_md_eq {I : px_I} {J : px_J} {p : Nat} (c : px_C) : px_mc I J p c = px_md I J p c := by
  cases c with
  | inl a => rfl
  | inr o =>
    have e := px_kl_eq (I := I) (p := p) o.2 0
    have e2 : (fun i x => px_kv I p (0 + i) x) = (fun i x => px_kv I p i x) := by
      funext i x
      rw [Nat.zero_add]
    rw [e2] at e
    show Sum.inr (o.1, o.2.mapIdx fun k x => px_kv I p k x) = Sum.inr (o.1, px_kl I p 0 o.2)
    rw [e]
def px_ml (I : px_I) (J : px_J) : Nat → List px_C → px_H
  | _, [] => []
  | p, c :: cs => px_md I J p c :: px_ml I J (p + 1) cs
theorem px_ml_eq {I : px_I} {J : px_J} : ∀ (xs : List px_C) (k : Nat), xs.mapIdx (fun i x => px_mc I J (k + i) x) = px_ml I J k xs := by
  intro xs
  induction xs with
  | nil => intro k; rfl
  | cons x xs ih =>
    intro k
    rw [List.mapIdx_cons, px_ml, ← ih (k + 1), ← px_md_eq]
    have e : (fun i x => px_mc I J (k + (i + 1)) x) = (fun i x => px_mc I J (k + 1 + i) x) := by
      funext i x
      rw [show k + (i + 1) = k + 1 + i by omega]
    show px_mc I J (k + 0) x :: List.mapIdx (fun i x => px_mc I J (k + (i + 1)) x) xs = _
    rw [e, Nat.add_zero]
theorem px_mk_l {I : px_I} {J : px_J} : px_mk I J = px_ml I J 0 px_sh := by
  have e := px_ml_eq (I := I) (J := J) px_sh 0
  have e2 : (fun i x => px_mc I J (0 + i) x) = (fun i x => px_mc I J i x) := by
    funext i x
    rw [Nat.zero_add]
  rw [e2] at e
  exact e
theorem i_sh : ∀ s, s < 6 → i_0 20 s = 6 ∧ i_0 88 s = -1 := by decide +kernel
theorem r_0 : r_ex i_0 j_0 := by
  have z0 : ix (0 : Int32) = 0 := by decide
  have hs : r_hs (fun _ => 0) := fun p _ => ⟨rfl, by show ix (0 : Int32) < 12; omega⟩
  refine ⟨0, 0, 0, 0, 0, 0, [], ⟨rfl, rfl, by omega, rfl, rfl, by omega⟩, ⟨⟨rfl, rfl, rfl, rfl, rfl, rfl, rfl, rfl, rfl, rfl⟩, rfl, rfl, rfl, rfl⟩, ?_, ?_, ?_, ?_, ?_, ?_, ?_⟩
  · exact ⟨hs, fun j _ => ⟨rfl, by show ix (0 : Int32) < 7; omega⟩, fun j hj => absurd hj (by omega), fun j _ => ⟨rfl, by show ix (0 : Int32) < 10; omega⟩, fun j _ => Or.inl rfl, Or.inl rfl, by show (0 : Int32) < 12; decide, fun j hj => absurd hj (by omega)⟩
  · exact ⟨rfl, rfl, rfl, rfl, by omega, ⟨rfl, rfl, rfl, rfl⟩, fun k hk => absurd hk (by omega)⟩
  · exact ⟨rfl, ⟨0, 0, rfl, rfl, by omega, rfl, rfl, by omega⟩, ⟨rfl, rfl, rfl, rfl⟩, ⟨rfl, rfl⟩, hs, fun j _ => Or.inl rfl, Or.inl rfl⟩
  · exact ⟨rfl, rfl, by omega, fun i hi => absurd hi (by omega)⟩
  · refine ⟨⟨?_, rfl, Nat.le_of_ble_eq_true rfl, fun L hL => absurd hL List.not_mem_nil⟩, ?_, rfl, Nat.le_of_ble_eq_true rfl, Nat.le_of_ble_eq_true rfl, fun L hL => absurd hL List.not_mem_nil, rfl⟩
    · exact trivial
    · trivial
  · exact ⟨rfl, rfl, by omega, rfl, fun j _ => ⟨0, by omega, rfl⟩, rfl, rfl⟩
  · intro s hs6
    refine ⟨⟨rfl, by show ix (0 : Int32) ≤ 60; omega⟩, Or.inl (i_sh s hs6)⟩
set_option maxRecDepth 100000 in
theorem lw_V1 {l : Launch} {L : Nat} {xs : Nat → Int32} (hL : L ≤ 3072) : V1 l room_1 mL_law [(L, xs)] 0 0 0 [.float 4, .null, .null, .null] [] [] (px_q lw_E) := by
  refine V1_new (pc := 0) (ci := 11) (N := 15) (nh := 0) (fs := [.null, .null, .null, .null, .null, .null, .null, .null, .null, .null, .null, .null, .int 0, .int 0, .int 0]) dL_law_0 rfl inX11 tyX11_ok clL_7 iaX11 iiX11 (by decide) (fun _ => rfl) (Nat.le_of_ble_eq_true rfl) (Nat.le_of_ble_eq_true rfl) rfl ?_
  refine V1_dup (pc := 3) dL_law_3 rfl ?_
  refine V1_callI (pc := 4) (M' := mX11_init) dL_law_4 mlL_9 okX11_init (ci_X11 (n := 1) (p := 0) rfl rfl) rfl rfl ⟨(Nat.le_of_ble_eq_true rfl), (Nat.le_of_ble_eq_true rfl)⟩ (Nat.le_of_ble_eq_true rfl) (Nat.le_of_ble_eq_true rfl) (Nat.le_of_ble_eq_true rfl) ?_
  intro r1 h1 hq
  obtain ⟨e1, e2⟩ := hq
  rw [e1, e2]
  clear e1 e2 r1 h1
  refine V1_astore_1 (pc := 7) dL_law_7 (by decide) rfl ?_
  refine V1_new (pc := 8) (ci := 12) (N := 59) (nh := 54) (fs := [.int 0, .int 0, .null, .int 0, .null, .null, .null, .null, .null, .null, .null, .null, .null, .int 0, .int 0, .null, .null, .null, .null, .null, .int 0, .int 0, .int 0, .int 0, .int 0, .null, .null, .null, .null, .null, .null, .null, .int 0, .null, .null, .null, .int 0, .int 0, .int 0, .int 0, .null, .null, .int 0, .int 0, .int 0, .int 0, .int 0, .null, .null, .null, .null, .int 0, .null, .int 0, .null, .null, .null, .null, .null]) dL_law_8 rfl inX12 tyX12_ok clL_10 iaX12 iiX12 (by decide) (fun _ => rfl) (Nat.le_of_ble_eq_true rfl) (Nat.le_of_ble_eq_true rfl) rfl ?_
  refine V1_dup (pc := 11) dL_law_11 rfl ?_
  refine V1_callI (pc := 12) (M' := mX12_init) dL_law_12 mlL_12 okX12_init (ci_X12 (n := 55) (p := 54) rfl rfl) rfl rfl ⟨(Nat.le_of_ble_eq_true rfl), (Nat.le_of_ble_eq_true rfl)⟩ (Nat.le_of_ble_eq_true rfl) (Nat.le_of_ble_eq_true rfl) (Nat.le_of_ble_eq_true rfl) ?_
  intro r1 h1 hq
  obtain ⟨e1, e2⟩ := hq
  rw [e1, e2]
  clear e1 e2 r1 h1
  refine V1_astore_2 (pc := 15) dL_law_15 (by decide) rfl ?_
  refine V1_iconst (pc := 16) (nI 0) dL_law_16 (by decide) ?_
  refine V1_istore_3 (pc := 17) dL_law_17 (by decide) rfl ?_
  refine V1_of (V_hp (h' := px_mk i_0 j_0) (by rw [px_mk_l]; rfl) ?_)
  exact lw_loop hL ⟨(Nat.le_of_ble_eq_true rfl), (Nat.le_of_ble_eq_true rfl)⟩ (L + 1) 0 i_0 j_0 (by omega) (by omega) r_0

