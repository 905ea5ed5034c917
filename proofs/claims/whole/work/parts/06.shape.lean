/-! THE SHAPE of the heap behind both constructors, and states over it: I the ints (fields, arrays), J the longs -/
abbrev px_C : Type := (Nat × Nat) ⊕ (Nat × List (Option Value))
def px_sh : List px_C := [.inr (11, [some (.ref 1), some (.ref 8), some (.ref 23), some (.ref 13), some (.ref 28), some (.ref 33), some (.ref 14), some (.ref 40), some (.ref 42), some (.ref 48), some (.ref 51), some (.ref 19), none, none, none]),
  .inr (7, [some (.ref 2), some (.ref 3), some (.ref 4), some (.ref 5), some (.ref 6), some (.ref 7), none, none, none, none]),
  .inl (0, 10),
  .inl (0, 10),
  .inl (0, 10),
  .inl (0, 10),
  .inl (0, 10),
  .inl (0, 10),
  .inr (2, [some (.ref 9), some (.ref 10), some (.ref 11), some (.ref 12), none, none, some (.ref 1)]),
  .inl (0, 7),
  .inl (0, 10),
  .inl (0, 10),
  .inl (0, 6),
  .inr (4, [some (.ref 1), some (.ref 8)]),
  .inr (3, [some (.ref 15), some (.ref 16), some (.ref 17), some (.ref 18), none]),
  .inl (0, 6),
  .inl (0, 128),
  .inl (0, 128),
  .inl (0, 128),
  .inr (5, [some (.ref 20), some (.ref 21), some (.ref 22)]),
  .inl (0, 6),
  .inl (0, 6),
  .inl (4, 360),
  .inr (2, [some (.ref 24), some (.ref 25), some (.ref 26), some (.ref 27), none, none, some (.ref 1)]),
  .inl (0, 7),
  .inl (0, 10),
  .inl (0, 10),
  .inl (0, 6),
  .inr (1, [some (.ref 29), some (.ref 30), some (.ref 31), some (.ref 32), some (.ref 13), none, none]),
  .inl (0, 40),
  .inl (0, 40),
  .inl (0, 40),
  .inl (0, 40),
  .inr (8, [some (.ref 34), some (.ref 39), none, none, none]),
  .inr (3, [some (.ref 35), some (.ref 36), some (.ref 37), some (.ref 38), none]),
  .inl (0, 6),
  .inl (0, 128),
  .inl (0, 128),
  .inl (0, 128),
  .inl (0, 120),
  .inr (6, [some (.ref 1), some (.ref 8), some (.ref 14), some (.ref 41)]),
  .inl (0, 10),
  .inr (9, [some (.ref 1), some (.ref 8), some (.ref 43), some (.ref 19), none, none]),
  .inr (2, [some (.ref 44), some (.ref 45), some (.ref 46), some (.ref 47), none, none, some (.ref 1)]),
  .inl (0, 7),
  .inl (0, 10),
  .inl (0, 10),
  .inl (0, 6),
  .inr (10, [some (.ref 1), some (.ref 8), some (.ref 49), some (.ref 50), none, none]),
  .inl (0, 7),
  .inl (2, 128),
  .inr (0, [some (.ref 52), some (.ref 53), none, none, none]),
  .inl (0, 50),
  .inl (0, 24),
  .inr (12, [none, none, some (.ref 55), none, some (.ref 56), some (.ref 57), some (.ref 58), some (.ref 59), some (.ref 60), some (.ref 61), some (.ref 62), some (.ref 63), some (.ref 64), none, none, some (.ref 65), some (.ref 66), some (.ref 67), some (.ref 68), some (.ref 69), none, none, none, none, none, some (.ref 70), some (.ref 71), some (.ref 72), some (.ref 73), some (.ref 74), some (.ref 75), some (.ref 76), none, some (.ref 77), some (.ref 78), some (.ref 79), none, none, none, none, some (.ref 80), some (.ref 81), none, none, none, none, none, some (.ref 82), some (.ref 83), some (.ref 84), some (.ref 85), none, some (.ref 86), none, some (.ref 87), some (.ref 88), some (.ref 89), some (.ref 90), some (.ref 91)]),
  .inl (0, 7),
  .inl (0, 10),
  .inl (0, 10),
  .inl (0, 10),
  .inl (0, 10),
  .inl (0, 10),
  .inl (0, 10),
  .inl (0, 10),
  .inl (0, 10),
  .inl (0, 4),
  .inl (0, 40),
  .inl (0, 40),
  .inl (0, 40),
  .inl (0, 40),
  .inl (1, 120),
  .inl (1, 260),
  .inl (0, 260),
  .inl (0, 2),
  .inl (3, 122),
  .inl (3, 122),
  .inl (0, 6),
  .inl (0, 130),
  .inl (0, 7),
  .inl (0, 10),
  .inl (0, 10),
  .inl (0, 10),
  .inl (0, 6),
  .inl (0, 7),
  .inl (0, 10),
  .inl (0, 10),
  .inl (0, 6),
  .inl (0, 50),
  .inl (0, 24),
  .inl (0, 6),
  .inl (0, 6),
  .inl (4, 360),
  .inl (4, 60)]
abbrev px_I : Type := Nat → Nat → Int32
abbrev px_J : Type := Nat → Nat → Int64
def px_kv (I : px_I) (p k : Nat) : Option Value → Value
  | some v => v
  | none => .int (I p k)
def px_mc (I : px_I) (J : px_J) (p : Nat) : px_C → px_E
  | .inl a => .inl (a.1, a.2, if a.1 = 4 then .inr (.inl (J p)) else .inl (I p))
  | .inr o => .inr (o.1, o.2.mapIdx fun k x => px_kv I p k x)
def px_mk (I : px_I) (J : px_J) : px_H := px_sh.mapIdx fun p c => px_mc I J p c
theorem px_mk_get {I : px_I} {J : px_J} {p : Nat} {c : px_C} (h : px_sh[p]? = some c) : (px_mk I J)[p]? = some (px_mc I J p c) := by
  simp [px_mk, List.getElem?_mapIdx, h]
def px_up (I : px_I) (p k : Nat) (x : Int32) : px_I := fun p' k' => if p' = p ∧ k' = k then x else I p' k'
def px_upL (J : px_J) (p k : Nat) (x : Int64) : px_J := fun p' k' => if p' = p ∧ k' = k then x else J p' k'
theorem px_up_same {I : px_I} {p k : Nat} {x : Int32} : px_up I p k x p k = x := by simp [px_up]
theorem px_up_row {I : px_I} {p p' k : Nat} {x : Int32} (h : p' ≠ p) : px_up I p k x p' = I p' := by
  funext k'; simp [px_up, h]
theorem px_mk_set {I I' : px_I} {J J' : px_J} {p : Nat} {c : px_C} (h : px_sh[p]? = some c) (hI : ∀ q, q ≠ p → I' q = I q) (hJ : ∀ q, q ≠ p → J' q = J q) : (px_mk I J).set p (px_mc I' J' p c) = px_mk I' J' := by
  apply List.ext_getElem?
  intro i
  have hl : p < px_sh.length := (List.getElem?_eq_some_iff.mp h).1
  rw [List.getElem?_set]
  by_cases hi : p = i
  · subst hi
    rw [if_pos rfl, px_mk_get h]
    rw [if_pos (by simpa [px_mk] using hl)]
  · rw [if_neg hi]
    have hi' : i ≠ p := fun e => hi e.symm
    simp only [px_mk, List.getElem?_mapIdx]
    cases hc : px_sh[i]? with
    | none => rfl
    | some d =>
      simp only [Option.map_some]
      congr 1
      unfold px_mc
      cases d with
      | inl a => simp only [hI i hi', hJ i hi']
      | inr o => simp only [px_kv, hI i hi']
/-- arrays are short -/
theorem px_short {p t n : Nat} (h : px_sh[p]? = some (.inl (t, n))) : n < 2 ^ 31 := by
  have hall : px_sh.all (fun c => match c with | .inl a => decide (a.2 < 2 ^ 31) | _ => true) = true := by decide +kernel
  have := List.all_eq_true.mp hall _ (List.mem_of_getElem? h)
  simpa using this
theorem px_ix {n j : Nat} {i : Int32} (hi : i = nI j) (hj : j < n) (hn : n < 2 ^ 31) : vp_in i n ∧ i.toNatClampNeg = j := by
  subst hi
  exact ⟨vp_in_nI hj hn, Int32.toNatClampNeg_ofNat_of_lt (Nat.lt_trans hj hn)⟩
abbrev px_Q : Type := Option Value → px_I → px_J → Prop
def px_q (Q : px_Q) : Option Value → px_H → Prop := fun r h' => ∃ (I' : px_I) (J' : px_J), h' = px_mk I' J' ∧ Q r I' J'
section PV
variable {l : Launch} {R : Room} {M : px_M} {XT : px_X} {kc ks pc : Nat} {ls st : List Value} {I : px_I} {J : px_J} {Q : px_Q}
theorem V_geti {idx ci k p0 : Nat} {fin : Bool} {ty : FieldType} {kk0 : List (Option Value)} (hd : decode M.2.1 pc = .ok (.getfield idx, 3)) (hf : px_fl M.1.cls idx ci k fin ty) (hs : px_sh[p0]? = some (.inr (ci, kk0))) (hk : kk0[k]? = some none) (kk : V0 l R M XT kc ks (pc + 3) ls (.int (I p0 k) :: st) (px_mk I J) (px_q Q)) : V0 l R M XT kc ks pc ls (.ref p0 :: st) (px_mk I J) (px_q Q) :=
  V0_get hd hf (fs := kk0.mapIdx fun k x => px_kv I p0 k x) (px_mk_get hs) (by rw [List.getElem?_mapIdx, hk]; rfl) kk
theorem V_getr {idx ci k p0 : Nat} {fin : Bool} {ty : FieldType} {v : Value} {kk0 : List (Option Value)} (hd : decode M.2.1 pc = .ok (.getfield idx, 3)) (hf : px_fl M.1.cls idx ci k fin ty) (hs : px_sh[p0]? = some (.inr (ci, kk0))) (hk : kk0[k]? = some (some v)) (kk : V0 l R M XT kc ks (pc + 3) ls (v :: st) (px_mk I J) (px_q Q)) : V0 l R M XT kc ks pc ls (.ref p0 :: st) (px_mk I J) (px_q Q) :=
  V0_get hd hf (fs := kk0.mapIdx fun k x => px_kv I p0 k x) (px_mk_get hs) (by rw [List.getElem?_mapIdx, hk]; rfl) kk
theorem px_put_eq {ci k p0 : Nat} {kk0 : List (Option Value)} {x : Int32} (hs : px_sh[p0]? = some (.inr (ci, kk0))) (hk : kk0[k]? = some none) : (px_mk I J).set p0 (.inr (ci, (kk0.mapIdx fun k x => px_kv I p0 k x).set k (.int x))) = px_mk (px_up I p0 k x) J := by
  rw [← px_mk_set hs (I := I) (J := J) (I' := px_up I p0 k x) (J' := J) (fun q hq => px_up_row hq) (fun _ _ => rfl)]
  congr 1
  show _ = Sum.inr (ci, kk0.mapIdx fun k' x' => px_kv (px_up I p0 k x) p0 k' x')
  congr 2
  apply List.ext_getElem?
  intro i
  have hl : k < kk0.length := (List.getElem?_eq_some_iff.mp hk).1
  rw [List.getElem?_set]
  by_cases hi : k = i
  · subst hi
    rw [if_pos rfl, if_pos (by simpa using hl), List.getElem?_mapIdx, hk]
    simp [px_kv, px_up]
  · rw [if_neg hi, List.getElem?_mapIdx, List.getElem?_mapIdx]
    cases hc : kk0[i]? with
    | none => rfl
    | some d =>
      cases d with
      | none => simp [px_kv, px_up, Ne.symm hi]
      | some v => rfl
theorem V_puti {idx ci k p0 : Nat} {x : Int32} {kk0 : List (Option Value)} (hd : decode M.2.1 pc = .ok (.putfield idx, 3)) (hf : px_fl M.1.cls idx ci k false .int) (hs : px_sh[p0]? = some (.inr (ci, kk0))) (hk : kk0[k]? = some none) (kk : V0 l R M XT kc ks (pc + 3) ls st (px_mk (px_up I p0 k x) J) (px_q Q)) : V0 l R M XT kc ks pc ls (.int x :: .ref p0 :: st) (px_mk I J) (px_q Q) := by
  refine V0_put hd hf (fs := kk0.mapIdx fun k x => px_kv I p0 k x) (px_mk_get hs) (by have := (List.getElem?_eq_some_iff.mp hk).1; simpa using this) (fun _ => rfl) (fun _ => rfl) ?_
  rw [px_put_eq hs hk]
  exact kk
theorem V_putz {idx ci k p0 : Nat} {x : Int32} {kk0 : List (Option Value)} (hd : decode M.2.1 pc = .ok (.putfield idx, 3)) (hf : px_fl M.1.cls idx ci k false .boolean) (hs : px_sh[p0]? = some (.inr (ci, kk0))) (hk : kk0[k]? = some none) (hx : x = 0 ∨ x = 1) (kk : V0 l R M XT kc ks (pc + 3) ls st (px_mk (px_up I p0 k x) J) (px_q Q)) : V0 l R M XT kc ks pc ls (.int x :: .ref p0 :: st) (px_mk I J) (px_q Q) := by
  refine V0_put hd hf (fs := kk0.mapIdx fun k x => px_kv I p0 k x) (px_mk_get hs) (by have := (List.getElem?_eq_some_iff.mp hk).1; simpa using this) (fun E => by show narrow FieldType.boolean (Value.int x) = Value.int x; rcases hx with rfl | rfl <;> decide +kernel) (fun E => by show fits FieldType.boolean (Value.int x) = true; rcases hx with rfl | rfl <;> decide +kernel) ?_
  rw [px_put_eq hs hk]
  exact kk

theorem V_iald {p0 n : Nat} {i : Int32} (j : Nat) (hd : decode M.2.1 pc = .ok (.iaload, 1)) (hs : px_sh[p0]? = some (.inl (0, n))) (hi : i = nI j) (hj : j < n) (kk : V0 l R M XT kc ks (pc + 1) ls (.int (I p0 j) :: st) (px_mk I J) (px_q Q)) : V0 l R M XT kc ks pc ls (.int i :: .ref p0 :: st) (px_mk I J) (px_q Q) := by
  obtain ⟨h1, h2⟩ := px_ix hi hj (px_short hs)
  refine V0_iald hd (f := I p0) (px_mk_get hs) h1 ?_
  rw [h2]
  exact kk
theorem V_bald {p0 n : Nat} {i : Int32} (j : Nat) (hd : decode M.2.1 pc = .ok (.baload, 1)) (hs : px_sh[p0]? = some (.inl (1, n))) (hi : i = nI j) (hj : j < n) (kk : V0 l R M XT kc ks (pc + 1) ls (.int (I p0 j) :: st) (px_mk I J) (px_q Q)) : V0 l R M XT kc ks pc ls (.int i :: .ref p0 :: st) (px_mk I J) (px_q Q) := by
  obtain ⟨h1, h2⟩ := px_ix hi hj (px_short hs)
  refine V0_bald hd (f := I p0) (px_mk_get hs) h1 ?_
  rw [h2]
  exact kk
theorem V_zald {p0 n : Nat} {i : Int32} (j : Nat) (hd : decode M.2.1 pc = .ok (.baload, 1)) (hs : px_sh[p0]? = some (.inl (2, n))) (hi : i = nI j) (hj : j < n) (kk : V0 l R M XT kc ks (pc + 1) ls (.int (I p0 j) :: st) (px_mk I J) (px_q Q)) : V0 l R M XT kc ks pc ls (.int i :: .ref p0 :: st) (px_mk I J) (px_q Q) := by
  obtain ⟨h1, h2⟩ := px_ix hi hj (px_short hs)
  refine V0_zald hd (f := I p0) (px_mk_get hs) h1 ?_
  rw [h2]
  exact kk
theorem V_sald {p0 n : Nat} {i : Int32} (j : Nat) (hd : decode M.2.1 pc = .ok (.saload, 1)) (hs : px_sh[p0]? = some (.inl (3, n))) (hi : i = nI j) (hj : j < n) (kk : V0 l R M XT kc ks (pc + 1) ls (.int (I p0 j) :: st) (px_mk I J) (px_q Q)) : V0 l R M XT kc ks pc ls (.int i :: .ref p0 :: st) (px_mk I J) (px_q Q) := by
  obtain ⟨h1, h2⟩ := px_ix hi hj (px_short hs)
  refine V0_sald hd (f := I p0) (px_mk_get hs) h1 ?_
  rw [h2]
  exact kk
theorem V_lald {p0 n : Nat} {i : Int32} (j : Nat) (hd : decode M.2.1 pc = .ok (.laload, 1)) (hs : px_sh[p0]? = some (.inl (4, n))) (hi : i = nI j) (hj : j < n) (kk : V0 l R M XT kc ks (pc + 1) ls (.long (J p0 j) :: st) (px_mk I J) (px_q Q)) : V0 l R M XT kc ks pc ls (.int i :: .ref p0 :: st) (px_mk I J) (px_q Q) := by
  obtain ⟨h1, h2⟩ := px_ix hi hj (px_short hs)
  refine V0_lald hd (f := J p0) (px_mk_get hs) h1 ?_
  rw [h2]
  exact kk
theorem V_iast {p0 n : Nat} {i x : Int32} (j : Nat) (hd : decode M.2.1 pc = .ok (.iastore, 1)) (hs : px_sh[p0]? = some (.inl (0, n))) (hi : i = nI j) (hj : j < n) (kk : V0 l R M XT kc ks (pc + 1) ls st (px_mk (px_up I p0 j x) J) (px_q Q)) : V0 l R M XT kc ks pc ls (.int x :: .int i :: .ref p0 :: st) (px_mk I J) (px_q Q) := by
  obtain ⟨h1, h2⟩ := px_ix hi hj (px_short hs)
  refine V0_iast hd (f := I p0) (px_mk_get hs) h1 ?_
  rw [h2]
  have e : (Sum.inl (0, n, Sum.inl (upd (I p0) j x)) : px_E) = px_mc (px_up I p0 j x) J p0 (.inl (0, n)) := by
    show _ = Sum.inl (0, n, Sum.inl (px_up I p0 j x p0))
    congr 3
    congr 1
    funext k
    simp [upd, px_up]
  rw [e, px_mk_set hs (fun q hq => px_up_row hq) (fun _ _ => rfl)]
  exact kk
theorem V_bast {p0 n : Nat} {i x : Int32} (j : Nat) (hd : decode M.2.1 pc = .ok (.bastore, 1)) (hs : px_sh[p0]? = some (.inl (1, n))) (hi : i = nI j) (hj : j < n) (kk : V0 l R M XT kc ks (pc + 1) ls st (px_mk (px_up I p0 j (vp_nar .byte x)) J) (px_q Q)) : V0 l R M XT kc ks pc ls (.int x :: .int i :: .ref p0 :: st) (px_mk I J) (px_q Q) := by
  obtain ⟨h1, h2⟩ := px_ix hi hj (px_short hs)
  refine V0_bast hd (f := I p0) (px_mk_get hs) h1 ?_
  rw [h2]
  have e : (Sum.inl (1, n, Sum.inl (upd (I p0) j (vp_nar .byte x))) : px_E) = px_mc (px_up I p0 j (vp_nar .byte x)) J p0 (.inl (1, n)) := by
    show _ = Sum.inl (1, n, Sum.inl (px_up I p0 j (vp_nar .byte x) p0))
    congr 3
    congr 1
    funext k
    simp [upd, px_up]
  rw [e, px_mk_set hs (fun q hq => px_up_row hq) (fun _ _ => rfl)]
  exact kk
theorem V_zast {p0 n : Nat} {i x : Int32} (j : Nat) (hd : decode M.2.1 pc = .ok (.bastore, 1)) (hs : px_sh[p0]? = some (.inl (2, n))) (hi : i = nI j) (hj : j < n) (kk : V0 l R M XT kc ks (pc + 1) ls st (px_mk (px_up I p0 j (vp_nar .boolean x)) J) (px_q Q)) : V0 l R M XT kc ks pc ls (.int x :: .int i :: .ref p0 :: st) (px_mk I J) (px_q Q) := by
  obtain ⟨h1, h2⟩ := px_ix hi hj (px_short hs)
  refine V0_zast hd (f := I p0) (px_mk_get hs) h1 ?_
  rw [h2]
  have e : (Sum.inl (2, n, Sum.inl (upd (I p0) j (vp_nar .boolean x))) : px_E) = px_mc (px_up I p0 j (vp_nar .boolean x)) J p0 (.inl (2, n)) := by
    show _ = Sum.inl (2, n, Sum.inl (px_up I p0 j (vp_nar .boolean x) p0))
    congr 3
    congr 1
    funext k
    simp [upd, px_up]
  rw [e, px_mk_set hs (fun q hq => px_up_row hq) (fun _ _ => rfl)]
  exact kk
theorem V_sast {p0 n : Nat} {i x : Int32} (j : Nat) (hd : decode M.2.1 pc = .ok (.sastore, 1)) (hs : px_sh[p0]? = some (.inl (3, n))) (hi : i = nI j) (hj : j < n) (kk : V0 l R M XT kc ks (pc + 1) ls st (px_mk (px_up I p0 j (vp_nar .short x)) J) (px_q Q)) : V0 l R M XT kc ks pc ls (.int x :: .int i :: .ref p0 :: st) (px_mk I J) (px_q Q) := by
  obtain ⟨h1, h2⟩ := px_ix hi hj (px_short hs)
  refine V0_sast hd (f := I p0) (px_mk_get hs) h1 ?_
  rw [h2]
  have e : (Sum.inl (3, n, Sum.inl (upd (I p0) j (vp_nar .short x))) : px_E) = px_mc (px_up I p0 j (vp_nar .short x)) J p0 (.inl (3, n)) := by
    show _ = Sum.inl (3, n, Sum.inl (px_up I p0 j (vp_nar .short x) p0))
    congr 3
    congr 1
    funext k
    simp [upd, px_up]
  rw [e, px_mk_set hs (fun q hq => px_up_row hq) (fun _ _ => rfl)]
  exact kk
theorem V_last {p0 n : Nat} {i : Int32} {x : Int64} (j : Nat) (hd : decode M.2.1 pc = .ok (.lastore, 1)) (hs : px_sh[p0]? = some (.inl (4, n))) (hi : i = nI j) (hj : j < n) (kk : V0 l R M XT kc ks (pc + 1) ls st (px_mk I (px_upL J p0 j x)) (px_q Q)) : V0 l R M XT kc ks pc ls (.long x :: .int i :: .ref p0 :: st) (px_mk I J) (px_q Q) := by
  obtain ⟨h1, h2⟩ := px_ix hi hj (px_short hs)
  refine V0_last hd (f := J p0) (px_mk_get hs) h1 ?_
  rw [h2]
  have e : (Sum.inl (4, n, Sum.inr (Sum.inl (vp_updL (J p0) j x))) : px_E) = px_mc I (px_upL J p0 j x) p0 (.inl (4, n)) := by
    show _ = Sum.inl (4, n, Sum.inr (Sum.inl (px_upL J p0 j x p0)))
    congr 4
    congr 1
    funext k
    simp [vp_updL, px_upL]
  rw [e, px_mk_set hs (fun _ _ => rfl) (fun q hq => by funext k; simp [px_upL, hq])]
  exact kk
theorem V_alen {p0 t n : Nat} (v : Int32) (hd : decode M.2.1 pc = .ok (.arraylength, 1)) (hs : px_sh[p0]? = some (.inl (t, n))) (ht : t < 5) (hv : Int32.ofNat n = v) (kk : V0 l R M XT kc ks (pc + 1) ls (.int v :: st) (px_mk I J) (px_q Q)) : V0 l R M XT kc ks pc ls (.ref p0 :: st) (px_mk I J) (px_q Q) := V0_alen v hd (px_mk_get hs) ht hv kk
theorem V_tald {u : UInt32} {n : Nat} {f : Nat → Int32} {i : Int32} (j : Nat) (hd : decode M.2.1 pc = .ok (.iaload, 1)) (ht : (px_tab XT.2)[u.toNat]? = some (n, f)) (hn : n < 2 ^ 31) (hi : i = nI j) (hj : j < n) (kk : V0 l R M XT kc ks (pc + 1) ls (.int (f j) :: st) (px_mk I J) (px_q Q)) : V0 l R M XT kc ks pc ls (.int i :: .float u :: st) (px_mk I J) (px_q Q) := by
  obtain ⟨h1, h2⟩ := px_ix hi hj hn
  refine V0_tald hd ht h1 ?_
  rw [h2]
  exact kk
/-- a part of an array copied -/
def px_cp (I : px_I) (q0 sp q1 dp n : Nat) : px_I := fun p k => if p = q1 ∧ dp ≤ k ∧ k < dp + n then I q0 (sp + (k - dp)) else I p k
def px_cpL (J : px_J) (q0 sp q1 dp n : Nat) : px_J := fun p k => if p = q1 ∧ dp ≤ k ∧ k < dp + n then J q0 (sp + (k - dp)) else J p k
theorem px_nn {i : Int32} {j : Nat} (hi : i = nI j) (hj : j < 2 ^ 31) : ¬ i < 0 ∧ i.toNatClampNeg = j := by
  subst hi
  refine ⟨?_, Int32.toNatClampNeg_ofNat_of_lt hj⟩
  rw [Int32.lt_iff_toInt_lt, nI_toInt hj]
  simp
theorem V_copyi {idx q0 q1 n0 n1 : Nat} {sp dp n : Int32} (s0 d0 k0 : Nat) (hz : XT.1 = false) (hd : decode M.2.1 pc = .ok (.invokestatic idx, 3)) (hl : Cond.methodLink M.1.cls idx arraycopyName ∈ px_tbl) (h0 : px_sh[q0]? = some (.inl (0, n0))) (h1 : px_sh[q1]? = some (.inl (0, n1))) (e1 : sp = nI s0) (e2 : dp = nI d0) (e3 : n = nI k0) (z4 : s0 + k0 ≤ n0) (z5 : d0 + k0 ≤ n1) (hR : 1 ≤ R.frames) (hst : (st.map fun v => v.category).sum + (nativeFrameWords "java/lang/System" "arraycopy" 5 + 11) ≤ R.locals)
    (kk : V0 l R M XT kc ks (pc + 3) ls st (px_mk (px_cp I q0 s0 q1 d0 k0) J) (px_q Q)) : V0 l R M XT kc ks pc ls (.int n :: .int dp :: .ref q1 :: .int sp :: .ref q0 :: st) (px_mk I J) (px_q Q) := by
  have b0 := px_short h0
  have b1 := px_short h1
  obtain ⟨a1, a2⟩ := px_nn e1 (by omega)
  obtain ⟨a3, a4⟩ := px_nn e2 (by omega)
  obtain ⟨a5, a6⟩ := px_nn e3 (by omega)
  refine V0_copyi (f := I q0) (g := I q1) hz hd hl jn_copy js_copy ji_System (px_mk_get h0) (px_mk_get h1) a1 a3 a5 (by rw [a2, a6]; exact z4) (by rw [a4, a6]; exact z5) hR hst ?_
  rw [a2, a4, a6]
  have e : (Sum.inl (0, n1, Sum.inl (va_cpy (I q0) (I q1) s0 d0 k0)) : px_E) = px_mc (px_cp I q0 s0 q1 d0 k0) J q1 (.inl (0, n1)) := by
    show _ = Sum.inl (0, n1, Sum.inl (px_cp I q0 s0 q1 d0 k0 q1))
    congr 3
    congr 1
    funext k
    simp [va_cpy, px_cp]
  rw [e, px_mk_set h1 (fun q hq => by funext k; simp [px_cp, hq]) (fun _ _ => rfl)]
  exact kk
theorem V_copyl {idx q0 q1 n0 n1 : Nat} {sp dp n : Int32} (s0 d0 k0 : Nat) (hz : XT.1 = false) (hd : decode M.2.1 pc = .ok (.invokestatic idx, 3)) (hl : Cond.methodLink M.1.cls idx arraycopyName ∈ px_tbl) (h0 : px_sh[q0]? = some (.inl (4, n0))) (h1 : px_sh[q1]? = some (.inl (4, n1))) (e1 : sp = nI s0) (e2 : dp = nI d0) (e3 : n = nI k0) (z4 : s0 + k0 ≤ n0) (z5 : d0 + k0 ≤ n1) (hR : 1 ≤ R.frames) (hst : (st.map fun v => v.category).sum + (nativeFrameWords "java/lang/System" "arraycopy" 5 + 11) ≤ R.locals)
    (kk : V0 l R M XT kc ks (pc + 3) ls st (px_mk I (px_cpL J q0 s0 q1 d0 k0)) (px_q Q)) : V0 l R M XT kc ks pc ls (.int n :: .int dp :: .ref q1 :: .int sp :: .ref q0 :: st) (px_mk I J) (px_q Q) := by
  have b0 := px_short h0
  have b1 := px_short h1
  obtain ⟨a1, a2⟩ := px_nn e1 (by omega)
  obtain ⟨a3, a4⟩ := px_nn e2 (by omega)
  obtain ⟨a5, a6⟩ := px_nn e3 (by omega)
  refine V0_copyl (f := J q0) (g := J q1) hz hd hl jn_copy js_copy ji_System (px_mk_get h0) (px_mk_get h1) a1 a3 a5 (by rw [a2, a6]; exact z4) (by rw [a4, a6]; exact z5) hR hst ?_
  rw [a2, a4, a6]
  have e : (Sum.inl (4, n1, Sum.inr (Sum.inl (va_cpy (J q0) (J q1) s0 d0 k0))) : px_E) = px_mc I (px_cpL J q0 s0 q1 d0 k0) q1 (.inl (4, n1)) := by
    show _ = Sum.inl (4, n1, Sum.inr (Sum.inl (px_cpL J q0 s0 q1 d0 k0 q1)))
    congr 4
    congr 1
    funext k
    simp [va_cpy, px_cpL]
  rw [e, px_mk_set h1 (fun _ _ => rfl) (fun q hq => by funext k; simp [px_cpL, hq])]
  exact kk
/-- ends -/
theorem V_reti (x : Int32) (hd : decode M.2.1 pc = .ok (.ireturn, 1)) (ht : M.2.2.2 = some .int) (hq : Q (some (.int x)) I J) : V0 l R M XT kc ks pc ls [.int x] (px_mk I J) (px_q Q) := V0_end (some (.int x)) ⟨hd, .int, ht, rfl⟩ rfl ⟨I, J, rfl, hq⟩
theorem V_retz (x : Int32) (hd : decode M.2.1 pc = .ok (.ireturn, 1)) (ht : M.2.2.2 = some .boolean) (hx : x = 0 ∨ x = 1) (hq : Q (some (.int x)) I J) : V0 l R M XT kc ks pc ls [.int x] (px_mk I J) (px_q Q) := V0_end (some (.int x)) ⟨hd, .boolean, ht, by rcases hx with rfl | rfl <;> decide +kernel⟩ rfl ⟨I, J, rfl, hq⟩
theorem V_retl (x : Int64) (hd : decode M.2.1 pc = .ok (.lreturn, 1)) (ht : M.2.2.2 = some .long) (hq : Q (some (.long x)) I J) : V0 l R M XT kc ks pc ls [.long x] (px_mk I J) (px_q Q) := V0_end (some (.long x)) ⟨hd, ht⟩ rfl ⟨I, J, rfl, hq⟩
theorem V_retr (x : Nat) {rt : FieldType} (hd : decode M.2.1 pc = .ok (.areturn, 1)) (ht : M.2.2.2 = some rt) (hr : (∃ n, rt = .object n) ∨ ∃ t, rt = .array t) (hq : Q (some (.ref x)) I J) : V0 l R M XT kc ks pc ls [.ref x] (px_mk I J) (px_q Q) := V0_end (some (.ref x)) ⟨hd, rt, ht, hr⟩ rfl ⟨I, J, rfl, hq⟩
theorem V_retv (hd : decode M.2.1 pc = .ok (.return_, 1)) (ht : M.2.2.2 = none) (hq : Q none I J) : V0 l R M XT kc ks pc ls [] (px_mk I J) (px_q Q) := V0_end none ⟨hd, ht⟩ rfl ⟨I, J, rfl, hq⟩
end PV
/-- CONTRACTS over states: of depth d, nothing is made -/
def Ct (l : Launch) (M : px_M) (d : Nat) (args : List Value) (I : px_I) (J : px_J) (Q : px_Q) : Prop := Ct0 l false M d 0 0 args (px_mk I J) (px_q Q)
/-- an int comes back, nothing is changed -/
def CtI (l : Launch) (M : px_M) (d : Nat) (args : List Value) (I : px_I) (J : px_J) (x : Int32) : Prop := Ct l M d args I J (fun r I' J' => r = some (.int x) ∧ I' = I ∧ J' = J)
theorem Ct.of {l : Launch} {M : px_M} {d : Nat} {args : List Value} {I : px_I} {J : px_J} {Q : px_Q} (hy : plainFor M.1 = true) (hn : (px_ent args).length ≤ M.2.2.1) (ls : List Value) (hls : px_pad M.2.2.1 (px_ent args) = ls)
    (k : V0 l (px_rm d 0 0) M (false, []) 0 0 0 ls [] (px_mk I J) (px_q Q)) : Ct l M d args I J Q := Ct0.of hy hn ls hls k
theorem Ct.mono {l : Launch} {M : px_M} {d : Nat} {args : List Value} {I : px_I} {J : px_J} {Q Q' : px_Q} (c : Ct l M d args I J Q) (h : ∀ r I' J', Q r I' J' → Q' r I' J') : Ct l M d args I J Q' :=
  Ct0.mono c (fun r h' ⟨I', J', e, hq⟩ => ⟨I', J', e, h r I' J' hq⟩)
section PC
variable {l : Launch} {R : Room} {M : px_M} {XT : px_X} {kc ks pc : Nat} {ls st : List Value} {I : px_I} {J : px_J} {Q : px_Q}

theorem V_callV {M' : px_M} {n d idx : Nat} {b ci : Nat} {kk0 : List (Option Value)} {As : List Value} {st0 : List Value} {Qc : px_Q} (hd : decode M.2.1 pc = .ok (.invokevirtual idx, 3)) (hl : Cond.methodLink M.1.cls idx M'.1 ∈ px_tbl) (ho : px_okV M' n) (hz : XT.1 = false) (hC : Ct l M' d (.ref b :: As) I J Qc) (hn : As.length = n) (hst : st0 = As.reverse ++ .ref b :: st) (hs : px_sh[b]? = some (.inr (ci, kk0))) (hci : vwCl[ci]?.map (fun q => q.1) = some M'.1.cls) (hR : d + 1 ≤ R.frames ∧ 8 + (M'.2.2.1 + 11) + 41 * d ≤ R.locals) (hc : kc ≤ R.cells ∧ ks ≤ R.slots) (hw : (st.map fun v => v.category).sum ≤ 8)
    (kk : ∀ (r : Option Value) (I1 : px_I) (J1 : px_J), Qc r I1 J1 → V0 l R M XT kc ks (pc + 3) ls (r.toList ++ st) (px_mk I1 J1) (px_q Q)) : V0 l R M XT kc ks pc ls st0 (px_mk I J) (px_q Q) := by
  refine V0_callV (kc' := 0) (ks' := 0) (Qk := px_q Qc) (ci := ci) (fs := kk0.mapIdx fun k x => px_kv I b k x) hd hl ho (by rw [hz]; exact hC) hn hst (px_mk_get hs) hci hR hc.1 hc.2 hw ?_
  intro r h1 hh
  obtain ⟨I1, J1, e, hq⟩ := hh
  rw [e]
  exact kk r I1 J1 hq
theorem V_callVi {M' : px_M} {n d idx : Nat} {b ci : Nat} {kk0 : List (Option Value)} {As : List Value} {st0 : List Value} {x : Int32} (hd : decode M.2.1 pc = .ok (.invokevirtual idx, 3)) (hl : Cond.methodLink M.1.cls idx M'.1 ∈ px_tbl) (ho : px_okV M' n) (hz : XT.1 = false) (hC : CtI l M' d (.ref b :: As) I J x) (hn : As.length = n) (hst : st0 = As.reverse ++ .ref b :: st) (hs : px_sh[b]? = some (.inr (ci, kk0))) (hci : vwCl[ci]?.map (fun q => q.1) = some M'.1.cls) (hR : d + 1 ≤ R.frames ∧ 8 + (M'.2.2.1 + 11) + 41 * d ≤ R.locals) (hc : kc ≤ R.cells ∧ ks ≤ R.slots) (hw : (st.map fun v => v.category).sum ≤ 8)
    (kk : V0 l R M XT kc ks (pc + 3) ls (.int x :: st) (px_mk I J) (px_q Q)) : V0 l R M XT kc ks pc ls st0 (px_mk I J) (px_q Q) := by
  refine V_callV hd hl ho hz hC hn hst hs hci hR hc hw ?_
  intro r I1 J1 hh
  obtain ⟨e1, e2, e3⟩ := hh
  rw [e1, e2, e3]
  exact kk
theorem V_callS {M' : px_M} {n d idx : Nat} {As : List Value} {st0 : List Value} {Qc : px_Q} (hd : decode M.2.1 pc = .ok (.invokestatic idx, 3)) (hl : Cond.methodLink M.1.cls idx M'.1 ∈ px_tbl) (ho : px_okS M' n) (hz : XT.1 = false) (hC : Ct l M' d As I J Qc) (hn : As.length = n) (hst : st0 = As.reverse ++ st) (hR : d + 1 ≤ R.frames ∧ 8 + (M'.2.2.1 + 11) + 41 * d ≤ R.locals) (hc : kc ≤ R.cells ∧ ks ≤ R.slots) (hw : (st.map fun v => v.category).sum ≤ 8)
    (kk : ∀ (r : Option Value) (I1 : px_I) (J1 : px_J), Qc r I1 J1 → V0 l R M XT kc ks (pc + 3) ls (r.toList ++ st) (px_mk I1 J1) (px_q Q)) : V0 l R M XT kc ks pc ls st0 (px_mk I J) (px_q Q) := by
  refine V0_callS (kc' := 0) (ks' := 0) (Qk := px_q Qc) hd hl ho (by rw [hz]; exact hC) hn hst hR hc.1 hc.2 hw ?_
  intro r h1 hh
  obtain ⟨I1, J1, e, hq⟩ := hh
  rw [e]
  exact kk r I1 J1 hq
theorem V_callSi {M' : px_M} {n d idx : Nat} {As : List Value} {st0 : List Value} {x : Int32} (hd : decode M.2.1 pc = .ok (.invokestatic idx, 3)) (hl : Cond.methodLink M.1.cls idx M'.1 ∈ px_tbl) (ho : px_okS M' n) (hz : XT.1 = false) (hC : CtI l M' d As I J x) (hn : As.length = n) (hst : st0 = As.reverse ++ st) (hR : d + 1 ≤ R.frames ∧ 8 + (M'.2.2.1 + 11) + 41 * d ≤ R.locals) (hc : kc ≤ R.cells ∧ ks ≤ R.slots) (hw : (st.map fun v => v.category).sum ≤ 8)
    (kk : V0 l R M XT kc ks (pc + 3) ls (.int x :: st) (px_mk I J) (px_q Q)) : V0 l R M XT kc ks pc ls st0 (px_mk I J) (px_q Q) := by
  refine V_callS hd hl ho hz hC hn hst hR hc hw ?_
  intro r I1 J1 hh
  obtain ⟨e1, e2, e3⟩ := hh
  rw [e1, e2, e3]
  exact kk
theorem V_callN {M' : px_M} {n d idx : Nat} {host : String} {As : List Value} {st0 : List Value} {Qc : px_Q} (hd : decode M.2.1 pc = .ok (.invokestatic idx, 3)) (hl : (M.1.cls, idx, M'.1, host) ∈ px_nest) (ho : px_okS M' n) (hz : XT.1 = false) (hC : Ct l M' d As I J Qc) (hn : As.length = n) (hst : st0 = As.reverse ++ st) (hR : d + 1 ≤ R.frames ∧ 8 + (M'.2.2.1 + 11) + 41 * d ≤ R.locals) (hc : kc ≤ R.cells ∧ ks ≤ R.slots) (hw : (st.map fun v => v.category).sum ≤ 8)
    (kk : ∀ (r : Option Value) (I1 : px_I) (J1 : px_J), Qc r I1 J1 → V0 l R M XT kc ks (pc + 3) ls (r.toList ++ st) (px_mk I1 J1) (px_q Q)) : V0 l R M XT kc ks pc ls st0 (px_mk I J) (px_q Q) := by
  refine V0_callSN (kc' := 0) (ks' := 0) (Qk := px_q Qc) hd hl ho (by rw [hz]; exact hC) hn hst hR hc.1 hc.2 hw ?_
  intro r h1 hh
  obtain ⟨I1, J1, e, hq⟩ := hh
  rw [e]
  exact kk r I1 J1 hq
theorem V_callNi {M' : px_M} {n d idx : Nat} {host : String} {As : List Value} {st0 : List Value} {x : Int32} (hd : decode M.2.1 pc = .ok (.invokestatic idx, 3)) (hl : (M.1.cls, idx, M'.1, host) ∈ px_nest) (ho : px_okS M' n) (hz : XT.1 = false) (hC : CtI l M' d As I J x) (hn : As.length = n) (hst : st0 = As.reverse ++ st) (hR : d + 1 ≤ R.frames ∧ 8 + (M'.2.2.1 + 11) + 41 * d ≤ R.locals) (hc : kc ≤ R.cells ∧ ks ≤ R.slots) (hw : (st.map fun v => v.category).sum ≤ 8)
    (kk : V0 l R M XT kc ks (pc + 3) ls (.int x :: st) (px_mk I J) (px_q Q)) : V0 l R M XT kc ks pc ls st0 (px_mk I J) (px_q Q) := by
  refine V_callN hd hl ho hz hC hn hst hR hc hw ?_
  intro r I1 J1 hh
  obtain ⟨e1, e2, e3⟩ := hh
  rw [e1, e2, e3]
  exact kk
/-- booleans -/
def b2 (b : Bool) : Int32 := if b = true then 1 else 0
theorem b2_t : b2 true = 1 := rfl
theorem b2_f : b2 false = 0 := rfl
theorem b2_01 (b : Bool) : b2 b = 0 ∨ b2 b = 1 := by cases b <;> simp [b2]
theorem V_ifeqb {b : Bool} {off : Int} (tgt : Nat) (hd : decode M.2.1 pc = .ok (.ifCond .eq off, 3)) (ht : (pc : Int) + off = (tgt : Int)) (kt : b = false → V0 l R M XT kc ks tgt ls st (px_mk I J) (px_q Q)) (kf : b = true → V0 l R M XT kc ks (pc + 3) ls st (px_mk I J) (px_q Q)) : V0 l R M XT kc ks pc ls (.int (b2 b) :: st) (px_mk I J) (px_q Q) :=
  V0_if_eq tgt hd ht (fun h => kt (by cases b <;> simp_all [b2])) (fun h => kf (by cases b <;> simp_all [b2]))
theorem V_ifneb {b : Bool} {off : Int} (tgt : Nat) (hd : decode M.2.1 pc = .ok (.ifCond .ne off, 3)) (ht : (pc : Int) + off = (tgt : Int)) (kt : b = true → V0 l R M XT kc ks tgt ls st (px_mk I J) (px_q Q)) (kf : b = false → V0 l R M XT kc ks (pc + 3) ls st (px_mk I J) (px_q Q)) : V0 l R M XT kc ks pc ls (.int (b2 b) :: st) (px_mk I J) (px_q Q) :=
  V0_if_ne tgt hd ht (fun h => kt (by cases b <;> simp_all [b2])) (fun h => kf (by cases b <;> simp_all [b2]))
end PC
section PS
variable {l : Launch} {R : Room} {M : px_M} {XT : px_X} {kc ks pc : Nat} {st : List Value} {h : px_H} {Q : Option Value → px_H → Prop}
theorem V0_istore_0 {c : Value} {t : List Value} {x : Int32} (hd : decode M.2.1 pc = .ok (.istore_n 0, 1)) (hn : 0 < M.2.2.1) (k : V0 l R M XT kc ks (pc + 1) (.int x :: t) st h Q) : V0 l R M XT kc ks pc (c :: t) (.int x :: st) h Q := V0_istore_nG hd hn (fun j v hj _ => by omega) k
theorem V0_astore_0 {c : Value} {t : List Value} {x : Nat} (hd : decode M.2.1 pc = .ok (.astore_n 0, 1)) (hn : 0 < M.2.2.1) (k : V0 l R M XT kc ks (pc + 1) (.ref x :: t) st h Q) : V0 l R M XT kc ks pc (c :: t) (.ref x :: st) h Q := V0_astore_nG hd hn (fun j v hj _ => by omega) k
theorem V0_iinc_0 {t : List Value} {x : Int32} {n : Int} (y : Int32) (hd : decode M.2.1 pc = .ok (.iinc 0 n, 3)) (hn : 0 < M.2.2.1) (hy : x + Int32.ofInt n = y) (k : V0 l R M XT kc ks (pc + 3) (.int y :: t) st h Q) : V0 l R M XT kc ks pc (.int x :: t) st h Q := by
  subst hy
  exact V0_iincG hd rfl hn (fun j v hj _ => by omega) k
theorem V0_lstore_0 {c c2 : Value} {t : List Value} {x : Int64} (hd : decode M.2.1 pc = .ok (.lstore_n 0, 1)) (hn : 0 + 1 < M.2.2.1) (k : V0 l R M XT kc ks (pc + 1) (.long x :: .null :: t) st h Q) : V0 l R M XT kc ks pc (c :: c2 :: t) (.long x :: st) h Q := V0_lstore_nG hd hn (fun j v hj _ => by omega) k
theorem V0_istore_1 {v0 c : Value} {t : List Value} {x : Int32} (hd : decode M.2.1 pc = .ok (.istore_n 1, 1)) (hn : 1 < M.2.2.1) (hp : v0.category = 1) (k : V0 l R M XT kc ks (pc + 1) (v0 :: .int x :: t) st h Q) : V0 l R M XT kc ks pc (v0 :: c :: t) (.int x :: st) h Q := V0_istore_nG hd hn (fun j v hj hv => by have hj : j = 0 := (by omega); subst hj; cases hv; exact hp) k
theorem V0_astore_1 {v0 c : Value} {t : List Value} {x : Nat} (hd : decode M.2.1 pc = .ok (.astore_n 1, 1)) (hn : 1 < M.2.2.1) (hp : v0.category = 1) (k : V0 l R M XT kc ks (pc + 1) (v0 :: .ref x :: t) st h Q) : V0 l R M XT kc ks pc (v0 :: c :: t) (.ref x :: st) h Q := V0_astore_nG hd hn (fun j v hj hv => by have hj : j = 0 := (by omega); subst hj; cases hv; exact hp) k
theorem V0_iinc_1 {v0 : Value} {t : List Value} {x : Int32} {n : Int} (y : Int32) (hd : decode M.2.1 pc = .ok (.iinc 1 n, 3)) (hn : 1 < M.2.2.1) (hp : v0.category = 1) (hy : x + Int32.ofInt n = y) (k : V0 l R M XT kc ks (pc + 3) (v0 :: .int y :: t) st h Q) : V0 l R M XT kc ks pc (v0 :: .int x :: t) st h Q := by
  subst hy
  exact V0_iincG hd rfl hn (fun j v hj hv => by have hj : j = 0 := (by omega); subst hj; cases hv; exact hp) k
theorem V0_lstore_1 {v0 c c2 : Value} {t : List Value} {x : Int64} (hd : decode M.2.1 pc = .ok (.lstore_n 1, 1)) (hn : 1 + 1 < M.2.2.1) (hp : v0.category = 1) (k : V0 l R M XT kc ks (pc + 1) (v0 :: .long x :: .null :: t) st h Q) : V0 l R M XT kc ks pc (v0 :: c :: c2 :: t) (.long x :: st) h Q := V0_lstore_nG hd hn (fun j v hj hv => by have hj : j = 0 := (by omega); subst hj; cases hv; exact hp) k
theorem V0_istore_2 {v0 v1 c : Value} {t : List Value} {x : Int32} (hd : decode M.2.1 pc = .ok (.istore_n 2, 1)) (hn : 2 < M.2.2.1) (hp : v1.category = 1) (k : V0 l R M XT kc ks (pc + 1) (v0 :: v1 :: .int x :: t) st h Q) : V0 l R M XT kc ks pc (v0 :: v1 :: c :: t) (.int x :: st) h Q := V0_istore_nG hd hn (fun j v hj hv => by have hj : j = 1 := (by omega); subst hj; cases hv; exact hp) k
theorem V0_astore_2 {v0 v1 c : Value} {t : List Value} {x : Nat} (hd : decode M.2.1 pc = .ok (.astore_n 2, 1)) (hn : 2 < M.2.2.1) (hp : v1.category = 1) (k : V0 l R M XT kc ks (pc + 1) (v0 :: v1 :: .ref x :: t) st h Q) : V0 l R M XT kc ks pc (v0 :: v1 :: c :: t) (.ref x :: st) h Q := V0_astore_nG hd hn (fun j v hj hv => by have hj : j = 1 := (by omega); subst hj; cases hv; exact hp) k
theorem V0_iinc_2 {v0 v1 : Value} {t : List Value} {x : Int32} {n : Int} (y : Int32) (hd : decode M.2.1 pc = .ok (.iinc 2 n, 3)) (hn : 2 < M.2.2.1) (hp : v1.category = 1) (hy : x + Int32.ofInt n = y) (k : V0 l R M XT kc ks (pc + 3) (v0 :: v1 :: .int y :: t) st h Q) : V0 l R M XT kc ks pc (v0 :: v1 :: .int x :: t) st h Q := by
  subst hy
  exact V0_iincG hd rfl hn (fun j v hj hv => by have hj : j = 1 := (by omega); subst hj; cases hv; exact hp) k
theorem V0_lstore_2 {v0 v1 c c2 : Value} {t : List Value} {x : Int64} (hd : decode M.2.1 pc = .ok (.lstore_n 2, 1)) (hn : 2 + 1 < M.2.2.1) (hp : v1.category = 1) (k : V0 l R M XT kc ks (pc + 1) (v0 :: v1 :: .long x :: .null :: t) st h Q) : V0 l R M XT kc ks pc (v0 :: v1 :: c :: c2 :: t) (.long x :: st) h Q := V0_lstore_nG hd hn (fun j v hj hv => by have hj : j = 1 := (by omega); subst hj; cases hv; exact hp) k
theorem V0_istore_3 {v0 v1 v2 c : Value} {t : List Value} {x : Int32} (hd : decode M.2.1 pc = .ok (.istore_n 3, 1)) (hn : 3 < M.2.2.1) (hp : v2.category = 1) (k : V0 l R M XT kc ks (pc + 1) (v0 :: v1 :: v2 :: .int x :: t) st h Q) : V0 l R M XT kc ks pc (v0 :: v1 :: v2 :: c :: t) (.int x :: st) h Q := V0_istore_nG hd hn (fun j v hj hv => by have hj : j = 2 := (by omega); subst hj; cases hv; exact hp) k
theorem V0_astore_3 {v0 v1 v2 c : Value} {t : List Value} {x : Nat} (hd : decode M.2.1 pc = .ok (.astore_n 3, 1)) (hn : 3 < M.2.2.1) (hp : v2.category = 1) (k : V0 l R M XT kc ks (pc + 1) (v0 :: v1 :: v2 :: .ref x :: t) st h Q) : V0 l R M XT kc ks pc (v0 :: v1 :: v2 :: c :: t) (.ref x :: st) h Q := V0_astore_nG hd hn (fun j v hj hv => by have hj : j = 2 := (by omega); subst hj; cases hv; exact hp) k
theorem V0_iinc_3 {v0 v1 v2 : Value} {t : List Value} {x : Int32} {n : Int} (y : Int32) (hd : decode M.2.1 pc = .ok (.iinc 3 n, 3)) (hn : 3 < M.2.2.1) (hp : v2.category = 1) (hy : x + Int32.ofInt n = y) (k : V0 l R M XT kc ks (pc + 3) (v0 :: v1 :: v2 :: .int y :: t) st h Q) : V0 l R M XT kc ks pc (v0 :: v1 :: v2 :: .int x :: t) st h Q := by
  subst hy
  exact V0_iincG hd rfl hn (fun j v hj hv => by have hj : j = 2 := (by omega); subst hj; cases hv; exact hp) k
theorem V0_lstore_3 {v0 v1 v2 c c2 : Value} {t : List Value} {x : Int64} (hd : decode M.2.1 pc = .ok (.lstore_n 3, 1)) (hn : 3 + 1 < M.2.2.1) (hp : v2.category = 1) (k : V0 l R M XT kc ks (pc + 1) (v0 :: v1 :: v2 :: .long x :: .null :: t) st h Q) : V0 l R M XT kc ks pc (v0 :: v1 :: v2 :: c :: c2 :: t) (.long x :: st) h Q := V0_lstore_nG hd hn (fun j v hj hv => by have hj : j = 2 := (by omega); subst hj; cases hv; exact hp) k
theorem V0_istore_4 {v0 v1 v2 v3 c : Value} {t : List Value} {x : Int32} (hd : decode M.2.1 pc = .ok (.istore 4, 2)) (hn : 4 < M.2.2.1) (hp : v3.category = 1) (k : V0 l R M XT kc ks (pc + 2) (v0 :: v1 :: v2 :: v3 :: .int x :: t) st h Q) : V0 l R M XT kc ks pc (v0 :: v1 :: v2 :: v3 :: c :: t) (.int x :: st) h Q := V0_istoreG hd hn (fun j v hj hv => by have hj : j = 3 := (by omega); subst hj; cases hv; exact hp) k
theorem V0_astore_4 {v0 v1 v2 v3 c : Value} {t : List Value} {x : Nat} (hd : decode M.2.1 pc = .ok (.astore 4, 2)) (hn : 4 < M.2.2.1) (hp : v3.category = 1) (k : V0 l R M XT kc ks (pc + 2) (v0 :: v1 :: v2 :: v3 :: .ref x :: t) st h Q) : V0 l R M XT kc ks pc (v0 :: v1 :: v2 :: v3 :: c :: t) (.ref x :: st) h Q := V0_astoreG hd hn (fun j v hj hv => by have hj : j = 3 := (by omega); subst hj; cases hv; exact hp) k
theorem V0_iinc_4 {v0 v1 v2 v3 : Value} {t : List Value} {x : Int32} {n : Int} (y : Int32) (hd : decode M.2.1 pc = .ok (.iinc 4 n, 3)) (hn : 4 < M.2.2.1) (hp : v3.category = 1) (hy : x + Int32.ofInt n = y) (k : V0 l R M XT kc ks (pc + 3) (v0 :: v1 :: v2 :: v3 :: .int y :: t) st h Q) : V0 l R M XT kc ks pc (v0 :: v1 :: v2 :: v3 :: .int x :: t) st h Q := by
  subst hy
  exact V0_iincG hd rfl hn (fun j v hj hv => by have hj : j = 3 := (by omega); subst hj; cases hv; exact hp) k
theorem V0_lstore_4 {v0 v1 v2 v3 c c2 : Value} {t : List Value} {x : Int64} (hd : decode M.2.1 pc = .ok (.lstore 4, 2)) (hn : 4 + 1 < M.2.2.1) (hp : v3.category = 1) (k : V0 l R M XT kc ks (pc + 2) (v0 :: v1 :: v2 :: v3 :: .long x :: .null :: t) st h Q) : V0 l R M XT kc ks pc (v0 :: v1 :: v2 :: v3 :: c :: c2 :: t) (.long x :: st) h Q := V0_lstoreG hd hn (fun j v hj hv => by have hj : j = 3 := (by omega); subst hj; cases hv; exact hp) k
theorem V0_istore_5 {v0 v1 v2 v3 v4 c : Value} {t : List Value} {x : Int32} (hd : decode M.2.1 pc = .ok (.istore 5, 2)) (hn : 5 < M.2.2.1) (hp : v4.category = 1) (k : V0 l R M XT kc ks (pc + 2) (v0 :: v1 :: v2 :: v3 :: v4 :: .int x :: t) st h Q) : V0 l R M XT kc ks pc (v0 :: v1 :: v2 :: v3 :: v4 :: c :: t) (.int x :: st) h Q := V0_istoreG hd hn (fun j v hj hv => by have hj : j = 4 := (by omega); subst hj; cases hv; exact hp) k
theorem V0_astore_5 {v0 v1 v2 v3 v4 c : Value} {t : List Value} {x : Nat} (hd : decode M.2.1 pc = .ok (.astore 5, 2)) (hn : 5 < M.2.2.1) (hp : v4.category = 1) (k : V0 l R M XT kc ks (pc + 2) (v0 :: v1 :: v2 :: v3 :: v4 :: .ref x :: t) st h Q) : V0 l R M XT kc ks pc (v0 :: v1 :: v2 :: v3 :: v4 :: c :: t) (.ref x :: st) h Q := V0_astoreG hd hn (fun j v hj hv => by have hj : j = 4 := (by omega); subst hj; cases hv; exact hp) k
theorem V0_iinc_5 {v0 v1 v2 v3 v4 : Value} {t : List Value} {x : Int32} {n : Int} (y : Int32) (hd : decode M.2.1 pc = .ok (.iinc 5 n, 3)) (hn : 5 < M.2.2.1) (hp : v4.category = 1) (hy : x + Int32.ofInt n = y) (k : V0 l R M XT kc ks (pc + 3) (v0 :: v1 :: v2 :: v3 :: v4 :: .int y :: t) st h Q) : V0 l R M XT kc ks pc (v0 :: v1 :: v2 :: v3 :: v4 :: .int x :: t) st h Q := by
  subst hy
  exact V0_iincG hd rfl hn (fun j v hj hv => by have hj : j = 4 := (by omega); subst hj; cases hv; exact hp) k
theorem V0_lstore_5 {v0 v1 v2 v3 v4 c c2 : Value} {t : List Value} {x : Int64} (hd : decode M.2.1 pc = .ok (.lstore 5, 2)) (hn : 5 + 1 < M.2.2.1) (hp : v4.category = 1) (k : V0 l R M XT kc ks (pc + 2) (v0 :: v1 :: v2 :: v3 :: v4 :: .long x :: .null :: t) st h Q) : V0 l R M XT kc ks pc (v0 :: v1 :: v2 :: v3 :: v4 :: c :: c2 :: t) (.long x :: st) h Q := V0_lstoreG hd hn (fun j v hj hv => by have hj : j = 4 := (by omega); subst hj; cases hv; exact hp) k
theorem V0_istore_6 {v0 v1 v2 v3 v4 v5 c : Value} {t : List Value} {x : Int32} (hd : decode M.2.1 pc = .ok (.istore 6, 2)) (hn : 6 < M.2.2.1) (hp : v5.category = 1) (k : V0 l R M XT kc ks (pc + 2) (v0 :: v1 :: v2 :: v3 :: v4 :: v5 :: .int x :: t) st h Q) : V0 l R M XT kc ks pc (v0 :: v1 :: v2 :: v3 :: v4 :: v5 :: c :: t) (.int x :: st) h Q := V0_istoreG hd hn (fun j v hj hv => by have hj : j = 5 := (by omega); subst hj; cases hv; exact hp) k
theorem V0_astore_6 {v0 v1 v2 v3 v4 v5 c : Value} {t : List Value} {x : Nat} (hd : decode M.2.1 pc = .ok (.astore 6, 2)) (hn : 6 < M.2.2.1) (hp : v5.category = 1) (k : V0 l R M XT kc ks (pc + 2) (v0 :: v1 :: v2 :: v3 :: v4 :: v5 :: .ref x :: t) st h Q) : V0 l R M XT kc ks pc (v0 :: v1 :: v2 :: v3 :: v4 :: v5 :: c :: t) (.ref x :: st) h Q := V0_astoreG hd hn (fun j v hj hv => by have hj : j = 5 := (by omega); subst hj; cases hv; exact hp) k
theorem V0_iinc_6 {v0 v1 v2 v3 v4 v5 : Value} {t : List Value} {x : Int32} {n : Int} (y : Int32) (hd : decode M.2.1 pc = .ok (.iinc 6 n, 3)) (hn : 6 < M.2.2.1) (hp : v5.category = 1) (hy : x + Int32.ofInt n = y) (k : V0 l R M XT kc ks (pc + 3) (v0 :: v1 :: v2 :: v3 :: v4 :: v5 :: .int y :: t) st h Q) : V0 l R M XT kc ks pc (v0 :: v1 :: v2 :: v3 :: v4 :: v5 :: .int x :: t) st h Q := by
  subst hy
  exact V0_iincG hd rfl hn (fun j v hj hv => by have hj : j = 5 := (by omega); subst hj; cases hv; exact hp) k
theorem V0_lstore_6 {v0 v1 v2 v3 v4 v5 c c2 : Value} {t : List Value} {x : Int64} (hd : decode M.2.1 pc = .ok (.lstore 6, 2)) (hn : 6 + 1 < M.2.2.1) (hp : v5.category = 1) (k : V0 l R M XT kc ks (pc + 2) (v0 :: v1 :: v2 :: v3 :: v4 :: v5 :: .long x :: .null :: t) st h Q) : V0 l R M XT kc ks pc (v0 :: v1 :: v2 :: v3 :: v4 :: v5 :: c :: c2 :: t) (.long x :: st) h Q := V0_lstoreG hd hn (fun j v hj hv => by have hj : j = 5 := (by omega); subst hj; cases hv; exact hp) k
theorem V0_istore_7 {v0 v1 v2 v3 v4 v5 v6 c : Value} {t : List Value} {x : Int32} (hd : decode M.2.1 pc = .ok (.istore 7, 2)) (hn : 7 < M.2.2.1) (hp : v6.category = 1) (k : V0 l R M XT kc ks (pc + 2) (v0 :: v1 :: v2 :: v3 :: v4 :: v5 :: v6 :: .int x :: t) st h Q) : V0 l R M XT kc ks pc (v0 :: v1 :: v2 :: v3 :: v4 :: v5 :: v6 :: c :: t) (.int x :: st) h Q := V0_istoreG hd hn (fun j v hj hv => by have hj : j = 6 := (by omega); subst hj; cases hv; exact hp) k
theorem V0_astore_7 {v0 v1 v2 v3 v4 v5 v6 c : Value} {t : List Value} {x : Nat} (hd : decode M.2.1 pc = .ok (.astore 7, 2)) (hn : 7 < M.2.2.1) (hp : v6.category = 1) (k : V0 l R M XT kc ks (pc + 2) (v0 :: v1 :: v2 :: v3 :: v4 :: v5 :: v6 :: .ref x :: t) st h Q) : V0 l R M XT kc ks pc (v0 :: v1 :: v2 :: v3 :: v4 :: v5 :: v6 :: c :: t) (.ref x :: st) h Q := V0_astoreG hd hn (fun j v hj hv => by have hj : j = 6 := (by omega); subst hj; cases hv; exact hp) k
theorem V0_iinc_7 {v0 v1 v2 v3 v4 v5 v6 : Value} {t : List Value} {x : Int32} {n : Int} (y : Int32) (hd : decode M.2.1 pc = .ok (.iinc 7 n, 3)) (hn : 7 < M.2.2.1) (hp : v6.category = 1) (hy : x + Int32.ofInt n = y) (k : V0 l R M XT kc ks (pc + 3) (v0 :: v1 :: v2 :: v3 :: v4 :: v5 :: v6 :: .int y :: t) st h Q) : V0 l R M XT kc ks pc (v0 :: v1 :: v2 :: v3 :: v4 :: v5 :: v6 :: .int x :: t) st h Q := by
  subst hy
  exact V0_iincG hd rfl hn (fun j v hj hv => by have hj : j = 6 := (by omega); subst hj; cases hv; exact hp) k
theorem V0_lstore_7 {v0 v1 v2 v3 v4 v5 v6 c c2 : Value} {t : List Value} {x : Int64} (hd : decode M.2.1 pc = .ok (.lstore 7, 2)) (hn : 7 + 1 < M.2.2.1) (hp : v6.category = 1) (k : V0 l R M XT kc ks (pc + 2) (v0 :: v1 :: v2 :: v3 :: v4 :: v5 :: v6 :: .long x :: .null :: t) st h Q) : V0 l R M XT kc ks pc (v0 :: v1 :: v2 :: v3 :: v4 :: v5 :: v6 :: c :: c2 :: t) (.long x :: st) h Q := V0_lstoreG hd hn (fun j v hj hv => by have hj : j = 6 := (by omega); subst hj; cases hv; exact hp) k
theorem V0_istore_8 {v0 v1 v2 v3 v4 v5 v6 v7 c : Value} {t : List Value} {x : Int32} (hd : decode M.2.1 pc = .ok (.istore 8, 2)) (hn : 8 < M.2.2.1) (hp : v7.category = 1) (k : V0 l R M XT kc ks (pc + 2) (v0 :: v1 :: v2 :: v3 :: v4 :: v5 :: v6 :: v7 :: .int x :: t) st h Q) : V0 l R M XT kc ks pc (v0 :: v1 :: v2 :: v3 :: v4 :: v5 :: v6 :: v7 :: c :: t) (.int x :: st) h Q := V0_istoreG hd hn (fun j v hj hv => by have hj : j = 7 := (by omega); subst hj; cases hv; exact hp) k
theorem V0_astore_8 {v0 v1 v2 v3 v4 v5 v6 v7 c : Value} {t : List Value} {x : Nat} (hd : decode M.2.1 pc = .ok (.astore 8, 2)) (hn : 8 < M.2.2.1) (hp : v7.category = 1) (k : V0 l R M XT kc ks (pc + 2) (v0 :: v1 :: v2 :: v3 :: v4 :: v5 :: v6 :: v7 :: .ref x :: t) st h Q) : V0 l R M XT kc ks pc (v0 :: v1 :: v2 :: v3 :: v4 :: v5 :: v6 :: v7 :: c :: t) (.ref x :: st) h Q := V0_astoreG hd hn (fun j v hj hv => by have hj : j = 7 := (by omega); subst hj; cases hv; exact hp) k
theorem V0_iinc_8 {v0 v1 v2 v3 v4 v5 v6 v7 : Value} {t : List Value} {x : Int32} {n : Int} (y : Int32) (hd : decode M.2.1 pc = .ok (.iinc 8 n, 3)) (hn : 8 < M.2.2.1) (hp : v7.category = 1) (hy : x + Int32.ofInt n = y) (k : V0 l R M XT kc ks (pc + 3) (v0 :: v1 :: v2 :: v3 :: v4 :: v5 :: v6 :: v7 :: .int y :: t) st h Q) : V0 l R M XT kc ks pc (v0 :: v1 :: v2 :: v3 :: v4 :: v5 :: v6 :: v7 :: .int x :: t) st h Q := by
  subst hy
  exact V0_iincG hd rfl hn (fun j v hj hv => by have hj : j = 7 := (by omega); subst hj; cases hv; exact hp) k
theorem V0_lstore_8 {v0 v1 v2 v3 v4 v5 v6 v7 c c2 : Value} {t : List Value} {x : Int64} (hd : decode M.2.1 pc = .ok (.lstore 8, 2)) (hn : 8 + 1 < M.2.2.1) (hp : v7.category = 1) (k : V0 l R M XT kc ks (pc + 2) (v0 :: v1 :: v2 :: v3 :: v4 :: v5 :: v6 :: v7 :: .long x :: .null :: t) st h Q) : V0 l R M XT kc ks pc (v0 :: v1 :: v2 :: v3 :: v4 :: v5 :: v6 :: v7 :: c :: c2 :: t) (.long x :: st) h Q := V0_lstoreG hd hn (fun j v hj hv => by have hj : j = 7 := (by omega); subst hj; cases hv; exact hp) k
theorem V0_istore_9 {v0 v1 v2 v3 v4 v5 v6 v7 v8 c : Value} {t : List Value} {x : Int32} (hd : decode M.2.1 pc = .ok (.istore 9, 2)) (hn : 9 < M.2.2.1) (hp : v8.category = 1) (k : V0 l R M XT kc ks (pc + 2) (v0 :: v1 :: v2 :: v3 :: v4 :: v5 :: v6 :: v7 :: v8 :: .int x :: t) st h Q) : V0 l R M XT kc ks pc (v0 :: v1 :: v2 :: v3 :: v4 :: v5 :: v6 :: v7 :: v8 :: c :: t) (.int x :: st) h Q := V0_istoreG hd hn (fun j v hj hv => by have hj : j = 8 := (by omega); subst hj; cases hv; exact hp) k
theorem V0_astore_9 {v0 v1 v2 v3 v4 v5 v6 v7 v8 c : Value} {t : List Value} {x : Nat} (hd : decode M.2.1 pc = .ok (.astore 9, 2)) (hn : 9 < M.2.2.1) (hp : v8.category = 1) (k : V0 l R M XT kc ks (pc + 2) (v0 :: v1 :: v2 :: v3 :: v4 :: v5 :: v6 :: v7 :: v8 :: .ref x :: t) st h Q) : V0 l R M XT kc ks pc (v0 :: v1 :: v2 :: v3 :: v4 :: v5 :: v6 :: v7 :: v8 :: c :: t) (.ref x :: st) h Q := V0_astoreG hd hn (fun j v hj hv => by have hj : j = 8 := (by omega); subst hj; cases hv; exact hp) k
theorem V0_iinc_9 {v0 v1 v2 v3 v4 v5 v6 v7 v8 : Value} {t : List Value} {x : Int32} {n : Int} (y : Int32) (hd : decode M.2.1 pc = .ok (.iinc 9 n, 3)) (hn : 9 < M.2.2.1) (hp : v8.category = 1) (hy : x + Int32.ofInt n = y) (k : V0 l R M XT kc ks (pc + 3) (v0 :: v1 :: v2 :: v3 :: v4 :: v5 :: v6 :: v7 :: v8 :: .int y :: t) st h Q) : V0 l R M XT kc ks pc (v0 :: v1 :: v2 :: v3 :: v4 :: v5 :: v6 :: v7 :: v8 :: .int x :: t) st h Q := by
  subst hy
  exact V0_iincG hd rfl hn (fun j v hj hv => by have hj : j = 8 := (by omega); subst hj; cases hv; exact hp) k
theorem V0_lstore_9 {v0 v1 v2 v3 v4 v5 v6 v7 v8 c c2 : Value} {t : List Value} {x : Int64} (hd : decode M.2.1 pc = .ok (.lstore 9, 2)) (hn : 9 + 1 < M.2.2.1) (hp : v8.category = 1) (k : V0 l R M XT kc ks (pc + 2) (v0 :: v1 :: v2 :: v3 :: v4 :: v5 :: v6 :: v7 :: v8 :: .long x :: .null :: t) st h Q) : V0 l R M XT kc ks pc (v0 :: v1 :: v2 :: v3 :: v4 :: v5 :: v6 :: v7 :: v8 :: c :: c2 :: t) (.long x :: st) h Q := V0_lstoreG hd hn (fun j v hj hv => by have hj : j = 8 := (by omega); subst hj; cases hv; exact hp) k
theorem V0_istore_10 {v0 v1 v2 v3 v4 v5 v6 v7 v8 v9 c : Value} {t : List Value} {x : Int32} (hd : decode M.2.1 pc = .ok (.istore 10, 2)) (hn : 10 < M.2.2.1) (hp : v9.category = 1) (k : V0 l R M XT kc ks (pc + 2) (v0 :: v1 :: v2 :: v3 :: v4 :: v5 :: v6 :: v7 :: v8 :: v9 :: .int x :: t) st h Q) : V0 l R M XT kc ks pc (v0 :: v1 :: v2 :: v3 :: v4 :: v5 :: v6 :: v7 :: v8 :: v9 :: c :: t) (.int x :: st) h Q := V0_istoreG hd hn (fun j v hj hv => by have hj : j = 9 := (by omega); subst hj; cases hv; exact hp) k
theorem V0_astore_10 {v0 v1 v2 v3 v4 v5 v6 v7 v8 v9 c : Value} {t : List Value} {x : Nat} (hd : decode M.2.1 pc = .ok (.astore 10, 2)) (hn : 10 < M.2.2.1) (hp : v9.category = 1) (k : V0 l R M XT kc ks (pc + 2) (v0 :: v1 :: v2 :: v3 :: v4 :: v5 :: v6 :: v7 :: v8 :: v9 :: .ref x :: t) st h Q) : V0 l R M XT kc ks pc (v0 :: v1 :: v2 :: v3 :: v4 :: v5 :: v6 :: v7 :: v8 :: v9 :: c :: t) (.ref x :: st) h Q := V0_astoreG hd hn (fun j v hj hv => by have hj : j = 9 := (by omega); subst hj; cases hv; exact hp) k
theorem V0_iinc_10 {v0 v1 v2 v3 v4 v5 v6 v7 v8 v9 : Value} {t : List Value} {x : Int32} {n : Int} (y : Int32) (hd : decode M.2.1 pc = .ok (.iinc 10 n, 3)) (hn : 10 < M.2.2.1) (hp : v9.category = 1) (hy : x + Int32.ofInt n = y) (k : V0 l R M XT kc ks (pc + 3) (v0 :: v1 :: v2 :: v3 :: v4 :: v5 :: v6 :: v7 :: v8 :: v9 :: .int y :: t) st h Q) : V0 l R M XT kc ks pc (v0 :: v1 :: v2 :: v3 :: v4 :: v5 :: v6 :: v7 :: v8 :: v9 :: .int x :: t) st h Q := by
  subst hy
  exact V0_iincG hd rfl hn (fun j v hj hv => by have hj : j = 9 := (by omega); subst hj; cases hv; exact hp) k
theorem V0_lstore_10 {v0 v1 v2 v3 v4 v5 v6 v7 v8 v9 c c2 : Value} {t : List Value} {x : Int64} (hd : decode M.2.1 pc = .ok (.lstore 10, 2)) (hn : 10 + 1 < M.2.2.1) (hp : v9.category = 1) (k : V0 l R M XT kc ks (pc + 2) (v0 :: v1 :: v2 :: v3 :: v4 :: v5 :: v6 :: v7 :: v8 :: v9 :: .long x :: .null :: t) st h Q) : V0 l R M XT kc ks pc (v0 :: v1 :: v2 :: v3 :: v4 :: v5 :: v6 :: v7 :: v8 :: v9 :: c :: c2 :: t) (.long x :: st) h Q := V0_lstoreG hd hn (fun j v hj hv => by have hj : j = 9 := (by omega); subst hj; cases hv; exact hp) k
theorem V0_istore_11 {v0 v1 v2 v3 v4 v5 v6 v7 v8 v9 v10 c : Value} {t : List Value} {x : Int32} (hd : decode M.2.1 pc = .ok (.istore 11, 2)) (hn : 11 < M.2.2.1) (hp : v10.category = 1) (k : V0 l R M XT kc ks (pc + 2) (v0 :: v1 :: v2 :: v3 :: v4 :: v5 :: v6 :: v7 :: v8 :: v9 :: v10 :: .int x :: t) st h Q) : V0 l R M XT kc ks pc (v0 :: v1 :: v2 :: v3 :: v4 :: v5 :: v6 :: v7 :: v8 :: v9 :: v10 :: c :: t) (.int x :: st) h Q := V0_istoreG hd hn (fun j v hj hv => by have hj : j = 10 := (by omega); subst hj; cases hv; exact hp) k
theorem V0_astore_11 {v0 v1 v2 v3 v4 v5 v6 v7 v8 v9 v10 c : Value} {t : List Value} {x : Nat} (hd : decode M.2.1 pc = .ok (.astore 11, 2)) (hn : 11 < M.2.2.1) (hp : v10.category = 1) (k : V0 l R M XT kc ks (pc + 2) (v0 :: v1 :: v2 :: v3 :: v4 :: v5 :: v6 :: v7 :: v8 :: v9 :: v10 :: .ref x :: t) st h Q) : V0 l R M XT kc ks pc (v0 :: v1 :: v2 :: v3 :: v4 :: v5 :: v6 :: v7 :: v8 :: v9 :: v10 :: c :: t) (.ref x :: st) h Q := V0_astoreG hd hn (fun j v hj hv => by have hj : j = 10 := (by omega); subst hj; cases hv; exact hp) k
theorem V0_iinc_11 {v0 v1 v2 v3 v4 v5 v6 v7 v8 v9 v10 : Value} {t : List Value} {x : Int32} {n : Int} (y : Int32) (hd : decode M.2.1 pc = .ok (.iinc 11 n, 3)) (hn : 11 < M.2.2.1) (hp : v10.category = 1) (hy : x + Int32.ofInt n = y) (k : V0 l R M XT kc ks (pc + 3) (v0 :: v1 :: v2 :: v3 :: v4 :: v5 :: v6 :: v7 :: v8 :: v9 :: v10 :: .int y :: t) st h Q) : V0 l R M XT kc ks pc (v0 :: v1 :: v2 :: v3 :: v4 :: v5 :: v6 :: v7 :: v8 :: v9 :: v10 :: .int x :: t) st h Q := by
  subst hy
  exact V0_iincG hd rfl hn (fun j v hj hv => by have hj : j = 10 := (by omega); subst hj; cases hv; exact hp) k
theorem V0_lstore_11 {v0 v1 v2 v3 v4 v5 v6 v7 v8 v9 v10 c c2 : Value} {t : List Value} {x : Int64} (hd : decode M.2.1 pc = .ok (.lstore 11, 2)) (hn : 11 + 1 < M.2.2.1) (hp : v10.category = 1) (k : V0 l R M XT kc ks (pc + 2) (v0 :: v1 :: v2 :: v3 :: v4 :: v5 :: v6 :: v7 :: v8 :: v9 :: v10 :: .long x :: .null :: t) st h Q) : V0 l R M XT kc ks pc (v0 :: v1 :: v2 :: v3 :: v4 :: v5 :: v6 :: v7 :: v8 :: v9 :: v10 :: c :: c2 :: t) (.long x :: st) h Q := V0_lstoreG hd hn (fun j v hj hv => by have hj : j = 10 := (by omega); subst hj; cases hv; exact hp) k
theorem V0_istore_12 {v0 v1 v2 v3 v4 v5 v6 v7 v8 v9 v10 v11 c : Value} {t : List Value} {x : Int32} (hd : decode M.2.1 pc = .ok (.istore 12, 2)) (hn : 12 < M.2.2.1) (hp : v11.category = 1) (k : V0 l R M XT kc ks (pc + 2) (v0 :: v1 :: v2 :: v3 :: v4 :: v5 :: v6 :: v7 :: v8 :: v9 :: v10 :: v11 :: .int x :: t) st h Q) : V0 l R M XT kc ks pc (v0 :: v1 :: v2 :: v3 :: v4 :: v5 :: v6 :: v7 :: v8 :: v9 :: v10 :: v11 :: c :: t) (.int x :: st) h Q := V0_istoreG hd hn (fun j v hj hv => by have hj : j = 11 := (by omega); subst hj; cases hv; exact hp) k
theorem V0_astore_12 {v0 v1 v2 v3 v4 v5 v6 v7 v8 v9 v10 v11 c : Value} {t : List Value} {x : Nat} (hd : decode M.2.1 pc = .ok (.astore 12, 2)) (hn : 12 < M.2.2.1) (hp : v11.category = 1) (k : V0 l R M XT kc ks (pc + 2) (v0 :: v1 :: v2 :: v3 :: v4 :: v5 :: v6 :: v7 :: v8 :: v9 :: v10 :: v11 :: .ref x :: t) st h Q) : V0 l R M XT kc ks pc (v0 :: v1 :: v2 :: v3 :: v4 :: v5 :: v6 :: v7 :: v8 :: v9 :: v10 :: v11 :: c :: t) (.ref x :: st) h Q := V0_astoreG hd hn (fun j v hj hv => by have hj : j = 11 := (by omega); subst hj; cases hv; exact hp) k
theorem V0_iinc_12 {v0 v1 v2 v3 v4 v5 v6 v7 v8 v9 v10 v11 : Value} {t : List Value} {x : Int32} {n : Int} (y : Int32) (hd : decode M.2.1 pc = .ok (.iinc 12 n, 3)) (hn : 12 < M.2.2.1) (hp : v11.category = 1) (hy : x + Int32.ofInt n = y) (k : V0 l R M XT kc ks (pc + 3) (v0 :: v1 :: v2 :: v3 :: v4 :: v5 :: v6 :: v7 :: v8 :: v9 :: v10 :: v11 :: .int y :: t) st h Q) : V0 l R M XT kc ks pc (v0 :: v1 :: v2 :: v3 :: v4 :: v5 :: v6 :: v7 :: v8 :: v9 :: v10 :: v11 :: .int x :: t) st h Q := by
  subst hy
  exact V0_iincG hd rfl hn (fun j v hj hv => by have hj : j = 11 := (by omega); subst hj; cases hv; exact hp) k
theorem V0_istore_13 {v0 v1 v2 v3 v4 v5 v6 v7 v8 v9 v10 v11 v12 c : Value} {t : List Value} {x : Int32} (hd : decode M.2.1 pc = .ok (.istore 13, 2)) (hn : 13 < M.2.2.1) (hp : v12.category = 1) (k : V0 l R M XT kc ks (pc + 2) (v0 :: v1 :: v2 :: v3 :: v4 :: v5 :: v6 :: v7 :: v8 :: v9 :: v10 :: v11 :: v12 :: .int x :: t) st h Q) : V0 l R M XT kc ks pc (v0 :: v1 :: v2 :: v3 :: v4 :: v5 :: v6 :: v7 :: v8 :: v9 :: v10 :: v11 :: v12 :: c :: t) (.int x :: st) h Q := V0_istoreG hd hn (fun j v hj hv => by have hj : j = 12 := (by omega); subst hj; cases hv; exact hp) k
theorem V0_astore_13 {v0 v1 v2 v3 v4 v5 v6 v7 v8 v9 v10 v11 v12 c : Value} {t : List Value} {x : Nat} (hd : decode M.2.1 pc = .ok (.astore 13, 2)) (hn : 13 < M.2.2.1) (hp : v12.category = 1) (k : V0 l R M XT kc ks (pc + 2) (v0 :: v1 :: v2 :: v3 :: v4 :: v5 :: v6 :: v7 :: v8 :: v9 :: v10 :: v11 :: v12 :: .ref x :: t) st h Q) : V0 l R M XT kc ks pc (v0 :: v1 :: v2 :: v3 :: v4 :: v5 :: v6 :: v7 :: v8 :: v9 :: v10 :: v11 :: v12 :: c :: t) (.ref x :: st) h Q := V0_astoreG hd hn (fun j v hj hv => by have hj : j = 12 := (by omega); subst hj; cases hv; exact hp) k
theorem V0_iinc_13 {v0 v1 v2 v3 v4 v5 v6 v7 v8 v9 v10 v11 v12 : Value} {t : List Value} {x : Int32} {n : Int} (y : Int32) (hd : decode M.2.1 pc = .ok (.iinc 13 n, 3)) (hn : 13 < M.2.2.1) (hp : v12.category = 1) (hy : x + Int32.ofInt n = y) (k : V0 l R M XT kc ks (pc + 3) (v0 :: v1 :: v2 :: v3 :: v4 :: v5 :: v6 :: v7 :: v8 :: v9 :: v10 :: v11 :: v12 :: .int y :: t) st h Q) : V0 l R M XT kc ks pc (v0 :: v1 :: v2 :: v3 :: v4 :: v5 :: v6 :: v7 :: v8 :: v9 :: v10 :: v11 :: v12 :: .int x :: t) st h Q := by
  subst hy
  exact V0_iincG hd rfl hn (fun j v hj hv => by have hj : j = 12 := (by omega); subst hj; cases hv; exact hp) k
theorem V0_istore_14 {v0 v1 v2 v3 v4 v5 v6 v7 v8 v9 v10 v11 v12 v13 c : Value} {t : List Value} {x : Int32} (hd : decode M.2.1 pc = .ok (.istore 14, 2)) (hn : 14 < M.2.2.1) (hp : v13.category = 1) (k : V0 l R M XT kc ks (pc + 2) (v0 :: v1 :: v2 :: v3 :: v4 :: v5 :: v6 :: v7 :: v8 :: v9 :: v10 :: v11 :: v12 :: v13 :: .int x :: t) st h Q) : V0 l R M XT kc ks pc (v0 :: v1 :: v2 :: v3 :: v4 :: v5 :: v6 :: v7 :: v8 :: v9 :: v10 :: v11 :: v12 :: v13 :: c :: t) (.int x :: st) h Q := V0_istoreG hd hn (fun j v hj hv => by have hj : j = 13 := (by omega); subst hj; cases hv; exact hp) k
theorem V0_astore_14 {v0 v1 v2 v3 v4 v5 v6 v7 v8 v9 v10 v11 v12 v13 c : Value} {t : List Value} {x : Nat} (hd : decode M.2.1 pc = .ok (.astore 14, 2)) (hn : 14 < M.2.2.1) (hp : v13.category = 1) (k : V0 l R M XT kc ks (pc + 2) (v0 :: v1 :: v2 :: v3 :: v4 :: v5 :: v6 :: v7 :: v8 :: v9 :: v10 :: v11 :: v12 :: v13 :: .ref x :: t) st h Q) : V0 l R M XT kc ks pc (v0 :: v1 :: v2 :: v3 :: v4 :: v5 :: v6 :: v7 :: v8 :: v9 :: v10 :: v11 :: v12 :: v13 :: c :: t) (.ref x :: st) h Q := V0_astoreG hd hn (fun j v hj hv => by have hj : j = 13 := (by omega); subst hj; cases hv; exact hp) k
theorem V0_iinc_14 {v0 v1 v2 v3 v4 v5 v6 v7 v8 v9 v10 v11 v12 v13 : Value} {t : List Value} {x : Int32} {n : Int} (y : Int32) (hd : decode M.2.1 pc = .ok (.iinc 14 n, 3)) (hn : 14 < M.2.2.1) (hp : v13.category = 1) (hy : x + Int32.ofInt n = y) (k : V0 l R M XT kc ks (pc + 3) (v0 :: v1 :: v2 :: v3 :: v4 :: v5 :: v6 :: v7 :: v8 :: v9 :: v10 :: v11 :: v12 :: v13 :: .int y :: t) st h Q) : V0 l R M XT kc ks pc (v0 :: v1 :: v2 :: v3 :: v4 :: v5 :: v6 :: v7 :: v8 :: v9 :: v10 :: v11 :: v12 :: v13 :: .int x :: t) st h Q := by
  subst hy
  exact V0_iincG hd rfl hn (fun j v hj hv => by have hj : j = 13 := (by omega); subst hj; cases hv; exact hp) k
theorem V0_istore_15 {v0 v1 v2 v3 v4 v5 v6 v7 v8 v9 v10 v11 v12 v13 v14 c : Value} {t : List Value} {x : Int32} (hd : decode M.2.1 pc = .ok (.istore 15, 2)) (hn : 15 < M.2.2.1) (hp : v14.category = 1) (k : V0 l R M XT kc ks (pc + 2) (v0 :: v1 :: v2 :: v3 :: v4 :: v5 :: v6 :: v7 :: v8 :: v9 :: v10 :: v11 :: v12 :: v13 :: v14 :: .int x :: t) st h Q) : V0 l R M XT kc ks pc (v0 :: v1 :: v2 :: v3 :: v4 :: v5 :: v6 :: v7 :: v8 :: v9 :: v10 :: v11 :: v12 :: v13 :: v14 :: c :: t) (.int x :: st) h Q := V0_istoreG hd hn (fun j v hj hv => by have hj : j = 14 := (by omega); subst hj; cases hv; exact hp) k
theorem V0_astore_15 {v0 v1 v2 v3 v4 v5 v6 v7 v8 v9 v10 v11 v12 v13 v14 c : Value} {t : List Value} {x : Nat} (hd : decode M.2.1 pc = .ok (.astore 15, 2)) (hn : 15 < M.2.2.1) (hp : v14.category = 1) (k : V0 l R M XT kc ks (pc + 2) (v0 :: v1 :: v2 :: v3 :: v4 :: v5 :: v6 :: v7 :: v8 :: v9 :: v10 :: v11 :: v12 :: v13 :: v14 :: .ref x :: t) st h Q) : V0 l R M XT kc ks pc (v0 :: v1 :: v2 :: v3 :: v4 :: v5 :: v6 :: v7 :: v8 :: v9 :: v10 :: v11 :: v12 :: v13 :: v14 :: c :: t) (.ref x :: st) h Q := V0_astoreG hd hn (fun j v hj hv => by have hj : j = 14 := (by omega); subst hj; cases hv; exact hp) k
theorem V0_iinc_15 {v0 v1 v2 v3 v4 v5 v6 v7 v8 v9 v10 v11 v12 v13 v14 : Value} {t : List Value} {x : Int32} {n : Int} (y : Int32) (hd : decode M.2.1 pc = .ok (.iinc 15 n, 3)) (hn : 15 < M.2.2.1) (hp : v14.category = 1) (hy : x + Int32.ofInt n = y) (k : V0 l R M XT kc ks (pc + 3) (v0 :: v1 :: v2 :: v3 :: v4 :: v5 :: v6 :: v7 :: v8 :: v9 :: v10 :: v11 :: v12 :: v13 :: v14 :: .int y :: t) st h Q) : V0 l R M XT kc ks pc (v0 :: v1 :: v2 :: v3 :: v4 :: v5 :: v6 :: v7 :: v8 :: v9 :: v10 :: v11 :: v12 :: v13 :: v14 :: .int x :: t) st h Q := by
  subst hy
  exact V0_iincG hd rfl hn (fun j v hj hv => by have hj : j = 14 := (by omega); subst hj; cases hv; exact hp) k
theorem V0_istore_16 {v0 v1 v2 v3 v4 v5 v6 v7 v8 v9 v10 v11 v12 v13 v14 v15 c : Value} {t : List Value} {x : Int32} (hd : decode M.2.1 pc = .ok (.istore 16, 2)) (hn : 16 < M.2.2.1) (hp : v15.category = 1) (k : V0 l R M XT kc ks (pc + 2) (v0 :: v1 :: v2 :: v3 :: v4 :: v5 :: v6 :: v7 :: v8 :: v9 :: v10 :: v11 :: v12 :: v13 :: v14 :: v15 :: .int x :: t) st h Q) : V0 l R M XT kc ks pc (v0 :: v1 :: v2 :: v3 :: v4 :: v5 :: v6 :: v7 :: v8 :: v9 :: v10 :: v11 :: v12 :: v13 :: v14 :: v15 :: c :: t) (.int x :: st) h Q := V0_istoreG hd hn (fun j v hj hv => by have hj : j = 15 := (by omega); subst hj; cases hv; exact hp) k
theorem V0_astore_16 {v0 v1 v2 v3 v4 v5 v6 v7 v8 v9 v10 v11 v12 v13 v14 v15 c : Value} {t : List Value} {x : Nat} (hd : decode M.2.1 pc = .ok (.astore 16, 2)) (hn : 16 < M.2.2.1) (hp : v15.category = 1) (k : V0 l R M XT kc ks (pc + 2) (v0 :: v1 :: v2 :: v3 :: v4 :: v5 :: v6 :: v7 :: v8 :: v9 :: v10 :: v11 :: v12 :: v13 :: v14 :: v15 :: .ref x :: t) st h Q) : V0 l R M XT kc ks pc (v0 :: v1 :: v2 :: v3 :: v4 :: v5 :: v6 :: v7 :: v8 :: v9 :: v10 :: v11 :: v12 :: v13 :: v14 :: v15 :: c :: t) (.ref x :: st) h Q := V0_astoreG hd hn (fun j v hj hv => by have hj : j = 15 := (by omega); subst hj; cases hv; exact hp) k
theorem V0_iinc_16 {v0 v1 v2 v3 v4 v5 v6 v7 v8 v9 v10 v11 v12 v13 v14 v15 : Value} {t : List Value} {x : Int32} {n : Int} (y : Int32) (hd : decode M.2.1 pc = .ok (.iinc 16 n, 3)) (hn : 16 < M.2.2.1) (hp : v15.category = 1) (hy : x + Int32.ofInt n = y) (k : V0 l R M XT kc ks (pc + 3) (v0 :: v1 :: v2 :: v3 :: v4 :: v5 :: v6 :: v7 :: v8 :: v9 :: v10 :: v11 :: v12 :: v13 :: v14 :: v15 :: .int y :: t) st h Q) : V0 l R M XT kc ks pc (v0 :: v1 :: v2 :: v3 :: v4 :: v5 :: v6 :: v7 :: v8 :: v9 :: v10 :: v11 :: v12 :: v13 :: v14 :: v15 :: .int x :: t) st h Q := by
  subst hy
  exact V0_iincG hd rfl hn (fun j v hj hv => by have hj : j = 15 := (by omega); subst hj; cases hv; exact hp) k
end PS
