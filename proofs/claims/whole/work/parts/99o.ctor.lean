/-! the constructors -/
abbrev kI (n : Nat) : px_E := .inl (0, n, .inl fun _ => 0)
abbrev kB (n : Nat) : px_E := .inl (1, n, .inl fun _ => 0)
abbrev kZ (n : Nat) : px_E := .inl (2, n, .inl fun _ => 0)
abbrev kS (n : Nat) : px_E := .inl (3, n, .inl fun _ => 0)
abbrev kL (n : Nat) : px_E := .inl (4, n, .inr (.inl fun _ => 0))
theorem kh_0 {h : px_H} {p : Nat} {e : px_E} (hp : h[p]? = some e) : h = h.set p e ++ [] := by
  rw [List.append_nil]
  apply List.ext_getElem?
  intro i
  rw [List.getElem?_set]
  by_cases c : p = i
  · subst c
    rw [if_pos rfl, if_pos (List.getElem?_eq_some_iff.mp hp).1, hp]
  · rw [if_neg c]
theorem kh_get {h l : px_H} {p : Nat} {e : px_E} (hp : p < h.length) : (h.set p e ++ l)[p]? = some e := by
  rw [List.getElem?_append_left (by rw [List.length_set]; exact hp), List.getElem?_set, if_pos rfl, if_pos hp]
theorem kh_at {h l : px_H} {p n j : Nat} {e : px_E} (hn : h.length = n) : (h.set p e ++ l)[n + j]? = l[j]? := by
  subst hn
  rw [List.getElem?_append_right (by rw [List.length_set]; omega), List.length_set, Nat.add_sub_cancel_left]
theorem kh_set {h l : px_H} {p : Nat} {e e' : px_E} (hp : p < h.length) : (h.set p e ++ l).set p e' = h.set p e' ++ l := by
  rw [List.set_append_left _ _ (by rw [List.length_set]; exact hp), List.set_set]
theorem kh_st {h l : px_H} {p n j : Nat} {e x : px_E} (hn : h.length = n) : (h.set p e ++ l).set (n + j) x = h.set p e ++ l.set j x := by
  subst hn
  rw [List.set_append_right _ _ (by rw [List.length_set]; omega), List.length_set, Nat.add_sub_cancel_left]
theorem kh_sub {h l a : px_H} {p n j : Nat} {e x : px_E} (hn : h.length = n) : (h.set p e ++ l).set (n + j) x ++ a = h.set p e ++ (l.set j x ++ a) := by
  rw [kh_st hn, List.append_assoc]
theorem kh_len {h l : px_H} {p n k m : Nat} {e : px_E} (hn : h.length = n) (hk : l.length = k) (hm : n + k = m) : (h.set p e ++ l).length = m := by
  rw [List.length_append, List.length_set, hn, hk, hm]
section KH
variable {l : Launch} {R : Room} {M : px_M} {XT : px_X} {kc ks pc : Nat} {ls st : List Value} {h la : px_H} {Q : Option Value → px_H → Prop} {p n : Nat} {e : px_E}
theorem V_hp {h' : px_H} (e : h = h') (k : V0 l R M XT kc ks pc ls st h' Q) : V0 l R M XT kc ks pc ls st h Q := by rw [e]; exact k
theorem K_newi {t N k nn : Nat} {v : Int32} {ty : ArrayType} {fty : FieldType} {lb : px_H} (hn : h.length = n) (hz : XT.1 = true) (hd : decode M.2.1 pc = .ok (.newarray ty, 2)) (hfty : newarray.typeOf ty = fty) (ht : ∀ E : px_G, (px_tys E)[t]? = some (E.2.2.1 t, fty)) (hobj : ∀ C, fty ≠ .object C) (hdv : defaultValue fty = .int 0) (ha : Cond.arrayClass fty ∈ px_tbl) (h0 : ¬ v < 0) (hN : v.toNatClampNeg = N) (hby : N * componentBytes fty ≤ 536870912) (hkc1 : kc + 1 ≤ R.cells) (hks1 : ks + N ≤ R.slots) (hk : la.length = k) (hm : n + k = nn) (hl : la ++ [.inl (t, N, .inl fun _ => 0)] = lb) (kk : V0 l R M XT (kc + 1) (ks + N) (pc + 2) ls (.ref nn :: st) (h.set p e ++ lb) Q) : V0 l R M XT kc ks pc ls (.int v :: st) (h.set p e ++ la) Q := by
  refine V0_newi hz hd hfty ht hobj hdv ha h0 hN hby hkc1 hks1 (kh_len hn hk hm) ?_
  rw [List.append_assoc, hl]
  exact kk
theorem K_newl {N k nn : Nat} {v : Int32} {lb : px_H} (hn : h.length = n) (hz : XT.1 = true) (hd : decode M.2.1 pc = .ok (.newarray .long, 2)) (ha : Cond.arrayClass .long ∈ px_tbl) (h0 : ¬ v < 0) (hN : v.toNatClampNeg = N) (hby : N * componentBytes .long ≤ 536870912) (hkc1 : kc + 1 ≤ R.cells) (hks1 : ks + N ≤ R.slots) (hk : la.length = k) (hm : n + k = nn) (hl : la ++ [.inl (4, N, .inr (.inl fun _ => 0))] = lb) (kk : V0 l R M XT (kc + 1) (ks + N) (pc + 2) ls (.ref nn :: st) (h.set p e ++ lb) Q) : V0 l R M XT kc ks pc ls (.int v :: st) (h.set p e ++ la) Q := by
  refine V0_newl hz hd ha h0 hN hby hkc1 hks1 (kh_len hn hk hm) ?_
  rw [List.append_assoc, hl]
  exact kk
theorem K_putF {idx ci k : Nat} {ty : FieldType} {fs fs' : List Value} {v : Value} (hp : p < h.length) (hd : decode M.2.1 pc = .ok (.putfield idx, 3)) (hf : px_fl M.1.cls idx ci k true ty) (hi : M.1.name = "<init>") (hc : vwCl[ci]?.map (fun q => q.1) = some M.1.cls) (hl : k < fs.length) (hn : ∀ E, narrow ty (px_v E v) = px_v E v) (hfit : ∀ E, fits ty (px_v E v) = true) (hs : fs.set k v = fs') (kk : V0 l R M XT kc ks (pc + 3) ls st (h.set p (.inr (ci, fs')) ++ la) Q) : V0 l R M XT kc ks pc ls (v :: .ref p :: st) (h.set p (.inr (ci, fs)) ++ la) Q := by
  subst hs
  refine V0_putF hd hf hi hc (kh_get hp) hl hn hfit ?_
  rw [kh_set hp]
  exact kk
theorem K_put {idx ci k : Nat} {ty : FieldType} {fs fs' : List Value} {v : Value} (hp : p < h.length) (hd : decode M.2.1 pc = .ok (.putfield idx, 3)) (hf : px_fl M.1.cls idx ci k false ty) (hl : k < fs.length) (hn : ∀ E, narrow ty (px_v E v) = px_v E v) (hfit : ∀ E, fits ty (px_v E v) = true) (hs : fs.set k v = fs') (kk : V0 l R M XT kc ks (pc + 3) ls st (h.set p (.inr (ci, fs')) ++ la) Q) : V0 l R M XT kc ks pc ls (v :: .ref p :: st) (h.set p (.inr (ci, fs)) ++ la) Q := by
  subst hs
  refine V0_put hd hf (kh_get hp) hl hn hfit ?_
  rw [kh_set hp]
  exact kk
theorem K_iast {j k N nn : Nat} {f : Nat → Int32} {i x : Int32} {lb : px_H} (hn : h.length = n) (hd : decode M.2.1 pc = .ok (.iastore, 1)) (hm : n + k = nn) (he : la[k]? = some (.inl (0, N, .inl f))) (hi : i = nI j) (hj : j < N) (hN : N < 2 ^ 31) (hl : la.set k (.inl (0, N, .inl (upd f j x))) = lb) (kk : V0 l R M XT kc ks (pc + 1) ls st (h.set p e ++ lb) Q) : V0 l R M XT kc ks pc ls (.int x :: .int i :: .ref nn :: st) (h.set p e ++ la) Q := by
  subst hm
  obtain ⟨i1, i2⟩ := px_ix hi hj hN
  refine V0_iast hd ((kh_at hn).trans he) i1 ?_
  rw [i2, kh_st hn, hl]
  exact kk
theorem K_new {idx ci N nn k : Nat} {C : String} {T : u_T} {ty : Nat → FieldType} {fs : List Value} {lb : px_H} (hn : h.length = n) (hz : XT.1 = true) (hd : decode M.2.1 pc = .ok (.new idx, 3)) (hc : vwCl[ci]? = some (C, T, N)) (hin : ∀ w ∈ u_ws C T N, w ∈ px_tbl) (hty : ∀ k, k < N → parseFieldDescriptor (T k).2.2.1 = some (ty k)) (hcl : Cond.classLink M.1.cls idx C ∈ px_tbl) (hi : Cond.instantiable C N ∈ px_tbl) (hini : Cond.initialized C ∈ px_tbl) (hfs : ∀ j, j < N → defaultValue (ty j) = vp_V fs j) (hnr : ∀ E, fs.map (px_v E) = fs) (hkc1 : kc + 1 ≤ R.cells) (hks1 : ks + N ≤ R.slots) (hk : la.length = k) (hm : n + k = nn) (hl : la ++ [.inr (ci, fs)] = lb) (kk : V0 l R M XT (kc + 1) (ks + N) (pc + 3) ls (.ref nn :: st) (h.set p e ++ lb) Q) : V0 l R M XT kc ks pc ls st (h.set p e ++ la) Q := by
  refine V0_new hz hd hc hin hty hcl hi hini hfs hnr hkc1 hks1 (kh_len hn hk hm) ?_
  rw [List.append_assoc, hl]
  exact kk
/-- what a constructor leaves -/
def ci_Q (h : px_H) (b ci : Nat) (fs : List Value) (a : px_H) : Option Value → px_H → Prop := fun r h' => r = none ∧ h' = h.set b (.inr (ci, fs)) ++ a
theorem K_callI {M' : px_M} {na d kc' ks' idx b ci k : Nat} {As : List Value} {st0 fs : List Value} {a lb : px_H} (hn : h.length = n) (hd : decode M.2.1 pc = .ok (.invokespecial idx, 3)) (hl : Cond.methodLink M.1.cls idx M'.1 ∈ px_tbl) (ho : px_okI M' na) (hC : Ct0 l XT.1 M' d kc' ks' (.ref b :: As) (h.set p e ++ la) (ci_Q (h.set p e ++ la) b ci fs a)) (hna : As.length = na) (hst : st0 = As.reverse ++ .ref b :: st) (hR : d + 1 ≤ R.frames ∧ 8 + (M'.2.2.1 + 11) + 41 * d ≤ R.locals) (hc : kc + kc' ≤ R.cells) (hs : ks + ks' ≤ R.slots) (hw : (st.map fun v => v.category).sum ≤ 8) (hb : n + k = b) (hlb : la.set k (.inr (ci, fs)) ++ a = lb) (kk : V0 l R M XT (kc + kc') (ks + ks') (pc + 3) ls st (h.set p e ++ lb) Q) : V0 l R M XT kc ks pc ls st0 (h.set p e ++ la) Q := by
  refine V0_callI hd hl ho hC hna hst hR hc hs hw ?_
  intro r h1 hq
  obtain ⟨e1, e2⟩ := hq
  subst hb
  rw [e1, e2, kh_sub hn, hlb]
  exact kk
theorem K_callIN {M' : px_M} {na d kc' ks' idx b ci k : Nat} {host : String} {As : List Value} {st0 fs : List Value} {a lb : px_H} (hn : h.length = n) (hd : decode M.2.1 pc = .ok (.invokespecial idx, 3)) (hl : (M.1.cls, idx, M'.1, host) ∈ px_nest) (ho : px_okI M' na) (hC : Ct0 l XT.1 M' d kc' ks' (.ref b :: As) (h.set p e ++ la) (ci_Q (h.set p e ++ la) b ci fs a)) (hna : As.length = na) (hst : st0 = As.reverse ++ .ref b :: st) (hR : d + 1 ≤ R.frames ∧ 8 + (M'.2.2.1 + 11) + 41 * d ≤ R.locals) (hc : kc + kc' ≤ R.cells) (hs : ks + ks' ≤ R.slots) (hw : (st.map fun v => v.category).sum ≤ 8) (hb : n + k = b) (hlb : la.set k (.inr (ci, fs)) ++ a = lb) (kk : V0 l R M XT (kc + kc') (ks + ks') (pc + 3) ls st (h.set p e ++ lb) Q) : V0 l R M XT kc ks pc ls st0 (h.set p e ++ la) Q := by
  refine V0_callIN hd hl ho hC hna hst hR hc hs hw ?_
  intro r h1 hq
  obtain ⟨e1, e2⟩ := hq
  subst hb
  rw [e1, e2, kh_sub hn, hlb]
  exact kk
end KH
set_option maxRecDepth 100000 in
theorem ci_X0 {l : Launch} {h : px_H} {n p  : Nat} (hn : h.length = n) (hp : h[p]? = some (.inr (0, [.null, .null, .int 0, .int 0, .int 0]))) : Ct0 l true mX0_init 1 2 74 [.ref p] h (ci_Q h p 0 [.ref n, .ref (n + 1), .int 0, .int 0, .int 0] [kI 50, kI 24]) := by
  have hl : p < h.length := (List.getElem?_eq_some_iff.mp hp).1
  refine Ct0.of plX0_init (Nat.le_of_ble_eq_true rfl) [.ref p] rfl ?_
  refine V_hp (kh_0 hp) ?_
  refine V0_aload_n (pc := 0) dX0_init_0 rfl ?_
  refine V0_objInit (pc := 1) dX0_init_1 mlX0_3 jm_obj jc_obj (Nat.le_of_ble_eq_true rfl) (Nat.le_of_ble_eq_true rfl) ?_
  refine V0_aload_n (pc := 4) dX0_init_4 rfl ?_
  refine V0_bipush (pc := 5) (50) dX0_init_5 (by decide) ?_
  refine K_newi (pc := 7) (t := 0) (N := 50) (k := 0) (nn := n + 0) (lb := [kI 50]) hn rfl dX0_init_7 rfl (fun _ => rfl) (fun _ q => by cases q) (by decide) ac_int (by decide) (by decide) (by decide) (Nat.le_of_ble_eq_true rfl) (Nat.le_of_ble_eq_true rfl) rfl rfl rfl ?_
  refine K_putF (pc := 9) (fs' := [.ref n, .null, .int 0, .int 0, .int 0]) hl dX0_init_9 flX0_11 rfl rfl (Nat.le_of_ble_eq_true rfl) (fun _ => rfl) (fun _ => rfl) rfl ?_
  refine V0_aload_n (pc := 12) dX0_init_12 rfl ?_
  refine V0_bipush (pc := 13) (24) dX0_init_13 (by decide) ?_
  refine K_newi (pc := 15) (t := 0) (N := 24) (k := 1) (nn := n + 1) (lb := [kI 50, kI 24]) hn rfl dX0_init_15 rfl (fun _ => rfl) (fun _ q => by cases q) (by decide) ac_int (by decide) (by decide) (by decide) (Nat.le_of_ble_eq_true rfl) (Nat.le_of_ble_eq_true rfl) rfl rfl rfl ?_
  refine K_putF (pc := 17) (fs' := [.ref n, .ref (n + 1), .int 0, .int 0, .int 0]) hl dX0_init_17 flX0_15 rfl rfl (Nat.le_of_ble_eq_true rfl) (fun _ => rfl) (fun _ => rfl) rfl ?_
  exact V0_end none ⟨dX0_init_20, rfl⟩ rfl ⟨rfl, rfl⟩
set_option maxRecDepth 100000 in
theorem ci_X1 {l : Launch} {h : px_H} {n p q1 : Nat} (hn : h.length = n) (hp : h[p]? = some (.inr (1, [.null, .null, .null, .null, .null, .int 0, .int 0]))) : Ct0 l true mX1_init 1 4 160 [.ref p, .ref q1] h (ci_Q h p 1 [.ref n, .ref (n + 1), .ref (n + 2), .ref (n + 3), .ref q1, .int 0, .int 0] [kI 40, kI 40, kI 40, kI 40]) := by
  have hl : p < h.length := (List.getElem?_eq_some_iff.mp hp).1
  refine Ct0.of plX1_init (Nat.le_of_ble_eq_true rfl) [.ref p, .ref q1] rfl ?_
  refine V_hp (kh_0 hp) ?_
  refine V0_aload_n (pc := 0) dX1_init_0 rfl ?_
  refine V0_objInit (pc := 1) dX1_init_1 mlX1_1 jm_obj jc_obj (Nat.le_of_ble_eq_true rfl) (Nat.le_of_ble_eq_true rfl) ?_
  refine V0_aload_n (pc := 4) dX1_init_4 rfl ?_
  refine V0_bipush (pc := 5) (40) dX1_init_5 (by decide) ?_
  refine K_newi (pc := 7) (t := 0) (N := 40) (k := 0) (nn := n + 0) (lb := [kI 40]) hn rfl dX1_init_7 rfl (fun _ => rfl) (fun _ q => by cases q) (by decide) ac_int (by decide) (by decide) (by decide) (Nat.le_of_ble_eq_true rfl) (Nat.le_of_ble_eq_true rfl) rfl rfl rfl ?_
  refine K_putF (pc := 9) (fs' := [.ref n, .null, .null, .null, .null, .int 0, .int 0]) hl dX1_init_9 flX1_9 rfl rfl (Nat.le_of_ble_eq_true rfl) (fun _ => rfl) (fun _ => rfl) rfl ?_
  refine V0_aload_n (pc := 12) dX1_init_12 rfl ?_
  refine V0_bipush (pc := 13) (40) dX1_init_13 (by decide) ?_
  refine K_newi (pc := 15) (t := 0) (N := 40) (k := 1) (nn := n + 1) (lb := [kI 40, kI 40]) hn rfl dX1_init_15 rfl (fun _ => rfl) (fun _ q => by cases q) (by decide) ac_int (by decide) (by decide) (by decide) (Nat.le_of_ble_eq_true rfl) (Nat.le_of_ble_eq_true rfl) rfl rfl rfl ?_
  refine K_putF (pc := 17) (fs' := [.ref n, .ref (n + 1), .null, .null, .null, .int 0, .int 0]) hl dX1_init_17 flX1_13 rfl rfl (Nat.le_of_ble_eq_true rfl) (fun _ => rfl) (fun _ => rfl) rfl ?_
  refine V0_aload_n (pc := 20) dX1_init_20 rfl ?_
  refine V0_bipush (pc := 21) (40) dX1_init_21 (by decide) ?_
  refine K_newi (pc := 23) (t := 0) (N := 40) (k := 2) (nn := n + 2) (lb := [kI 40, kI 40, kI 40]) hn rfl dX1_init_23 rfl (fun _ => rfl) (fun _ q => by cases q) (by decide) ac_int (by decide) (by decide) (by decide) (Nat.le_of_ble_eq_true rfl) (Nat.le_of_ble_eq_true rfl) rfl rfl rfl ?_
  refine K_putF (pc := 25) (fs' := [.ref n, .ref (n + 1), .ref (n + 2), .null, .null, .int 0, .int 0]) hl dX1_init_25 flX1_16 rfl rfl (Nat.le_of_ble_eq_true rfl) (fun _ => rfl) (fun _ => rfl) rfl ?_
  refine V0_aload_n (pc := 28) dX1_init_28 rfl ?_
  refine V0_bipush (pc := 29) (40) dX1_init_29 (by decide) ?_
  refine K_newi (pc := 31) (t := 0) (N := 40) (k := 3) (nn := n + 3) (lb := [kI 40, kI 40, kI 40, kI 40]) hn rfl dX1_init_31 rfl (fun _ => rfl) (fun _ q => by cases q) (by decide) ac_int (by decide) (by decide) (by decide) (Nat.le_of_ble_eq_true rfl) (Nat.le_of_ble_eq_true rfl) rfl rfl rfl ?_
  refine K_putF (pc := 33) (fs' := [.ref n, .ref (n + 1), .ref (n + 2), .ref (n + 3), .null, .int 0, .int 0]) hl dX1_init_33 flX1_19 rfl rfl (Nat.le_of_ble_eq_true rfl) (fun _ => rfl) (fun _ => rfl) rfl ?_
  refine V0_aload_n (pc := 36) dX1_init_36 rfl ?_
  refine V0_aload_n (pc := 37) dX1_init_37 rfl ?_
  refine K_putF (pc := 38) (fs' := [.ref n, .ref (n + 1), .ref (n + 2), .ref (n + 3), .ref q1, .int 0, .int 0]) hl dX1_init_38 flX1_22 rfl rfl (Nat.le_of_ble_eq_true rfl) (fun _ => rfl) (fun _ => rfl) rfl ?_
  exact V0_end none ⟨dX1_init_41, rfl⟩ rfl ⟨rfl, rfl⟩
set_option maxRecDepth 100000 in
theorem ci_X2 {l : Launch} {h : px_H} {n p q1 : Nat} (hn : h.length = n) (hp : h[p]? = some (.inr (2, [.null, .null, .null, .null, .int 0, .int 0, .null]))) : Ct0 l true mX2_init 1 4 33 [.ref p, .ref q1] h (ci_Q h p 2 [.ref n, .ref (n + 1), .ref (n + 2), .ref (n + 3), .int 0, .int 0, .ref q1] [kI 7, kI 10, kI 10, kI 6]) := by
  have hl : p < h.length := (List.getElem?_eq_some_iff.mp hp).1
  refine Ct0.of plX2_init (Nat.le_of_ble_eq_true rfl) [.ref p, .ref q1] rfl ?_
  refine V_hp (kh_0 hp) ?_
  refine V0_aload_n (pc := 0) dX2_init_0 rfl ?_
  refine V0_objInit (pc := 1) dX2_init_1 mlX2_3 jm_obj jc_obj (Nat.le_of_ble_eq_true rfl) (Nat.le_of_ble_eq_true rfl) ?_
  refine V0_aload_n (pc := 4) dX2_init_4 rfl ?_
  refine V0_bipush (pc := 5) (7) dX2_init_5 (by decide) ?_
  refine K_newi (pc := 7) (t := 0) (N := 7) (k := 0) (nn := n + 0) (lb := [kI 7]) hn rfl dX2_init_7 rfl (fun _ => rfl) (fun _ q => by cases q) (by decide) ac_int (by decide) (by decide) (by decide) (Nat.le_of_ble_eq_true rfl) (Nat.le_of_ble_eq_true rfl) rfl rfl rfl ?_
  refine K_putF (pc := 9) (fs' := [.ref n, .null, .null, .null, .int 0, .int 0, .null]) hl dX2_init_9 flX2_9 rfl rfl (Nat.le_of_ble_eq_true rfl) (fun _ => rfl) (fun _ => rfl) rfl ?_
  refine V0_aload_n (pc := 12) dX2_init_12 rfl ?_
  refine V0_bipush (pc := 13) (10) dX2_init_13 (by decide) ?_
  refine K_newi (pc := 15) (t := 0) (N := 10) (k := 1) (nn := n + 1) (lb := [kI 7, kI 10]) hn rfl dX2_init_15 rfl (fun _ => rfl) (fun _ q => by cases q) (by decide) ac_int (by decide) (by decide) (by decide) (Nat.le_of_ble_eq_true rfl) (Nat.le_of_ble_eq_true rfl) rfl rfl rfl ?_
  refine K_putF (pc := 17) (fs' := [.ref n, .ref (n + 1), .null, .null, .int 0, .int 0, .null]) hl dX2_init_17 flX2_15 rfl rfl (Nat.le_of_ble_eq_true rfl) (fun _ => rfl) (fun _ => rfl) rfl ?_
  refine V0_aload_n (pc := 20) dX2_init_20 rfl ?_
  refine V0_bipush (pc := 21) (10) dX2_init_21 (by decide) ?_
  refine K_newi (pc := 23) (t := 0) (N := 10) (k := 2) (nn := n + 2) (lb := [kI 7, kI 10, kI 10]) hn rfl dX2_init_23 rfl (fun _ => rfl) (fun _ q => by cases q) (by decide) ac_int (by decide) (by decide) (by decide) (Nat.le_of_ble_eq_true rfl) (Nat.le_of_ble_eq_true rfl) rfl rfl rfl ?_
  refine K_putF (pc := 25) (fs' := [.ref n, .ref (n + 1), .ref (n + 2), .null, .int 0, .int 0, .null]) hl dX2_init_25 flX2_18 rfl rfl (Nat.le_of_ble_eq_true rfl) (fun _ => rfl) (fun _ => rfl) rfl ?_
  refine V0_aload_n (pc := 28) dX2_init_28 rfl ?_
  refine V0_bipush (pc := 29) (6) dX2_init_29 (by decide) ?_
  refine K_newi (pc := 31) (t := 0) (N := 6) (k := 3) (nn := n + 3) (lb := [kI 7, kI 10, kI 10, kI 6]) hn rfl dX2_init_31 rfl (fun _ => rfl) (fun _ q => by cases q) (by decide) ac_int (by decide) (by decide) (by decide) (Nat.le_of_ble_eq_true rfl) (Nat.le_of_ble_eq_true rfl) rfl rfl rfl ?_
  refine K_putF (pc := 33) (fs' := [.ref n, .ref (n + 1), .ref (n + 2), .ref (n + 3), .int 0, .int 0, .null]) hl dX2_init_33 flX2_21 rfl rfl (Nat.le_of_ble_eq_true rfl) (fun _ => rfl) (fun _ => rfl) rfl ?_
  refine V0_aload_n (pc := 36) dX2_init_36 rfl ?_
  refine V0_aload_n (pc := 37) dX2_init_37 rfl ?_
  refine K_putF (pc := 38) (fs' := [.ref n, .ref (n + 1), .ref (n + 2), .ref (n + 3), .int 0, .int 0, .ref q1]) hl dX2_init_38 flX2_24 rfl rfl (Nat.le_of_ble_eq_true rfl) (fun _ => rfl) (fun _ => rfl) rfl ?_
  exact V0_end none ⟨dX2_init_41, rfl⟩ rfl ⟨rfl, rfl⟩
set_option maxRecDepth 100000 in
theorem ci_X3 {l : Launch} {h : px_H} {n p  : Nat} (hn : h.length = n) (hp : h[p]? = some (.inr (3, [.null, .null, .null, .null, .int 0]))) : Ct0 l true mX3_init 1 4 390 [.ref p] h (ci_Q h p 3 [.ref n, .ref (n + 1), .ref (n + 2), .ref (n + 3), .int 0] [kI 6, kI 128, kI 128, kI 128]) := by
  have hl : p < h.length := (List.getElem?_eq_some_iff.mp hp).1
  refine Ct0.of plX3_init (Nat.le_of_ble_eq_true rfl) [.ref p] rfl ?_
  refine V_hp (kh_0 hp) ?_
  refine V0_aload_n (pc := 0) dX3_init_0 rfl ?_
  refine V0_objInit (pc := 1) dX3_init_1 mlX3_1 jm_obj jc_obj (Nat.le_of_ble_eq_true rfl) (Nat.le_of_ble_eq_true rfl) ?_
  refine V0_aload_n (pc := 4) dX3_init_4 rfl ?_
  refine V0_bipush (pc := 5) (6) dX3_init_5 (by decide) ?_
  refine K_newi (pc := 7) (t := 0) (N := 6) (k := 0) (nn := n + 0) (lb := [kI 6]) hn rfl dX3_init_7 rfl (fun _ => rfl) (fun _ q => by cases q) (by decide) ac_int (by decide) (by decide) (by decide) (Nat.le_of_ble_eq_true rfl) (Nat.le_of_ble_eq_true rfl) rfl rfl rfl ?_
  refine K_putF (pc := 9) (fs' := [.ref n, .null, .null, .null, .int 0]) hl dX3_init_9 flX3_9 rfl rfl (Nat.le_of_ble_eq_true rfl) (fun _ => rfl) (fun _ => rfl) rfl ?_
  refine V0_aload_n (pc := 12) dX3_init_12 rfl ?_
  refine V0_sipush (pc := 13) (128) dX3_init_13 (by decide) ?_
  refine K_newi (pc := 16) (t := 0) (N := 128) (k := 1) (nn := n + 1) (lb := [kI 6, kI 128]) hn rfl dX3_init_16 rfl (fun _ => rfl) (fun _ q => by cases q) (by decide) ac_int (by decide) (by decide) (by decide) (Nat.le_of_ble_eq_true rfl) (Nat.le_of_ble_eq_true rfl) rfl rfl rfl ?_
  refine K_putF (pc := 18) (fs' := [.ref n, .ref (n + 1), .null, .null, .int 0]) hl dX3_init_18 flX3_13 rfl rfl (Nat.le_of_ble_eq_true rfl) (fun _ => rfl) (fun _ => rfl) rfl ?_
  refine V0_aload_n (pc := 21) dX3_init_21 rfl ?_
  refine V0_sipush (pc := 22) (128) dX3_init_22 (by decide) ?_
  refine K_newi (pc := 25) (t := 0) (N := 128) (k := 2) (nn := n + 2) (lb := [kI 6, kI 128, kI 128]) hn rfl dX3_init_25 rfl (fun _ => rfl) (fun _ q => by cases q) (by decide) ac_int (by decide) (by decide) (by decide) (Nat.le_of_ble_eq_true rfl) (Nat.le_of_ble_eq_true rfl) rfl rfl rfl ?_
  refine K_putF (pc := 27) (fs' := [.ref n, .ref (n + 1), .ref (n + 2), .null, .int 0]) hl dX3_init_27 flX3_16 rfl rfl (Nat.le_of_ble_eq_true rfl) (fun _ => rfl) (fun _ => rfl) rfl ?_
  refine V0_aload_n (pc := 30) dX3_init_30 rfl ?_
  refine V0_sipush (pc := 31) (128) dX3_init_31 (by decide) ?_
  refine K_newi (pc := 34) (t := 0) (N := 128) (k := 3) (nn := n + 3) (lb := [kI 6, kI 128, kI 128, kI 128]) hn rfl dX3_init_34 rfl (fun _ => rfl) (fun _ q => by cases q) (by decide) ac_int (by decide) (by decide) (by decide) (Nat.le_of_ble_eq_true rfl) (Nat.le_of_ble_eq_true rfl) rfl rfl rfl ?_
  refine K_putF (pc := 36) (fs' := [.ref n, .ref (n + 1), .ref (n + 2), .ref (n + 3), .int 0]) hl dX3_init_36 flX3_19 rfl rfl (Nat.le_of_ble_eq_true rfl) (fun _ => rfl) (fun _ => rfl) rfl ?_
  exact V0_end none ⟨dX3_init_39, rfl⟩ rfl ⟨rfl, rfl⟩
set_option maxRecDepth 100000 in
theorem ci_X4 {l : Launch} {h : px_H} {n p q1 q2 : Nat} (hn : h.length = n) (hp : h[p]? = some (.inr (4, [.null, .null]))) : Ct0 l true mX4_init 1 0 0 [.ref p, .ref q1, .ref q2] h (ci_Q h p 4 [.ref q1, .ref q2] []) := by
  have hl : p < h.length := (List.getElem?_eq_some_iff.mp hp).1
  refine Ct0.of plX4_init (Nat.le_of_ble_eq_true rfl) [.ref p, .ref q1, .ref q2] rfl ?_
  refine V_hp (kh_0 hp) ?_
  refine V0_aload_n (pc := 0) dX4_init_0 rfl ?_
  refine V0_objInit (pc := 1) dX4_init_1 mlX4_3 jm_obj jc_obj (Nat.le_of_ble_eq_true rfl) (Nat.le_of_ble_eq_true rfl) ?_
  refine V0_aload_n (pc := 4) dX4_init_4 rfl ?_
  refine V0_aload_n (pc := 5) dX4_init_5 rfl ?_
  refine K_putF (pc := 6) (fs' := [.ref q1, .null]) hl dX4_init_6 flX4_9 rfl rfl (Nat.le_of_ble_eq_true rfl) (fun _ => rfl) (fun _ => rfl) rfl ?_
  refine V0_aload_n (pc := 9) dX4_init_9 rfl ?_
  refine V0_aload_n (pc := 10) dX4_init_10 rfl ?_
  refine K_putF (pc := 11) (fs' := [.ref q1, .ref q2]) hl dX4_init_11 flX4_15 rfl rfl (Nat.le_of_ble_eq_true rfl) (fun _ => rfl) (fun _ => rfl) rfl ?_
  exact V0_end none ⟨dX4_init_14, rfl⟩ rfl ⟨rfl, rfl⟩
set_option maxRecDepth 100000 in
theorem ci_X5 {l : Launch} {h : px_H} {n p  : Nat} (hn : h.length = n) (hp : h[p]? = some (.inr (5, [.null, .null, .null]))) : Ct0 l true mX5_init 1 3 372 [.ref p] h (ci_Q h p 5 [.ref n, .ref (n + 1), .ref (n + 2)] [.inl (0, 6, .inl (upd (upd (upd (upd (upd (upd (fun _ => 0) 0 (6)) 1 (6)) 2 (6)) 3 (6)) 4 (6)) 5 (6))), kI 6, kL 360]) := by
  have hl : p < h.length := (List.getElem?_eq_some_iff.mp hp).1
  refine Ct0.of plX5_init (Nat.le_of_ble_eq_true rfl) [.ref p, .null] rfl ?_
  refine V_hp (kh_0 hp) ?_
  refine V0_aload_n (pc := 0) dX5_init_0 rfl ?_
  refine V0_objInit (pc := 1) dX5_init_1 mlX5_3 jm_obj jc_obj (Nat.le_of_ble_eq_true rfl) (Nat.le_of_ble_eq_true rfl) ?_
  refine V0_aload_n (pc := 4) dX5_init_4 rfl ?_
  refine V0_bipush (pc := 5) (6) dX5_init_5 (by decide) ?_
  refine K_newi (pc := 7) (t := 0) (N := 6) (k := 0) (nn := n + 0) (lb := [kI 6]) hn rfl dX5_init_7 rfl (fun _ => rfl) (fun _ q => by cases q) (by decide) ac_int (by decide) (by decide) (by decide) (Nat.le_of_ble_eq_true rfl) (Nat.le_of_ble_eq_true rfl) rfl rfl rfl ?_
  refine K_putF (pc := 9) (fs' := [.ref n, .null, .null]) hl dX5_init_9 flX5_11 rfl rfl (Nat.le_of_ble_eq_true rfl) (fun _ => rfl) (fun _ => rfl) rfl ?_
  refine V0_aload_n (pc := 12) dX5_init_12 rfl ?_
  refine V0_bipush (pc := 13) (6) dX5_init_13 (by decide) ?_
  refine K_newi (pc := 15) (t := 0) (N := 6) (k := 1) (nn := n + 1) (lb := [kI 6, kI 6]) hn rfl dX5_init_15 rfl (fun _ => rfl) (fun _ q => by cases q) (by decide) ac_int (by decide) (by decide) (by decide) (Nat.le_of_ble_eq_true rfl) (Nat.le_of_ble_eq_true rfl) rfl rfl rfl ?_
  refine K_putF (pc := 17) (fs' := [.ref n, .ref (n + 1), .null]) hl dX5_init_17 flX5_15 rfl rfl (Nat.le_of_ble_eq_true rfl) (fun _ => rfl) (fun _ => rfl) rfl ?_
  refine V0_aload_n (pc := 20) dX5_init_20 rfl ?_
  refine V0_sipush (pc := 21) (360) dX5_init_21 (by decide) ?_
  refine K_newl (pc := 24) (N := 360) (k := 2) (nn := n + 2) (lb := [kI 6, kI 6, kL 360]) hn rfl dX5_init_24 ac_long (by decide) (by decide) (by decide) (Nat.le_of_ble_eq_true rfl) (Nat.le_of_ble_eq_true rfl) rfl rfl rfl ?_
  refine K_putF (pc := 26) (fs' := [.ref n, .ref (n + 1), .ref (n + 2)]) hl dX5_init_26 flX5_18 rfl rfl (Nat.le_of_ble_eq_true rfl) (fun _ => rfl) (fun _ => rfl) rfl ?_
  refine V0_iconst (pc := 29) (0) dX5_init_29 (by decide) ?_
  refine V0_istore_1 (pc := 30) dX5_init_30 (by decide) rfl ?_
  refine V0_iload_n (pc := 31) dX5_init_31 rfl ?_
  refine V0_bipush (pc := 32) (6) dX5_init_32 (by decide) ?_
  refine V1_icmp_ge (pc := 34) 51 dX5_init_34 (by decide) (fun q => absurd (show ((0 : Int32) < 6) by decide) q) (fun _ => ?_)
  refine V0_aload_n (pc := 37) dX5_init_37 rfl ?_
  refine V0_get (pc := 38) dX5_init_38 flX5_11 (kh_get hl) rfl ?_
  refine V0_iload_n (pc := 41) dX5_init_41 rfl ?_
  refine V0_bipush (pc := 42) (6) dX5_init_42 (by decide) ?_
  refine K_iast (pc := 44) (j := 0) (k := 0) (nn := n + 0) (lb := [.inl (0, 6, .inl (upd (fun _ => 0) 0 (6))), kI 6, kL 360]) hn dX5_init_44 rfl rfl (by decide) (by decide) (by decide) rfl ?_
  refine V0_iinc_1 (pc := 45) (1) dX5_init_45 (by decide) rfl (by decide) ?_
  refine V0_goto (pc := 48) 31 dX5_init_48 (by decide) ?_
  refine V0_iload_n (pc := 31) dX5_init_31 rfl ?_
  refine V0_bipush (pc := 32) (6) dX5_init_32 (by decide) ?_
  refine V1_icmp_ge (pc := 34) 51 dX5_init_34 (by decide) (fun q => absurd (show ((1 : Int32) < 6) by decide) q) (fun _ => ?_)
  refine V0_aload_n (pc := 37) dX5_init_37 rfl ?_
  refine V0_get (pc := 38) dX5_init_38 flX5_11 (kh_get hl) rfl ?_
  refine V0_iload_n (pc := 41) dX5_init_41 rfl ?_
  refine V0_bipush (pc := 42) (6) dX5_init_42 (by decide) ?_
  refine K_iast (pc := 44) (j := 1) (k := 0) (nn := n + 0) (lb := [.inl (0, 6, .inl (upd (upd (fun _ => 0) 0 (6)) 1 (6))), kI 6, kL 360]) hn dX5_init_44 rfl rfl (by decide) (by decide) (by decide) rfl ?_
  refine V0_iinc_1 (pc := 45) (2) dX5_init_45 (by decide) rfl (by decide) ?_
  refine V0_goto (pc := 48) 31 dX5_init_48 (by decide) ?_
  refine V0_iload_n (pc := 31) dX5_init_31 rfl ?_
  refine V0_bipush (pc := 32) (6) dX5_init_32 (by decide) ?_
  refine V1_icmp_ge (pc := 34) 51 dX5_init_34 (by decide) (fun q => absurd (show ((2 : Int32) < 6) by decide) q) (fun _ => ?_)
  refine V0_aload_n (pc := 37) dX5_init_37 rfl ?_
  refine V0_get (pc := 38) dX5_init_38 flX5_11 (kh_get hl) rfl ?_
  refine V0_iload_n (pc := 41) dX5_init_41 rfl ?_
  refine V0_bipush (pc := 42) (6) dX5_init_42 (by decide) ?_
  refine K_iast (pc := 44) (j := 2) (k := 0) (nn := n + 0) (lb := [.inl (0, 6, .inl (upd (upd (upd (fun _ => 0) 0 (6)) 1 (6)) 2 (6))), kI 6, kL 360]) hn dX5_init_44 rfl rfl (by decide) (by decide) (by decide) rfl ?_
  refine V0_iinc_1 (pc := 45) (3) dX5_init_45 (by decide) rfl (by decide) ?_
  refine V0_goto (pc := 48) 31 dX5_init_48 (by decide) ?_
  refine V0_iload_n (pc := 31) dX5_init_31 rfl ?_
  refine V0_bipush (pc := 32) (6) dX5_init_32 (by decide) ?_
  refine V1_icmp_ge (pc := 34) 51 dX5_init_34 (by decide) (fun q => absurd (show ((3 : Int32) < 6) by decide) q) (fun _ => ?_)
  refine V0_aload_n (pc := 37) dX5_init_37 rfl ?_
  refine V0_get (pc := 38) dX5_init_38 flX5_11 (kh_get hl) rfl ?_
  refine V0_iload_n (pc := 41) dX5_init_41 rfl ?_
  refine V0_bipush (pc := 42) (6) dX5_init_42 (by decide) ?_
  refine K_iast (pc := 44) (j := 3) (k := 0) (nn := n + 0) (lb := [.inl (0, 6, .inl (upd (upd (upd (upd (fun _ => 0) 0 (6)) 1 (6)) 2 (6)) 3 (6))), kI 6, kL 360]) hn dX5_init_44 rfl rfl (by decide) (by decide) (by decide) rfl ?_
  refine V0_iinc_1 (pc := 45) (4) dX5_init_45 (by decide) rfl (by decide) ?_
  refine V0_goto (pc := 48) 31 dX5_init_48 (by decide) ?_
  refine V0_iload_n (pc := 31) dX5_init_31 rfl ?_
  refine V0_bipush (pc := 32) (6) dX5_init_32 (by decide) ?_
  refine V1_icmp_ge (pc := 34) 51 dX5_init_34 (by decide) (fun q => absurd (show ((4 : Int32) < 6) by decide) q) (fun _ => ?_)
  refine V0_aload_n (pc := 37) dX5_init_37 rfl ?_
  refine V0_get (pc := 38) dX5_init_38 flX5_11 (kh_get hl) rfl ?_
  refine V0_iload_n (pc := 41) dX5_init_41 rfl ?_
  refine V0_bipush (pc := 42) (6) dX5_init_42 (by decide) ?_
  refine K_iast (pc := 44) (j := 4) (k := 0) (nn := n + 0) (lb := [.inl (0, 6, .inl (upd (upd (upd (upd (upd (fun _ => 0) 0 (6)) 1 (6)) 2 (6)) 3 (6)) 4 (6))), kI 6, kL 360]) hn dX5_init_44 rfl rfl (by decide) (by decide) (by decide) rfl ?_
  refine V0_iinc_1 (pc := 45) (5) dX5_init_45 (by decide) rfl (by decide) ?_
  refine V0_goto (pc := 48) 31 dX5_init_48 (by decide) ?_
  refine V0_iload_n (pc := 31) dX5_init_31 rfl ?_
  refine V0_bipush (pc := 32) (6) dX5_init_32 (by decide) ?_
  refine V1_icmp_ge (pc := 34) 51 dX5_init_34 (by decide) (fun q => absurd (show ((5 : Int32) < 6) by decide) q) (fun _ => ?_)
  refine V0_aload_n (pc := 37) dX5_init_37 rfl ?_
  refine V0_get (pc := 38) dX5_init_38 flX5_11 (kh_get hl) rfl ?_
  refine V0_iload_n (pc := 41) dX5_init_41 rfl ?_
  refine V0_bipush (pc := 42) (6) dX5_init_42 (by decide) ?_
  refine K_iast (pc := 44) (j := 5) (k := 0) (nn := n + 0) (lb := [.inl (0, 6, .inl (upd (upd (upd (upd (upd (upd (fun _ => 0) 0 (6)) 1 (6)) 2 (6)) 3 (6)) 4 (6)) 5 (6))), kI 6, kL 360]) hn dX5_init_44 rfl rfl (by decide) (by decide) (by decide) rfl ?_
  refine V0_iinc_1 (pc := 45) (6) dX5_init_45 (by decide) rfl (by decide) ?_
  refine V0_goto (pc := 48) 31 dX5_init_48 (by decide) ?_
  refine V0_iload_n (pc := 31) dX5_init_31 rfl ?_
  refine V0_bipush (pc := 32) (6) dX5_init_32 (by decide) ?_
  refine V1_icmp_ge (pc := 34) 51 dX5_init_34 (by decide) (fun _ => ?_) (fun q => absurd q (by decide))
  exact V0_end none ⟨dX5_init_51, rfl⟩ rfl ⟨rfl, rfl⟩
set_option maxRecDepth 100000 in
theorem ci_X6 {l : Launch} {h : px_H} {n p q1 q2 q3 : Nat} (hn : h.length = n) (hp : h[p]? = some (.inr (6, [.null, .null, .null, .null]))) : Ct0 l true mX6_init 1 1 10 [.ref p, .ref q1, .ref q2, .ref q3] h (ci_Q h p 6 [.ref q1, .ref q2, .ref q3, .ref n] [kI 10]) := by
  have hl : p < h.length := (List.getElem?_eq_some_iff.mp hp).1
  refine Ct0.of plX6_init (Nat.le_of_ble_eq_true rfl) [.ref p, .ref q1, .ref q2, .ref q3] rfl ?_
  refine V_hp (kh_0 hp) ?_
  refine V0_aload_n (pc := 0) dX6_init_0 rfl ?_
  refine V0_objInit (pc := 1) dX6_init_1 mlX6_3 jm_obj jc_obj (Nat.le_of_ble_eq_true rfl) (Nat.le_of_ble_eq_true rfl) ?_
  refine V0_aload_n (pc := 4) dX6_init_4 rfl ?_
  refine V0_bipush (pc := 5) (10) dX6_init_5 (by decide) ?_
  refine K_newi (pc := 7) (t := 0) (N := 10) (k := 0) (nn := n + 0) (lb := [kI 10]) hn rfl dX6_init_7 rfl (fun _ => rfl) (fun _ q => by cases q) (by decide) ac_int (by decide) (by decide) (by decide) (Nat.le_of_ble_eq_true rfl) (Nat.le_of_ble_eq_true rfl) rfl rfl rfl ?_
  refine K_putF (pc := 9) (fs' := [.null, .null, .null, .ref n]) hl dX6_init_9 flX6_9 rfl rfl (Nat.le_of_ble_eq_true rfl) (fun _ => rfl) (fun _ => rfl) rfl ?_
  refine V0_aload_n (pc := 12) dX6_init_12 rfl ?_
  refine V0_aload_n (pc := 13) dX6_init_13 rfl ?_
  refine K_putF (pc := 14) (fs' := [.ref q1, .null, .null, .ref n]) hl dX6_init_14 flX6_15 rfl rfl (Nat.le_of_ble_eq_true rfl) (fun _ => rfl) (fun _ => rfl) rfl ?_
  refine V0_aload_n (pc := 17) dX6_init_17 rfl ?_
  refine V0_aload_n (pc := 18) dX6_init_18 rfl ?_
  refine K_putF (pc := 19) (fs' := [.ref q1, .ref q2, .null, .ref n]) hl dX6_init_19 flX6_19 rfl rfl (Nat.le_of_ble_eq_true rfl) (fun _ => rfl) (fun _ => rfl) rfl ?_
  refine V0_aload_n (pc := 22) dX6_init_22 rfl ?_
  refine V0_aload_n (pc := 23) dX6_init_23 rfl ?_
  refine K_putF (pc := 24) (fs' := [.ref q1, .ref q2, .ref q3, .ref n]) hl dX6_init_24 flX6_23 rfl rfl (Nat.le_of_ble_eq_true rfl) (fun _ => rfl) (fun _ => rfl) rfl ?_
  exact V0_end none ⟨dX6_init_27, rfl⟩ rfl ⟨rfl, rfl⟩
set_option maxRecDepth 100000 in
theorem ci_X7 {l : Launch} {h : px_H} {n p  : Nat} (hn : h.length = n) (hp : h[p]? = some (.inr (7, [.null, .null, .null, .null, .null, .null, .int 0, .int 0, .int 0, .int 0]))) : Ct0 l true mX7_init 1 6 60 [.ref p] h (ci_Q h p 7 [.ref n, .ref (n + 1), .ref (n + 2), .ref (n + 3), .ref (n + 4), .ref (n + 5), .int 0, .int 0, .int (12), .int (5)] [kI 10, kI 10, kI 10, kI 10, kI 10, kI 10]) := by
  have hl : p < h.length := (List.getElem?_eq_some_iff.mp hp).1
  refine Ct0.of plX7_init (Nat.le_of_ble_eq_true rfl) [.ref p] rfl ?_
  refine V_hp (kh_0 hp) ?_
  refine V0_aload_n (pc := 0) dX7_init_0 rfl ?_
  refine V0_objInit (pc := 1) dX7_init_1 mlX7_3 jm_obj jc_obj (Nat.le_of_ble_eq_true rfl) (Nat.le_of_ble_eq_true rfl) ?_
  refine V0_aload_n (pc := 4) dX7_init_4 rfl ?_
  refine V0_bipush (pc := 5) (10) dX7_init_5 (by decide) ?_
  refine K_newi (pc := 7) (t := 0) (N := 10) (k := 0) (nn := n + 0) (lb := [kI 10]) hn rfl dX7_init_7 rfl (fun _ => rfl) (fun _ q => by cases q) (by decide) ac_int (by decide) (by decide) (by decide) (Nat.le_of_ble_eq_true rfl) (Nat.le_of_ble_eq_true rfl) rfl rfl rfl ?_
  refine K_putF (pc := 9) (fs' := [.ref n, .null, .null, .null, .null, .null, .int 0, .int 0, .int 0, .int 0]) hl dX7_init_9 flX7_9 rfl rfl (Nat.le_of_ble_eq_true rfl) (fun _ => rfl) (fun _ => rfl) rfl ?_
  refine V0_aload_n (pc := 12) dX7_init_12 rfl ?_
  refine V0_bipush (pc := 13) (10) dX7_init_13 (by decide) ?_
  refine K_newi (pc := 15) (t := 0) (N := 10) (k := 1) (nn := n + 1) (lb := [kI 10, kI 10]) hn rfl dX7_init_15 rfl (fun _ => rfl) (fun _ q => by cases q) (by decide) ac_int (by decide) (by decide) (by decide) (Nat.le_of_ble_eq_true rfl) (Nat.le_of_ble_eq_true rfl) rfl rfl rfl ?_
  refine K_putF (pc := 17) (fs' := [.ref n, .ref (n + 1), .null, .null, .null, .null, .int 0, .int 0, .int 0, .int 0]) hl dX7_init_17 flX7_15 rfl rfl (Nat.le_of_ble_eq_true rfl) (fun _ => rfl) (fun _ => rfl) rfl ?_
  refine V0_aload_n (pc := 20) dX7_init_20 rfl ?_
  refine V0_bipush (pc := 21) (10) dX7_init_21 (by decide) ?_
  refine K_newi (pc := 23) (t := 0) (N := 10) (k := 2) (nn := n + 2) (lb := [kI 10, kI 10, kI 10]) hn rfl dX7_init_23 rfl (fun _ => rfl) (fun _ q => by cases q) (by decide) ac_int (by decide) (by decide) (by decide) (Nat.le_of_ble_eq_true rfl) (Nat.le_of_ble_eq_true rfl) rfl rfl rfl ?_
  refine K_putF (pc := 25) (fs' := [.ref n, .ref (n + 1), .ref (n + 2), .null, .null, .null, .int 0, .int 0, .int 0, .int 0]) hl dX7_init_25 flX7_18 rfl rfl (Nat.le_of_ble_eq_true rfl) (fun _ => rfl) (fun _ => rfl) rfl ?_
  refine V0_aload_n (pc := 28) dX7_init_28 rfl ?_
  refine V0_bipush (pc := 29) (10) dX7_init_29 (by decide) ?_
  refine K_newi (pc := 31) (t := 0) (N := 10) (k := 3) (nn := n + 3) (lb := [kI 10, kI 10, kI 10, kI 10]) hn rfl dX7_init_31 rfl (fun _ => rfl) (fun _ q => by cases q) (by decide) ac_int (by decide) (by decide) (by decide) (Nat.le_of_ble_eq_true rfl) (Nat.le_of_ble_eq_true rfl) rfl rfl rfl ?_
  refine K_putF (pc := 33) (fs' := [.ref n, .ref (n + 1), .ref (n + 2), .ref (n + 3), .null, .null, .int 0, .int 0, .int 0, .int 0]) hl dX7_init_33 flX7_21 rfl rfl (Nat.le_of_ble_eq_true rfl) (fun _ => rfl) (fun _ => rfl) rfl ?_
  refine V0_aload_n (pc := 36) dX7_init_36 rfl ?_
  refine V0_bipush (pc := 37) (10) dX7_init_37 (by decide) ?_
  refine K_newi (pc := 39) (t := 0) (N := 10) (k := 4) (nn := n + 4) (lb := [kI 10, kI 10, kI 10, kI 10, kI 10]) hn rfl dX7_init_39 rfl (fun _ => rfl) (fun _ q => by cases q) (by decide) ac_int (by decide) (by decide) (by decide) (Nat.le_of_ble_eq_true rfl) (Nat.le_of_ble_eq_true rfl) rfl rfl rfl ?_
  refine K_putF (pc := 41) (fs' := [.ref n, .ref (n + 1), .ref (n + 2), .ref (n + 3), .ref (n + 4), .null, .int 0, .int 0, .int 0, .int 0]) hl dX7_init_41 flX7_24 rfl rfl (Nat.le_of_ble_eq_true rfl) (fun _ => rfl) (fun _ => rfl) rfl ?_
  refine V0_aload_n (pc := 44) dX7_init_44 rfl ?_
  refine V0_bipush (pc := 45) (10) dX7_init_45 (by decide) ?_
  refine K_newi (pc := 47) (t := 0) (N := 10) (k := 5) (nn := n + 5) (lb := [kI 10, kI 10, kI 10, kI 10, kI 10, kI 10]) hn rfl dX7_init_47 rfl (fun _ => rfl) (fun _ q => by cases q) (by decide) ac_int (by decide) (by decide) (by decide) (Nat.le_of_ble_eq_true rfl) (Nat.le_of_ble_eq_true rfl) rfl rfl rfl ?_
  refine K_putF (pc := 49) (fs' := [.ref n, .ref (n + 1), .ref (n + 2), .ref (n + 3), .ref (n + 4), .ref (n + 5), .int 0, .int 0, .int 0, .int 0]) hl dX7_init_49 flX7_27 rfl rfl (Nat.le_of_ble_eq_true rfl) (fun _ => rfl) (fun _ => rfl) rfl ?_
  refine V0_aload_n (pc := 52) dX7_init_52 rfl ?_
  refine V0_bipush (pc := 53) (12) dX7_init_53 (by decide) ?_
  refine K_put (pc := 55) (fs' := [.ref n, .ref (n + 1), .ref (n + 2), .ref (n + 3), .ref (n + 4), .ref (n + 5), .int 0, .int 0, .int (12), .int 0]) hl dX7_init_55 flX7_30 (Nat.le_of_ble_eq_true rfl) (fun _ => rfl) (fun _ => rfl) rfl ?_
  refine V0_aload_n (pc := 58) dX7_init_58 rfl ?_
  refine V0_iconst (pc := 59) (5) dX7_init_59 (by decide) ?_
  refine K_put (pc := 60) (fs' := [.ref n, .ref (n + 1), .ref (n + 2), .ref (n + 3), .ref (n + 4), .ref (n + 5), .int 0, .int 0, .int (12), .int (5)]) hl dX7_init_60 flX7_34 (Nat.le_of_ble_eq_true rfl) (fun _ => rfl) (fun _ => rfl) rfl ?_
  exact V0_end none ⟨dX7_init_63, rfl⟩ rfl ⟨rfl, rfl⟩
set_option maxRecDepth 100000 in
theorem ci_X10 {l : Launch} {h : px_H} {n p q1 q2 : Nat} (hn : h.length = n) (hp : h[p]? = some (.inr (10, [.null, .null, .null, .null, .int 0, .int 0]))) : Ct0 l true mX10_init 1 2 135 [.ref p, .ref q1, .ref q2] h (ci_Q h p 10 [.ref q1, .ref q2, .ref n, .ref (n + 1), .int 0, .int 0] [kI 7, kZ 128]) := by
  have hl : p < h.length := (List.getElem?_eq_some_iff.mp hp).1
  refine Ct0.of plX10_init (Nat.le_of_ble_eq_true rfl) [.ref p, .ref q1, .ref q2] rfl ?_
  refine V_hp (kh_0 hp) ?_
  refine V0_aload_n (pc := 0) dX10_init_0 rfl ?_
  refine V0_objInit (pc := 1) dX10_init_1 mlX10_3 jm_obj jc_obj (Nat.le_of_ble_eq_true rfl) (Nat.le_of_ble_eq_true rfl) ?_
  refine V0_aload_n (pc := 4) dX10_init_4 rfl ?_
  refine V0_bipush (pc := 5) (7) dX10_init_5 (by decide) ?_
  refine K_newi (pc := 7) (t := 0) (N := 7) (k := 0) (nn := n + 0) (lb := [kI 7]) hn rfl dX10_init_7 rfl (fun _ => rfl) (fun _ q => by cases q) (by decide) ac_int (by decide) (by decide) (by decide) (Nat.le_of_ble_eq_true rfl) (Nat.le_of_ble_eq_true rfl) rfl rfl rfl ?_
  refine K_putF (pc := 9) (fs' := [.null, .null, .ref n, .null, .int 0, .int 0]) hl dX10_init_9 flX10_9 rfl rfl (Nat.le_of_ble_eq_true rfl) (fun _ => rfl) (fun _ => rfl) rfl ?_
  refine V0_aload_n (pc := 12) dX10_init_12 rfl ?_
  refine V0_sipush (pc := 13) (128) dX10_init_13 (by decide) ?_
  refine K_newi (pc := 16) (t := 2) (N := 128) (k := 1) (nn := n + 1) (lb := [kI 7, kZ 128]) hn rfl dX10_init_16 rfl (fun _ => rfl) (fun _ q => by cases q) (by decide) ac_boolean (by decide) (by decide) (by decide) (Nat.le_of_ble_eq_true rfl) (Nat.le_of_ble_eq_true rfl) rfl rfl rfl ?_
  refine K_putF (pc := 18) (fs' := [.null, .null, .ref n, .ref (n + 1), .int 0, .int 0]) hl dX10_init_18 flX10_15 rfl rfl (Nat.le_of_ble_eq_true rfl) (fun _ => rfl) (fun _ => rfl) rfl ?_
  refine V0_aload_n (pc := 21) dX10_init_21 rfl ?_
  refine V0_aload_n (pc := 22) dX10_init_22 rfl ?_
  refine K_putF (pc := 23) (fs' := [.ref q1, .null, .ref n, .ref (n + 1), .int 0, .int 0]) hl dX10_init_23 flX10_19 rfl rfl (Nat.le_of_ble_eq_true rfl) (fun _ => rfl) (fun _ => rfl) rfl ?_
  refine V0_aload_n (pc := 26) dX10_init_26 rfl ?_
  refine V0_aload_n (pc := 27) dX10_init_27 rfl ?_
  refine K_putF (pc := 28) (fs' := [.ref q1, .ref q2, .ref n, .ref (n + 1), .int 0, .int 0]) hl dX10_init_28 flX10_23 rfl rfl (Nat.le_of_ble_eq_true rfl) (fun _ => rfl) (fun _ => rfl) rfl ?_
  exact V0_end none ⟨dX10_init_31, rfl⟩ rfl ⟨rfl, rfl⟩
set_option maxRecDepth 100000 in
theorem ci_X8 {l : Launch} {h : px_H} {n p  : Nat} (hn : h.length = n) (hp : h[p]? = some (.inr (8, [.null, .null, .int 0, .int 0, .int 0]))) : Ct0 l true mX8_init 2 6 515 [.ref p] h (ci_Q h p 8 [.ref n, .ref (n + 5), .int 0, .int 0, .int 0] [.inr (3, [.ref (n + 1), .ref (n + 2), .ref (n + 3), .ref (n + 4), .int 0]), kI 6, kI 128, kI 128, kI 128, kI 120]) := by
  have hl : p < h.length := (List.getElem?_eq_some_iff.mp hp).1
  refine Ct0.of plX8_init (Nat.le_of_ble_eq_true rfl) [.ref p] rfl ?_
  refine V_hp (kh_0 hp) ?_
  refine V0_aload_n (pc := 0) dX8_init_0 rfl ?_
  refine V0_objInit (pc := 1) dX8_init_1 mlX8_1 jm_obj jc_obj (Nat.le_of_ble_eq_true rfl) (Nat.le_of_ble_eq_true rfl) ?_
  refine V0_aload_n (pc := 4) dX8_init_4 rfl ?_
  refine K_new (pc := 5) (ci := 3) (N := 5) (fs := [.null, .null, .null, .null, .int 0]) (k := 0) (nn := n + 0) (lb := [.inr (3, [.null, .null, .null, .null, .int 0])]) hn rfl dX8_init_5 rfl inX3 tyX3_ok clX8_7 iaX3 iiX3 (by decide) (fun _ => rfl) (Nat.le_of_ble_eq_true rfl) (Nat.le_of_ble_eq_true rfl) rfl rfl rfl ?_
  refine V0_dup (pc := 8) dX8_init_8 rfl ?_
  refine K_callIN (pc := 9) (M' := mX3_init) (host := "GladSide") (k := 0) (lb := [.inr (3, [.ref (n + 1), .ref (n + 2), .ref (n + 3), .ref (n + 4), .int 0]), kI 6, kI 128, kI 128, kI 128]) hn dX8_init_9 (by decide +kernel) okX3_init (ci_X3 (n := n + 1) (p := n + 0)  (kh_len hn rfl rfl) ((kh_at (j := 0) hn).trans rfl)) rfl rfl ⟨(Nat.le_of_ble_eq_true rfl), (Nat.le_of_ble_eq_true rfl)⟩ (Nat.le_of_ble_eq_true rfl) (Nat.le_of_ble_eq_true rfl) (Nat.le_of_ble_eq_true rfl) rfl rfl ?_
  refine K_putF (pc := 12) (fs' := [.ref n, .null, .int 0, .int 0, .int 0]) hl dX8_init_12 flX8_10 rfl rfl (Nat.le_of_ble_eq_true rfl) (fun _ => rfl) (fun _ => rfl) rfl ?_
  refine V0_aload_n (pc := 15) dX8_init_15 rfl ?_
  refine V0_bipush (pc := 16) (120) dX8_init_16 (by decide) ?_
  refine K_newi (pc := 18) (t := 0) (N := 120) (k := 5) (nn := n + 5) (lb := [.inr (3, [.ref (n + 1), .ref (n + 2), .ref (n + 3), .ref (n + 4), .int 0]), kI 6, kI 128, kI 128, kI 128, kI 120]) hn rfl dX8_init_18 rfl (fun _ => rfl) (fun _ q => by cases q) (by decide) ac_int (by decide) (by decide) (by decide) (Nat.le_of_ble_eq_true rfl) (Nat.le_of_ble_eq_true rfl) rfl rfl rfl ?_
  refine K_putF (pc := 20) (fs' := [.ref n, .ref (n + 5), .int 0, .int 0, .int 0]) hl dX8_init_20 flX8_16 rfl rfl (Nat.le_of_ble_eq_true rfl) (fun _ => rfl) (fun _ => rfl) rfl ?_
  exact V0_end none ⟨dX8_init_23, rfl⟩ rfl ⟨rfl, rfl⟩
set_option maxRecDepth 100000 in
theorem ci_X9 {l : Launch} {h : px_H} {n p q1 q2 q3 : Nat} (hn : h.length = n) (hp : h[p]? = some (.inr (9, [.null, .null, .null, .null, .int 0, .int 0]))) : Ct0 l true mX9_init 2 5 40 [.ref p, .ref q1, .ref q2, .ref q3] h (ci_Q h p 9 [.ref q1, .ref q2, .ref n, .ref q3, .int 0, .int 0] [.inr (2, [.ref (n + 1), .ref (n + 2), .ref (n + 3), .ref (n + 4), .int 0, .int 0, .ref q1]), kI 7, kI 10, kI 10, kI 6]) := by
  have hl : p < h.length := (List.getElem?_eq_some_iff.mp hp).1
  refine Ct0.of plX9_init (Nat.le_of_ble_eq_true rfl) [.ref p, .ref q1, .ref q2, .ref q3] rfl ?_
  refine V_hp (kh_0 hp) ?_
  refine V0_aload_n (pc := 0) dX9_init_0 rfl ?_
  refine V0_objInit (pc := 1) dX9_init_1 mlX9_3 jm_obj jc_obj (Nat.le_of_ble_eq_true rfl) (Nat.le_of_ble_eq_true rfl) ?_
  refine V0_aload_n (pc := 4) dX9_init_4 rfl ?_
  refine V0_aload_n (pc := 5) dX9_init_5 rfl ?_
  refine K_putF (pc := 6) (fs' := [.ref q1, .null, .null, .null, .int 0, .int 0]) hl dX9_init_6 flX9_9 rfl rfl (Nat.le_of_ble_eq_true rfl) (fun _ => rfl) (fun _ => rfl) rfl ?_
  refine V0_aload_n (pc := 9) dX9_init_9 rfl ?_
  refine V0_aload_n (pc := 10) dX9_init_10 rfl ?_
  refine K_putF (pc := 11) (fs' := [.ref q1, .ref q2, .null, .null, .int 0, .int 0]) hl dX9_init_11 flX9_15 rfl rfl (Nat.le_of_ble_eq_true rfl) (fun _ => rfl) (fun _ => rfl) rfl ?_
  refine V0_aload_n (pc := 14) dX9_init_14 rfl ?_
  refine V0_aload_n (pc := 15) dX9_init_15 rfl ?_
  refine K_putF (pc := 16) (fs' := [.ref q1, .ref q2, .null, .ref q3, .int 0, .int 0]) hl dX9_init_16 flX9_19 rfl rfl (Nat.le_of_ble_eq_true rfl) (fun _ => rfl) (fun _ => rfl) rfl ?_
  refine V0_aload_n (pc := 19) dX9_init_19 rfl ?_
  refine K_new (pc := 20) (ci := 2) (N := 7) (fs := [.null, .null, .null, .null, .int 0, .int 0, .null]) (k := 0) (nn := n + 0) (lb := [.inr (2, [.null, .null, .null, .null, .int 0, .int 0, .null])]) hn rfl dX9_init_20 rfl inX2 tyX2_ok clX9_23 iaX2 iiX2 (by decide) (fun _ => rfl) (Nat.le_of_ble_eq_true rfl) (Nat.le_of_ble_eq_true rfl) rfl rfl rfl ?_
  refine V0_dup (pc := 23) dX9_init_23 rfl ?_
  refine V0_aload_n (pc := 24) dX9_init_24 rfl ?_
  refine K_callI (pc := 25) (M' := mX2_init) (k := 0) (lb := [.inr (2, [.ref (n + 1), .ref (n + 2), .ref (n + 3), .ref (n + 4), .int 0, .int 0, .ref q1]), kI 7, kI 10, kI 10, kI 6]) hn dX9_init_25 mlX9_25 okX2_init (ci_X2 (n := n + 1) (p := n + 0) (q1 := q1) (kh_len hn rfl rfl) ((kh_at (j := 0) hn).trans rfl)) rfl rfl ⟨(Nat.le_of_ble_eq_true rfl), (Nat.le_of_ble_eq_true rfl)⟩ (Nat.le_of_ble_eq_true rfl) (Nat.le_of_ble_eq_true rfl) (Nat.le_of_ble_eq_true rfl) rfl rfl ?_
  refine K_putF (pc := 28) (fs' := [.ref q1, .ref q2, .ref n, .ref q3, .int 0, .int 0]) hl dX9_init_28 flX9_28 rfl rfl (Nat.le_of_ble_eq_true rfl) (fun _ => rfl) (fun _ => rfl) rfl ?_
  exact V0_end none ⟨dX9_init_31, rfl⟩ rfl ⟨rfl, rfl⟩
set_option maxRecDepth 100000 in
theorem ci_X12 {l : Launch} {h : px_H} {n p  : Nat} (hn : h.length = n) (hp : h[p]? = some (.inr (12, [.int 0, .int 0, .null, .int 0, .null, .null, .null, .null, .null, .null, .null, .null, .null, .int 0, .int 0, .null, .null, .null, .null, .null, .int 0, .int 0, .int 0, .int 0, .int 0, .null, .null, .null, .null, .null, .null, .null, .int 0, .null, .null, .null, .int 0, .int 0, .int 0, .int 0, .null, .null, .int 0, .int 0, .int 0, .int 0, .int 0, .null, .null, .null, .null, .int 0, .null, .int 0, .null, .null, .null, .null, .null]))) : Ct0 l true mX12_init 1 37 1855 [.ref p] h (ci_Q h p 12 [.int 0, .int 0, .ref n, .int 0, .ref (n + 1), .ref (n + 2), .ref (n + 3), .ref (n + 4), .ref (n + 5), .ref (n + 6), .ref (n + 7), .ref (n + 8), .ref (n + 9), .int 0, .int 0, .ref (n + 10), .ref (n + 11), .ref (n + 12), .ref (n + 13), .ref (n + 14), .int 0, .int 0, .int 0, .int 0, .int 0, .ref (n + 15), .ref (n + 16), .ref (n + 17), .ref (n + 18), .ref (n + 19), .ref (n + 20), .ref (n + 21), .int 0, .ref (n + 22), .ref (n + 23), .ref (n + 24), .int 0, .int 0, .int 0, .int 0, .ref (n + 25), .ref (n + 26), .int 0, .int 0, .int 0, .int 0, .int 0, .ref (n + 27), .ref (n + 28), .ref (n + 29), .ref (n + 30), .int 0, .ref (n + 31), .int 0, .ref (n + 32), .ref (n + 33), .ref (n + 34), .ref (n + 35), .ref (n + 36)] [kI 7, kI 10, kI 10, kI 10, kI 10, kI 10, kI 10, kI 10, kI 10, .inl (0, 4, .inl (upd (upd (upd (upd (fun _ => 0) 0 (0)) 1 (12)) 2 (5)) 3 (0))), kI 40, kI 40, kI 40, kI 40, kB 120, kB 260, kI 260, kI 2, kS 122, kS 122, kI 6, kI 130, kI 7, kI 10, kI 10, kI 10, kI 6, kI 7, kI 10, kI 10, kI 6, kI 50, kI 24, .inl (0, 6, .inl (upd (upd (upd (upd (upd (upd (fun _ => 0) 0 (-1)) 1 (-1)) 2 (-1)) 3 (-1)) 4 (-1)) 5 (-1))), kI 6, kL 360, kL 60]) := by
  have hl : p < h.length := (List.getElem?_eq_some_iff.mp hp).1
  refine Ct0.of plX12_init (Nat.le_of_ble_eq_true rfl) [.ref p] rfl ?_
  refine V_hp (kh_0 hp) ?_
  refine V0_aload_n (pc := 0) dX12_init_0 rfl ?_
  refine V0_objInit (pc := 1) dX12_init_1 mlX12_1 jm_obj jc_obj (Nat.le_of_ble_eq_true rfl) (Nat.le_of_ble_eq_true rfl) ?_
  refine V0_aload_n (pc := 4) dX12_init_4 rfl ?_
  refine V0_bipush (pc := 5) (7) dX12_init_5 (by decide) ?_
  refine K_newi (pc := 7) (t := 0) (N := 7) (k := 0) (nn := n + 0) (lb := [kI 7]) hn rfl dX12_init_7 rfl (fun _ => rfl) (fun _ q => by cases q) (by decide) ac_int (by decide) (by decide) (by decide) (Nat.le_of_ble_eq_true rfl) (Nat.le_of_ble_eq_true rfl) rfl rfl rfl ?_
  refine K_putF (pc := 9) (fs' := [.int 0, .int 0, .ref n, .int 0, .null, .null, .null, .null, .null, .null, .null, .null, .null, .int 0, .int 0, .null, .null, .null, .null, .null, .int 0, .int 0, .int 0, .int 0, .int 0, .null, .null, .null, .null, .null, .null, .null, .int 0, .null, .null, .null, .int 0, .int 0, .int 0, .int 0, .null, .null, .int 0, .int 0, .int 0, .int 0, .int 0, .null, .null, .null, .null, .int 0, .null, .int 0, .null, .null, .null, .null, .null]) hl dX12_init_9 flX12_7 rfl rfl (Nat.le_of_ble_eq_true rfl) (fun _ => rfl) (fun _ => rfl) rfl ?_
  refine V0_aload_n (pc := 12) dX12_init_12 rfl ?_
  refine V0_bipush (pc := 13) (10) dX12_init_13 (by decide) ?_
  refine K_newi (pc := 15) (t := 0) (N := 10) (k := 1) (nn := n + 1) (lb := [kI 7, kI 10]) hn rfl dX12_init_15 rfl (fun _ => rfl) (fun _ q => by cases q) (by decide) ac_int (by decide) (by decide) (by decide) (Nat.le_of_ble_eq_true rfl) (Nat.le_of_ble_eq_true rfl) rfl rfl rfl ?_
  refine K_putF (pc := 17) (fs' := [.int 0, .int 0, .ref n, .int 0, .ref (n + 1), .null, .null, .null, .null, .null, .null, .null, .null, .int 0, .int 0, .null, .null, .null, .null, .null, .int 0, .int 0, .int 0, .int 0, .int 0, .null, .null, .null, .null, .null, .null, .null, .int 0, .null, .null, .null, .int 0, .int 0, .int 0, .int 0, .null, .null, .int 0, .int 0, .int 0, .int 0, .int 0, .null, .null, .null, .null, .int 0, .null, .int 0, .null, .null, .null, .null, .null]) hl dX12_init_17 flX12_13 rfl rfl (Nat.le_of_ble_eq_true rfl) (fun _ => rfl) (fun _ => rfl) rfl ?_
  refine V0_aload_n (pc := 20) dX12_init_20 rfl ?_
  refine V0_bipush (pc := 21) (10) dX12_init_21 (by decide) ?_
  refine K_newi (pc := 23) (t := 0) (N := 10) (k := 2) (nn := n + 2) (lb := [kI 7, kI 10, kI 10]) hn rfl dX12_init_23 rfl (fun _ => rfl) (fun _ q => by cases q) (by decide) ac_int (by decide) (by decide) (by decide) (Nat.le_of_ble_eq_true rfl) (Nat.le_of_ble_eq_true rfl) rfl rfl rfl ?_
  refine K_putF (pc := 25) (fs' := [.int 0, .int 0, .ref n, .int 0, .ref (n + 1), .ref (n + 2), .null, .null, .null, .null, .null, .null, .null, .int 0, .int 0, .null, .null, .null, .null, .null, .int 0, .int 0, .int 0, .int 0, .int 0, .null, .null, .null, .null, .null, .null, .null, .int 0, .null, .null, .null, .int 0, .int 0, .int 0, .int 0, .null, .null, .int 0, .int 0, .int 0, .int 0, .int 0, .null, .null, .null, .null, .int 0, .null, .int 0, .null, .null, .null, .null, .null]) hl dX12_init_25 flX12_16 rfl rfl (Nat.le_of_ble_eq_true rfl) (fun _ => rfl) (fun _ => rfl) rfl ?_
  refine V0_aload_n (pc := 28) dX12_init_28 rfl ?_
  refine V0_bipush (pc := 29) (10) dX12_init_29 (by decide) ?_
  refine K_newi (pc := 31) (t := 0) (N := 10) (k := 3) (nn := n + 3) (lb := [kI 7, kI 10, kI 10, kI 10]) hn rfl dX12_init_31 rfl (fun _ => rfl) (fun _ q => by cases q) (by decide) ac_int (by decide) (by decide) (by decide) (Nat.le_of_ble_eq_true rfl) (Nat.le_of_ble_eq_true rfl) rfl rfl rfl ?_
  refine K_putF (pc := 33) (fs' := [.int 0, .int 0, .ref n, .int 0, .ref (n + 1), .ref (n + 2), .ref (n + 3), .null, .null, .null, .null, .null, .null, .int 0, .int 0, .null, .null, .null, .null, .null, .int 0, .int 0, .int 0, .int 0, .int 0, .null, .null, .null, .null, .null, .null, .null, .int 0, .null, .null, .null, .int 0, .int 0, .int 0, .int 0, .null, .null, .int 0, .int 0, .int 0, .int 0, .int 0, .null, .null, .null, .null, .int 0, .null, .int 0, .null, .null, .null, .null, .null]) hl dX12_init_33 flX12_19 rfl rfl (Nat.le_of_ble_eq_true rfl) (fun _ => rfl) (fun _ => rfl) rfl ?_
  refine V0_aload_n (pc := 36) dX12_init_36 rfl ?_
  refine V0_bipush (pc := 37) (10) dX12_init_37 (by decide) ?_
  refine K_newi (pc := 39) (t := 0) (N := 10) (k := 4) (nn := n + 4) (lb := [kI 7, kI 10, kI 10, kI 10, kI 10]) hn rfl dX12_init_39 rfl (fun _ => rfl) (fun _ q => by cases q) (by decide) ac_int (by decide) (by decide) (by decide) (Nat.le_of_ble_eq_true rfl) (Nat.le_of_ble_eq_true rfl) rfl rfl rfl ?_
  refine K_putF (pc := 41) (fs' := [.int 0, .int 0, .ref n, .int 0, .ref (n + 1), .ref (n + 2), .ref (n + 3), .ref (n + 4), .null, .null, .null, .null, .null, .int 0, .int 0, .null, .null, .null, .null, .null, .int 0, .int 0, .int 0, .int 0, .int 0, .null, .null, .null, .null, .null, .null, .null, .int 0, .null, .null, .null, .int 0, .int 0, .int 0, .int 0, .null, .null, .int 0, .int 0, .int 0, .int 0, .int 0, .null, .null, .null, .null, .int 0, .null, .int 0, .null, .null, .null, .null, .null]) hl dX12_init_41 flX12_22 rfl rfl (Nat.le_of_ble_eq_true rfl) (fun _ => rfl) (fun _ => rfl) rfl ?_
  refine V0_aload_n (pc := 44) dX12_init_44 rfl ?_
  refine V0_bipush (pc := 45) (10) dX12_init_45 (by decide) ?_
  refine K_newi (pc := 47) (t := 0) (N := 10) (k := 5) (nn := n + 5) (lb := [kI 7, kI 10, kI 10, kI 10, kI 10, kI 10]) hn rfl dX12_init_47 rfl (fun _ => rfl) (fun _ q => by cases q) (by decide) ac_int (by decide) (by decide) (by decide) (Nat.le_of_ble_eq_true rfl) (Nat.le_of_ble_eq_true rfl) rfl rfl rfl ?_
  refine K_putF (pc := 49) (fs' := [.int 0, .int 0, .ref n, .int 0, .ref (n + 1), .ref (n + 2), .ref (n + 3), .ref (n + 4), .ref (n + 5), .null, .null, .null, .null, .int 0, .int 0, .null, .null, .null, .null, .null, .int 0, .int 0, .int 0, .int 0, .int 0, .null, .null, .null, .null, .null, .null, .null, .int 0, .null, .null, .null, .int 0, .int 0, .int 0, .int 0, .null, .null, .int 0, .int 0, .int 0, .int 0, .int 0, .null, .null, .null, .null, .int 0, .null, .int 0, .null, .null, .null, .null, .null]) hl dX12_init_49 flX12_25 rfl rfl (Nat.le_of_ble_eq_true rfl) (fun _ => rfl) (fun _ => rfl) rfl ?_
  refine V0_aload_n (pc := 52) dX12_init_52 rfl ?_
  refine V0_bipush (pc := 53) (10) dX12_init_53 (by decide) ?_
  refine K_newi (pc := 55) (t := 0) (N := 10) (k := 6) (nn := n + 6) (lb := [kI 7, kI 10, kI 10, kI 10, kI 10, kI 10, kI 10]) hn rfl dX12_init_55 rfl (fun _ => rfl) (fun _ q => by cases q) (by decide) ac_int (by decide) (by decide) (by decide) (Nat.le_of_ble_eq_true rfl) (Nat.le_of_ble_eq_true rfl) rfl rfl rfl ?_
  refine K_putF (pc := 57) (fs' := [.int 0, .int 0, .ref n, .int 0, .ref (n + 1), .ref (n + 2), .ref (n + 3), .ref (n + 4), .ref (n + 5), .ref (n + 6), .null, .null, .null, .int 0, .int 0, .null, .null, .null, .null, .null, .int 0, .int 0, .int 0, .int 0, .int 0, .null, .null, .null, .null, .null, .null, .null, .int 0, .null, .null, .null, .int 0, .int 0, .int 0, .int 0, .null, .null, .int 0, .int 0, .int 0, .int 0, .int 0, .null, .null, .null, .null, .int 0, .null, .int 0, .null, .null, .null, .null, .null]) hl dX12_init_57 flX12_28 rfl rfl (Nat.le_of_ble_eq_true rfl) (fun _ => rfl) (fun _ => rfl) rfl ?_
  refine V0_aload_n (pc := 60) dX12_init_60 rfl ?_
  refine V0_bipush (pc := 61) (10) dX12_init_61 (by decide) ?_
  refine K_newi (pc := 63) (t := 0) (N := 10) (k := 7) (nn := n + 7) (lb := [kI 7, kI 10, kI 10, kI 10, kI 10, kI 10, kI 10, kI 10]) hn rfl dX12_init_63 rfl (fun _ => rfl) (fun _ q => by cases q) (by decide) ac_int (by decide) (by decide) (by decide) (Nat.le_of_ble_eq_true rfl) (Nat.le_of_ble_eq_true rfl) rfl rfl rfl ?_
  refine K_putF (pc := 65) (fs' := [.int 0, .int 0, .ref n, .int 0, .ref (n + 1), .ref (n + 2), .ref (n + 3), .ref (n + 4), .ref (n + 5), .ref (n + 6), .ref (n + 7), .null, .null, .int 0, .int 0, .null, .null, .null, .null, .null, .int 0, .int 0, .int 0, .int 0, .int 0, .null, .null, .null, .null, .null, .null, .null, .int 0, .null, .null, .null, .int 0, .int 0, .int 0, .int 0, .null, .null, .int 0, .int 0, .int 0, .int 0, .int 0, .null, .null, .null, .null, .int 0, .null, .int 0, .null, .null, .null, .null, .null]) hl dX12_init_65 flX12_31 rfl rfl (Nat.le_of_ble_eq_true rfl) (fun _ => rfl) (fun _ => rfl) rfl ?_
  refine V0_aload_n (pc := 68) dX12_init_68 rfl ?_
  refine V0_bipush (pc := 69) (10) dX12_init_69 (by decide) ?_
  refine K_newi (pc := 71) (t := 0) (N := 10) (k := 8) (nn := n + 8) (lb := [kI 7, kI 10, kI 10, kI 10, kI 10, kI 10, kI 10, kI 10, kI 10]) hn rfl dX12_init_71 rfl (fun _ => rfl) (fun _ q => by cases q) (by decide) ac_int (by decide) (by decide) (by decide) (Nat.le_of_ble_eq_true rfl) (Nat.le_of_ble_eq_true rfl) rfl rfl rfl ?_
  refine K_putF (pc := 73) (fs' := [.int 0, .int 0, .ref n, .int 0, .ref (n + 1), .ref (n + 2), .ref (n + 3), .ref (n + 4), .ref (n + 5), .ref (n + 6), .ref (n + 7), .ref (n + 8), .null, .int 0, .int 0, .null, .null, .null, .null, .null, .int 0, .int 0, .int 0, .int 0, .int 0, .null, .null, .null, .null, .null, .null, .null, .int 0, .null, .null, .null, .int 0, .int 0, .int 0, .int 0, .null, .null, .int 0, .int 0, .int 0, .int 0, .int 0, .null, .null, .null, .null, .int 0, .null, .int 0, .null, .null, .null, .null, .null]) hl dX12_init_73 flX12_34 rfl rfl (Nat.le_of_ble_eq_true rfl) (fun _ => rfl) (fun _ => rfl) rfl ?_
  refine V0_aload_n (pc := 76) dX12_init_76 rfl ?_
  refine V0_iconst (pc := 77) (4) dX12_init_77 (by decide) ?_
  refine K_newi (pc := 78) (t := 0) (N := 4) (k := 9) (nn := n + 9) (lb := [kI 7, kI 10, kI 10, kI 10, kI 10, kI 10, kI 10, kI 10, kI 10, kI 4]) hn rfl dX12_init_78 rfl (fun _ => rfl) (fun _ q => by cases q) (by decide) ac_int (by decide) (by decide) (by decide) (Nat.le_of_ble_eq_true rfl) (Nat.le_of_ble_eq_true rfl) rfl rfl rfl ?_
  refine V0_dup (pc := 80) dX12_init_80 rfl ?_
  refine V0_iconst (pc := 81) (0) dX12_init_81 (by decide) ?_
  refine V0_iconst (pc := 82) (0) dX12_init_82 (by decide) ?_
  refine K_iast (pc := 83) (j := 0) (k := 9) (nn := n + 9) (lb := [kI 7, kI 10, kI 10, kI 10, kI 10, kI 10, kI 10, kI 10, kI 10, .inl (0, 4, .inl (upd (fun _ => 0) 0 (0)))]) hn dX12_init_83 rfl rfl (by decide) (by decide) (by decide) rfl ?_
  refine V0_dup (pc := 84) dX12_init_84 rfl ?_
  refine V0_iconst (pc := 85) (1) dX12_init_85 (by decide) ?_
  refine V0_bipush (pc := 86) (12) dX12_init_86 (by decide) ?_
  refine K_iast (pc := 88) (j := 1) (k := 9) (nn := n + 9) (lb := [kI 7, kI 10, kI 10, kI 10, kI 10, kI 10, kI 10, kI 10, kI 10, .inl (0, 4, .inl (upd (upd (fun _ => 0) 0 (0)) 1 (12)))]) hn dX12_init_88 rfl rfl (by decide) (by decide) (by decide) rfl ?_
  refine V0_dup (pc := 89) dX12_init_89 rfl ?_
  refine V0_iconst (pc := 90) (2) dX12_init_90 (by decide) ?_
  refine V0_iconst (pc := 91) (5) dX12_init_91 (by decide) ?_
  refine K_iast (pc := 92) (j := 2) (k := 9) (nn := n + 9) (lb := [kI 7, kI 10, kI 10, kI 10, kI 10, kI 10, kI 10, kI 10, kI 10, .inl (0, 4, .inl (upd (upd (upd (fun _ => 0) 0 (0)) 1 (12)) 2 (5)))]) hn dX12_init_92 rfl rfl (by decide) (by decide) (by decide) rfl ?_
  refine V0_dup (pc := 93) dX12_init_93 rfl ?_
  refine V0_iconst (pc := 94) (3) dX12_init_94 (by decide) ?_
  refine V0_iconst (pc := 95) (0) dX12_init_95 (by decide) ?_
  refine K_iast (pc := 96) (j := 3) (k := 9) (nn := n + 9) (lb := [kI 7, kI 10, kI 10, kI 10, kI 10, kI 10, kI 10, kI 10, kI 10, .inl (0, 4, .inl (upd (upd (upd (upd (fun _ => 0) 0 (0)) 1 (12)) 2 (5)) 3 (0)))]) hn dX12_init_96 rfl rfl (by decide) (by decide) (by decide) rfl ?_
  refine K_putF (pc := 97) (fs' := [.int 0, .int 0, .ref n, .int 0, .ref (n + 1), .ref (n + 2), .ref (n + 3), .ref (n + 4), .ref (n + 5), .ref (n + 6), .ref (n + 7), .ref (n + 8), .ref (n + 9), .int 0, .int 0, .null, .null, .null, .null, .null, .int 0, .int 0, .int 0, .int 0, .int 0, .null, .null, .null, .null, .null, .null, .null, .int 0, .null, .null, .null, .int 0, .int 0, .int 0, .int 0, .null, .null, .int 0, .int 0, .int 0, .int 0, .int 0, .null, .null, .null, .null, .int 0, .null, .int 0, .null, .null, .null, .null, .null]) hl dX12_init_97 flX12_37 rfl rfl (Nat.le_of_ble_eq_true rfl) (fun _ => rfl) (fun _ => rfl) rfl ?_
  refine V0_aload_n (pc := 100) dX12_init_100 rfl ?_
  refine V0_bipush (pc := 101) (40) dX12_init_101 (by decide) ?_
  refine K_newi (pc := 103) (t := 0) (N := 40) (k := 10) (nn := n + 10) (lb := [kI 7, kI 10, kI 10, kI 10, kI 10, kI 10, kI 10, kI 10, kI 10, .inl (0, 4, .inl (upd (upd (upd (upd (fun _ => 0) 0 (0)) 1 (12)) 2 (5)) 3 (0))), kI 40]) hn rfl dX12_init_103 rfl (fun _ => rfl) (fun _ q => by cases q) (by decide) ac_int (by decide) (by decide) (by decide) (Nat.le_of_ble_eq_true rfl) (Nat.le_of_ble_eq_true rfl) rfl rfl rfl ?_
  refine K_putF (pc := 105) (fs' := [.int 0, .int 0, .ref n, .int 0, .ref (n + 1), .ref (n + 2), .ref (n + 3), .ref (n + 4), .ref (n + 5), .ref (n + 6), .ref (n + 7), .ref (n + 8), .ref (n + 9), .int 0, .int 0, .ref (n + 10), .null, .null, .null, .null, .int 0, .int 0, .int 0, .int 0, .int 0, .null, .null, .null, .null, .null, .null, .null, .int 0, .null, .null, .null, .int 0, .int 0, .int 0, .int 0, .null, .null, .int 0, .int 0, .int 0, .int 0, .int 0, .null, .null, .null, .null, .int 0, .null, .int 0, .null, .null, .null, .null, .null]) hl dX12_init_105 flX12_40 rfl rfl (Nat.le_of_ble_eq_true rfl) (fun _ => rfl) (fun _ => rfl) rfl ?_
  refine V0_aload_n (pc := 108) dX12_init_108 rfl ?_
  refine V0_bipush (pc := 109) (40) dX12_init_109 (by decide) ?_
  refine K_newi (pc := 111) (t := 0) (N := 40) (k := 11) (nn := n + 11) (lb := [kI 7, kI 10, kI 10, kI 10, kI 10, kI 10, kI 10, kI 10, kI 10, .inl (0, 4, .inl (upd (upd (upd (upd (fun _ => 0) 0 (0)) 1 (12)) 2 (5)) 3 (0))), kI 40, kI 40]) hn rfl dX12_init_111 rfl (fun _ => rfl) (fun _ q => by cases q) (by decide) ac_int (by decide) (by decide) (by decide) (Nat.le_of_ble_eq_true rfl) (Nat.le_of_ble_eq_true rfl) rfl rfl rfl ?_
  refine K_putF (pc := 113) (fs' := [.int 0, .int 0, .ref n, .int 0, .ref (n + 1), .ref (n + 2), .ref (n + 3), .ref (n + 4), .ref (n + 5), .ref (n + 6), .ref (n + 7), .ref (n + 8), .ref (n + 9), .int 0, .int 0, .ref (n + 10), .ref (n + 11), .null, .null, .null, .int 0, .int 0, .int 0, .int 0, .int 0, .null, .null, .null, .null, .null, .null, .null, .int 0, .null, .null, .null, .int 0, .int 0, .int 0, .int 0, .null, .null, .int 0, .int 0, .int 0, .int 0, .int 0, .null, .null, .null, .null, .int 0, .null, .int 0, .null, .null, .null, .null, .null]) hl dX12_init_113 flX12_43 rfl rfl (Nat.le_of_ble_eq_true rfl) (fun _ => rfl) (fun _ => rfl) rfl ?_
  refine V0_aload_n (pc := 116) dX12_init_116 rfl ?_
  refine V0_bipush (pc := 117) (40) dX12_init_117 (by decide) ?_
  refine K_newi (pc := 119) (t := 0) (N := 40) (k := 12) (nn := n + 12) (lb := [kI 7, kI 10, kI 10, kI 10, kI 10, kI 10, kI 10, kI 10, kI 10, .inl (0, 4, .inl (upd (upd (upd (upd (fun _ => 0) 0 (0)) 1 (12)) 2 (5)) 3 (0))), kI 40, kI 40, kI 40]) hn rfl dX12_init_119 rfl (fun _ => rfl) (fun _ q => by cases q) (by decide) ac_int (by decide) (by decide) (by decide) (Nat.le_of_ble_eq_true rfl) (Nat.le_of_ble_eq_true rfl) rfl rfl rfl ?_
  refine K_putF (pc := 121) (fs' := [.int 0, .int 0, .ref n, .int 0, .ref (n + 1), .ref (n + 2), .ref (n + 3), .ref (n + 4), .ref (n + 5), .ref (n + 6), .ref (n + 7), .ref (n + 8), .ref (n + 9), .int 0, .int 0, .ref (n + 10), .ref (n + 11), .ref (n + 12), .null, .null, .int 0, .int 0, .int 0, .int 0, .int 0, .null, .null, .null, .null, .null, .null, .null, .int 0, .null, .null, .null, .int 0, .int 0, .int 0, .int 0, .null, .null, .int 0, .int 0, .int 0, .int 0, .int 0, .null, .null, .null, .null, .int 0, .null, .int 0, .null, .null, .null, .null, .null]) hl dX12_init_121 flX12_46 rfl rfl (Nat.le_of_ble_eq_true rfl) (fun _ => rfl) (fun _ => rfl) rfl ?_
  refine V0_aload_n (pc := 124) dX12_init_124 rfl ?_
  refine V0_bipush (pc := 125) (40) dX12_init_125 (by decide) ?_
  refine K_newi (pc := 127) (t := 0) (N := 40) (k := 13) (nn := n + 13) (lb := [kI 7, kI 10, kI 10, kI 10, kI 10, kI 10, kI 10, kI 10, kI 10, .inl (0, 4, .inl (upd (upd (upd (upd (fun _ => 0) 0 (0)) 1 (12)) 2 (5)) 3 (0))), kI 40, kI 40, kI 40, kI 40]) hn rfl dX12_init_127 rfl (fun _ => rfl) (fun _ q => by cases q) (by decide) ac_int (by decide) (by decide) (by decide) (Nat.le_of_ble_eq_true rfl) (Nat.le_of_ble_eq_true rfl) rfl rfl rfl ?_
  refine K_putF (pc := 129) (fs' := [.int 0, .int 0, .ref n, .int 0, .ref (n + 1), .ref (n + 2), .ref (n + 3), .ref (n + 4), .ref (n + 5), .ref (n + 6), .ref (n + 7), .ref (n + 8), .ref (n + 9), .int 0, .int 0, .ref (n + 10), .ref (n + 11), .ref (n + 12), .ref (n + 13), .null, .int 0, .int 0, .int 0, .int 0, .int 0, .null, .null, .null, .null, .null, .null, .null, .int 0, .null, .null, .null, .int 0, .int 0, .int 0, .int 0, .null, .null, .int 0, .int 0, .int 0, .int 0, .int 0, .null, .null, .null, .null, .int 0, .null, .int 0, .null, .null, .null, .null, .null]) hl dX12_init_129 flX12_49 rfl rfl (Nat.le_of_ble_eq_true rfl) (fun _ => rfl) (fun _ => rfl) rfl ?_
  refine V0_aload_n (pc := 132) dX12_init_132 rfl ?_
  refine V0_bipush (pc := 133) (120) dX12_init_133 (by decide) ?_
  refine K_newi (pc := 135) (t := 1) (N := 120) (k := 14) (nn := n + 14) (lb := [kI 7, kI 10, kI 10, kI 10, kI 10, kI 10, kI 10, kI 10, kI 10, .inl (0, 4, .inl (upd (upd (upd (upd (fun _ => 0) 0 (0)) 1 (12)) 2 (5)) 3 (0))), kI 40, kI 40, kI 40, kI 40, kB 120]) hn rfl dX12_init_135 rfl (fun _ => rfl) (fun _ q => by cases q) (by decide) ac_byte (by decide) (by decide) (by decide) (Nat.le_of_ble_eq_true rfl) (Nat.le_of_ble_eq_true rfl) rfl rfl rfl ?_
  refine K_putF (pc := 137) (fs' := [.int 0, .int 0, .ref n, .int 0, .ref (n + 1), .ref (n + 2), .ref (n + 3), .ref (n + 4), .ref (n + 5), .ref (n + 6), .ref (n + 7), .ref (n + 8), .ref (n + 9), .int 0, .int 0, .ref (n + 10), .ref (n + 11), .ref (n + 12), .ref (n + 13), .ref (n + 14), .int 0, .int 0, .int 0, .int 0, .int 0, .null, .null, .null, .null, .null, .null, .null, .int 0, .null, .null, .null, .int 0, .int 0, .int 0, .int 0, .null, .null, .int 0, .int 0, .int 0, .int 0, .int 0, .null, .null, .null, .null, .int 0, .null, .int 0, .null, .null, .null, .null, .null]) hl dX12_init_137 flX12_52 rfl rfl (Nat.le_of_ble_eq_true rfl) (fun _ => rfl) (fun _ => rfl) rfl ?_
  refine V0_aload_n (pc := 140) dX12_init_140 rfl ?_
  refine V0_sipush (pc := 141) (260) dX12_init_141 (by decide) ?_
  refine K_newi (pc := 144) (t := 1) (N := 260) (k := 15) (nn := n + 15) (lb := [kI 7, kI 10, kI 10, kI 10, kI 10, kI 10, kI 10, kI 10, kI 10, .inl (0, 4, .inl (upd (upd (upd (upd (fun _ => 0) 0 (0)) 1 (12)) 2 (5)) 3 (0))), kI 40, kI 40, kI 40, kI 40, kB 120, kB 260]) hn rfl dX12_init_144 rfl (fun _ => rfl) (fun _ q => by cases q) (by decide) ac_byte (by decide) (by decide) (by decide) (Nat.le_of_ble_eq_true rfl) (Nat.le_of_ble_eq_true rfl) rfl rfl rfl ?_
  refine K_putF (pc := 146) (fs' := [.int 0, .int 0, .ref n, .int 0, .ref (n + 1), .ref (n + 2), .ref (n + 3), .ref (n + 4), .ref (n + 5), .ref (n + 6), .ref (n + 7), .ref (n + 8), .ref (n + 9), .int 0, .int 0, .ref (n + 10), .ref (n + 11), .ref (n + 12), .ref (n + 13), .ref (n + 14), .int 0, .int 0, .int 0, .int 0, .int 0, .ref (n + 15), .null, .null, .null, .null, .null, .null, .int 0, .null, .null, .null, .int 0, .int 0, .int 0, .int 0, .null, .null, .int 0, .int 0, .int 0, .int 0, .int 0, .null, .null, .null, .null, .int 0, .null, .int 0, .null, .null, .null, .null, .null]) hl dX12_init_146 flX12_56 rfl rfl (Nat.le_of_ble_eq_true rfl) (fun _ => rfl) (fun _ => rfl) rfl ?_
  refine V0_aload_n (pc := 149) dX12_init_149 rfl ?_
  refine V0_sipush (pc := 150) (260) dX12_init_150 (by decide) ?_
  refine K_newi (pc := 153) (t := 0) (N := 260) (k := 16) (nn := n + 16) (lb := [kI 7, kI 10, kI 10, kI 10, kI 10, kI 10, kI 10, kI 10, kI 10, .inl (0, 4, .inl (upd (upd (upd (upd (fun _ => 0) 0 (0)) 1 (12)) 2 (5)) 3 (0))), kI 40, kI 40, kI 40, kI 40, kB 120, kB 260, kI 260]) hn rfl dX12_init_153 rfl (fun _ => rfl) (fun _ q => by cases q) (by decide) ac_int (by decide) (by decide) (by decide) (Nat.le_of_ble_eq_true rfl) (Nat.le_of_ble_eq_true rfl) rfl rfl rfl ?_
  refine K_putF (pc := 155) (fs' := [.int 0, .int 0, .ref n, .int 0, .ref (n + 1), .ref (n + 2), .ref (n + 3), .ref (n + 4), .ref (n + 5), .ref (n + 6), .ref (n + 7), .ref (n + 8), .ref (n + 9), .int 0, .int 0, .ref (n + 10), .ref (n + 11), .ref (n + 12), .ref (n + 13), .ref (n + 14), .int 0, .int 0, .int 0, .int 0, .int 0, .ref (n + 15), .ref (n + 16), .null, .null, .null, .null, .null, .int 0, .null, .null, .null, .int 0, .int 0, .int 0, .int 0, .null, .null, .int 0, .int 0, .int 0, .int 0, .int 0, .null, .null, .null, .null, .int 0, .null, .int 0, .null, .null, .null, .null, .null]) hl dX12_init_155 flX12_59 rfl rfl (Nat.le_of_ble_eq_true rfl) (fun _ => rfl) (fun _ => rfl) rfl ?_
  refine V0_aload_n (pc := 158) dX12_init_158 rfl ?_
  refine V0_iconst (pc := 159) (2) dX12_init_159 (by decide) ?_
  refine K_newi (pc := 160) (t := 0) (N := 2) (k := 17) (nn := n + 17) (lb := [kI 7, kI 10, kI 10, kI 10, kI 10, kI 10, kI 10, kI 10, kI 10, .inl (0, 4, .inl (upd (upd (upd (upd (fun _ => 0) 0 (0)) 1 (12)) 2 (5)) 3 (0))), kI 40, kI 40, kI 40, kI 40, kB 120, kB 260, kI 260, kI 2]) hn rfl dX12_init_160 rfl (fun _ => rfl) (fun _ q => by cases q) (by decide) ac_int (by decide) (by decide) (by decide) (Nat.le_of_ble_eq_true rfl) (Nat.le_of_ble_eq_true rfl) rfl rfl rfl ?_
  refine K_putF (pc := 162) (fs' := [.int 0, .int 0, .ref n, .int 0, .ref (n + 1), .ref (n + 2), .ref (n + 3), .ref (n + 4), .ref (n + 5), .ref (n + 6), .ref (n + 7), .ref (n + 8), .ref (n + 9), .int 0, .int 0, .ref (n + 10), .ref (n + 11), .ref (n + 12), .ref (n + 13), .ref (n + 14), .int 0, .int 0, .int 0, .int 0, .int 0, .ref (n + 15), .ref (n + 16), .ref (n + 17), .null, .null, .null, .null, .int 0, .null, .null, .null, .int 0, .int 0, .int 0, .int 0, .null, .null, .int 0, .int 0, .int 0, .int 0, .int 0, .null, .null, .null, .null, .int 0, .null, .int 0, .null, .null, .null, .null, .null]) hl dX12_init_162 flX12_62 rfl rfl (Nat.le_of_ble_eq_true rfl) (fun _ => rfl) (fun _ => rfl) rfl ?_
  refine V0_aload_n (pc := 165) dX12_init_165 rfl ?_
  refine V0_bipush (pc := 166) (122) dX12_init_166 (by decide) ?_
  refine K_newi (pc := 168) (t := 3) (N := 122) (k := 18) (nn := n + 18) (lb := [kI 7, kI 10, kI 10, kI 10, kI 10, kI 10, kI 10, kI 10, kI 10, .inl (0, 4, .inl (upd (upd (upd (upd (fun _ => 0) 0 (0)) 1 (12)) 2 (5)) 3 (0))), kI 40, kI 40, kI 40, kI 40, kB 120, kB 260, kI 260, kI 2, kS 122]) hn rfl dX12_init_168 rfl (fun _ => rfl) (fun _ q => by cases q) (by decide) ac_short (by decide) (by decide) (by decide) (Nat.le_of_ble_eq_true rfl) (Nat.le_of_ble_eq_true rfl) rfl rfl rfl ?_
  refine K_putF (pc := 170) (fs' := [.int 0, .int 0, .ref n, .int 0, .ref (n + 1), .ref (n + 2), .ref (n + 3), .ref (n + 4), .ref (n + 5), .ref (n + 6), .ref (n + 7), .ref (n + 8), .ref (n + 9), .int 0, .int 0, .ref (n + 10), .ref (n + 11), .ref (n + 12), .ref (n + 13), .ref (n + 14), .int 0, .int 0, .int 0, .int 0, .int 0, .ref (n + 15), .ref (n + 16), .ref (n + 17), .ref (n + 18), .null, .null, .null, .int 0, .null, .null, .null, .int 0, .int 0, .int 0, .int 0, .null, .null, .int 0, .int 0, .int 0, .int 0, .int 0, .null, .null, .null, .null, .int 0, .null, .int 0, .null, .null, .null, .null, .null]) hl dX12_init_170 flX12_65 rfl rfl (Nat.le_of_ble_eq_true rfl) (fun _ => rfl) (fun _ => rfl) rfl ?_
  refine V0_aload_n (pc := 173) dX12_init_173 rfl ?_
  refine V0_bipush (pc := 174) (122) dX12_init_174 (by decide) ?_
  refine K_newi (pc := 176) (t := 3) (N := 122) (k := 19) (nn := n + 19) (lb := [kI 7, kI 10, kI 10, kI 10, kI 10, kI 10, kI 10, kI 10, kI 10, .inl (0, 4, .inl (upd (upd (upd (upd (fun _ => 0) 0 (0)) 1 (12)) 2 (5)) 3 (0))), kI 40, kI 40, kI 40, kI 40, kB 120, kB 260, kI 260, kI 2, kS 122, kS 122]) hn rfl dX12_init_176 rfl (fun _ => rfl) (fun _ q => by cases q) (by decide) ac_short (by decide) (by decide) (by decide) (Nat.le_of_ble_eq_true rfl) (Nat.le_of_ble_eq_true rfl) rfl rfl rfl ?_
  refine K_putF (pc := 178) (fs' := [.int 0, .int 0, .ref n, .int 0, .ref (n + 1), .ref (n + 2), .ref (n + 3), .ref (n + 4), .ref (n + 5), .ref (n + 6), .ref (n + 7), .ref (n + 8), .ref (n + 9), .int 0, .int 0, .ref (n + 10), .ref (n + 11), .ref (n + 12), .ref (n + 13), .ref (n + 14), .int 0, .int 0, .int 0, .int 0, .int 0, .ref (n + 15), .ref (n + 16), .ref (n + 17), .ref (n + 18), .ref (n + 19), .null, .null, .int 0, .null, .null, .null, .int 0, .int 0, .int 0, .int 0, .null, .null, .int 0, .int 0, .int 0, .int 0, .int 0, .null, .null, .null, .null, .int 0, .null, .int 0, .null, .null, .null, .null, .null]) hl dX12_init_178 flX12_69 rfl rfl (Nat.le_of_ble_eq_true rfl) (fun _ => rfl) (fun _ => rfl) rfl ?_
  refine V0_aload_n (pc := 181) dX12_init_181 rfl ?_
  refine V0_bipush (pc := 182) (6) dX12_init_182 (by decide) ?_
  refine K_newi (pc := 184) (t := 0) (N := 6) (k := 20) (nn := n + 20) (lb := [kI 7, kI 10, kI 10, kI 10, kI 10, kI 10, kI 10, kI 10, kI 10, .inl (0, 4, .inl (upd (upd (upd (upd (fun _ => 0) 0 (0)) 1 (12)) 2 (5)) 3 (0))), kI 40, kI 40, kI 40, kI 40, kB 120, kB 260, kI 260, kI 2, kS 122, kS 122, kI 6]) hn rfl dX12_init_184 rfl (fun _ => rfl) (fun _ q => by cases q) (by decide) ac_int (by decide) (by decide) (by decide) (Nat.le_of_ble_eq_true rfl) (Nat.le_of_ble_eq_true rfl) rfl rfl rfl ?_
  refine K_putF (pc := 186) (fs' := [.int 0, .int 0, .ref n, .int 0, .ref (n + 1), .ref (n + 2), .ref (n + 3), .ref (n + 4), .ref (n + 5), .ref (n + 6), .ref (n + 7), .ref (n + 8), .ref (n + 9), .int 0, .int 0, .ref (n + 10), .ref (n + 11), .ref (n + 12), .ref (n + 13), .ref (n + 14), .int 0, .int 0, .int 0, .int 0, .int 0, .ref (n + 15), .ref (n + 16), .ref (n + 17), .ref (n + 18), .ref (n + 19), .ref (n + 20), .null, .int 0, .null, .null, .null, .int 0, .int 0, .int 0, .int 0, .null, .null, .int 0, .int 0, .int 0, .int 0, .int 0, .null, .null, .null, .null, .int 0, .null, .int 0, .null, .null, .null, .null, .null]) hl dX12_init_186 flX12_72 rfl rfl (Nat.le_of_ble_eq_true rfl) (fun _ => rfl) (fun _ => rfl) rfl ?_
  refine V0_aload_n (pc := 189) dX12_init_189 rfl ?_
  refine V0_sipush (pc := 190) (130) dX12_init_190 (by decide) ?_
  refine K_newi (pc := 193) (t := 0) (N := 130) (k := 21) (nn := n + 21) (lb := [kI 7, kI 10, kI 10, kI 10, kI 10, kI 10, kI 10, kI 10, kI 10, .inl (0, 4, .inl (upd (upd (upd (upd (fun _ => 0) 0 (0)) 1 (12)) 2 (5)) 3 (0))), kI 40, kI 40, kI 40, kI 40, kB 120, kB 260, kI 260, kI 2, kS 122, kS 122, kI 6, kI 130]) hn rfl dX12_init_193 rfl (fun _ => rfl) (fun _ q => by cases q) (by decide) ac_int (by decide) (by decide) (by decide) (Nat.le_of_ble_eq_true rfl) (Nat.le_of_ble_eq_true rfl) rfl rfl rfl ?_
  refine K_putF (pc := 195) (fs' := [.int 0, .int 0, .ref n, .int 0, .ref (n + 1), .ref (n + 2), .ref (n + 3), .ref (n + 4), .ref (n + 5), .ref (n + 6), .ref (n + 7), .ref (n + 8), .ref (n + 9), .int 0, .int 0, .ref (n + 10), .ref (n + 11), .ref (n + 12), .ref (n + 13), .ref (n + 14), .int 0, .int 0, .int 0, .int 0, .int 0, .ref (n + 15), .ref (n + 16), .ref (n + 17), .ref (n + 18), .ref (n + 19), .ref (n + 20), .ref (n + 21), .int 0, .null, .null, .null, .int 0, .int 0, .int 0, .int 0, .null, .null, .int 0, .int 0, .int 0, .int 0, .int 0, .null, .null, .null, .null, .int 0, .null, .int 0, .null, .null, .null, .null, .null]) hl dX12_init_195 flX12_75 rfl rfl (Nat.le_of_ble_eq_true rfl) (fun _ => rfl) (fun _ => rfl) rfl ?_
  refine V0_aload_n (pc := 198) dX12_init_198 rfl ?_
  refine V0_bipush (pc := 199) (7) dX12_init_199 (by decide) ?_
  refine K_newi (pc := 201) (t := 0) (N := 7) (k := 22) (nn := n + 22) (lb := [kI 7, kI 10, kI 10, kI 10, kI 10, kI 10, kI 10, kI 10, kI 10, .inl (0, 4, .inl (upd (upd (upd (upd (fun _ => 0) 0 (0)) 1 (12)) 2 (5)) 3 (0))), kI 40, kI 40, kI 40, kI 40, kB 120, kB 260, kI 260, kI 2, kS 122, kS 122, kI 6, kI 130, kI 7]) hn rfl dX12_init_201 rfl (fun _ => rfl) (fun _ q => by cases q) (by decide) ac_int (by decide) (by decide) (by decide) (Nat.le_of_ble_eq_true rfl) (Nat.le_of_ble_eq_true rfl) rfl rfl rfl ?_
  refine K_putF (pc := 203) (fs' := [.int 0, .int 0, .ref n, .int 0, .ref (n + 1), .ref (n + 2), .ref (n + 3), .ref (n + 4), .ref (n + 5), .ref (n + 6), .ref (n + 7), .ref (n + 8), .ref (n + 9), .int 0, .int 0, .ref (n + 10), .ref (n + 11), .ref (n + 12), .ref (n + 13), .ref (n + 14), .int 0, .int 0, .int 0, .int 0, .int 0, .ref (n + 15), .ref (n + 16), .ref (n + 17), .ref (n + 18), .ref (n + 19), .ref (n + 20), .ref (n + 21), .int 0, .ref (n + 22), .null, .null, .int 0, .int 0, .int 0, .int 0, .null, .null, .int 0, .int 0, .int 0, .int 0, .int 0, .null, .null, .null, .null, .int 0, .null, .int 0, .null, .null, .null, .null, .null]) hl dX12_init_203 flX12_78 rfl rfl (Nat.le_of_ble_eq_true rfl) (fun _ => rfl) (fun _ => rfl) rfl ?_
  refine V0_aload_n (pc := 206) dX12_init_206 rfl ?_
  refine V0_bipush (pc := 207) (10) dX12_init_207 (by decide) ?_
  refine K_newi (pc := 209) (t := 0) (N := 10) (k := 23) (nn := n + 23) (lb := [kI 7, kI 10, kI 10, kI 10, kI 10, kI 10, kI 10, kI 10, kI 10, .inl (0, 4, .inl (upd (upd (upd (upd (fun _ => 0) 0 (0)) 1 (12)) 2 (5)) 3 (0))), kI 40, kI 40, kI 40, kI 40, kB 120, kB 260, kI 260, kI 2, kS 122, kS 122, kI 6, kI 130, kI 7, kI 10]) hn rfl dX12_init_209 rfl (fun _ => rfl) (fun _ q => by cases q) (by decide) ac_int (by decide) (by decide) (by decide) (Nat.le_of_ble_eq_true rfl) (Nat.le_of_ble_eq_true rfl) rfl rfl rfl ?_
  refine K_putF (pc := 211) (fs' := [.int 0, .int 0, .ref n, .int 0, .ref (n + 1), .ref (n + 2), .ref (n + 3), .ref (n + 4), .ref (n + 5), .ref (n + 6), .ref (n + 7), .ref (n + 8), .ref (n + 9), .int 0, .int 0, .ref (n + 10), .ref (n + 11), .ref (n + 12), .ref (n + 13), .ref (n + 14), .int 0, .int 0, .int 0, .int 0, .int 0, .ref (n + 15), .ref (n + 16), .ref (n + 17), .ref (n + 18), .ref (n + 19), .ref (n + 20), .ref (n + 21), .int 0, .ref (n + 22), .ref (n + 23), .null, .int 0, .int 0, .int 0, .int 0, .null, .null, .int 0, .int 0, .int 0, .int 0, .int 0, .null, .null, .null, .null, .int 0, .null, .int 0, .null, .null, .null, .null, .null]) hl dX12_init_211 flX12_81 rfl rfl (Nat.le_of_ble_eq_true rfl) (fun _ => rfl) (fun _ => rfl) rfl ?_
  refine V0_aload_n (pc := 214) dX12_init_214 rfl ?_
  refine V0_bipush (pc := 215) (10) dX12_init_215 (by decide) ?_
  refine K_newi (pc := 217) (t := 0) (N := 10) (k := 24) (nn := n + 24) (lb := [kI 7, kI 10, kI 10, kI 10, kI 10, kI 10, kI 10, kI 10, kI 10, .inl (0, 4, .inl (upd (upd (upd (upd (fun _ => 0) 0 (0)) 1 (12)) 2 (5)) 3 (0))), kI 40, kI 40, kI 40, kI 40, kB 120, kB 260, kI 260, kI 2, kS 122, kS 122, kI 6, kI 130, kI 7, kI 10, kI 10]) hn rfl dX12_init_217 rfl (fun _ => rfl) (fun _ q => by cases q) (by decide) ac_int (by decide) (by decide) (by decide) (Nat.le_of_ble_eq_true rfl) (Nat.le_of_ble_eq_true rfl) rfl rfl rfl ?_
  refine K_putF (pc := 219) (fs' := [.int 0, .int 0, .ref n, .int 0, .ref (n + 1), .ref (n + 2), .ref (n + 3), .ref (n + 4), .ref (n + 5), .ref (n + 6), .ref (n + 7), .ref (n + 8), .ref (n + 9), .int 0, .int 0, .ref (n + 10), .ref (n + 11), .ref (n + 12), .ref (n + 13), .ref (n + 14), .int 0, .int 0, .int 0, .int 0, .int 0, .ref (n + 15), .ref (n + 16), .ref (n + 17), .ref (n + 18), .ref (n + 19), .ref (n + 20), .ref (n + 21), .int 0, .ref (n + 22), .ref (n + 23), .ref (n + 24), .int 0, .int 0, .int 0, .int 0, .null, .null, .int 0, .int 0, .int 0, .int 0, .int 0, .null, .null, .null, .null, .int 0, .null, .int 0, .null, .null, .null, .null, .null]) hl dX12_init_219 flX12_84 rfl rfl (Nat.le_of_ble_eq_true rfl) (fun _ => rfl) (fun _ => rfl) rfl ?_
  refine V0_aload_n (pc := 222) dX12_init_222 rfl ?_
  refine V0_bipush (pc := 223) (10) dX12_init_223 (by decide) ?_
  refine K_newi (pc := 225) (t := 0) (N := 10) (k := 25) (nn := n + 25) (lb := [kI 7, kI 10, kI 10, kI 10, kI 10, kI 10, kI 10, kI 10, kI 10, .inl (0, 4, .inl (upd (upd (upd (upd (fun _ => 0) 0 (0)) 1 (12)) 2 (5)) 3 (0))), kI 40, kI 40, kI 40, kI 40, kB 120, kB 260, kI 260, kI 2, kS 122, kS 122, kI 6, kI 130, kI 7, kI 10, kI 10, kI 10]) hn rfl dX12_init_225 rfl (fun _ => rfl) (fun _ q => by cases q) (by decide) ac_int (by decide) (by decide) (by decide) (Nat.le_of_ble_eq_true rfl) (Nat.le_of_ble_eq_true rfl) rfl rfl rfl ?_
  refine K_putF (pc := 227) (fs' := [.int 0, .int 0, .ref n, .int 0, .ref (n + 1), .ref (n + 2), .ref (n + 3), .ref (n + 4), .ref (n + 5), .ref (n + 6), .ref (n + 7), .ref (n + 8), .ref (n + 9), .int 0, .int 0, .ref (n + 10), .ref (n + 11), .ref (n + 12), .ref (n + 13), .ref (n + 14), .int 0, .int 0, .int 0, .int 0, .int 0, .ref (n + 15), .ref (n + 16), .ref (n + 17), .ref (n + 18), .ref (n + 19), .ref (n + 20), .ref (n + 21), .int 0, .ref (n + 22), .ref (n + 23), .ref (n + 24), .int 0, .int 0, .int 0, .int 0, .ref (n + 25), .null, .int 0, .int 0, .int 0, .int 0, .int 0, .null, .null, .null, .null, .int 0, .null, .int 0, .null, .null, .null, .null, .null]) hl dX12_init_227 flX12_87 rfl rfl (Nat.le_of_ble_eq_true rfl) (fun _ => rfl) (fun _ => rfl) rfl ?_
  refine V0_aload_n (pc := 230) dX12_init_230 rfl ?_
  refine V0_bipush (pc := 231) (6) dX12_init_231 (by decide) ?_
  refine K_newi (pc := 233) (t := 0) (N := 6) (k := 26) (nn := n + 26) (lb := [kI 7, kI 10, kI 10, kI 10, kI 10, kI 10, kI 10, kI 10, kI 10, .inl (0, 4, .inl (upd (upd (upd (upd (fun _ => 0) 0 (0)) 1 (12)) 2 (5)) 3 (0))), kI 40, kI 40, kI 40, kI 40, kB 120, kB 260, kI 260, kI 2, kS 122, kS 122, kI 6, kI 130, kI 7, kI 10, kI 10, kI 10, kI 6]) hn rfl dX12_init_233 rfl (fun _ => rfl) (fun _ q => by cases q) (by decide) ac_int (by decide) (by decide) (by decide) (Nat.le_of_ble_eq_true rfl) (Nat.le_of_ble_eq_true rfl) rfl rfl rfl ?_
  refine K_putF (pc := 235) (fs' := [.int 0, .int 0, .ref n, .int 0, .ref (n + 1), .ref (n + 2), .ref (n + 3), .ref (n + 4), .ref (n + 5), .ref (n + 6), .ref (n + 7), .ref (n + 8), .ref (n + 9), .int 0, .int 0, .ref (n + 10), .ref (n + 11), .ref (n + 12), .ref (n + 13), .ref (n + 14), .int 0, .int 0, .int 0, .int 0, .int 0, .ref (n + 15), .ref (n + 16), .ref (n + 17), .ref (n + 18), .ref (n + 19), .ref (n + 20), .ref (n + 21), .int 0, .ref (n + 22), .ref (n + 23), .ref (n + 24), .int 0, .int 0, .int 0, .int 0, .ref (n + 25), .ref (n + 26), .int 0, .int 0, .int 0, .int 0, .int 0, .null, .null, .null, .null, .int 0, .null, .int 0, .null, .null, .null, .null, .null]) hl dX12_init_235 flX12_90 rfl rfl (Nat.le_of_ble_eq_true rfl) (fun _ => rfl) (fun _ => rfl) rfl ?_
  refine V0_aload_n (pc := 238) dX12_init_238 rfl ?_
  refine V0_bipush (pc := 239) (7) dX12_init_239 (by decide) ?_
  refine K_newi (pc := 241) (t := 0) (N := 7) (k := 27) (nn := n + 27) (lb := [kI 7, kI 10, kI 10, kI 10, kI 10, kI 10, kI 10, kI 10, kI 10, .inl (0, 4, .inl (upd (upd (upd (upd (fun _ => 0) 0 (0)) 1 (12)) 2 (5)) 3 (0))), kI 40, kI 40, kI 40, kI 40, kB 120, kB 260, kI 260, kI 2, kS 122, kS 122, kI 6, kI 130, kI 7, kI 10, kI 10, kI 10, kI 6, kI 7]) hn rfl dX12_init_241 rfl (fun _ => rfl) (fun _ q => by cases q) (by decide) ac_int (by decide) (by decide) (by decide) (Nat.le_of_ble_eq_true rfl) (Nat.le_of_ble_eq_true rfl) rfl rfl rfl ?_
  refine K_putF (pc := 243) (fs' := [.int 0, .int 0, .ref n, .int 0, .ref (n + 1), .ref (n + 2), .ref (n + 3), .ref (n + 4), .ref (n + 5), .ref (n + 6), .ref (n + 7), .ref (n + 8), .ref (n + 9), .int 0, .int 0, .ref (n + 10), .ref (n + 11), .ref (n + 12), .ref (n + 13), .ref (n + 14), .int 0, .int 0, .int 0, .int 0, .int 0, .ref (n + 15), .ref (n + 16), .ref (n + 17), .ref (n + 18), .ref (n + 19), .ref (n + 20), .ref (n + 21), .int 0, .ref (n + 22), .ref (n + 23), .ref (n + 24), .int 0, .int 0, .int 0, .int 0, .ref (n + 25), .ref (n + 26), .int 0, .int 0, .int 0, .int 0, .int 0, .ref (n + 27), .null, .null, .null, .int 0, .null, .int 0, .null, .null, .null, .null, .null]) hl dX12_init_243 flX12_93 rfl rfl (Nat.le_of_ble_eq_true rfl) (fun _ => rfl) (fun _ => rfl) rfl ?_
  refine V0_aload_n (pc := 246) dX12_init_246 rfl ?_
  refine V0_bipush (pc := 247) (10) dX12_init_247 (by decide) ?_
  refine K_newi (pc := 249) (t := 0) (N := 10) (k := 28) (nn := n + 28) (lb := [kI 7, kI 10, kI 10, kI 10, kI 10, kI 10, kI 10, kI 10, kI 10, .inl (0, 4, .inl (upd (upd (upd (upd (fun _ => 0) 0 (0)) 1 (12)) 2 (5)) 3 (0))), kI 40, kI 40, kI 40, kI 40, kB 120, kB 260, kI 260, kI 2, kS 122, kS 122, kI 6, kI 130, kI 7, kI 10, kI 10, kI 10, kI 6, kI 7, kI 10]) hn rfl dX12_init_249 rfl (fun _ => rfl) (fun _ q => by cases q) (by decide) ac_int (by decide) (by decide) (by decide) (Nat.le_of_ble_eq_true rfl) (Nat.le_of_ble_eq_true rfl) rfl rfl rfl ?_
  refine K_putF (pc := 251) (fs' := [.int 0, .int 0, .ref n, .int 0, .ref (n + 1), .ref (n + 2), .ref (n + 3), .ref (n + 4), .ref (n + 5), .ref (n + 6), .ref (n + 7), .ref (n + 8), .ref (n + 9), .int 0, .int 0, .ref (n + 10), .ref (n + 11), .ref (n + 12), .ref (n + 13), .ref (n + 14), .int 0, .int 0, .int 0, .int 0, .int 0, .ref (n + 15), .ref (n + 16), .ref (n + 17), .ref (n + 18), .ref (n + 19), .ref (n + 20), .ref (n + 21), .int 0, .ref (n + 22), .ref (n + 23), .ref (n + 24), .int 0, .int 0, .int 0, .int 0, .ref (n + 25), .ref (n + 26), .int 0, .int 0, .int 0, .int 0, .int 0, .ref (n + 27), .ref (n + 28), .null, .null, .int 0, .null, .int 0, .null, .null, .null, .null, .null]) hl dX12_init_251 flX12_96 rfl rfl (Nat.le_of_ble_eq_true rfl) (fun _ => rfl) (fun _ => rfl) rfl ?_
  refine V0_aload_n (pc := 254) dX12_init_254 rfl ?_
  refine V0_bipush (pc := 255) (10) dX12_init_255 (by decide) ?_
  refine K_newi (pc := 257) (t := 0) (N := 10) (k := 29) (nn := n + 29) (lb := [kI 7, kI 10, kI 10, kI 10, kI 10, kI 10, kI 10, kI 10, kI 10, .inl (0, 4, .inl (upd (upd (upd (upd (fun _ => 0) 0 (0)) 1 (12)) 2 (5)) 3 (0))), kI 40, kI 40, kI 40, kI 40, kB 120, kB 260, kI 260, kI 2, kS 122, kS 122, kI 6, kI 130, kI 7, kI 10, kI 10, kI 10, kI 6, kI 7, kI 10, kI 10]) hn rfl dX12_init_257 rfl (fun _ => rfl) (fun _ q => by cases q) (by decide) ac_int (by decide) (by decide) (by decide) (Nat.le_of_ble_eq_true rfl) (Nat.le_of_ble_eq_true rfl) rfl rfl rfl ?_
  refine K_putF (pc := 259) (fs' := [.int 0, .int 0, .ref n, .int 0, .ref (n + 1), .ref (n + 2), .ref (n + 3), .ref (n + 4), .ref (n + 5), .ref (n + 6), .ref (n + 7), .ref (n + 8), .ref (n + 9), .int 0, .int 0, .ref (n + 10), .ref (n + 11), .ref (n + 12), .ref (n + 13), .ref (n + 14), .int 0, .int 0, .int 0, .int 0, .int 0, .ref (n + 15), .ref (n + 16), .ref (n + 17), .ref (n + 18), .ref (n + 19), .ref (n + 20), .ref (n + 21), .int 0, .ref (n + 22), .ref (n + 23), .ref (n + 24), .int 0, .int 0, .int 0, .int 0, .ref (n + 25), .ref (n + 26), .int 0, .int 0, .int 0, .int 0, .int 0, .ref (n + 27), .ref (n + 28), .ref (n + 29), .null, .int 0, .null, .int 0, .null, .null, .null, .null, .null]) hl dX12_init_259 flX12_99 rfl rfl (Nat.le_of_ble_eq_true rfl) (fun _ => rfl) (fun _ => rfl) rfl ?_
  refine V0_aload_n (pc := 262) dX12_init_262 rfl ?_
  refine V0_bipush (pc := 263) (6) dX12_init_263 (by decide) ?_
  refine K_newi (pc := 265) (t := 0) (N := 6) (k := 30) (nn := n + 30) (lb := [kI 7, kI 10, kI 10, kI 10, kI 10, kI 10, kI 10, kI 10, kI 10, .inl (0, 4, .inl (upd (upd (upd (upd (fun _ => 0) 0 (0)) 1 (12)) 2 (5)) 3 (0))), kI 40, kI 40, kI 40, kI 40, kB 120, kB 260, kI 260, kI 2, kS 122, kS 122, kI 6, kI 130, kI 7, kI 10, kI 10, kI 10, kI 6, kI 7, kI 10, kI 10, kI 6]) hn rfl dX12_init_265 rfl (fun _ => rfl) (fun _ q => by cases q) (by decide) ac_int (by decide) (by decide) (by decide) (Nat.le_of_ble_eq_true rfl) (Nat.le_of_ble_eq_true rfl) rfl rfl rfl ?_
  refine K_putF (pc := 267) (fs' := [.int 0, .int 0, .ref n, .int 0, .ref (n + 1), .ref (n + 2), .ref (n + 3), .ref (n + 4), .ref (n + 5), .ref (n + 6), .ref (n + 7), .ref (n + 8), .ref (n + 9), .int 0, .int 0, .ref (n + 10), .ref (n + 11), .ref (n + 12), .ref (n + 13), .ref (n + 14), .int 0, .int 0, .int 0, .int 0, .int 0, .ref (n + 15), .ref (n + 16), .ref (n + 17), .ref (n + 18), .ref (n + 19), .ref (n + 20), .ref (n + 21), .int 0, .ref (n + 22), .ref (n + 23), .ref (n + 24), .int 0, .int 0, .int 0, .int 0, .ref (n + 25), .ref (n + 26), .int 0, .int 0, .int 0, .int 0, .int 0, .ref (n + 27), .ref (n + 28), .ref (n + 29), .ref (n + 30), .int 0, .null, .int 0, .null, .null, .null, .null, .null]) hl dX12_init_267 flX12_102 rfl rfl (Nat.le_of_ble_eq_true rfl) (fun _ => rfl) (fun _ => rfl) rfl ?_
  refine V0_aload_n (pc := 270) dX12_init_270 rfl ?_
  refine V0_bipush (pc := 271) (50) dX12_init_271 (by decide) ?_
  refine K_newi (pc := 273) (t := 0) (N := 50) (k := 31) (nn := n + 31) (lb := [kI 7, kI 10, kI 10, kI 10, kI 10, kI 10, kI 10, kI 10, kI 10, .inl (0, 4, .inl (upd (upd (upd (upd (fun _ => 0) 0 (0)) 1 (12)) 2 (5)) 3 (0))), kI 40, kI 40, kI 40, kI 40, kB 120, kB 260, kI 260, kI 2, kS 122, kS 122, kI 6, kI 130, kI 7, kI 10, kI 10, kI 10, kI 6, kI 7, kI 10, kI 10, kI 6, kI 50]) hn rfl dX12_init_273 rfl (fun _ => rfl) (fun _ q => by cases q) (by decide) ac_int (by decide) (by decide) (by decide) (Nat.le_of_ble_eq_true rfl) (Nat.le_of_ble_eq_true rfl) rfl rfl rfl ?_
  refine K_putF (pc := 275) (fs' := [.int 0, .int 0, .ref n, .int 0, .ref (n + 1), .ref (n + 2), .ref (n + 3), .ref (n + 4), .ref (n + 5), .ref (n + 6), .ref (n + 7), .ref (n + 8), .ref (n + 9), .int 0, .int 0, .ref (n + 10), .ref (n + 11), .ref (n + 12), .ref (n + 13), .ref (n + 14), .int 0, .int 0, .int 0, .int 0, .int 0, .ref (n + 15), .ref (n + 16), .ref (n + 17), .ref (n + 18), .ref (n + 19), .ref (n + 20), .ref (n + 21), .int 0, .ref (n + 22), .ref (n + 23), .ref (n + 24), .int 0, .int 0, .int 0, .int 0, .ref (n + 25), .ref (n + 26), .int 0, .int 0, .int 0, .int 0, .int 0, .ref (n + 27), .ref (n + 28), .ref (n + 29), .ref (n + 30), .int 0, .ref (n + 31), .int 0, .null, .null, .null, .null, .null]) hl dX12_init_275 flX12_105 rfl rfl (Nat.le_of_ble_eq_true rfl) (fun _ => rfl) (fun _ => rfl) rfl ?_
  refine V0_aload_n (pc := 278) dX12_init_278 rfl ?_
  refine V0_bipush (pc := 279) (24) dX12_init_279 (by decide) ?_
  refine K_newi (pc := 281) (t := 0) (N := 24) (k := 32) (nn := n + 32) (lb := [kI 7, kI 10, kI 10, kI 10, kI 10, kI 10, kI 10, kI 10, kI 10, .inl (0, 4, .inl (upd (upd (upd (upd (fun _ => 0) 0 (0)) 1 (12)) 2 (5)) 3 (0))), kI 40, kI 40, kI 40, kI 40, kB 120, kB 260, kI 260, kI 2, kS 122, kS 122, kI 6, kI 130, kI 7, kI 10, kI 10, kI 10, kI 6, kI 7, kI 10, kI 10, kI 6, kI 50, kI 24]) hn rfl dX12_init_281 rfl (fun _ => rfl) (fun _ q => by cases q) (by decide) ac_int (by decide) (by decide) (by decide) (Nat.le_of_ble_eq_true rfl) (Nat.le_of_ble_eq_true rfl) rfl rfl rfl ?_
  refine K_putF (pc := 283) (fs' := [.int 0, .int 0, .ref n, .int 0, .ref (n + 1), .ref (n + 2), .ref (n + 3), .ref (n + 4), .ref (n + 5), .ref (n + 6), .ref (n + 7), .ref (n + 8), .ref (n + 9), .int 0, .int 0, .ref (n + 10), .ref (n + 11), .ref (n + 12), .ref (n + 13), .ref (n + 14), .int 0, .int 0, .int 0, .int 0, .int 0, .ref (n + 15), .ref (n + 16), .ref (n + 17), .ref (n + 18), .ref (n + 19), .ref (n + 20), .ref (n + 21), .int 0, .ref (n + 22), .ref (n + 23), .ref (n + 24), .int 0, .int 0, .int 0, .int 0, .ref (n + 25), .ref (n + 26), .int 0, .int 0, .int 0, .int 0, .int 0, .ref (n + 27), .ref (n + 28), .ref (n + 29), .ref (n + 30), .int 0, .ref (n + 31), .int 0, .ref (n + 32), .null, .null, .null, .null]) hl dX12_init_283 flX12_108 rfl rfl (Nat.le_of_ble_eq_true rfl) (fun _ => rfl) (fun _ => rfl) rfl ?_
  refine V0_aload_n (pc := 286) dX12_init_286 rfl ?_
  refine V0_bipush (pc := 287) (6) dX12_init_287 (by decide) ?_
  refine K_newi (pc := 289) (t := 0) (N := 6) (k := 33) (nn := n + 33) (lb := [kI 7, kI 10, kI 10, kI 10, kI 10, kI 10, kI 10, kI 10, kI 10, .inl (0, 4, .inl (upd (upd (upd (upd (fun _ => 0) 0 (0)) 1 (12)) 2 (5)) 3 (0))), kI 40, kI 40, kI 40, kI 40, kB 120, kB 260, kI 260, kI 2, kS 122, kS 122, kI 6, kI 130, kI 7, kI 10, kI 10, kI 10, kI 6, kI 7, kI 10, kI 10, kI 6, kI 50, kI 24, kI 6]) hn rfl dX12_init_289 rfl (fun _ => rfl) (fun _ q => by cases q) (by decide) ac_int (by decide) (by decide) (by decide) (Nat.le_of_ble_eq_true rfl) (Nat.le_of_ble_eq_true rfl) rfl rfl rfl ?_
  refine V0_dup (pc := 291) dX12_init_291 rfl ?_
  refine V0_iconst (pc := 292) (0) dX12_init_292 (by decide) ?_
  refine V0_iconst (pc := 293) (-1) dX12_init_293 (by decide) ?_
  refine K_iast (pc := 294) (j := 0) (k := 33) (nn := n + 33) (lb := [kI 7, kI 10, kI 10, kI 10, kI 10, kI 10, kI 10, kI 10, kI 10, .inl (0, 4, .inl (upd (upd (upd (upd (fun _ => 0) 0 (0)) 1 (12)) 2 (5)) 3 (0))), kI 40, kI 40, kI 40, kI 40, kB 120, kB 260, kI 260, kI 2, kS 122, kS 122, kI 6, kI 130, kI 7, kI 10, kI 10, kI 10, kI 6, kI 7, kI 10, kI 10, kI 6, kI 50, kI 24, .inl (0, 6, .inl (upd (fun _ => 0) 0 (-1)))]) hn dX12_init_294 rfl rfl (by decide) (by decide) (by decide) rfl ?_
  refine V0_dup (pc := 295) dX12_init_295 rfl ?_
  refine V0_iconst (pc := 296) (1) dX12_init_296 (by decide) ?_
  refine V0_iconst (pc := 297) (-1) dX12_init_297 (by decide) ?_
  refine K_iast (pc := 298) (j := 1) (k := 33) (nn := n + 33) (lb := [kI 7, kI 10, kI 10, kI 10, kI 10, kI 10, kI 10, kI 10, kI 10, .inl (0, 4, .inl (upd (upd (upd (upd (fun _ => 0) 0 (0)) 1 (12)) 2 (5)) 3 (0))), kI 40, kI 40, kI 40, kI 40, kB 120, kB 260, kI 260, kI 2, kS 122, kS 122, kI 6, kI 130, kI 7, kI 10, kI 10, kI 10, kI 6, kI 7, kI 10, kI 10, kI 6, kI 50, kI 24, .inl (0, 6, .inl (upd (upd (fun _ => 0) 0 (-1)) 1 (-1)))]) hn dX12_init_298 rfl rfl (by decide) (by decide) (by decide) rfl ?_
  refine V0_dup (pc := 299) dX12_init_299 rfl ?_
  refine V0_iconst (pc := 300) (2) dX12_init_300 (by decide) ?_
  refine V0_iconst (pc := 301) (-1) dX12_init_301 (by decide) ?_
  refine K_iast (pc := 302) (j := 2) (k := 33) (nn := n + 33) (lb := [kI 7, kI 10, kI 10, kI 10, kI 10, kI 10, kI 10, kI 10, kI 10, .inl (0, 4, .inl (upd (upd (upd (upd (fun _ => 0) 0 (0)) 1 (12)) 2 (5)) 3 (0))), kI 40, kI 40, kI 40, kI 40, kB 120, kB 260, kI 260, kI 2, kS 122, kS 122, kI 6, kI 130, kI 7, kI 10, kI 10, kI 10, kI 6, kI 7, kI 10, kI 10, kI 6, kI 50, kI 24, .inl (0, 6, .inl (upd (upd (upd (fun _ => 0) 0 (-1)) 1 (-1)) 2 (-1)))]) hn dX12_init_302 rfl rfl (by decide) (by decide) (by decide) rfl ?_
  refine V0_dup (pc := 303) dX12_init_303 rfl ?_
  refine V0_iconst (pc := 304) (3) dX12_init_304 (by decide) ?_
  refine V0_iconst (pc := 305) (-1) dX12_init_305 (by decide) ?_
  refine K_iast (pc := 306) (j := 3) (k := 33) (nn := n + 33) (lb := [kI 7, kI 10, kI 10, kI 10, kI 10, kI 10, kI 10, kI 10, kI 10, .inl (0, 4, .inl (upd (upd (upd (upd (fun _ => 0) 0 (0)) 1 (12)) 2 (5)) 3 (0))), kI 40, kI 40, kI 40, kI 40, kB 120, kB 260, kI 260, kI 2, kS 122, kS 122, kI 6, kI 130, kI 7, kI 10, kI 10, kI 10, kI 6, kI 7, kI 10, kI 10, kI 6, kI 50, kI 24, .inl (0, 6, .inl (upd (upd (upd (upd (fun _ => 0) 0 (-1)) 1 (-1)) 2 (-1)) 3 (-1)))]) hn dX12_init_306 rfl rfl (by decide) (by decide) (by decide) rfl ?_
  refine V0_dup (pc := 307) dX12_init_307 rfl ?_
  refine V0_iconst (pc := 308) (4) dX12_init_308 (by decide) ?_
  refine V0_iconst (pc := 309) (-1) dX12_init_309 (by decide) ?_
  refine K_iast (pc := 310) (j := 4) (k := 33) (nn := n + 33) (lb := [kI 7, kI 10, kI 10, kI 10, kI 10, kI 10, kI 10, kI 10, kI 10, .inl (0, 4, .inl (upd (upd (upd (upd (fun _ => 0) 0 (0)) 1 (12)) 2 (5)) 3 (0))), kI 40, kI 40, kI 40, kI 40, kB 120, kB 260, kI 260, kI 2, kS 122, kS 122, kI 6, kI 130, kI 7, kI 10, kI 10, kI 10, kI 6, kI 7, kI 10, kI 10, kI 6, kI 50, kI 24, .inl (0, 6, .inl (upd (upd (upd (upd (upd (fun _ => 0) 0 (-1)) 1 (-1)) 2 (-1)) 3 (-1)) 4 (-1)))]) hn dX12_init_310 rfl rfl (by decide) (by decide) (by decide) rfl ?_
  refine V0_dup (pc := 311) dX12_init_311 rfl ?_
  refine V0_iconst (pc := 312) (5) dX12_init_312 (by decide) ?_
  refine V0_iconst (pc := 313) (-1) dX12_init_313 (by decide) ?_
  refine K_iast (pc := 314) (j := 5) (k := 33) (nn := n + 33) (lb := [kI 7, kI 10, kI 10, kI 10, kI 10, kI 10, kI 10, kI 10, kI 10, .inl (0, 4, .inl (upd (upd (upd (upd (fun _ => 0) 0 (0)) 1 (12)) 2 (5)) 3 (0))), kI 40, kI 40, kI 40, kI 40, kB 120, kB 260, kI 260, kI 2, kS 122, kS 122, kI 6, kI 130, kI 7, kI 10, kI 10, kI 10, kI 6, kI 7, kI 10, kI 10, kI 6, kI 50, kI 24, .inl (0, 6, .inl (upd (upd (upd (upd (upd (upd (fun _ => 0) 0 (-1)) 1 (-1)) 2 (-1)) 3 (-1)) 4 (-1)) 5 (-1)))]) hn dX12_init_314 rfl rfl (by decide) (by decide) (by decide) rfl ?_
  refine K_putF (pc := 315) (fs' := [.int 0, .int 0, .ref n, .int 0, .ref (n + 1), .ref (n + 2), .ref (n + 3), .ref (n + 4), .ref (n + 5), .ref (n + 6), .ref (n + 7), .ref (n + 8), .ref (n + 9), .int 0, .int 0, .ref (n + 10), .ref (n + 11), .ref (n + 12), .ref (n + 13), .ref (n + 14), .int 0, .int 0, .int 0, .int 0, .int 0, .ref (n + 15), .ref (n + 16), .ref (n + 17), .ref (n + 18), .ref (n + 19), .ref (n + 20), .ref (n + 21), .int 0, .ref (n + 22), .ref (n + 23), .ref (n + 24), .int 0, .int 0, .int 0, .int 0, .ref (n + 25), .ref (n + 26), .int 0, .int 0, .int 0, .int 0, .int 0, .ref (n + 27), .ref (n + 28), .ref (n + 29), .ref (n + 30), .int 0, .ref (n + 31), .int 0, .ref (n + 32), .ref (n + 33), .null, .null, .null]) hl dX12_init_315 flX12_111 rfl rfl (Nat.le_of_ble_eq_true rfl) (fun _ => rfl) (fun _ => rfl) rfl ?_
  refine V0_aload_n (pc := 318) dX12_init_318 rfl ?_
  refine V0_bipush (pc := 319) (6) dX12_init_319 (by decide) ?_
  refine K_newi (pc := 321) (t := 0) (N := 6) (k := 34) (nn := n + 34) (lb := [kI 7, kI 10, kI 10, kI 10, kI 10, kI 10, kI 10, kI 10, kI 10, .inl (0, 4, .inl (upd (upd (upd (upd (fun _ => 0) 0 (0)) 1 (12)) 2 (5)) 3 (0))), kI 40, kI 40, kI 40, kI 40, kB 120, kB 260, kI 260, kI 2, kS 122, kS 122, kI 6, kI 130, kI 7, kI 10, kI 10, kI 10, kI 6, kI 7, kI 10, kI 10, kI 6, kI 50, kI 24, .inl (0, 6, .inl (upd (upd (upd (upd (upd (upd (fun _ => 0) 0 (-1)) 1 (-1)) 2 (-1)) 3 (-1)) 4 (-1)) 5 (-1))), kI 6]) hn rfl dX12_init_321 rfl (fun _ => rfl) (fun _ q => by cases q) (by decide) ac_int (by decide) (by decide) (by decide) (Nat.le_of_ble_eq_true rfl) (Nat.le_of_ble_eq_true rfl) rfl rfl rfl ?_
  refine K_putF (pc := 323) (fs' := [.int 0, .int 0, .ref n, .int 0, .ref (n + 1), .ref (n + 2), .ref (n + 3), .ref (n + 4), .ref (n + 5), .ref (n + 6), .ref (n + 7), .ref (n + 8), .ref (n + 9), .int 0, .int 0, .ref (n + 10), .ref (n + 11), .ref (n + 12), .ref (n + 13), .ref (n + 14), .int 0, .int 0, .int 0, .int 0, .int 0, .ref (n + 15), .ref (n + 16), .ref (n + 17), .ref (n + 18), .ref (n + 19), .ref (n + 20), .ref (n + 21), .int 0, .ref (n + 22), .ref (n + 23), .ref (n + 24), .int 0, .int 0, .int 0, .int 0, .ref (n + 25), .ref (n + 26), .int 0, .int 0, .int 0, .int 0, .int 0, .ref (n + 27), .ref (n + 28), .ref (n + 29), .ref (n + 30), .int 0, .ref (n + 31), .int 0, .ref (n + 32), .ref (n + 33), .ref (n + 34), .null, .null]) hl dX12_init_323 flX12_114 rfl rfl (Nat.le_of_ble_eq_true rfl) (fun _ => rfl) (fun _ => rfl) rfl ?_
  refine V0_aload_n (pc := 326) dX12_init_326 rfl ?_
  refine V0_sipush (pc := 327) (360) dX12_init_327 (by decide) ?_
  refine K_newl (pc := 330) (N := 360) (k := 35) (nn := n + 35) (lb := [kI 7, kI 10, kI 10, kI 10, kI 10, kI 10, kI 10, kI 10, kI 10, .inl (0, 4, .inl (upd (upd (upd (upd (fun _ => 0) 0 (0)) 1 (12)) 2 (5)) 3 (0))), kI 40, kI 40, kI 40, kI 40, kB 120, kB 260, kI 260, kI 2, kS 122, kS 122, kI 6, kI 130, kI 7, kI 10, kI 10, kI 10, kI 6, kI 7, kI 10, kI 10, kI 6, kI 50, kI 24, .inl (0, 6, .inl (upd (upd (upd (upd (upd (upd (fun _ => 0) 0 (-1)) 1 (-1)) 2 (-1)) 3 (-1)) 4 (-1)) 5 (-1))), kI 6, kL 360]) hn rfl dX12_init_330 ac_long (by decide) (by decide) (by decide) (Nat.le_of_ble_eq_true rfl) (Nat.le_of_ble_eq_true rfl) rfl rfl rfl ?_
  refine K_putF (pc := 332) (fs' := [.int 0, .int 0, .ref n, .int 0, .ref (n + 1), .ref (n + 2), .ref (n + 3), .ref (n + 4), .ref (n + 5), .ref (n + 6), .ref (n + 7), .ref (n + 8), .ref (n + 9), .int 0, .int 0, .ref (n + 10), .ref (n + 11), .ref (n + 12), .ref (n + 13), .ref (n + 14), .int 0, .int 0, .int 0, .int 0, .int 0, .ref (n + 15), .ref (n + 16), .ref (n + 17), .ref (n + 18), .ref (n + 19), .ref (n + 20), .ref (n + 21), .int 0, .ref (n + 22), .ref (n + 23), .ref (n + 24), .int 0, .int 0, .int 0, .int 0, .ref (n + 25), .ref (n + 26), .int 0, .int 0, .int 0, .int 0, .int 0, .ref (n + 27), .ref (n + 28), .ref (n + 29), .ref (n + 30), .int 0, .ref (n + 31), .int 0, .ref (n + 32), .ref (n + 33), .ref (n + 34), .ref (n + 35), .null]) hl dX12_init_332 flX12_117 rfl rfl (Nat.le_of_ble_eq_true rfl) (fun _ => rfl) (fun _ => rfl) rfl ?_
  refine V0_aload_n (pc := 335) dX12_init_335 rfl ?_
  refine V0_bipush (pc := 336) (60) dX12_init_336 (by decide) ?_
  refine K_newl (pc := 338) (N := 60) (k := 36) (nn := n + 36) (lb := [kI 7, kI 10, kI 10, kI 10, kI 10, kI 10, kI 10, kI 10, kI 10, .inl (0, 4, .inl (upd (upd (upd (upd (fun _ => 0) 0 (0)) 1 (12)) 2 (5)) 3 (0))), kI 40, kI 40, kI 40, kI 40, kB 120, kB 260, kI 260, kI 2, kS 122, kS 122, kI 6, kI 130, kI 7, kI 10, kI 10, kI 10, kI 6, kI 7, kI 10, kI 10, kI 6, kI 50, kI 24, .inl (0, 6, .inl (upd (upd (upd (upd (upd (upd (fun _ => 0) 0 (-1)) 1 (-1)) 2 (-1)) 3 (-1)) 4 (-1)) 5 (-1))), kI 6, kL 360, kL 60]) hn rfl dX12_init_338 ac_long (by decide) (by decide) (by decide) (Nat.le_of_ble_eq_true rfl) (Nat.le_of_ble_eq_true rfl) rfl rfl rfl ?_
  refine K_putF (pc := 340) (fs' := [.int 0, .int 0, .ref n, .int 0, .ref (n + 1), .ref (n + 2), .ref (n + 3), .ref (n + 4), .ref (n + 5), .ref (n + 6), .ref (n + 7), .ref (n + 8), .ref (n + 9), .int 0, .int 0, .ref (n + 10), .ref (n + 11), .ref (n + 12), .ref (n + 13), .ref (n + 14), .int 0, .int 0, .int 0, .int 0, .int 0, .ref (n + 15), .ref (n + 16), .ref (n + 17), .ref (n + 18), .ref (n + 19), .ref (n + 20), .ref (n + 21), .int 0, .ref (n + 22), .ref (n + 23), .ref (n + 24), .int 0, .int 0, .int 0, .int 0, .ref (n + 25), .ref (n + 26), .int 0, .int 0, .int 0, .int 0, .int 0, .ref (n + 27), .ref (n + 28), .ref (n + 29), .ref (n + 30), .int 0, .ref (n + 31), .int 0, .ref (n + 32), .ref (n + 33), .ref (n + 34), .ref (n + 35), .ref (n + 36)]) hl dX12_init_340 flX12_121 rfl rfl (Nat.le_of_ble_eq_true rfl) (fun _ => rfl) (fun _ => rfl) rfl ?_
  exact V0_end none ⟨dX12_init_343, rfl⟩ rfl ⟨rfl, rfl⟩
set_option maxRecDepth 100000 in
theorem ci_X11 {l : Launch} {h : px_H} {n p  : Nat} (hn : h.length = n) (hp : h[p]? = some (.inr (11, [.null, .null, .null, .null, .null, .null, .null, .null, .null, .null, .null, .null, .int 0, .int 0, .int 0]))) : Ct0 l true mX11_init 3 53 1889 [.ref p] h (ci_Q h p 11 [.ref n, .ref (n + 7), .ref (n + 22), .ref (n + 12), .ref (n + 27), .ref (n + 32), .ref (n + 13), .ref (n + 39), .ref (n + 41), .ref (n + 47), .ref (n + 50), .ref (n + 18), .int 0, .int 0, .int 0] [.inr (7, [.ref (n + 1), .ref (n + 2), .ref (n + 3), .ref (n + 4), .ref (n + 5), .ref (n + 6), .int 0, .int 0, .int (12), .int (5)]), kI 10, kI 10, kI 10, kI 10, kI 10, kI 10, .inr (2, [.ref (n + 8), .ref (n + 9), .ref (n + 10), .ref (n + 11), .int 0, .int 0, .ref n]), kI 7, kI 10, kI 10, kI 6, .inr (4, [.ref n, .ref (n + 7)]), .inr (3, [.ref (n + 14), .ref (n + 15), .ref (n + 16), .ref (n + 17), .int 0]), kI 6, kI 128, kI 128, kI 128, .inr (5, [.ref (n + 19), .ref (n + 20), .ref (n + 21)]), .inl (0, 6, .inl (upd (upd (upd (upd (upd (upd (fun _ => 0) 0 (6)) 1 (6)) 2 (6)) 3 (6)) 4 (6)) 5 (6))), kI 6, kL 360, .inr (2, [.ref (n + 23), .ref (n + 24), .ref (n + 25), .ref (n + 26), .int 0, .int 0, .ref n]), kI 7, kI 10, kI 10, kI 6, .inr (1, [.ref (n + 28), .ref (n + 29), .ref (n + 30), .ref (n + 31), .ref (n + 12), .int 0, .int 0]), kI 40, kI 40, kI 40, kI 40, .inr (8, [.ref (n + 33), .ref (n + 38), .int 0, .int 0, .int 0]), .inr (3, [.ref (n + 34), .ref (n + 35), .ref (n + 36), .ref (n + 37), .int 0]), kI 6, kI 128, kI 128, kI 128, kI 120, .inr (6, [.ref n, .ref (n + 7), .ref (n + 13), .ref (n + 40)]), kI 10, .inr (9, [.ref n, .ref (n + 7), .ref (n + 42), .ref (n + 18), .int 0, .int 0]), .inr (2, [.ref (n + 43), .ref (n + 44), .ref (n + 45), .ref (n + 46), .int 0, .int 0, .ref n]), kI 7, kI 10, kI 10, kI 6, .inr (10, [.ref n, .ref (n + 7), .ref (n + 48), .ref (n + 49), .int 0, .int 0]), kI 7, kZ 128, .inr (0, [.ref (n + 51), .ref (n + 52), .int 0, .int 0, .int 0]), kI 50, kI 24]) := by
  have hl : p < h.length := (List.getElem?_eq_some_iff.mp hp).1
  refine Ct0.of plX11_init (Nat.le_of_ble_eq_true rfl) [.ref p, .null, .null, .null, .null, .null] rfl ?_
  refine V_hp (kh_0 hp) ?_
  refine V0_aload_n (pc := 0) dX11_init_0 rfl ?_
  refine V0_objInit (pc := 1) dX11_init_1 mlX11_1 jm_obj jc_obj (Nat.le_of_ble_eq_true rfl) (Nat.le_of_ble_eq_true rfl) ?_
  refine K_new (pc := 4) (ci := 7) (N := 10) (fs := [.null, .null, .null, .null, .null, .null, .int 0, .int 0, .int 0, .int 0]) (k := 0) (nn := n + 0) (lb := [.inr (7, [.null, .null, .null, .null, .null, .null, .int 0, .int 0, .int 0, .int 0])]) hn rfl dX11_init_4 rfl inX7 tyX7_ok clX11_7 iaX7 iiX7 (by decide) (fun _ => rfl) (Nat.le_of_ble_eq_true rfl) (Nat.le_of_ble_eq_true rfl) rfl rfl rfl ?_
  refine V0_dup (pc := 7) dX11_init_7 rfl ?_
  refine K_callIN (pc := 8) (M' := mX7_init) (host := "GladSide") (k := 0) (lb := [.inr (7, [.ref (n + 1), .ref (n + 2), .ref (n + 3), .ref (n + 4), .ref (n + 5), .ref (n + 6), .int 0, .int 0, .int (12), .int (5)]), kI 10, kI 10, kI 10, kI 10, kI 10, kI 10]) hn dX11_init_8 (by decide +kernel) okX7_init (ci_X7 (n := n + 1) (p := n + 0)  (kh_len hn rfl rfl) ((kh_at (j := 0) hn).trans rfl)) rfl rfl ⟨(Nat.le_of_ble_eq_true rfl), (Nat.le_of_ble_eq_true rfl)⟩ (Nat.le_of_ble_eq_true rfl) (Nat.le_of_ble_eq_true rfl) (Nat.le_of_ble_eq_true rfl) rfl rfl ?_
  refine V0_astore_1 (pc := 11) dX11_init_11 (by decide) rfl ?_
  refine K_new (pc := 12) (ci := 2) (N := 7) (fs := [.null, .null, .null, .null, .int 0, .int 0, .null]) (k := 7) (nn := n + 7) (lb := [.inr (7, [.ref (n + 1), .ref (n + 2), .ref (n + 3), .ref (n + 4), .ref (n + 5), .ref (n + 6), .int 0, .int 0, .int (12), .int (5)]), kI 10, kI 10, kI 10, kI 10, kI 10, kI 10, .inr (2, [.null, .null, .null, .null, .int 0, .int 0, .null])]) hn rfl dX11_init_12 rfl inX2 tyX2_ok clX11_10 iaX2 iiX2 (by decide) (fun _ => rfl) (Nat.le_of_ble_eq_true rfl) (Nat.le_of_ble_eq_true rfl) rfl rfl rfl ?_
  refine V0_dup (pc := 15) dX11_init_15 rfl ?_
  refine V0_aload_n (pc := 16) dX11_init_16 rfl ?_
  refine K_callI (pc := 17) (M' := mX2_init) (k := 7) (lb := [.inr (7, [.ref (n + 1), .ref (n + 2), .ref (n + 3), .ref (n + 4), .ref (n + 5), .ref (n + 6), .int 0, .int 0, .int (12), .int (5)]), kI 10, kI 10, kI 10, kI 10, kI 10, kI 10, .inr (2, [.ref (n + 8), .ref (n + 9), .ref (n + 10), .ref (n + 11), .int 0, .int 0, .ref n]), kI 7, kI 10, kI 10, kI 6]) hn dX11_init_17 mlX11_12 okX2_init (ci_X2 (n := n + 8) (p := n + 7) (q1 := n) (kh_len hn rfl rfl) ((kh_at (j := 7) hn).trans rfl)) rfl rfl ⟨(Nat.le_of_ble_eq_true rfl), (Nat.le_of_ble_eq_true rfl)⟩ (Nat.le_of_ble_eq_true rfl) (Nat.le_of_ble_eq_true rfl) (Nat.le_of_ble_eq_true rfl) rfl rfl ?_
  refine V0_astore_2 (pc := 20) dX11_init_20 (by decide) rfl ?_
  refine K_new (pc := 21) (ci := 4) (N := 2) (fs := [.null, .null]) (k := 12) (nn := n + 12) (lb := [.inr (7, [.ref (n + 1), .ref (n + 2), .ref (n + 3), .ref (n + 4), .ref (n + 5), .ref (n + 6), .int 0, .int 0, .int (12), .int (5)]), kI 10, kI 10, kI 10, kI 10, kI 10, kI 10, .inr (2, [.ref (n + 8), .ref (n + 9), .ref (n + 10), .ref (n + 11), .int 0, .int 0, .ref n]), kI 7, kI 10, kI 10, kI 6, .inr (4, [.null, .null])]) hn rfl dX11_init_21 rfl inX4 tyX4_ok clX11_15 iaX4 iiX4 (by decide) (fun _ => rfl) (Nat.le_of_ble_eq_true rfl) (Nat.le_of_ble_eq_true rfl) rfl rfl rfl ?_
  refine V0_dup (pc := 24) dX11_init_24 rfl ?_
  refine V0_aload_n (pc := 25) dX11_init_25 rfl ?_
  refine V0_aload_n (pc := 26) dX11_init_26 rfl ?_
  refine K_callI (pc := 27) (M' := mX4_init) (k := 12) (lb := [.inr (7, [.ref (n + 1), .ref (n + 2), .ref (n + 3), .ref (n + 4), .ref (n + 5), .ref (n + 6), .int 0, .int 0, .int (12), .int (5)]), kI 10, kI 10, kI 10, kI 10, kI 10, kI 10, .inr (2, [.ref (n + 8), .ref (n + 9), .ref (n + 10), .ref (n + 11), .int 0, .int 0, .ref n]), kI 7, kI 10, kI 10, kI 6, .inr (4, [.ref n, .ref (n + 7)])]) hn dX11_init_27 mlX11_17 okX4_init (ci_X4 (n := n + 13) (p := n + 12) (q1 := n) (q2 := (n + 7)) (kh_len hn rfl rfl) ((kh_at (j := 12) hn).trans rfl)) rfl rfl ⟨(Nat.le_of_ble_eq_true rfl), (Nat.le_of_ble_eq_true rfl)⟩ (Nat.le_of_ble_eq_true rfl) (Nat.le_of_ble_eq_true rfl) (Nat.le_of_ble_eq_true rfl) rfl rfl ?_
  refine V0_astore_3 (pc := 30) dX11_init_30 (by decide) rfl ?_
  refine K_new (pc := 31) (ci := 3) (N := 5) (fs := [.null, .null, .null, .null, .int 0]) (k := 13) (nn := n + 13) (lb := [.inr (7, [.ref (n + 1), .ref (n + 2), .ref (n + 3), .ref (n + 4), .ref (n + 5), .ref (n + 6), .int 0, .int 0, .int (12), .int (5)]), kI 10, kI 10, kI 10, kI 10, kI 10, kI 10, .inr (2, [.ref (n + 8), .ref (n + 9), .ref (n + 10), .ref (n + 11), .int 0, .int 0, .ref n]), kI 7, kI 10, kI 10, kI 6, .inr (4, [.ref n, .ref (n + 7)]), .inr (3, [.null, .null, .null, .null, .int 0])]) hn rfl dX11_init_31 rfl inX3 tyX3_ok clX11_20 iaX3 iiX3 (by decide) (fun _ => rfl) (Nat.le_of_ble_eq_true rfl) (Nat.le_of_ble_eq_true rfl) rfl rfl rfl ?_
  refine V0_dup (pc := 34) dX11_init_34 rfl ?_
  refine K_callIN (pc := 35) (M' := mX3_init) (host := "GladSide") (k := 13) (lb := [.inr (7, [.ref (n + 1), .ref (n + 2), .ref (n + 3), .ref (n + 4), .ref (n + 5), .ref (n + 6), .int 0, .int 0, .int (12), .int (5)]), kI 10, kI 10, kI 10, kI 10, kI 10, kI 10, .inr (2, [.ref (n + 8), .ref (n + 9), .ref (n + 10), .ref (n + 11), .int 0, .int 0, .ref n]), kI 7, kI 10, kI 10, kI 6, .inr (4, [.ref n, .ref (n + 7)]), .inr (3, [.ref (n + 14), .ref (n + 15), .ref (n + 16), .ref (n + 17), .int 0]), kI 6, kI 128, kI 128, kI 128]) hn dX11_init_35 (by decide +kernel) okX3_init (ci_X3 (n := n + 14) (p := n + 13)  (kh_len hn rfl rfl) ((kh_at (j := 13) hn).trans rfl)) rfl rfl ⟨(Nat.le_of_ble_eq_true rfl), (Nat.le_of_ble_eq_true rfl)⟩ (Nat.le_of_ble_eq_true rfl) (Nat.le_of_ble_eq_true rfl) (Nat.le_of_ble_eq_true rfl) rfl rfl ?_
  refine V0_astore_4 (pc := 38) dX11_init_38 (by decide) rfl ?_
  refine K_new (pc := 40) (ci := 5) (N := 3) (fs := [.null, .null, .null]) (k := 18) (nn := n + 18) (lb := [.inr (7, [.ref (n + 1), .ref (n + 2), .ref (n + 3), .ref (n + 4), .ref (n + 5), .ref (n + 6), .int 0, .int 0, .int (12), .int (5)]), kI 10, kI 10, kI 10, kI 10, kI 10, kI 10, .inr (2, [.ref (n + 8), .ref (n + 9), .ref (n + 10), .ref (n + 11), .int 0, .int 0, .ref n]), kI 7, kI 10, kI 10, kI 6, .inr (4, [.ref n, .ref (n + 7)]), .inr (3, [.ref (n + 14), .ref (n + 15), .ref (n + 16), .ref (n + 17), .int 0]), kI 6, kI 128, kI 128, kI 128, .inr (5, [.null, .null, .null])]) hn rfl dX11_init_40 rfl inX5 tyX5_ok clX11_23 iaX5 iiX5 (by decide) (fun _ => rfl) (Nat.le_of_ble_eq_true rfl) (Nat.le_of_ble_eq_true rfl) rfl rfl rfl ?_
  refine V0_dup (pc := 43) dX11_init_43 rfl ?_
  refine K_callI (pc := 44) (M' := mX5_init) (k := 18) (lb := [.inr (7, [.ref (n + 1), .ref (n + 2), .ref (n + 3), .ref (n + 4), .ref (n + 5), .ref (n + 6), .int 0, .int 0, .int (12), .int (5)]), kI 10, kI 10, kI 10, kI 10, kI 10, kI 10, .inr (2, [.ref (n + 8), .ref (n + 9), .ref (n + 10), .ref (n + 11), .int 0, .int 0, .ref n]), kI 7, kI 10, kI 10, kI 6, .inr (4, [.ref n, .ref (n + 7)]), .inr (3, [.ref (n + 14), .ref (n + 15), .ref (n + 16), .ref (n + 17), .int 0]), kI 6, kI 128, kI 128, kI 128, .inr (5, [.ref (n + 19), .ref (n + 20), .ref (n + 21)]), .inl (0, 6, .inl (upd (upd (upd (upd (upd (upd (fun _ => 0) 0 (6)) 1 (6)) 2 (6)) 3 (6)) 4 (6)) 5 (6))), kI 6, kL 360]) hn dX11_init_44 mlX11_25 okX5_init (ci_X5 (n := n + 19) (p := n + 18)  (kh_len hn rfl rfl) ((kh_at (j := 18) hn).trans rfl)) rfl rfl ⟨(Nat.le_of_ble_eq_true rfl), (Nat.le_of_ble_eq_true rfl)⟩ (Nat.le_of_ble_eq_true rfl) (Nat.le_of_ble_eq_true rfl) (Nat.le_of_ble_eq_true rfl) rfl rfl ?_
  refine V0_astore_5 (pc := 47) dX11_init_47 (by decide) rfl ?_
  refine V0_aload_n (pc := 49) dX11_init_49 rfl ?_
  refine V0_aload_n (pc := 50) dX11_init_50 rfl ?_
  refine K_putF (pc := 51) (fs' := [.ref n, .null, .null, .null, .null, .null, .null, .null, .null, .null, .null, .null, .int 0, .int 0, .int 0]) hl dX11_init_51 flX11_26 rfl rfl (Nat.le_of_ble_eq_true rfl) (fun _ => rfl) (fun _ => rfl) rfl ?_
  refine V0_aload_n (pc := 54) dX11_init_54 rfl ?_
  refine V0_aload_n (pc := 55) dX11_init_55 rfl ?_
  refine K_putF (pc := 56) (fs' := [.ref n, .ref (n + 7), .null, .null, .null, .null, .null, .null, .null, .null, .null, .null, .int 0, .int 0, .int 0]) hl dX11_init_56 flX11_32 rfl rfl (Nat.le_of_ble_eq_true rfl) (fun _ => rfl) (fun _ => rfl) rfl ?_
  refine V0_aload_n (pc := 59) dX11_init_59 rfl ?_
  refine K_new (pc := 60) (ci := 2) (N := 7) (fs := [.null, .null, .null, .null, .int 0, .int 0, .null]) (k := 22) (nn := n + 22) (lb := [.inr (7, [.ref (n + 1), .ref (n + 2), .ref (n + 3), .ref (n + 4), .ref (n + 5), .ref (n + 6), .int 0, .int 0, .int (12), .int (5)]), kI 10, kI 10, kI 10, kI 10, kI 10, kI 10, .inr (2, [.ref (n + 8), .ref (n + 9), .ref (n + 10), .ref (n + 11), .int 0, .int 0, .ref n]), kI 7, kI 10, kI 10, kI 6, .inr (4, [.ref n, .ref (n + 7)]), .inr (3, [.ref (n + 14), .ref (n + 15), .ref (n + 16), .ref (n + 17), .int 0]), kI 6, kI 128, kI 128, kI 128, .inr (5, [.ref (n + 19), .ref (n + 20), .ref (n + 21)]), .inl (0, 6, .inl (upd (upd (upd (upd (upd (upd (fun _ => 0) 0 (6)) 1 (6)) 2 (6)) 3 (6)) 4 (6)) 5 (6))), kI 6, kL 360, .inr (2, [.null, .null, .null, .null, .int 0, .int 0, .null])]) hn rfl dX11_init_60 rfl inX2 tyX2_ok clX11_10 iaX2 iiX2 (by decide) (fun _ => rfl) (Nat.le_of_ble_eq_true rfl) (Nat.le_of_ble_eq_true rfl) rfl rfl rfl ?_
  refine V0_dup (pc := 63) dX11_init_63 rfl ?_
  refine V0_aload_n (pc := 64) dX11_init_64 rfl ?_
  refine K_callI (pc := 65) (M' := mX2_init) (k := 22) (lb := [.inr (7, [.ref (n + 1), .ref (n + 2), .ref (n + 3), .ref (n + 4), .ref (n + 5), .ref (n + 6), .int 0, .int 0, .int (12), .int (5)]), kI 10, kI 10, kI 10, kI 10, kI 10, kI 10, .inr (2, [.ref (n + 8), .ref (n + 9), .ref (n + 10), .ref (n + 11), .int 0, .int 0, .ref n]), kI 7, kI 10, kI 10, kI 6, .inr (4, [.ref n, .ref (n + 7)]), .inr (3, [.ref (n + 14), .ref (n + 15), .ref (n + 16), .ref (n + 17), .int 0]), kI 6, kI 128, kI 128, kI 128, .inr (5, [.ref (n + 19), .ref (n + 20), .ref (n + 21)]), .inl (0, 6, .inl (upd (upd (upd (upd (upd (upd (fun _ => 0) 0 (6)) 1 (6)) 2 (6)) 3 (6)) 4 (6)) 5 (6))), kI 6, kL 360, .inr (2, [.ref (n + 23), .ref (n + 24), .ref (n + 25), .ref (n + 26), .int 0, .int 0, .ref n]), kI 7, kI 10, kI 10, kI 6]) hn dX11_init_65 mlX11_12 okX2_init (ci_X2 (n := n + 23) (p := n + 22) (q1 := n) (kh_len hn rfl rfl) ((kh_at (j := 22) hn).trans rfl)) rfl rfl ⟨(Nat.le_of_ble_eq_true rfl), (Nat.le_of_ble_eq_true rfl)⟩ (Nat.le_of_ble_eq_true rfl) (Nat.le_of_ble_eq_true rfl) (Nat.le_of_ble_eq_true rfl) rfl rfl ?_
  refine K_putF (pc := 68) (fs' := [.ref n, .ref (n + 7), .ref (n + 22), .null, .null, .null, .null, .null, .null, .null, .null, .null, .int 0, .int 0, .int 0]) hl dX11_init_68 flX11_36 rfl rfl (Nat.le_of_ble_eq_true rfl) (fun _ => rfl) (fun _ => rfl) rfl ?_
  refine V0_aload_n (pc := 71) dX11_init_71 rfl ?_
  refine V0_aload_n (pc := 72) dX11_init_72 rfl ?_
  refine K_putF (pc := 73) (fs' := [.ref n, .ref (n + 7), .ref (n + 22), .ref (n + 12), .null, .null, .null, .null, .null, .null, .null, .null, .int 0, .int 0, .int 0]) hl dX11_init_73 flX11_39 rfl rfl (Nat.le_of_ble_eq_true rfl) (fun _ => rfl) (fun _ => rfl) rfl ?_
  refine V0_aload_n (pc := 76) dX11_init_76 rfl ?_
  refine K_new (pc := 77) (ci := 1) (N := 7) (fs := [.null, .null, .null, .null, .null, .int 0, .int 0]) (k := 27) (nn := n + 27) (lb := [.inr (7, [.ref (n + 1), .ref (n + 2), .ref (n + 3), .ref (n + 4), .ref (n + 5), .ref (n + 6), .int 0, .int 0, .int (12), .int (5)]), kI 10, kI 10, kI 10, kI 10, kI 10, kI 10, .inr (2, [.ref (n + 8), .ref (n + 9), .ref (n + 10), .ref (n + 11), .int 0, .int 0, .ref n]), kI 7, kI 10, kI 10, kI 6, .inr (4, [.ref n, .ref (n + 7)]), .inr (3, [.ref (n + 14), .ref (n + 15), .ref (n + 16), .ref (n + 17), .int 0]), kI 6, kI 128, kI 128, kI 128, .inr (5, [.ref (n + 19), .ref (n + 20), .ref (n + 21)]), .inl (0, 6, .inl (upd (upd (upd (upd (upd (upd (fun _ => 0) 0 (6)) 1 (6)) 2 (6)) 3 (6)) 4 (6)) 5 (6))), kI 6, kL 360, .inr (2, [.ref (n + 23), .ref (n + 24), .ref (n + 25), .ref (n + 26), .int 0, .int 0, .ref n]), kI 7, kI 10, kI 10, kI 6, .inr (1, [.null, .null, .null, .null, .null, .int 0, .int 0])]) hn rfl dX11_init_77 rfl inX1 tyX1_ok clX11_43 iaX1 iiX1 (by decide) (fun _ => rfl) (Nat.le_of_ble_eq_true rfl) (Nat.le_of_ble_eq_true rfl) rfl rfl rfl ?_
  refine V0_dup (pc := 80) dX11_init_80 rfl ?_
  refine V0_aload_n (pc := 81) dX11_init_81 rfl ?_
  refine K_callI (pc := 82) (M' := mX1_init) (k := 27) (lb := [.inr (7, [.ref (n + 1), .ref (n + 2), .ref (n + 3), .ref (n + 4), .ref (n + 5), .ref (n + 6), .int 0, .int 0, .int (12), .int (5)]), kI 10, kI 10, kI 10, kI 10, kI 10, kI 10, .inr (2, [.ref (n + 8), .ref (n + 9), .ref (n + 10), .ref (n + 11), .int 0, .int 0, .ref n]), kI 7, kI 10, kI 10, kI 6, .inr (4, [.ref n, .ref (n + 7)]), .inr (3, [.ref (n + 14), .ref (n + 15), .ref (n + 16), .ref (n + 17), .int 0]), kI 6, kI 128, kI 128, kI 128, .inr (5, [.ref (n + 19), .ref (n + 20), .ref (n + 21)]), .inl (0, 6, .inl (upd (upd (upd (upd (upd (upd (fun _ => 0) 0 (6)) 1 (6)) 2 (6)) 3 (6)) 4 (6)) 5 (6))), kI 6, kL 360, .inr (2, [.ref (n + 23), .ref (n + 24), .ref (n + 25), .ref (n + 26), .int 0, .int 0, .ref n]), kI 7, kI 10, kI 10, kI 6, .inr (1, [.ref (n + 28), .ref (n + 29), .ref (n + 30), .ref (n + 31), .ref (n + 12), .int 0, .int 0]), kI 40, kI 40, kI 40, kI 40]) hn dX11_init_82 mlX11_45 okX1_init (ci_X1 (n := n + 28) (p := n + 27) (q1 := (n + 12)) (kh_len hn rfl rfl) ((kh_at (j := 27) hn).trans rfl)) rfl rfl ⟨(Nat.le_of_ble_eq_true rfl), (Nat.le_of_ble_eq_true rfl)⟩ (Nat.le_of_ble_eq_true rfl) (Nat.le_of_ble_eq_true rfl) (Nat.le_of_ble_eq_true rfl) rfl rfl ?_
  refine K_putF (pc := 85) (fs' := [.ref n, .ref (n + 7), .ref (n + 22), .ref (n + 12), .ref (n + 27), .null, .null, .null, .null, .null, .null, .null, .int 0, .int 0, .int 0]) hl dX11_init_85 flX11_48 rfl rfl (Nat.le_of_ble_eq_true rfl) (fun _ => rfl) (fun _ => rfl) rfl ?_
  refine V0_aload_n (pc := 88) dX11_init_88 rfl ?_
  refine K_new (pc := 89) (ci := 8) (N := 5) (fs := [.null, .null, .int 0, .int 0, .int 0]) (k := 32) (nn := n + 32) (lb := [.inr (7, [.ref (n + 1), .ref (n + 2), .ref (n + 3), .ref (n + 4), .ref (n + 5), .ref (n + 6), .int 0, .int 0, .int (12), .int (5)]), kI 10, kI 10, kI 10, kI 10, kI 10, kI 10, .inr (2, [.ref (n + 8), .ref (n + 9), .ref (n + 10), .ref (n + 11), .int 0, .int 0, .ref n]), kI 7, kI 10, kI 10, kI 6, .inr (4, [.ref n, .ref (n + 7)]), .inr (3, [.ref (n + 14), .ref (n + 15), .ref (n + 16), .ref (n + 17), .int 0]), kI 6, kI 128, kI 128, kI 128, .inr (5, [.ref (n + 19), .ref (n + 20), .ref (n + 21)]), .inl (0, 6, .inl (upd (upd (upd (upd (upd (upd (fun _ => 0) 0 (6)) 1 (6)) 2 (6)) 3 (6)) 4 (6)) 5 (6))), kI 6, kL 360, .inr (2, [.ref (n + 23), .ref (n + 24), .ref (n + 25), .ref (n + 26), .int 0, .int 0, .ref n]), kI 7, kI 10, kI 10, kI 6, .inr (1, [.ref (n + 28), .ref (n + 29), .ref (n + 30), .ref (n + 31), .ref (n + 12), .int 0, .int 0]), kI 40, kI 40, kI 40, kI 40, .inr (8, [.null, .null, .int 0, .int 0, .int 0])]) hn rfl dX11_init_89 rfl inX8 tyX8_ok clX11_52 iaX8 iiX8 (by decide) (fun _ => rfl) (Nat.le_of_ble_eq_true rfl) (Nat.le_of_ble_eq_true rfl) rfl rfl rfl ?_
  refine V0_dup (pc := 92) dX11_init_92 rfl ?_
  refine K_callIN (pc := 93) (M' := mX8_init) (host := "GladSide") (k := 32) (lb := [.inr (7, [.ref (n + 1), .ref (n + 2), .ref (n + 3), .ref (n + 4), .ref (n + 5), .ref (n + 6), .int 0, .int 0, .int (12), .int (5)]), kI 10, kI 10, kI 10, kI 10, kI 10, kI 10, .inr (2, [.ref (n + 8), .ref (n + 9), .ref (n + 10), .ref (n + 11), .int 0, .int 0, .ref n]), kI 7, kI 10, kI 10, kI 6, .inr (4, [.ref n, .ref (n + 7)]), .inr (3, [.ref (n + 14), .ref (n + 15), .ref (n + 16), .ref (n + 17), .int 0]), kI 6, kI 128, kI 128, kI 128, .inr (5, [.ref (n + 19), .ref (n + 20), .ref (n + 21)]), .inl (0, 6, .inl (upd (upd (upd (upd (upd (upd (fun _ => 0) 0 (6)) 1 (6)) 2 (6)) 3 (6)) 4 (6)) 5 (6))), kI 6, kL 360, .inr (2, [.ref (n + 23), .ref (n + 24), .ref (n + 25), .ref (n + 26), .int 0, .int 0, .ref n]), kI 7, kI 10, kI 10, kI 6, .inr (1, [.ref (n + 28), .ref (n + 29), .ref (n + 30), .ref (n + 31), .ref (n + 12), .int 0, .int 0]), kI 40, kI 40, kI 40, kI 40, .inr (8, [.ref (n + 33), .ref (n + 38), .int 0, .int 0, .int 0]), .inr (3, [.ref (n + 34), .ref (n + 35), .ref (n + 36), .ref (n + 37), .int 0]), kI 6, kI 128, kI 128, kI 128, kI 120]) hn dX11_init_93 (by decide +kernel) okX8_init (ci_X8 (n := n + 33) (p := n + 32)  (kh_len hn rfl rfl) ((kh_at (j := 32) hn).trans rfl)) rfl rfl ⟨(Nat.le_of_ble_eq_true rfl), (Nat.le_of_ble_eq_true rfl)⟩ (Nat.le_of_ble_eq_true rfl) (Nat.le_of_ble_eq_true rfl) (Nat.le_of_ble_eq_true rfl) rfl rfl ?_
  refine K_putF (pc := 96) (fs' := [.ref n, .ref (n + 7), .ref (n + 22), .ref (n + 12), .ref (n + 27), .ref (n + 32), .null, .null, .null, .null, .null, .null, .int 0, .int 0, .int 0]) hl dX11_init_96 flX11_55 rfl rfl (Nat.le_of_ble_eq_true rfl) (fun _ => rfl) (fun _ => rfl) rfl ?_
  refine V0_aload_n (pc := 99) dX11_init_99 rfl ?_
  refine V0_aload (pc := 100) dX11_init_100 rfl ?_
  refine K_putF (pc := 102) (fs' := [.ref n, .ref (n + 7), .ref (n + 22), .ref (n + 12), .ref (n + 27), .ref (n + 32), .ref (n + 13), .null, .null, .null, .null, .null, .int 0, .int 0, .int 0]) hl dX11_init_102 flX11_59 rfl rfl (Nat.le_of_ble_eq_true rfl) (fun _ => rfl) (fun _ => rfl) rfl ?_
  refine V0_aload_n (pc := 105) dX11_init_105 rfl ?_
  refine K_new (pc := 106) (ci := 6) (N := 4) (fs := [.null, .null, .null, .null]) (k := 39) (nn := n + 39) (lb := [.inr (7, [.ref (n + 1), .ref (n + 2), .ref (n + 3), .ref (n + 4), .ref (n + 5), .ref (n + 6), .int 0, .int 0, .int (12), .int (5)]), kI 10, kI 10, kI 10, kI 10, kI 10, kI 10, .inr (2, [.ref (n + 8), .ref (n + 9), .ref (n + 10), .ref (n + 11), .int 0, .int 0, .ref n]), kI 7, kI 10, kI 10, kI 6, .inr (4, [.ref n, .ref (n + 7)]), .inr (3, [.ref (n + 14), .ref (n + 15), .ref (n + 16), .ref (n + 17), .int 0]), kI 6, kI 128, kI 128, kI 128, .inr (5, [.ref (n + 19), .ref (n + 20), .ref (n + 21)]), .inl (0, 6, .inl (upd (upd (upd (upd (upd (upd (fun _ => 0) 0 (6)) 1 (6)) 2 (6)) 3 (6)) 4 (6)) 5 (6))), kI 6, kL 360, .inr (2, [.ref (n + 23), .ref (n + 24), .ref (n + 25), .ref (n + 26), .int 0, .int 0, .ref n]), kI 7, kI 10, kI 10, kI 6, .inr (1, [.ref (n + 28), .ref (n + 29), .ref (n + 30), .ref (n + 31), .ref (n + 12), .int 0, .int 0]), kI 40, kI 40, kI 40, kI 40, .inr (8, [.ref (n + 33), .ref (n + 38), .int 0, .int 0, .int 0]), .inr (3, [.ref (n + 34), .ref (n + 35), .ref (n + 36), .ref (n + 37), .int 0]), kI 6, kI 128, kI 128, kI 128, kI 120, .inr (6, [.null, .null, .null, .null])]) hn rfl dX11_init_106 rfl inX6 tyX6_ok clX11_63 iaX6 iiX6 (by decide) (fun _ => rfl) (Nat.le_of_ble_eq_true rfl) (Nat.le_of_ble_eq_true rfl) rfl rfl rfl ?_
  refine V0_dup (pc := 109) dX11_init_109 rfl ?_
  refine V0_aload_n (pc := 110) dX11_init_110 rfl ?_
  refine V0_aload_n (pc := 111) dX11_init_111 rfl ?_
  refine V0_aload (pc := 112) dX11_init_112 rfl ?_
  refine K_callI (pc := 114) (M' := mX6_init) (k := 39) (lb := [.inr (7, [.ref (n + 1), .ref (n + 2), .ref (n + 3), .ref (n + 4), .ref (n + 5), .ref (n + 6), .int 0, .int 0, .int (12), .int (5)]), kI 10, kI 10, kI 10, kI 10, kI 10, kI 10, .inr (2, [.ref (n + 8), .ref (n + 9), .ref (n + 10), .ref (n + 11), .int 0, .int 0, .ref n]), kI 7, kI 10, kI 10, kI 6, .inr (4, [.ref n, .ref (n + 7)]), .inr (3, [.ref (n + 14), .ref (n + 15), .ref (n + 16), .ref (n + 17), .int 0]), kI 6, kI 128, kI 128, kI 128, .inr (5, [.ref (n + 19), .ref (n + 20), .ref (n + 21)]), .inl (0, 6, .inl (upd (upd (upd (upd (upd (upd (fun _ => 0) 0 (6)) 1 (6)) 2 (6)) 3 (6)) 4 (6)) 5 (6))), kI 6, kL 360, .inr (2, [.ref (n + 23), .ref (n + 24), .ref (n + 25), .ref (n + 26), .int 0, .int 0, .ref n]), kI 7, kI 10, kI 10, kI 6, .inr (1, [.ref (n + 28), .ref (n + 29), .ref (n + 30), .ref (n + 31), .ref (n + 12), .int 0, .int 0]), kI 40, kI 40, kI 40, kI 40, .inr (8, [.ref (n + 33), .ref (n + 38), .int 0, .int 0, .int 0]), .inr (3, [.ref (n + 34), .ref (n + 35), .ref (n + 36), .ref (n + 37), .int 0]), kI 6, kI 128, kI 128, kI 128, kI 120, .inr (6, [.ref n, .ref (n + 7), .ref (n + 13), .ref (n + 40)]), kI 10]) hn dX11_init_114 mlX11_65 okX6_init (ci_X6 (n := n + 40) (p := n + 39) (q1 := n) (q2 := (n + 7)) (q3 := (n + 13)) (kh_len hn rfl rfl) ((kh_at (j := 39) hn).trans rfl)) rfl rfl ⟨(Nat.le_of_ble_eq_true rfl), (Nat.le_of_ble_eq_true rfl)⟩ (Nat.le_of_ble_eq_true rfl) (Nat.le_of_ble_eq_true rfl) (Nat.le_of_ble_eq_true rfl) rfl rfl ?_
  refine K_putF (pc := 117) (fs' := [.ref n, .ref (n + 7), .ref (n + 22), .ref (n + 12), .ref (n + 27), .ref (n + 32), .ref (n + 13), .ref (n + 39), .null, .null, .null, .null, .int 0, .int 0, .int 0]) hl dX11_init_117 flX11_68 rfl rfl (Nat.le_of_ble_eq_true rfl) (fun _ => rfl) (fun _ => rfl) rfl ?_
  refine V0_aload_n (pc := 120) dX11_init_120 rfl ?_
  refine K_new (pc := 121) (ci := 9) (N := 6) (fs := [.null, .null, .null, .null, .int 0, .int 0]) (k := 41) (nn := n + 41) (lb := [.inr (7, [.ref (n + 1), .ref (n + 2), .ref (n + 3), .ref (n + 4), .ref (n + 5), .ref (n + 6), .int 0, .int 0, .int (12), .int (5)]), kI 10, kI 10, kI 10, kI 10, kI 10, kI 10, .inr (2, [.ref (n + 8), .ref (n + 9), .ref (n + 10), .ref (n + 11), .int 0, .int 0, .ref n]), kI 7, kI 10, kI 10, kI 6, .inr (4, [.ref n, .ref (n + 7)]), .inr (3, [.ref (n + 14), .ref (n + 15), .ref (n + 16), .ref (n + 17), .int 0]), kI 6, kI 128, kI 128, kI 128, .inr (5, [.ref (n + 19), .ref (n + 20), .ref (n + 21)]), .inl (0, 6, .inl (upd (upd (upd (upd (upd (upd (fun _ => 0) 0 (6)) 1 (6)) 2 (6)) 3 (6)) 4 (6)) 5 (6))), kI 6, kL 360, .inr (2, [.ref (n + 23), .ref (n + 24), .ref (n + 25), .ref (n + 26), .int 0, .int 0, .ref n]), kI 7, kI 10, kI 10, kI 6, .inr (1, [.ref (n + 28), .ref (n + 29), .ref (n + 30), .ref (n + 31), .ref (n + 12), .int 0, .int 0]), kI 40, kI 40, kI 40, kI 40, .inr (8, [.ref (n + 33), .ref (n + 38), .int 0, .int 0, .int 0]), .inr (3, [.ref (n + 34), .ref (n + 35), .ref (n + 36), .ref (n + 37), .int 0]), kI 6, kI 128, kI 128, kI 128, kI 120, .inr (6, [.ref n, .ref (n + 7), .ref (n + 13), .ref (n + 40)]), kI 10, .inr (9, [.null, .null, .null, .null, .int 0, .int 0])]) hn rfl dX11_init_121 rfl inX9 tyX9_ok clX11_72 iaX9 iiX9 (by decide) (fun _ => rfl) (Nat.le_of_ble_eq_true rfl) (Nat.le_of_ble_eq_true rfl) rfl rfl rfl ?_
  refine V0_dup (pc := 124) dX11_init_124 rfl ?_
  refine V0_aload_n (pc := 125) dX11_init_125 rfl ?_
  refine V0_aload_n (pc := 126) dX11_init_126 rfl ?_
  refine V0_aload (pc := 127) dX11_init_127 rfl ?_
  refine K_callI (pc := 129) (M' := mX9_init) (k := 41) (lb := [.inr (7, [.ref (n + 1), .ref (n + 2), .ref (n + 3), .ref (n + 4), .ref (n + 5), .ref (n + 6), .int 0, .int 0, .int (12), .int (5)]), kI 10, kI 10, kI 10, kI 10, kI 10, kI 10, .inr (2, [.ref (n + 8), .ref (n + 9), .ref (n + 10), .ref (n + 11), .int 0, .int 0, .ref n]), kI 7, kI 10, kI 10, kI 6, .inr (4, [.ref n, .ref (n + 7)]), .inr (3, [.ref (n + 14), .ref (n + 15), .ref (n + 16), .ref (n + 17), .int 0]), kI 6, kI 128, kI 128, kI 128, .inr (5, [.ref (n + 19), .ref (n + 20), .ref (n + 21)]), .inl (0, 6, .inl (upd (upd (upd (upd (upd (upd (fun _ => 0) 0 (6)) 1 (6)) 2 (6)) 3 (6)) 4 (6)) 5 (6))), kI 6, kL 360, .inr (2, [.ref (n + 23), .ref (n + 24), .ref (n + 25), .ref (n + 26), .int 0, .int 0, .ref n]), kI 7, kI 10, kI 10, kI 6, .inr (1, [.ref (n + 28), .ref (n + 29), .ref (n + 30), .ref (n + 31), .ref (n + 12), .int 0, .int 0]), kI 40, kI 40, kI 40, kI 40, .inr (8, [.ref (n + 33), .ref (n + 38), .int 0, .int 0, .int 0]), .inr (3, [.ref (n + 34), .ref (n + 35), .ref (n + 36), .ref (n + 37), .int 0]), kI 6, kI 128, kI 128, kI 128, kI 120, .inr (6, [.ref n, .ref (n + 7), .ref (n + 13), .ref (n + 40)]), kI 10, .inr (9, [.ref n, .ref (n + 7), .ref (n + 42), .ref (n + 18), .int 0, .int 0]), .inr (2, [.ref (n + 43), .ref (n + 44), .ref (n + 45), .ref (n + 46), .int 0, .int 0, .ref n]), kI 7, kI 10, kI 10, kI 6]) hn dX11_init_129 mlX11_74 okX9_init (ci_X9 (n := n + 42) (p := n + 41) (q1 := n) (q2 := (n + 7)) (q3 := (n + 18)) (kh_len hn rfl rfl) ((kh_at (j := 41) hn).trans rfl)) rfl rfl ⟨(Nat.le_of_ble_eq_true rfl), (Nat.le_of_ble_eq_true rfl)⟩ (Nat.le_of_ble_eq_true rfl) (Nat.le_of_ble_eq_true rfl) (Nat.le_of_ble_eq_true rfl) rfl rfl ?_
  refine K_putF (pc := 132) (fs' := [.ref n, .ref (n + 7), .ref (n + 22), .ref (n + 12), .ref (n + 27), .ref (n + 32), .ref (n + 13), .ref (n + 39), .ref (n + 41), .null, .null, .null, .int 0, .int 0, .int 0]) hl dX11_init_132 flX11_77 rfl rfl (Nat.le_of_ble_eq_true rfl) (fun _ => rfl) (fun _ => rfl) rfl ?_
  refine V0_aload_n (pc := 135) dX11_init_135 rfl ?_
  refine K_new (pc := 136) (ci := 10) (N := 6) (fs := [.null, .null, .null, .null, .int 0, .int 0]) (k := 47) (nn := n + 47) (lb := [.inr (7, [.ref (n + 1), .ref (n + 2), .ref (n + 3), .ref (n + 4), .ref (n + 5), .ref (n + 6), .int 0, .int 0, .int (12), .int (5)]), kI 10, kI 10, kI 10, kI 10, kI 10, kI 10, .inr (2, [.ref (n + 8), .ref (n + 9), .ref (n + 10), .ref (n + 11), .int 0, .int 0, .ref n]), kI 7, kI 10, kI 10, kI 6, .inr (4, [.ref n, .ref (n + 7)]), .inr (3, [.ref (n + 14), .ref (n + 15), .ref (n + 16), .ref (n + 17), .int 0]), kI 6, kI 128, kI 128, kI 128, .inr (5, [.ref (n + 19), .ref (n + 20), .ref (n + 21)]), .inl (0, 6, .inl (upd (upd (upd (upd (upd (upd (fun _ => 0) 0 (6)) 1 (6)) 2 (6)) 3 (6)) 4 (6)) 5 (6))), kI 6, kL 360, .inr (2, [.ref (n + 23), .ref (n + 24), .ref (n + 25), .ref (n + 26), .int 0, .int 0, .ref n]), kI 7, kI 10, kI 10, kI 6, .inr (1, [.ref (n + 28), .ref (n + 29), .ref (n + 30), .ref (n + 31), .ref (n + 12), .int 0, .int 0]), kI 40, kI 40, kI 40, kI 40, .inr (8, [.ref (n + 33), .ref (n + 38), .int 0, .int 0, .int 0]), .inr (3, [.ref (n + 34), .ref (n + 35), .ref (n + 36), .ref (n + 37), .int 0]), kI 6, kI 128, kI 128, kI 128, kI 120, .inr (6, [.ref n, .ref (n + 7), .ref (n + 13), .ref (n + 40)]), kI 10, .inr (9, [.ref n, .ref (n + 7), .ref (n + 42), .ref (n + 18), .int 0, .int 0]), .inr (2, [.ref (n + 43), .ref (n + 44), .ref (n + 45), .ref (n + 46), .int 0, .int 0, .ref n]), kI 7, kI 10, kI 10, kI 6, .inr (10, [.null, .null, .null, .null, .int 0, .int 0])]) hn rfl dX11_init_136 rfl inX10 tyX10_ok clX11_81 iaX10 iiX10 (by decide) (fun _ => rfl) (Nat.le_of_ble_eq_true rfl) (Nat.le_of_ble_eq_true rfl) rfl rfl rfl ?_
  refine V0_dup (pc := 139) dX11_init_139 rfl ?_
  refine V0_aload_n (pc := 140) dX11_init_140 rfl ?_
  refine V0_aload_n (pc := 141) dX11_init_141 rfl ?_
  refine K_callI (pc := 142) (M' := mX10_init) (k := 47) (lb := [.inr (7, [.ref (n + 1), .ref (n + 2), .ref (n + 3), .ref (n + 4), .ref (n + 5), .ref (n + 6), .int 0, .int 0, .int (12), .int (5)]), kI 10, kI 10, kI 10, kI 10, kI 10, kI 10, .inr (2, [.ref (n + 8), .ref (n + 9), .ref (n + 10), .ref (n + 11), .int 0, .int 0, .ref n]), kI 7, kI 10, kI 10, kI 6, .inr (4, [.ref n, .ref (n + 7)]), .inr (3, [.ref (n + 14), .ref (n + 15), .ref (n + 16), .ref (n + 17), .int 0]), kI 6, kI 128, kI 128, kI 128, .inr (5, [.ref (n + 19), .ref (n + 20), .ref (n + 21)]), .inl (0, 6, .inl (upd (upd (upd (upd (upd (upd (fun _ => 0) 0 (6)) 1 (6)) 2 (6)) 3 (6)) 4 (6)) 5 (6))), kI 6, kL 360, .inr (2, [.ref (n + 23), .ref (n + 24), .ref (n + 25), .ref (n + 26), .int 0, .int 0, .ref n]), kI 7, kI 10, kI 10, kI 6, .inr (1, [.ref (n + 28), .ref (n + 29), .ref (n + 30), .ref (n + 31), .ref (n + 12), .int 0, .int 0]), kI 40, kI 40, kI 40, kI 40, .inr (8, [.ref (n + 33), .ref (n + 38), .int 0, .int 0, .int 0]), .inr (3, [.ref (n + 34), .ref (n + 35), .ref (n + 36), .ref (n + 37), .int 0]), kI 6, kI 128, kI 128, kI 128, kI 120, .inr (6, [.ref n, .ref (n + 7), .ref (n + 13), .ref (n + 40)]), kI 10, .inr (9, [.ref n, .ref (n + 7), .ref (n + 42), .ref (n + 18), .int 0, .int 0]), .inr (2, [.ref (n + 43), .ref (n + 44), .ref (n + 45), .ref (n + 46), .int 0, .int 0, .ref n]), kI 7, kI 10, kI 10, kI 6, .inr (10, [.ref n, .ref (n + 7), .ref (n + 48), .ref (n + 49), .int 0, .int 0]), kI 7, kZ 128]) hn dX11_init_142 mlX11_83 okX10_init (ci_X10 (n := n + 48) (p := n + 47) (q1 := n) (q2 := (n + 7)) (kh_len hn rfl rfl) ((kh_at (j := 47) hn).trans rfl)) rfl rfl ⟨(Nat.le_of_ble_eq_true rfl), (Nat.le_of_ble_eq_true rfl)⟩ (Nat.le_of_ble_eq_true rfl) (Nat.le_of_ble_eq_true rfl) (Nat.le_of_ble_eq_true rfl) rfl rfl ?_
  refine K_putF (pc := 145) (fs' := [.ref n, .ref (n + 7), .ref (n + 22), .ref (n + 12), .ref (n + 27), .ref (n + 32), .ref (n + 13), .ref (n + 39), .ref (n + 41), .ref (n + 47), .null, .null, .int 0, .int 0, .int 0]) hl dX11_init_145 flX11_84 rfl rfl (Nat.le_of_ble_eq_true rfl) (fun _ => rfl) (fun _ => rfl) rfl ?_
  refine V0_aload_n (pc := 148) dX11_init_148 rfl ?_
  refine K_new (pc := 149) (ci := 0) (N := 5) (fs := [.null, .null, .int 0, .int 0, .int 0]) (k := 50) (nn := n + 50) (lb := [.inr (7, [.ref (n + 1), .ref (n + 2), .ref (n + 3), .ref (n + 4), .ref (n + 5), .ref (n + 6), .int 0, .int 0, .int (12), .int (5)]), kI 10, kI 10, kI 10, kI 10, kI 10, kI 10, .inr (2, [.ref (n + 8), .ref (n + 9), .ref (n + 10), .ref (n + 11), .int 0, .int 0, .ref n]), kI 7, kI 10, kI 10, kI 6, .inr (4, [.ref n, .ref (n + 7)]), .inr (3, [.ref (n + 14), .ref (n + 15), .ref (n + 16), .ref (n + 17), .int 0]), kI 6, kI 128, kI 128, kI 128, .inr (5, [.ref (n + 19), .ref (n + 20), .ref (n + 21)]), .inl (0, 6, .inl (upd (upd (upd (upd (upd (upd (fun _ => 0) 0 (6)) 1 (6)) 2 (6)) 3 (6)) 4 (6)) 5 (6))), kI 6, kL 360, .inr (2, [.ref (n + 23), .ref (n + 24), .ref (n + 25), .ref (n + 26), .int 0, .int 0, .ref n]), kI 7, kI 10, kI 10, kI 6, .inr (1, [.ref (n + 28), .ref (n + 29), .ref (n + 30), .ref (n + 31), .ref (n + 12), .int 0, .int 0]), kI 40, kI 40, kI 40, kI 40, .inr (8, [.ref (n + 33), .ref (n + 38), .int 0, .int 0, .int 0]), .inr (3, [.ref (n + 34), .ref (n + 35), .ref (n + 36), .ref (n + 37), .int 0]), kI 6, kI 128, kI 128, kI 128, kI 120, .inr (6, [.ref n, .ref (n + 7), .ref (n + 13), .ref (n + 40)]), kI 10, .inr (9, [.ref n, .ref (n + 7), .ref (n + 42), .ref (n + 18), .int 0, .int 0]), .inr (2, [.ref (n + 43), .ref (n + 44), .ref (n + 45), .ref (n + 46), .int 0, .int 0, .ref n]), kI 7, kI 10, kI 10, kI 6, .inr (10, [.ref n, .ref (n + 7), .ref (n + 48), .ref (n + 49), .int 0, .int 0]), kI 7, kZ 128, .inr (0, [.null, .null, .int 0, .int 0, .int 0])]) hn rfl dX11_init_149 rfl inX0 tyX0_ok clX11_88 iaX0 iiX0 (by decide) (fun _ => rfl) (Nat.le_of_ble_eq_true rfl) (Nat.le_of_ble_eq_true rfl) rfl rfl rfl ?_
  refine V0_dup (pc := 152) dX11_init_152 rfl ?_
  refine K_callIN (pc := 153) (M' := mX0_init) (host := "GladSide") (k := 50) (lb := [.inr (7, [.ref (n + 1), .ref (n + 2), .ref (n + 3), .ref (n + 4), .ref (n + 5), .ref (n + 6), .int 0, .int 0, .int (12), .int (5)]), kI 10, kI 10, kI 10, kI 10, kI 10, kI 10, .inr (2, [.ref (n + 8), .ref (n + 9), .ref (n + 10), .ref (n + 11), .int 0, .int 0, .ref n]), kI 7, kI 10, kI 10, kI 6, .inr (4, [.ref n, .ref (n + 7)]), .inr (3, [.ref (n + 14), .ref (n + 15), .ref (n + 16), .ref (n + 17), .int 0]), kI 6, kI 128, kI 128, kI 128, .inr (5, [.ref (n + 19), .ref (n + 20), .ref (n + 21)]), .inl (0, 6, .inl (upd (upd (upd (upd (upd (upd (fun _ => 0) 0 (6)) 1 (6)) 2 (6)) 3 (6)) 4 (6)) 5 (6))), kI 6, kL 360, .inr (2, [.ref (n + 23), .ref (n + 24), .ref (n + 25), .ref (n + 26), .int 0, .int 0, .ref n]), kI 7, kI 10, kI 10, kI 6, .inr (1, [.ref (n + 28), .ref (n + 29), .ref (n + 30), .ref (n + 31), .ref (n + 12), .int 0, .int 0]), kI 40, kI 40, kI 40, kI 40, .inr (8, [.ref (n + 33), .ref (n + 38), .int 0, .int 0, .int 0]), .inr (3, [.ref (n + 34), .ref (n + 35), .ref (n + 36), .ref (n + 37), .int 0]), kI 6, kI 128, kI 128, kI 128, kI 120, .inr (6, [.ref n, .ref (n + 7), .ref (n + 13), .ref (n + 40)]), kI 10, .inr (9, [.ref n, .ref (n + 7), .ref (n + 42), .ref (n + 18), .int 0, .int 0]), .inr (2, [.ref (n + 43), .ref (n + 44), .ref (n + 45), .ref (n + 46), .int 0, .int 0, .ref n]), kI 7, kI 10, kI 10, kI 6, .inr (10, [.ref n, .ref (n + 7), .ref (n + 48), .ref (n + 49), .int 0, .int 0]), kI 7, kZ 128, .inr (0, [.ref (n + 51), .ref (n + 52), .int 0, .int 0, .int 0]), kI 50, kI 24]) hn dX11_init_153 (by decide +kernel) okX0_init (ci_X0 (n := n + 51) (p := n + 50)  (kh_len hn rfl rfl) ((kh_at (j := 50) hn).trans rfl)) rfl rfl ⟨(Nat.le_of_ble_eq_true rfl), (Nat.le_of_ble_eq_true rfl)⟩ (Nat.le_of_ble_eq_true rfl) (Nat.le_of_ble_eq_true rfl) (Nat.le_of_ble_eq_true rfl) rfl rfl ?_
  refine K_putF (pc := 156) (fs' := [.ref n, .ref (n + 7), .ref (n + 22), .ref (n + 12), .ref (n + 27), .ref (n + 32), .ref (n + 13), .ref (n + 39), .ref (n + 41), .ref (n + 47), .ref (n + 50), .null, .int 0, .int 0, .int 0]) hl dX11_init_156 flX11_91 rfl rfl (Nat.le_of_ble_eq_true rfl) (fun _ => rfl) (fun _ => rfl) rfl ?_
  refine V0_aload_n (pc := 159) dX11_init_159 rfl ?_
  refine V0_aload (pc := 160) dX11_init_160 rfl ?_
  refine K_putF (pc := 162) (fs' := [.ref n, .ref (n + 7), .ref (n + 22), .ref (n + 12), .ref (n + 27), .ref (n + 32), .ref (n + 13), .ref (n + 39), .ref (n + 41), .ref (n + 47), .ref (n + 50), .ref (n + 18), .int 0, .int 0, .int 0]) hl dX11_init_162 flX11_95 rfl rfl (Nat.le_of_ble_eq_true rfl) (fun _ => rfl) (fun _ => rfl) rfl ?_
  exact V0_end none ⟨dX11_init_165, rfl⟩ rfl ⟨rfl, rfl⟩

