/-! THE CLAIM OUT OF ONE WALK OF THE LAW'S BODY. Your part is whole_start (and what it stands on); all else here is the same for every law, but numbers. -/
def R_law : String := "GladSideLaw"
def lw_P (b : Addr) (xs : List Int32) (args : Array Value) (s : State) : Prop := args = #[.ref b] ∧ s.IntsAt b xs ∧ xs.length ≤ 3072 ∧ (Jvm.Cond.and given_1 narrow_1).before args s = true
def lw_Q (_ : Array Value) (s : State) (o : Outcome) (t : State) : Prop := o = .returned (some (.int 1)) ∧ Framed s o t [] 600000 7302250
def lw_Z (below : List Frame) (a : Array Value) (s : State) : State → Prop := fun t => ∃ o, t.status = .running ∧ Ended t below o ∧ lw_Q a s o t
/-- the law's own end, with 1 on the stack, nothing written that was there before, its room as the claim has it -/
theorem lw_ret {p : Program} {l : Launch} {e : Env} {s : State} {m : MethodId} {below : List Frame} {meth : Method} {c : Code} {b : Nat} (hx : p.tables.exec = Jvm.exec) (hb : c.code = code) (hr : meth.sig.returnType = ret) (hlocks : meth.locks = false) {pc : Nat} {H : Heap} {ls : Array Slot} (hdg : decode code pc = .ok (.ireturn, 1)) : W p l e room_1 s m #[Value.ref b] below meth c H [] 600000 7302250 (lw_Z below #[Value.ref b] s) (F0 m pc ls [.int 1]) := by
  intro T hT X
  obtain ⟨fs, hret, hrun, hended, hW, hframe⟩ := X.leave (v := some (.int 1)) (hlocks := hlocks) (fun h => by rw [hr] at h; cases h)
  have hmeth' : T.vm.method? m = some meth := X.method'
  refine ⟨T.setFrames fs, ?_, .returned (some (.int 1)), hrun, hended, rfl, ⟨_, rfl⟩, hW, hframe⟩
  jvm_step X.here [X.here.top, hx, hb, hdg, hmeth', hr, ret, narrow_b1]
  (try refine ⟨rfl, ?_⟩); (try refine ⟨rfl, ?_⟩)
  first | (intro acts; rw [hret _ acts rfl rfl rfl]) | rw [hret _ _ rfl rfl rfl]
  exact Steps.refl _
/-- what holds at the law's entry: the machine, the code, the tables' words (any of lw_tbl by 'hts w (by decide +kernel)'), the script of L ints xs at the cell b, what the Statement gives of the start (any of its parts by flat_of_before) -/
def lw_At (p : Program) (s : State) (m : MethodId) (meth : Method) (c : Code) (b L : Nat) (xs : Nat → Int32) : Prop :=
  p.tables.exec = Jvm.exec ∧ c.code = code ∧ meth.sig.returnType = ret ∧ c.maxLocals = 4 ∧ s.vm.findClass R_law = some m.cls ∧ (∀ w ∈ lw_tbl, w.before #[Value.ref b] s = true) ∧ va_X b L xs s s.heap ∧ b < s.heap.size ∧ meth.locks = false ∧ (Jvm.Cond.and given_1 narrow_1).before #[Value.ref b] s = true ∧ meth.name = "law"
-- ===== YOUR PART BEGINS =====
theorem ws_cls {s : State} {args : Array Value} (hts : ∀ w ∈ px_tbl, w.before args s = true) : ∃ (dC : Nat → ClassId) (dI : Nat → Nat → Nat), ∀ (k : Nat) (q : vw_C), vwCl[k]? = some q → u_Kn s q.1 q.2.1 q.2.2 (dC k) (dI k) := by
  have go : ∀ (k : Nat) (C : String) (T : u_T) (N : Nat), (∀ w ∈ u_ws C T N, w ∈ px_tbl) → Cond.instantiable C N ∈ px_tbl → vwCl[k]? = some (C, T, N) → ∃ x : ClassId × (Nat → Nat), ∀ q : vw_C, vwCl[k]? = some q → u_Kn s q.1 q.2.1 q.2.2 x.1 x.2 := by
    intro k C T N hin hi hk
    obtain ⟨cC, iS, h⟩ := u_known (n := N) hts hin (hts _ hi)
    refine ⟨(cC, iS), fun q hq => ?_⟩
    have e : (C, T, N) = q := Option.some.inj (hk.symm.trans hq)
    subst e
    exact h
  have h0 : ∀ k : Nat, ∃ x : ClassId × (Nat → Nat), ∀ q : vw_C, vwCl[k]? = some q → u_Kn s q.1 q.2.1 q.2.2 x.1 x.2 := by
    intro k
    match k with
    | 0 => exact go 0 RX0 TX0 5 inX0 iaX0 rfl
    | 1 => exact go 1 RX1 TX1 7 inX1 iaX1 rfl
    | 2 => exact go 2 RX2 TX2 7 inX2 iaX2 rfl
    | 3 => exact go 3 RX3 TX3 5 inX3 iaX3 rfl
    | 4 => exact go 4 RX4 TX4 2 inX4 iaX4 rfl
    | 5 => exact go 5 RX5 TX5 3 inX5 iaX5 rfl
    | 6 => exact go 6 RX6 TX6 4 inX6 iaX6 rfl
    | 7 => exact go 7 RX7 TX7 10 inX7 iaX7 rfl
    | 8 => exact go 8 RX8 TX8 5 inX8 iaX8 rfl
    | 9 => exact go 9 RX9 TX9 6 inX9 iaX9 rfl
    | 10 => exact go 10 RX10 TX10 6 inX10 iaX10 rfl
    | 11 => exact go 11 RX11 TX11 15 inX11 iaX11 rfl
    | 12 => exact go 12 RX12 TX12 59 inX12 iaX12 rfl
    | k + 13 =>
      obtain ⟨x, _⟩ := go 0 RX0 TX0 5 inX0 iaX0 rfl
      exact ⟨x, fun q hq => by simp [vwCl] at hq⟩
  obtain ⟨f, hf⟩ := Classical.axiomOfChoice h0
  exact ⟨fun k => (f k).1, fun k => (f k).2, hf⟩
theorem ws_arr {s : State} {args : Array Value} {ty : FieldType} (hty : ∀ C, ty ≠ .object C) (h : (Cond.arrayClass ty).before args s = true) : ∃ cA : ClassId, ArrOfT s cA ty ∧ va_RA s cA ty := by
  obtain ⟨cA, kA, comp, h1, h2, h3⟩ := Cond.arrayClass_spec h
  refine ⟨cA, fun n z => ⟨fun k h => (by cases h), kA, h2, comp, h3⟩, ?_⟩
  cases ty with
  | object C => exact absurd rfl (hty C)
  | _ => exact h1
theorem ws_tab {s : State} {args : Array Value} {A : Nat → Prop} (hs : ∀ c ∈ flatC (Jvm.Cond.and given_1 narrow_1), c.before args s = true) (hts : ∀ w ∈ lw_tbl, w.before args s = true) {C n : String} {N : Nat} {l : List Int32} (hN : N < 2 ^ 31) (h1 : Cond.arrayOf (.static C n "[I") .int ∈ flatC (Jvm.Cond.and given_1 narrow_1)) (h2 : Cond.eq (.length (.static C n "[I")) (.int (Int32.ofNat N)) ∈ flatC (Jvm.Cond.and given_1 narrow_1)) (h3 : ∀ j, j < N → Cond.eq (.elem (.static C n "[I") (.int (Int32.ofNat j))) (.int (px_lst l j)) ∈ flatC (Jvm.Cond.and given_1 narrow_1)) (h4 : Cond.laysStatic C n "[I" ∈ lw_tbl) (h5 : Cond.initialized C ∈ lw_tbl) (hA : ∀ a : Nat, a < s.heap.size → ¬ A a) : ∃ t : Nat, va_Z C n "[I" (.ref t) A s s.heap ∧ va_T .int t N (fun j => .int (px_lst l j)) A s s.heap := by
  obtain ⟨t, ht, hT⟩ := va_Tof (tm := .static C n "[I") (ty := .int) (f := fun j => .int (px_lst l j)) (A := A) hN (hs _ h1) (va_eqt (hs _ h2)) (fun j hj => va_eqt (hs _ (h3 j hj))) hA
  exact ⟨t, va_Zof (hts _ h4) (hts _ h5) ht hA, hT⟩
theorem ws_nest : ∀ q ∈ px_nest, Cond.methodLinkNest q.1 q.2.1 q.2.2.1 q.2.2.2 ∈ lw_tbl := by decide +kernel
theorem ws_tbs {s : State} {args : Array Value} {A : Nat → Prop} (hs : ∀ c ∈ flatC (Jvm.Cond.and given_1 narrow_1), c.before args s = true) (hts : ∀ w ∈ lw_tbl, w.before args s = true) (hA : ∀ a : Nat, a < s.heap.size → ¬ A a) : ∃ t0 t1 t2 t3 : Nat, (va_Z "GladSide$Numbers" "LEAST" "[I" (.ref t0) A s s.heap ∧ va_T .int t0 12 (fun j => .int (px_lst [0, 0, 1, 0, 0, 0, 0, 0, 0, 2, 1, 0] j)) A s s.heap) ∧ (va_Z "GladSide$Numbers" "MOST" "[I" (.ref t1) A s s.heap ∧ va_T .int t1 12 (fun j => .int (px_lst [11, 99, 9, 40, 9, 3, 9, 1, 1, 30, 9, 199] j)) A s s.heap) ∧ (va_Z "GladSide$Acts" "ABOVE" "[I" (.ref t2) A s s.heap ∧ va_T .int t2 8 (fun j => .int (px_lst [-1, 0, 0, 2, 1, 3, 0, 6] j)) A s s.heap) ∧ (va_Z "GladSide$Acts" "OWN" "[I" (.ref t3) A s s.heap ∧ va_T .int t3 32 (fun j => .int (px_lst [1, 10, 11, 2, 20, 0, 0, 0, 0, 30, 0, 0, 0, 41, 40, 0, 0, 0, 0, 50, 0, 0, 60, 61, 70, 0, 0, 0, 81, 80, 0, 0] j)) A s s.heap) := by
  obtain ⟨t0, h0⟩ := ws_tab (C := "GladSide$Numbers") (n := "LEAST") (N := 12) (l := [0, 0, 1, 0, 0, 0, 0, 0, 0, 2, 1, 0]) hs hts (by decide) (by decide +kernel) (by decide +kernel) (by decide +kernel) (by decide +kernel) (by decide +kernel) hA
  obtain ⟨t1, h1⟩ := ws_tab (C := "GladSide$Numbers") (n := "MOST") (N := 12) (l := [11, 99, 9, 40, 9, 3, 9, 1, 1, 30, 9, 199]) hs hts (by decide) (by decide +kernel) (by decide +kernel) (by decide +kernel) (by decide +kernel) (by decide +kernel) hA
  obtain ⟨t2, h2⟩ := ws_tab (C := "GladSide$Acts") (n := "ABOVE") (N := 8) (l := [-1, 0, 0, 2, 1, 3, 0, 6]) hs hts (by decide) (by decide +kernel) (by decide +kernel) (by decide +kernel) (by decide +kernel) (by decide +kernel) hA
  obtain ⟨t3, h3⟩ := ws_tab (C := "GladSide$Acts") (n := "OWN") (N := 32) (l := [1, 10, 11, 2, 20, 0, 0, 0, 0, 30, 0, 0, 0, 41, 40, 0, 0, 0, 0, 50, 0, 0, 60, 61, 70, 0, 0, 0, 81, 80, 0, 0]) hs hts (by decide) (by decide +kernel) (by decide +kernel) (by decide +kernel) (by decide +kernel) (by decide +kernel) hA
  exact ⟨t0, t1, t2, t3, h0, h1, h2, h3⟩
/-- YOUR PART: from the entry, for every script of at most 3072 ints, the law comes to its end with true -/
theorem whole_start {p : Program} {e : Env} {s : State} {m : MethodId} {below : List Frame} {meth : Method} {c : Code} (l : Launch) (hflags : l.flags = flags0) {b L : Nat} {xs : Nat → Int32} (hL : L ≤ 3072) (C0 : lw_At p s m meth c b L xs) : W p l e room_1 s m #[Value.ref b] below meth c s.heap [] 0 0 (lw_Z below #[Value.ref b] s) (entryFrame m ([Value.ref b] : List Value).toArray 4) := by
  obtain ⟨hx, hb, hr, hml, hown, hts, hX, hbl, hlocks, hgv, hnm⟩ := C0
  have hs := flat_of_before _ hgv
  have htp : ∀ w ∈ px_tbl, w.before #[Value.ref b] s = true := fun w hw => hts w (List.mem_filter.mp hw).1
  obtain ⟨A, eA⟩ : ∃ A : Nat → Prop, A = fun q : Nat => s.heap.size ≤ q := ⟨_, rfl⟩
  have hA0 : ∀ q : Nat, s.heap.size ≤ q → A q := fun q h => by rw [eA]; exact h
  have hA1 : ∀ q : Nat, q < s.heap.size → ¬ A q := fun q h g => by rw [eA] at g; exact absurd g (Nat.not_le.mpr h)
  have hA2 : ∀ q : Nat, A q → s.heap.size ≤ q := fun q g => by rw [eA] at g; exact g
  obtain ⟨dC, dI, hKc⟩ := ws_cls htp
  obtain ⟨a0, g0⟩ := ws_arr (ty := .int) (fun C q => by cases q) (htp _ ac_int)
  obtain ⟨a1, g1⟩ := ws_arr (ty := .byte) (fun C q => by cases q) (htp _ ac_byte)
  obtain ⟨a2, g2⟩ := ws_arr (ty := .boolean) (fun C q => by cases q) (htp _ ac_boolean)
  obtain ⟨a3, g3⟩ := ws_arr (ty := .short) (fun C q => by cases q) (htp _ ac_short)
  obtain ⟨a4, g4⟩ := ws_arr (ty := .long) (fun C q => by cases q) (htp _ ac_long)
  obtain ⟨t0, t1, t2, t3, z0, z1, z2, z3⟩ := ws_tbs hs hts hA1
  obtain ⟨E, eE⟩ : ∃ E : px_G, E = (dC, dI, (fun t => if t = 0 then a0 else if t = 1 then a1 else if t = 2 then a2 else if t = 3 then a3 else a4), (fun p => s.heap.size + p), (fun i => if i = 0 then t0 else if i = 1 then t1 else if i = 2 then t2 else if i = 3 then t3 else b)) := ⟨_, rfl⟩
  have hK : px_K E s := by
    subst eE
    refine ⟨hKc, fun k q hq => ?_⟩
    match k, hq with
    | 0, hq => cases hq; exact g0
    | 1, hq => cases hq; exact g1
    | 2, hq => cases hq; exact g2
    | 3, hq => cases hq; exact g3
    | 4, hq => cases hq; exact g4
    | k + 5, hq => simp [px_tys] at hq
  have hT4 : va_T .int b L (fun j => .int (xs j)) A s s.heap := by
    obtain ⟨scr, x1, x2, x3, x4, x5⟩ := hX
    exact ⟨scr, x1, x2, x3, Nat.le_of_eq x4.symm, by rw [x4], x5, hA1 b hbl⟩
  have hS : px_S E [(L, xs)] A s s.heap := by
    subst eE
    refine ⟨fun i q hq => ?_, fun i q hq => ?_⟩
    · match i, hq with
      | 0, hq => cases hq; exact z0.1
      | 1, hq => cases hq; exact z1.1
      | 2, hq => cases hq; exact z2.1
      | 3, hq => cases hq; exact z3.1
      | i + 4, hq => simp [px_stt] at hq
    · match i, hq with
      | 0, hq => cases hq; exact z0.2
      | 1, hq => cases hq; exact z1.2
      | 2, hq => cases hq; exact z2.2
      | 3, hq => cases hq; exact z3.2
      | 4, hq => cases hq; exact hT4
      | i + 5, hq => simp [px_tab, px_stt] at hq
  have hZ : px_Z true E 0 s.heap := by
    subst eE
    intro _ j
    show s.heap.size + (0 + j) = s.heap.size + j
    omega
  have hN : px_N s := fun q hq => va_Nw.of rfl (hts _ (ws_nest q hq))
  have hpv : ([Value.float 4].map (px_v E)) = [Value.ref b] := by
    subst eE
    rfl
  have hl := lv_entry ([Value.float 4].map (px_v E)) (n := 4) (by rw [hpv]; exact Nat.le_of_ble_eq_true rfl)
  rw [← hpv, lg_entry_eq]
  refine lw_V1 (l := l) (xs := xs) hL E p e s m _ below meth c A s.heap [] _ _ ⟨hx, hb, hml, hown, (by rw [hpv]; exact htp), hnm, hN⟩ ⟨hK, fun k q h => by simp [px_w] at h, ⟨fun i j p q h => by simp [px_w] at h, fun k q h => by simp [px_w] at h⟩, va_S.rf, hA0, hZ, hS⟩ (Nat.zero_le _) (Nat.zero_le _) (px_L.entry E hl) ?_
  intro r h' H' locs' kc' ks' pc' lr' hq hAt h1 h2 hret
  obtain ⟨I', J', _, hq⟩ := hq
  have hq : r = some (.int 1) := hq
  subst hq
  refine va_forget (fun q hq => hA2 _ (hAt.2.2.2.1.2.2 q hq)) ?_
  refine W.widen (k := 600000) (n := 7302250) h1 h2 ?_
  exact lw_ret hx hb hr hlocks hret.1
-- ===== YOUR PART ENDS =====
set_option maxHeartbeats 4000000 in
theorem lw_walk (l : Launch) (hflags : l.flags = flags0) (b : Addr) (xs : List Int32) : MetFree l x (headSpec (Jvm.Cond.code x code maxLocals ret :: tables_1) room_1) (lw_P b xs) (fun _ _ _ _ _ => True) lw_Q := by
  refine MetFree.of_bodyS (code := code) (maxLocals := maxLocals) (ret := ret) (by decide) ?_ ?_
  · intro args s m h hn
    obtain ⟨meth, c, h1, h2, h3, h4, h5, h6, -, -⟩ := Cond.code_spec hn (atoms_spec (ws := Jvm.Cond.code x code maxLocals ret :: tables_1) h _ List.mem_cons_self)
    exact ⟨meth, c, h1, h2, h3, h4, h5, h6⟩
  · intro p e s m args below meth c s₁ B hml0 hP _
    obtain ⟨rfl, hx, hbd, hgv⟩ := hP
    obtain ⟨scr, harrAt, hlist, hof, hsmall⟩ := hx
    obtain ⟨hcb, hkn, -, -⟩ := State.arrayAt?_spec harrAt
    have hown : s.vm.findClass R_law = some m.cls := findClass_of_methodNamed B.named
    have hts0 : ∀ c ∈ (Jvm.Cond.code x code maxLocals ret :: tables_1), c.before #[Value.ref b] s = true := atoms_spec (ws := Jvm.Cond.code x code maxLocals ret :: tables_1) B.pre
    have hts : ∀ w ∈ lw_tbl, w.before #[Value.ref b] s = true := k2_hts_sels lw_privs (fun w hw => hts0 w (List.mem_cons_of_mem _ hw)) lw_privs_ok
    have hml : c.maxLocals = 4 := B.maxLocals_eq (hts0 _ List.mem_cons_self)
    have X₀ : Stand p l e room_1 s m #[Value.ref b] below meth c s₁ [] 0 0 := Stand.of_body B
    have hh0 : s₁.heap = s.heap := by rw [B.state]; rfl
    have hsz : scr.slots.size = xs.length := by rw [← Array.length_toList, hlist, List.length_map]
    have hval : ∀ j : Nat, j < xs.length → scr.slots[j]? = some (.int (xs.getD j 0)) := fun j hj => by
      rw [← Array.getElem?_toList, hlist]
      simp [hj]
    have hbl : b < s.heap.size := (Array.getElem?_eq_some_iff.mp hcb).1
    have hX : va_X b xs.length (fun j => xs.getD j 0) s s.heap := ⟨scr, hcb, hof, hkn, hsz, hval⟩
    have K : W p l e room_1 s m #[Value.ref b] below meth c s₁.heap [] 0 0 (lw_Z below #[Value.ref b] s) (entryFrame m ([Value.ref b] : List Value).toArray 4) := by
      rw [hh0]
      exact whole_start l hflags hbd ⟨B.exec, B.bytes, B.returns, hml, hown, hts, hX, hbl, B.notSynchronized, hgv, (name_of_methodNamed B.named B.method).1⟩
    obtain ⟨t, a1, o, b1, b2, b3⟩ := K s₁ rfl X₀
    exact ⟨t, o, a1, b1, b2, b3⟩
theorem lw_pre_spec {args : Array Value} {s : State} (h : (Jvm.Cond.and given_1 narrow_1).before args s = true) (hr : rest_1_c.before args s = true) : ∃ (b : Addr) (xs : List Int32), lw_P b xs args s := by
  have hs := flat_of_before _ h
  have hq := flat_of_before _ hr
  have hc : (Cond.count 1).before args s = true := hs _ (by decide +kernel)
  have harr : (Cond.arrayOf (.arg 0) .int).before args s = true := hs _ (by decide +kernel)
  have hle : (Cond.le (.length (.arg 0)) (.int 3072)).before args s = true := hs _ (by decide +kernel)
  have hlen : (Cond.isInt (.length (.arg 0))).before args s = true := hq _ (by decide +kernel)
  have hall : (Cond.all (.arg 0) (.isInt (.elem (.arg 0) (.index 0)))).before args s = true := hq _ (by decide +kernel)
  obtain ⟨b, xs, hb, hx⟩ := State.ints_of_pre rfl harr hlen hall
  have hsm : xs.length < 2 ^ 31 := hx.choose_spec.2.2.2
  have hev : (Term.length (.arg 0)).eval args s none [] s = some (.int xs.length.toInt32) := hx.length_eval hb
  have hv := Cond.le_ints hev (show (Term.int 3072).eval args s none [] s = some (.int 3072) from rfl)
  have hd : xs.length.toInt32 ≤ 3072 := by
    simpa [Cond.before, Cond.holds, hv] using hle
  have hN : xs.length ≤ 3072 := (Int32.ofNat_le_ofNat hsm (by decide)).mp (show Int32.ofNat xs.length ≤ Int32.ofNat 3072 from hd)
  exact ⟨b, xs, Cond.one_arg hc (show args[0]? = some (.ref b) from hb), hx, hN, h⟩
theorem lw_comes (l : Launch) (hflags : l.flags = flags0) : Comes l x (Jvm.Cond.code x code maxLocals ret :: tables_1) room_1 (fun tb e args s => Calls_1 tb e args s ∧ rest_1 tb e args s ∧ Pre_1 tb e args s)
    (fun _ _ args s o t => lw_Q args s o t) := by
  intro p e ha hc hk s m args below hf hfit hheap happ hpre
  obtain ⟨b, xs, hP⟩ := lw_pre_spec hpre.2.2 hpre.2.1
  obtain ⟨k, o, h1, h2, h3, hQ⟩ := lw_walk l hflags b xs p e ha hc hk s m args below hf ((Spec.applies_iff_loose hf).mp happ).1 hP trivial
  exact ⟨k, o, h1, h2, h3, hQ⟩
theorem lw_frame {s t : State} {o : Outcome} {args : Array Value} (h : Framed s o t [] 600000 7302250) :
    Framed s o t (fieldLocs frame_1_writes args s ++ arrayLocs frame_1_arrays args s ++ staticLocs frame_1_statics s) 600000 7302250 := h
theorem lw_limb (L : Cond) (hL : ∀ (args : Array Value) (s t : State), L.after args s (.returned (some (.int 1))) t = true) :
    ArmFor flags0 classFile x code maxLocals ret World_1 tables_1 room_1 Calls_1 rest_1 Pre_1
      (fun tb e a s o t => postC L tb e a s o t ∧ Framed s o t (fieldLocs frame_1_writes a s ++ arrayLocs frame_1_arrays a s ++ staticLocs frame_1_statics s) 600000 7302250) := by
  intro l hflags _ _ p e ha hc hk s m args below hf hfit hheap happ hpre
  obtain ⟨k, o, h1, h2, h3, rfl, hF⟩ := lw_comes l hflags p e ha hc hk s m args below hf hfit hheap happ hpre
  exact ⟨k, _, h1, h2, h3, hL args s _, lw_frame hF⟩
theorem i_vc : Claimed_1_1 ∧ Claimed_1_2 := ⟨lw_limb limb_1_1 (fun args s t => by simp [limb_1_1, Cond.after, Cond.holds, Cond.value]), lw_limb limb_1_2 (fun args s t => Cond.after_iff.mpr (by
  first | (rw [show limb_1_2 = Cond.eq .result (.int 1) from rfl, Cond.eq_ints (x := 1) (y := 1) rfl rfl]; simp; done) | (simp [limb_1_2, Cond.value, Term.eval]; done)))⟩

