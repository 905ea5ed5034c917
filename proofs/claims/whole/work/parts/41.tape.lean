/-! reading the tape: live and dead states -/
def g_T (B : Nat → Int32) (n : Nat) : Nat → Int32 := fun i => if i < n then B i else -1
theorem g_T_end {B : Nat → Int32} {n : Nat} : ∀ i, n ≤ i → g_T B n i = -1 := fun i h => if_neg (by omega)
def ps (B : Nat → Int32) (n a k : Nat) (I : px_I) : Prop := I 33 2 = nI n ∧ n ≤ 120 ∧ I 33 3 = nI a ∧ a ≤ n ∧ I 33 4 = 0 ∧ I 34 4 = nI k ∧ I 39 = B
def pd (B : Nat → Int32) (n a k : Nat) (I : px_I) : Prop := I 33 2 = nI n ∧ n ≤ 120 ∧ I 33 3 = nI a ∧ a ≤ n ∧ (¬ I 33 4 = 0 ∨ T_dg (g_next I) = true) ∧ I 34 4 = nI k ∧ I 39 = B
theorem ps.next {B : Nat → Int32} {n a k : Nat} {I : px_I} (h : ps B n a k I) : g_next I = g_T B n a := by
  obtain ⟨h1, h2, h3, h4, h5, h6, h7⟩ := h
  unfold g_next g_T
  rw [h1, h3, ix_nI (by omega), h7]
  by_cases q : a < n
  · rw [if_pos q, if_pos ⟨h5, (qI_lt (by omega) (by omega)).mpr q, (qI_lt (b := 120) (by omega) (by omega)).mpr (by omega)⟩]
  · rw [if_neg q, if_neg (fun z => q ((qI_lt (by omega) (by omega)).mp z.2.1))]
theorem ps.dead {B : Nat → Int32} {n a k : Nat} {I : px_I} (h : ps B n a k I) (hd : T_dg (g_T B n a) = true) : pd B n a k I :=
  ⟨h.1, h.2.1, h.2.2.1, h.2.2.2.1, Or.inr (by rw [h.next]; exact hd), h.2.2.2.2.2.1, h.2.2.2.2.2.2⟩
theorem ps.fail {B : Nat → Int32} {n a k : Nat} {I : px_I} (h : ps B n a k I) : pd B n a k (px_up I 33 4 1) :=
  ⟨h.1, h.2.1, h.2.2.1, h.2.2.2.1, Or.inl (fun q => absurd (show (1 : Int32) = 0 from q) (by decide)), h.2.2.2.2.2.1, h.2.2.2.2.2.2⟩
theorem pd.fail {B : Nat → Int32} {n a k : Nat} {I : px_I} (h : pd B n a k I) : pd B n a k (px_up I 33 4 1) :=
  ⟨h.1, h.2.1, h.2.2.1, h.2.2.2.1, Or.inl (fun q => absurd (show (1 : Int32) = 0 from q) (by decide)), h.2.2.2.2.2.1, h.2.2.2.2.2.2⟩
theorem ps.adv {B : Nat → Int32} {n a k : Nat} {I : px_I} (h : ps B n a k I) (ha : a < n) : ps B n (a + 1) k (px_up I 33 3 (nI (a + 1))) :=
  ⟨h.1, h.2.1, rfl, ha, h.2.2.2.2.1, h.2.2.2.2.2.1, h.2.2.2.2.2.2⟩
theorem ps.lt {B : Nat → Int32} {n a k : Nat} {I : px_I} (_ : ps B n a k I) (ha : ¬ g_T B n a = -1) : a < n := Nat.lt_of_not_le (fun q => ha (g_T_end a q))
theorem g_add_eq {I : px_I} {k : Nat} {s t : Int32} (hk : k < 128) : g_lawAdd I 34 k s t = px_up (px_up (px_up I 36 k s) 37 k t) 34 4 (nI (k + 1)) := if_pos hk
theorem ps.add {B : Nat → Int32} {n a k : Nat} {I : px_I} {s t : Int32} (h : ps B n a k I) (hk : k < 128) : ps B n a (k + 1) (g_lawAdd I 34 k s t) := by
  rw [g_add_eq hk]; exact ⟨h.1, h.2.1, h.2.2.1, h.2.2.2.1, h.2.2.2.2.1, rfl, h.2.2.2.2.2.2⟩
theorem pd.add {B : Nat → Int32} {n a k : Nat} {I : px_I} {s t : Int32} (h : pd B n a k I) (hk : k < 128) : pd B n a (k + 1) (g_lawAdd I 34 k s t) := by
  rw [g_add_eq hk]; exact ⟨h.1, h.2.1, h.2.2.1, h.2.2.2.1, h.2.2.2.2.1, rfl, h.2.2.2.2.2.2⟩
theorem pd.ne {B : Nat → Int32} {n a k : Nat} {I : px_I} {c : Int32} (h : pd B n a k I) (h1 : ¬ c = -1) (h2 : T_dg c = false) : ¬ g_next I = c := by
  intro e
  rcases h.2.2.2.2.1 with q | q
  · exact h1 (by rw [← e]; unfold g_next; exact if_neg (fun z => q z.1))
  · rw [e, h2] at q; cases q
/-- what is kept, what is laid -/
def kc (I I' : px_I) (k : Nat) (c : List l_C) : Prop := (∀ i, i < k → I' 36 i = I 36 i ∧ I' 37 i = I 37 i) ∧ codeAt I' 34 k c
def pf (I I' : px_I) : Prop := ∀ q, q ≠ 33 → q ≠ 34 → q ≠ 36 → q ≠ 37 → I' q = I q
theorem pf.tr {I I' I2 : px_I} (h : pf I I') (g : pf I' I2) : pf I I2 := fun q a b c d => (g q a b c d).trans (h q a b c d)
theorem pf.rf {I : px_I} : pf I I := fun _ _ _ _ _ => rfl
theorem pf.up {I : px_I} {k : Nat} {x : Int32} : pf I (px_up I 33 k x) := fun _ a _ _ _ => px_up_row a
theorem pf.add {I : px_I} {k : Nat} {s t : Int32} : pf I (g_lawAdd I 34 k s t) := by
  intro q a b c d
  unfold g_lawAdd
  split
  · rw [px_up_row b, px_up_row d, px_up_row c]
  · rfl
theorem codeAt_below {I I' : px_I} : ∀ (c : List l_C) (k : Nat), (∀ i, i < k + c.length → I' 36 i = I 36 i ∧ I' 37 i = I 37 i) → codeAt I 34 k c → codeAt I' 34 k c := by
  intro c
  induction c with
  | nil => intro k _ _; trivial
  | cons x c ih =>
    intro k h hc
    have := h k (by simp)
    exact ⟨this.1.trans hc.1, this.2.trans hc.2.1, ih (k + 1) (fun i hi => h i (by simp only [List.length_cons]; omega)) hc.2.2⟩
theorem kc.tr {I I1 I2 : px_I} {k : Nat} {c c' : List l_C} (h : kc I I1 k c) (g : kc I1 I2 (k + c.length) c') : kc I I2 k (c ++ c') :=
  ⟨fun i hi => ⟨(g.1 i (by omega)).1.trans (h.1 i hi).1, (g.1 i (by omega)).2.trans (h.1 i hi).2⟩, (codeAt_app c c' k).mpr ⟨codeAt_below c k g.1 h.2, g.2⟩⟩
theorem kc.rf {I : px_I} {k : Nat} : kc I I k [] := ⟨fun _ _ => ⟨rfl, rfl⟩, trivial⟩
theorem kc.up {I I' : px_I} {k j : Nat} {x : Int32} {c : List l_C} (h : kc (px_up I 33 j x) I' k c) : kc I I' k c := h
theorem kc.add {I : px_I} {k : Nat} {s t : Int32} (hk : k < 128) : kc I (g_lawAdd I 34 k s t) k [(s, t)] := by
  rw [g_add_eq hk]
  refine ⟨fun i hi => ⟨?_, ?_⟩, ?_, ?_, trivial⟩
  · rw [px_up_row (by omega), px_up_row (by omega), px_up_ne (by omega)]
  · rw [px_up_row (by omega), px_up_ne (by omega), px_up_row (by omega)]
  · exact (congrFun (px_up_row (by omega)) k).trans ((congrFun (px_up_row (by omega)) k).trans px_up_same)
  · exact (congrFun (px_up_row (by omega)) k).trans px_up_same
/-- what a reading comes to -/
def oc (B : Nat → Int32) (n L r a k : Nat) (I I' : px_I) : Prop := pf I I' ∧ ((∃ a' c, Pr (g_T B n) L r a a' true c ∧ ps B n a' (k + c.length) I' ∧ kc I I' k c) ∨ (∃ a' k', Pr (g_T B n) L r a a' false [] ∧ pd B n a' k' I' ∧ k' + a ≤ k + a'))
section OC
variable {B : Nat → Int32} {n L r a b b' k k' : Nat} {c : List l_C} {I I1 I2 I4 : px_I}
theorem oc_stop (hL : L < 5) (ho : T_op (L + 1) (g_T B n b) = false) (h : ps B n b k I) : oc B n (11 + L) r b k I I :=
  ⟨pf.rf, Or.inl ⟨b, [], Pr.stop hL ho, h, kc.rf⟩⟩
theorem Pr.fitB {L r a a' : Nat} {ok : Bool} {c : List l_C} (p : Pr (g_T B n) L r a a' ok c) : a ≤ a' ∧ (a ≤ n → a' ≤ n) ∧ (ok = true → a + c.length ≤ a' ∧ ∀ h, chk (if L < 11 then h else h + 1) c = some (h + 1)) := Pr.fit (n := n) g_T_end p
theorem oc_step {j : Nat} {x : Int32} (hL : L < 5) (h2 : ¬ L = 2) (ho : T_op (L + 1) (g_T B n b) = true) (hpf : pf (px_up I1 33 j x) I2) (hp : Pr (g_T B n) L r (b + 1) b' true c) (hkc : kc (px_up I1 33 j x) I2 k c) (hk : k + c.length < 128) (hoc : oc B n (11 + L) r b' (k + c.length + 1) (g_lawAdd I2 34 (k + c.length) (g_T B n b) 0) I4) : oc B n (11 + L) r b k I1 I4 := by
  obtain ⟨hf, ⟨a', c', q1, q2, q3⟩ | ⟨a', k', q1, q2, q3⟩⟩ := hoc
  · refine ⟨((pf.up.tr hpf).tr pf.add).tr hf, Or.inl ⟨a', c ++ (g_T B n b, 0) :: c', Pr.step hL h2 ho hp q1, ?_, ?_⟩⟩
    · have e : k + (c ++ (g_T B n b, (0 : Int32)) :: c').length = k + c.length + 1 + c'.length := by simp only [List.length_append, List.length_cons]; omega
      rw [e]; exact q2
    · have := (kc.tr (kc.up hkc) (kc.add (s := g_T B n b) (t := 0) hk)).tr (c' := c') (by simp only [List.length_append, List.length_cons, List.length_nil]; exact q3)
      rw [List.append_assoc] at this
      exact this
  · refine ⟨((pf.up.tr hpf).tr pf.add).tr hf, Or.inr ⟨a', k', Pr.stepY hL h2 ho hp q1, q2, ?_⟩⟩
    have := (hp.fitB.2.2 rfl).1
    omega
theorem oc_stepX {j : Nat} {x s : Int32} (hL : L < 5) (ho : T_op (L + 1) (g_T B n b) = true) (hpf : pf (px_up I1 33 j x) I2) (hp : Pr (g_T B n) L r (b + 1) b' false []) (hd : pd B n b' k' I2) (hle : k' + (b + 1) ≤ k + b') (hk : k' < 128) : oc B n (11 + L) r b k I1 (g_lawAdd I2 34 k' s 0) :=
  ⟨(pf.up.tr hpf).tr pf.add, Or.inr ⟨b', k' + 1, Pr.stepX hL ho hp, hd.add hk, by omega⟩⟩
theorem oc_once {j : Nat} {x : Int32} (ho : T_op 3 (g_T B n b) = true) (hpf : pf (px_up I1 33 j x) I2) (hp : Pr (g_T B n) 2 r (b + 1) b' true c) (hkc : kc (px_up I1 33 j x) I2 k c) (hs : ps B n b' (k + c.length) I2) (hk : k + c.length < 128) : oc B n 13 r b k I1 (g_lawAdd I2 34 (k + c.length) (g_T B n b) 0) := by
  refine ⟨(pf.up.tr hpf).tr pf.add, Or.inl ⟨b', c ++ [(g_T B n b, 0)], Pr.once ho hp, ?_, kc.tr (kc.up hkc) (kc.add hk)⟩⟩
  have e : k + (c ++ [(g_T B n b, (0 : Int32))]).length = k + c.length + 1 := by simp only [List.length_append, List.length_cons, List.length_nil]; omega
  rw [e]; exact hs.add hk
theorem oc_lev (hL : L < 5) (hpf : pf I I1) (hp : Pr (g_T B n) L r a b true c) (hkc : kc I I1 k c) (hoc : oc B n (11 + L) r b (k + c.length) I1 I2) : oc B n (L + 1) r a k I I2 := by
  obtain ⟨hf, ⟨a', c', q1, q2, q3⟩ | ⟨a', k', q1, q2, q3⟩⟩ := hoc
  · refine ⟨hpf.tr hf, Or.inl ⟨a', c ++ c', Pr.lev hL hp q1, ?_, kc.tr hkc q3⟩⟩
    rw [List.length_append, ← Nat.add_assoc]; exact q2
  · refine ⟨hpf.tr hf, Or.inr ⟨a', k', Pr.levY hL hp q1, q2, ?_⟩⟩
    have := (hp.fitB.2.2 rfl).1
    omega
theorem oc_levX (hL : L < 5) (hpf : pf I I1) (hp : Pr (g_T B n) L r a b false []) (hd : pd B n b k' I1) (hle : k' + a ≤ k + b) : oc B n (L + 1) r a k I I1 :=
  ⟨hpf, Or.inr ⟨b, k', Pr.levX hL hp, hd, hle⟩⟩
end OC
theorem c_nextT {l : Launch} {B : Nat → Int32} {n a k : Nat} {I : px_I} {J : px_J} (h : ps B n a k I) : CtI l mX8_next 0 [.ref 33] I J (g_T B n a) := by
  have := c_X8_next (l := l) (J := J) h.2.2.1 (by have := h.2.2.2.1; have := h.2.1; omega)
  rw [h.next] at this
  exact this
theorem c_nextD {l : Launch} {B : Nat → Int32} {n a k : Nat} {I : px_I} {J : px_J} (h : pd B n a k I) : CtI l mX8_next 0 [.ref 33] I J (g_next I) := c_X8_next h.2.2.1 (by have := h.2.2.2.1; have := h.2.1; omega)
theorem c_takesT {l : Launch} {B : Nat → Int32} {n a k : Nat} {I : px_I} {J : px_J} {c : Int32} (h : ps B n a k I) : Ct l mX8_takes 1 [.ref 33, .int c] I J (px_qi (b2 (decide (g_T B n a = c))) (if g_T B n a = c then px_up I 33 3 (nI (a + 1)) else I) J) := by
  refine Ct.of plX8_takes (Nat.le_of_ble_eq_true rfl) [.ref 33, .int c] rfl ?_
  refine V0_aload_n (pc := 0) dX8_takes_0 rfl ?_
  refine V_callVi (pc := 1) (M' := mX8_next) dX8_takes_1 mlX8_41 okX8_next rfl (c_nextT h) rfl rfl rfl rfl ⟨Nat.le_of_ble_eq_true rfl, Nat.le_of_ble_eq_true rfl⟩ ⟨Nat.le_refl 0, Nat.le_refl 0⟩ (Nat.le_of_ble_eq_true rfl) ?_
  refine V0_iload_n (pc := 4) dX8_takes_4 rfl ?_
  refine V0_icmp_eq (pc := 5) 10 dX8_takes_5 (by decide) (fun h5 => ?_) (fun h5 => ?_)
  · skip
    refine V0_aload_n (pc := 10) dX8_takes_10 rfl ?_
    refine V0_dup (pc := 11) dX8_takes_11 rfl ?_
    refine V_geti (pc := 12) dX8_takes_12 flX8_24 rfl rfl ?_
    refine V0_iconst (pc := 15) (1) dX8_takes_15 (by decide) ?_
    refine V0_iadd (pc := 16) dX8_takes_16 ?_
    rw [h.2.2.1, nI_1]
    refine V_puti (pc := 17) dX8_takes_17 flX8_24 rfl rfl ?_
    refine V0_iconst (pc := 20) (1) dX8_takes_20 (by decide) ?_
    refine V_retz (pc := 21) _ dX8_takes_21 rfl (Or.inr rfl) ?_
    exact ⟨by rw [decide_eq_true h5]; rfl, by rw [if_pos h5], rfl⟩
  · skip
    refine V0_iconst (pc := 8) (0) dX8_takes_8 (by decide) ?_
    refine V_retz (pc := 9) _ dX8_takes_9 rfl (Or.inl rfl) ?_
    exact ⟨by rw [decide_eq_false h5]; rfl, by rw [if_neg h5], rfl⟩
theorem c_takesD {l : Launch} {B : Nat → Int32} {n a k : Nat} {I : px_I} {J : px_J} {c : Int32} (h : pd B n a k I) (h1 : ¬ c = -1) (h2 : T_dg c = false) : Ct l mX8_takes 1 [.ref 33, .int c] I J (px_qi (b2 false) I J) := by
  refine Ct.of plX8_takes (Nat.le_of_ble_eq_true rfl) [.ref 33, .int c] rfl ?_
  refine V0_aload_n (pc := 0) dX8_takes_0 rfl ?_
  refine V_callVi (pc := 1) (M' := mX8_next) dX8_takes_1 mlX8_41 okX8_next rfl (c_nextD h) rfl rfl rfl rfl ⟨Nat.le_of_ble_eq_true rfl, Nat.le_of_ble_eq_true rfl⟩ ⟨Nat.le_refl 0, Nat.le_refl 0⟩ (Nat.le_of_ble_eq_true rfl) ?_
  refine V0_iload_n (pc := 4) dX8_takes_4 rfl ?_
  refine V0_icmp_eq (pc := 5) 10 dX8_takes_5 (by decide) (fun h5 => ?_) (fun h5 => ?_)
  · skip
    exact absurd h5 (h.ne h1 h2)
  · skip
    refine V0_iconst (pc := 8) (0) dX8_takes_8 (by decide) ?_
    refine V_retz (pc := 9) _ dX8_takes_9 rfl (Or.inl rfl) ?_
    exact ⟨rfl, rfl, rfl⟩
def G_lev (l : Launch) (B : Nat → Int32) (n L : Nat) (M : px_M) (d r : Nat) : Prop := ∀ (I : px_I) (J : px_J) (a k : Nat), ps B n a k I → k ≤ a → Ct l M d [.ref 33, .int (nI (6 - r))] I J (fun x I' J' => x = none ∧ J' = J ∧ oc B n L r a k I I')

