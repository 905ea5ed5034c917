/-! lines and texts -/
def PLn (T : Nat → Int32) (a a' : Nat) (L : l_L) : Prop := (L.1 = [] ∧ Pr T 5 6 a a' true L.2 ∧ ¬ T a' = 63) ∨ (∃ b, Pr T 5 6 a b true L.1 ∧ T b = 63 ∧ Pr T 5 6 (b + 1) a' true L.2)
def PLx (T : Nat → Int32) (a a' : Nat) : Prop := Pr T 5 6 a a' false [] ∨ ∃ b c, Pr T 5 6 a b true c ∧ T b = 63 ∧ Pr T 5 6 (b + 1) a' false []
def PTt (T : Nat → Int32) : List l_L → Nat → Nat → Prop
  | [], b, e => e = b ∧ ¬ T b = 59
  | L :: Ls, b, e => T b = 59 ∧ ∃ b', PLn T (b + 1) b' L ∧ PTt T Ls b' e
def PTx (T : Nat → Int32) (n : Nat) : Nat → Nat → Nat → Prop
  | 0, b, e => (¬ T b = 59 ∧ b < n ∧ e = b) ∨ (T b = 59 ∧ PLx T (b + 1) e)
  | m + 1, b, e => T b = 59 ∧ ∃ b' L, PLn T (b + 1) b' L ∧ PTx T n m b' e
theorem l_line_len {k : Nat} {L : l_L} : (l_line k L).length = L.2.length + 1 ∨ (l_line k L).length = L.1.length + 1 + L.2.length + 1 := by
  obtain ⟨t, c⟩ := L
  cases t with
  | nil => left; simp [l_line]
  | cons x xs => right; simp [l_line]; omega
theorem PLn.fit {B : Nat → Int32} {n a a' k : Nat} {L : l_L} (p : PLn (g_T B n) a a' L) : a + (l_line k L).length ≤ a' + 1 ∧ a < a' ∧ (a ≤ n → a' ≤ n) ∧ l_good L := by
  have pos : ∀ c : List l_C, chk 0 c = some 1 → 0 < c.length := by
    intro c h
    cases c with
    | nil => cases h
    | cons x xs => simp
  obtain ⟨t, c⟩ := L
  rcases p with ⟨e, p, _⟩ | ⟨b, p, hb, p2⟩
  · obtain ⟨f1, f2, f3⟩ := p.fitB
    obtain ⟨f4, f5⟩ := f3 rfl
    have g := f5 0
    have := pos _ g
    obtain rfl : t = [] := e
    have f6 : a + c.length ≤ a' := f4
    refine ⟨by simp [l_line]; omega, by omega, f2, g, Or.inl rfl⟩
  · obtain ⟨f1, f2, f3⟩ := p.fitB
    obtain ⟨f4, f5⟩ := f3 rfl
    obtain ⟨q1, q2, q3⟩ := p2.fitB
    obtain ⟨q4, q5⟩ := q3 rfl
    have hbn : b < n := Nat.lt_of_not_le (fun q => by rw [g_T_end b q] at hb; exact absurd hb (by decide))
    refine ⟨?_, by omega, fun h => q2 (by omega), q5 0, Or.inr (f5 0)⟩
    have := pos _ (f5 0)
    rcases l_line_len (k := k) (L := (t, c)) with e | e <;> rw [e] <;> simp only <;> simp only at f4 q4 <;> omega
theorem codeAt_rng {I I' : px_I} : ∀ (c : List l_C) (k : Nat), (∀ i, k ≤ i → i < k + c.length → I' 36 i = I 36 i ∧ I' 37 i = I 37 i) → codeAt I 34 k c → codeAt I' 34 k c := by
  intro c
  induction c with
  | nil => intro k _ _; trivial
  | cons x c ih =>
    intro k h hc
    have := h k (by omega) (by simp)
    exact ⟨this.1.trans hc.1, this.2.trans hc.2.1, ih (k + 1) (fun i h1 hi => h i (by omega) (by simp only [List.length_cons]; omega)) hc.2.2⟩
theorem codeAt_set {I : px_I} {k : Nat} {c d : List l_C} {s v w : Int32} (h : codeAt I 34 k (c ++ (s, v) :: d)) : codeAt (px_up I 37 (k + c.length) w) 34 k (c ++ (s, w) :: d) := by
  obtain ⟨h1, h2⟩ := (codeAt_app c ((s, v) :: d) k).mp h
  refine (codeAt_app c ((s, w) :: d) k).mpr ⟨codeAt_rng c k (fun i h1 h2 => ⟨by rw [px_up_row (by omega)], px_up_ne (by omega)⟩) h1, ?_⟩
  exact ⟨(congrFun (px_up_row (by omega)) _).trans h2.1, px_up_same, codeAt_rng d _ (fun i h1 h2 => ⟨by rw [px_up_row (by omega)], px_up_ne (by omega)⟩) h2.2.2⟩
def lo (B : Nat → Int32) (n a k : Nat) (I I' : px_I) : Prop := pf I I' ∧ ((∃ a' L, PLn (g_T B n) a a' L ∧ ps B n a' (k + (l_line k L).length) I' ∧ kc I I' k (l_line k L)) ∨ (∃ a' k', PLx (g_T B n) a a' ∧ pd B n a' k' I' ∧ k' ≤ a' + 1))
theorem A_end {l : Launch} {k : Nat} {I : px_I} {J : px_J} {Q : px_Q} {x : Value} (hk : I 34 4 = nI k) (hk8 : k < 128) (hQ : Q none (g_lawAdd I 34 k 59 0) J) : V0 l (px_rm 44 0 0) mX8_readLine (false, []) 0 0 52 [.ref 33, x] [] (px_mk I J) (px_q Q) := by
  have hk9 : k ≤ 128 := by omega
  refine V0_aload_n (pc := 52) dX8_readLine_52 rfl ?_
  refine V_getr (pc := 53) dX8_readLine_53 flX8_10 rfl rfl ?_
  refine V0_bipush (pc := 56) (59) dX8_readLine_56 (by decide) ?_
  refine V0_iconst (pc := 58) (0) dX8_readLine_58 (by decide) ?_
  refine V_callV (pc := 59) (M' := mX3_add) dX8_readLine_59 mlX8_49 okX3_add rfl (c_X3_add lw34 hk hk9) rfl rfl rfl rfl ⟨Nat.le_of_ble_eq_true rfl, Nat.le_of_ble_eq_true rfl⟩ ⟨Nat.le_refl 0, Nat.le_refl 0⟩ (Nat.le_of_ble_eq_true rfl) ?_
  intro r1 I1 J1 hh
  obtain ⟨e1, e2, e3⟩ := hh
  rw [e1, e2, e3]
  clear e1 e2 e3 r1 I1 J1
  refine V0_pop (pc := 62) dX8_readLine_62 rfl ?_
  refine V_retv (pc := 63) dX8_readLine_63 rfl ?_
  exact hQ
theorem A_aim {l : Launch} {k t : Nat} {I : px_I} {J : px_J} {Q : px_Q} (hk : I 34 4 = nI k) (hk8 : k < 128) (ht : t ≤ k) (hQ : Q none (px_up (g_lawAdd I 34 k 59 0) 37 t (nI k)) J) : V0 l (px_rm 44 0 0) mX8_readLine (false, []) 0 0 30 [.ref 33, .int (nI t)] [] (px_mk I J) (px_q Q) := by
  have hk9 : k ≤ 128 := by omega
  have hk2 : g_lawAdd I 34 k 59 0 34 4 = nI (k + 1) := by rw [g_add_eq hk8]; exact px_up_same
  refine V0_aload_n (pc := 30) dX8_readLine_30 rfl ?_
  refine V_getr (pc := 31) dX8_readLine_31 flX8_10 rfl rfl ?_
  refine V0_bipush (pc := 34) (59) dX8_readLine_34 (by decide) ?_
  refine V0_iconst (pc := 36) (0) dX8_readLine_36 (by decide) ?_
  refine V_callV (pc := 37) (M' := mX3_add) dX8_readLine_37 mlX8_49 okX3_add rfl (c_X3_add lw34 hk hk9) rfl rfl rfl rfl ⟨Nat.le_of_ble_eq_true rfl, Nat.le_of_ble_eq_true rfl⟩ ⟨Nat.le_refl 0, Nat.le_refl 0⟩ (Nat.le_of_ble_eq_true rfl) ?_
  intro r1 I1 J1 hh
  obtain ⟨e1, e2, e3⟩ := hh
  rw [e1, e2, e3]
  clear e1 e2 e3 r1 I1 J1
  refine V0_pop (pc := 40) dX8_readLine_40 rfl ?_
  refine V0_aload_n (pc := 41) dX8_readLine_41 rfl ?_
  refine V_getr (pc := 42) dX8_readLine_42 flX8_10 rfl rfl ?_
  refine V0_iload_n (pc := 45) dX8_readLine_45 rfl ?_
  refine V_callV (pc := 46) (M' := mX3_aimTest) dX8_readLine_46 mlX8_53 okX3_aimTest rfl (c_X3_aimTest lw34 hk2 (by omega) (by omega)) rfl rfl rfl rfl ⟨Nat.le_of_ble_eq_true rfl, Nat.le_of_ble_eq_true rfl⟩ ⟨Nat.le_refl 0, Nat.le_refl 0⟩ (Nat.le_of_ble_eq_true rfl) ?_
  intro r1 I1 J1 hh
  obtain ⟨e1, e2, e3⟩ := hh
  rw [e1, e2, e3]
  clear e1 e2 e3 r1 I1 J1
  rw [if_pos (by omega)]
  refine V0_goto (pc := 49) 63 dX8_readLine_49 (by decide) ?_
  refine V_retv (pc := 63) dX8_readLine_63 rfl ?_
  exact hQ
theorem LN_dead {l : Launch} {B : Nat → Int32} {n b k : Nat} {I : px_I} {J : px_J} {Q : px_Q} {x : Value} (h : pd B n b k I) (hk8 : k < 128) (hQ : Q none (g_lawAdd I 34 k 59 0) J) : V0 l (px_rm 44 0 0) mX8_readLine (false, []) 0 0 5 [.ref 33, x] [] (px_mk I J) (px_q Q) := by
  refine V0_aload_n (pc := 5) dX8_readLine_5 rfl ?_
  refine V0_bipush (pc := 6) (63) dX8_readLine_6 (by decide) ?_
  refine V_callV (pc := 8) (M' := mX8_takes) dX8_readLine_8 mlX8_37 okX8_takes rfl (c_takesD h (by decide) (by decide)) rfl rfl rfl rfl ⟨Nat.le_of_ble_eq_true rfl, Nat.le_of_ble_eq_true rfl⟩ ⟨Nat.le_refl 0, Nat.le_refl 0⟩ (Nat.le_of_ble_eq_true rfl) ?_
  intro r1 I1 J1 hh
  obtain ⟨e1, e2, e3⟩ := hh
  rw [e1, e2, e3]
  clear e1 e2 e3 r1 I1 J1
  refine V_ifeqb (pc := 11) 52 dX8_readLine_11 (by decide) (fun h11 => ?_) (fun h11 => ?_)
  · skip
    exact A_end h.2.2.2.2.2.1 hk8 hQ
  · skip
    exact absurd h11 (by decide)
theorem ps.up37 {B : Nat → Int32} {n a k j : Nat} {x : Int32} {I : px_I} (h : ps B n a k I) : ps B n a k (px_up I 37 j x) := ⟨h.1, h.2.1, h.2.2.1, h.2.2.2.1, h.2.2.2.2.1, h.2.2.2.2.2.1, h.2.2.2.2.2.2⟩
theorem pd.up37 {B : Nat → Int32} {n a k j : Nat} {x : Int32} {I : px_I} (h : pd B n a k I) : pd B n a k (px_up I 37 j x) := ⟨h.1, h.2.1, h.2.2.1, h.2.2.2.1, h.2.2.2.2.1, h.2.2.2.2.2.1, h.2.2.2.2.2.2⟩
theorem pf.up37 {I : px_I} {k : Nat} {x : Int32} : pf I (px_up I 37 k x) := fun _ _ _ _ d => px_up_row d
theorem A_aimD {l : Launch} {B : Nat → Int32} {n a k t : Nat} {I : px_I} {J : px_J} {Q : px_Q} (h : pd B n a k I) (hk8 : k < 128) (ht : t < 128) (hQ : ∀ I', pf I I' → pd B n a (k + 1) I' → Q none I' J) : V0 l (px_rm 44 0 0) mX8_readLine (false, []) 0 0 30 [.ref 33, .int (nI t)] [] (px_mk I J) (px_q Q) := by
  have hk9 : k ≤ 128 := by omega
  have hk := h.2.2.2.2.2.1
  have hk2 : g_lawAdd I 34 k 59 0 34 4 = nI (k + 1) := by rw [g_add_eq hk8]; exact px_up_same
  have key : ∀ I', I' = (if t < k + 1 then px_up (g_lawAdd I 34 k 59 0) (34 + 3) t (nI (k + 1 - 1)) else g_lawAdd I 34 k 59 0) → Q none I' J := by
    intro I' e
    rw [e]
    split
    · exact hQ _ (pf.add.tr pf.up37) (h.add hk8).up37
    · exact hQ _ pf.add (h.add hk8)
  refine V0_aload_n (pc := 30) dX8_readLine_30 rfl ?_
  refine V_getr (pc := 31) dX8_readLine_31 flX8_10 rfl rfl ?_
  refine V0_bipush (pc := 34) (59) dX8_readLine_34 (by decide) ?_
  refine V0_iconst (pc := 36) (0) dX8_readLine_36 (by decide) ?_
  refine V_callV (pc := 37) (M' := mX3_add) dX8_readLine_37 mlX8_49 okX3_add rfl (c_X3_add lw34 hk hk9) rfl rfl rfl rfl ⟨Nat.le_of_ble_eq_true rfl, Nat.le_of_ble_eq_true rfl⟩ ⟨Nat.le_refl 0, Nat.le_refl 0⟩ (Nat.le_of_ble_eq_true rfl) ?_
  intro r1 I1 J1 hh
  obtain ⟨e1, e2, e3⟩ := hh
  rw [e1, e2, e3]
  clear e1 e2 e3 r1 I1 J1
  refine V0_pop (pc := 40) dX8_readLine_40 rfl ?_
  refine V0_aload_n (pc := 41) dX8_readLine_41 rfl ?_
  refine V_getr (pc := 42) dX8_readLine_42 flX8_10 rfl rfl ?_
  refine V0_iload_n (pc := 45) dX8_readLine_45 rfl ?_
  refine V_callV (pc := 46) (M' := mX3_aimTest) dX8_readLine_46 mlX8_53 okX3_aimTest rfl (c_X3_aimTest lw34 hk2 (by omega) (by omega)) rfl rfl rfl rfl ⟨Nat.le_of_ble_eq_true rfl, Nat.le_of_ble_eq_true rfl⟩ ⟨Nat.le_refl 0, Nat.le_refl 0⟩ (Nat.le_of_ble_eq_true rfl) ?_
  intro r1 I1 J1 hh
  obtain ⟨e1, e2, e3⟩ := hh
  rw [e1, e2, e3]
  clear e1 e2 e3 r1 I1 J1
  refine V0_goto (pc := 49) 63 dX8_readLine_49 (by decide) ?_
  refine V_retv (pc := 63) dX8_readLine_63 rfl ?_
  exact key _ rfl
theorem LN_two {l : Launch} {B : Nat → Int32} {n a b k : Nat} {c : List l_C} {I Ia I1 : px_I} {J : px_J} (hs : ps B n b (k + c.length) Ia) (hka : k ≤ a) (hp : Pr (g_T B n) 5 6 a b true c) (hpf : pf I Ia) (hkc : kc I Ia k c) (hlt : b < n) (eT : g_T B n b = 63) (hne : ∃ y ys, c = y :: ys) (hoc : oc B n 5 6 (b + 1) (k + c.length + 1) (g_lawAdd (px_up Ia 33 3 (nI (b + 1))) 34 (k + c.length) 63 0) I1) : V0 l (px_rm 44 0 0) mX8_readLine (false, []) 0 0 30 [.ref 33, .int (nI (k + c.length))] [] (px_mk I1 J) (px_q (fun x I' J' => x = none ∧ J' = J ∧ lo B n a k I I')) := by
  have hn120 := hs.2.1
  have hbn0 := hs.2.2.2.1
  obtain ⟨f1, f2, f3⟩ := hp.fitB
  obtain ⟨f4, f5⟩ := f3 rfl
  have hk8 : k + c.length < 128 := by omega
  obtain ⟨hpf2, ⟨bb, d, hp2, hs3, hkc2⟩ | ⟨bb, k2, hp2, hd3, hle⟩⟩ := hoc
  · obtain ⟨q1, q2, q3⟩ := hp2.fitB
    obtain ⟨q4, q5⟩ := q3 rfl
    have q6 := q2 (by omega)
    have hk82 : k + c.length + 1 + d.length < 128 := by omega
    refine A_aim hs3.2.2.2.2.2.1 (by omega) (by omega) ⟨rfl, rfl, ((((hpf.tr pf.up).tr pf.add).tr hpf2).tr pf.add).tr pf.up37, Or.inl ⟨bb, (c, d), Or.inr ⟨b, hp, eT, hp2⟩, ?_, ?_⟩⟩
    · have e : k + (l_line k (c, d)).length = k + c.length + 1 + d.length + 1 := by
        obtain ⟨y, ys, e⟩ := hne; subst e; simp [l_line]; omega
      rw [e]; exact (hs3.add hk82).up37
    · have k1 : kc I (g_lawAdd (px_up Ia 33 3 (nI (b + 1))) 34 (k + c.length) 63 0) k (c ++ [(63, 0)]) := kc.tr (c' := [(63, 0)]) hkc (kc.up (kc.add hk8))
      have k2 := kc.tr (c' := d) k1 (by rw [List.length_append]; exact hkc2)
      have k3 := kc.tr (c' := [(59, 0)]) k2 (by rw [show k + (c ++ [((63 : Int32), (0 : Int32))] ++ d).length = k + c.length + 1 + d.length by simp; omega]; exact kc.add (I := I1) (s := 59) (t := 0) hk82)
      have e : c ++ [((63 : Int32), (0 : Int32))] ++ d ++ [(59, 0)] = c ++ (63, 0) :: (d ++ [(59, 0)]) := by simp
      rw [e] at k3
      have e2 : l_line k (c, d) = c ++ (63, nI (k + c.length + 1 + d.length)) :: (d ++ [(59, 0)]) := by
        obtain ⟨y, ys, e⟩ := hne; subst e; rfl
      rw [e2]
      exact ⟨fun i hi => ⟨(congrFun (px_up_row (by omega)) i).trans (k3.1 i hi).1, (px_up_ne (by omega)).trans (k3.1 i hi).2⟩, codeAt_set k3.2⟩
  · have fit := hp2.fitB
    have q1 := fit.1
    have q2 := fit.2.1 (by omega)
    exact A_aimD hd3 (by omega) (by omega) (fun I2 g1 g2 => ⟨rfl, rfl, (((hpf.tr pf.up).tr pf.add).tr hpf2).tr g1, Or.inr ⟨bb, k2 + 1, Or.inr ⟨b, c, hp, eT, hp2⟩, g2, by omega⟩⟩)
theorem LN_live {l : Launch} {B : Nat → Int32} {n a b k : Nat} {c : List l_C} {I I1 : px_I} {J : px_J} {x : Value} (hs : ps B n b (k + c.length) I1) (hka : k ≤ a) (hp : Pr (g_T B n) 5 6 a b true c) (hpf : pf I I1) (hkc : kc I I1 k c) : V0 l (px_rm 44 0 0) mX8_readLine (false, []) 0 0 5 [.ref 33, x] [] (px_mk I1 J) (px_q (fun x I' J' => x = none ∧ J' = J ∧ lo B n a k I I')) := by
  have hn120 := hs.2.1
  have hbn0 := hs.2.2.2.1
  have hk := hs.2.2.2.2.2.1
  obtain ⟨f1, f2, f3⟩ := hp.fitB
  obtain ⟨f4, f5⟩ := f3 rfl
  have hne : ∃ y ys, c = y :: ys := by
    cases c with
    | nil => exact absurd (f5 0) (by decide)
    | cons y ys => exact ⟨y, ys, rfl⟩
  have hk8 : k + c.length < 128 := by omega
  have hk9 : k + c.length ≤ 128 := by omega
  have hg := (g_all (l := l) (B := B) (n := n) 6 (by omega)).2
  refine V0_aload_n (pc := 5) dX8_readLine_5 rfl ?_
  refine V0_bipush (pc := 6) (63) dX8_readLine_6 (by decide) ?_
  refine V_callV (pc := 8) (M' := mX8_takes) dX8_readLine_8 mlX8_37 okX8_takes rfl (c_takesT hs) rfl rfl rfl rfl ⟨Nat.le_of_ble_eq_true rfl, Nat.le_of_ble_eq_true rfl⟩ ⟨Nat.le_refl 0, Nat.le_refl 0⟩ (Nat.le_of_ble_eq_true rfl) ?_
  intro r1 I1 J1 hh
  obtain ⟨e1, e2, e3⟩ := hh
  rw [e1, e2, e3]
  clear e1 e2 e3 r1 I1 J1
  refine V_ifeqb (pc := 11) 52 dX8_readLine_11 (by decide) (fun h11 => ?_) (fun h11 => ?_)
  · skip
    rw [if_neg (of_decide_eq_false h11)]
    refine A_end hk hk8 ⟨rfl, rfl, hpf.tr pf.add, Or.inl ⟨b, ([], c), Or.inl ⟨rfl, hp, of_decide_eq_false h11⟩, ?_, ?_⟩⟩
    · have e : k + (l_line k ([], c)).length = k + c.length + 1 := by simp [l_line]; omega
      rw [e]; exact hs.add hk8
    · exact kc.tr hkc (kc.add hk8)
  · skip
    rw [if_pos (of_decide_eq_true h11)]
    have eT : g_T B n b = 63 := of_decide_eq_true h11
    have hlt := hs.lt (by rw [eT]; decide)
    have hs2 := hs.adv hlt
    have hk2 : px_up I1 33 3 (nI (b + 1)) 34 4 = nI (k + c.length) := hk
    refine V0_aload_n (pc := 14) dX8_readLine_14 rfl ?_
    refine V_getr (pc := 15) dX8_readLine_15 flX8_10 rfl rfl ?_
    refine V0_bipush (pc := 18) (63) dX8_readLine_18 (by decide) ?_
    refine V0_iconst (pc := 20) (0) dX8_readLine_20 (by decide) ?_
    refine V_callV (pc := 21) (M' := mX3_add) dX8_readLine_21 mlX8_49 okX3_add rfl (c_X3_add lw34 hk hk9) rfl rfl rfl rfl ⟨Nat.le_of_ble_eq_true rfl, Nat.le_of_ble_eq_true rfl⟩ ⟨Nat.le_refl 0, Nat.le_refl 0⟩ (Nat.le_of_ble_eq_true rfl) ?_
    intro r1 I1 J1 hh
    obtain ⟨e1, e2, e3⟩ := hh
    rw [e1, e2, e3]
    clear e1 e2 e3 r1 I1 J1
    rw [if_pos hk8]
    refine V0_istore_1 (pc := 24) dX8_readLine_24 (by decide) rfl ?_
    refine V0_aload_n (pc := 25) dX8_readLine_25 rfl ?_
    refine V0_iconst (pc := 26) (0) dX8_readLine_26 (by decide) ?_
    refine V_callV (pc := 27) (M' := mX8_readEither) dX8_readLine_27 mlX8_45 okX8_readEither rfl (hg _ J (b + 1) (k + c.length + 1) (hs2.add hk8) (by omega)) rfl rfl rfl rfl ⟨Nat.le_of_ble_eq_true rfl, Nat.le_of_ble_eq_true rfl⟩ ⟨Nat.le_refl 0, Nat.le_refl 0⟩ (Nat.le_of_ble_eq_true rfl) ?_
    intro r1 I1 J1 hh
    obtain ⟨e1, e2, hoc⟩ := hh
    rw [e1, e2]
    clear e1 e2 r1 J1
    exact LN_two hs hka hp hpf hkc hlt eT hne hoc
theorem c_X8_readLine {l : Launch} {B : Nat → Int32} {n a k : Nat} {I : px_I} {J : px_J} (hs : ps B n a k I) (hka : k ≤ a) : Ct l mX8_readLine 44 [.ref 33] I J (fun x I' J' => x = none ∧ J' = J ∧ lo B n a k I I') := by
  have hn120 := hs.2.1
  have hbn0 := hs.2.2.2.1
  have hg := (g_all (l := l) (B := B) (n := n) 6 (by omega)).2
  refine Ct.of plX8_readLine (Nat.le_of_ble_eq_true rfl) [.ref 33, .null] rfl ?_
  refine V0_aload_n (pc := 0) dX8_readLine_0 rfl ?_
  refine V0_iconst (pc := 1) (0) dX8_readLine_1 (by decide) ?_
  refine V_callV (pc := 2) (M' := mX8_readEither) dX8_readLine_2 mlX8_45 okX8_readEither rfl (hg I J a k hs hka) rfl rfl rfl rfl ⟨Nat.le_of_ble_eq_true rfl, Nat.le_of_ble_eq_true rfl⟩ ⟨Nat.le_refl 0, Nat.le_refl 0⟩ (Nat.le_of_ble_eq_true rfl) ?_
  intro r1 I1 J1 hh
  obtain ⟨e1, e2, hoc⟩ := hh
  rw [e1, e2]
  clear e1 e2 r1 J1
  obtain ⟨hpf, ⟨bb, c, hp, hs3, hkc⟩ | ⟨bb, k2, hp, hd3, hle⟩⟩ := hoc
  · exact LN_live hs3 hka hp hpf hkc
  · have fit := hp.fitB
    have q2 := fit.2.1 (by omega)
    exact LN_dead hd3 (by omega) ⟨rfl, rfl, hpf.tr pf.add, Or.inr ⟨bb, k2 + 1, Or.inl hp, hd3.add (by omega), by omega⟩⟩

