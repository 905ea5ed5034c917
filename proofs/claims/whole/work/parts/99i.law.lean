/-! a tape of both reads alike -/
def te (T T' : Nat → Int32) : Prop := ∀ i, T i = T' i ∨ (127 < T i ∧ T' i < 0) ∨ (T i < 0 ∧ 127 < T' i)
theorem te.sym {T T' : Nat → Int32} (h : te T T') : te T' T := fun i => (h i).elim (fun e => Or.inl e.symm) (fun q => q.elim (fun e => Or.inr (Or.inr ⟨e.2, e.1⟩)) (fun e => Or.inr (Or.inl ⟨e.2, e.1⟩)))
theorem te_eq {T T' : Nat → Int32} (h : te T T') (i : Nat) {c : Int32} (h0 : ¬ c < 0) (h1 : ¬ 127 < c) : T i = c ↔ T' i = c := by
  rcases h i with e | ⟨a, b⟩ | ⟨a, b⟩
  · rw [e]
  · exact ⟨fun q => absurd (q ▸ a) h1, fun q => absurd (q ▸ b) h0⟩
  · exact ⟨fun q => absurd (q ▸ a) h0, fun q => absurd (q ▸ b) h1⟩
theorem te_no {T T' : Nat → Int32} {i : Nat} (h : (127 < T i ∧ T' i < 0) ∨ (T i < 0 ∧ 127 < T' i)) : (∀ c : Int32, ¬ c < 0 → ¬ 127 < c → ¬ T i = c) ∧ (∀ c : Int32, ¬ c < 0 → ¬ 127 < c → ¬ T' i = c) := by
  rcases h with ⟨a, b⟩ | ⟨a, b⟩
  · exact ⟨fun c _ h1 q => h1 (q ▸ a), fun c h0 _ q => h0 (q ▸ b)⟩
  · exact ⟨fun c h0 _ q => h0 (q ▸ a), fun c _ h1 q => h1 (q ▸ b)⟩
theorem te_name {T T' : Nat → Int32} (h : te T T') (i : Nat) : s_name (T i) = s_name (T' i) := by
  rcases h i with e | e
  · rw [e]
  · obtain ⟨a, b⟩ := te_no e
    unfold s_name
    simp only [if_neg (a 119 (by decide) (by decide)), if_neg (b 119 (by decide) (by decide)), if_neg (a 103 (by decide) (by decide)), if_neg (b 103 (by decide) (by decide)), if_neg (a 108 (by decide) (by decide)), if_neg (b 108 (by decide) (by decide)), if_neg (a 111 (by decide) (by decide)), if_neg (b 111 (by decide) (by decide)), if_neg (a 107 (by decide) (by decide)), if_neg (b 107 (by decide) (by decide)), if_neg (a 121 (by decide) (by decide)), if_neg (b 121 (by decide) (by decide)), if_neg (a 116 (by decide) (by decide)), if_neg (b 116 (by decide) (by decide)), if_neg (a 110 (by decide) (by decide)), if_neg (b 110 (by decide) (by decide)), if_neg (a 97 (by decide) (by decide)), if_neg (b 97 (by decide) (by decide)), if_neg (a 98 (by decide) (by decide)), if_neg (b 98 (by decide) (by decide)), if_neg (a 99 (by decide) (by decide)), if_neg (b 99 (by decide) (by decide)), if_neg (a 100 (by decide) (by decide)), if_neg (b 100 (by decide) (by decide))]
theorem te_op {T T' : Nat → Int32} (h : te T T') (L i : Nat) : T_op L (T i) = T_op L (T' i) := by
  rcases h i with e | e
  · rw [e]
  · obtain ⟨a, b⟩ := te_no e
    have key : ∀ x : Int32, (∀ c : Int32, ¬ c < 0 → ¬ 127 < c → ¬ x = c) → T_op L x = false := by
      intro x hx
      unfold T_op
      rw [decide_eq_false (hx 42 (by decide) (by decide)), decide_eq_false (hx 47 (by decide) (by decide)), decide_eq_false (hx 37 (by decide) (by decide)), decide_eq_false (hx 43 (by decide) (by decide)), decide_eq_false (hx 45 (by decide) (by decide)), decide_eq_false (hx 60 (by decide) (by decide)), decide_eq_false (hx 61 (by decide) (by decide)), decide_eq_false (hx 62 (by decide) (by decide)), decide_eq_false (hx 38 (by decide) (by decide)), decide_eq_false (hx 124 (by decide) (by decide))]
      repeat' split
      all_goals rfl
    rw [key _ a, key _ b]
theorem te_dg {T T' : Nat → Int32} (h : te T T') (i : Nat) : T_dg (T i) = T_dg (T' i) := by
  rcases h i with e | e
  · rw [e]
  · have lo : ∀ x : Int32, x < 0 → T_dg x = false := by
      intro x hx
      unfold T_dg s_within
      rw [decide_eq_true (show x < 48 by rw [Int32.lt_iff_toInt_lt] at hx ⊢; have c0 : (0 : Int32).toInt = 0 := by decide
                                         have c1 : (48 : Int32).toInt = 48 := by decide
                                         omega)]
      rfl
    have hi : ∀ x : Int32, 127 < x → T_dg x = false := by
      intro x hx
      unfold T_dg s_within
      rw [decide_eq_true (show 57 < x by rw [Int32.lt_iff_toInt_lt] at hx ⊢; have c0 : (127 : Int32).toInt = 127 := by decide
                                         have c1 : (57 : Int32).toInt = 57 := by decide
                                         omega), Bool.not_true, Bool.and_false]
    rcases e with ⟨a, b⟩ | ⟨a, b⟩
    · rw [hi _ a, lo _ b]
    · rw [lo _ a, hi _ b]
theorem te_val {T T' : Nat → Int32} (h : te T T') (a : Nat) : ∀ n, (∀ i, i < n → T_dg (T (a + i)) = true) → T_val T a n = T_val T' a n := by
  intro n
  induction n with
  | zero => intro _; rfl
  | succ n ih =>
    intro hd
    have e : T (a + n) = T' (a + n) := by
      rcases h (a + n) with e | e
      · exact e
      · exfalso
        have h1 := hd n (by omega)
        have hx := w_1ix (c := 57) (by omega) rfl (show s_within (T (a + n)) 1 57 = true by
          unfold T_dg s_within at h1
          unfold s_within
          simp only [Bool.and_eq_true, Bool.not_eq_true', decide_eq_false_iff_not] at h1 ⊢
          refine ⟨fun q => h1.1 ?_, h1.2⟩
          rw [Int32.lt_iff_toInt_lt] at q ⊢
          have c0 : (1 : Int32).toInt = 1 := by decide
          have c1 : (48 : Int32).toInt = 48 := by decide
          omega)
        obtain ⟨a1, _⟩ := te_no e
        exact a1 (nI (ix (T (a + n)))) (nI_nn (by omega)) (fun q => absurd ((qI_lt (a := 127) (by omega) (by omega)).mp q) (by omega)) hx.1
    unfold T_val
    rw [ih (fun i hi => hd i (by omega)), e]
theorem te_opT {T T' : Nat → Int32} (h : te T T') {L i : Nat} (ho : T_op L (T i) = true) : T i = T' i := by
  rcases h i with e | e
  · exact e
  · exfalso
    obtain ⟨a, _⟩ := te_no e
    unfold T_op at ho
    rw [decide_eq_false (a 42 (by decide) (by decide)), decide_eq_false (a 47 (by decide) (by decide)), decide_eq_false (a 37 (by decide) (by decide)), decide_eq_false (a 43 (by decide) (by decide)), decide_eq_false (a 45 (by decide) (by decide)), decide_eq_false (a 60 (by decide) (by decide)), decide_eq_false (a 61 (by decide) (by decide)), decide_eq_false (a 62 (by decide) (by decide)), decide_eq_false (a 38 (by decide) (by decide)), decide_eq_false (a 124 (by decide) (by decide))] at ho
    simp at ho
theorem Pr.te {T T' : Nat → Int32} (h : te T T') {L r a a' : Nat} {ok : Bool} {c : List l_C} (p : Pr T L r a a' ok c) : Pr T' L r a a' ok c := by
  refine p (fun L r a a' ok c => Pr T' L r a a' ok c) (fun k => ?_)
  have dg := te_dg h
  have nm := te_name h
  have op := te_op h
  have eq : ∀ i, ∀ c : Int32, ¬ c < 0 → ¬ 127 < c → (T i = c ↔ T' i = c) := fun i c h0 h1 => te_eq h i h0 h1
  match k with
  | 0 =>
    intro r a n h1 h4 hd hn
    rw [te_val h a n hd]
    exact Pr.num h1 h4 (fun i hi => by rw [← dg]; exact hd i hi) (by rw [← dg]; exact hn)
  | 1 =>
    intro r a hd
    exact Pr.numX (fun i hi => by rw [← dg]; exact hd i hi)
  | 2 =>
    intro r a hn
    rw [nm]
    exact Pr.name (by rw [← nm]; exact hn)
  | 3 =>
    intro a h1 h2
    exact Pr.deep (by rw [← dg]; exact h1) (by rw [← nm]; exact h2)
  | 4 =>
    intro r a a' s c hs ih
    exact Pr.pre (hs.imp (fun q => ⟨(eq a 33 (by decide) (by decide)).mp q.1, q.2⟩) (fun q => ⟨(eq a 45 (by decide) (by decide)).mp q.1, q.2⟩)) ih
  | 5 =>
    intro r a a' hs ih
    exact Pr.preX (hs.imp (eq a 33 (by decide) (by decide)).mp (eq a 45 (by decide) (by decide)).mp) ih
  | 6 =>
    intro r a a' c h1 ih h2
    exact Pr.par ((eq a 40 (by decide) (by decide)).mp h1) ih ((eq a' 41 (by decide) (by decide)).mp h2)
  | 7 =>
    intro r a a' h1 ih
    exact Pr.parX ((eq a 40 (by decide) (by decide)).mp h1) ih
  | 8 =>
    intro r a a' c h1 ih h2
    exact Pr.parY ((eq a 40 (by decide) (by decide)).mp h1) ih (fun q => h2 ((eq a' 41 (by decide) (by decide)).mpr q))
  | 9 =>
    intro r a h1 h2 h3 h4 h5
    exact Pr.other (by rw [← dg]; exact h1) (by rw [← nm]; exact h2) (fun q => h3 ((eq a 33 (by decide) (by decide)).mpr q)) (fun q => h4 ((eq a 45 (by decide) (by decide)).mpr q)) (fun q => h5 ((eq a 40 (by decide) (by decide)).mpr q))
  | 10 =>
    intro L r a b a' c c' hL i1 i2
    exact Pr.lev hL i1 i2
  | 11 =>
    intro L r a b hL i1
    exact Pr.levX hL i1
  | 12 =>
    intro L r a b a' c hL i1 i2
    exact Pr.levY hL i1 i2
  | 13 =>
    intro L r b hL h1
    exact Pr.stop hL (by rw [← op]; exact h1)
  | 14 =>
    intro L r b b' a' c c' hL h2 ho i1 i2
    rw [te_opT h ho]
    exact Pr.step hL h2 (by rw [← op]; exact ho) i1 i2
  | 15 =>
    intro L r b b' hL ho i1
    exact Pr.stepX hL (by rw [← op]; exact ho) i1
  | 16 =>
    intro L r b b' a' c hL h2 ho i1 i2
    exact Pr.stepY hL h2 (by rw [← op]; exact ho) i1 i2
  | 17 =>
    intro r b b' c ho i1
    rw [te_opT h ho]
    exact Pr.once (by rw [← op]; exact ho) i1
  | _ + 18 => trivial
theorem PLn.te {T T' : Nat → Int32} (h : te T T') {a a' : Nat} {L : l_L} (p : PLn T a a' L) : PLn T' a a' L := by
  rcases p with ⟨x, y, z⟩ | ⟨b, x, y, z⟩
  · exact Or.inl ⟨x, y.te h, fun q => z ((te_eq h a' (by decide) (by decide)).mpr q)⟩
  · exact Or.inr ⟨b, x.te h, (te_eq h b (by decide) (by decide)).mp y, z.te h⟩
theorem PLx.te {T T' : Nat → Int32} (h : te T T') {a a' : Nat} (p : PLx T a a') : PLx T' a a' := by
  rcases p with x | ⟨b, c, x, y, z⟩
  · exact Or.inl (x.te h)
  · exact Or.inr ⟨b, c, x.te h, (te_eq h b (by decide) (by decide)).mp y, z.te h⟩
theorem PTt.te {T T' : Nat → Int32} (h : te T T') : ∀ (Ls : List l_L) (b e : Nat), PTt T Ls b e → PTt T' Ls b e := by
  intro Ls
  induction Ls with
  | nil => rintro b e ⟨x, y⟩; exact ⟨x, fun q => y ((te_eq h b (by decide) (by decide)).mpr q)⟩
  | cons L Ls ih => rintro b e ⟨x, b', y, z⟩; exact ⟨(te_eq h b (by decide) (by decide)).mp x, b', y.te h, ih b' e z⟩
theorem PTx.te {T T' : Nat → Int32} (h : te T T') {n : Nat} : ∀ (m b e : Nat), PTx T n m b e → PTx T' n m b e := by
  intro m
  induction m with
  | zero =>
    rintro b e (⟨x, y⟩ | ⟨x, y⟩)
    · exact Or.inl ⟨fun q => x ((te_eq h b (by decide) (by decide)).mpr q), y⟩
    · exact Or.inr ⟨(te_eq h b (by decide) (by decide)).mp x, y.te h⟩
  | succ m ih => rintro b e ⟨x, b', L, y, z⟩; exact ⟨(te_eq h b (by decide) (by decide)).mp x, b', L, y.te h, ih b' e z⟩
theorem lw_ok.te {B B' : Nat → Int32} {n : Nat} {Ls : List l_L} (h : te (g_T B n) (g_T B' n)) (p : lw_ok B n Ls) : lw_ok B' n Ls := by
  obtain ⟨L, Lr, b, x, y, z⟩ := p
  exact ⟨L, Lr, b, x, y.te h, PTt.te h Lr b n z⟩
theorem lw_bad.te {B B' : Nat → Int32} {n e : Nat} (h : te (g_T B n) (g_T B' n)) (p : lw_bad B n e) : lw_bad B' n e := by
  rcases p with x | ⟨L, b, m, x, y⟩
  · exact Or.inl (x.te h)
  · exact Or.inr ⟨L, b, m, x.te h, PTx.te h m b e y⟩
theorem r_tape.te {I : px_I} {t : Nat} (h : r_tape I t) : te (g_T (I 39) t) (g_T (I 69) t) := by
  intro i
  unfold g_T
  by_cases c : i < t
  · rw [if_pos c, if_pos c]
    exact (h.2.2.2 i c).elim Or.inl (fun q => Or.inr (Or.inl q))
  · rw [if_neg c, if_neg c]; exact Or.inl rfl

