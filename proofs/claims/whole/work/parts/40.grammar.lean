/-! what a tape says: a grammar of codes -/
def T_op (L : Nat) (x : Int32) : Bool :=
  if L = 1 then decide (x = 42) || (decide (x = 47) || decide (x = 37)) else
  if L = 2 then decide (x = 43) || decide (x = 45) else
  if L = 3 then decide (x = 60) || (decide (x = 61) || decide (x = 62)) else
  if L = 4 then decide (x = 38) else decide (x = 124)
def T_dg (x : Int32) : Bool := s_within x 48 57
def T_val (T : Nat → Int32) (a : Nat) : Nat → Int32
  | 0 => 0
  | n + 1 => T_val T a n * 10 + T (a + n) - 48
/-- levels 0 operand, 1 product, 2 sum, 3 compared, 4 both, 5 either; 11 + L: what follows a level L; r: how deep it still may go; from a to a', or a fault at a' -/
def Ru (T : Nat → Int32) (P : Nat → Nat → Nat → Nat → Bool → List l_C → Prop) : Nat → Prop
  | 0 => ∀ (r a n : Nat), 1 ≤ n → n ≤ 4 → (∀ i, i < n → T_dg (T (a + i)) = true) → T_dg (T (a + n)) = false → P 0 r a (a + n) true [(35, T_val T a n)]
  | 1 => ∀ (r a : Nat), (∀ i, i < 5 → T_dg (T (a + i)) = true) → P 0 r a (a + 4) false []
  | 2 => ∀ (r a : Nat), ¬ s_name (T a) < 0 → P 0 r a (a + 1) true [(36, s_name (T a))]
  | 3 => ∀ (a : Nat), T_dg (T a) = false → s_name (T a) < 0 → P 0 0 a a false []
  | 4 => ∀ (r a a' : Nat) (s : Int32) (c : List l_C), (T a = 33 ∧ s = 33 ∨ T a = 45 ∧ s = 126) → P 0 r (a + 1) a' true c → P 0 (r + 1) a a' true (c ++ [(s, 0)])
  | 5 => ∀ (r a a' : Nat), (T a = 33 ∨ T a = 45) → P 0 r (a + 1) a' false [] → P 0 (r + 1) a a' false []
  | 6 => ∀ (r a a' : Nat) (c : List l_C), T a = 40 → P 5 r (a + 1) a' true c → T a' = 41 → P 0 (r + 1) a (a' + 1) true c
  | 7 => ∀ (r a a' : Nat), T a = 40 → P 5 r (a + 1) a' false [] → P 0 (r + 1) a a' false []
  | 8 => ∀ (r a a' : Nat) (c : List l_C), T a = 40 → P 5 r (a + 1) a' true c → ¬ T a' = 41 → P 0 (r + 1) a a' false []
  | 9 => ∀ (r a : Nat), T_dg (T a) = false → s_name (T a) < 0 → ¬ T a = 33 → ¬ T a = 45 → ¬ T a = 40 → P 0 (r + 1) a a false []
  | 10 => ∀ (L r a b a' : Nat) (c c' : List l_C), L < 5 → P L r a b true c → P (11 + L) r b a' true c' → P (L + 1) r a a' true (c ++ c')
  | 11 => ∀ (L r a b : Nat), L < 5 → P L r a b false [] → P (L + 1) r a b false []
  | 12 => ∀ (L r a b a' : Nat) (c : List l_C), L < 5 → P L r a b true c → P (11 + L) r b a' false [] → P (L + 1) r a a' false []
  | 13 => ∀ (L r b : Nat), L < 5 → T_op (L + 1) (T b) = false → P (11 + L) r b b true []
  | 14 => ∀ (L r b b' a' : Nat) (c c' : List l_C), L < 5 → ¬ L = 2 → T_op (L + 1) (T b) = true → P L r (b + 1) b' true c → P (11 + L) r b' a' true c' → P (11 + L) r b a' true (c ++ (T b, 0) :: c')
  | 15 => ∀ (L r b b' : Nat), L < 5 → T_op (L + 1) (T b) = true → P L r (b + 1) b' false [] → P (11 + L) r b b' false []
  | 16 => ∀ (L r b b' a' : Nat) (c : List l_C), L < 5 → ¬ L = 2 → T_op (L + 1) (T b) = true → P L r (b + 1) b' true c → P (11 + L) r b' a' false [] → P (11 + L) r b a' false []
  | 17 => ∀ (r b b' : Nat) (c : List l_C), T_op 3 (T b) = true → P 2 r (b + 1) b' true c → P 13 r b b' true (c ++ [(T b, 0)])
  | _ => True
def Pr (T : Nat → Int32) (L r a a' : Nat) (ok : Bool) (c : List l_C) : Prop := ∀ P : Nat → Nat → Nat → Nat → Bool → List l_C → Prop, (∀ k, Ru T P k) → P L r a a' ok c
theorem Pr.num {T : Nat → Int32} {r a n : Nat} (h0 : 1 ≤ n) (h1 : n ≤ 4) (h2 : (∀ i, i < n → T_dg (T (a + i)) = true)) (h3 : T_dg (T (a + n)) = false) : Pr T 0 r a (a + n) true [(35, T_val T a n)] := fun P q => q 0 r a n h0 h1 h2 h3
theorem Pr.numX {T : Nat → Int32} {r a : Nat} (h0 : (∀ i, i < 5 → T_dg (T (a + i)) = true)) : Pr T 0 r a (a + 4) false [] := fun P q => q 1 r a h0
theorem Pr.name {T : Nat → Int32} {r a : Nat} (h0 : ¬ s_name (T a) < 0) : Pr T 0 r a (a + 1) true [(36, s_name (T a))] := fun P q => q 2 r a h0
theorem Pr.deep {T : Nat → Int32} {a : Nat} (h0 : T_dg (T a) = false) (h1 : s_name (T a) < 0) : Pr T 0 0 a a false [] := fun P q => q 3 a h0 h1
theorem Pr.pre {T : Nat → Int32} {r a a' : Nat} {s : Int32} {c : List l_C} (h0 : (T a = 33 ∧ s = 33 ∨ T a = 45 ∧ s = 126)) (h1 : Pr T 0 r (a + 1) a' true c) : Pr T 0 (r + 1) a a' true (c ++ [(s, 0)]) := fun P q => q 4 r a a' s c h0 (h1 P q)
theorem Pr.preX {T : Nat → Int32} {r a a' : Nat} (h0 : (T a = 33 ∨ T a = 45)) (h1 : Pr T 0 r (a + 1) a' false []) : Pr T 0 (r + 1) a a' false [] := fun P q => q 5 r a a' h0 (h1 P q)
theorem Pr.par {T : Nat → Int32} {r a a' : Nat} {c : List l_C} (h0 : T a = 40) (h1 : Pr T 5 r (a + 1) a' true c) (h2 : T a' = 41) : Pr T 0 (r + 1) a (a' + 1) true c := fun P q => q 6 r a a' c h0 (h1 P q) h2
theorem Pr.parX {T : Nat → Int32} {r a a' : Nat} (h0 : T a = 40) (h1 : Pr T 5 r (a + 1) a' false []) : Pr T 0 (r + 1) a a' false [] := fun P q => q 7 r a a' h0 (h1 P q)
theorem Pr.parY {T : Nat → Int32} {r a a' : Nat} {c : List l_C} (h0 : T a = 40) (h1 : Pr T 5 r (a + 1) a' true c) (h2 : ¬ T a' = 41) : Pr T 0 (r + 1) a a' false [] := fun P q => q 8 r a a' c h0 (h1 P q) h2
theorem Pr.other {T : Nat → Int32} {r a : Nat} (h0 : T_dg (T a) = false) (h1 : s_name (T a) < 0) (h2 : ¬ T a = 33) (h3 : ¬ T a = 45) (h4 : ¬ T a = 40) : Pr T 0 (r + 1) a a false [] := fun P q => q 9 r a h0 h1 h2 h3 h4
theorem Pr.lev {T : Nat → Int32} {L r a b a' : Nat} {c c' : List l_C} (h0 : L < 5) (h1 : Pr T L r a b true c) (h2 : Pr T (11 + L) r b a' true c') : Pr T (L + 1) r a a' true (c ++ c') := fun P q => q 10 L r a b a' c c' h0 (h1 P q) (h2 P q)
theorem Pr.levX {T : Nat → Int32} {L r a b : Nat} (h0 : L < 5) (h1 : Pr T L r a b false []) : Pr T (L + 1) r a b false [] := fun P q => q 11 L r a b h0 (h1 P q)
theorem Pr.levY {T : Nat → Int32} {L r a b a' : Nat} {c : List l_C} (h0 : L < 5) (h1 : Pr T L r a b true c) (h2 : Pr T (11 + L) r b a' false []) : Pr T (L + 1) r a a' false [] := fun P q => q 12 L r a b a' c h0 (h1 P q) (h2 P q)
theorem Pr.stop {T : Nat → Int32} {L r b : Nat} (h0 : L < 5) (h1 : T_op (L + 1) (T b) = false) : Pr T (11 + L) r b b true [] := fun P q => q 13 L r b h0 h1
theorem Pr.step {T : Nat → Int32} {L r b b' a' : Nat} {c c' : List l_C} (h0 : L < 5) (h1 : ¬ L = 2) (h2 : T_op (L + 1) (T b) = true) (h3 : Pr T L r (b + 1) b' true c) (h4 : Pr T (11 + L) r b' a' true c') : Pr T (11 + L) r b a' true (c ++ (T b, 0) :: c') := fun P q => q 14 L r b b' a' c c' h0 h1 h2 (h3 P q) (h4 P q)
theorem Pr.stepX {T : Nat → Int32} {L r b b' : Nat} (h0 : L < 5) (h1 : T_op (L + 1) (T b) = true) (h2 : Pr T L r (b + 1) b' false []) : Pr T (11 + L) r b b' false [] := fun P q => q 15 L r b b' h0 h1 (h2 P q)
theorem Pr.stepY {T : Nat → Int32} {L r b b' a' : Nat} {c : List l_C} (h0 : L < 5) (h1 : ¬ L = 2) (h2 : T_op (L + 1) (T b) = true) (h3 : Pr T L r (b + 1) b' true c) (h4 : Pr T (11 + L) r b' a' false []) : Pr T (11 + L) r b a' false [] := fun P q => q 16 L r b b' a' c h0 h1 h2 (h3 P q) (h4 P q)
theorem Pr.once {T : Nat → Int32} {r b b' : Nat} {c : List l_C} (h0 : T_op 3 (T b) = true) (h1 : Pr T 2 r (b + 1) b' true c) : Pr T 13 r b b' true (c ++ [(T b, 0)]) := fun P q => q 17 r b b' c h0 (h1 P q)
theorem chk_app : ∀ (a b : List l_C) (h : Nat), chk h (a ++ b) = (chk h a).bind (fun h' => chk h' b) := by
  intro a
  induction a with
  | nil => intro b h; rfl
  | cons c cs ih =>
    intro b h
    simp only [List.cons_append, chk]
    split
    · exact ih b _
    · split
      · rfl
      · split
        · split
          · exact ih b _
          · rfl
        · split
          · exact ih b _
          · rfl
theorem chk_op {L : Nat} {x : Int32} {h : Nat} (hx : T_op L x = true) : chk (h + 2) [(x, 0)] = some (h + 1) := by
  have key : ∀ y : Int32, (y = 42 ∨ y = 47 ∨ y = 37 ∨ y = 43 ∨ y = 45 ∨ y = 60 ∨ y = 61 ∨ y = 62 ∨ y = 38 ∨ y = 124) → chk (h + 2) [(y, 0)] = some (h + 1) := by
    intro y hy
    rcases hy with e | e | e | e | e | e | e | e | e | e <;> subst e <;> simp [chk, e_push, e_sp, e_un]
  apply key
  unfold T_op at hx
  split at hx
  · simp only [Bool.or_eq_true, decide_eq_true_eq] at hx; rcases hx with e | e | e <;> simp [e]
  · split at hx
    · simp only [Bool.or_eq_true, decide_eq_true_eq] at hx; rcases hx with e | e <;> simp [e]
    · split at hx
      · simp only [Bool.or_eq_true, decide_eq_true_eq] at hx; rcases hx with e | e | e <;> simp [e]
      · split at hx
        · simp only [decide_eq_true_eq] at hx; simp [hx]
        · simp only [decide_eq_true_eq] at hx; simp [hx]
theorem T_op_neg {L : Nat} {x : Int32} (hx : T_op L x = true) : ¬ x = -1 := by
  intro e; subst e
  unfold T_op at hx
  repeat' split at hx
  all_goals exact absurd hx (by decide)
theorem Pr.fit {T : Nat → Int32} {n : Nat} (hT : ∀ i, n ≤ i → T i = -1) {L r a a' : Nat} {ok : Bool} {c : List l_C} (p : Pr T L r a a' ok c) : a ≤ a' ∧ (a ≤ n → a' ≤ n) ∧ (ok = true → a + c.length ≤ a' ∧ ∀ h, chk (if L < 11 then h else h + 1) c = some (h + 1)) := by
  have lt : ∀ i, ¬ T i = -1 → i < n := fun i h => Nat.lt_of_not_le (fun q => h (hT i q))
  refine p (fun L r a a' ok c => a ≤ a' ∧ (a ≤ n → a' ≤ n) ∧ (ok = true → a + c.length ≤ a' ∧ ∀ h, chk (if L < 11 then h else h + 1) c = some (h + 1))) (fun k => ?_)
  match k with
  | 0 =>
    intro r a k h1 h4 hd hn
    refine ⟨by omega, fun ha => ?_, fun _ => ⟨by simp; omega, fun h => by simp [chk, e_push]⟩⟩
    have := lt (a + (k - 1)) (fun e => by have := hd (k - 1) (by omega); rw [e] at this; exact absurd this (by decide))
    omega
  | 1 =>
    intro r a hd
    refine ⟨by omega, fun ha => ?_, fun q => by cases q⟩
    have := lt (a + 3) (fun e => by have := hd 3 (by omega); rw [e] at this; exact absurd this (by decide))
    omega
  | 2 =>
    intro r a hn
    refine ⟨by omega, fun ha => ?_, fun _ => ⟨by simp, fun h => by simp [chk, e_push]⟩⟩
    have := lt a (fun e => hn (by rw [e]; decide))
    omega
  | 3 =>
    intro a _ _
    exact ⟨Nat.le_refl _, fun h => h, fun q => by cases q⟩
  | 4 =>
    intro r a a' s c hs ih
    obtain ⟨i1, i2, i3⟩ := ih
    obtain ⟨i4, i5⟩ := i3 rfl
    refine ⟨by omega, fun ha => i2 ?_, fun _ => ⟨by simp; omega, fun h => ?_⟩⟩
    · have := lt a (by rcases hs with ⟨e, _⟩ | ⟨e, _⟩ <;> rw [e] <;> decide)
      omega
    · have := i5 h
      simp only [Nat.zero_lt_succ, if_true] at this ⊢
      rw [chk_app, this]
      rcases hs with ⟨_, e⟩ | ⟨_, e⟩ <;> subst e <;> simp [chk, e_push, e_sp, e_un]
  | 5 =>
    intro r a a' hs ih
    obtain ⟨i1, i2, i3⟩ := ih
    refine ⟨by omega, fun ha => i2 ?_, fun q => by cases q⟩
    have := lt a (by rcases hs with e | e <;> rw [e] <;> decide)
    omega
  | 6 =>
    intro r a a' c h1 ih h2
    obtain ⟨i1, i2, i3⟩ := ih
    obtain ⟨i4, i5⟩ := i3 rfl
    refine ⟨by omega, fun ha => ?_, fun _ => ⟨by omega, fun h => i5 h⟩⟩
    have := lt a' (by rw [h2]; decide)
    omega
  | 7 =>
    intro r a a' h1 ih
    obtain ⟨i1, i2, i3⟩ := ih
    refine ⟨by omega, fun ha => i2 ?_, fun q => by cases q⟩
    have := lt a (by rw [h1]; decide)
    omega
  | 8 =>
    intro r a a' c h1 ih h2
    obtain ⟨i1, i2, i3⟩ := ih
    refine ⟨by omega, fun ha => i2 ?_, fun q => by cases q⟩
    have := lt a (by rw [h1]; decide)
    omega
  | 9 =>
    intro r a _ _ _ _ _
    exact ⟨Nat.le_refl _, fun h => h, fun q => by cases q⟩
  | 10 =>
    intro L r a b a' c c' hL ih ih2
    obtain ⟨i1, i2, i3⟩ := ih
    obtain ⟨i4, i5⟩ := i3 rfl
    obtain ⟨j1, j2, j3⟩ := ih2
    obtain ⟨j4, j5⟩ := j3 rfl
    refine ⟨by omega, fun ha => j2 (i2 ha), fun _ => ⟨by simp; omega, fun h => ?_⟩⟩
    have k1 := i5 h
    have k2 := j5 h
    rw [if_pos (by omega)] at k1
    rw [if_neg (by omega)] at k2
    rw [if_pos (by omega), chk_app, k1]
    exact k2
  | 11 =>
    intro L r a b _ ih
    exact ⟨ih.1, ih.2.1, fun q => by cases q⟩
  | 12 =>
    intro L r a b a' c _ ih ih2
    exact ⟨Nat.le_trans ih.1 ih2.1, fun h => ih2.2.1 (ih.2.1 h), fun q => by cases q⟩
  | 13 =>
    intro L r b hL h
    exact ⟨Nat.le_refl _, fun h => h, fun _ => ⟨by simp, fun h => by rw [if_neg (by omega)]; rfl⟩⟩
  | 14 =>
    intro L r b b' a' c c' hL h2 hop ih ih2
    obtain ⟨i1, i2, i3⟩ := ih
    obtain ⟨i4, i5⟩ := i3 rfl
    obtain ⟨j1, j2, j3⟩ := ih2
    obtain ⟨j4, j5⟩ := j3 rfl
    have hb := lt b (T_op_neg hop)
    refine ⟨by omega, fun ha => j2 (i2 (by omega)), fun _ => ⟨by simp; omega, fun h => ?_⟩⟩
    have k1 := i5 (h + 1)
    have k2 := j5 h
    rw [if_pos (by omega)] at k1
    rw [if_neg (by omega)] at k2
    rw [if_neg (by omega), chk_app, k1]
    show chk (h + 2) ([(T b, 0)] ++ c') = _
    rw [chk_app, chk_op hop]
    exact k2
  | 15 =>
    intro L r b b' hL hop ih
    have hb := lt b (T_op_neg hop)
    exact ⟨by omega, fun ha => ih.2.1 (by omega), fun q => by cases q⟩
  | 16 =>
    intro L r b b' a' c hL h2 hop ih ih2
    have hb := lt b (T_op_neg hop)
    exact ⟨by omega, fun ha => ih2.2.1 (ih.2.1 (by omega)), fun q => by cases q⟩
  | 17 =>
    intro r b b' c hop ih
    obtain ⟨i1, i2, i3⟩ := ih
    obtain ⟨i4, i5⟩ := i3 rfl
    have hb := lt b (T_op_neg hop)
    refine ⟨by omega, fun ha => i2 (by omega), fun _ => ⟨by simp; omega, fun h => ?_⟩⟩
    have k1 := i5 (h + 1)
    rw [if_pos (by omega)] at k1
    rw [if_neg (by omega), chk_app, k1]
    exact chk_op hop
  | _ + 18 => trivial

