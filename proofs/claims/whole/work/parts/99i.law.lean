/-! a tape of both reads alike -/
def te (T T' : Nat → Int32) : Prop := ∀ i, T i = T' i ∨ (127 < T i ∧ T' i < 0) ∨ (T i < 0 ∧ 127 < T' i)
theorem te.sym {T T' : Nat → Int32} (h : te T T') : te T' T := fun i => (h i).elim (fun e => Or.inl e.symm) (fun q => q.elim (fun e => Or.inr (Or.inr ⟨e.2, e.1⟩)) (fun e => Or.inr (Or.inl ⟨e.2, e.1⟩)))
theorem te_eq {T T' : Nat → Int32} (h : te T T') (i : Nat) {c : Int32} (h0 : ¬ c < 0) (h1 : ¬ 127 < c) : T i = c ↔ T' i = c := by
  rcases h i with e | ⟨a, b⟩ | ⟨a, b⟩
  · rw [e]
  · exact ⟨fun q => absurd (q ▸ a) h1, fun q => absurd (q ▸ b) h0⟩
  · exact ⟨fun q => absurd (q ▸ a) h0, fun q => absurd (q ▸ b) h1⟩
theorem te_no {T T' : Nat → Int32} {i : Nat} (h : (127 < T i ∧ T' i < 0) ∨ (T i < 0 ∧ 127 < T' i)) : (∀ c : Int32, ¬ c < 0 → ¬ 127 < c → ¬ T i = c) ∧ (∀ c : Int32, ¬ c < 0 → ¬ 127 < c → ¬ T' i = c) := by
  rcases h with ⟨a, b⟩ | ⟨a, b⟩
  · exact ⟨fun c _ h1 q => h1 (q ▸ a), fun c h0 _ q => h0 (q ▸ b)⟩
  · exact ⟨fun c h0 _ q => h0 (q ▸ a), fun c _ h1 q => h1 (q ▸ b)⟩
theorem te_name {T T' : Nat → Int32} (h : te T T') (i : Nat) : s_name (T i) = s_name (T' i) := by
  rcases h i with e | e
  · rw [e]
  · obtain ⟨a, b⟩ := te_no e
    unfold s_name
    simp only [if_neg (a 119 (by decide) (by decide)), if_neg (b 119 (by decide) (by decide)), if_neg (a 103 (by decide) (by decide)), if_neg (b 103 (by decide) (by decide)), if_neg (a 108 (by decide) (by decide)), if_neg (b 108 (by decide) (by decide)), if_neg (a 111 (by decide) (by decide)), if_neg (b 111 (by decide) (by decide)), if_neg (a 107 (by decide) (by decide)), if_neg (b 107 (by decide) (by decide)), if_neg (a 121 (by decide) (by decide)), if_neg (b 121 (by decide) (by decide)), if_neg (a 116 (by decide) (by decide)), if_neg (b 116 (by decide) (by decide)), if_neg (a 110 (by decide) (by decide)), if_neg (b 110 (by decide) (by decide)), if_neg (a 97 (by decide) (by decide)), if_neg (b 97 (by decide) (by decide)), if_neg (a 98 (by decide) (by decide)), if_neg (b 98 (by decide) (by decide)), if_neg (a 99 (by decide) (by decide)), if_neg (b 99 (by decide) (by decide)), if_neg (a 100 (by decide) (by decide)), if_neg (b 100 (by decide) (by decide))]
theorem te_op {T T' : Nat → Int32} (h : te T T') (L i : Nat) : T_op L (T i) = T_op L (T' i) := by
  rcases h i with e | e
  · rw [e]
  · obtain ⟨a, b⟩ := te_no e
    have key : ∀ x : Int32, (∀ c : Int32, ¬ c < 0 → ¬ 127 < c → ¬ x = c) → T_op L x = false := by
      intro x hx
      unfold T_op
      rw [decide_eq_false (hx 42 (by decide) (by decide)), decide_eq_false (hx 47 (by decide) (by decide)), decide_eq_false (hx 37 (by decide) (by decide)), decide_eq_false (hx 43 (by decide) (by decide)), decide_eq_false (hx 45 (by decide) (by decide)), decide_eq_false (hx 60 (by decide) (by decide)), decide_eq_false (hx 61 (by decide) (by decide)), decide_eq_false (hx 62 (by decide) (by decide)), decide_eq_false (hx 38 (by decide) (by decide)), decide_eq_false (hx 124 (by decide) (by decide))]
      repeat' split
      all_goals rfl
    rw [key _ a, key _ b]
theorem te_dg {T T' : Nat → Int32} (h : te T T') (i : Nat) : T_dg (T i) = T_dg (T' i) := by
  rcases h i with e | e
  · rw [e]
  · have lo : ∀ x : Int32, x < 0 → T_dg x = false := by
      intro x hx
      unfold T_dg s_within
      rw [decide_eq_true (show x < 48 by rw [Int32.lt_iff_toInt_lt] at hx ⊢; have c0 : (0 : Int32).toInt = 0 := by decide
                                         have c1 : (48 : Int32).toInt = 48 := by decide
                                         omega)]
      rfl
    have hi : ∀ x : Int32, 127 < x → T_dg x = false := by
      intro x hx
      unfold T_dg s_within
      rw [decide_eq_true (show 57 < x by rw [Int32.lt_iff_toInt_lt] at hx ⊢; have c0 : (127 : Int32).toInt = 127 := by decide
                                         have c1 : (57 : Int32).toInt = 57 := by decide
                                         omega), Bool.not_true, Bool.and_false]
    rcases e with ⟨a, b⟩ | ⟨a, b⟩
    · rw [hi _ a, lo _ b]
    · rw [lo _ a, hi _ b]

