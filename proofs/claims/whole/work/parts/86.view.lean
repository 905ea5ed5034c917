/-! the Model's lane in thought, seen as a course -/
def mv (I : px_I) : px_I := fun q k =>
  if q = 1 then (if k = 6 then I 54 1 else if k = 7 then I 54 3 else if k = 8 then I 64 1 else I 64 2)
  else if q = 2 then I 56 k else if q = 3 then I 57 k else if q = 4 then I 58 k else if q = 5 then I 59 k else if q = 6 then I 60 k else if q = 7 then I 61 k
  else if q = 43 then (if k = 4 then I 54 36 else I 54 37)
  else if q = 44 then I 77 k else if q = 45 then I 78 k else if q = 46 then I 79 k else 0
theorem mv_row {I : px_I} : mv I 2 = I 56 ∧ mv I 3 = I 57 ∧ mv I 4 = I 58 ∧ mv I 5 = I 59 ∧ mv I 6 = I 60 ∧ mv I 7 = I 61 ∧ mv I 44 = I 77 ∧ mv I 45 = I 78 ∧ mv I 46 = I 79 := ⟨rfl, rfl, rfl, rfl, rfl, rfl, rfl, rfl, rfl⟩
/-- what the Model's cells for thought and the told ones say the same of, as a relation of two courses -/
theorem mv_R {m n p : Nat} {I Y : px_I} (h2 : Y 2 = I 56) (h3 : Y 3 = I 57) (h4 : Y 4 = I 58) (h5 : Y 5 = I 59) (h6 : Y 6 = I 60) (h7 : Y 7 = I 61) (h8 : Y 1 8 = I 64 1) (h9 : Y 1 9 = I 64 2) (g : Y p 4 = I 54 36) (d : Y p 5 = I 54 37) (a : ∀ k, k < m → Y (p + 1) k = I 77 k) (b : ∀ k, k < n → Y (p + 2) k = I 78 k) (c : ∀ k, k < n → Y (p + 3) k = I 79 k) : px_R m n Y p (mv I) 43 := by
  refine ⟨fun q x y => ?_, ⟨h8, h9⟩, ⟨g, d⟩, a, b, c⟩
  have hq : q = 2 ∨ q = 3 ∨ q = 4 ∨ q = 5 ∨ q = 6 ∨ q = 7 := by omega
  rcases hq with e | e | e | e | e | e <;> subst e
  · exact h2
  · exact h3
  · exact h4
  · exact h5
  · exact h6
  · exact h7
theorem mv_self {m n : Nat} {Z Z' : px_I} (h : ∀ q, q ≠ 54 → q ≠ 77 → q ≠ 78 → q ≠ 79 → Z' q = Z q) (g : Z' 54 36 = Z 54 36) (d : Z' 54 37 = Z 54 37) (a : Z' 77 = Z 77) (b : Z' 78 = Z 78) (c : Z' 79 = Z 79) : px_R m n (mv Z) 43 (mv Z') 43 := by
  refine mv_R (mv_row.1.trans (h 56 (by omega) (by omega) (by omega) (by omega)).symm) (mv_row.2.1.trans (h 57 (by omega) (by omega) (by omega) (by omega)).symm) (mv_row.2.2.1.trans (h 58 (by omega) (by omega) (by omega) (by omega)).symm) (mv_row.2.2.2.1.trans (h 59 (by omega) (by omega) (by omega) (by omega)).symm) (mv_row.2.2.2.2.1.trans (h 60 (by omega) (by omega) (by omega) (by omega)).symm) (mv_row.2.2.2.2.2.1.trans (h 61 (by omega) (by omega) (by omega) (by omega)).symm) ?_ ?_ g.symm d.symm (fun k _ => ?_) (fun k _ => ?_) (fun k _ => ?_)
  · exact (congrFun (h 64 (by omega) (by omega) (by omega) (by omega)) 1).symm
  · exact (congrFun (h 64 (by omega) (by omega) (by omega) (by omega)) 2).symm
  · exact (congrFun a k).symm
  · exact (congrFun b k).symm
  · exact (congrFun c k).symm
theorem mv_up78 {m n j : Nat} {Z : px_I} {x : Int32} : px_R m n (px_up (mv Z) 45 j x) 43 (mv (px_up Z 78 j x)) 43 := by
  refine mv_R ?_ ?_ ?_ ?_ ?_ ?_ ?_ ?_ ?_ ?_ (fun k _ => ?_) (fun k _ => ?_) (fun k _ => ?_)
  · exact (px_up_row (by omega)).trans (px_up_row (I := Z) (by omega)).symm
  · exact (px_up_row (by omega)).trans (px_up_row (I := Z) (by omega)).symm
  · exact (px_up_row (by omega)).trans (px_up_row (I := Z) (by omega)).symm
  · exact (px_up_row (by omega)).trans (px_up_row (I := Z) (by omega)).symm
  · exact (px_up_row (by omega)).trans (px_up_row (I := Z) (by omega)).symm
  · exact (px_up_row (by omega)).trans (px_up_row (I := Z) (by omega)).symm
  · rfl
  · rfl
  · rfl
  · rfl
  · rfl
  · rw [px_up_at, px_up_at]
    by_cases e : k = j
    · rw [if_pos ⟨rfl, e⟩, if_pos ⟨rfl, e⟩]
    · rw [if_neg (fun z => e z.2), if_neg (fun z => e z.2)]; rfl
  · rfl
theorem mv_up79 {m n j : Nat} {Z : px_I} {x : Int32} : px_R m n (px_up (mv Z) 46 j x) 43 (mv (px_up Z 79 j x)) 43 := by
  refine mv_R ?_ ?_ ?_ ?_ ?_ ?_ ?_ ?_ ?_ ?_ (fun k _ => ?_) (fun k _ => ?_) (fun k _ => ?_)
  · exact (px_up_row (by omega)).trans (px_up_row (I := Z) (by omega)).symm
  · exact (px_up_row (by omega)).trans (px_up_row (I := Z) (by omega)).symm
  · exact (px_up_row (by omega)).trans (px_up_row (I := Z) (by omega)).symm
  · exact (px_up_row (by omega)).trans (px_up_row (I := Z) (by omega)).symm
  · exact (px_up_row (by omega)).trans (px_up_row (I := Z) (by omega)).symm
  · exact (px_up_row (by omega)).trans (px_up_row (I := Z) (by omega)).symm
  · rfl
  · rfl
  · rfl
  · rfl
  · rfl
  · rfl
  · rw [px_up_at, px_up_at]
    by_cases e : k = j
    · rw [if_pos ⟨rfl, e⟩, if_pos ⟨rfl, e⟩]
    · rw [if_neg (fun z => e z.2), if_neg (fun z => e z.2)]; rfl
theorem mv_up77 {m n j : Nat} {Z : px_I} {x : Int32} : px_R m n (px_up (mv Z) 44 j x) 43 (mv (px_up Z 77 j x)) 43 := by
  refine mv_R ?_ ?_ ?_ ?_ ?_ ?_ ?_ ?_ ?_ ?_ (fun k _ => ?_) (fun k _ => ?_) (fun k _ => ?_)
  · exact (px_up_row (by omega)).trans (px_up_row (I := Z) (by omega)).symm
  · exact (px_up_row (by omega)).trans (px_up_row (I := Z) (by omega)).symm
  · exact (px_up_row (by omega)).trans (px_up_row (I := Z) (by omega)).symm
  · exact (px_up_row (by omega)).trans (px_up_row (I := Z) (by omega)).symm
  · exact (px_up_row (by omega)).trans (px_up_row (I := Z) (by omega)).symm
  · exact (px_up_row (by omega)).trans (px_up_row (I := Z) (by omega)).symm
  · rfl
  · rfl
  · rfl
  · rfl
  · rw [px_up_at, px_up_at]
    by_cases e : k = j
    · rw [if_pos ⟨rfl, e⟩, if_pos ⟨rfl, e⟩]
    · rw [if_neg (fun z => e z.2), if_neg (fun z => e z.2)]; rfl
  · rfl
  · rfl
theorem mv_up36 {m n : Nat} {Z : px_I} {x : Int32} : px_R m n (px_up (mv Z) 43 4 x) 43 (mv (px_up Z 54 36 x)) 43 := mv_R rfl rfl rfl rfl rfl rfl rfl rfl rfl rfl (fun _ _ => rfl) (fun _ _ => rfl) (fun _ _ => rfl)
theorem mv_up37 {m n : Nat} {Z : px_I} {x : Int32} : px_R m n (px_up (mv Z) 43 5 x) 43 (mv (px_up Z 54 37 x)) 43 := mv_R rfl rfl rfl rfl rfl rfl rfl rfl rfl rfl (fun _ _ => rfl) (fun _ _ => rfl) (fun _ _ => rfl)
theorem mv_up38 {m n k : Nat} {Z : px_I} {x : Int32} (hk : k = 38 ∨ k = 39) : px_R m n (mv Z) 43 (mv (px_up Z 54 k x)) 43 := mv_self (fun q a _ _ _ => px_up_row a) (px_up_ne (by omega)) (px_up_ne (by omega)) (px_up_row (by omega)) (px_up_row (by omega)) (px_up_row (by omega))
/-! the Model's steps are a course's -/
theorem M_goJoy {m n j : Nat} {Z : px_I} : px_R m n (g_passFor (mv Z) 43 j) 43 (mv (m_goJoy Z j)) 43 := by
  have r1 : g_runs (mv Z) 43 j = m_runs Z j := rfl
  have r2 : g_waits (mv Z) 43 j = m_waits Z j := rfl
  have r3 : g_on (mv Z) 43 j = m_on Z j := rfl
  have ro : px_R m n (g_runOn (mv Z) 43 j) 43 (mv (px_up Z 78 j (Z 78 j + 1))) 43 := by
    have h1 : px_R m n (px_up (mv Z) (43 + 2) j (mv Z (43 + 2) j + 1)) 43 (mv (px_up Z 78 j (Z 78 j + 1))) 43 := mv_up78
    unfold g_runOn
    split
    · exact (R_off (by omega) (by omega) (by omega)).tr h1
    · exact h1
  unfold g_passFor m_goJoy
  rw [r1, r2, r3]
  by_cases c1 : m_runs Z j = true
  · rw [if_pos c1, if_pos c1]
    by_cases c2 : m_on Z j = true
    · rw [if_pos c2, if_pos c2]; exact ro
    · rw [if_neg c2, if_neg c2]; exact px_R.rf
  · rw [if_neg c1, if_neg c1]
    by_cases c2 : m_waits Z j = true
    · rw [if_pos c2, if_pos c2]
      by_cases c3 : m_on Z j = true
      · rw [if_pos c3, if_pos c3]
        have z0 : Z 78 j = 0 := by
          simp only [m_waits, s_waits, Bool.and_eq_true, decide_eq_true_eq] at c2
          exact c2.1.2
        rw [z0] at ro
        exact ro
      · rw [if_neg c3, if_neg c3]
        by_cases c4 : Z 54 37 < Z 57 j + Z 59 j
        · rw [if_pos c4, if_pos (show mv Z 43 5 < mv Z 3 j + mv Z 5 j from c4)]; exact px_R.rf
        · rw [if_neg c4, if_neg (show ¬ mv Z 43 5 < mv Z 3 j + mv Z 5 j from c4)]; exact mv_up79
    · rw [if_neg c2, if_neg c2]; exact px_R.rf
theorem M_joys {m n : Nat} {Y Z : px_I} (h : px_R m n Y 43 (mv Z) 43) (hf : ∀ j, j < n → ix (Y 2 j) < m) : ∀ k, k ≤ n → px_R m n (g_joys Y 43 k) 43 (mv (m_joys Z k)) 43 := by
  intro k
  induction k with
  | zero => intro _; exact h
  | succ k ih =>
    intro hk
    exact (R_passFor (ih (by omega)) (by omega) (by omega) (by omega) (by rw [g_joys_row (by omega) (by omega) (by omega)]; exact hf k (by omega))).tr M_goJoy
theorem M_ch {m : Nat} {Z : px_I} : g_chosen (mv Z) 43 m = m_ch Z m := by
  unfold g_chosen m_ch
  show (if s_lead (Z 77) m = 0 then Z 54 36 else if 0 < s_lead (Z 77) m then 0 else 1) = _
  by_cases h0 : s_lead (Z 77) m = 0
  · rw [if_pos h0, h0, if_neg (by decide), if_neg (by decide)]
  · rw [if_neg h0]
    by_cases h1 : 0 < s_lead (Z 77) m
    · rw [if_pos h1, if_pos h1]
    · have h2 : s_lead (Z 77) m < 0 := by
        have e := px_ne h0 (k := 0) (by decide)
        rw [px_nlt, Int32.le_iff_toInt_le] at h1
        rw [Int32.lt_iff_toInt_lt]
        have c0 : (0 : Int32).toInt = 0 := by decide
        omega
      rw [if_neg h1, if_neg h1, if_pos h2]
theorem M_st {m n : Nat} {Z : px_I} (hy : 0 < Z 64 1) : px_R m n (g_start (mv Z) 43 m) 43 (mv (m_st Z m)) 43 := by
  unfold g_start m_st
  by_cases hc : 0 < Z 54 37 ∧ px_rem (Z 54 37) (Z 64 1) = 0
  · rw [if_pos hc, if_pos (show 0 < mv Z 43 5 ∧ 0 < mv Z 1 8 ∧ px_rem (mv Z 43 5) (mv Z 1 8) = 0 from ⟨hc.1, hy, hc.2⟩)]
    unfold g_vote m_vote
    rw [M_ch]
    refine (R_off (by omega) (by omega) (by omega)).tr ?_
    have hT : px_R m n (g_turn (mv Z) 43 m) 43 (mv (if m_ch Z m = Z 54 36 then px_up Z 54 39 (Z 54 39 + 1) else px_up (px_up Z 54 39 (Z 54 39 + 1)) 54 38 (Z 54 38 + 1))) 43 := by
      unfold g_turn
      rw [M_ch]
      by_cases e : m_ch Z m = Z 54 36
      · rw [if_pos e, if_pos (show m_ch Z m = mv Z 43 4 from e)]; exact mv_up38 (Or.inr rfl)
      · rw [if_neg e, if_neg (show ¬ m_ch Z m = mv Z 43 4 from e)]
        exact (R_off (by omega) (by omega) (by omega)).tr ((mv_up38 (Or.inr rfl)).tr (mv_up38 (Or.inl rfl)))
    exact (R_up0 hT (by omega) (by omega)).tr mv_up36
  · rw [if_neg hc, if_neg (show ¬ (0 < mv Z 43 5 ∧ 0 < mv Z 1 8 ∧ px_rem (mv Z 43 5) (mv Z 1 8) = 0) from fun q => hc ⟨q.1, q.2.2⟩)]
    exact px_R.rf
theorem M_later {m n : Nat} {Z : px_I} : px_R m n (g_later (mv Z) 43) 43 (mv (m_later Z)) 43 := by
  unfold g_later m_later
  by_cases h : Z 54 37 < 199
  · rw [if_pos h, if_pos (show mv Z 43 5 < 199 from h)]; exact mv_up37
  · rw [if_neg h, if_neg (show ¬ mv Z 43 5 < 199 from h)]; exact px_R.rf
theorem M_day {m n p : Nat} {Y Z : px_I} (h : px_R m n Y p (mv Z) 43) (h8 : 8 ≤ p) (hf : ∀ j, j < n → ix (Y 2 j) < m) (hy : 0 < Z 64 1) : px_R m n (g_pass Y p m n) p (mv (m_day Z m n)) 43 := by
  refine (R_pass h h8 (by omega) hf).tr ?_
  have hf' : ∀ j, j < n → ix (mv Z 2 j) < m := fun j hj => by rw [← h.1 2 (by omega) (by omega)]; exact hf j hj
  unfold g_pass m_day
  refine (R_off (by omega) (by omega) (by omega)).tr ?_
  exact (R_later (M_joys (M_st hy) (fun j hj => by rw [g_start_row (by omega) (by omega)]; exact hf' j hj) n (Nat.le_refl n)) (by omega) (by omega)).tr M_later
theorem M_days {m n p : Nat} {Y Z : px_I} (h : px_R m n Y p (mv Z) 43) (h8 : 8 ≤ p) (hf : ∀ j, j < n → ix (Y 2 j) < m) (hy : 0 < Z 64 1) : ∀ k, px_R m n (g_days p m n Y k) p (mv (m_days m n Z k)) 43 := by
  intro k
  induction k with
  | zero => exact h
  | succ k ih =>
    exact M_day ih h8 (fun j hj => by rw [g_days_row (by omega) (by omega) (by omega) (by omega)]; exact hf j hj) (by rw [m_days_row (by omega) (by omega) (by omega)]; exact hy)
/-- the turns counted in thought -/
theorem M_dturn {m n : Nat} {Z : px_I} (hy : 0 < Z 64 1) : m_day Z m n 54 38 = Z 54 38 + d_turn (mv Z) 43 m := by
  have e1 : m_day Z m n 54 38 = m_st Z m 54 38 := by
    unfold m_day m_later
    split
    · rw [px_up_ne (by omega), m_joys_row (by omega) (by omega)]
    · rw [m_joys_row (by omega) (by omega)]
  rw [e1]
  unfold m_st d_turn
  rw [M_ch]
  show _ = Z 54 38 + if (0 < Z 54 37 ∧ 0 < Z 64 1 ∧ px_rem (Z 54 37) (Z 64 1) = 0) ∧ m_ch Z m ≠ Z 54 36 then 1 else 0
  by_cases hc : 0 < Z 54 37 ∧ px_rem (Z 54 37) (Z 64 1) = 0
  · rw [if_pos hc]
    unfold m_vote
    rw [px_up_ne (by omega)]
    by_cases e : m_ch Z m = Z 54 36
    · rw [if_pos e, if_neg (fun q => q.2 e), px_up_ne (by omega)]; simp
    · rw [if_neg e, if_pos ⟨⟨hc.1, hy, hc.2⟩, e⟩, px_up_same]
  · rw [if_neg hc, if_neg (fun q => hc ⟨q.1.1, q.1.2.2⟩)]; simp
theorem M_dvote {m n : Nat} {Z : px_I} (hy : 0 < Z 64 1) : m_day Z m n 54 39 = Z 54 39 + d_vote (mv Z) 43 := by
  have e1 : m_day Z m n 54 39 = m_st Z m 54 39 := by
    unfold m_day m_later
    split
    · rw [px_up_ne (by omega), m_joys_row (by omega) (by omega)]
    · rw [m_joys_row (by omega) (by omega)]
  rw [e1]
  unfold m_st d_vote
  show _ = Z 54 39 + if (0 < Z 54 37 ∧ 0 < Z 64 1 ∧ px_rem (Z 54 37) (Z 64 1) = 0) then 1 else 0
  by_cases hc : 0 < Z 54 37 ∧ px_rem (Z 54 37) (Z 64 1) = 0
  · rw [if_pos hc, if_pos ⟨hc.1, hy, hc.2⟩]
    unfold m_vote
    rw [px_up_ne (by omega)]
    split
    · exact px_up_same
    · rw [px_up_ne (by omega), px_up_same]
  · rw [if_neg hc, if_neg (fun q => hc ⟨q.1, q.2.2⟩)]; simp
theorem M_dturns {m n : Nat} {Y Z : px_I} (h : px_R m n Y 43 (mv Z) 43) (hf : ∀ j, j < n → ix (Y 2 j) < m) (hy : 0 < Z 64 1) : ∀ k, m_days m n Z k 54 38 = Z 54 38 + d_turns 43 m n Y k := by
  intro k
  induction k with
  | zero => simp [m_days, d_turns]
  | succ k ih =>
    rw [m_days, M_dturn (by rw [m_days_row (by omega) (by omega) (by omega)]; exact hy), ih, d_turns, ← R_dturn (M_days h (by omega) hf hy k), Int32.add_assoc]

