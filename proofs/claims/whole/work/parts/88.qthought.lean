/-! questions in thought answer alike -/
/-- what a lane in thought needs of both states -/
def q_ok (Y X : px_I) (m n : Nat) : Prop := r_two Y X ∧ (∀ j, j < n → ix (Y 2 j) < m) ∧ 0 < X 64 1 ∧ (∀ j, j < n → r_01 (X 63 j)) ∧ n ≤ 10 ∧ m ≤ 7
theorem r_all.q {I I' : px_I} {J : px_J} {m n d u t nb : Nat} {Ls : List l_L} (h : r_all I J m n d u t nb Ls) (hM : ∀ q, 54 ≤ q → I' q = I q) : q_ok I I' m n := by
  have h2 := h.2.1.two hM
  refine ⟨h2, h.2.2.1.2.2.1, ?_, fun j hj => ?_, h.1.2.2.2.2.2, h.1.2.2.1⟩
  · rw [← h2.2.2.1]; exact h.2.2.1.2.2.2.2.2.2.1
  · rw [← h2.1.2.2.2.2.2.2.2.2]; exact h.2.2.1.2.2.2.2.1 j (by have := h.1.2.2.2.2.2; omega)
theorem q_start {Y X : px_I} {m n : Nat} (h : q_ok Y X m n) : px_R m n (t_start Y m n) 43 (mv (m_lay X m n)) 43 := (R_takes (by omega) (by omega) (by omega)).tr (r_lay h.1)
theorem q_days {Y X S : px_I} {m n : Nat} (h : q_ok Y X m n) (hS : px_R m n S 43 (mv (m_lay X m n)) 43) (k : Nat) : px_R m n (g_days 43 m n S k) 43 (mv (m_days m n (m_lay X m n) k)) 43 := M_days hS (by omega) (fun j hj => by rw [hS.1 2 (by omega) (by omega)]; show ix (m_lay X m n 56 j) < m; rw [m_lay_row (by omega) (by omega), ← h.1.1.2.1]; exact h.2.1 j hj) (by rw [m_lay_row (by omega) (by omega)]; exact h.2.2.1) k
theorem m_goJoy_01 {Z : px_I} {j i : Nat} (h : r_01 (Z 79 i)) : r_01 (m_goJoy Z j 79 i) := by
  unfold m_goJoy
  repeat' split
  all_goals first | exact h | (rw [px_up_row (by omega)]; exact h) | skip
  rw [px_up_at]
  split
  · exact Or.inr rfl
  · exact h
theorem m_joys_01 {Z : px_I} {i : Nat} (h : r_01 (Z 79 i)) : ∀ k, r_01 (m_joys Z k 79 i) := by
  intro k
  induction k with
  | zero => exact h
  | succ k ih => exact m_goJoy_01 ih
theorem m_days_01 {Z : px_I} {m n i : Nat} (h : r_01 (Z 79 i)) : ∀ k, r_01 (m_days m n Z k 79 i) := by
  intro k
  induction k with
  | zero => exact h
  | succ k ih =>
    rw [m_days, m_day, m_later_row (by omega)]
    exact m_joys_01 (by rw [m_st_row (by omega)]; exact ih) n
theorem m_lay_01 {X : px_I} {m n i : Nat} (hi : i < n) (h : r_01 (X 63 i)) : r_01 (m_lay X m n 79 i) := by
  unfold m_lay m_cp
  rw [px_up_row (by omega), px_up_row (by omega), px_up_row (by omega), px_up_row (by omega), px_cp_at, if_pos (by omega), px_cp_row (by omega), px_cp_row (by omega), Nat.sub_zero, Nat.zero_add]
  exact h
theorem r_01_not {x : Int32} (h : r_01 x) : (!decide (x = 0)) = decide (x = 1) := by
  rcases h with e | e <;> rw [e] <;> decide
/-- states by their numbers -/
theorem q_in {S Z : px_I} {m n j : Nat} {w : Int32} (h : px_R m n S 43 (mv Z) 43) (hj : j < n) (h1 : r_01 (Z 79 j)) : g_in S 43 w j = m_in Z w j := by
  rw [R_in h hj]
  unfold m_in
  show s_in (Z 57) (Z 58) (Z 78) (Z 79) (Z 54 37) w j = _
  unfold s_in
  rw [r_01_not h1]
theorem q_lost {S Z : px_I} {m n j : Nat} (h : px_R m n S 43 (mv Z) 43) (hj : j < n) (h1 : r_01 (Z 79 j)) : g_lost S 43 j = decide (Z 79 j = 1) := by
  show (!decide (S (43 + 3) j = 0)) = _
  rw [h.2.2.2.2.2 j hj]
  exact r_01_not h1
theorem q_glad {S Z : px_I} {m n p : Nat} (h : px_R m n S 43 (mv Z) 43) (hp : p < m) : g_glad S 43 n p = m_gp Z n p := R_glad h hp
theorem q_had {S Z : px_I} {m n j : Nat} (h : px_R m n S 43 (mv Z) 43) (hj : j < n) : g_had S 43 j = m_had Z j := R_had h hj
theorem q_worth {S Z : px_I} {m n : Nat} (h : px_R m n S 43 (mv Z) 43) : s_sum (g_had S 43) (S 6) n = s_sum (m_had Z) (Z 60) n := R_worth h
theorem q_lane {Y X : px_I} {m n k : Nat} {w : Int32} (h : q_ok Y X m n) : g_lane (g_days 43 m n (t_start Y m n) k) m n w = m_lane (m_days m n (m_lay X m n) k) m n w := by
  have hR := q_days h (q_start h) k
  have h01 : ∀ j, j < n → r_01 (m_days m n (m_lay X m n) k 79 j) := fun j hj => m_days_01 (m_lay_01 hj (h.2.2.2.1 j hj)) k
  unfold g_lane m_lane
  by_cases w4 : w = 4
  · rw [if_pos w4, if_pos w4]; exact s_bits_congr m (fun p hp => q_glad hR hp)
  rw [if_neg w4, if_neg w4]
  by_cases w5 : w = 5
  · rw [if_pos w5, if_pos w5]; exact hR.2.2.1.1
  rw [if_neg w5, if_neg w5]
  by_cases w6 : w = 6
  · rw [if_pos w6, if_pos w6]; exact q_worth hR
  rw [if_neg w6, if_neg w6]
  by_cases w7 : w = 7
  · rw [if_pos w7, if_pos w7]
    exact s_sum_congr n (fun j hj => ⟨q_lost hR hj (h01 j hj), congrFun (hR.1 6 (by omega) (by omega)) j⟩)
  rw [if_neg w7, if_neg w7]
  by_cases w8 : w = 8
  · rw [if_pos w8, if_pos w8]
    have e1 := g_days_turns (I := t_start Y m n) (p := 43) (m := m) (n := n) k
    have e2 := M_dturns (q_start h) (fun j hj => by rw [t_start_row (by omega)]; exact h.2.1 j hj) (by rw [m_lay_row (by omega) (by omega)]; exact h.2.2.1) k
    have e3 : m_lay X m n 54 38 = 0 := by unfold m_lay; rw [px_up_ne (by omega), px_up_same]
    have e4 : t_start Y m n 47 3 = Y 12 3 := by
      unfold t_start g_takes g_take
      rw [px_up_row (by omega), px_up_row (by omega), px_cp_at, if_pos (by omega), px_cp_row (by omega), px_cp_row (by omega), px_cp_row (by omega)]
    have e5 : g_days 43 m n (t_start Y m n) k 12 3 = Y 12 3 := by rw [g_days_row (by omega) (by omega) (by omega) (by omega), t_start_row (by omega)]
    rw [show g_days 43 m n (t_start Y m n) k 47 3 = t_start Y m n 47 3 + d_turns 43 m n (t_start Y m n) k from e1, e5, e4, e2, e3]
    grind
  rw [if_neg w8, if_neg w8]
  exact s_bits_congr n (fun j hj => q_in hR hj (h01 j hj))
theorem s_first_congr {f g : Nat → Bool} : ∀ k j, (∀ i, j ≤ i → i < j + k → f i = g i) → s_first f k j = s_first g k j := by
  intro k
  induction k with
  | zero => intro j _; rfl
  | succ k ih =>
    intro j h
    unfold s_first
    rw [h j (by omega) (by omega), ih (j + 1) (fun i a b => h i (by omega) (by omega))]
theorem q_when {Y X : px_I} {m n jy : Nat} {w : Int32} (h : q_ok Y X m n) (hj : jy < n) : s_first (fun i => g_in (g_days 43 m n (t_start Y m n) i) 43 (if w = 0 then 2 else 3) jy) 61 0 = s_first (fun i => m_is (m_days m n (m_lay X m n) i) w jy) 61 0 := by
  refine s_first_congr _ _ (fun i _ _ => ?_)
  have hR := q_days h (q_start h) i
  rw [q_in hR hj (m_days_01 (m_lay_01 hj (h.2.2.2.1 jy hj)) i)]
  unfold m_is
  by_cases e : w = 0
  · rw [if_pos e, if_pos e]; rfl
  · rw [if_neg e, if_neg e]; rfl
/-! whom to move -/
theorem q_put {Y X : px_I} {m n p : Nat} {x : Int32} (h : q_ok Y X m n) : px_R m n (px_up (t_start Y m n) 44 p x) 43 (mv (px_up (m_lay X m n) 77 p x)) 43 := (R_up1 (q_start h) (by omega) (by omega)).tr mv_up77
theorem q_wo {Y X S Z : px_I} {m n k : Nat} (h : q_ok Y X m n) (hS : px_R m n S 43 (mv Z) 43) (hr : ∀ q, q ≠ 54 → q ≠ 77 → q ≠ 78 → q ≠ 79 → Z q = X q) : s_sum (g_had (g_days 43 m n S k) 43) (g_days 43 m n S k 6) n = m_wo Z m n k := by
  have hR := M_days hS (by omega) (fun j hj => by rw [hS.1 2 (by omega) (by omega)]; show ix (Z 56 j) < m; rw [hr 56 (by omega) (by omega) (by omega) (by omega), ← h.1.1.2.1]; exact h.2.1 j hj) (by rw [hr 64 (by omega) (by omega) (by omega) (by omega)]; exact h.2.2.1) k
  unfold m_wo
  rw [q_worth hR, m_days_row (by omega) (by omega) (by omega)]
theorem m_lay_ne {X : px_I} {m n q : Nat} (a : q ≠ 54) (b : q ≠ 77) (c : q ≠ 78) (d : q ≠ 79) : m_lay X m n q = X q := (m_sd_lay (I := X)).1 q a b c d
theorem q_w0 {Y X : px_I} {m n k : Nat} (h : q_ok Y X m n) : t_worth Y m n k (-1) 0 = m_wo (m_lay X m n) m n k := by
  unfold t_worth
  have e : t_put Y m n (-1) 0 = t_start Y m n := by unfold t_put; rw [if_neg (by simp [s_is])]
  rw [e]
  exact q_wo h (q_start h) (fun q a b c d => m_lay_ne a b c d)
theorem q_w1 {Y X : px_I} {m n k p : Nat} {x : Int32} (h : q_ok Y X m n) (hm : Y 1 6 = nI m) (hp : p < m) : t_worth Y m n k (nI p) x = m_wo (px_up (m_lay X m n) 77 p x) m n k := by
  have hm7 := h.2.2.2.2.2
  unfold t_worth
  have e : t_put Y m n (nI p) x = px_up (t_start Y m n) 44 p x := by
    unfold t_put
    have hP : g_isP (t_start Y m n) (nI p) = true := by
      unfold g_isP
      rw [t_start_row (by omega), hm]
      unfold s_is
      rw [decide_eq_false (nI_nn (by omega)), decide_eq_true ((qI_lt (by omega) (by omega)).mpr hp), decide_eq_true (show nI p < (7 : Int32) from (qI_lt (a := p) (b := 7) (by omega) (by omega)).mpr (by omega))]
      rfl
    rw [if_pos hP, ix_nI (by omega)]
  rw [e]
  exact q_wo h (q_put h) (fun q a b c d => (px_up_row b).trans (m_lay_ne a b c d))
theorem t_best_ge {w : Nat → Int32} {base : Int32 × Int32} : ∀ j, ¬ (t_best w base j).1 < base.1 := by
  intro j
  induction j with
  | zero =>
    show ¬ base.1 < base.1
    rw [Int32.lt_iff_toInt_lt]; omega
  | succ j ih =>
    unfold t_best
    split
    · rename_i q
      show ¬ w j < base.1
      rw [Int32.lt_iff_toInt_lt] at q ih ⊢
      omega
    · exact ih
theorem q_move {Y X : px_I} {m n k : Nat} (h : q_ok Y X m n) (hm : Y 1 6 = nI m) : ∀ j, j ≤ 12 * m → t_mv Y m n k j = m_mv X m n k j := by
  have hm7 := h.2.2.2.2.2
  intro j
  induction j with
  | zero => intro _; show (t_worth Y m n k (-1) 0, (99 : Int32)) = _; rw [q_w0 h]; rfl
  | succ j ih =>
    intro hj
    have ih := ih (by omega)
    have hw : t_wm Y m n k j = m_mw X m n k j := by
      unfold t_wm m_mw
      exact q_w1 h hm (by omega)
    have e1 : t_mv Y m n k (j + 1) = if (t_mv Y m n k j).1 < t_wm Y m n k j then (t_wm Y m n k j, nI j) else t_mv Y m n k j := rfl
    have e2 : m_mv X m n k (j + 1) = if nI (j % 12) = X 55 (j / 12) then m_mv X m n k j else if (m_mv X m n k j).1 < m_mw X m n k j then (m_mw X m n k j, nI j) else m_mv X m n k j := rfl
    rw [e1, e2, hw, ih]
    by_cases c : nI (j % 12) = X 55 (j / 12)
    · rw [if_pos c]
      have hl : m_lay X m n 77 (j / 12) = X 55 (j / 12) := by
        unfold m_lay m_cp
        rw [px_up_row (by omega), px_up_row (by omega), px_up_row (by omega), px_up_row (by omega), px_cp_row (by omega), px_cp_row (by omega), px_cp_at, if_pos (by omega), Nat.sub_zero, Nat.zero_add]
      have e3 : m_mw X m n k j = m_wo (m_lay X m n) m n k := by
        unfold m_mw
        rw [c, ← hl, m_up_id]
      have e4 : ¬ (m_mv X m n k j).1 < m_mw X m n k j := by
        rw [e3, ← q_w0 h, ← ih]
        exact t_best_ge j
      rw [if_neg e4]
    · rw [if_neg c]
/-! when a joy had best be due -/
theorem q_ok.up {Y X : px_I} {m n q r k : Nat} {x : Int32} (h : q_ok Y X m n) (hq : (q = 3 ∧ r = 57) ∨ (q = 5 ∧ r = 59)) : q_ok (px_up Y q k x) (px_up X r k x) m n := by
  refine ⟨h.1.up hq, fun j hj => ?_, ?_, fun j hj => ?_, h.2.2.2.2⟩
  · rw [px_up_row (by omega)]; exact h.2.1 j hj
  · rw [px_up_row (by omega)]; exact h.2.2.1
  · rw [px_up_row (by omega)]; exact h.2.2.2.1 j hj
theorem s_sum_nn {c : Nat → Bool} {w : Nat → Int32} : ∀ k, k ≤ 10 → (∀ j, j < k → w j = nI (ix (w j)) ∧ ix (w j) < 10) → ∃ s, s ≤ 9 * k ∧ s_sum c w k = nI s := by
  intro k
  induction k with
  | zero => intro _ _; exact ⟨0, by omega, nI_0.symm⟩
  | succ k ih =>
    intro hk h
    obtain ⟨s, h1, h2⟩ := ih (by omega) (fun j hj => h j (by omega))
    unfold s_sum
    split
    · rw [h2, (h k (by omega)).1, qI_add]
      exact ⟨_, by have := (h k (by omega)).2; omega, rfl⟩
    · exact ⟨s, by omega, h2⟩
theorem q_date {Y X : px_I} {m n k jy : Nat} (h : q_ok Y X m n) (hw : ∀ j, j < n → X 60 j = nI (ix (X 60 j)) ∧ ix (X 60 j) < 10) : ∀ d, 0 < d → d ≤ 100 → (t_dt Y m n k jy d).1 = (m_dt X m n k jy d).2 ∧ (t_dt Y m n k jy d).2 = (m_dt X m n k jy d).1 ∧ ¬ (m_dt X m n k jy d).1 < 0 := by
  have hwd : ∀ d, t_wd Y m n k jy d = m_dw X m n k jy d := fun d => q_w0 (h.up (Or.inl ⟨rfl, rfl⟩))
  have hnn : ∀ d, ¬ m_dw X m n k jy d < 0 := by
    intro d
    unfold m_dw m_wo
    obtain ⟨s, h1, h2⟩ := s_sum_nn (c := m_had (m_days m n (m_lay (px_up X 57 jy (nI d)) m n) k)) (w := m_lay (px_up X 57 jy (nI d)) m n 60) n h.2.2.2.2.1 (fun j hj => by rw [m_lay_row (by omega) (by omega), px_up_row (by omega)]; exact hw j hj)
    rw [h2]
    exact nI_nn (by have := h.2.2.2.2.1; omega)
  intro d
  induction d with
  | zero => intro q _; omega
  | succ d ih =>
    intro _ hd
    have e1 : t_dt Y m n k jy (d + 1) = if (t_dt Y m n k jy d).1 < t_wd Y m n k jy d then (t_wd Y m n k jy d, nI d) else t_dt Y m n k jy d := rfl
    have e2 : m_dt X m n k jy (d + 1) = if ¬ (m_dt X m n k jy d).1 < 0 ∧ ¬ (m_dt X m n k jy d).2 < m_dw X m n k jy d then m_dt X m n k jy d else (nI d, m_dw X m n k jy d) := rfl
    rw [e1, e2, hwd]
    cases d with
    | zero =>
      have c1 : (t_dt Y m n k jy 0).1 < m_dw X m n k jy 0 := by
        show (-1 : Int32) < _
        have := hnn 0
        rw [px_nlt, Int32.le_iff_toInt_le] at this
        rw [Int32.lt_iff_toInt_lt]
        have c0 : (0 : Int32).toInt = 0 := by decide
        have c1 : (-1 : Int32).toInt = -1 := by decide
        omega
      rw [if_pos c1, if_neg (fun q => q.1 (by show (-2 : Int32) < 0; decide))]
      exact ⟨rfl, rfl, nI_nn (by omega)⟩
    | succ d =>
      obtain ⟨i1, i2, i3⟩ := ih (by omega) (by omega)
      rw [i1]
      by_cases c : (m_dt X m n k jy (d + 1)).2 < m_dw X m n k jy (d + 1)
      · rw [if_pos c, if_neg (fun q => q.2 c)]
        exact ⟨rfl, rfl, nI_nn (by omega)⟩
      · rw [if_neg c, if_pos ⟨i3, c⟩]
        exact ⟨i1, i2, i3⟩

