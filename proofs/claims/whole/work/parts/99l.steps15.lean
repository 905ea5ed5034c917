/-! a day of the law -/
theorem bc_step : ∀ n, n < 10 → ∀ a, a < 16 → ∀ b, b < 32 → 32 * a + b < 2 ^ n → (nI (32 * a + b) ||| ((1 : Int32) <<< (nI n &&& 31)) = nI (32 * a + b + 2 ^ n) ∧ s_bc (nI (32 * a + b + 2 ^ n)) = s_bc (nI (32 * a + b)) + 1) := by decide +kernel
theorem bc_stp {n w : Nat} (hn : n < 10) (hw : w < 2 ^ n) : nI w ||| ((1 : Int32) <<< (nI n &&& 31)) = nI (w + 2 ^ n) ∧ s_bc (nI (w + 2 ^ n)) = s_bc (nI w) + 1 := by
  have h9 : 2 ^ n ≤ 2 ^ 9 := Nat.pow_le_pow_right (by omega) (by omega)
  have e : 32 * (w / 32) + w % 32 = w := by omega
  have := bc_step n hn (w / 32) (by omega) (w % 32) (by omega) (by omega)
  rw [e] at this
  exact this
theorem bc_sum {f : Nat → Bool} : ∀ n, n ≤ 10 → ∃ w, w < 2 ^ n ∧ s_bits f n = nI w ∧ s_bc (s_bits f n) = s_sum f (fun _ => 1) n := by
  intro n
  induction n with
  | zero => intro _; exact ⟨0, by omega, rfl, by show s_bc 0 = 0; decide⟩
  | succ n ih =>
    intro hn
    obtain ⟨w, h1, h2, h3⟩ := ih (by omega)
    have hp : 2 ^ (n + 1) = 2 ^ n * 2 := Nat.pow_succ 2 n
    by_cases c : f n = true
    · have e : s_bits f (n + 1) = nI (w + 2 ^ n) := by rw [s_bits, if_pos c, h2]; exact (bc_stp (by omega) h1).1
      refine ⟨w + 2 ^ n, by omega, e, ?_⟩
      rw [e, s_sum, if_pos c, (bc_stp (by omega) h1).2, ← h2, h3]
    · have e : s_bits f (n + 1) = s_bits f n := by rw [s_bits, if_neg c]
      refine ⟨w, by omega, e.trans h2, ?_⟩
      rw [e, s_sum, if_neg c, h3]
theorem s_had_at {a b c a' b' c' : Nat → Int32} {j : Nat} (h1 : a j = a' j) (h2 : b j = b' j) (h3 : c j = c' j) : s_had a b c j = s_had a' b' c' j := by
  unfold s_had
  rw [h1, h2, h3]
theorem runOn_off {X : px_I} {p j i : Nat} (hij : i ≠ j) : g_runOn X p j (p + 2) i = X (p + 2) i := by
  unfold g_runOn
  split
  · rw [px_up_row (by omega), px_up_ne (by omega)]
  · rw [px_up_ne (by omega)]
theorem runOn_3 {X : px_I} {p j i : Nat} : g_runOn X p j (p + 3) i = X (p + 3) i := congrFun (g_runOn_row (by omega) (by omega)) i
theorem passFor_off {X : px_I} {p j i : Nat} (hij : i ≠ j) : g_passFor X p j (p + 2) i = X (p + 2) i ∧ g_passFor X p j (p + 3) i = X (p + 3) i := by
  unfold g_passFor
  split
  · split
    · exact ⟨runOn_off hij, runOn_3⟩
    · exact ⟨rfl, rfl⟩
  · split
    · split
      · exact ⟨runOn_off hij, runOn_3⟩
      · split
        · exact ⟨rfl, rfl⟩
        · exact ⟨by rw [px_up_ne (by omega)], by rw [px_up_ne (by omega)]⟩
    · exact ⟨rfl, rfl⟩
theorem runOn_5 {X : px_I} {p j : Nat} (h8 : 8 ≤ p) (hX : g_had X p j = false) : g_runOn X p j (p + 4) 5 = X (p + 4) 5 + (if (g_had (g_runOn X p j) p j && !g_had X p j) = true then 1 else 0) := by
  rw [hX]
  unfold g_runOn
  by_cases c : g_had (px_up X (p + 2) j (X (p + 2) j + 1)) p j = true
  · rw [if_pos c]
    have e : g_had (px_up (px_up X (p + 2) j (X (p + 2) j + 1)) (p + 4) 5 (X (p + 4) 5 + 1)) p j = g_had (px_up X (p + 2) j (X (p + 2) j + 1)) p j := s_had_at (px_up_ne (by omega)) (px_up_ne (by omega)) (px_up_ne (by omega))
    rw [e, c, px_up_same]
    rfl
  · rw [if_neg c, Bool.eq_false_iff.mpr c, px_up_row (by omega)]
    simp
theorem passFor_5 {X : px_I} {p j : Nat} (h8 : 8 ≤ p) (h : 0 < X 4 j) : g_passFor X p j (p + 4) 5 = X (p + 4) 5 + (if (g_had (g_passFor X p j) p j && !g_had X p j) = true then 1 else 0) := by
  have no : ∀ b : Bool, (if (b && !b) = true then (1 : Int32) else 0) = 0 := by decide
  unfold g_passFor
  by_cases c1 : g_runs X p j = true
  · rw [if_pos c1]
    by_cases c2 : g_on X p j = true
    · rw [if_pos c2]
      refine runOn_5 h8 ?_
      simp only [g_runs, s_runs, Bool.and_eq_true, decide_eq_true_eq] at c1
      unfold g_had s_had
      rw [decide_eq_true c1.2]
      simp
    · rw [if_neg c2, no]
      simp
  · rw [if_neg c1]
    by_cases c2 : g_waits X p j = true
    · rw [if_pos c2]
      have z0 : g_had X p j = false := by
        simp only [g_waits, s_waits, Bool.and_eq_true, decide_eq_true_eq] at c2
        unfold g_had s_had
        rw [c2.1.2, decide_eq_true h]
        simp
      by_cases c3 : g_on X p j = true
      · rw [if_pos c3]
        exact runOn_5 h8 z0
      · rw [if_neg c3]
        by_cases c4 : X p 5 < X 3 j + X 5 j
        · rw [if_pos c4, no]
          simp
        · rw [if_neg c4]
          have e : g_had (px_up X (p + 3) j 1) p j = false := by
            unfold g_had s_had
            rw [px_up_same]
            rfl
          rw [e, px_up_row (by omega)]
          simp
    · rw [if_neg c2, no]
      simp
theorem joys_off {X : px_I} {p i : Nat} : ∀ k, k ≤ i → g_joys X p k (p + 2) i = X (p + 2) i ∧ g_joys X p k (p + 3) i = X (p + 3) i := by
  intro k
  induction k with
  | zero => intro _; exact ⟨rfl, rfl⟩
  | succ k ih =>
    intro h
    have a := passFor_off (X := g_joys X p k) (p := p) (show i ≠ k by omega)
    have b := ih (by omega)
    rw [g_joys]
    exact ⟨a.1.trans b.1, a.2.trans b.2⟩
theorem joys_on {X : px_I} {p i : Nat} : ∀ k, g_joys X p (i + 1 + k) (p + 2) i = g_joys X p (i + 1) (p + 2) i ∧ g_joys X p (i + 1 + k) (p + 3) i = g_joys X p (i + 1) (p + 3) i := by
  intro k
  induction k with
  | zero => exact ⟨rfl, rfl⟩
  | succ k ih =>
    have a := passFor_off (X := g_joys X p (i + 1 + k)) (p := p) (show i ≠ i + 1 + k by omega)
    rw [show i + 1 + (k + 1) = i + 1 + k + 1 from rfl, g_joys]
    exact ⟨a.1.trans ih.1, a.2.trans ih.2⟩
theorem joys_had {X : px_I} {p i n : Nat} (h8 : 8 ≤ p) (hi : i < n) : g_had (g_joys X p n) p i = g_had (g_joys X p (i + 1)) p i := by
  have a := joys_on (X := X) (p := p) (i := i) (n - (i + 1))
  rw [show i + 1 + (n - (i + 1)) = n by omega] at a
  exact s_had_at (by rw [g_joys_row (by omega) (by omega) (by omega), g_joys_row (by omega) (by omega) (by omega)]) a.1 a.2
theorem joys_had0 {X : px_I} {p i : Nat} (h8 : 8 ≤ p) : g_had (g_joys X p i) p i = g_had X p i := by
  have a := joys_off (X := X) (p := p) (i := i) i (Nat.le_refl i)
  exact s_had_at (by rw [g_joys_row (by omega) (by omega) (by omega)]) a.1 a.2
theorem joys_5 {X : px_I} {p n : Nat} (h8 : 8 ≤ p) (h : ∀ j, j < n → 0 < X 4 j) : ∀ k, k ≤ n → g_joys X p k (p + 4) 5 = X (p + 4) 5 + s_sum (fun j => g_had (g_joys X p n) p j && !g_had X p j) (fun _ => 1) k := by
  intro k
  induction k with
  | zero => intro _; show _ = _ + (0 : Int32); simp [g_joys]
  | succ k ih =>
    intro hk
    have e := passFor_5 (X := g_joys X p k) (p := p) (j := k) h8 (by rw [g_joys_row (by omega) (by omega) (by omega)]; exact h k (by omega))
    rw [joys_had0 h8, ← show g_joys X p (k + 1) = g_passFor (g_joys X p k) p k from rfl, ih (by omega), ← joys_had (n := n) h8 (by omega)] at e
    rw [e, s_sum]
    split
    · rw [Int32.add_assoc]
    · simp
theorem start_5 {I : px_I} {p m k : Nat} (h2 : k ≠ 2) (h3 : k ≠ 3) : g_start I p m (p + 4) k = I (p + 4) k := by
  unfold g_start
  split
  · unfold g_vote g_turn
    rw [px_up_ne (by omega), px_up_row (by omega)]
    split
    · rfl
    · rw [px_up_ne (by omega)]
  · rfl
theorem pass_23 {I : px_I} {p m n i : Nat} : g_pass I p m n (p + 2) i = g_joys (g_start I p m) p n (p + 2) i ∧ g_pass I p m n (p + 3) i = g_joys (g_start I p m) p n (p + 3) i := by
  unfold g_pass
  rw [px_up_row (by omega), px_up_row (by omega), g_later_row (by omega), g_later_row (by omega)]
  exact ⟨rfl, rfl⟩
theorem pass_off {I : px_I} {p m n i : Nat} (hi : n ≤ i) : g_pass I p m n (p + 2) i = I (p + 2) i ∧ g_pass I p m n (p + 3) i = I (p + 3) i := by
  have a := pass_23 (I := I) (p := p) (m := m) (n := n) (i := i)
  have b := joys_off (X := g_start I p m) (p := p) (i := i) n hi
  rw [a.1, a.2, b.1, b.2, g_start_row (by omega) (by omega), g_start_row (by omega) (by omega)]
  exact ⟨rfl, rfl⟩
theorem pass_5 {I : px_I} {p m n : Nat} (h8 : 8 ≤ p) (h : ∀ j, j < n → 0 < I 4 j) : g_pass I p m n (p + 4) 5 = I (p + 4) 5 + s_sum (fun j => g_had (g_pass I p m n) p j && !g_had I p j) (fun _ => 1) n := by
  have e : g_pass I p m n (p + 4) 5 = g_joys (g_start I p m) p n (p + 4) 5 := by
    unfold g_pass
    rw [px_up_ne (by omega), g_later_led]
  have j5 := joys_5 (X := g_start I p m) (p := p) (n := n) h8 (fun j hj => by rw [g_start_row (by omega) (by omega)]; exact h j hj) n (Nat.le_refl n)
  rw [e, j5, start_5 (by omega) (by omega)]
  congr 1
  refine s_sum_congr n (fun j hj => ⟨?_, rfl⟩)
  have a := pass_23 (I := I) (p := p) (m := m) (n := n) (i := j)
  have e1 : g_had (g_pass I p m n) p j = g_had (g_joys (g_start I p m) p n) p j := s_had_at (by rw [g_pass_row (by omega) (by omega) (by omega) (by omega), g_joys_row (by omega) (by omega) (by omega), g_start_row (by omega) (by omega)]) a.1 a.2
  have e2 : g_had (g_start I p m) p j = g_had I p j := s_had_at (by rw [g_start_row (by omega) (by omega)]) (by rw [g_start_row (by omega) (by omega)]) (by rw [g_start_row (by omega) (by omega)])
  show (g_had _ p j && !g_had _ p j) = _
  rw [e1, e2]
theorem passFor_01 {X : px_I} {p j i : Nat} (h : r_01 (X (p + 3) i)) : r_01 (g_passFor X p j (p + 3) i) := by
  unfold g_passFor
  split
  · split
    · rw [runOn_3]; exact h
    · exact h
  · split
    · split
      · rw [runOn_3]; exact h
      · split
        · exact h
        · rw [px_up_at]
          split
          · exact Or.inr rfl
          · exact h
    · exact h
theorem joys_01 {X : px_I} {p i : Nat} (h : r_01 (X (p + 3) i)) : ∀ k, r_01 (g_joys X p k (p + 3) i) := by
  intro k
  induction k with
  | zero => exact h
  | succ k ih => exact passFor_01 ih
theorem pass_01 {I : px_I} {p m n i : Nat} (h : r_01 (I (p + 3) i)) : r_01 (g_pass I p m n (p + 3) i) := by
  rw [pass_23.2]
  refine joys_01 ?_ n
  rw [g_start_row (by omega) (by omega)]; exact h
theorem pass_g {I : px_I} {p m n : Nat} (h : r_01 (I p 4)) : r_01 (g_pass I p m n p 4) := by
  have e : g_pass I p m n p 4 = g_start I p m p 4 := by
    unfold g_pass g_later
    rw [px_up_row (by omega)]
    split
    · rw [px_up_ne (by omega), g_joys_row (by omega) (by omega) (by omega)]
    · rw [g_joys_row (by omega) (by omega) (by omega)]
  rw [e]
  unfold g_start
  split
  · unfold g_vote
    rw [px_up_row (by omega), px_up_same]
    unfold g_chosen
    split
    · exact h
    · split
      · exact Or.inl rfl
      · exact Or.inr rfl
  · exact h
theorem pass_led {I : px_I} {p m n k : Nat} (h1 : k ≠ 1) (h2 : k ≠ 2) (h3 : k ≠ 3) (h5 : k ≠ 5) : g_pass I p m n (p + 4) k = I (p + 4) k := by
  rw [g_pass_led h5 h1, start_5 h2 h3]
theorem pass_1 {I : px_I} {p m n : Nat} : g_pass I p m n (p + 4) 1 = I (p + 4) 1 + 1 := by
  unfold g_pass
  rw [px_up_same, g_later_led, g_joys_led (by omega), start_5 (by omega) (by omega)]
theorem lay_c {X : px_I} {m n : Nat} : m_lay X m n 54 38 = 0 ∧ m_lay X m n 54 39 = 0 := ⟨rfl, rfl⟩
theorem st_day {l : Launch} {I : px_I} {J : px_J} (h : r_ex I J) : r_stp l mX11_day mX12_day 4 5 [] I J := by
  obtain ⟨m, n, d, u, t, nb, Ls, h⟩ := h
  have cG := c_X11_day (l := l) (I := I) (J := J) h.ok0 (g_pass_row (by omega) (by omega) (by omega) (by omega))
  have hofs := h.2.2.1.2.2.1
  have hpos := h.2.2.1.2.2.2.2.2.2.2
  have hyr := h.2.2.1.2.2.2.2.2.2.1
  have p5 := pass_5 (I := I) (p := 8) (m := m) (n := n) (by omega) hpos
  have p1 := pass_1 (I := I) (p := 8) (m := m) (n := n)
  have p2 : g_pass I 8 m n 12 2 = I 12 2 + d_vote I 8 := (g_pass_led (p := 8) (by omega) (by omega)).trans g_start_votes
  have p3 : g_pass I 8 m n 12 3 = I 12 3 + d_turn I 8 m := (g_pass_led (p := 8) (by omega) (by omega)).trans g_start_turns
  have pk : ∀ k, k ≠ 1 → k ≠ 2 → k ≠ 3 → k ≠ 5 → g_pass I 8 m n 12 k = I 12 k := fun k a b c e => pass_led (p := 8) a b c e
  have po := fun i (hi : n ≤ i) => pass_off (I := I) (p := 8) (m := m) hi
  have p01 := fun i (hi : i < 10) => pass_01 (p := 8) (m := m) (n := n) (h.2.2.1.2.2.2.2.1 i hi)
  have pg := pass_g (p := 8) (m := m) (n := n) h.2.2.1.2.2.2.2.2.1
  have prow : ∀ q, q ≠ 8 → q ≠ 10 → q ≠ 11 → q ≠ 12 → g_pass I 8 m n q = I q := fun q a b c e => g_pass_row a b c e
  have hM : r_same54 I (g_pass I 8 m n) := fun q a => prow q (by omega) (by omega) (by omega) (by omega)
  have R0 : px_R m n I 8 (mv (m_lay (g_pass I 8 m n) m n)) 43 := r_lay (h.2.1.two hM)
  have hy : 0 < m_lay (g_pass I 8 m n) m n 64 1 := by
    rw [m_lay_row (by omega) (by omega), hM 64 (by omega), ← h.2.1.2.2.1]; exact hyr
  have R := M_day R0 (by omega) hofs hy
  have dv := M_dvote (m := m) (n := n) hy
  have dt := M_dturn (m := m) (n := n) hy
  rw [lay_c.2, ← R_dvote R0] at dv
  rw [lay_c.1, ← R_dturn R0] at dt
  have cM := c_X12_day (l := l) (I := g_pass I 8 m n) (J := J) (h.mok hM)
  have hw : m_newly (m_lay (g_pass I 8 m n) m n) (m_day (m_lay (g_pass I 8 m n) m n) m n) n = s_sum (fun j => g_had (g_pass I 8 m n) 8 j && !g_had I 8 j) (fun _ => 1) n := by
    unfold m_newly
    obtain ⟨w, _, _, e⟩ := bc_sum (f := fun j => m_had (m_day (m_lay (g_pass I 8 m n) m n) m n) j && !m_had (m_lay (g_pass I 8 m n) m n) j) n h.1.2.2.2.2.2
    rw [e]
    refine s_sum_congr n (fun j hj => ⟨?_, rfl⟩)
    have e1 : g_had (g_pass I 8 m n) 8 j = m_had (m_day (m_lay (g_pass I 8 m n) m n) m n) j := R_had R hj
    have e2 : g_had I 8 j = m_had (m_lay (g_pass I 8 m n) m n) j := R_had R0 hj
    show (m_had _ j && !m_had _ j) = (g_had _ 8 j && !g_had _ 8 j)
    rw [e1, e2]
  rw [hw] at cM
  have sd : m_sd m n (g_pass I 8 m n) (m_day (m_lay (g_pass I 8 m n) m n) m n) := m_sd_lay.tr m_sd_day
  generalize hD : m_day (m_lay (g_pass I 8 m n) m n) m n = D at R dv dt cM sd
  generalize hc : s_sum (fun j => g_had (g_pass I 8 m n) 8 j && !g_had I 8 j) (fun _ => 1) n = c at p5 cM
  have eA : s_bits (m_gp D n) m = s_bits (g_glad (g_pass I 8 m n) 8 n) m := s_bits_congr m (fun p hp => (R_glad R hp).symm)
  clear hD hc R0 hy hw
  generalize hI1 : g_pass I 8 m n = I1 at cG cM R sd hM p5 p1 p2 p3 pk po p01 pg prow eA
  clear hI1
  refine r_do cG cM eA ⟨m, n, d, u, t, nb, Ls, ?_⟩
  have hD : ∀ q, q ≠ 54 → q ≠ 77 → q ≠ 78 → q ≠ 79 → D q = I1 q := sd.1
  generalize hI2 : m_dd D n c = I2
  have f1 : ∀ q k, q ≠ 62 → q ≠ 63 → q ≠ 64 → q ≠ 81 → I2 q k = D q k := by
    intro q k a b c' e
    rw [← hI2]
    unfold m_dd
    rw [px_up_row e, px_up_row e, px_up_row e, px_up_row e, m_d1_row a b c']
  have hF : ∀ q k, q ≠ 8 → q ≠ 10 → q ≠ 11 → q ≠ 12 → q ≠ 62 → q ≠ 63 → q ≠ 64 → q ≠ 81 → (q < 77 ∨ 79 < q) → ¬ (q = 54 ∧ 36 ≤ k ∧ k ≤ 39) → I2 q k = I q k := by
    intro q k a b c' e f g i j x y
    rw [f1 q k f g i j]
    by_cases z : q = 54
    · subst z
      rw [sd.2.1 k (by omega), hM 54 (by omega)]
    · rw [hD q z (by omega) (by omega) (by omega), prow q a b c' e]
  have hr : ∀ q, q ≠ 8 → q ≠ 10 → q ≠ 11 → q ≠ 12 → q ≠ 62 → q ≠ 63 → q ≠ 64 → q ≠ 81 → (q < 77 ∨ 79 < q) → q ≠ 54 → I2 q = I q := fun q a b c' e f g i j x y => funext fun k => hF q k a b c' e f g i j x (by omega)
  have hg : ∀ q k, q < 54 → I2 q k = I1 q k := fun q k a => by rw [f1 q k (by omega) (by omega) (by omega) (by omega), hD q (by omega) (by omega) (by omega) (by omega)]
  have f62 : ∀ k, I2 62 k = if k < n then D 78 k else I 62 k := by
    intro k
    rw [← hI2]
    unfold m_dd m_d1 m_d0
    rw [px_up_row (by omega), px_up_row (by omega), px_up_row (by omega), px_up_row (by omega), px_up_row (by omega), px_up_row (by omega), px_cp_row (by omega), px_cp_at]
    by_cases e : k < n
    · rw [if_pos (by omega), if_pos e]; simp
    · rw [if_neg (by omega), if_neg e, hD 62 (by omega) (by omega) (by omega) (by omega), hM 62 (by omega)]
  have f63 : ∀ k, I2 63 k = if k < n then D 79 k else I 63 k := by
    intro k
    rw [← hI2]
    unfold m_dd m_d1 m_d0
    rw [px_up_row (by omega), px_up_row (by omega), px_up_row (by omega), px_up_row (by omega), px_up_row (by omega), px_up_row (by omega), px_cp_at]
    by_cases e : k < n
    · rw [if_pos (by omega), if_pos e, px_cp_row (by omega)]; simp
    · rw [if_neg (by omega), if_neg e, px_cp_row (by omega), hD 63 (by omega) (by omega) (by omega) (by omega), hM 63 (by omega)]
  have f64 : ∀ k, I2 64 k = if k = 3 then D 54 37 else if k = 0 then D 54 36 else I 64 k := by
    intro k
    rw [← hI2]
    unfold m_dd m_d1
    rw [px_up_row (by omega), px_up_row (by omega), px_up_row (by omega), px_up_row (by omega), px_up_at, px_up_at, m_d0_row (by omega) (by omega), hD 64 (by omega) (by omega) (by omega) (by omega), hM 64 (by omega)]
    simp
  have f81 : ∀ k, I2 81 k = if k = 5 then I 81 5 + c else if k = 3 then I 81 3 + D 54 38 else if k = 2 then I 81 2 + D 54 39 else if k = 1 then I 81 1 + 1 else I 81 k := by
    intro k
    rw [← hI2]
    unfold m_dd
    rw [px_up_at, px_up_at, px_up_at, px_up_at, m_d1_row (by omega) (by omega) (by omega), hD 81 (by omega) (by omega) (by omega) (by omega), hM 81 (by omega)]
    simp
  obtain ⟨h1, h2, h3, h4, h5, h6, h7, h8, h9⟩ := h
  refine ⟨h1.fr (fun q k a => by unfold f_cnt at a; exact hF q k (by omega) (by omega) (by omega) (by omega) (by omega) (by omega) (by omega) (by omega) (by omega) (by omega)), ?_, ?_, h4.fr (fun q k a => by unfold f_chg at a; exact hF q k (by omega) (by omega) (by omega) (by omega) (by omega) (by omega) (by omega) (by omega) (by omega) (by omega)), h5.fr (fun q k a => by unfold f_img at a; exact hF q k (by omega) (by omega) (by omega) (by omega) (by omega) (by omega) (by omega) (by omega) (by omega) (by omega)), h6.fr (fun q k a => by unfold f_tape at a; exact hF q k (by omega) (by omega) (by omega) (by omega) (by omega) (by omega) (by omega) (by omega) (by omega) (by omega)), h7.fr (fun q k a => by unfold f_law at a; exact hF q k (by omega) (by omega) (by omega) (by omega) (by omega) (by omega) (by omega) (by omega) (by omega) (by omega)), h8.fr (fun q k a => by unfold f_bod at a; exact hF q k (by omega) (by omega) (by omega) (by omega) (by omega) (by omega) (by omega) (by omega) (by omega) (by omega)), h9.fr (fun q k a => by unfold f_sh at a; exact hF q k (by omega) (by omega) (by omega) (by omega) (by omega) (by omega) (by omega) (by omega) (by omega) (by omega))⟩
  · obtain ⟨⟨a1, a2, a3, a4, a5, a6, a7, a8, a9, a10⟩, b1, b2', b3, b4⟩ := h2
    have o : ∀ q, q ≠ 8 → q ≠ 10 → q ≠ 11 → q ≠ 12 → q < 54 → ∀ r, 55 ≤ r → r < 62 → I q = I r → I2 q = I2 r := by
      intro q a b c' e g r f f' y
      rw [hr q a b c' e (by omega) (by omega) (by omega) (by omega) (by omega) (by omega), hr r (by omega) (by omega) (by omega) (by omega) (by omega) (by omega) (by omega) (by omega) (by omega) (by omega)]
      exact y
    refine ⟨⟨o 9 (by omega) (by omega) (by omega) (by omega) (by omega) 55 (by omega) (by omega) a1, o 2 (by omega) (by omega) (by omega) (by omega) (by omega) 56 (by omega) (by omega) a2, o 3 (by omega) (by omega) (by omega) (by omega) (by omega) 57 (by omega) (by omega) a3, o 4 (by omega) (by omega) (by omega) (by omega) (by omega) 58 (by omega) (by omega) a4, o 5 (by omega) (by omega) (by omega) (by omega) (by omega) 59 (by omega) (by omega) a5, o 6 (by omega) (by omega) (by omega) (by omega) (by omega) 60 (by omega) (by omega) a6, o 7 (by omega) (by omega) (by omega) (by omega) (by omega) 61 (by omega) (by omega) a7, funext fun k => ?_, funext fun k => ?_, funext fun k => ?_⟩, ?_, ?_, ?_, ?_⟩
    · rw [hg 10 k (by omega), f62]
      by_cases e : k < n
      · rw [if_pos e]; exact R.2.2.2.2.1 k e
      · rw [if_neg e, (po k (by omega)).1, ← a8]
    · rw [hg 11 k (by omega), f63]
      by_cases e : k < n
      · rw [if_pos e]; exact R.2.2.2.2.2 k e
      · rw [if_neg e, (po k (by omega)).2, ← a9]
    · rw [hg 12 k (by omega), f81, dv, dt, Int32.zero_add, Int32.zero_add, ← a10]
      by_cases e5 : k = 5
      · subst e5; exact p5
      · rw [if_neg e5]
        by_cases e3 : k = 3
        · subst e3; exact p3
        · rw [if_neg e3]
          by_cases e2 : k = 2
          · subst e2; exact p2
          · rw [if_neg e2]
            by_cases e1 : k = 1
            · subst e1; exact p1
            · rw [if_neg e1]; exact pk k e1 e2 e3 e5
    · rw [hg 8 4 (by omega), f64]; exact R.2.2.1.1
    · rw [hF 1 8 (by omega) (by omega) (by omega) (by omega) (by omega) (by omega) (by omega) (by omega) (by omega) (by omega), f64]; exact b2'
    · rw [hF 1 9 (by omega) (by omega) (by omega) (by omega) (by omega) (by omega) (by omega) (by omega) (by omega) (by omega), f64]; exact b3
    · rw [hg 8 5 (by omega), f64]; exact R.2.2.1.2
  · obtain ⟨c1, c2, c3, c4, c5, c6, c7⟩ := h3
    unfold r_val
    rw [hr 9 (by omega) (by omega) (by omega) (by omega) (by omega) (by omega) (by omega) (by omega) (by omega) (by omega), hr 2 (by omega) (by omega) (by omega) (by omega) (by omega) (by omega) (by omega) (by omega) (by omega) (by omega), hr 6 (by omega) (by omega) (by omega) (by omega) (by omega) (by omega) (by omega) (by omega) (by omega) (by omega), hr 4 (by omega) (by omega) (by omega) (by omega) (by omega) (by omega) (by omega) (by omega) (by omega) (by omega), hr 1 (by omega) (by omega) (by omega) (by omega) (by omega) (by omega) (by omega) (by omega) (by omega) (by omega)]
    refine ⟨c1, c2, c3, c4, fun j hj => ?_, ?_, c7⟩
    · rw [hg 11 j (by omega)]; exact p01 j hj
    · rw [hg 8 4 (by omega)]; exact pg

