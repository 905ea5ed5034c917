/-! two landlords by turns answer alike -/
theorem v_fold_congr {g g' : Nat → Int32} {f : Bool} {b : Int32} : ∀ k, (∀ p, p < k → g p = g' p) → v_fold g f b k = v_fold g' f b k := by
  intro k
  induction k with
  | zero => intro _; rfl
  | succ k ih => intro h; unfold v_fold; rw [ih (fun p hp => h p (by omega)), h k (by omega)]
/-- sides as a set of those who moved across tells them -/
def q_sd (X : px_I) (m : Nat) (a : Int32) (sd : Nat → Int32) : Prop := ∀ p, p < m → (px_rem (X 55 p) 2 = 0 ∨ px_rem (X 55 p) 2 = 1) ∧ sd p = (if px_rem (X 55 p) 2 = b2 (m_has a (nI p)) then 0 else 1)
theorem has_xo {a : Int32} {p q : Nat} (hp : p < 32) (hq : q < 32) : m_has (m_xo a p) (nI q) = (m_has a (nI q) ^^ decide (q = p)) := by
  rw [bt_has hq, bt_has hq, m_xo, bt_xor, bt_pw p hp hq]
theorem q_sd.flip {X : px_I} {m p : Nat} {a : Int32} {sd : Nat → Int32} (hm7 : m ≤ 7) (h : q_sd X m a sd) (hp : p < m) : q_sd X m (m_xo a p) (v_flip sd p) := by
  intro q hq
  obtain ⟨h1, h2⟩ := h q hq
  refine ⟨h1, ?_⟩
  unfold v_flip
  rw [has_xo (by omega) (by omega)]
  by_cases e : q = p
  · subst e
    rw [if_pos rfl, h2, decide_eq_true rfl]
    cases m_has a (nI q) <;> rcases h1 with z | z <;> rw [z] <;> decide
  · rw [if_neg e, h2, decide_eq_false e, Bool.xor_false]
theorem m_en_same {X : px_I} {a : Int32} {p : Nat} (hp : p < 32) : ∀ k, k ≤ p → m_en X (m_xo a p) k = m_en X a k := by
  intro k
  induction k with
  | zero => intro _; rfl
  | succ k ih =>
    intro hk
    unfold m_en
    rw [ih (by omega), has_xo hp (by omega), decide_eq_false (by omega), Bool.xor_false]
theorem m_en_flip {X : px_I} {m p : Nat} {a : Int32} {sd : Nat → Int32} (hm7 : m ≤ 7) (h : q_sd X m a sd) (hp : p < m) : ∀ k, p < k → k ≤ m → m_en X (m_xo a p) k = m_en X a k + (if sd p = 0 then -2 else 2) := by
  intro k
  induction k with
  | zero => intro q _; omega
  | succ k ih =>
    intro h1 h2
    by_cases e : k = p
    · subst e
      obtain ⟨z1, z2⟩ := h k hp
      unfold m_en
      rw [m_en_same (by omega) k (Nat.le_refl k), has_xo (by omega) (by omega), decide_eq_true rfl, z2]
      generalize m_en X a k = y
      cases m_has a (nI k) <;> rcases z1 with z | z <;> rw [z] <;> simp [b2] <;> grind
    · unfold m_en
      rw [ih (by omega) (by omega), has_xo (by omega) (by omega), decide_eq_false (by omega), Bool.xor_false]
      grind
theorem q_bl {X : px_I} {m : Nat} (hm7 : m ≤ 7) : ∀ (k : Nat) (a : Int32) (f : Bool) (sd : Nat → Int32) (b : Int32), q_sd X m a sd → b = m_en X a m → v_bl m k sd f b = m_be X m k a f := by
  intro k
  induction k with
  | zero => intro a f sd b _ hb; exact hb
  | succ k ih =>
    intro a f sd b hs hb
    unfold v_bl m_be
    rw [ih a (!f) sd b hs hb]
    exact v_fold_congr m (fun p hp => ih (m_xo a p) (!f) (v_flip sd p) _ (hs.flip hm7 hp) (by rw [m_en_flip hm7 hs hp m hp (Nat.le_refl m), hb]))
theorem xo_0 (p : Nat) : m_xo 0 p = (1 : Int32) <<< (nI p &&& 31) := by
  apply bt_ext
  intro i hi
  rw [m_xo, bt_xor, bt_0, Bool.false_xor]
theorem v_side_at {I : px_I} : ∀ m p, p < m → v_side I m 49 p = px_rem (I 9 p) 2 := by
  intro m
  induction m with
  | zero => intro p hp; omega
  | succ m ih =>
    intro p hp
    unfold v_side
    by_cases e : p = m
    · subst e; exact px_up_same
    · rw [px_up_ne (by omega)]; exact ih p (by omega)
theorem q_sd0 {Y X : px_I} {m n : Nat} (h : q_ok Y X m n) (hh : q_hs Y m n) : q_sd X m 0 (v_sd Y m) ∧ s_lead (Y 9) m = m_en X 0 m := by
  have hm7 := h.2.2.2.2.2
  have hr : ∀ p, p < m → px_rem (X 55 p) 2 = 0 ∨ px_rem (X 55 p) 2 = 1 := by
    intro p hp
    have hv := hh p hp
    rw [← h.1.1.1, hv.1, rem2_nI _ hv.2]
    have hc : ix (Y 9 p) % 2 = 0 ∨ ix (Y 9 p) % 2 = 1 := by omega
    rcases hc with e | e <;> rw [e]
    · exact Or.inl nI_0
    · exact Or.inr (by decide)
  have hz : ∀ p, p < m → m_has 0 (nI p) = false := by
    intro p hp
    rw [bt_has (by omega), bt_0]
  refine ⟨fun p hp => ⟨hr p hp, ?_⟩, ?_⟩
  · rw [hz p hp]
    show v_side Y m 49 p = _
    rw [v_side_at m p hp, h.1.1.1]
    rcases hr p hp with e | e <;> rw [e] <;> decide
  · have key : ∀ k, k ≤ m → s_lead (Y 9) k = m_en X 0 k := by
      intro k
      induction k with
      | zero => intro _; rfl
      | succ k ih =>
        intro hk
        unfold s_lead m_en
        rw [ih (by omega), hz k (by omega), h.1.1.1]
        rfl
    exact key m (Nat.le_refl m)
theorem t_best_fold {w : Nat → Int32} {b c : Int32} : ∀ j, (t_best w (b, c) j).1 = v_fold w true b j := by
  intro j
  induction j with
  | zero => rfl
  | succ j ih =>
    unfold t_best v_fold v_pick
    rw [← ih, if_pos rfl]
    split <;> rfl
theorem t_best_up {w : Nat → Int32} {b c : Int32} : ∀ j r, r < j → ¬ (t_best w (b, c) j).1 < w r := by
  intro j
  induction j with
  | zero => intro r hr; omega
  | succ j ih =>
    intro r hr
    unfold t_best
    by_cases q : (t_best w (b, c) j).1 < w j
    · rw [if_pos q]
      by_cases e : r = j
      · subst e
        show ¬ w r < w r
        rw [Int32.lt_iff_toInt_lt]; omega
      · have := ih r (by omega)
        show ¬ w j < w r
        rw [Int32.lt_iff_toInt_lt] at q this ⊢
        omega
    · rw [if_neg q]
      by_cases e : r = j
      · subst e; exact q
      · exact ih r (by omega)
theorem t_best_ch {w : Nat → Int32} {b : Int32} : ∀ j, ((t_best w (b, 9) j).1 = b ∧ (t_best w (b, 9) j).2 = 9) ∨ (∃ q, q < j ∧ (t_best w (b, 9) j).2 = nI q ∧ w q = (t_best w (b, 9) j).1 ∧ (∀ r, r < q → ¬ w r = (t_best w (b, 9) j).1) ∧ ¬ b = (t_best w (b, 9) j).1) := by
  intro j
  induction j with
  | zero => exact Or.inl ⟨rfl, rfl⟩
  | succ j ih =>
    have e1 : t_best w (b, 9) (j + 1) = if (t_best w (b, 9) j).1 < w j then (w j, nI j) else t_best w (b, 9) j := rfl
    by_cases q : (t_best w (b, 9) j).1 < w j
    · rw [e1, if_pos q]
      refine Or.inr ⟨j, by omega, rfl, rfl, fun r hr e => ?_, fun e => ?_⟩
      · have := t_best_up (w := w) (b := b) (c := 9) j r hr
        rw [show w r = w j from e] at this
        exact this q
      · have := t_best_ge (w := w) (base := (b, 9)) j
        exact this (Eq.subst (motive := fun z => (t_best w (b, 9) j).1 < z) (show w j = b from e.symm) q)
    · rw [e1, if_neg q]
      rcases ih with z | ⟨p, z1, z2⟩
      · exact Or.inl z
      · exact Or.inr ⟨p, by omega, z2⟩
theorem m_f9_at {f : Nat → Bool} {q : Nat} : ∀ k j, j ≤ q → q < j + k → f q = true → (∀ r, r < q → f r = false) → m_f9 f k j = nI q := by
  intro k
  induction k with
  | zero => intro j h1 h2; omega
  | succ k ih =>
    intro j h1 h2 h3 h4
    unfold m_f9
    by_cases e : j = q
    · subst e; rw [if_pos h3]
    · rw [if_neg (by rw [h4 j (by omega)]; decide)]
      exact ih (j + 1) (by omega) (by omega) h3 h4
theorem q_turns {Y X : px_I} {m n k : Nat} {w : Int32} (h : q_ok Y X m n) (hh : q_hs Y m n) : (if w = 0 then (v_tb Y m k m).1 else (v_tb Y m k m).2) = m_bt X m k w := by
  have hm7 := h.2.2.2.2.2
  obtain ⟨h1, h2⟩ := q_sd0 h hh
  have hb : v_bl m k (v_sd Y m) false (s_lead (Y 9) m) = m_be X m k 0 false := q_bl hm7 k 0 false _ _ h1 h2
  have hw : ∀ p, p < m → v_lm m k (v_sd Y m) p false (s_lead (Y 9) m) = m_be X m k ((1 : Int32) <<< (nI p &&& 31)) false := by
    intro p hp
    rw [← xo_0]
    exact q_bl hm7 k (m_xo 0 p) false _ _ (h1.flip hm7 hp) (by rw [m_en_flip hm7 h1 hp m hp (Nat.le_refl m), h2])
  have hM : (v_tb Y m k m).1 = m_be X m (k + 1) 0 true := by
    unfold v_tb
    rw [t_best_fold, hb]
    show v_fold _ true (m_be X m k 0 false) m = v_fold (fun p => m_be X m k (m_xo 0 p) (!true)) true (m_be X m k 0 (!true)) m
    exact v_fold_congr m (fun p hp => (hw p hp).trans (by rw [xo_0]; rfl))
  unfold m_bt
  by_cases w0 : w = 0
  · rw [if_pos w0, if_pos w0]; exact hM
  · rw [if_neg w0, if_neg w0]
    have hc := t_best_ch (w := fun one => v_lm m k (v_sd Y m) one false (s_lead (Y 9) m)) (b := v_bl m k (v_sd Y m) false (s_lead (Y 9) m)) m
    have hM' : (t_best (fun one => v_lm m k (v_sd Y m) one false (s_lead (Y 9) m)) (v_bl m k (v_sd Y m) false (s_lead (Y 9) m), 9) m).1 = m_be X m (k + 1) 0 true := hM
    rw [hM', hb] at hc
    unfold v_tb
    rw [hb]
    rcases hc with ⟨a, b⟩ | ⟨q, c1, c2, c3, c4, c5⟩
    · rw [if_pos a.symm]; exact b
    · rw [if_neg c5, c2]
      refine (m_f9_at m 0 (Nat.zero_le _) (by omega) (decide_eq_true ?_) (fun r hr => decide_eq_false ?_)).symm
      · rw [← hw q c1]; exact c3
      · rw [← hw r (by omega)]; exact c4 r hr

