/-! what a course's days rest on: two courses that agree where it counts go on alike -/
def px_R (m n : Nat) (I : px_I) (p : Nat) (I' : px_I) (p' : Nat) : Prop :=
  (∀ q, 2 ≤ q → q ≤ 7 → I q = I' q) ∧ (I 1 8 = I' 1 8 ∧ I 1 9 = I' 1 9) ∧ (I p 4 = I' p' 4 ∧ I p 5 = I' p' 5) ∧ (∀ k, k < m → I (p + 1) k = I' (p' + 1) k) ∧ (∀ k, k < n → I (p + 2) k = I' (p' + 2) k) ∧ (∀ k, k < n → I (p + 3) k = I' (p' + 3) k)
section RR
variable {m n p p' : Nat} {I I' : px_I}
theorem px_R.rf : px_R m n I p I p := ⟨fun _ _ _ => rfl, ⟨rfl, rfl⟩, ⟨rfl, rfl⟩, fun _ _ => rfl, fun _ _ => rfl, fun _ _ => rfl⟩
theorem px_R.sy (h : px_R m n I p I' p') : px_R m n I' p' I p := ⟨fun q a b => (h.1 q a b).symm, ⟨h.2.1.1.symm, h.2.1.2.symm⟩, ⟨h.2.2.1.1.symm, h.2.2.1.2.symm⟩, fun k a => (h.2.2.2.1 k a).symm, fun k a => (h.2.2.2.2.1 k a).symm, fun k a => (h.2.2.2.2.2 k a).symm⟩
theorem px_R.tr {I2 : px_I} {p2 : Nat} (h : px_R m n I p I' p') (g : px_R m n I' p' I2 p2) : px_R m n I p I2 p2 := ⟨fun q a b => (h.1 q a b).trans (g.1 q a b), ⟨h.2.1.1.trans g.2.1.1, h.2.1.2.trans g.2.1.2⟩, ⟨h.2.2.1.1.trans g.2.2.1.1, h.2.2.1.2.trans g.2.2.1.2⟩, fun k a => (h.2.2.2.1 k a).trans (g.2.2.2.1 k a), fun k a => (h.2.2.2.2.1 k a).trans (g.2.2.2.2.1 k a), fun k a => (h.2.2.2.2.2 k a).trans (g.2.2.2.2.2 k a)⟩
theorem R_runs (h : px_R m n I p I' p') {j : Nat} (hj : j < n) : g_runs I p j = g_runs I' p' j := by
  simp only [g_runs, s_runs, h.1 4 (by omega) (by omega), h.2.2.2.2.1 j hj, h.2.2.2.2.2 j hj]
theorem R_waits (h : px_R m n I p I' p') {j : Nat} (hj : j < n) : g_waits I p j = g_waits I' p' j := by
  simp only [g_waits, s_waits, h.1 3 (by omega) (by omega), h.2.2.1.2, h.2.2.2.2.1 j hj, h.2.2.2.2.2 j hj]
theorem R_had (h : px_R m n I p I' p') {j : Nat} (hj : j < n) : g_had I p j = g_had I' p' j := by
  simp only [g_had, s_had, h.1 4 (by omega) (by omega), h.2.2.2.2.1 j hj, h.2.2.2.2.2 j hj]
theorem R_in (h : px_R m n I p I' p') {j : Nat} {s : Int32} (hj : j < n) : g_in I p s j = g_in I' p' s j := by
  have h1 := R_runs h hj
  have h2 := R_waits h hj
  have h3 := R_had h hj
  simp only [g_runs, g_waits, g_had] at h1 h2 h3
  simp only [g_in, s_in, h1, h2, h3, h.2.2.2.2.2 j hj]
theorem R_hoj (h : px_R m n I p I' p') {j : Nat} (hf : ix (I 2 j) < m) : g_hoj I p j = g_hoj I' p' j := by
  simp only [g_hoj]
  rw [h.2.2.2.1 _ hf, h.1 2 (by omega) (by omega)]
theorem R_on (h : px_R m n I p I' p') {j : Nat} (hf : ix (I 2 j) < m) : g_on I p j = g_on I' p' j := by
  simp only [g_on]
  rw [R_hoj h hf, h.2.2.1.1]
theorem px_up_eq {J : px_I} {q k : Nat} {x : Int32} {q' k' : Nat} : px_up J q k x q' k' = if q' = q ∧ k' = k then x else J q' k' := rfl
theorem R_up2 (h : px_R m n I p I' p') (h8 : 8 ≤ p) (h8' : 8 ≤ p') {j : Nat} {x : Int32} : px_R m n (px_up I (p + 2) j x) p (px_up I' (p' + 2) j x) p' := by
  refine ⟨fun q a b => ?_, ⟨?_, ?_⟩, ⟨?_, ?_⟩, fun k a => ?_, fun k a => ?_, fun k a => ?_⟩
  · rw [px_up_row (by omega), px_up_row (by omega)]; exact h.1 q a b
  · rw [px_up_row (by omega), px_up_row (by omega)]; exact h.2.1.1
  · rw [px_up_row (by omega), px_up_row (by omega)]; exact h.2.1.2
  · rw [px_up_row (by omega), px_up_row (by omega)]; exact h.2.2.1.1
  · rw [px_up_row (by omega), px_up_row (by omega)]; exact h.2.2.1.2
  · rw [px_up_row (by omega), px_up_row (by omega)]; exact h.2.2.2.1 k a
  · simp only [px_up_eq, h.2.2.2.2.1 k a, true_and]
  · rw [px_up_row (by omega), px_up_row (by omega)]; exact h.2.2.2.2.2 k a
theorem R_up3 (h : px_R m n I p I' p') (h8 : 8 ≤ p) (h8' : 8 ≤ p') {j : Nat} {x : Int32} : px_R m n (px_up I (p + 3) j x) p (px_up I' (p' + 3) j x) p' := by
  refine ⟨fun q a b => ?_, ⟨?_, ?_⟩, ⟨?_, ?_⟩, fun k a => ?_, fun k a => ?_, fun k a => ?_⟩
  · rw [px_up_row (by omega), px_up_row (by omega)]; exact h.1 q a b
  · rw [px_up_row (by omega), px_up_row (by omega)]; exact h.2.1.1
  · rw [px_up_row (by omega), px_up_row (by omega)]; exact h.2.1.2
  · rw [px_up_row (by omega), px_up_row (by omega)]; exact h.2.2.1.1
  · rw [px_up_row (by omega), px_up_row (by omega)]; exact h.2.2.1.2
  · rw [px_up_row (by omega), px_up_row (by omega)]; exact h.2.2.2.1 k a
  · rw [px_up_row (by omega), px_up_row (by omega)]; exact h.2.2.2.2.1 k a
  · simp only [px_up_eq, h.2.2.2.2.2 k a, true_and]
/-- what lies off the course's own cells (its counts too) doesn't count -/
theorem R_off (h8 : 8 ≤ p) {q k : Nat} {x : Int32} (h1 : 8 ≤ q) (h2 : q < p ∨ p + 4 ≤ q) : px_R m n (px_up I q k x) p I p := by
  refine ⟨fun q a b => ?_, ⟨?_, ?_⟩, ⟨?_, ?_⟩, fun k a => ?_, fun k a => ?_, fun k a => ?_⟩ <;> rw [px_up_row (by omega)]
theorem R_up1 (h : px_R m n I p I' p') (h8 : 8 ≤ p) (h8' : 8 ≤ p') {j : Nat} {x : Int32} : px_R m n (px_up I (p + 1) j x) p (px_up I' (p' + 1) j x) p' := by
  refine ⟨fun q a b => ?_, ⟨?_, ?_⟩, ⟨?_, ?_⟩, fun k a => ?_, fun k a => ?_, fun k a => ?_⟩
  · rw [px_up_row (by omega), px_up_row (by omega)]; exact h.1 q a b
  · rw [px_up_row (by omega), px_up_row (by omega)]; exact h.2.1.1
  · rw [px_up_row (by omega), px_up_row (by omega)]; exact h.2.1.2
  · rw [px_up_row (by omega), px_up_row (by omega)]; exact h.2.2.1.1
  · rw [px_up_row (by omega), px_up_row (by omega)]; exact h.2.2.1.2
  · simp only [px_up_eq, h.2.2.2.1 k a, true_and]
  · rw [px_up_row (by omega), px_up_row (by omega)]; exact h.2.2.2.2.1 k a
  · rw [px_up_row (by omega), px_up_row (by omega)]; exact h.2.2.2.2.2 k a
theorem R_up0 (h : px_R m n I p I' p') (h8 : 8 ≤ p) (h8' : 8 ≤ p') {j : Nat} {x : Int32} : px_R m n (px_up I p j x) p (px_up I' p' j x) p' := by
  refine ⟨fun q a b => ?_, ⟨?_, ?_⟩, ⟨?_, ?_⟩, fun k a => ?_, fun k a => ?_, fun k a => ?_⟩
  · rw [px_up_row (by omega), px_up_row (by omega)]; exact h.1 q a b
  · rw [px_up_row (by omega), px_up_row (by omega)]; exact h.2.1.1
  · rw [px_up_row (by omega), px_up_row (by omega)]; exact h.2.1.2
  · simp only [px_up_eq, h.2.2.1.1, true_and]
  · simp only [px_up_eq, h.2.2.1.2, true_and]
  · rw [px_up_row (by omega), px_up_row (by omega)]; exact h.2.2.2.1 k a
  · rw [px_up_row (by omega), px_up_row (by omega)]; exact h.2.2.2.2.1 k a
  · rw [px_up_row (by omega), px_up_row (by omega)]; exact h.2.2.2.2.2 k a
theorem R_runOn (h : px_R m n I p I' p') (h8 : 8 ≤ p) (h8' : 8 ≤ p') {j : Nat} (hj : j < n) : px_R m n (g_runOn I p j) p (g_runOn I' p' j) p' := by
  have h1 : px_R m n (px_up I (p + 2) j (I (p + 2) j + 1)) p (px_up I' (p' + 2) j (I' (p' + 2) j + 1)) p' := by
    rw [h.2.2.2.2.1 j hj]; exact R_up2 h h8 h8'
  unfold g_runOn
  split <;> split
  · exact (R_off h8 (by omega) (by omega)).tr (h1.tr (R_off h8' (by omega) (by omega)).sy)
  · exact (R_off h8 (by omega) (by omega)).tr h1
  · exact h1.tr (R_off h8' (by omega) (by omega)).sy
  · exact h1
theorem R_passFor (h : px_R m n I p I' p') (h8 : 8 ≤ p) (h8' : 8 ≤ p') {j : Nat} (hj : j < n) (hf : ix (I 2 j) < m) : px_R m n (g_passFor I p j) p (g_passFor I' p' j) p' := by
  unfold g_passFor
  rw [R_runs h hj, R_on h hf, R_waits h hj, h.2.2.1.2, h.1 3 (by omega) (by omega), h.1 5 (by omega) (by omega)]
  split
  · split
    · exact R_runOn h h8 h8' hj
    · exact h
  · split
    · split
      · exact R_runOn h h8 h8' hj
      · split
        · exact h
        · exact R_up3 h h8 h8'
    · exact h
theorem R_joys (h : px_R m n I p I' p') (h8 : 8 ≤ p) (h8' : 8 ≤ p') (hf : ∀ j, j < n → ix (I 2 j) < m) : ∀ k, k ≤ n → px_R m n (g_joys I p k) p (g_joys I' p' k) p' := by
  intro k
  induction k with
  | zero => intro _; exact h
  | succ k ih =>
    intro hk
    exact R_passFor (ih (by omega)) h8 h8' (by omega) (by rw [g_joys_row (by omega) (by omega) (by omega)]; exact hf k (by omega))
theorem s_lead_congr {f g : Nat → Int32} : ∀ k, (∀ j, j < k → f j = g j) → s_lead f k = s_lead g k := by
  intro k
  induction k with
  | zero => intro _; rfl
  | succ k ih => intro h; simp only [s_lead]; rw [ih (fun j hj => h j (by omega)), h k (by omega)]
theorem R_lead (h : px_R m n I p I' p') : s_lead (I (p + 1)) m = s_lead (I' (p' + 1)) m := s_lead_congr m h.2.2.2.1
theorem R_chosen (h : px_R m n I p I' p') : g_chosen I p m = g_chosen I' p' m := by
  unfold g_chosen; rw [R_lead h, h.2.2.1.1]
theorem R_start (h : px_R m n I p I' p') (h8 : 8 ≤ p) (h8' : 8 ≤ p') : px_R m n (g_start I p m) p (g_start I' p' m) p' := by
  have h1 : px_R m n (g_turn I p m) p (g_turn I' p' m) p' := by
    unfold g_turn
    split <;> split
    · exact h
    · exact h.tr (R_off h8' (by omega) (by omega)).sy
    · exact (R_off h8 (by omega) (by omega)).tr h
    · exact (R_off h8 (by omega) (by omega)).tr (h.tr (R_off h8' (by omega) (by omega)).sy)
  unfold g_start
  rw [h.2.2.1.2, h.2.1.1]
  split
  · unfold g_vote
    rw [R_chosen h]
    exact (R_off h8 (by omega) (by omega)).tr ((R_up0 h1 h8 h8').tr (R_off h8' (by omega) (by omega)).sy)
  · exact h
theorem R_later (h : px_R m n I p I' p') (h8 : 8 ≤ p) (h8' : 8 ≤ p') : px_R m n (g_later I p) p (g_later I' p') p' := by
  unfold g_later
  rw [h.2.2.1.2]
  split
  · exact R_up0 h h8 h8'
  · exact h
theorem R_pass (h : px_R m n I p I' p') (h8 : 8 ≤ p) (h8' : 8 ≤ p') (hf : ∀ j, j < n → ix (I 2 j) < m) : px_R m n (g_pass I p m n) p (g_pass I' p' m n) p' := by
  unfold g_pass
  have h1 := R_later (R_joys (R_start h h8 h8') h8 h8' (fun j hj => by rw [g_start_row (by omega) (by omega)]; exact hf j hj) n (Nat.le_refl n)) h8 h8'
  exact (R_off h8 (by omega) (by omega)).tr (h1.tr (R_off h8' (by omega) (by omega)).sy)
theorem s_sum_congr {c c' : Nat → Bool} {w w' : Nat → Int32} : ∀ k, (∀ j, j < k → c j = c' j ∧ w j = w' j) → s_sum c w k = s_sum c' w' k := by
  intro k
  induction k with
  | zero => intro _; rfl
  | succ k ih => intro h; simp only [s_sum]; rw [ih (fun j hj => h j (by omega)), (h k (by omega)).1, (h k (by omega)).2]
theorem s_bits_congr {c c' : Nat → Bool} : ∀ k, (∀ j, j < k → c j = c' j) → s_bits c k = s_bits c' k := by
  intro k
  induction k with
  | zero => intro _; rfl
  | succ k ih => intro h; simp only [s_bits]; rw [ih (fun j hj => h j (by omega)), h k (by omega)]
theorem s_any_congr {c c' : Nat → Bool} : ∀ k, (∀ j, j < k → c j = c' j) → s_any c k = s_any c' k := by
  intro k
  induction k with
  | zero => intro _; rfl
  | succ k ih => intro h; simp only [s_any]; rw [ih (fun j hj => h j (by omega)), h k (by omega)]
theorem R_worth (h : px_R m n I p I' p') : s_sum (g_had I p) (I 6) n = s_sum (g_had I' p') (I' 6) n := s_sum_congr n (fun j hj => ⟨R_had h hj, by rw [h.1 6 (by omega) (by omega)]⟩)
theorem R_glad (h : px_R m n I p I' p') {one : Nat} (ho : one < m) : g_glad I p n one = g_glad I' p' n one := by
  unfold g_glad
  rw [h.2.2.2.1 one ho, h.2.2.1.1]
  congr 1
  exact s_any_congr n (fun j hj => by rw [h.1 2 (by omega) (by omega), R_runs h hj])
end RR
/-- days on end -/
def g_days (p m n : Nat) (I : px_I) : Nat → px_I
  | 0 => I
  | k + 1 => g_pass (g_days p m n I k) p m n
theorem g_days_row {I : px_I} {p m n k q : Nat} (h0 : q ≠ p) (h2 : q ≠ p + 2) (h3 : q ≠ p + 3) (h4 : q ≠ p + 4) : g_days p m n I k q = I q := by
  induction k with
  | zero => rfl
  | succ k ih => rw [g_days, g_pass_row h0 h2 h3 h4, ih]
theorem R_days {m n p p' : Nat} {I I' : px_I} (h : px_R m n I p I' p') (h8 : 8 ≤ p) (h8' : 8 ≤ p') (hf : ∀ j, j < n → ix (I 2 j) < m) : ∀ k, px_R m n (g_days p m n I k) p (g_days p' m n I' k) p' := by
  intro k
  induction k with
  | zero => exact h
  | succ k ih => exact R_pass ih h8 h8' (fun j hj => by rw [g_days_row (by omega) (by omega) (by omega) (by omega)]; exact hf j hj)
/-- the copy in thought is as it is now -/
theorem R_takes {I : px_I} {p q m n : Nat} (h8 : 8 ≤ p) (h8' : 8 ≤ q) (hpq : p + 4 < q ∨ q + 4 < p) : px_R m n (g_takes I p q m n) p I q := by
  refine ⟨fun r a b => ?_, ⟨?_, ?_⟩, ⟨?_, ?_⟩, fun k a => ?_, fun k a => ?_, fun k a => ?_⟩
  · unfold g_takes g_take; rw [px_up_row (by omega), px_up_row (by omega), px_cp_row (by omega), px_cp_row (by omega), px_cp_row (by omega), px_cp_row (by omega)]
  · unfold g_takes g_take; rw [px_up_row (by omega), px_up_row (by omega), px_cp_row (by omega), px_cp_row (by omega), px_cp_row (by omega), px_cp_row (by omega)]
  · unfold g_takes g_take; rw [px_up_row (by omega), px_up_row (by omega), px_cp_row (by omega), px_cp_row (by omega), px_cp_row (by omega), px_cp_row (by omega)]
  · unfold g_takes g_take
    rw [px_up_ne (by omega), px_up_same, px_cp_row (by omega), px_cp_row (by omega), px_cp_row (by omega), px_cp_row (by omega)]
  · unfold g_takes g_take
    rw [px_up_same, px_up_row (by omega), px_cp_row (by omega), px_cp_row (by omega), px_cp_row (by omega), px_cp_row (by omega)]
  · unfold g_takes g_take
    rw [px_up_row (by omega), px_up_row (by omega), px_cp_row (by omega), px_cp_row (by omega), px_cp_row (by omega), px_cp_at, if_pos (by omega)]
    simp
  · unfold g_takes g_take
    rw [px_up_row (by omega), px_up_row (by omega), px_cp_row (by omega), px_cp_row (by omega), px_cp_at, if_pos (by omega), px_cp_row (by omega)]
    simp
  · unfold g_takes g_take
    rw [px_up_row (by omega), px_up_row (by omega), px_cp_row (by omega), px_cp_at, if_pos (by omega), px_cp_row (by omega), px_cp_row (by omega)]
    simp
theorem g_takes_row {I : px_I} {p q m n r : Nat} (h : r < p ∨ p + 4 < r) : g_takes I p q m n r = I r := by
  unfold g_takes g_take; rw [px_up_row (by omega), px_up_row (by omega), px_cp_row (by omega), px_cp_row (by omega), px_cp_row (by omega), px_cp_row (by omega)]
/-- the counts -/
def d_turn (I : px_I) (p m : Nat) : Int32 := if (0 < I p 5 ∧ 0 < I 1 8 ∧ px_rem (I p 5) (I 1 8) = 0) ∧ g_chosen I p m ≠ I p 4 then 1 else 0
def d_vote (I : px_I) (p : Nat) : Int32 := if 0 < I p 5 ∧ 0 < I 1 8 ∧ px_rem (I p 5) (I 1 8) = 0 then 1 else 0
theorem g_runOn_led {I : px_I} {p j k : Nat} (hk : k ≠ 5) : g_runOn I p j (p + 4) k = I (p + 4) k := by
  unfold g_runOn
  split
  · rw [px_up_ne (by omega), px_up_row (by omega)]
  · rw [px_up_row (by omega)]
theorem g_joys_led {I : px_I} {p n k : Nat} (hk : k ≠ 5) : g_joys I p n (p + 4) k = I (p + 4) k := by
  induction n with
  | zero => rfl
  | succ n ih =>
    rw [g_joys, ← ih]
    unfold g_passFor
    split
    · split
      · exact g_runOn_led hk
      · rfl
    · split
      · split
        · exact g_runOn_led hk
        · split
          · rfl
          · rw [px_up_row (by omega)]
      · rfl
theorem g_later_led {I : px_I} {p k : Nat} : g_later I p (p + 4) k = I (p + 4) k := by
  unfold g_later; split
  · rw [px_up_row (by omega)]
  · rfl
theorem g_pass_led {I : px_I} {p m n k : Nat} (hk : k ≠ 5) (h1 : k ≠ 1) : g_pass I p m n (p + 4) k = g_start I p m (p + 4) k := by
  unfold g_pass
  rw [px_up_ne (by omega), g_later_led, g_joys_led hk]
theorem g_start_turns {I : px_I} {p m : Nat} : g_start I p m (p + 4) 3 = I (p + 4) 3 + d_turn I p m := by
  unfold g_start d_turn
  by_cases hc : 0 < I p 5 ∧ 0 < I 1 8 ∧ px_rem (I p 5) (I 1 8) = 0
  · rw [if_pos hc]
    unfold g_vote g_turn
    rw [px_up_ne (by omega), px_up_row (by omega)]
    by_cases hg : g_chosen I p m = I p 4
    · rw [if_pos hg, if_neg (fun q => q.2 hg)]; simp
    · rw [if_neg hg, if_pos ⟨hc, hg⟩, px_up_same]
  · rw [if_neg hc, if_neg (fun q => hc q.1)]; simp
theorem g_start_votes {I : px_I} {p m : Nat} : g_start I p m (p + 4) 2 = I (p + 4) 2 + d_vote I p := by
  unfold g_start d_vote
  by_cases hc : 0 < I p 5 ∧ 0 < I 1 8 ∧ px_rem (I p 5) (I 1 8) = 0
  · rw [if_pos hc, if_pos hc]
    unfold g_vote g_turn
    rw [px_up_same]
    split
    · rfl
    · rw [px_up_ne (by omega)]
  · rw [if_neg hc, if_neg hc]; simp
theorem R_dturn {m n p p' : Nat} {I I' : px_I} (h : px_R m n I p I' p') : d_turn I p m = d_turn I' p' m := by
  unfold d_turn; rw [R_chosen h, h.2.2.1.1, h.2.2.1.2, h.2.1.1]
theorem R_dvote {m n p p' : Nat} {I I' : px_I} (h : px_R m n I p I' p') : d_vote I p = d_vote I' p' := by
  unfold d_vote; rw [h.2.2.1.2, h.2.1.1]
/-- turns in k days -/
def d_turns (p m n : Nat) (I : px_I) : Nat → Int32
  | 0 => 0
  | k + 1 => d_turns p m n I k + d_turn (g_days p m n I k) p m
theorem g_days_turns {I : px_I} {p m n : Nat} : ∀ k, g_days p m n I k (p + 4) 3 = I (p + 4) 3 + d_turns p m n I k := by
  intro k
  induction k with
  | zero => simp [g_days, d_turns]
  | succ k ih => rw [g_days, g_pass_led (by omega) (by omega), g_start_turns, ih, d_turns, Int32.add_assoc]
theorem R_dturns {m n p p' : Nat} {I I' : px_I} (h : px_R m n I p I' p') (h8 : 8 ≤ p) (h8' : 8 ≤ p') (hf : ∀ j, j < n → ix (I 2 j) < m) : ∀ k, d_turns p m n I k = d_turns p' m n I' k := by
  intro k
  induction k with
  | zero => rfl
  | succ k ih => rw [d_turns, d_turns, ih, R_dturn (R_days h h8 h8' hf k)]

