/-! smells, windows, nearness, votes answer alike -/
theorem ap_eq : ∀ a, a < 12 → ∀ b, b < 12 → s_apart (nI a) (nI b) = m_ap (nI a) (nI b) := by decide +kernel
theorem cl_eq (x : Int32) : h_clamp x = m_cl x := by
  unfold h_clamp m_cl
  have c0 : (0 : Int32).toInt = 0 := by decide
  have c9 : (9 : Int32).toInt = 9 := by decide
  by_cases h9 : x < 9
  · rw [if_pos h9]
    by_cases h0 : 0 < x
    · have h1 : ¬ x < 0 := by rw [Int32.lt_iff_toInt_lt] at h0 ⊢; omega
      have h2 : ¬ 9 < x := by rw [Int32.lt_iff_toInt_lt] at h9 ⊢; omega
      rw [if_pos h0, if_neg h1, if_neg h2]
    · rw [if_neg h0]
      by_cases h1 : x < 0
      · rw [if_pos h1]
      · have e : x = 0 := by
          apply Int32.toInt_inj.mp
          rw [Int32.lt_iff_toInt_lt] at h0 h1
          omega
        rw [e]; decide
  · rw [if_neg h9, if_pos (by decide)]
    have h1 : ¬ x < 0 := by rw [Int32.lt_iff_toInt_lt] at h9 ⊢; omega
    rw [if_neg h1]
    by_cases h2 : 9 < x
    · rw [if_pos h2]
    · rw [if_neg h2]
      apply Int32.toInt_inj.mp
      rw [Int32.lt_iff_toInt_lt] at h2 h9
      omega
theorem s_cnt_congr {f g : Nat → Bool} : ∀ k, (∀ j, j < k → f j = g j) → s_cnt f k = s_cnt g k := by
  intro k
  induction k with
  | zero => intro _; rfl
  | succ k ih => intro h; simp only [s_cnt]; rw [ih (fun j hj => h j (by omega)), h k (by omega)]
/-- houses of the lane as laid are houses -/
def q_hs (Y : px_I) (m n : Nat) : Prop := ∀ p, p < m → Y 9 p = nI (ix (Y 9 p)) ∧ ix (Y 9 p) < 12
theorem q_hoj {Y X : px_I} {m n j : Nat} (h : q_ok Y X m n) (hj : j < n) : g_hoj Y 8 j = m_hoj (m_lay X m n) j := R_hoj (n := n) (I' := mv (m_lay X m n)) (r_lay (n := n) h.1) (h.2.1 j hj)
theorem q_oth {Y X : px_I} {m n j : Nat} (h : q_ok Y X m n) (hj : j < n) : s_cnt (h_oth Y j) n = s_cnt (m_oth (m_lay X m n) j) n := by
  refine s_cnt_congr n (fun e he => ?_)
  unfold h_oth m_oth
  rw [R_runs (r_lay (m := m) (n := n) h.1) he, q_hoj h he, q_hoj h hj]
  rfl
theorem q_much {Y X : px_I} {m n j : Nat} {Ls : List l_L} {house : Int32} (h : q_ok Y X m n) (hh : q_hs Y m n) (hj : j < n) (hx : ∃ k, k < 12 ∧ house = nI k) : h_much Y n Ls j house = m_much (m_lay X m n) n Ls j house := by
  obtain ⟨k, hk, rfl⟩ := hx
  have hv := hh (ix (Y 2 j)) (h.2.1 j hj)
  have e1 : s_apart (g_hoj Y 8 j) (nI k) = m_ap (m_hoj (m_lay X m n) j) (nI k) := by
    rw [← q_hoj h hj]
    show s_apart (Y 9 (ix (Y 2 j))) (nI k) = m_ap (Y 9 (ix (Y 2 j))) (nI k)
    rw [hv.1]
    exact ap_eq _ hv.2 _ hk
  have e6 : Y 6 = m_lay X m n 60 := (h.1.1.2.2.2.2.2.1).trans (m_lay_row (by omega) (by omega)).symm
  have e4 : Y 4 = m_lay X m n 58 := (h.1.1.2.2.2.1).trans (m_lay_row (by omega) (by omega)).symm
  have e7 : Y 7 = m_lay X m n 61 := (h.1.1.2.2.2.2.2.2.1).trans (m_lay_row (by omega) (by omega)).symm
  have e5 : Y 8 5 = m_lay X m n 54 37 := (r_lay (m := m) (n := n) h.1).2.2.1.2
  have e2 : ∀ a o, h_nm Y j a o = m_nm (m_lay X m n) j a o := by
    intro a o
    funext x
    simp only [h_nm, m_nm, e6, e4, e7, e5]
  unfold h_much m_much
  rw [e1, q_oth h hj, e2, cl_eq, e6]
theorem h_bits_eq {g : Int32 → Int32} {nose : Int32} {p : Nat} (hp : p < 2) : ∀ f a, a ≤ 13 → 12 ≤ a + 2 * f → a % 2 = p → h_bits g nose f a (s_bits (fun h => decide (h % 2 = p) && !decide (g (nI h) < nose)) a) = s_bits (fun h => decide (h % 2 = p) && !decide (g (nI h) < nose)) 12 := by
  have fin : ∀ a, a ≤ 13 → 12 ≤ a → a % 2 = p → s_bits (fun h => decide (h % 2 = p) && !decide (g (nI h) < nose)) a = s_bits (fun h => decide (h % 2 = p) && !decide (g (nI h) < nose)) 12 := by
    intro a h1 h2 h3
    by_cases e : a = 12
    · rw [e]
    · obtain rfl : a = 13 := by omega
      rw [s_bits, if_neg (by rw [decide_eq_false (by omega)]; simp)]
  intro f
  induction f with
  | zero => intro a h1 h2 h3; unfold h_bits; exact fin a h1 (by omega) h3
  | succ f ih =>
    intro a h1 h2 h3
    unfold h_bits
    by_cases c : a < 12
    · rw [if_pos c]
      have e : (if g (nI a) < nose then s_bits (fun h => decide (h % 2 = p) && !decide (g (nI h) < nose)) a else s_bits (fun h => decide (h % 2 = p) && !decide (g (nI h) < nose)) a ||| ((1 : Int32) <<< (nI a &&& 31))) = s_bits (fun h => decide (h % 2 = p) && !decide (g (nI h) < nose)) (a + 2) := by
        have f1 : (fun h => decide (h % 2 = p) && !decide (g (nI h) < nose)) (a + 1) = false := by
          show (decide ((a + 1) % 2 = p) && _) = false
          rw [decide_eq_false (by omega), Bool.false_and]
        rw [show a + 2 = a + 1 + 1 from rfl, s_bits_f f1]
        by_cases q : g (nI a) < nose
        · have f0 : (fun h => decide (h % 2 = p) && !decide (g (nI h) < nose)) a = false := by
            show (_ && !decide (g (nI a) < nose)) = false
            rw [decide_eq_true q]
            exact Bool.and_false _
          rw [if_pos q, s_bits_f f0]
        · have f0 : (fun h => decide (h % 2 = p) && !decide (g (nI h) < nose)) a = true := by
            show (decide (a % 2 = p) && !decide (g (nI a) < nose)) = true
            rw [decide_eq_true h3, decide_eq_false q]
            rfl
          rw [if_neg q, s_bits_t f0]
      rw [e]
      exact ih (a + 2) (by omega) (by omega) (by omega)
    · rw [if_neg c]; exact fin a h1 (by omega) h3
theorem rem2_nI : ∀ a, a < 12 → px_rem (nI a) 2 = nI (a % 2) := by decide +kernel
theorem side_nI : ∀ a, a < 12 → ix (1 - px_rem (nI a) 2) = 1 - a % 2 := by decide +kernel
theorem q_smelt {Y X : px_I} {m n j : Nat} {Ls : List l_L} (h : q_ok Y X m n) (hh : q_hs Y m n) (hj : j < n) : h_smelt Y n Ls j = m_smelt (m_lay X m n) n Ls j := by
  have hv := hh (ix (Y 2 j)) (h.2.1 j hj)
  have hho : g_hoj Y 8 j = nI (ix (Y 9 (ix (Y 2 j)))) := hv.1
  unfold h_smelt m_smelt
  rw [show g_runs Y 8 j = m_runs (m_lay X m n) j from R_runs (r_lay (m := m) (n := n) h.1) hj]
  by_cases c : m_runs (m_lay X m n) j = true
  · rw [if_pos c, if_pos c]
    unfold h_side
    rw [hho, side_nI _ hv.2]
    have hp2 : (1 - ix (Y 9 (ix (Y 2 j))) % 2) < 2 := by omega
    have hb := h_bits_eq (g := h_much Y n Ls j) (nose := Y 1 9) hp2 6 (1 - ix (Y 9 (ix (Y 2 j))) % 2) (by omega) (by omega) (by omega)
    have e0 : s_bits (fun h => decide (h % 2 = 1 - ix (Y 9 (ix (Y 2 j))) % 2) && !decide (h_much Y n Ls j (nI h) < Y 1 9)) (1 - ix (Y 9 (ix (Y 2 j))) % 2) = 0 := by
      have hc : ix (Y 9 (ix (Y 2 j))) % 2 = 0 ∨ ix (Y 9 (ix (Y 2 j))) % 2 = 1 := by omega
      rcases hc with e | e
      · rw [e]
        show (if (decide (0 % 2 = 1 - 0) && _) = true then _ else _) = _
        rw [if_neg (by simp)]
        rfl
      · rw [e]; rfl
    rw [e0] at hb
    rw [hb]
    refine s_bits_congr 12 (fun k hk => ?_)
    unfold m_smh
    rw [← q_hoj h hj, hho, rem2_nI k hk, rem2_nI _ hv.2, q_much h hh hj ⟨k, hk, rfl⟩]
    congr 1
    · by_cases e : k % 2 = ix (Y 9 (ix (Y 2 j))) % 2
      · rw [decide_eq_false (by omega), e, decide_eq_true rfl]; rfl
      · rw [decide_eq_true (by omega), decide_eq_false (fun q => e ((qI_inj (by omega) (by omega)).mp q))]; rfl
    · rw [h.1.2.2.2.1, m_lay_row (by omega) (by omega)]
  · rw [if_neg c, if_neg c]
/-! windows -/
theorem has_0 {w k : Int32} : (!m_has w k) = decide (((w >>> (k &&& 31)) &&& 1) = 0) := by
  unfold m_has
  generalize (w >>> (k &&& 31)) = y
  have h : (y &&& 1) = 0 ∨ (y &&& 1) = 1 := by
    by_cases hb : bt y 0 = true
    · right
      apply bt_ext
      intro i hi
      rw [bt_and, bt_1 i hi]
      by_cases e : i = 0
      · subst e; rw [hb]; rfl
      · rw [decide_eq_false e, Bool.and_false]
    · left
      apply bt_ext
      intro i hi
      rw [bt_and, bt_1 i hi, bt_0]
      by_cases e : i = 0
      · subst e; rw [Bool.eq_false_iff.mpr hb]; rfl
      · rw [decide_eq_false e, Bool.and_false]
  rcases h with e | e <;> rw [e] <;> decide
theorem q_tight {Y X : px_I} {m n : Nat} {Ls : List l_L} {w : Int32} (h : q_ok Y X m n) (hh : q_hs Y m n) : h_tight Y n Ls w = m_none (m_lay X m n) (m_smelt (m_lay X m n) n Ls) n w := by
  unfold h_tight m_none
  congr 1
  refine s_any_congr n (fun j hj => ?_)
  unfold m_br1
  rw [q_smelt h hh hj, q_hoj h hj, ← has_0]
  by_cases e : m_smelt (m_lay X m n) n Ls j = 0
  · have z : (m_smelt (m_lay X m n) n Ls j &&& (w ^^^ (-1))) = 0 := by
      rw [e]
      apply bt_ext
      intro i hi
      rw [bt_and, bt_0, Bool.false_and]
    rw [decide_eq_true z, decide_eq_true e]
    simp
  · rw [decide_eq_false e]
    simp
theorem bc_12 : ∀ a, a < 64 → ∀ b, b < 64 → 64 * a + b = 4095 ∨ s_bc (nI (64 * a + b)) < s_bc (nI 4095) := by decide +kernel
theorem few_eq {t : Nat → Bool} (h5 : t 4095 = true) : h_few t 4096 = m_sh t 4096 := by
  have lt5 : ∀ w, w < 4095 → s_bc (nI w) < s_bc (nI 4095) := by
    intro w hw
    have := bc_12 (w / 64) (by omega) (w % 64) (by omega)
    rw [show 64 * (w / 64) + w % 64 = w from by omega] at this
    exact this.resolve_left (by omega)
  have key : ∀ w, w ≤ 4095 → (m_sh t w = -2 ∧ h_few t w = nI 4095) ∨ (m_sh t w = h_few t w ∧ ¬ m_sh t w < 0) := by
    intro w
    induction w with
    | zero => intro _; exact Or.inl ⟨rfl, rfl⟩
    | succ w ih =>
      intro hw
      have e1 : m_sh t (w + 1) = if ¬ m_sh t w < 0 ∧ ¬ s_bc (nI w) < s_bc (m_sh t w) then m_sh t w else if t w = true then nI w else m_sh t w := rfl
      have e2 : h_few t (w + 1) = if s_bc (nI w) < s_bc (h_few t w) ∧ t w = true then nI w else h_few t w := rfl
      rw [e1, e2]
      rcases ih (by omega) with ⟨a, b⟩ | ⟨a, b⟩
      · rw [a, b, if_neg (n_and_l (by decide))]
        by_cases c : t w = true
        · rw [if_pos c, if_pos ⟨lt5 w (by omega), c⟩]
          exact Or.inr ⟨rfl, nI_nn (by omega)⟩
        · rw [if_neg c, if_neg (fun q => c q.2)]
          exact Or.inl ⟨rfl, rfl⟩
      · rw [← a]
        by_cases q : s_bc (nI w) < s_bc (m_sh t w)
        · rw [if_neg (fun z => z.2 q)]
          by_cases c : t w = true
          · rw [if_pos c, if_pos ⟨q, c⟩]
            exact Or.inr ⟨rfl, nI_nn (by omega)⟩
          · rw [if_neg c, if_neg (fun z => c z.2)]
            exact Or.inr ⟨rfl, b⟩
        · rw [if_pos ⟨b, q⟩, if_neg (fun z => q z.1)]
          exact Or.inr ⟨rfl, b⟩
  have e1 : m_sh t 4096 = if ¬ m_sh t 4095 < 0 ∧ ¬ s_bc (nI 4095) < s_bc (m_sh t 4095) then m_sh t 4095 else if t 4095 = true then nI 4095 else m_sh t 4095 := rfl
  have e2 : h_few t 4096 = if s_bc (nI 4095) < s_bc (h_few t 4095) ∧ t 4095 = true then nI 4095 else h_few t 4095 := rfl
  rw [e1, e2]
  rcases key 4095 (Nat.le_refl _) with ⟨a, b⟩ | ⟨a, b⟩
  · rw [a, b, if_neg (n_and_l (by decide)), if_pos h5, if_neg (fun z => absurd z.1 (by rw [Int32.lt_iff_toInt_lt]; omega))]
  · rw [← a]
    by_cases q : s_bc (nI 4095) < s_bc (m_sh t 4095)
    · rw [if_pos ⟨q, h5⟩, if_neg (fun z => z.2 q), if_pos h5]
    · rw [if_neg (fun z => q z.1), if_pos ⟨b, q⟩]
theorem q_shut {Y X : px_I} {m n : Nat} {Ls : List l_L} (h : q_ok Y X m n) (hh : q_hs Y m n) : h_shut Y n Ls = m_shut (m_lay X m n) n Ls := by
  unfold h_shut m_shut
  have e : (fun w => h_tight Y n Ls (nI w)) = fun s => m_none (m_lay X m n) (m_smelt (m_lay X m n) n Ls) n (nI s) := by
    funext w
    exact q_tight h hh
  rw [e]
  refine few_eq ?_
  have hf := m_none_full (X := fun q => if q = 80 then m_smelt (m_lay X m n) n Ls else m_lay X m n q) (S := m_lay X m n) (n := n) (Ls := Ls) (fun i hi => rfl)
  exact hf
theorem q_lived {Y X : px_I} {m n : Nat} {Ls : List l_L} (h : q_ok Y X m n) (hh : q_hs Y m n) : h_lived Y m n Ls = s_cnt (m_fin (m_lay X m n) m n Ls) n := by
  have hl : ∀ k, k ≤ m → s_live (Y 9) k = s_live (m_lay X m n 77) k := by
    intro k
    induction k with
    | zero => intro _; rfl
    | succ k ih =>
      intro hk
      unfold s_live
      rw [ih (by omega), show Y 9 k = m_lay X m n 77 k from (r_lay (m := m) (n := n) h.1).2.2.2.1 k (by omega)]
  unfold h_lived
  refine s_cnt_congr n (fun j hj => ?_)
  unfold m_fin
  rw [q_smelt h hh hj, hl m (Nat.le_refl m)]
/-! nearness -/
theorem ap_12 : ∀ a, a < 12 → ∀ b, b < 12 → ¬ m_ap (nI a) (nI b) < 0 ∧ m_ap (nI a) (nI b) < 12 ∧ s_apart (nI b) (nI a) = m_ap (nI a) (nI b) := by decide +kernel
theorem q_near {Y X : px_I} {m n one : Nat} (h : q_ok Y X m n) (hh : q_hs Y m n) (ho : one < m) : (if v_near Y one m < 12 then v_near Y one m else -2) = m_nr X one m := by
  have key : ∀ k, k ≤ m → (v_near Y one k = 12 ∧ m_nr X one k = -2) ∨ (v_near Y one k = m_nr X one k ∧ ¬ m_nr X one k < 0 ∧ m_nr X one k < 12) := by
    intro k
    induction k with
    | zero => intro _; exact Or.inl ⟨rfl, rfl⟩
    | succ k ih =>
      intro hk
      have vo := hh one ho
      have vk := hh k (by omega)
      have e9 : Y 9 = X 55 := h.1.1.1
      have e1 : v_near Y one (k + 1) = if v_acr Y one k = true then (if s_apart (Y 9 one) (Y 9 k) < v_near Y one k then s_apart (Y 9 one) (Y 9 k) else v_near Y one k) else v_near Y one k := rfl
      have e2 : m_nr X one (k + 1) = if px_rem (X 55 k) 2 = px_rem (X 55 one) 2 then m_nr X one k else if m_nr X one k < 0 ∨ m_ap (X 55 k) (X 55 one) < m_nr X one k then m_ap (X 55 k) (X 55 one) else m_nr X one k := rfl
      obtain ⟨p1, p2, p3⟩ := ap_12 (ix (Y 9 k)) vk.2 (ix (Y 9 one)) vo.2
      rw [← vk.1, ← vo.1] at p1 p2 p3
      rw [e1, e2, ← e9, p3]
      by_cases c : px_rem (Y 9 k) 2 = px_rem (Y 9 one) 2
      · rw [if_pos c, if_neg (by unfold v_acr; rw [decide_eq_true c.symm]; decide)]
        exact ih (by omega)
      · rw [if_neg c, if_pos (by unfold v_acr; rw [decide_eq_false (fun q => c q.symm)]; rfl)]
        rcases ih (by omega) with ⟨a, b⟩ | ⟨a, b, b3⟩
        · rw [a, b, if_pos p2, if_pos (Or.inl (by decide))]
          exact Or.inr ⟨rfl, p1, p2⟩
        · rw [a]
          by_cases q : m_ap (Y 9 k) (Y 9 one) < m_nr X one k
          · rw [if_pos q, if_pos (Or.inr q)]; exact Or.inr ⟨rfl, p1, p2⟩
          · rw [if_neg q, if_neg (not_or.mpr ⟨b, q⟩)]; exact Or.inr ⟨rfl, b, b3⟩
  rcases key m (Nat.le_refl m) with ⟨a, b⟩ | ⟨a, b, b3⟩
  · rw [a, b]; decide
  · rw [a, if_pos b3]
/-! how many to turn the vote -/
theorem lead_oth {h : Nat → Int32} : ∀ m, (∀ p, p < m → h p = nI (ix (h p)) ∧ ix (h p) < 12) → ∃ a b, a + b = m ∧ s_lead h m = nI a - nI b ∧ v_oth h 0 m = b ∧ v_oth h 1 m = a := by
  intro m
  induction m with
  | zero => intro _; exact ⟨0, 0, rfl, (show (0 : Int32) = nI 0 - nI 0 from by decide), rfl, rfl⟩
  | succ m ih =>
    intro hh
    obtain ⟨a, b, e, hl, h0, h1⟩ := ih (fun p hp => hh p (by omega))
    have hv := hh m (by omega)
    have hr : px_rem (h m) 2 = nI (ix (h m) % 2) := by rw [hv.1]; rw [ix_nI (by omega)]; exact rem2_nI _ hv.2
    unfold s_lead v_oth
    rw [hl, h0, h1, hr]
    have hc : ix (h m) % 2 = 0 ∨ ix (h m) % 2 = 1 := by omega
    rcases hc with q | q
    · rw [q]
      refine ⟨a + 1, b, by omega, ?_, ?_, ?_⟩
      · rw [if_pos (by decide), ← nI_1]; grind
      · simp [show nI 0 = 0 from nI_0]
      · simp [show nI 0 = 0 from nI_0]
    · rw [q]
      refine ⟨a, b + 1, by omega, ?_, ?_, ?_⟩
      · rw [if_neg (by decide), ← nI_1]; grind
      · rw [show nI 1 = 1 from by decide]; simp
      · rw [show nI 1 = 1 from by decide]; simp
theorem over_fin : ∀ a, a < 8 → ∀ b, b < 8 → ∀ g, g < 2 → s_first (fun k => decide (0 < (nI a - nI b) + 2 * nI k) || (decide ((nI a - nI b) + 2 * nI k = 0) && decide (nI g = 0))) (b + 1) 0 = m_ov (nI (a + b)) (nI a - nI b) (nI g) 0 9 0 ∧ s_first (fun k => decide (0 < -(nI a - nI b) + 2 * nI k) || (decide (-(nI a - nI b) + 2 * nI k = 0) && decide (nI g = 1))) (a + 1) 0 = m_ov (nI (a + b)) (-(nI a - nI b)) (nI g) 1 9 0 := by decide +kernel
theorem r_01_nI {x : Int32} (h : r_01 x) : ∃ g, g < 2 ∧ x = nI g := by
  rcases h with e | e
  · exact ⟨0, by omega, by rw [e]; decide⟩
  · exact ⟨1, by omega, by rw [e]; decide⟩
theorem q_over {Y X : px_I} {m n : Nat} {v : Int32} (h : q_ok Y X m n) (hh : q_hs Y m n) (hg : r_01 (Y 8 4)) (hv : s_within v 0 1 = true) : s_first (v_ok Y m v) (v_oth (Y 9) v m + 1) 0 = m_ov (nI m) (m_mo (X 55) m v) (X 64 0) v 9 0 := by
  have hm7 := h.2.2.2.2.2
  obtain ⟨a, b, e, hl, h0, h1⟩ := lead_oth (h := Y 9) m hh
  obtain ⟨g, hg2, eg⟩ := r_01_nI hg
  obtain ⟨f0, f1⟩ := over_fin a (by omega) b (by omega) g hg2
  have hx := w_ixc (m := 1) (by omega) (b := 1) (by decide) hv
  rw [← h.1.2.1, ← h.1.1.1, eg, ← e]
  have hc : ix v = 0 ∨ ix v = 1 := by omega
  rcases hc with q | q
  · have ev : v = 0 := by rw [hx.1, q]; exact nI_0
    subst ev
    rw [e] at f0 ⊢
    rw [h0]
    unfold m_mo
    rw [if_pos rfl, hl, ← f0]
    refine s_first_congr _ _ (fun k _ _ => ?_)
    unfold v_ok v_for
    rw [if_pos rfl, hl, eg]
  · have ev : v = 1 := by rw [hx.1, q]; decide
    subst ev
    rw [e] at f1 ⊢
    rw [h1]
    unfold m_mo
    rw [if_neg (by decide), hl, ← f1]
    refine s_first_congr _ _ (fun k _ _ => ?_)
    unfold v_ok v_for
    rw [if_neg (by decide), hl, eg]

