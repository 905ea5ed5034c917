/-! joys of the law -/
theorem r_addJoy {I I2 : px_I} {J : px_J} {m n d u t nb : Nat} {Ls : List l_L} {o du w : Int32} (h : r_all I J m n d u t nb Ls) (hn : n < 10) (ho : o = nI (ix o) ∧ ix o < m) (hw : w = nI (ix w) ∧ ix w < 10) (hF : ∀ q k, I2 q k = if k = n ∧ (q = 2 ∨ q = 56) then o else if k = n ∧ (q = 3 ∨ q = 57) then du else if k = n ∧ (q = 4 ∨ q = 58) then 2 else if k = n ∧ (q = 5 ∨ q = 59) then 9 else if k = n ∧ (q = 6 ∨ q = 60) then w else if (q = 1 ∧ k = 7) ∨ (q = 54 ∧ k = 3) then nI (n + 1) else I q k) : r_all I2 J m (n + 1) d u t nb Ls := by
  have hf : ∀ q k, ¬ (2 ≤ q ∧ q ≤ 6) → ¬ (56 ≤ q ∧ q ≤ 60) → ¬ (q = 1 ∧ k = 7) → ¬ (q = 54 ∧ k = 3) → I2 q k = I q k := by
    intro q k a b c e
    rw [hF, if_neg (by omega), if_neg (by omega), if_neg (by omega), if_neg (by omega), if_neg (by omega), if_neg (by omega)]
  have hr : ∀ q, ¬ (2 ≤ q ∧ q ≤ 6) → ¬ (56 ≤ q ∧ q ≤ 60) → q ≠ 1 → q ≠ 54 → I2 q = I q := fun q a b c e => funext fun k => hf q k a b (by omega) (by omega)
  obtain ⟨h1, h2, h3, h4, h5, h6, h7, h8, h9⟩ := h
  have hm7 := h1.2.2.1
  refine ⟨⟨by rw [hf 1 6 (by omega) (by omega) (by omega) (by omega)]; exact h1.1, by rw [hf 54 1 (by omega) (by omega) (by omega) (by omega)]; exact h1.2.1, hm7, ?_, ?_, by omega⟩, ?_, ?_, (h4.fr (fun q k a => by unfold f_chg at a; exact hf q k (by omega) (by omega) (by omega) (by omega))).up (Nat.le_refl m) hm7 (by omega) (by omega), (h5.fr (fun q k a => by unfold f_img at a; exact hf q k (by omega) (by omega) (by omega) (by omega))).up (Nat.le_refl m) (by omega), h6.fr (fun q k a => by unfold f_tape at a; exact hf q k (by omega) (by omega) (by omega) (by omega)), h7.fr (fun q k a => by unfold f_law at a; exact hf q k (by omega) (by omega) (by omega) (by omega)), h8.fr (fun q k a => by unfold f_bod at a; exact hf q k (by omega) (by omega) (by omega) (by omega)), h9.fr (fun q k a => by unfold f_sh at a; exact hf q k (by omega) (by omega) (by omega) (by omega))⟩
  · rw [hF, if_neg (by omega), if_neg (by omega), if_neg (by omega), if_neg (by omega), if_neg (by omega), if_pos (by omega)]
  · rw [hF, if_neg (by omega), if_neg (by omega), if_neg (by omega), if_neg (by omega), if_neg (by omega), if_pos (by omega)]
  · obtain ⟨⟨a1, a2, a3, a4, a5, a6, a7, a8, a9, a10⟩, b1, b2', b3, b4⟩ := h2
    refine ⟨⟨?_, ?_, ?_, ?_, ?_, ?_, ?_, ?_, ?_, ?_⟩, ?_⟩
    · rw [hr 9 (by omega) (by omega) (by omega) (by omega), hr 55 (by omega) (by omega) (by omega) (by omega), a1]
    · funext k; rw [hF 2 k, hF 56 k, a2]; by_cases e : k = n <;> simp [e]
    · funext k; rw [hF 3 k, hF 57 k, a3]; by_cases e : k = n <;> simp [e]
    · funext k; rw [hF 4 k, hF 58 k, a4]; by_cases e : k = n <;> simp [e]
    · funext k; rw [hF 5 k, hF 59 k, a5]; by_cases e : k = n <;> simp [e]
    · funext k; rw [hF 6 k, hF 60 k, a6]; by_cases e : k = n <;> simp [e]
    · rw [hr 7 (by omega) (by omega) (by omega) (by omega), hr 61 (by omega) (by omega) (by omega) (by omega), a7]
    · rw [hr 10 (by omega) (by omega) (by omega) (by omega), hr 62 (by omega) (by omega) (by omega) (by omega), a8]
    · rw [hr 11 (by omega) (by omega) (by omega) (by omega), hr 63 (by omega) (by omega) (by omega) (by omega), a9]
    · rw [hr 12 (by omega) (by omega) (by omega) (by omega), hr 81 (by omega) (by omega) (by omega) (by omega), a10]
    · rw [hr 8 (by omega) (by omega) (by omega) (by omega), hr 64 (by omega) (by omega) (by omega) (by omega), hf 1 8 (by omega) (by omega) (by omega) (by omega), hf 1 9 (by omega) (by omega) (by omega) (by omega)]
      exact ⟨b1, b2', b3, b4⟩
  · obtain ⟨c1, c2, c3, c4, c5, c6, c7⟩ := h3
    have k2 : ∀ k, I2 2 k = if k = n then o else I 2 k := by intro k; rw [hF 2 k]; by_cases e : k = n <;> simp [e]
    have k6 : ∀ k, I2 6 k = if k = n then w else I 6 k := by intro k; rw [hF 6 k]; by_cases e : k = n <;> simp [e]
    unfold r_val
    rw [hr 9 (by omega) (by omega) (by omega) (by omega), hr 11 (by omega) (by omega) (by omega) (by omega), hr 8 (by omega) (by omega) (by omega) (by omega), hf 1 8 (by omega) (by omega) (by omega) (by omega)]
    have k4 : ∀ k, I2 4 k = if k = n then 2 else I 4 k := by intro k; rw [hF 4 k]; by_cases e : k = n <;> simp [e]
    refine ⟨c1, fun j hj => ?_, fun j hj => ?_, fun j hj => ?_, c5, c6, c7.1, fun j hj => ?_⟩
    · rw [k2]
      split
      · exact ⟨ho.1, by omega⟩
      · exact c2 j hj
    · rw [k2]
      split
      · exact ho.2
      · exact c3 j (by omega)
    · rw [k6]
      split
      · exact hw
      · exact c4 j hj
    · rw [k4]
      split
      · decide
      · exact c7.2 j (by omega)
theorem st_joy {l : Launch} {I : px_I} {J : px_J} {x v : Int32} (h : r_ex I J) : r_stp l mX11_joy mX12_joy 1 2 [.int x, .int v] I J := by
  obtain ⟨m, n, d, u, t, nb, Ls, h⟩ := h
  have hP := r_isP h (I' := I) (fun _ _ => rfl) x
  have cG := c_X11_joy (l := l) (I := I) (J := J) (o := x) (d := v) h.1.2.2.2.1 h.1.2.2.2.2.2
  by_cases z : (m_one I x = true ∧ s_within v 0 99 = true) ∧ n < 10
  · have zG : g_isP I x = true ∧ s_within v 0 99 = true := by rw [hP]; exact z.1
    rw [if_pos zG, if_pos z.2, if_pos zG, if_pos z.2] at cG
    have hM : r_same54 I (g_addJoy I n x v) := by
      intro q a
      unfold g_addJoy
      rw [px_up_row (by omega), px_up_row (by omega), px_up_row (by omega), px_up_row (by omega), px_up_row (by omega), px_up_row (by omega)]
    have cM := c_X12_joy (l := l) (I := g_addJoy I n x v) (J := J) (o := x) (d := v) (n := n) (by rw [hM 54 (by omega)]; exact h.1.2.2.2.2.1) h.1.2.2.2.2.2
    have zM : m_one (g_addJoy I n x v) x = true ∧ s_within v 0 99 = true := by
      refine ⟨?_, z.1.2⟩
      rw [← r_isP h hM x, hP]; exact z.1.1
    rw [if_pos zM, if_pos z.2, if_pos zM, if_pos z.2] at cM
    refine r_do cG cM rfl ⟨m, n + 1, d, u, t, nb, Ls, ?_⟩
    refine r_addJoy h z.2 (h.px (I' := I) (fun _ _ => rfl) z.1.1) (w := 5) ⟨by decide, by decide⟩ (du := v) (fun q k => ?_)
    unfold m_addJoy g_addJoy
    simp only [px_up_at]
    by_cases e : k = n
    · subst e
      by_cases c1 : q = 2 ∨ q = 56
      · rcases c1 with c1 | c1 <;> subst c1 <;> simp
      by_cases c2 : q = 3 ∨ q = 57
      · rcases c2 with c2 | c2 <;> subst c2 <;> simp
      by_cases c3 : q = 4 ∨ q = 58
      · rcases c3 with c3 | c3 <;> subst c3 <;> simp
      by_cases c4 : q = 5 ∨ q = 59
      · rcases c4 with c4 | c4 <;> subst c4 <;> simp
      by_cases c5 : q = 6 ∨ q = 60
      · rcases c5 with c5 | c5 <;> subst c5 <;> simp
      rw [if_neg (show ¬ (k = k ∧ (q = 2 ∨ q = 56)) from fun s => c1 s.2), if_neg (show ¬ (k = k ∧ (q = 3 ∨ q = 57)) from fun s => c2 s.2), if_neg (show ¬ (k = k ∧ (q = 4 ∨ q = 58)) from fun s => c3 s.2), if_neg (show ¬ (k = k ∧ (q = 5 ∨ q = 59)) from fun s => c4 s.2), if_neg (show ¬ (k = k ∧ (q = 6 ∨ q = 60)) from fun s => c5 s.2)]
      by_cases c6 : q = 54 ∧ k = 3
      · rw [if_pos c6, if_pos (Or.inr c6)]
      · rw [if_neg c6, if_neg (by omega), if_neg (by omega), if_neg (by omega), if_neg (by omega), if_neg (by omega)]
        by_cases c7 : q = 1 ∧ k = 7
        · rw [if_pos c7, if_pos (Or.inl c7)]
        · rw [if_neg c7, if_neg (by omega), if_neg (by omega), if_neg (by omega), if_neg (by omega), if_neg (by omega), if_neg (show ¬ ((q = 1 ∧ k = 7) ∨ (q = 54 ∧ k = 3)) from fun s => s.elim c7 c6)]
    · rw [if_neg (show ¬ (k = n ∧ (q = 2 ∨ q = 56)) from fun s => e s.1), if_neg (show ¬ (k = n ∧ (q = 3 ∨ q = 57)) from fun s => e s.1), if_neg (show ¬ (k = n ∧ (q = 4 ∨ q = 58)) from fun s => e s.1), if_neg (show ¬ (k = n ∧ (q = 5 ∨ q = 59)) from fun s => e s.1), if_neg (show ¬ (k = n ∧ (q = 6 ∨ q = 60)) from fun s => e s.1)]
      by_cases c6 : q = 54 ∧ k = 3
      · rw [if_pos c6, if_pos (Or.inr c6)]
      · rw [if_neg c6, if_neg (fun s => e s.2), if_neg (fun s => e s.2), if_neg (fun s => e s.2), if_neg (fun s => e s.2), if_neg (fun s => e s.2)]
        by_cases c7 : q = 1 ∧ k = 7
        · rw [if_pos c7, if_pos (Or.inl c7)]
        · rw [if_neg c7, if_neg (fun s => e s.2), if_neg (fun s => e s.2), if_neg (fun s => e s.2), if_neg (fun s => e s.2), if_neg (fun s => e s.2), if_neg (show ¬ ((q = 1 ∧ k = 7) ∨ (q = 54 ∧ k = 3)) from fun s => s.elim c7 c6)]
  · have cM := c_X12_joy (l := l) (I := I) (J := J) (o := x) (d := v) h.1.2.2.2.2.1 h.1.2.2.2.2.2
    rw [hP] at cG
    have e : (if m_one I x = true ∧ s_within v 0 99 = true then (if n < 10 then g_addJoy I n x v else I) else I) = I := by
      split
      · rw [if_neg (fun q => z ⟨by assumption, q⟩)]
      · rfl
    have e2 : (if m_one I x = true ∧ s_within v 0 99 = true then (if n < 10 then m_addJoy I n x v 5 else I) else I) = I := by
      split
      · rw [if_neg (fun q => z ⟨by assumption, q⟩)]
      · rfl
    rw [e] at cG
    rw [e2] at cM
    exact r_do cG cM rfl ⟨m, n, d, u, t, nb, Ls, h⟩

