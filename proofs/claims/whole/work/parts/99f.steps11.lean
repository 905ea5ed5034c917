/-! the image of the law, and back to it -/
theorem im_f {I : px_I} {m n : Nat} {q k : Nat} (h : ¬ (q = 0 ∧ (k = 12 ∨ k = 13 ∨ k = 14))) (h2 : ¬ (23 ≤ q ∧ q ≤ 27)) : g_image I m n q k = I q k := by
  unfold g_image
  rw [g_takes_row (by omega), px_up_ne (by omega), px_up_ne (by omega), px_up_ne (by omega)]
theorem im_24 {I : px_I} {m n k : Nat} : g_image I m n 24 k = if k < m then I 9 k else I 24 k := by simp [g_image, g_takes, g_take, px_up_at, px_cp_at]
theorem im_25 {I : px_I} {m n k : Nat} : g_image I m n 25 k = if k < n then I 10 k else I 25 k := by simp [g_image, g_takes, g_take, px_up_at, px_cp_at]
theorem im_26 {I : px_I} {m n k : Nat} : g_image I m n 26 k = if k < n then I 11 k else I 26 k := by simp [g_image, g_takes, g_take, px_up_at, px_cp_at]
theorem im_27 {I : px_I} {m n k : Nat} : g_image I m n 27 k = if k < 6 then I 12 k else I 27 k := by simp [g_image, g_takes, g_take, px_up_at, px_cp_at]
theorem im_c {I : px_I} {m n : Nat} : g_image I m n 0 12 = 1 ∧ g_image I m n 0 13 = nI m ∧ g_image I m n 0 14 = nI n ∧ g_image I m n 23 4 = I 8 4 ∧ g_image I m n 23 5 = I 8 5 := by simp [g_image, g_takes, g_take, px_up_at, px_cp_at]
theorem mm_f {I : px_I} {m n : Nat} {q k : Nat} (h : ¬ (q = 54 ∧ 42 ≤ k ∧ k ≤ 46)) (h2 : ¬ (82 ≤ q ∧ q ≤ 85)) : m_im (m_im0 I m n) m n q k = I q k := by
  rw [m_im_row (by omega), m_im0, px_up_ne (by omega), px_up_ne (by omega), px_up_ne (by omega), px_up_ne (by omega), px_up_ne (by omega)]
theorem mm_82 {I : px_I} {m n k : Nat} : m_im (m_im0 I m n) m n 82 k = if k < m then I 55 k else I 82 k := by simp [m_im, m_im0, px_up_at, px_cp_at]
theorem mm_83 {I : px_I} {m n k : Nat} : m_im (m_im0 I m n) m n 83 k = if k < n then I 62 k else I 83 k := by simp [m_im, m_im0, px_up_at, px_cp_at]
theorem mm_84 {I : px_I} {m n k : Nat} : m_im (m_im0 I m n) m n 84 k = if k < n then I 63 k else I 84 k := by simp [m_im, m_im0, px_up_at, px_cp_at]
theorem mm_85 {I : px_I} {m n k : Nat} : m_im (m_im0 I m n) m n 85 k = if k < 6 then I 81 k else I 85 k := by simp [m_im, m_im0, px_up_at, px_cp_at]
theorem mm_c {I : px_I} {m n : Nat} : m_im (m_im0 I m n) m n 54 42 = 1 ∧ m_im (m_im0 I m n) m n 54 43 = nI m ∧ m_im (m_im0 I m n) m n 54 44 = nI n ∧ m_im (m_im0 I m n) m n 54 45 = I 64 0 ∧ m_im (m_im0 I m n) m n 54 46 = I 64 3 := by simp [m_im, m_im0, px_up_at, px_cp_at]
theorem st_image {l : Launch} {I : px_I} {J : px_J} (h : r_ex I J) : r_stp l mX11_image mX12_image 2 0 [] I J := by
  obtain ⟨m, n, d, u, t, nb, Ls, h⟩ := h
  have cG := c_X11_image (l := l) (I := I) (J := J) h.1.1 h.1.2.2.1 h.1.2.2.2.1 h.1.2.2.2.2.2
  have g1 : ∀ q k, ¬ (q = 0 ∧ (k = 12 ∨ k = 13 ∨ k = 14)) → ¬ (23 ≤ q ∧ q ≤ 27) → g_image I m n q k = I q k := fun q k a b => im_f a b
  have hM : r_same54 I (g_image I m n) := fun q a => funext fun k => g1 q k (by omega) (by omega)
  have cM := c_X12_image (l := l) (I := g_image I m n) (J := J) (m := m) (n := n) (by rw [hM 54 (by omega)]; exact h.1.2.1) h.1.2.2.1 (by rw [hM 54 (by omega)]; exact h.1.2.2.2.2.1) h.1.2.2.2.2.2
  obtain ⟨h1, h2, h3, h4, h5, h6, h7, h8, h9⟩ := h
  obtain ⟨⟨a1, a2, a3, a4, a5, a6, a7, a8, a9, a10⟩, b1, b2', b3, b4⟩ := h2
  refine r_do cG cM (by rw [hM 81 (by omega), ← a10]) ⟨m, n, d, u, t, nb, Ls, ?_⟩
  obtain ⟨e1, e2, e3, e4, e5⟩ := im_c (I := I) (m := m) (n := n)
  obtain ⟨f1, f2, f3, f4, f5⟩ := mm_c (I := g_image I m n) (m := m) (n := n)
  have r24 := @im_24 I m n
  have r25 := @im_25 I m n
  have r26 := @im_26 I m n
  have r27 := @im_27 I m n
  generalize g_image I m n = I1 at *
  have r82 := @mm_82 I1 m n
  have r83 := @mm_83 I1 m n
  have r84 := @mm_84 I1 m n
  have r85 := @mm_85 I1 m n
  have g2 : ∀ q k, ¬ (q = 54 ∧ 42 ≤ k ∧ k ≤ 46) → ¬ (82 ≤ q ∧ q ≤ 85) → m_im (m_im0 I1 m n) m n q k = I1 q k := fun q k a b => mm_f a b
  generalize m_im (m_im0 I1 m n) m n = I2 at *
  have hF : ∀ q k, ¬ (q = 0 ∧ (k = 12 ∨ k = 13 ∨ k = 14)) → ¬ (23 ≤ q ∧ q ≤ 27) → ¬ (q = 54 ∧ 42 ≤ k ∧ k ≤ 46) → ¬ (82 ≤ q ∧ q ≤ 85) → I2 q k = I q k := fun q k a b c e => (g2 q k c e).trans (g1 q k a b)
  rw [hM 64 (by omega)] at f4 f5
  have s24 : ∀ k, I2 24 k = if k < m then I 9 k else I 24 k := fun k => (g2 24 k (by omega) (by omega)).trans r24
  have s25 : ∀ k, I2 25 k = if k < n then I 10 k else I 25 k := fun k => (g2 25 k (by omega) (by omega)).trans r25
  have s26 : ∀ k, I2 26 k = if k < n then I 11 k else I 26 k := fun k => (g2 26 k (by omega) (by omega)).trans r26
  have s27 : ∀ k, I2 27 k = if k < 6 then I 12 k else I 27 k := fun k => (g2 27 k (by omega) (by omega)).trans r27
  obtain ⟨p1, p2, ⟨p3, p4, p5, p6⟩, p7, p8, p9, p10⟩ := h5
  have s234 : I2 23 4 = I 8 4 := (g2 23 4 (by omega) (by omega)).trans e4
  have s235 : I2 23 5 = I 8 5 := (g2 23 5 (by omega) (by omega)).trans e5
  refine ⟨h1.fr (fun q k a => by unfold f_cnt at a; exact hF q k (by omega) (by omega) (by omega) (by omega)), r_row.fr ⟨⟨a1, a2, a3, a4, a5, a6, a7, a8, a9, a10⟩, b1, b2', b3, b4⟩ (fun q k a => by unfold f_row at a; exact hF q k (by omega) (by omega) (by omega) (by omega)), h3.fr (fun q k a => by unfold f_val at a; exact hF q k (by omega) (by omega) (by omega) (by omega)), h4.fr (fun q k a => by unfold f_chg at a; exact hF q k (by omega) (by omega) (by omega) (by omega)), ⟨?_, ⟨m, n, ?_, f2, Nat.le_refl m, ?_, f3, Nat.le_refl n⟩, ⟨?_, ?_, ?_, ?_⟩, ⟨?_, ?_⟩, ?_, ?_, ?_⟩, h6.fr (fun q k a => by unfold f_tape at a; exact hF q k (by omega) (by omega) (by omega) (by omega)), h7.fr (fun q k a => by unfold f_law at a; exact hF q k (by omega) (by omega) (by omega) (by omega)), h8.fr (fun q k a => by unfold f_bod at a; exact hF q k (by omega) (by omega) (by omega) (by omega)), h9.fr (fun q k a => by unfold f_sh at a; exact hF q k (by omega) (by omega) (by omega) (by omega))⟩
  · rw [g2 0 12 (by omega) (by omega), e1, f1]
  · rw [g2 0 13 (by omega) (by omega), e2]
  · rw [g2 0 14 (by omega) (by omega), e3]
  · funext k; rw [s24, r82, hM 55 (by omega), hM 82 (by omega), a1, p3]
  · funext k; rw [s25, r83, hM 62 (by omega), hM 83 (by omega), a8, p4]
  · funext k; rw [s26, r84, hM 63 (by omega), hM 84 (by omega), a9, p5]
  · funext k; rw [s27, r85, hM 81 (by omega), hM 85 (by omega), a10, p6]
  · rw [s234, f4]; exact b1
  · rw [s235, f5]; exact b4
  · intro p hp
    rw [s24]
    split
    · exact h3.1 p hp
    · exact p8 p hp
  · intro j hj
    rw [s26]
    split
    · exact h3.2.2.2.2.1 j hj
    · exact p9 j hj
  · rw [s234]; exact h3.2.2.2.2.2.1

