/-! back to the image of the law -/
theorem bk_f {I : px_I} {a b : Nat} {q k : Nat} (h : q < 8 ∨ 12 < q) : g_takes I 8 23 a b q k = I q k := by
  rw [g_takes_row (by omega)]
theorem bk_r {I : px_I} {a b k : Nat} : g_takes I 8 23 a b 9 k = (if k < a then I 24 k else I 9 k) ∧ g_takes I 8 23 a b 10 k = (if k < b then I 25 k else I 10 k) ∧ g_takes I 8 23 a b 11 k = (if k < b then I 26 k else I 11 k) ∧ g_takes I 8 23 a b 12 k = (if k < 6 then I 27 k else I 12 k) := by simp [g_takes, g_take, px_up_at, px_cp_at]
theorem bk_c {I : px_I} {a b : Nat} : g_takes I 8 23 a b 8 4 = I 23 4 ∧ g_takes I 8 23 a b 8 5 = I 23 5 := by simp [g_takes, g_take, px_up_at, px_cp_at]
theorem mk_f {I : px_I} {a b : Nat} {q k : Nat} (h : q ≠ 55 ∧ q ≠ 62 ∧ q ≠ 63 ∧ q ≠ 81) (h2 : ¬ (q = 64 ∧ (k = 0 ∨ k = 3))) : m_bk (m_bk0 I) a b q k = I q k := by
  rw [m_bk, px_cp_row (by omega), px_cp_row (by omega), px_cp_row (by omega), px_cp_row (by omega), m_bk0, px_up_ne (by omega), px_up_ne (by omega)]
theorem mk_r {I : px_I} {a b k : Nat} : m_bk (m_bk0 I) a b 55 k = (if k < a then I 82 k else I 55 k) ∧ m_bk (m_bk0 I) a b 62 k = (if k < b then I 83 k else I 62 k) ∧ m_bk (m_bk0 I) a b 63 k = (if k < b then I 84 k else I 63 k) ∧ m_bk (m_bk0 I) a b 81 k = (if k < 6 then I 85 k else I 81 k) := by simp [m_bk, m_bk0, px_up_at, px_cp_at]
theorem mk_c {I : px_I} {a b : Nat} : m_bk (m_bk0 I) a b 64 0 = I 54 45 ∧ m_bk (m_bk0 I) a b 64 3 = I 54 46 := by simp [m_bk, m_bk0, px_up_at, px_cp_at]
theorem st_back {l : Launch} {I : px_I} {J : px_J} (h : r_ex I J) : r_stp l mX11_back mX12_back 2 0 [] I J := by
  obtain ⟨m, n, d, u, t, nb, Ls, h⟩ := h
  obtain ⟨p1, ⟨ka, kb, q1, q2, q3, q4, q5, q6⟩, ⟨p3, p4, p5, p6⟩, ⟨p7, p7'⟩, p8, p9, p10⟩ := h.2.2.2.2.1
  have hm7 := h.1.2.2.1
  have hn10 := h.1.2.2.2.2.2
  have cG := c_X11_back (l := l) (I := I) (J := J) q1 (by omega) q4 (by omega)
  by_cases z : I 0 12 = 0
  · have cM := c_X12_back (l := l) (I := I) (J := J) q2 (by omega) q5 (by omega)
    rw [if_pos z, if_pos z] at cG
    rw [← p1, if_pos z, if_pos z] at cM
    exact r_do cG cM rfl ⟨m, n, d, u, t, nb, Ls, h⟩
  · rw [if_neg z, if_neg z] at cG
    have g1 : ∀ q k, q < 8 ∨ 12 < q → g_takes I 8 23 ka kb q k = I q k := fun q k a => bk_f a
    have hM : r_same54 I (g_takes I 8 23 ka kb) := fun q a => funext fun k => g1 q k (by omega)
    have cM := c_X12_back (l := l) (I := g_takes I 8 23 ka kb) (J := J) (m := ka) (n := kb) (by rw [hM 54 (by omega)]; exact q2) (by omega) (by rw [hM 54 (by omega)]; exact q5) (by omega)
    rw [hM 54 (by omega), ← p1, if_neg z, if_neg z] at cM
    have rG := fun k => @bk_r I ka kb k
    have cGc := @bk_c I ka kb
    generalize g_takes I 8 23 ka kb = I1 at *
    have rM := fun k => @mk_r I1 ka kb k
    have cMc := @mk_c I1 ka kb
    have g2 : ∀ q k, (q ≠ 55 ∧ q ≠ 62 ∧ q ≠ 63 ∧ q ≠ 81) → ¬ (q = 64 ∧ (k = 0 ∨ k = 3)) → m_bk (m_bk0 I1) ka kb q k = I1 q k := fun q k a b => mk_f a b
    obtain ⟨h1, h2, h3, h4, h5, h6, h7, h8, h9⟩ := h
    obtain ⟨⟨a1, a2, a3, a4, a5, a6, a7, a8, a9, a10⟩, b1, b2', b3, b4⟩ := h2
    refine r_do cG cM ?_ ⟨m, n, d, u, t, nb, Ls, ?_⟩
    · rw [(rM 1).2.2.2, (rG 1).2.2.2, if_pos (by omega), if_pos (by omega), hM 85 (by omega), p6]
    generalize m_bk (m_bk0 I1) ka kb = I2 at *
    have hF : ∀ q k, (q < 8 ∨ 12 < q) → (q ≠ 55 ∧ q ≠ 62 ∧ q ≠ 63 ∧ q ≠ 81) → ¬ (q = 64 ∧ (k = 0 ∨ k = 3)) → I2 q k = I q k := fun q k a b c => (g2 q k b c).trans (g1 q k a)
    have hr : ∀ q, (q < 8 ∨ 12 < q) → (q ≠ 55 ∧ q ≠ 62 ∧ q ≠ 63 ∧ q ≠ 81 ∧ q ≠ 64) → I2 q = I q := fun q a b => funext fun k => hF q k a (by omega) (by omega)
    have s9 : ∀ k, I2 9 k = if k < ka then I 24 k else I 9 k := fun k => (g2 9 k (by omega) (by omega)).trans (rG k).1
    have s10 : ∀ k, I2 10 k = if k < kb then I 25 k else I 10 k := fun k => (g2 10 k (by omega) (by omega)).trans (rG k).2.1
    have s11 : ∀ k, I2 11 k = if k < kb then I 26 k else I 11 k := fun k => (g2 11 k (by omega) (by omega)).trans (rG k).2.2.1
    have s12 : ∀ k, I2 12 k = if k < 6 then I 27 k else I 12 k := fun k => (g2 12 k (by omega) (by omega)).trans (rG k).2.2.2
    have s84 : I2 8 4 = I 23 4 := (g2 8 4 (by omega) (by omega)).trans cGc.1
    have s85 : I2 8 5 = I 23 5 := (g2 8 5 (by omega) (by omega)).trans cGc.2
    refine ⟨h1.fr (fun q k a => by unfold f_cnt at a; exact hF q k (by omega) (by omega) (by omega)), ⟨⟨?_, ?_, ?_, ?_, ?_, ?_, ?_, ?_, ?_, ?_⟩, ?_, ?_, ?_, ?_⟩, ?_, h4.fr (fun q k a => by unfold f_chg at a; exact hF q k (by omega) (by omega) (by omega)), h5.fr (fun q k a => by unfold f_img at a; exact hF q k (by omega) (by omega) (by omega)), h6.fr (fun q k a => by unfold f_tape at a; exact hF q k (by omega) (by omega) (by omega)), h7.fr (fun q k a => by unfold f_law at a; exact hF q k (by omega) (by omega) (by omega)), h8.fr (fun q k a => by unfold f_bod at a; exact hF q k (by omega) (by omega) (by omega)), h9.fr (fun q k a => by unfold f_sh at a; exact hF q k (by omega) (by omega) (by omega))⟩
    · funext k; rw [s9, (rM k).1, hM 82 (by omega), hM 55 (by omega), p3, a1]
    · rw [hr 2 (by omega) (by omega), hr 56 (by omega) (by omega), a2]
    · rw [hr 3 (by omega) (by omega), hr 57 (by omega) (by omega), a3]
    · rw [hr 4 (by omega) (by omega), hr 58 (by omega) (by omega), a4]
    · rw [hr 5 (by omega) (by omega), hr 59 (by omega) (by omega), a5]
    · rw [hr 6 (by omega) (by omega), hr 60 (by omega) (by omega), a6]
    · rw [hr 7 (by omega) (by omega), hr 61 (by omega) (by omega), a7]
    · funext k; rw [s10, (rM k).2.1, hM 83 (by omega), hM 62 (by omega), p4, a8]
    · funext k; rw [s11, (rM k).2.2.1, hM 84 (by omega), hM 63 (by omega), p5, a9]
    · funext k; rw [s12, (rM k).2.2.2, hM 85 (by omega), hM 81 (by omega), p6, a10]
    · rw [s84, cMc.1, hM 54 (by omega)]; exact p7
    · rw [hF 1 8 (by omega) (by omega) (by omega), hF 64 1 (by omega) (by omega) (by omega)]; exact b2'
    · rw [hF 1 9 (by omega) (by omega) (by omega), hF 64 2 (by omega) (by omega) (by omega)]; exact b3
    · rw [s85, cMc.2, hM 54 (by omega)]; exact p7'
    · obtain ⟨c1, c2, c3, c4, c5, c6, c7⟩ := h3
      unfold r_val
      rw [hr 2 (by omega) (by omega), hr 4 (by omega) (by omega), hr 6 (by omega) (by omega), s84, hr 1 (by omega) (by omega)]
      refine ⟨fun p hp => ?_, c2, c3, c4, fun j hj => ?_, p10, c7⟩
      · rw [s9]
        split
        · exact p8 p hp
        · exact c1 p hp
      · rw [s11]
        split
        · exact p9 j hj
        · exact c5 j hj

