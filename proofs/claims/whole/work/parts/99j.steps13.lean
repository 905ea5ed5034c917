/-! the law's own text -/
theorem r_read {I I1 I2 : px_I} {J : px_J} {m n d u t nb : Nat} {Ls Ls' : List l_L} (h : r_all I J m n d u t nb Ls) (hG : ∀ q, q ≠ 14 → q ≠ 16 → q ≠ 17 → q ≠ 33 → q ≠ 34 → q ≠ 36 → q ≠ 37 → I1 q = I q) (h33 : I1 33 2 = 0) (hM : m_tl I1 I2) (h20 : I2 54 20 = 0) (l1 : px_law I1 14 Ls') (l2 : m_law I2 Ls') : r_all I2 J m n d u 0 nb Ls' := by
  obtain ⟨m1, m2⟩ := hM
  obtain ⟨k1, k2, k3, k4, k5, k6, k7, k8, k9⟩ := h
  have hF : ∀ q k, q ≠ 14 → q ≠ 16 → q ≠ 17 → q ≠ 33 → q ≠ 34 → q ≠ 36 → q ≠ 37 → (q < 69 ∨ 75 < q) → ¬ (q = 54 ∧ ((20 ≤ k ∧ k ≤ 24) ∨ k = 32)) → I2 q k = I q k := by
    intro q k a1 a2 a3 a4 a5 a6 a7 b c
    by_cases e : q = 54
    · subst e
      rw [m2 k (by omega), hG 54 (by omega) (by omega) (by omega) (by omega) (by omega) (by omega) (by omega)]
    · rw [m1 q (by omega), hG q a1 a2 a3 a4 a5 a6 a7]
  refine ⟨k1.fr (fun q k a => by unfold f_cnt at a; exact hF q k (by omega) (by omega) (by omega) (by omega) (by omega) (by omega) (by omega) (by omega) (by omega)), k2.fr (fun q k a => by unfold f_row at a; exact hF q k (by omega) (by omega) (by omega) (by omega) (by omega) (by omega) (by omega) (by omega) (by omega)), k3.fr (fun q k a => by unfold f_val at a; exact hF q k (by omega) (by omega) (by omega) (by omega) (by omega) (by omega) (by omega) (by omega) (by omega)), k4.fr (fun q k a => by unfold f_chg at a; exact hF q k (by omega) (by omega) (by omega) (by omega) (by omega) (by omega) (by omega) (by omega) (by omega)), k5.fr (fun q k a => by unfold f_img at a; exact hF q k (by omega) (by omega) (by omega) (by omega) (by omega) (by omega) (by omega) (by omega) (by omega)), ⟨?_, h20, by omega, fun i hi => by omega⟩, ⟨l1.of (m1 16 (by omega)) (m1 17 (by omega)) (by rw [m1 14 (by omega)]), l2⟩, k8.fr (fun q k a => by unfold f_bod at a; exact hF q k (by omega) (by omega) (by omega) (by omega) (by omega) (by omega) (by omega) (by omega) (by omega)), k9.fr (fun q k a => by unfold f_sh at a; exact hF q k (by omega) (by omega) (by omega) (by omega) (by omega) (by omega) (by omega) (by omega) (by omega))⟩
  rw [m1 33 (by omega), h33]; exact nI_0.symm
theorem st_law {l : Launch} {I : px_I} {J : px_J} (h : r_ex I J) : r_stp l mX11_law mX12_law 46 46 [] I J := by
  obtain ⟨m, n, d, u, t, nb, Ls, h⟩ := h
  have ht := h.2.2.2.2.2.1
  have hte := ht.te
  refine Ct.mono (c_X11_law ht.1 ht.2.2.1) ?_
  rintro r I1 J1 ⟨rfl, h33, hG, hh⟩
  have g69 : I1 69 = I 69 := hG 69 (by omega) (by omega) (by omega) (by omega) (by omega) (by omega) (by omega)
  have g54 : I1 54 = I 54 := hG 54 (by omega) (by omega) (by omega) (by omega) (by omega) (by omega) (by omega)
  rcases hh with ⟨Ls', p, e, q⟩ | ⟨e', p, _, e, q1, q2, q3⟩
  · refine ⟨_, e, (c_X12_lawOk (I := I1) (by rw [g54]; exact ht.2.1) ht.2.2.1 g69 (p.te hte)).mono ?_⟩
    rintro r' I2 J2 ⟨f1, rfl, f3, f4, f5⟩
    exact ⟨f1, m, n, d, u, 0, nb, Ls', r_read h hG h33 f3 f4 q f5⟩
  · refine ⟨_, e, (c_X12_lawNo (I := I1) (by rw [g54]; exact ht.2.1) ht.2.2.1 g69 (p.te hte)).mono ?_⟩
    rintro r' I2 J2 ⟨f1, rfl, f3, f4, f5⟩
    refine ⟨f1, m, n, d, u, 0, nb, Ls, r_read h hG h33 f3 f4 (h.2.2.2.2.2.2.1.1.of q2 q3 (by rw [q1])) (f5 Ls ?_)⟩
    exact h.2.2.2.2.2.2.1.2.of (fun q a _ => hG q (by omega) (by omega) (by omega) (by omega) (by omega) (by omega) (by omega)) (by rw [g54])

