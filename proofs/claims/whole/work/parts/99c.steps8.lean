/-! undo and redo of the law -/
theorem g_there_1 {I I' : px_I} {x w : Int32} (h6 : I' 1 6 = I 1 6) (h7 : I' 1 7 = I 1 7) : g_there I' x w = g_there I x w := by
  unfold g_there g_isP g_isJ
  rw [h6, h7]
theorem r_all.ent {I : px_I} {J : px_J} {m n d u t nb k : Nat} {Ls : List l_L} (h : r_all I J m n d u t nb Ls) (hk : k < d + u) : m_at (I 29 k) (I 30 k) ∧ g_there I (I 29 k) (I 30 k) = true ∧ r_okv (I 30 k) (I 31 k) ∧ r_okv (I 30 k) (I 32 k) := by
  obtain ⟨a, b, c⟩ := h.2.2.2.1.2.2.2.2.2.2 k hk
  have hp := h.pl (I' := I) (fun _ _ => rfl) (I 29 k) (I 30 k)
  exact ⟨r_pl_at h.1.2.2.1 h.1.2.2.2.2.2 a, by rw [hp.1, hp.2]; exact a, b, c⟩
theorem st_undo {l : Launch} {I : px_I} {J : px_J} (h : r_ex I J) : r_stp l mX11_undo mX12_undo 4 1 [] I J := by
  obtain ⟨m, n, d, u, t, nb, Ls, h⟩ := h
  obtain ⟨k1, k2, k3, k4, k5, ⟨k6, k7, k8, k9⟩, k10⟩ := h.2.2.2.1
  have cG := c_X11_undo (l := l) (I := I) (J := J) k1 (by omega)
  by_cases d0 : d = 0
  · have cM := c_X12_undo (l := l) (I := I) (J := J) k2 (by omega) (fun q => by omega)
    unfold g_undo at cG
    unfold m_undo at cM
    rw [if_pos d0, if_pos d0] at cG cM
    exact r_do cG cM rfl ⟨m, n, d, u, t, nb, Ls, h⟩
  · obtain ⟨ha, hp, hv, _⟩ := h.ent (show d - 1 < d + u by omega)
    have hg := w_rng ha
    have hpY : g_there (px_up I 28 5 (nI (d - 1))) (I 29 (d - 1)) (I 30 (d - 1)) = true := by
      rw [g_there_1 (I := I) (px_up_ne (by omega)) (px_up_ne (by omega))]; exact hp
    rw [g_undo, if_neg d0, if_neg d0] at cG
    generalize hI1 : g_write (px_up I 28 5 (nI (d - 1))) (I 29 (d - 1)) (I 30 (d - 1)) (I 31 (d - 1)) = I1 at cG
    have g1 : ∀ q k, I1 q k = if q = wq (I 30 (d - 1)) ∧ k = wk (I 30 (d - 1)) (I 29 (d - 1)) then I 31 (d - 1) else px_up I 28 5 (nI (d - 1)) q k := by
      intro q k
      rw [← hI1]; exact g_write_at hpY ha
    have hM : r_same54 I I1 := by
      intro q a
      funext k
      rw [g1, if_neg (by omega), px_up_ne (by omega)]
    have ha' : m_at (I1 66 (d - 1)) (I1 65 (d - 1)) := by
      rw [hM 66 (by omega), hM 65 (by omega), ← k6, ← k7]; exact ha
    have cM := c_X12_undo (l := l) (I := I1) (J := J) (d := d) (by rw [hM 54 (by omega)]; exact k2) (by omega) (fun _ => ha')
    rw [m_undo, if_neg d0, if_neg d0, hM 66 (by omega), hM 65 (by omega), hM 67 (by omega), ← k6, ← k7, ← k8] at cM
    have e28 : I1 28 5 = nI (d - 1) := by rw [g1, if_neg (by omega), px_up_same]
    refine r_do cG cM e28.symm ⟨m, n, d - 1, u + 1, t, nb, Ls, ?_⟩
    generalize hI2 : m_put (px_up (px_up I1 54 13 (nI (d - 1))) 54 14 (I1 54 14 + 1)) (I 29 (d - 1)) (I 30 (d - 1)) (I 31 (d - 1)) = I2
    have g2 : ∀ q k, I2 q k = if q = vq (I 30 (d - 1)) ∧ k = vk (I 30 (d - 1)) (I 29 (d - 1)) then I 31 (d - 1) else px_up (px_up I1 54 13 (nI (d - 1))) 54 14 (I1 54 14 + 1) q k := by
      intro q k
      rw [← hI2]; exact m_put_at ha
    have hF : ∀ q k, ¬ (q = 28 ∧ k = 5) → ¬ (q = 54 ∧ (k = 13 ∨ k = 14)) → I2 q k = if (q = wq (I 30 (d - 1)) ∧ k = wk (I 30 (d - 1)) (I 29 (d - 1))) ∨ (q = vq (I 30 (d - 1)) ∧ k = vk (I 30 (d - 1)) (I 29 (d - 1))) then I 31 (d - 1) else I q k := by
      intro q k a b
      rw [g2]
      by_cases c : q = vq (I 30 (d - 1)) ∧ k = vk (I 30 (d - 1)) (I 29 (d - 1))
      · rw [if_pos c, if_pos (Or.inr c)]
      · rw [if_neg c, px_up_ne (by omega), px_up_ne (by omega), g1]
        by_cases e : q = wq (I 30 (d - 1)) ∧ k = wk (I 30 (d - 1)) (I 29 (d - 1))
        · rw [if_pos e, if_pos (Or.inl e)]
        · rw [if_neg e, if_neg (fun w => w.elim e c), px_up_ne (by omega)]
    have hs : ∀ q k, (29 ≤ q ∧ q ≤ 32) ∨ (65 ≤ q ∧ q ≤ 68) → I2 q k = I q k := by
      intro q k a
      rw [hF q k (by omega) (by omega), if_neg (by omega)]
    have hr : ∀ q, (29 ≤ q ∧ q ≤ 32) ∨ (65 ≤ q ∧ q ≤ 68) → I2 q = I q := fun q a => funext fun k => hs q k a
    refine r_mend h ha hv (fun q k a b c => hF q k (by omega) c) ⟨?_, ?_, ?_, ?_, by omega, ?_, ?_⟩
    · rw [g2, if_neg (by omega), px_up_ne (by omega), px_up_ne (by omega)]; exact e28
    · rw [g2, if_neg (by omega), px_up_ne (by omega), px_up_same]
    · rw [hF 28 6 (by omega) (by omega), if_neg (by omega), k3]; congr 1; omega
    · rw [g2, if_neg (by omega), px_up_same, hM 54 (by omega), k4, nI_1]
    · rw [hr 29 (by omega), hr 30 (by omega), hr 31 (by omega), hr 32 (by omega), hr 65 (by omega), hr 66 (by omega), hr 67 (by omega), hr 68 (by omega)]
      exact ⟨k6, k7, k8, k9⟩
    · intro k hk
      rw [hr 29 (by omega), hr 30 (by omega), hr 31 (by omega), hr 32 (by omega)]
      exact k10 k (by omega)
theorem st_redo {l : Launch} {I : px_I} {J : px_J} (h : r_ex I J) : r_stp l mX11_redo mX12_redo 4 1 [] I J := by
  obtain ⟨m, n, d, u, t, nb, Ls, h⟩ := h
  obtain ⟨k1, k2, k3, k4, k5, ⟨k6, k7, k8, k9⟩, k10⟩ := h.2.2.2.1
  have cG := c_X11_redo (l := l) (I := I) (J := J) k1 (by omega) k3 (by omega)
  by_cases u0 : u = 0
  · have cM := c_X12_redo (l := l) (I := I) (J := J) k2 k4 (by omega) (fun q => by omega)
    unfold g_redo at cG
    unfold m_redo at cM
    rw [if_neg (by omega), if_neg (by omega)] at cG
    rw [if_pos u0, if_pos u0] at cM
    exact r_do cG cM rfl ⟨m, n, d, u, t, nb, Ls, h⟩
  · obtain ⟨ha, hp, _, hv⟩ := h.ent (show d < d + u by omega)
    have hg := w_rng ha
    rw [g_redo, if_pos (by omega), if_pos (by omega)] at cG
    generalize hI1 : px_up (g_write I (I 29 d) (I 30 d) (I 32 d)) 28 5 (nI (d + 1)) = I1 at cG
    have g1 : ∀ q k, ¬ (q = 28 ∧ k = 5) → I1 q k = if q = wq (I 30 d) ∧ k = wk (I 30 d) (I 29 d) then I 32 d else I q k := by
      intro q k a
      rw [← hI1, px_up_ne a]; exact g_write_at hp ha
    have e28 : I1 28 5 = nI (d + 1) := by rw [← hI1, px_up_same]
    have hM : r_same54 I I1 := by
      intro q a
      funext k
      rw [g1 q k (by omega), if_neg (by omega)]
    have ha' : m_at (I1 66 d) (I1 65 d) := by
      rw [hM 66 (by omega), hM 65 (by omega), ← k6, ← k7]; exact ha
    have cM := c_X12_redo (l := l) (I := I1) (J := J) (d := d) (u := u) (by rw [hM 54 (by omega)]; exact k2) (by rw [hM 54 (by omega)]; exact k4) (by omega) (fun _ => ha')
    rw [m_redo, if_neg u0, if_neg u0, hM 66 (by omega), hM 65 (by omega), hM 68 (by omega), ← k6, ← k7, ← k9] at cM
    have e286 : I1 28 6 = nI (d + u) := by rw [g1 28 6 (by omega), if_neg (by omega)]; exact k3
    refine r_do cG cM (by rw [e28, e286, qI_sub (by omega)]; congr 1; omega) ⟨m, n, d + 1, u - 1, t, nb, Ls, ?_⟩
    generalize hI2 : px_up (px_up (m_put I1 (I 29 d) (I 30 d) (I 32 d)) 54 13 (nI (d + 1))) 54 14 (nI (u - 1)) = I2
    have hF : ∀ q k, ¬ (q = 28 ∧ k = 5) → ¬ (q = 54 ∧ (k = 13 ∨ k = 14)) → I2 q k = if (q = wq (I 30 d) ∧ k = wk (I 30 d) (I 29 d)) ∨ (q = vq (I 30 d) ∧ k = vk (I 30 d) (I 29 d)) then I 32 d else I q k := by
      intro q k a b
      rw [← hI2, px_up_ne (by omega), px_up_ne (by omega), m_put_at ha]
      by_cases c : q = vq (I 30 d) ∧ k = vk (I 30 d) (I 29 d)
      · rw [if_pos c, if_pos (Or.inr c)]
      · rw [if_neg c, g1 q k a]
        by_cases e : q = wq (I 30 d) ∧ k = wk (I 30 d) (I 29 d)
        · rw [if_pos e, if_pos (Or.inl e)]
        · rw [if_neg e, if_neg (fun w => w.elim e c)]
    have hs : ∀ q k, (29 ≤ q ∧ q ≤ 32) ∨ (65 ≤ q ∧ q ≤ 68) → I2 q k = I q k := by
      intro q k a
      rw [hF q k (by omega) (by omega), if_neg (by omega)]
    have hr : ∀ q, (29 ≤ q ∧ q ≤ 32) ∨ (65 ≤ q ∧ q ≤ 68) → I2 q = I q := fun q a => funext fun k => hs q k a
    refine r_mend h ha hv (fun q k a b c => hF q k (by omega) c) ⟨?_, ?_, ?_, ?_, by omega, ?_, ?_⟩
    · rw [← hI2, px_up_ne (by omega), px_up_ne (by omega), m_put_at ha, if_neg (by omega)]; exact e28
    · rw [← hI2, px_up_ne (by omega), px_up_same]
    · rw [hF 28 6 (by omega) (by omega), if_neg (by omega), k3]; congr 1; omega
    · rw [← hI2, px_up_same]
    · rw [hr 29 (by omega), hr 30 (by omega), hr 31 (by omega), hr 32 (by omega), hr 65 (by omega), hr 66 (by omega), hr 67 (by omega), hr 68 (by omega)]
      exact ⟨k6, k7, k8, k9⟩
    · intro k hk
      rw [hr 29 (by omega), hr 30 (by omega), hr 31 (by omega), hr 32 (by omega)]
      exact k10 k (by omega)

