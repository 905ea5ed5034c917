/-! bodies, the tape, joys of the law -/
theorem b_k8 : ∀ k, k < 8 → s_within (nI k) 0 7 = true := by decide +kernel
theorem st_body {l : Launch} {I : px_I} {J : px_J} {x : Int32} (h : r_ex I J) : r_stp l mX11_body mX12_body 1 1 [.int x] I J := by
  obtain ⟨m, n, d, u, t, nb, Ls, h⟩ := h
  have hb := h.2.2.2.2.2.2.2.1
  have cG := c_X11_body (l := l) (I := I) (J := J) (k := x) hb.1 hb.2.2.1
  by_cases hx : s_within x 0 7 = true ∧ nb < 50
  · rw [if_pos hx.1, if_pos hx.2, if_pos hx.1, if_pos hx.2] at cG
    have cM := c_X12_body (l := l) (I := px_up (px_up I 52 nb x) 51 2 (nI (nb + 1))) (J := J) (k := x) (n := nb) (by rw [px_up_ne (by omega), px_up_ne (by omega)]; exact hb.2.1) hb.2.2.1
    rw [if_pos hx.1, if_pos hx.2, if_pos hx.1, if_pos hx.2] at cM
    refine r_do cG cM rfl ⟨m, n, d, u, t, nb + 1, Ls, ?_⟩
    have hv := w_ixc (m := 7) (by omega) rfl hx.1
    generalize hI : px_up (px_up (px_up (px_up I 52 nb x) 51 2 (nI (nb + 1))) 86 nb x) 54 51 (nI (nb + 1)) = I2
    have hF : ∀ q k, ¬ ((q = 52 ∧ k = nb) ∨ (q = 86 ∧ k = nb) ∨ (q = 51 ∧ k = 2) ∨ (q = 54 ∧ k = 51)) → I2 q k = I q k := by
      intro q k a
      rw [← hI, px_up_ne (by omega), px_up_ne (by omega), px_up_ne (by omega), px_up_ne (by omega)]
    have e52 : I2 52 nb = x := by rw [← hI, px_up_ne (by omega), px_up_ne (by omega), px_up_ne (by omega), px_up_same]
    have e86 : I2 86 nb = x := by rw [← hI, px_up_ne (by omega), px_up_same]
    have e51 : I2 51 2 = nI (nb + 1) := by rw [← hI, px_up_ne (by omega), px_up_ne (by omega), px_up_same]
    have e54 : I2 54 51 = nI (nb + 1) := by rw [← hI, px_up_same]
    obtain ⟨h1, h2, h3, h4, h5, h6, h7, h8, h9⟩ := h
    obtain ⟨b1, b2', b3, b4, b5, b6, b7⟩ := h8
    refine ⟨h1.fr (fun q k a => hF q k (by unfold f_cnt at a; omega)), h2.fr (fun q k a => hF q k (by unfold f_row at a; omega)), h3.fr (fun q k a => hF q k (by unfold f_val at a; omega)), h4.fr (fun q k a => hF q k (by unfold f_chg at a; omega)), h5.fr (fun q k a => hF q k (by unfold f_img at a; omega)), h6.fr (fun q k a => hF q k (by unfold f_tape at a; omega)), h7.fr (fun q k a => hF q k (by unfold f_law at a; omega)), ⟨e51, e54, by omega, funext fun k => ?_, fun j hj => ?_, ?_, funext fun k => ?_⟩, fun s hs => ?_⟩
    · by_cases e : k = nb
      · rw [e, e52, e86]
      · rw [hF 52 k (by omega), hF 86 k (by omega), b4]
    · by_cases e : j = nb
      · rw [e, e52]; exact ⟨ix x, by omega, hv.1⟩
      · rw [hF 52 j (by omega)]; exact b5 j hj
    · rw [hF 51 3 (by omega), hF 54 53 (by omega)]; exact b6
    · rw [hF 53 k (by omega), hF 87 k (by omega), b7]
    · have hs1 := h9 s hs
      unfold r_s1 at hs1 ⊢
      rw [hF 20 s (by omega), hF 21 s (by omega), hF 88 s (by omega), hF 89 s (by omega)]
      refine ⟨hs1.1, ?_⟩
      rcases hs1.2 with a | a | ⟨b, hbb, a⟩
      · exact Or.inl a
      · exact Or.inr (Or.inl a)
      · exact Or.inr (Or.inr ⟨b, by omega, a⟩)
  · have cM := c_X12_body (l := l) (I := I) (J := J) (k := x) hb.2.1 hb.2.2.1
    have e : (if s_within x 0 7 = true then (if nb < 50 then px_up (px_up I 52 nb x) 51 2 (nI (nb + 1)) else I) else I) = I := by
      split
      · rw [if_neg (fun q => hx ⟨by assumption, q⟩)]
      · rfl
    have e2 : (if s_within x 0 7 = true then (if nb < 50 then px_up (px_up I 86 nb x) 54 51 (nI (nb + 1)) else I) else I) = I := by
      split
      · rw [if_neg (fun q => hx ⟨by assumption, q⟩)]
      · rfl
    rw [e] at cG
    rw [e2] at cM
    exact r_do cG cM rfl ⟨m, n, d, u, t, nb, Ls, h⟩
theorem feed_sm : ∀ k, k < 256 → r_sm (nI k) (vp_nar .byte (nI k).toInt8.toInt32) := by
  have key : ∀ k, k < 256 → (nI k = vp_nar .byte (nI k).toInt8.toInt32 || (decide (127 < nI k) && decide (vp_nar .byte (nI k).toInt8.toInt32 < 0))) = true := by decide +kernel
  intro k hk
  have := key k hk
  simp only [Bool.or_eq_true, Bool.and_eq_true, decide_eq_true_eq] at this
  exact this
theorem st_feed {l : Launch} {I : px_I} {J : px_J} {x : Int32} (h : r_ex I J) : r_stp l mX11_feed mX12_feed 1 1 [.int x] I J := by
  obtain ⟨m, n, d, u, t, nb, Ls, h⟩ := h
  have ht := h.2.2.2.2.2.1
  have cG := c_X11_feed (l := l) (I := I) (J := J) (x := x) ht.1 ht.2.2.1
  by_cases hx : s_within x 0 255 = true ∧ t < 120
  · rw [if_pos hx.1, if_pos hx.2, if_pos hx.1, if_pos hx.2] at cG
    have cM := c_X12_feed (l := l) (I := px_up (px_up I 33 2 (nI (t + 1))) 39 t x) (J := J) (x := x) (t := t) (by rw [px_up_ne (by omega), px_up_ne (by omega)]; exact ht.2.1) ht.2.2.1
    rw [if_pos hx.1, if_pos hx.2, if_pos hx.1, if_pos hx.2] at cM
    refine r_do cG cM rfl ⟨m, n, d, u, t + 1, nb, Ls, ?_⟩
    have hv := w_ixc (m := 255) (by omega) rfl hx.1
    have hsm : r_sm x (vp_nar .byte x.toInt8.toInt32) := by
      have := feed_sm (ix x) (by omega)
      rw [← hv.1] at this
      exact this
    generalize hw : vp_nar .byte x.toInt8.toInt32 = w at hsm
    generalize hI : px_up (px_up (px_up (px_up I 33 2 (nI (t + 1))) 39 t x) 69 t w) 54 20 (nI (t + 1)) = I2
    have hF : ∀ q k, ¬ ((q = 39 ∧ k = t) ∨ (q = 69 ∧ k = t) ∨ (q = 33 ∧ k = 2) ∨ (q = 54 ∧ k = 20)) → I2 q k = I q k := by
      intro q k a
      rw [← hI, px_up_ne (by omega), px_up_ne (by omega), px_up_ne (by omega), px_up_ne (by omega)]
    obtain ⟨h1, h2, h3, h4, h5, h6, h7, h8, h9⟩ := h
    refine ⟨h1.fr (fun q k a => hF q k (by unfold f_cnt at a; omega)), h2.fr (fun q k a => hF q k (by unfold f_row at a; omega)), h3.fr (fun q k a => hF q k (by unfold f_val at a; omega)), h4.fr (fun q k a => hF q k (by unfold f_chg at a; omega)), h5.fr (fun q k a => hF q k (by unfold f_img at a; omega)), ⟨?_, ?_, by omega, fun i hi => ?_⟩, h7.fr (fun q k a => hF q k (by unfold f_law at a; omega)), h8.fr (fun q k a => hF q k (by unfold f_bod at a; omega)), h9.fr (fun q k a => hF q k (by unfold f_sh at a; omega))⟩
    · rw [← hI, px_up_ne (by omega), px_up_ne (by omega), px_up_ne (by omega), px_up_same]
    · rw [← hI, px_up_same]
    · by_cases e : i = t
      · rw [e, ← hI, px_up_ne (by omega), px_up_ne (by omega), px_up_same, px_up_ne (by omega), px_up_same]
        exact hsm
      · rw [hF 39 i (by omega), hF 69 i (by omega)]; exact ht.2.2.2 i (by omega)
  · have cM := c_X12_feed (l := l) (I := I) (J := J) (x := x) ht.2.1 ht.2.2.1
    have e : (if s_within x 0 255 = true then (if t < 120 then px_up (px_up I 33 2 (nI (t + 1))) 39 t x else I) else I) = I := by
      split
      · rw [if_neg (fun q => hx ⟨by assumption, q⟩)]
      · rfl
    have e2 : (if s_within x 0 255 = true then (if t < 120 then px_up (px_up I 69 t (vp_nar .byte x.toInt8.toInt32)) 54 20 (nI (t + 1)) else I) else I) = I := by
      split
      · rw [if_neg (fun q => hx ⟨by assumption, q⟩)]
      · rfl
    rw [e] at cG
    rw [e2] at cM
    exact r_do cG cM rfl ⟨m, n, d, u, t, nb, Ls, h⟩

