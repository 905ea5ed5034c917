/-! people, houses, bodies, the tape of the law -/
theorem r_pl_up {m m' n n' : Nat} {x w : Int32} (hm : m ≤ m') (hm7 : m' ≤ 7) (hn : n ≤ n') (hn10 : n' ≤ 10) (h : r_pl m n x w = true) : r_pl m' n' x w = true := by
  have up : ∀ (a b : Nat), a ≤ b → b ≤ 10 → s_within x 0 (nI a - 1) = true → s_within x 0 (nI b - 1) = true := by
    intro a b hab hb hw
    have hx := w_ix (m := a) (by omega) hw
    unfold s_within
    rw [hx.1, decide_eq_false (nI_nn (by omega))]
    obtain ⟨k, rfl⟩ : ∃ k, b = k + 1 := ⟨b - 1, by omega⟩
    rw [nI_pred, decide_eq_false (fun q => absurd ((qI_lt (by omega) (by omega)).mp q) (by omega))]
    rfl
  unfold r_pl at h ⊢
  by_cases w0 : w = 0
  · rw [if_pos w0] at h ⊢; exact up m m' hm (by omega) h
  · rw [if_neg w0] at h ⊢
    by_cases w1 : s_within w 1 7 = true
    · rw [if_pos w1] at h ⊢; exact up n n' hn hn10 h
    · rw [if_neg w1] at h ⊢; exact h
theorem r_chg.up {I : px_I} {m m' n n' d u : Nat} (h : r_chg I m n d u) (hm : m ≤ m') (hm7 : m' ≤ 7) (hn : n ≤ n') (hn10 : n' ≤ 10) : r_chg I m' n' d u := ⟨h.1, h.2.1, h.2.2.1, h.2.2.2.1, h.2.2.2.2.1, h.2.2.2.2.2.1, fun k hk => ⟨r_pl_up hm hm7 hn hn10 (h.2.2.2.2.2.2 k hk).1, (h.2.2.2.2.2.2 k hk).2⟩⟩
theorem r_img.up {I : px_I} {m m' n n' : Nat} (h : r_img I m n) (hm : m ≤ m') (hn : n ≤ n') : r_img I m' n' := by
  obtain ⟨a, ⟨p, q, b1, b2, b3, b4, b5, b6⟩, c⟩ := h
  exact ⟨a, ⟨p, q, b1, b2, by omega, b4, b5, by omega⟩, c⟩
theorem row_same {I : px_I} {q r k : Nat} {v : Int32} (h : I q = I r) (hqr : q ≠ r) : px_up (px_up I q k v) r k v q = px_up (px_up I q k v) r k v r := by
  funext i
  rw [px_up_ne (by omega)]
  by_cases e : i = k
  · rw [e, px_up_same, px_up_same]
  · rw [px_up_ne (by omega), px_up_ne (by omega), px_up_ne (by omega), h]
theorem st_person {l : Launch} {I : px_I} {J : px_J} {x : Int32} (h : r_ex I J) : r_stp l mX11_person mX12_person 1 2 [.int x] I J := by
  obtain ⟨m, n, d, u, t, nb, Ls, h⟩ := h
  by_cases hx : s_within x 0 11 = true ∧ m < 7
  · have cG := c_X11_person (l := l) (I := I) (J := J) (h := x) h.1.1 h.1.2.2.1
    rw [if_pos hx.1, if_pos hx.2, if_pos hx.1, if_pos hx.2] at cG
    have cM := c_X12_person (l := l) (I := px_up (px_up I 9 m x) 1 6 (nI (m + 1))) (J := J) (h := x) (m := m) (by rw [px_up_ne (by omega), px_up_ne (by omega)]; exact h.1.2.1) h.1.2.2.1
    rw [if_pos hx.1, if_pos hx.2, if_pos hx.1, if_pos hx.2] at cM
    refine r_do cG cM rfl ⟨m + 1, n, d, u, t, nb, Ls, ?_⟩
    have hv := w_ixc (m := 11) (by omega) rfl hx.1
    generalize hI : px_up (px_up (px_up (px_up I 9 m x) 1 6 (nI (m + 1))) 55 m x) 54 1 (nI (m + 1)) = I2
    have hF : ∀ q k, ¬ ((q = 9 ∧ k = m) ∨ (q = 55 ∧ k = m) ∨ (q = 1 ∧ k = 6) ∨ (q = 54 ∧ k = 1)) → I2 q k = I q k := by
      intro q k a
      rw [← hI, px_up_ne (by omega), px_up_ne (by omega), px_up_ne (by omega), px_up_ne (by omega)]
    have e9 : I2 9 m = x := by rw [← hI, px_up_ne (by omega), px_up_ne (by omega), px_up_ne (by omega), px_up_same]
    have e55 : I2 55 m = x := by rw [← hI, px_up_ne (by omega), px_up_same]
    have e1 : I2 1 6 = nI (m + 1) := by rw [← hI, px_up_ne (by omega), px_up_ne (by omega), px_up_same]
    have e54 : I2 54 1 = nI (m + 1) := by rw [← hI, px_up_same]
    have hr : ∀ q, q ≠ 9 → q ≠ 55 → q ≠ 1 → q ≠ 54 → I2 q = I q := fun q a b c e => funext fun k => hF q k (by omega)
    have hm1 : m + 1 ≤ 7 := by omega
    obtain ⟨h1, h2, h3, h4, h5, h6, h7, h8, h9⟩ := h
    refine ⟨⟨e1, e54, by omega, by rw [hF 1 7 (by omega)]; exact h1.2.2.2.1, by rw [hF 54 3 (by omega)]; exact h1.2.2.2.2.1, h1.2.2.2.2.2⟩, ?_, ?_, (h4.fr (fun q k a => hF q k (by unfold f_chg at a; omega))).up (by omega) hm1 (Nat.le_refl n) h1.2.2.2.2.2, (h5.fr (fun q k a => hF q k (by unfold f_img at a; omega))).up (by omega) (Nat.le_refl n), h6.fr (fun q k a => hF q k (by unfold f_tape at a; omega)), h7.fr (fun q k a => hF q k (by unfold f_law at a; omega)), h8.fr (fun q k a => hF q k (by unfold f_bod at a; omega)), h9.fr (fun q k a => hF q k (by unfold f_sh at a; omega))⟩
    · obtain ⟨⟨a1, a2⟩, b1, b2, b3, b4⟩ := h2
      refine ⟨⟨?_, ?_⟩, ?_⟩
      · funext k
        by_cases e : k = m
        · rw [e, e9, e55]
        · rw [hF 9 k (by omega), hF 55 k (by omega), a1]
      · rw [hr 2 (by omega) (by omega) (by omega) (by omega), hr 3 (by omega) (by omega) (by omega) (by omega), hr 4 (by omega) (by omega) (by omega) (by omega), hr 5 (by omega) (by omega) (by omega) (by omega), hr 6 (by omega) (by omega) (by omega) (by omega), hr 7 (by omega) (by omega) (by omega) (by omega), hr 10 (by omega) (by omega) (by omega) (by omega), hr 11 (by omega) (by omega) (by omega) (by omega), hr 12 (by omega) (by omega) (by omega) (by omega), hr 56 (by omega) (by omega) (by omega) (by omega), hr 57 (by omega) (by omega) (by omega) (by omega), hr 58 (by omega) (by omega) (by omega) (by omega), hr 59 (by omega) (by omega) (by omega) (by omega), hr 60 (by omega) (by omega) (by omega) (by omega), hr 61 (by omega) (by omega) (by omega) (by omega), hr 62 (by omega) (by omega) (by omega) (by omega), hr 63 (by omega) (by omega) (by omega) (by omega), hr 81 (by omega) (by omega) (by omega) (by omega)]
        exact a2
      · rw [hr 8 (by omega) (by omega) (by omega) (by omega), hr 64 (by omega) (by omega) (by omega) (by omega), hF 1 8 (by omega), hF 1 9 (by omega)]
        exact ⟨b1, b2, b3, b4⟩
    · obtain ⟨a1, a2, a3, a4, a5, a6, a7⟩ := h3
      unfold r_val
      rw [hr 2 (by omega) (by omega) (by omega) (by omega), hr 4 (by omega) (by omega) (by omega) (by omega), hr 6 (by omega) (by omega) (by omega) (by omega), hr 11 (by omega) (by omega) (by omega) (by omega), hr 8 (by omega) (by omega) (by omega) (by omega), hF 1 8 (by omega)]
      refine ⟨fun p hp => ?_, a2, fun j hj => ?_, a4, a5, a6, a7⟩
      · by_cases e : p = m
        · rw [e, e9]; exact hv
        · rw [hF 9 p (by omega)]; exact a1 p hp
      · have := a3 j hj; omega
  · have cG := c_X11_person (l := l) (I := I) (J := J) (h := x) h.1.1 h.1.2.2.1
    have cM := c_X12_person (l := l) (I := I) (J := J) (h := x) h.1.2.1 h.1.2.2.1
    have e : (if s_within x 0 11 = true then (if m < 7 then px_up (px_up I 9 m x) 1 6 (nI (m + 1)) else I) else I) = I := by
      split
      · rw [if_neg (fun q => hx ⟨by assumption, q⟩)]
      · rfl
    have e2 : (if s_within x 0 11 = true then (if m < 7 then px_up (px_up I 55 m x) 54 1 (nI (m + 1)) else I) else I) = I := by
      split
      · rw [if_neg (fun q => hx ⟨by assumption, q⟩)]
      · rfl
    rw [e] at cG
    rw [e2] at cM
    exact r_do cG cM rfl ⟨m, n, d, u, t, nb, Ls, h⟩
/-- rows 9 and 55, 12 and 81 change alike -/
theorem r_hled {I I2 : px_I} {J : px_J} {m n d u t nb : Nat} {Ls : List l_L} (h : r_all I J m n d u t nb Ls) (hr : ∀ q, q ≠ 9 → q ≠ 55 → q ≠ 12 → q ≠ 81 → I2 q = I q) (e9 : I2 9 = I2 55) (e12 : I2 12 = I2 81) (hv : r_hs (I2 9)) : r_all I2 J m n d u t nb Ls := by
  have hF : ∀ q k, ¬ (q = 9 ∨ q = 55 ∨ q = 12 ∨ q = 81) → I2 q k = I q k := fun q k a => by rw [hr q (by omega) (by omega) (by omega) (by omega)]
  obtain ⟨h1, h2, h3, h4, h5, h6, h7, h8, h9⟩ := h
  refine ⟨h1.fr (fun q k a => hF q k (by unfold f_cnt at a; omega)), ?_, ?_, h4.fr (fun q k a => hF q k (by unfold f_chg at a; omega)), h5.fr (fun q k a => hF q k (by unfold f_img at a; omega)), h6.fr (fun q k a => hF q k (by unfold f_tape at a; omega)), h7.fr (fun q k a => hF q k (by unfold f_law at a; omega)), h8.fr (fun q k a => hF q k (by unfold f_bod at a; omega)), h9.fr (fun q k a => hF q k (by unfold f_sh at a; omega))⟩
  · obtain ⟨⟨a1, a2, a3, a4, a5, a6, a7, a8, a9, a10⟩, b⟩ := h2
    unfold r_row
    rw [hr 2 (by omega) (by omega) (by omega) (by omega), hr 3 (by omega) (by omega) (by omega) (by omega), hr 4 (by omega) (by omega) (by omega) (by omega), hr 5 (by omega) (by omega) (by omega) (by omega), hr 6 (by omega) (by omega) (by omega) (by omega), hr 7 (by omega) (by omega) (by omega) (by omega), hr 10 (by omega) (by omega) (by omega) (by omega), hr 11 (by omega) (by omega) (by omega) (by omega), hr 56 (by omega) (by omega) (by omega) (by omega), hr 57 (by omega) (by omega) (by omega) (by omega), hr 58 (by omega) (by omega) (by omega) (by omega), hr 59 (by omega) (by omega) (by omega) (by omega), hr 60 (by omega) (by omega) (by omega) (by omega), hr 61 (by omega) (by omega) (by omega) (by omega), hr 62 (by omega) (by omega) (by omega) (by omega), hr 63 (by omega) (by omega) (by omega) (by omega), hr 8 (by omega) (by omega) (by omega) (by omega), hr 64 (by omega) (by omega) (by omega) (by omega), hr 1 (by omega) (by omega) (by omega) (by omega)]
    exact ⟨⟨e9, a2, a3, a4, a5, a6, a7, a8, a9, e12⟩, b⟩
  · unfold r_val
    rw [hr 2 (by omega) (by omega) (by omega) (by omega), hr 4 (by omega) (by omega) (by omega) (by omega), hr 6 (by omega) (by omega) (by omega) (by omega), hr 11 (by omega) (by omega) (by omega) (by omega), hr 8 (by omega) (by omega) (by omega) (by omega), hr 1 (by omega) (by omega) (by omega) (by omega)]
    exact ⟨hv, h3.2⟩
theorem st_moves {l : Launch} {I : px_I} {J : px_J} {x v : Int32} (h : r_ex I J) : r_stp l mX11_moves mX12_moves 1 2 [.int x, .int v] I J := by
  obtain ⟨m, n, d, u, t, nb, Ls, h⟩ := h
  have hP := r_isP h (I' := I) (fun _ _ => rfl) x
  have e955 := h.2.1.1.1
  have e12 := h.2.1.1.2.2.2.2.2.2.2.2.2
  have cG := c_X11_moves (l := l) (I := I) (J := J) (x := x) (h := v)
  rw [hP] at cG
  by_cases z : m_one I x = true ∧ s_within v 0 11 = true
  · rw [if_pos z, if_pos z] at cG
    have cM := c_X12_moves (l := l) (I := px_up (px_up I 9 (ix x) v) 12 0 (I 12 0 + 1)) (J := J) (x := x) (h := v) (m := m) (by rw [px_up_ne (by omega), px_up_ne (by omega)]; exact h.1.2.1) h.1.2.2.1
    have z' : m_one (px_up (px_up I 9 (ix x) v) 12 0 (I 12 0 + 1)) x = true ∧ s_within v 0 11 = true := z
    rw [if_pos z', if_pos z'] at cM
    have hv := w_ixc (m := 11) (by omega) rfl z.2
    refine r_do cG cM ?_ ⟨m, n, d, u, t, nb, Ls, ?_⟩
    · rw [px_up_ne (by omega), px_up_ne (by omega), e955]
    · rw [px_up_ne (by omega), px_up_ne (by omega)]
      generalize hI : px_up (px_up (px_up (px_up I 9 (ix x) v) 12 0 (I 12 0 + 1)) 55 (ix x) v) 81 0 (I 81 0 + 1) = I2
      have k9 : ∀ k, I2 9 k = if k = ix x then v else I 9 k := by
        intro k
        rw [← hI, px_up_ne (by omega), px_up_ne (by omega), px_up_ne (by omega), px_up_at]
        simp only [true_and]
      refine r_hled h (fun q a b c e => ?_) (funext fun k => ?_) (funext fun k => ?_) (fun p hp => ?_)
      · rw [← hI, px_up_row (by omega), px_up_row (by omega), px_up_row (by omega), px_up_row (by omega)]
      · rw [k9, ← hI, px_up_ne (by omega), px_up_at, px_up_ne (by omega), px_up_ne (by omega), e955]
        simp only [true_and]
      · rw [← hI, px_up_ne (by omega), px_up_ne (by omega), px_up_at, px_up_ne (by omega), px_up_at, px_up_ne (by omega), px_up_ne (by omega), px_up_ne (by omega), e12]
        simp only [true_and]
      · rw [k9]
        split
        · exact hv
        · exact h.2.2.1.1 p hp
  · rw [if_neg z, if_neg z] at cG
    have cM := c_X12_moves (l := l) (I := I) (J := J) (x := x) (h := v) h.1.2.1 h.1.2.2.1
    rw [if_neg z, if_neg z] at cM
    exact r_do cG cM rfl ⟨m, n, d, u, t, nb, Ls, h⟩
theorem st_inspect {l : Launch} {I : px_I} {J : px_J} (h : r_ex I J) : r_stp l mX11_inspect mX12_inspect 7 5 [] I J := by
  obtain ⟨m, n, d, u, t, nb, Ls, h⟩ := h
  refine Ct.mono (c_X11_inspect h.ok0 h.2.2.2.2.2.2.1.1) ?_
  rintro r I1 J1 ⟨e, ⟨X1, hX1, hI1⟩, rfl⟩
  have hM : r_same54 I I1 := fun q a => by rw [hI1, px_up_row (by omega), hX1 q (by omega) (by omega)]
  refine ⟨_, e, (c_X12_inspect (h.mok hM) (h.ml hM)).mono ?_⟩
  rintro r' I2 J2 ⟨e', ⟨X2, hX2, hI2⟩, rfl⟩
  have el := q_lived (Ls := Ls) (h.q hM) h.hs
  refine ⟨by rw [e', el], m, n, d, u, t, nb, Ls, ?_⟩
  have e12 := h.2.1.1.2.2.2.2.2.2.2.2.2
  have hX1a := r_same h hX1.eq rfl rfl (J' := J2)
  have hX2' : r_eq I1 X2 := hX2.eq
  generalize hS : px_up (px_up X2 12 4 (X2 12 4)) 81 4 (I1 81 4 + h_lived I m n Ls) = S
  have es : I2 = S := by
    rw [← hS, hI2, el]
    congr 1
    funext q k
    rw [px_up_at]
    split
    · rename_i a; rw [a.1, a.2]
    · rfl
  rw [es]
  have base : r_all (px_up (px_up X2 12 4 (I 12 4)) 12 4 (I 12 4)) J2 m n d u t nb Ls := by
    refine r_same hX1a ⟨fun q a => ?_, ?_, fun k a b => ?_⟩ rfl rfl
    · by_cases e : q = 12
      · subst e
        funext k
        rw [px_up_at, px_up_at]
        by_cases f : k = 4
        · rw [if_pos ⟨rfl, f⟩, f, hX1 12 (by omega) (by omega)]
        · rw [if_neg (fun w => f w.2), if_neg (fun w => f w.2), hX2'.1 12 a, hI1, px_up_ne (by omega)]
      · rw [px_up_row e, px_up_row e, hX2'.1 q a, hI1, px_up_row e]
    · rw [px_up_row (by omega), px_up_row (by omega), hX2'.2.1, hI1, px_up_row (by omega)]
    · rw [px_up_row (by omega), px_up_row (by omega), hX2'.2.2 k a b, hI1, px_up_row (by omega)]
  have b12 := base.2.1.1.2.2.2.2.2.2.2.2.2
  have x12 : X2 12 = I1 12 := hX2'.1 12 rfl
  have i1 : ∀ k, I1 12 k = if k = 4 then I 12 4 + h_lived I m n Ls else I 12 k := by
    intro k
    rw [hI1, px_up_at, hX1 12 (by omega) (by omega)]
    simp only [true_and]
  have i81 : I1 81 = I 81 := hM 81 (by omega)
  have x81 : X2 81 = I 81 := (hX2'.1 81 rfl).trans i81
  refine r_hled base (fun q a b c e => ?_) ?_ (funext fun k => ?_) ?_
  · rw [← hS, px_up_row (by omega), px_up_row (by omega), px_up_row (by omega), px_up_row (by omega)]
  · rw [← hS, px_up_row (by omega), px_up_row (by omega), px_up_row (by omega), px_up_row (by omega)]
    have := base.2.1.1.1
    rw [px_up_row (by omega), px_up_row (by omega), px_up_row (by omega), px_up_row (by omega)] at this
    exact this
  · rw [← hS, px_up_ne (by omega), px_up_at, px_up_at, px_up_ne (by omega), x81, x12, i81]
    simp only [true_and]
    rw [i1, i1, if_pos rfl, e12]
    by_cases f : k = 4
    · rw [if_pos f, if_pos f]
    · rw [if_neg f, if_neg f]
  · have := base.2.2.1.1
    rw [px_up_row (by omega), px_up_row (by omega)] at this
    rw [← hS, px_up_row (by omega), px_up_row (by omega)]
    exact this

