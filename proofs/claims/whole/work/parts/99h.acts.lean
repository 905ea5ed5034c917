/-! acts of the law -/
theorem ac_tr : ∀ k, k < 8 → ∀ a, a < 4 → a_tr (nI k) 40 (nI k) a = m_atr (nI k) (nI a) := by decide +kernel
theorem ac_k8 {P : Nat → Prop} (h0 : P 0) (h1 : P 1) (h2 : P 2) (h3 : P 3) (h4 : P 4) (h5 : P 5) (h6 : P 6) (h7 : P 7) : ∀ k, k < 8 → P k := by
  intro k hk
  have hc : k = 0 ∨ k = 1 ∨ k = 2 ∨ k = 3 ∨ k = 4 ∨ k = 5 ∨ k = 6 ∨ k = 7 := by omega
  rcases hc with e | e | e | e | e | e | e | e <;> rw [e] <;> assumption
theorem ac_k4 {P : Nat → Prop} (h0 : P 0) (h1 : P 1) (h2 : P 2) (h3 : P 3) : ∀ k, k < 4 → P k := by
  intro k hk
  have hc : k = 0 ∨ k = 1 ∨ k = 2 ∨ k = 3 := by omega
  rcases hc with e | e | e | e <;> rw [e] <;> assumption
theorem ac_vl (b x : Int32) : ∀ k, k < 8 → ∀ a, a < 4 → a_vl b (nI k) 40 (nI k) a x = m_av (nI k) b (nI a) x := ac_k8 (ac_k4 rfl rfl rfl rfl) (ac_k4 rfl rfl rfl rfl) (ac_k4 rfl rfl rfl rfl) (ac_k4 rfl rfl rfl rfl) (ac_k4 rfl rfl rfl rfl) (ac_k4 rfl rfl rfl rfl) (ac_k4 rfl rfl rfl rfl) (ac_k4 rfl rfl rfl rfl)
theorem note_eq {I X : px_I} {r : Nat} {b : Int32} (h : I 53 = X 87) : g_note I r b 53 = m_note X r b 87 := by
  unfold g_note m_note
  rw [px_up_row (by omega), px_up_row (by omega)]
  by_cases c : r < 24
  · rw [if_pos c, if_pos c]
    funext k
    rw [px_up_at, px_up_at, h]
    simp only [true_and]
  · rw [if_neg c, if_neg c, h]
theorem notes_eq : ∀ (L : List Int32) (I X : px_I) (r : Nat), I 53 = X 87 → g_notes I r L 53 = m_notes X r L 87 := by
  intro L
  induction L with
  | nil => intro I X r h; exact h
  | cons b L ih => intro I X r h; exact ih _ _ _ (note_eq h)
theorem m_notes_at {k : Nat} (h : k ≠ 53) : ∀ (L : List Int32) (I : px_I) (r : Nat), m_notes I r L 54 k = I 54 k := by
  intro L
  induction L with
  | nil => intro I r; rfl
  | cons b L ih =>
    intro I r
    rw [m_notes, ih, m_note, px_up_ne (by omega)]
    split
    · rw [px_up_ne (by omega)]
    · rfl
theorem r_act {I I2 : px_I} {J : px_J} {m n d u t nb : Nat} {Ls : List l_L} (h : r_all I J m n d u t nb Ls) (hF : ∀ q k, ¬ (q = 51 ∧ (k = 3 ∨ k = 4)) → q ≠ 53 → ¬ (q = 54 ∧ k = 53) → q ≠ 87 → I2 q k = I q k) (h1 : I2 51 3 = I2 54 53) (h2 : I2 53 = I2 87) : r_all I2 J m n d u t nb Ls := by
  obtain ⟨k1, k2, k3, k4, k5, k6, k7, k8, k9⟩ := h
  obtain ⟨b1, b2', b3, b4, b5, b6, b7⟩ := k8
  refine ⟨k1.fr (fun q k a => by unfold f_cnt at a; exact hF q k (by omega) (by omega) (by omega) (by omega)), k2.fr (fun q k a => by unfold f_row at a; exact hF q k (by omega) (by omega) (by omega) (by omega)), k3.fr (fun q k a => by unfold f_val at a; exact hF q k (by omega) (by omega) (by omega) (by omega)), k4.fr (fun q k a => by unfold f_chg at a; exact hF q k (by omega) (by omega) (by omega) (by omega)), k5.fr (fun q k a => by unfold f_img at a; exact hF q k (by omega) (by omega) (by omega) (by omega)), k6.fr (fun q k a => by unfold f_tape at a; exact hF q k (by omega) (by omega) (by omega) (by omega)), k7.fr (fun q k a => by unfold f_law at a; exact hF q k (by omega) (by omega) (by omega) (by omega)), ⟨?_, ?_, b3, ?_, ?_, h1, h2⟩, k9.fr (fun q k a => by unfold f_sh at a; exact hF q k (by omega) (by omega) (by omega) (by omega))⟩
  · rw [hF 51 2 (by omega) (by omega) (by omega) (by omega)]; exact b1
  · rw [hF 54 51 (by omega) (by omega) (by omega) (by omega)]; exact b2'
  · funext k; rw [hF 52 k (by omega) (by omega) (by omega) (by omega), hF 86 k (by omega) (by omega) (by omega) (by omega), b4]
  · intro j hj
    rw [hF 52 j (by omega) (by omega) (by omega) (by omega)]; exact b5 j hj
theorem st_act {l : Launch} {I : px_I} {J : px_J} {b ac x : Int32} (h : r_ex I J) : r_stp l mX11_act mX12_act 84 9 [.int b, .int ac, .int x] I J := by
  obtain ⟨m, n, d, u, t, nb, Ls, h⟩ := h
  have hb := h.2.2.2.2.2.2.2.1
  obtain ⟨b1, b2', b3, b4, b5, b6, b7⟩ := hb
  have cG := c_X11_act (l := l) (I := I) (J := J) (b := b) (ac := ac) (x := x) b5
  have hB := r_isB h (I' := I) (fun _ _ => rfl) b
  have eac : (¬ ac < 0 ∧ ac < 4) ↔ s_within ac 0 3 = true := by
    unfold s_within
    simp only [Bool.and_eq_true, Bool.not_eq_true', decide_eq_false_iff_not]
    have c3 : (3 : Int32).toInt = 3 := by decide
    have c4 : (4 : Int32).toInt = 4 := by decide
    rw [Int32.lt_iff_toInt_lt (x := ac) (y := 4), Int32.lt_iff_toInt_lt (x := 3) (y := ac), c3, c4]
    constructor
    · rintro ⟨a, c⟩; exact ⟨a, by omega⟩
    · rintro ⟨a, c⟩; exact ⟨a, by omega⟩
  by_cases z : m_body I b = true ∧ s_within ac 0 3 = true
  · have zG : g_isB I b = true ∧ ¬ ac < 0 ∧ ac < 4 := by rw [hB, eac]; exact z
    rw [if_pos zG, if_pos zG] at cG
    have hbx : b = nI (ix b) ∧ ix b < nb := by
      have := z.1
      unfold m_body at this
      rw [b2'] at this
      exact w_ix (by omega) this
    have hax := w_ixc (m := 3) (by omega) rfl z.2
    obtain ⟨kk, hkk, ek⟩ := b5 (ix b) (by omega)
    rw [ek, ac_tr kk hkk (ix ac) (by omega), ac_vl b x kk hkk (ix ac) (by omega), ← hax.1] at cG
    generalize hI1 : g_notes (px_up (px_up I 51 3 0) 51 4 b) 0 (m_atr (nI kk) ac) = I1 at cG
    have g1 : ∀ q, q ≠ 51 → q ≠ 53 → I1 q = I q := by
      intro q a c
      rw [← hI1, g_notes_row a c, px_up_row a, px_up_row a]
    have hM : ∀ q, 54 ≤ q → I1 q = I q := fun q a => g1 q (by omega) (by omega)
    have cM := c_X12_act (l := l) (I := I1) (J := J) (b := b) (a := ac) (x := x) (nb := nb) (by rw [hM 54 (by omega)]; exact b2') b3
    have zM : m_body I1 b = true ∧ s_within ac 0 3 = true := by
      refine ⟨?_, z.2⟩
      rw [← r_isB h hM b, hB]; exact z.1
    rw [if_pos zM, if_pos zM, hM 86 (by omega), ← b4, ek] at cM
    refine r_do cG cM rfl ⟨m, n, d, u, t, nb, Ls, r_act h (fun q k c1 c2 c3 c4 => ?_) ?_ ?_⟩
    · by_cases e : q = 54
      · subst e
        rw [m_notes_at (by omega), px_up_ne (by omega), hM 54 (by omega)]
      · rw [m_notes_row e c4, px_up_row e]
        by_cases e2 : q = 51
        · subst e2
          rw [← hI1, g_notes_at (by omega), px_up_ne (by omega), px_up_ne (by omega)]
        · rw [g1 q e2 c2]
    · rw [m_notes_53 _ _ 0 (by rw [px_up_same]; exact nI_0.symm), m_notes_row (by omega) (by omega), px_up_row (by omega), ← hI1, g_notes_at3 (r := 0) (by rw [px_up_ne (by omega), px_up_same]; exact nI_0.symm)]
    · rw [m_notes_row (q := 53) (by omega) (by omega), px_up_row (by omega), ← hI1]
      exact notes_eq _ _ _ _ (by rw [px_up_row (by omega), px_up_row (by omega), px_up_row (by omega), g_notes_row (by omega) (by omega), px_up_row (by omega), px_up_row (by omega)]; exact b7)
  · have zG : ¬ (g_isB I b = true ∧ ¬ ac < 0 ∧ ac < 4) := by rw [hB, eac]; exact z
    rw [if_neg zG, if_neg zG] at cG
    have hM : ∀ q, 54 ≤ q → px_up I 51 3 0 q = I q := fun q a => px_up_row (by omega)
    have cM := c_X12_act (l := l) (I := px_up I 51 3 0) (J := J) (b := b) (a := ac) (x := x) (nb := nb) (by rw [hM 54 (by omega)]; exact b2') b3
    have zM : ¬ (m_body (px_up I 51 3 0) b = true ∧ s_within ac 0 3 = true) := by
      rintro ⟨a, c⟩
      rw [← r_isB h hM b, hB] at a
      exact z ⟨a, c⟩
    rw [if_neg zM, if_neg zM] at cM
    refine r_do cG cM rfl ⟨m, n, d, u, t, nb, Ls, r_act h (fun q k c1 c2 c3 c4 => ?_) ?_ ?_⟩
    · rw [px_up_ne (by omega), px_up_ne (by omega)]
    · rw [px_up_ne (by omega), px_up_same, px_up_same]
    · rw [px_up_row (by omega), px_up_row (by omega), px_up_row (by omega), px_up_row (by omega)]; exact b7

