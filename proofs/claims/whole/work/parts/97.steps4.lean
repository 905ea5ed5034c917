/-! shelves and simple changes of the law -/
theorem cpL_at {J : px_J} {q sp r dp k p i : Nat} : px_cpL J q sp r dp k p i = if p = r ∧ dp ≤ i ∧ i < dp + k then J q (sp + (i - dp)) else J p i := rfl
theorem st_shift {l : Launch} {I : px_I} {J : px_J} {x i y j v : Int32} (h : r_ex I J) : r_stp l mX11_shift mX12_shift 4 2 [.int x, .int i, .int y, .int j, .int v] I J := by
  obtain ⟨m, n, d, u, t, nb, Ls, h⟩ := h
  have hall := h
  refine Ct.mono (c_X11_shift h.rows) ?_
  rintro r I1 J1 ⟨eG, hI1, hJ1⟩
  rw [hI1]
  refine ⟨_, eG, (c_X12_shift (J := J1) (h.szok (fun _ _ => rfl))).mono ?_⟩
  rintro r' I2 J2 ⟨rfl, hM⟩
  by_cases hxy : s_within x 0 5 = true ∧ s_within y 0 5 = true
  · obtain ⟨hx, hy⟩ := hxy
    have hs := h.s1 hx
    have ho := h.s1 hy
    have hxx := w_ixc (m := 5) (by omega) rfl hx
    have hyy := w_ixc (m := 5) (by omega) rfl hy
    obtain ⟨p1, p2⟩ := s_shift_pair hs ho h.nb hx hy
    rcases hM with ⟨_, ⟨a, b, c⟩ | ⟨a, ⟨b, c⟩ | ⟨b, c, e⟩⟩⟩ | ⟨a, _⟩
    · have e1 : g_refPair I2 x y = -11 := by rw [p1, if_pos a]
      rw [e1, if_neg (fun q => absurd q.1 (by decide))] at hJ1
      rw [e1, c, hJ1]
      exact ⟨b, m, n, d, u, t, nb, Ls, hall⟩
    · obtain ⟨g1, g2, g3, g4, g5⟩ := p2 b a
      have e1 : g_refPair I2 x y = 0 := by rw [p1, if_neg a, if_pos b]
      have hsg : m_sg I2 x i y j v ↔ (g_hasRun I2 x i v = true ∧ g_hasRun I2 y j v = true) := by
        unfold m_sg g_hasRun g_lenOf
        rw [g1, g2, if_pos rfl, if_pos rfl, g3, g4]
        simp only [Bool.and_eq_true, Bool.not_eq_true', decide_eq_false_iff_not]
        constructor
        · rintro ⟨a1, a2, a3, a4, a5⟩; exact ⟨⟨⟨a2, a1⟩, a4⟩, ⟨a3, a1⟩, a5⟩
        · rintro ⟨⟨⟨a2, a1⟩, a4⟩, ⟨a3, _⟩, a5⟩; exact ⟨a1, a2, a3, a4, a5⟩
      rcases c with ⟨sg, c, c2⟩ | ⟨sg, c, c2⟩
      · have hh := hsg.mp sg
        have hz := hs.1
        have hzo := ho.1
        rw [e1, if_pos ⟨rfl, hh⟩, g_copyRun, if_pos ⟨g1, g2, hh⟩] at hJ1
        rw [e1, if_pos rfl, if_pos hh]
        refine ⟨c, m, n, d, u, t, nb, Ls, h.1, h.2.1, h.2.2.1, h.2.2.2.1, h.2.2.2.2.1, h.2.2.2.2.2.1, h.2.2.2.2.2.2.1, h.2.2.2.2.2.2.2.1, fun s hss => ?_⟩
        have rx := run_ix hz.2 sg.1 sg.2.1 (by rw [← hz.1]; exact sg.2.2.2.1)
        have ry := run_ix hzo.2 sg.1 sg.2.2.1 (by rw [← hzo.1]; exact sg.2.2.2.2)
        have q22 : ∀ k, J2 22 k = if ix y * 60 + ix j ≤ k ∧ k < ix y * 60 + ix j + ix v then J 22 (ix x * 60 + ix i + (k - (ix y * 60 + ix j))) else J 22 k := by
          intro k
          rw [c2, cpL_at, if_neg (by omega), cpL_at, if_neg (by omega), hJ1, cpL_at]
          simp only [true_and]
        have q90 : ∀ k, J2 90 k = if 60 * ix y + ix j ≤ k ∧ k < 60 * ix y + ix j + ix v then J 90 (60 * ix x + ix i + (k - (60 * ix y + ix j))) else J 90 k := by
          intro k
          have z90 : ∀ k, J1 90 k = J 90 k := by intro k; rw [hJ1, cpL_at, if_neg (by omega)]
          rw [c2, cpL_at]
          simp only [true_and]
          split
          · rw [cpL_at, if_pos (by omega), z90]; congr 1; omega
          · rw [cpL_at, if_neg (by omega), z90]
        by_cases e : s = ix y
        · subst e
          refine ⟨ho.1, ?_⟩
          rcases ho.2 with ⟨w, _⟩ | ⟨t', ht, w1, w2, w3, q, r⟩ | ⟨bb, hb, w, _, _⟩
          · rw [g_row, w] at g2; simp at g2
          · rcases hs.2 with ⟨w, _⟩ | ⟨t2, ht2, v1, v2, v3, q', r'⟩ | ⟨bb, hb, w, _, _⟩
            · rw [g_row, w] at g1; simp at g1
            · have et : t2 = t' := (qI_inj (by omega) (by omega)).mp (v1.symm.trans (g5.trans w1))
              subst et
              refine Or.inr (Or.inl ⟨t2, ht, w1, w2, w3, fun k hk => ?_, fun e0 k hk => ?_⟩)
              · rw [q22, q90]
                by_cases f : ix j ≤ k ∧ k < ix j + ix v
                · rw [if_pos (by omega), if_pos (by omega)]
                  have := q' (ix i + (k - ix j)) (by omega)
                  rw [show ix x * 60 + ix i + (ix y * 60 + k - (ix y * 60 + ix j)) = ix x * 60 + (ix i + (k - ix j)) by omega, this]
                  congr 1; omega
                · rw [if_neg (by omega), if_neg (by omega)]; exact q k hk
              · rw [q90]
                by_cases f : ix j ≤ k ∧ k < ix j + ix v
                · rw [if_pos (by omega)]
                  have := r' e0 (ix i + (k - ix j)) (by omega)
                  rw [show 60 * ix x + ix i + (60 * ix y + k - (60 * ix y + ix j)) = 60 * ix x + (ix i + (k - ix j)) by omega]
                  exact this
                · rw [if_neg (by omega)]; exact r e0 k hk
            · rw [g_row, w] at g1; simp at g1
          · rw [g_row, w] at g2; simp at g2
        · refine s1_ne (h.2.2.2.2.2.2.2.2 s hss) (fun k hk => ?_) (fun k hk => ?_)
          · rw [q22, if_neg (by omega)]
          · rw [q90, if_neg (by omega)]
      · have hh : ¬ (g_hasRun I2 x i v = true ∧ g_hasRun I2 y j v = true) := fun q => sg (hsg.mpr q)
        rw [e1, if_neg (fun q => hh q.2)] at hJ1
        rw [e1, if_pos rfl, if_neg hh, c2, hJ1]
        exact ⟨c, m, n, d, u, t, nb, Ls, hall⟩
    · have e1 : g_refPair I2 x y = -12 := by rw [p1, if_neg a, if_neg b]
      rw [e1, if_neg (fun q => absurd q.1 (by decide))] at hJ1
      rw [e1, e, hJ1]
      exact ⟨c, m, n, d, u, t, nb, Ls, hall⟩
    · exact absurd ⟨hx, hy⟩ a
  · have e1 : g_refPair I2 x y = -1 := by
      unfold g_refPair
      rw [if_pos]
      rw [shelf_w, shelf_w]
      cases a : s_within x 0 5
      · exact Or.inl rfl
      · cases b : s_within y 0 5
        · exact Or.inr rfl
        · exact absurd ⟨a, b⟩ hxy
    rw [e1, if_neg (fun q => absurd q.1 (by decide))] at hJ1
    rcases hM with ⟨a, _⟩ | ⟨_, b, c⟩
    · exact absurd a hxy
    · rw [e1, c, hJ1]
      exact ⟨b, m, n, d, u, t, nb, Ls, hall⟩
theorem s1_of {I I' : px_I} {J J' : px_J} {nb s : Nat} (h : r_s1 I J nb s) (e20 : I' 20 s = I 20 s) (e21 : I' 21 s = I 21 s) (e88 : I' 88 s = I 88 s) (e89 : I' 89 s = I 89 s) (h22 : ∀ k, k < 60 → J' 22 (s * 60 + k) = J 22 (s * 60 + k)) (h90 : ∀ k, k < 60 → J' 90 (60 * s + k) = J 90 (60 * s + k)) : r_s1 I' J' nb s := by
  have h' := s1_ne (J' := J') h h22 h90
  unfold r_s1 at h' ⊢
  rw [e20, e21, e88, e89]
  exact h'
theorem r_shelf {I I' : px_I} {J J' : px_J} {m n d u t nb : Nat} {Ls : List l_L} (h : r_all I J m n d u t nb Ls) (hF : ∀ q k, ¬ f_sh q k → I' q k = I q k) (hs : r_sh I' J' nb) : r_all I' J' m n d u t nb Ls := by
  have e : ∀ q, q ≠ 20 → q ≠ 21 → q ≠ 88 → q ≠ 89 → ∀ k, I' q k = I q k := fun q a b c d k => hF q k (by unfold f_sh; omega)
  refine ⟨h.1.fr (fun q k a => ?_), h.2.1.fr (fun q k a => ?_), h.2.2.1.fr (fun q k a => ?_), h.2.2.2.1.fr (fun q k a => ?_), h.2.2.2.2.1.fr (fun q k a => ?_), h.2.2.2.2.2.1.fr (fun q k a => ?_), h.2.2.2.2.2.2.1.fr (fun q k a => ?_), h.2.2.2.2.2.2.2.1.fr (fun q k a => ?_), hs⟩
  · unfold f_cnt at a; exact e q (by omega) (by omega) (by omega) (by omega) k
  · unfold f_row at a; exact e q (by omega) (by omega) (by omega) (by omega) k
  · unfold f_val at a; exact e q (by omega) (by omega) (by omega) (by omega) k
  · unfold f_chg at a; exact e q (by omega) (by omega) (by omega) (by omega) k
  · unfold f_img at a; exact e q (by omega) (by omega) (by omega) (by omega) k
  · unfold f_tape at a; exact e q (by omega) (by omega) (by omega) (by omega) k
  · unfold f_law at a; exact e q (by omega) (by omega) (by omega) (by omega) k
  · unfold f_bod at a; exact e q (by omega) (by omega) (by omega) (by omega) k
theorem st_keep {l : Launch} {I : px_I} {J : px_J} {x b : Int32} (h : r_ex I J) : r_stp l mX11_keep mX12_keep 2 2 [.int x, .int b] I J := by
  obtain ⟨m, n, d, u, t, nb, Ls, h⟩ := h
  have hM : r_same54 I (g_keep I x b) := by
    intro q a
    unfold g_keep
    split
    · split
      · rw [px_up_row (by omega)]
      · split
        · rw [px_up_row (by omega), px_up_row (by omega)]
        · rfl
    · rfl
  have hb := r_isB h hM b
  refine r_do c_X11_keep c_X12_keep ?_ ?_
  · rw [shelf_w, hb]
  · refine ⟨m, n, d, u, t, nb, Ls, ?_⟩
    by_cases hx : s_within x 0 5 = true
    · have hsx : s_shelf x = true := (shelf_w x).trans hx
      have hs := h.s1 hx
      by_cases b1 : b = -1
      · rw [if_pos ⟨hx, Or.inl b1⟩, g_keep, if_pos hsx, if_pos b1]
        refine r_shelf h (fun q k a => ?_) (fun s hss => ?_)
        · unfold f_sh at a; rw [px_up_ne (by omega), px_up_ne (by omega)]
        · by_cases e : s = ix x
          · subst e
            refine ⟨by rw [px_up_ne (by omega), px_up_ne (by omega)]; exact hs.1, Or.inl ⟨by rw [px_up_ne (by omega), px_up_same], by rw [px_up_same, b1]⟩⟩
          · exact s1_of (h.2.2.2.2.2.2.2.2 s hss) (by rw [px_up_ne (by omega), px_up_ne (by omega)]) (by rw [px_up_ne (by omega), px_up_ne (by omega)]) (by rw [px_up_ne (by omega), px_up_ne (by omega)]) (by rw [px_up_ne (by omega), px_up_ne (by omega)]) (fun _ _ => rfl) (fun _ _ => rfl)
      · by_cases b2 : m_body (g_keep I x b) b = true
        · rw [if_pos ⟨hx, Or.inr b2⟩]
          have b3 : g_isB I b = true := by rw [hb]; exact b2
          have bb : b = nI (ix b) ∧ ix b < nb := by
            unfold m_body at b2
            rw [hM 54 (by omega), h.2.2.2.2.2.2.2.1.2.1] at b2
            exact w_ix (by have := h.nb; omega) b2
          rw [g_keep, if_pos hsx, if_neg b1, if_pos b3]
          refine r_shelf h (fun q k a => ?_) (fun s hss => ?_)
          · unfold f_sh at a; rw [px_up_ne (by omega), px_up_ne (by omega), px_up_ne (by omega)]
          · by_cases e : s = ix x
            · subst e
              refine ⟨by rw [px_up_ne (by omega), px_up_ne (by omega), px_up_ne (by omega)]; exact hs.1, Or.inr (Or.inr ⟨ix b, bb.2, by rw [px_up_ne (by omega), px_up_ne (by omega), px_up_same], by rw [px_up_ne (by omega), px_up_same]; exact bb.1, by rw [px_up_same]; exact bb.1⟩)⟩
            · exact s1_of (h.2.2.2.2.2.2.2.2 s hss) (by rw [px_up_ne (by omega), px_up_ne (by omega), px_up_ne (by omega)]) (by rw [px_up_ne (by omega), px_up_ne (by omega), px_up_ne (by omega)]) (by rw [px_up_ne (by omega), px_up_ne (by omega), px_up_ne (by omega)]) (by rw [px_up_ne (by omega), px_up_ne (by omega), px_up_ne (by omega)]) (fun _ _ => rfl) (fun _ _ => rfl)
        · rw [if_neg (fun q => q.2.elim b1 b2), g_keep, if_pos hsx, if_neg b1, if_neg (by rw [hb]; exact b2)]
          exact h
    · rw [if_neg (fun q => hx q.1), g_keep, if_neg (by rw [shelf_w]; exact hx)]
      exact h
theorem zero_at {J : px_J} {s n p i : Nat} : g_zero J s n p i = if p = 22 ∧ s * 60 ≤ i ∧ i < s * 60 + n then 0 else J p i := by
  induction n with
  | zero => rw [if_neg (by omega)]; rfl
  | succ n ih =>
    unfold g_zero
    rw [upL_at, ih]
    by_cases e : p = 22 ∧ i = s * 60 + n
    · rw [if_pos e, if_pos (by omega)]
    · rw [if_neg e]
      by_cases f : p = 22 ∧ s * 60 ≤ i ∧ i < s * 60 + n
      · rw [if_pos f, if_pos (by omega)]
      · rw [if_neg f, if_neg (by omega)]
theorem m2_nI (t : Int32) : -2 - t = -2 - t := rfl
theorem st_row {l : Launch} {I : px_I} {J : px_J} {x ty v : Int32} (h : r_ex I J) : r_stp l mX11_row mX12_row 2 2 [.int x, .int ty, .int v] I J := by
  obtain ⟨m, n, d, u, t, nb, Ls, h⟩ := h
  refine Ct.mono c_X11_row ?_
  intro r I1 J1 hG
  rw [shelf_w] at hG
  by_cases z : s_within x 0 5 = true ∧ s_within ty 0 4 = true ∧ ¬ 60 < v
  · rw [if_pos z] at hG
    by_cases w : v < 0
    · rw [if_pos w] at hG
      obtain ⟨e, rfl, rfl⟩ := hG
      refine ⟨_, e, c_X12_row.mono ?_⟩
      intro r' I2 J2 hM
      rw [if_pos z, if_pos w] at hM
      obtain ⟨e', rfl, rfl⟩ := hM
      exact ⟨e', m, n, d, u, t, nb, Ls, h⟩
    · rw [if_neg w] at hG
      obtain ⟨e, hI1, hJ1⟩ := hG
      refine ⟨_, e, c_X12_row.mono ?_⟩
      intro r' I2 J2 hM
      rw [if_pos z, if_neg w] at hM
      obtain ⟨e', hI2, hJ2⟩ := hM
      refine ⟨e', m, n, d, u, t, nb, Ls, ?_⟩
      obtain ⟨hx, hty, hv⟩ := z
      have hs := h.s1 hx
      have htt := w_ixc (m := 4) (by omega) rfl hty
      have hxx := w_ixc (m := 5) (by omega) rfl hx
      have ev : v = nI (ix v) := nI_ix w
      have lv : ix v ≤ 60 := by
        have := @Int32.lt_iff_toInt_lt
        rw [Int32.lt_iff_toInt_lt] at hv w
        have c60 : (60 : Int32).toInt = 60 := by decide
        rw [c60] at hv
        show v.toInt.toNat ≤ 60
        omega
      have hF : ∀ q k, ¬ (k = ix x ∧ f_sh q k) → I2 q k = I q k := by
        intro q k a
        unfold f_sh at a
        rw [hI2, px_up_ne (by omega), px_up_ne (by omega), hI1, px_up_ne (by omega), px_up_ne (by omega)]
      refine r_shelf h (fun q k a => hF q k (fun w => a w.2)) (fun s hss => ?_)
      by_cases es : s = ix x
      · subst es
        have k20 : I2 20 (ix x) = ty := by rw [hI2, px_up_ne (by omega), px_up_ne (by omega), hI1, px_up_ne (by omega), px_up_same]
        have k21 : I2 21 (ix x) = v := by rw [hI2, px_up_ne (by omega), px_up_ne (by omega), hI1, px_up_same]
        have k88 : I2 88 (ix x) = -2 - ty := by rw [hI2, px_up_ne (by omega), px_up_same]
        have k89 : I2 89 (ix x) = v := by rw [hI2, px_up_same]
        have j90 : ∀ k, k < 60 → J2 90 (60 * ix x + k) = 0 := by
          intro k hk
          rw [hJ2]
          show (if _ then _ else _) = _
          rw [if_pos (by omega)]
        refine ⟨by rw [k89]; exact ⟨ev, lv⟩, Or.inr (Or.inl ⟨ix ty, by omega, by rw [k20]; exact htt.1, by rw [k88, ← htt.1], by rw [k21, k89], fun k hk => ?_, fun _ k hk => ?_⟩)⟩
        · rw [k89] at hk
          have e22 : J2 22 (ix x * 60 + k) = J1 22 (ix x * 60 + k) := by
            rw [hJ2]
            show (if _ then _ else _) = _
            rw [if_neg (by omega)]
          rw [e22, hJ1, zero_at, if_pos (by omega), j90 k (by omega)]
        · rw [k89] at hk
          rw [j90 k (by omega)]; rfl
      · have hh := h.2.2.2.2.2.2.2.2 s hss
        refine s1_of hh (hF _ _ (fun a => es a.1)) (hF _ _ (fun a => es a.1)) (hF _ _ (fun a => es a.1)) (hF _ _ (fun a => es a.1)) (fun k hk => ?_) (fun k hk => ?_)
        · rw [hJ2]
          show (if _ then _ else _) = _
          rw [if_neg (by omega), hJ1, zero_at, if_neg (by omega)]
        · rw [hJ2]
          show (if _ then _ else _) = _
          rw [if_neg (by omega), hJ1, zero_at, if_neg (by omega)]
  · rw [if_neg z] at hG
    obtain ⟨e, rfl, rfl⟩ := hG
    refine ⟨_, e, c_X12_row.mono ?_⟩
    intro r' I2 J2 hM
    rw [if_neg z] at hM
    obtain ⟨e', rfl, rfl⟩ := hM
    exact ⟨e', m, n, d, u, t, nb, Ls, h⟩

