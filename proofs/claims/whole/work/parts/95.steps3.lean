/-! shelves of the law -/
theorem r_do {l : Launch} {G M : px_M} {dg dm : Nat} {as : List Value} {I I1 I2 : px_I} {J J1 J2 : px_J} {x y : Int32} (cG : Ct l G dg (.ref 0 :: as) I J (px_qi x I1 J1)) (cM : Ct l M dm (.ref 54 :: as) I1 J1 (px_qi y I2 J2)) (e : y = x) (h : r_ex I2 J2) : r_stp l G M dg dm as I J := by
  subst e
  refine cG.mono ?_
  rintro r I' J' ⟨rfl, rfl, rfl⟩
  refine ⟨_, rfl, cM.mono ?_⟩
  rintro r I' J' ⟨rfl, rfl, rfl⟩
  exact ⟨rfl, h⟩
/-- a question whose answer is a long -/
def r_stpL (l : Launch) (G M : px_M) (dg dm : Nat) (as : List Value) (I : px_I) (J : px_J) : Prop := Ct l G dg (.ref 0 :: as) I J (fun r I1 J1 => ∃ x, r = some (.long x) ∧ Ct l M dm (.ref 54 :: as) I1 J1 (fun r' I2 J2 => r' = some (.long x) ∧ r_ex I2 J2))
theorem r_pair {I I' : px_I} {J : px_J} {m n d u t nb : Nat} {Ls : List l_L} {x : Int32} (h : r_all I J m n d u t nb Ls) (hM : r_same54 I I') (hx : s_within x 0 5 = true) : r_s1 I J nb (ix x) ∧ I' 88 = I 88 ∧ I' 89 = I 89 ∧ s_shelf x = true := ⟨h.s1 hx, hM 88 (by omega), hM 89 (by omega), (shelf_w x).trans hx⟩
theorem t_fact : ∀ t, t < 5 → nI t < 5 ∧ ¬ nI t = 6 ∧ ¬ nI t = 5 ∧ -2 - (-2 - nI t) = nI t := by decide +kernel
theorem q_place {I I' : px_I} {J : px_J} {nb : Nat} {x i : Int32} (hs : r_s1 I J nb (ix x)) (hnb : nb ≤ 50) (h88 : I' 88 = I 88) (h89 : I' 89 = I 89) (hx : s_within x 0 5 = true) : g_refPlace I x i = m_why I' x i ∧ (g_refPlace I x i = 0 ↔ ¬ m_why I' x i < 0) ∧ (g_refPlace I x i = 0 → g_row I x = true ∧ g_hasRun I x i 1 = true ∧ (i = nI (ix i) ∧ ix i < ix (I 89 (ix x))) ∧ I 20 (ix x) = -2 - I 88 (ix x)) := by
  have hsx : s_shelf x = true := (shelf_w x).trans hx
  have hz := hs.1
  unfold g_refPlace g_refRow g_empty g_hasRun g_lenOf g_row m_why
  rw [h88, h89, hsx, if_pos hx]
  rcases hs.2 with ⟨a, b⟩ | ⟨t, ht, a, b, c, _⟩ | ⟨bb, hb, a, _, b⟩
  · rw [a, b]
    refine ⟨by simp, by simp, fun e => ?_⟩
    exact absurd e (by simp)
  · rw [a, b, c]
    obtain ⟨z1, z2, z3⟩ := nI_m2 t ht
    obtain ⟨y1, y2, y3, y4⟩ := t_fact t ht
    rw [if_neg z1, if_pos z3, y4]
    have e1 : (!decide (i < 0) && !decide ((1 : Int32) < 0) && !decide (I 89 (ix x) - 1 < i)) = s_within i 0 (I 89 (ix x) - 1) := by
      unfold s_within
      rw [decide_eq_false (show ¬ (1 : Int32) < 0 by decide)]
      simp
    rw [if_neg (show ¬ true = false by decide), if_neg (show ¬ (!true || decide (nI t = 6)) = true by rw [decide_eq_false y2]; decide), if_pos (show (true && decide (nI t < 5)) = true by rw [decide_eq_true y1]; rfl), if_pos rfl, if_pos (show (true && decide (nI t < 5)) = true by rw [decide_eq_true y1]; rfl), e1]
    refine ⟨rfl, ?_, fun e => ?_⟩
    · by_cases w : s_within i 0 (I 89 (ix x) - 1) = true
      · rw [if_pos w]; exact ⟨fun _ => by decide, fun _ => rfl⟩
      · rw [if_neg w]; exact ⟨fun q => absurd q (by decide), fun q => absurd (by decide) q⟩
    · by_cases w : s_within i 0 (I 89 (ix x) - 1) = true
      · refine ⟨by rw [decide_eq_true y1]; rfl, w, ?_, rfl⟩
        exact w_ix (m := ix (I 89 (ix x))) (by omega) (by rw [← hz.1]; exact w)
      · rw [if_neg w] at e; exact absurd e (by decide)
  · rw [a, b]
    obtain ⟨z1, z2, z3⟩ := nI_ne (b := bb) (by omega)
    rw [if_neg z1, if_neg z3]
    refine ⟨by simp, by simp, fun e => ?_⟩
    exact absurd e (by simp)
theorem q_place_no {I I' : px_I} {x i : Int32} (hx : s_within x 0 5 = false) : g_refPlace I x i = -1 ∧ m_why I' x i = -1 := by
  have hsx : s_shelf x = false := (shelf_w x).trans hx
  unfold g_refPlace g_refRow m_why
  rw [hsx, hx]
  exact ⟨rfl, rfl⟩
theorem cut_eq {t : Nat} (ht : t < 5) (v : Int64) : s_cut (nI t) v = m_cut (nI t) v := by
  have hc : t = 0 ∨ t = 1 ∨ t = 2 ∨ t = 3 ∨ t = 4 := by omega
  rcases hc with rfl | rfl | rfl | rfl | rfl <;> rfl
theorem st_element {l : Launch} {I : px_I} {J : px_J} {x i : Int32} (h : r_ex I J) : r_stpL l mX11_element mX12_element 4 3 [.int x, .int i] I J := by
  obtain ⟨m, n, d, u, t, nb, Ls, h⟩ := h
  refine Ct.mono (c_X11_element h.rows) ?_
  rintro r I1 J1 ⟨e, rfl, rfl⟩
  refine ⟨_, e, (c_X12_element (h.szok (fun _ _ => rfl))).mono ?_⟩
  rintro r' I2 J2 ⟨e', rfl, rfl⟩
  refine ⟨e'.trans (congrArg (fun v => some (Value.long v)) ?_), m, n, d, u, t, nb, Ls, h⟩
  by_cases hx : s_within x 0 5 = true
  · have hs := h.s1 hx
    obtain ⟨a1, a2, a3⟩ := q_place (i := i) hs h.nb (I' := I2) rfl rfl hx
    by_cases w : g_refPlace I2 x i = 0
    · obtain ⟨b1, b2, b3, _⟩ := a3 w
      rw [if_neg (a2.mp w), if_pos w, g_cell, if_pos ⟨b1, b2⟩]
      rcases hs.2 with ⟨a, b⟩ | ⟨t', ht, a, b, c, q, _⟩ | ⟨bb, hb, a, _, b⟩
      · rw [g_row, a] at b1; simp at b1
      · exact (q (ix i) b3.2).symm
      · rw [g_row, a] at b1; simp at b1
    · rw [if_pos (Decidable.byContradiction (fun q => w (a2.mpr q))), if_neg w]
  · obtain ⟨a1, a2⟩ := q_place_no (I := I2) (I' := I2) (i := i) (w_no hx)
    rw [a1, a2]; rfl
theorem s1_ne {I : px_I} {J J' : px_J} {nb s : Nat} (h : r_s1 I J nb s) (h22 : ∀ k, k < 60 → J' 22 (s * 60 + k) = J 22 (s * 60 + k)) (h90 : ∀ k, k < 60 → J' 90 (60 * s + k) = J 90 (60 * s + k)) : r_s1 I J' nb s := by
  refine ⟨h.1, ?_⟩
  rcases h.2 with a | ⟨t, ht, a, b, c, q, r⟩ | a
  · exact Or.inl a
  · refine Or.inr (Or.inl ⟨t, ht, a, b, c, fun k hk => ?_, fun e k hk => ?_⟩)
    · have := h.1.2
      rw [h22 k (by omega), h90 k (by omega)]; exact q k hk
    · have := h.1.2
      rw [h90 k (by omega)]; exact r e k hk
  · exact Or.inr (Or.inr a)
theorem upL_at {J : px_J} {q k p i : Nat} {v : Int64} : px_upL J q k v p i = if p = q ∧ i = k then v else J p i := rfl
theorem byte_rt (v : Int64) : (v.toInt32.toInt8.toInt32.toInt64).toInt32.toInt64 = v.toInt32.toInt8.toInt32.toInt64 := by
  simp
theorem st_put {l : Launch} {I : px_I} {J : px_J} {x i : Int32} {v : Int64} (h : r_ex I J) : r_stp l mX11_put mX12_put 4 3 [.int x, .int i, .long v] I J := by
  obtain ⟨m, n, d, u, t, nb, Ls, h⟩ := h
  refine r_do (c_X11_put h.rows) (c_X12_put (h.szok (fun _ _ => rfl))) ?_ ?_
  · by_cases hx : s_within x 0 5 = true
    · obtain ⟨a1, a2, a3⟩ := q_place (i := i) (h.s1 hx) h.nb (I' := I) rfl rfl hx
      by_cases w : g_refPlace I x i = 0
      · rw [if_neg (a2.mp w), if_pos w]
      · rw [if_pos (Decidable.byContradiction (fun q => w (a2.mpr q))), if_neg w, a1]
    · obtain ⟨a1, a2⟩ := q_place_no (I := I) (I' := I) (i := i) (w_no hx)
      rw [a1, a2]; rfl
  · refine ⟨m, n, d, u, t, nb, Ls, ?_⟩
    by_cases hx : s_within x 0 5 = true
    · have hs := h.s1 hx
      have hxx := w_ixc (m := 5) (by omega) rfl hx
      obtain ⟨a1, a2, a3⟩ := q_place (i := i) hs h.nb (I' := I) rfl rfl hx
      by_cases w : g_refPlace I x i = 0
      · obtain ⟨b1, b2, b3, b4⟩ := a3 w
        have hz := hs.1.2
        rw [if_neg (a2.mp w), if_pos w, g_setCell, if_pos ⟨b1, b2⟩, ← b4]
        refine ⟨h.1, h.2.1, h.2.2.1, h.2.2.2.1, h.2.2.2.2.1, h.2.2.2.2.2.1, h.2.2.2.2.2.2.1, h.2.2.2.2.2.2.2.1, fun s hss => ?_⟩
        by_cases e : s = ix x
        · subst e
          refine ⟨hs.1, ?_⟩
          rcases hs.2 with ⟨a, b⟩ | ⟨t', ht, a, b, c, q, r⟩ | ⟨bb, hb, a, _, b⟩
          · rw [g_row, a] at b1; simp at b1
          · rw [a]
            refine Or.inr (Or.inl ⟨t', ht, rfl, b, c, fun k hk => ?_, fun e0 k hk => ?_⟩)
            · rw [upL_at, if_neg (by omega), upL_at, upL_at]
              by_cases ek : k = ix i
              · rw [if_pos ⟨rfl, by omega⟩, if_pos ⟨rfl, by omega⟩]; exact cut_eq ht v
              · rw [if_neg (by omega), if_neg (by omega), upL_at, if_neg (by omega)]; exact q k hk
            · rw [upL_at, upL_at]
              by_cases ek : k = ix i
              · rw [if_pos ⟨rfl, by omega⟩, e0]; exact byte_rt v
              · rw [if_neg (by omega), if_neg (by omega)]; exact r e0 k hk
          · rw [g_row, a] at b1; simp at b1
        · refine s1_ne (h.2.2.2.2.2.2.2.2 s hss) (fun k hk => ?_) (fun k hk => ?_)
          · rw [upL_at, if_neg (by omega), upL_at, if_neg (by omega)]
          · rw [upL_at, if_neg (by omega), upL_at, if_neg (by omega)]
      · rw [if_pos (Decidable.byContradiction (fun q => w (a2.mpr q))), if_neg w]; exact h
    · obtain ⟨a1, a2⟩ := q_place_no (I := I) (I' := I) (i := i) (w_no hx)
      rw [a1, a2]; exact h

