/-! places and their values, as both tell them -/
theorem r_all.pl {I I' : px_I} {J : px_J} {m n d u t nb : Nat} {Ls : List l_L} (h : r_all I J m n d u t nb Ls) (hM : r_same54 I I') (x w : Int32) : g_there I x w = m_pl I' x w ∧ m_pl I' x w = r_pl m n x w := by
  have e2 : m_pl I' x w = r_pl m n x w := by
    unfold m_pl r_pl m_one m_joy
    rw [hM 54 (by omega), h.1.2.1, h.1.2.2.2.2.1]
  refine ⟨?_, e2⟩
  have c0 : (0 : Int32).toInt = 0 := by decide
  have c1 : (1 : Int32).toInt = 1 := by decide
  have c7 : (7 : Int32).toInt = 7 := by decide
  have c8 : (8 : Int32).toInt = 8 := by decide
  have c11 : (11 : Int32).toInt = 11 := by decide
  unfold g_there m_pl
  rw [r_isP h hM, r_isJ h hM]
  by_cases w0 : w = 0
  · subst w0; rfl
  · have n0 : ¬ w.toInt = 0 := fun q => w0 (Int32.toInt_inj.mp (q.trans c0.symm))
    rw [if_neg w0, if_neg w0]
    unfold s_within
    simp only [Int32.lt_iff_toInt_lt, c0, c1, c7, c8, c11]
    by_cases a : w.toInt < 0 ∨ 11 < w.toInt
    · rw [if_pos a]
      have z1 : (!decide (w.toInt < 1) && !decide (7 < w.toInt)) = false := by simp; omega
      have z2 : (!decide (w.toInt < 8) && !decide (11 < w.toInt)) = false := by simp; omega
      rw [z1, z2, if_neg (by decide)]; rfl
    · rw [if_neg a]
      by_cases b : w.toInt < 8
      · have z1 : (!decide (w.toInt < 1) && !decide (7 < w.toInt)) = true := by simp; omega
        rw [if_pos b, z1, if_pos rfl]
      · have z1 : (!decide (w.toInt < 1) && !decide (7 < w.toInt)) = false := by simp; omega
        have z2 : (!decide (w.toInt < 8) && !decide (11 < w.toInt)) = true := by simp; omega
        rw [if_neg b, z1, z2, if_neg (by decide)]; rfl
theorem r_pl_at {m n : Nat} {x w : Int32} (hm7 : m ≤ 7) (hn10 : n ≤ 10) (h : r_pl m n x w = true) : m_at x w := by
  unfold r_pl at h
  by_cases w0 : w = 0
  · rw [if_pos w0] at h
    have := w_ix (m := m) (by omega) h
    exact Or.inl ⟨w0, this.1, by omega⟩
  · rw [if_neg w0] at h
    by_cases w1 : s_within w 1 7 = true
    · rw [if_pos w1] at h
      have hx := w_ix (m := n) (by omega) h
      have hw := w_1ix (c := 7) (by omega) rfl w1
      refine Or.inr (Or.inl ⟨?_, hx.1, by omega⟩)
      have hc : ix w = 0 ∨ ix w = 1 ∨ ix w = 2 ∨ ix w = 3 ∨ ix w = 4 ∨ ix w = 5 ∨ ix w = 6 ∨ ix w = 7 := by omega
      rcases hc with e | e | e | e | e | e | e | e <;> rw [e] at hw
      · exact absurd (hw.1.trans nI_0) w0
      · exact Or.inl hw.1
      · exact Or.inr (Or.inl hw.1)
      · exact Or.inr (Or.inr (Or.inl hw.1))
      · exact Or.inr (Or.inr (Or.inr (Or.inl hw.1)))
      · exact Or.inr (Or.inr (Or.inr (Or.inr (Or.inl hw.1))))
      · exact Or.inr (Or.inr (Or.inr (Or.inr (Or.inr (Or.inl hw.1)))))
      · exact Or.inr (Or.inr (Or.inr (Or.inr (Or.inr (Or.inr hw.1)))))
    · rw [if_neg w1] at h
      simp only [Bool.and_eq_true, decide_eq_true_eq] at h
      refine Or.inr (Or.inr ⟨?_, h.2⟩)
      have h1 := h.1
      have hn : ¬ w < 0 := by
        intro q
        unfold s_within at h1
        simp at h1
        have c8 : (8 : Int32).toInt = 8 := by decide
        have c0 : (0 : Int32).toInt = 0 := by decide
        have h2 := h1.1
        rw [Int32.lt_iff_toInt_lt] at q
        have h3 : ¬ w < 8 := by first | exact h2 | exact Int32.not_lt.mpr h2
        rw [Int32.lt_iff_toInt_lt] at h3
        omega
      have hw := w_ixc (m := 11) (by omega) (b := 11) rfl (show s_within w 0 11 = true by unfold s_within at h1 ⊢; rw [decide_eq_false hn]; simp only [Bool.and_eq_true] at h1; rw [h1.2]; rfl)
      have h8 : 8 ≤ ix w := by
        refine Nat.le_of_not_lt (fun q => ?_)
        have hk : ∀ k, k < 8 → s_within (nI k) 8 11 = false := by decide +kernel
        have := hk (ix w) q
        rw [← hw.1, h1] at this
        exact absurd this (by decide)
      have hc : ix w = 8 ∨ ix w = 9 ∨ ix w = 10 ∨ ix w = 11 := by omega
      rcases hc with e | e | e | e <;> rw [e] at hw
      · exact Or.inl hw.1
      · exact Or.inr (Or.inl hw.1)
      · exact Or.inr (Or.inr (Or.inl hw.1))
      · exact Or.inr (Or.inr (Or.inr hw.1))
theorem r_all.vl {I I' : px_I} {J : px_J} {m n d u t nb : Nat} {Ls : List l_L} {x w : Int32} (h : r_all I J m n d u t nb Ls) (hM : r_same54 I I') (hp : g_there I x w = true) (ha : m_at x w) : g_read I x w = m_val I' x w := by
  obtain ⟨⟨a1, a2, a3, a4, a5, a6, a7, a8, a9, a10⟩, b1, b2', b3, b4⟩ := h.2.1
  unfold g_read m_val g_lst
  rw [hp, hM 55 (by omega), hM 57 (by omega), hM 58 (by omega), hM 59 (by omega), hM 60 (by omega), hM 61 (by omega), hM 62 (by omega), hM 63 (by omega), hM 64 (by omega), ← a1, ← a3, ← a4, ← a5, ← a6, ← a7, ← a8, ← a9]
  rcases ha with ⟨e, _⟩ | ⟨e | e | e | e | e | e | e, _⟩ | ⟨e | e | e | e, _⟩ <;> subst e
  any_goals rfl
  · exact b1
  · exact b2'
  · exact b3
  · exact b4
theorem st_of {l : Launch} {I : px_I} {J : px_J} {x w : Int32} (h : r_ex I J) : r_stp l mX11_of mX12_of 3 3 [.int x, .int w] I J := by
  obtain ⟨m, n, d, u, t, nb, Ls, h⟩ := h
  have hat : ∀ I1, r_same54 I I1 → m_pl I1 x w = true → m_at x w := fun I1 hM q => r_pl_at h.1.2.2.1 h.1.2.2.2.2.2 (by rw [← (h.pl hM x w).2]; exact q)
  refine r_ask h (P := fun I' => I' = I) (R := fun I1 I' => I' = I1) c_X11_of (r_id I) (fun I1 hp hM h1 => Ct.as (P := fun I' => I' = I1) (c_X12_of (n := n) (by rw [hM 54 (by omega)]; exact h.1.2.2.2.2.1) h.1.2.2.2.2.2 (hat I1 hM)) ?_) r_ids
  unfold m_of g_of
  by_cases w12 : w = 12
  · rw [if_pos w12, if_pos w12]
    exact (if_and (by rw [r_isJ h hM]) (fun _ => by rw [hM 56 (by omega), ← h.2.1.1.2.1])).symm
  · rw [if_neg w12, if_neg w12]
    have e := (h.pl hM x w).1
    exact (if_and (by rw [e]) (fun z => h.vl hM z (hat I1 hM (by rw [← e]; exact z)))).symm

