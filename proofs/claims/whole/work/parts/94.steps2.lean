/-! rows, shutters and shelves of the law -/
theorem r_all.rows {I : px_I} {J : px_J} {m n d u t nb : Nat} {Ls : List l_L} (h : r_all I J m n d u t nb Ls) : px_rows I := by
  intro s hs h5
  rcases (h.2.2.2.2.2.2.2.2 s hs).2 with ⟨a, _⟩ | ⟨_, _, _, _, e, _⟩ | ⟨_, _, a, _, _⟩
  · rw [a] at h5; exact absurd h5 (by decide)
  · have hz := (h.2.2.2.2.2.2.2.2 s hs).1
    exact ⟨ix (I 89 s), hz.2, e.trans hz.1⟩
  · rw [a] at h5; exact absurd h5 (by decide)
theorem r_all.szok {I I' : px_I} {J : px_J} {m n d u t nb : Nat} {Ls : List l_L} (h : r_all I J m n d u t nb Ls) (hM : r_same54 I I') : m_szok I' := by
  intro s hs
  rw [hM 89 (by omega)]
  exact (h.2.2.2.2.2.2.2.2 s hs).1
theorem r_all.nb {I : px_I} {J : px_J} {m n d u t nb : Nat} {Ls : List l_L} (h : r_all I J m n d u t nb Ls) : nb ≤ 50 := h.2.2.2.2.2.2.2.1.2.2.1
theorem r_all.s1 {I : px_I} {J : px_J} {m n d u t nb : Nat} {Ls : List l_L} {x : Int32} (h : r_all I J m n d u t nb Ls) (hx : s_within x 0 5 = true) : r_s1 I J nb (ix x) := h.2.2.2.2.2.2.2.2 (ix x) (by have := w_ixc (m := 5) (by omega) rfl hx; omega)
theorem w_no {x a b : Int32} (h : ¬ s_within x a b = true) : s_within x a b = false := by simpa using h
theorem st_judge {l : Launch} {I : px_I} {J : px_J} {x y : Int32} (h : r_ex I J) : r_stp l mX11_judge mX12_judge 5 5 [.int x, .int y] I J := by
  obtain ⟨m, n, d, u, t, nb, Ls, h⟩ := h
  refine r_ask h (c_X11_judge h.ok0 h.rows) (r_cs I) (fun I1 hp hM h1 => (c_X12_judge (h.mok hM) (h.szok hM)).as ?_) (fun _ _ => m_sd.eq)
  have hy := r_isP h hM y
  rw [hy]
  by_cases hx : s_within x 0 5 = true
  · obtain ⟨a1, a2, a3⟩ := q_ref (h.s1 hx) h.nb (hM 88 (by omega)) hx
    by_cases z : m_one I1 y = true
    · rw [if_pos ⟨hx, z⟩, if_pos z]
      by_cases w : g_refBytes I x = 0
      · rw [if_neg (a2.mp w), if_pos w, m_z, hM 89 (by omega)]
        exact (q_unl (h.q hM) (r_all.sh (h.s1 hx) hx (a3 w)) (h.px hM z).2).symm
      · rw [if_pos (Decidable.byContradiction (fun q => w (a2.mpr q))), if_neg w, a1]
    · rw [if_neg (fun q => z q.2), if_neg z]
  · rw [if_neg (fun q => hx q.1), q_ref_no (w_no hx)]
    by_cases z : m_one I1 y = true
    · rw [if_pos z]; rfl
    · rw [if_neg z]
theorem st_who {l : Launch} {I : px_I} {J : px_J} {x : Int32} (h : r_ex I J) : r_stp l mX11_who mX12_who 5 5 [.int x] I J := by
  obtain ⟨m, n, d, u, t, nb, Ls, h⟩ := h
  refine r_ask h (c_X11_who h.ok0 h.rows) (r_cs I) (fun I1 hp hM h1 => (c_X12_who (h.mok hM) (h.szok hM)).as ?_) (fun _ _ => m_sd.eq)
  by_cases hx : s_within x 0 5 = true
  · obtain ⟨a1, a2, a3⟩ := q_ref (h.s1 hx) h.nb (hM 88 (by omega)) hx
    rw [if_pos hx]
    by_cases w : g_refBytes I x = 0
    · rw [if_neg (a2.mp w), if_pos w]
      have e : s_bits (m_whom I1 J x m n) m = s_bits (fun p => decide (m_wd I1 J (ix x) (ix (I 89 (ix x))) m n p < 0)) m := by
        unfold m_whom m_z
        rw [hM 89 (by omega)]
      rw [e]
      exact (q_who (h.q hM) (r_all.sh (h.s1 hx) hx (a3 w)) m (Nat.le_refl m)).symm
    · rw [if_pos (Decidable.byContradiction (fun q => w (a2.mpr q))), if_neg w, a1]
  · rw [if_neg hx, q_ref_no (w_no hx)]; rfl
theorem w03 {w : Int32} (h : s_within w 0 3 = true) : w = 0 ∨ w = 1 ∨ w = 2 ∨ w = 3 := by
  have hx := w_ixc (m := 3) (by omega) (b := 3) (by decide) h
  have hc : ix w = 0 ∨ ix w = 1 ∨ ix w = 2 ∨ ix w = 3 := by omega
  rcases hc with e | e | e | e <;> rw [e] at hx
  · exact Or.inl (hx.1.trans (by decide))
  · exact Or.inr (Or.inl (hx.1.trans (by decide)))
  · exact Or.inr (Or.inr (Or.inl (hx.1.trans (by decide))))
  · exact Or.inr (Or.inr (Or.inr (hx.1.trans (by decide))))
theorem st_fits {l : Launch} {I : px_I} {J : px_J} {x y w : Int32} (h : r_ex I J) : r_stp l mX11_fits mX12_fits 6 6 [.int x, .int y, .int w] I J := by
  obtain ⟨m, n, d, u, t, nb, Ls, h⟩ := h
  refine r_ask h (c_X11_fits h.ok0 h.rows) (r_cs I) (fun I1 hp hM h1 => (c_X12_fits (h.mok hM) (h.szok hM)).as ?_) (fun _ _ => m_sd.eq)
  have e1 := r_isP h hM (y / 10)
  have e2 := r_isJ h hM (px_rem y 10)
  unfold m_fans g_fits
  rw [e1, e2]
  by_cases hx : s_within x 0 5 = true
  · obtain ⟨a1, a2, a3⟩ := q_ref (h.s1 hx) h.nb (hM 88 (by omega)) hx
    by_cases z : (¬ y < 0 ∧ s_within w 0 3 = true) ∧ m_one I1 (y / 10) = true ∧ m_joy I1 (px_rem y 10) = true
    · rw [if_pos z, if_pos ⟨hx, z.1.1, z.2.1, z.2.2, z.1.2⟩]
      by_cases c : g_refBytes I x = 0
      · rw [if_neg (a2.mp c), if_pos c, m_z, hM 89 (by omega)]
        have k1 := q_fits (jy := ix (px_rem y 10)) (h.q hM) (r_all.sh (h.s1 hx) hx (a3 c)) (h.px hM z.2.1).2 (Or.inl ⟨rfl, rfl⟩) 100
        have k2 := q_fits (jy := ix (px_rem y 10)) (h.q hM) (r_all.sh (h.s1 hx) hx (a3 c)) (h.px hM z.2.1).2 (Or.inr ⟨rfl, rfl⟩) 41
        rw [k1, k2]
        rcases w03 z.1.2 with e | e | e | e <;> rw [e] <;> rfl
      · rw [if_pos (Decidable.byContradiction (fun q => c (a2.mpr q))), if_neg c, a1]
    · rw [if_neg z, if_neg (fun q => z ⟨⟨q.2.1, q.2.2.2.2⟩, q.2.2.1, q.2.2.2.1⟩)]
  · rw [if_neg (fun q => hx q.1), q_ref_no (w_no hx)]
    split <;> rfl
theorem st_mates {l : Launch} {I : px_I} {J : px_J} {x : Int32} (h : r_ex I J) : ∃ e, e ≤ 9 ∧ r_stp l mX11_mates mX12_mates 4 e [.int x] I J := by
  obtain ⟨m, n, d, u, t, nb, Ls, h⟩ := h
  refine ⟨m + 2, by have := h.1.2.2.1; omega, ?_⟩
  have hr : ∀ q, q ≠ 50 → (if s_within x 0 5 = true then v_all x m (v_zero I 128) m else I) q = I q := by
    intro q a
    split
    · rw [v_all_row a, v_zero_row a]
    · rfl
  refine r_ask h (P := fun I' => I' = (if s_within x 0 5 = true then v_all x m (v_zero I 128) m else I)) (R := fun I1 I' => I' = I1) (c_X11_mates h.1.1 h.1.2.2.1) (fun I' q => ?_) (fun I1 hp hM h1 => Ct.as (P := fun I' => I' = I1) (c_X12_mates (h.m1 hM) h.1.2.2.1) ?_) r_ids
  · rw [q]
    exact ⟨⟨fun r a => hr r (by have := r_in_no a; omega), by rw [hr 33 (by omega)], fun k _ _ => by rw [hr 54 (by omega)]⟩, fun r a => hr r (by omega)⟩
  · exact (if_and Iff.rfl (fun _ => q_mates (h.q hM) h.hs)).symm
theorem dr_div {x : Int32} (h : s_within (x / 10000) 1 30 = true) : ¬ x < 0 := by
  intro hx
  unfold s_within at h
  simp only [Bool.and_eq_true, Bool.not_eq_true', decide_eq_false_iff_not] at h
  have h1 := h.1
  rw [Int32.lt_iff_toInt_lt, Int32.toInt_div_of_ne_right _ _ (by decide)] at h1
  rw [Int32.lt_iff_toInt_lt] at hx
  have c0 : (0 : Int32).toInt = 0 := by decide
  have c1 : (1 : Int32).toInt = 1 := by decide
  have c2 : (10000 : Int32).toInt = 10000 := by decide
  rw [c1, c2] at h1
  rw [c0] at hx
  have : x.toInt.tdiv 10000 ≤ 0 := by
    rw [Int.tdiv_eq_ediv, show Int.sign 10000 = 1 from rfl]
    split <;> omega
  omega
theorem dr_rem {x : Int32} (h : ¬ x < 0) : ¬ px_rem x 100 < 0 := by
  rw [Int32.lt_iff_toInt_lt] at h ⊢
  have c0 : (0 : Int32).toInt = 0 := by decide
  have c2 : (100 : Int32).toInt = 100 := by decide
  rw [c0] at h ⊢
  have hx : x.toInt < 2 ^ 31 := Int32.toInt_lt x
  have hd : (x / 100).toInt = x.toInt / 100 := by
    rw [Int32.toInt_div_of_ne_right _ _ (by decide), c2, Int.tdiv_eq_ediv_of_nonneg (by omega)]
  unfold px_rem
  rw [Int32.toInt_sub, Int32.toInt_mul, hd, c2]
  have e1 : Int.bmod (x.toInt / 100 * 100) (2 ^ 32) = x.toInt / 100 * 100 := by
    rw [Int.bmod_def]; split <;> omega
  rw [e1, Int.bmod_def]
  split <;> omega
theorem dr_ok {x : Int32} : (s_within (x / 10000) 1 30 = true ∧ s_within (px_rem (x / 100) 100) 1 40 = true ∧ s_within (px_rem x 100) 0 12 = true) ↔ (¬ x < 0 ∧ s_within (x / 10000) 1 30 = true ∧ s_within (px_rem (x / 100) 100) 1 40 = true ∧ ¬ 12 < px_rem x 100) := by
  have e : ¬ x < 0 → (s_within (px_rem x 100) 0 12 = true ↔ ¬ 12 < px_rem x 100) := by
    intro h
    have h2 := dr_rem h
    unfold s_within
    rw [decide_eq_false h2]
    simp
  constructor
  · rintro ⟨a, b, c⟩
    exact ⟨dr_div a, a, b, (e (dr_div a)).mp c⟩
  · rintro ⟨o, a, b, c⟩
    exact ⟨a, b, (e o).mpr c⟩
theorem st_drawn {l : Launch} {I : px_I} {J : px_J} {sd x y : Int32} (h : r_ex I J) : r_stp l mX11_drawn mX12_drawn 5 5 [.int sd, .int x, .int y] I J := by
  obtain ⟨m, n, d, u, t, nb, Ls, h⟩ := h
  refine r_ask h (P := fun I' => I' = (if (s_within (x / 10000) 1 30 = true ∧ s_within (px_rem (x / 100) 100) 1 40 = true ∧ s_within (px_rem x 100) 0 12 = true) ∧ (y = -1 ∨ g_isJ I y = true) then (t_out m n (ix (px_rem (x / 100) 100)) (px_rem x 100) y sd I (ix (x / 10000))).2.2 else I)) (R := m_sd m n) (c_X11_drawn h.ok0) (fun I' q => ?_) (fun I1 hp hM h1 => (c_X12_drawn (h.mok hM)).mono ?_) (fun _ _ => m_sd.eq)
  · have hr : ∀ r, (r < 43 ∨ 47 < r) → I' r = I r := by
      intro r a
      rw [q]
      split
      · exact t_out_row a
      · rfl
    exact ⟨⟨fun r a => hr r (by have := r_in_no a; omega), by rw [hr 33 (by omega)], fun k _ _ => by rw [hr 54 (by omega)]⟩, fun r a => hr r (by omega)⟩
  · rintro r I' J' ⟨e, f, g⟩
    refine ⟨?_, f, g⟩
    have hj := r_isJ h hM y
    rw [hj]
    rcases e with ⟨e1, e2⟩ | ⟨e1, e2⟩
    · rw [if_pos ⟨dr_ok.mpr ⟨e1.1, e1.2.1, e1.2.2.1, e1.2.2.2.1⟩, e1.2.2.2.2⟩, e2]
      refine congrArg (fun v => some (Value.int v)) (q_drawn (h.q hM) h.1.1 ?_ _).2.symm
      intro hy
      rcases e1.2.2.2.2 with z | z
      · rw [z] at hy; exact absurd (by decide) hy
      · exact (h.jx hM z).2
    · rw [if_neg (fun q => e1 ⟨(dr_ok.mp q.1).1, (dr_ok.mp q.1).2.1, (dr_ok.mp q.1).2.2.1, (dr_ok.mp q.1).2.2.2, q.2⟩), e2]
theorem und_eq : ∀ a, a < 8 → ∀ k, k < 8 → s_und (nI k) 8 (nI a) = m_und (nI a) (nI k) := by decide +kernel
theorem st_taken {l : Launch} {I : px_I} {J : px_J} {x k : Int32} (h : r_ex I J) : r_stp l mX11_taken mX12_taken 3 2 [.int x, .int k] I J := by
  obtain ⟨m, n, d, u, t, nb, Ls, h⟩ := h
  have hnb := h.nb
  refine r_ask h (P := fun I' => I' = I) (R := fun I1 I' => I' = I1) c_X11_taken (r_id I) (fun I1 hp hM h1 => Ct.as (P := fun I' => I' = I1) (c_X12_taken (fun i hi hn => ?_)) ?_) r_ids
  · rw [hM 88 (by omega)] at hn ⊢
    rcases (h.2.2.2.2.2.2.2.2 i hi).2 with ⟨_, a⟩ | ⟨r, hr, _, a, _⟩ | ⟨b, hb, _, _, a⟩
    · rw [a] at hn; exact absurd (by decide) hn
    · rw [a] at hn; exact absurd (nI_m2 r hr).2.2 hn
    · rw [a, ix_nI (by omega)]; exact ⟨rfl, by omega⟩
  · unfold m_tak g_taken
    rw [hM 88 (by omega), hM 86 (by omega), shelf_w]
    refine if_and Iff.rfl (fun z => ?_)
    obtain ⟨hx, hk⟩ := z
    have hkx := w_ixc (m := 7) (by omega) rfl hk
    have hsx : s_shelf x = true := (shelf_w x).trans hx
    have hb0 := h.2.2.2.2.2.2.2.1
    unfold g_empty g_body
    rw [hsx]
    rcases (h.s1 hx).2 with ⟨a, b⟩ | ⟨r, hr, a, b, _⟩ | ⟨bb, hb, a, c, b⟩
    · rw [a, b]; rfl
    · rw [a, b]
      obtain ⟨z1, z2, z3⟩ := nI_m2 r hr
      have h6 : ¬ nI r = 6 := fun e => absurd ((qI_inj (a := r) (b := 6) (by omega) (by omega)).mp e) (by omega)
      have h5 : ¬ nI r = 5 := fun e => absurd ((qI_inj (a := r) (b := 5) (by omega) (by omega)).mp e) (by omega)
      have eb : (if true = true ∧ nI r = 5 then I 21 (ix x) else -1) = -1 := if_neg (fun q => h5 q.2)
      have nb1 : ¬ g_isB I (-1) = true := by unfold g_isB s_is; simp
      rw [if_neg z1, if_neg (fun q => q.1 z3), if_neg (by rw [decide_eq_false h6]; decide), eb, if_neg (fun q => nb1 q.1)]
    · rw [a, b, c]
      obtain ⟨z1, z2, z3⟩ := nI_ne (b := bb) (by omega)
      obtain ⟨kk, hkk, ek⟩ := hb0.2.2.2.2.1 bb (by omega)
      have hB : g_isB I (nI bb) = true := by
        unfold g_isB s_is
        rw [hb0.1, decide_eq_false z3, decide_eq_true ((qI_lt (by omega) (by omega)).mpr hb), decide_eq_true (show nI bb < 50 from (qI_lt (a := bb) (b := 50) (by omega) (by omega)).mpr (by omega))]
        rfl
      rw [if_neg z1, if_neg (show ¬ (!true || decide ((5 : Int32) = 6)) = true by decide), if_pos (show true = true ∧ (5 : Int32) = 5 from ⟨rfl, rfl⟩), ix_nI (by omega), ← hb0.2.2.2.1, ek, hkx.1, und_eq kk hkk (ix k) (by omega)]
      refine if_and ⟨fun q => ⟨hB, q.2⟩, fun q => ⟨z3, q.2⟩⟩ (fun _ => rfl)

