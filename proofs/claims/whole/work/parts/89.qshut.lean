/-! shutters, shares, draws answer alike -/
theorem shelf_w (x : Int32) : s_shelf x = s_within x 0 5 := by
  unfold s_shelf s_within
  congr 1
  have c5 : (5 : Int32).toInt = 5 := by decide
  have c6 : (6 : Int32).toInt = 6 := by decide
  by_cases h : x < 6
  · have h' : ¬ 5 < x := by rw [Int32.lt_iff_toInt_lt] at h ⊢; omega
    rw [decide_eq_true h, decide_eq_false h']; rfl
  · have h' : 5 < x := by rw [Int32.lt_iff_toInt_lt] at h ⊢; omega
    rw [decide_eq_false h, decide_eq_true h']; rfl
theorem nI_m2 : ∀ t, t < 5 → ¬ (-2 - nI t = -1) ∧ ((-2 - nI t = -2) ↔ t = 0) ∧ (-2 - nI t < 0) := by decide +kernel
theorem nI_ne {b : Nat} (h : b < 1000) : ¬ nI b = -1 ∧ ¬ nI b = -2 ∧ ¬ nI b < 0 := by
  have h0 := nI_nn (a := b) (by omega)
  exact ⟨fun e => by rw [e] at h0; exact absurd (by decide) h0, fun e => by rw [e] at h0; exact absurd (by decide) h0, h0⟩
theorem q_ref {I I' : px_I} {J : px_J} {nb : Nat} {x : Int32} (hs : r_s1 I J nb (ix x)) (hnb : nb ≤ 50) (h88 : I' 88 = I 88) (hx : s_within x 0 5 = true) : g_refBytes I x = m_rf I' x ∧ (g_refBytes I x = 0 ↔ ¬ m_rf I' x < 0) ∧ (g_refBytes I x = 0 → I 20 (ix x) = 0) := by
  have hsx : s_shelf x = true := (shelf_w x).trans hx
  unfold g_refBytes g_refRow g_empty g_row m_rf
  rw [h88, hsx]
  rcases hs.2 with ⟨a, b⟩ | ⟨t, ht, a, b, _⟩ | ⟨bb, hb, a, _, b⟩
  · rw [a, b]; decide
  · rw [a, b]
    have h5 : nI t < 5 := (qI_lt (a := t) (b := 5) (by omega) (by omega)).mpr ht
    have h6 : ¬ nI t = 6 := fun e => absurd ((qI_inj (a := t) (b := 6) (by omega) (by omega)).mp e) (by omega)
    obtain ⟨z1, z2, z3⟩ := nI_m2 t ht
    rw [if_neg z1]
    by_cases h0 : t = 0
    · subst h0; decide
    · have n0 : ¬ nI t = 0 := fun e => h0 ((nI_eq0 (by omega)).mp e)
      have n2 : ¬ -2 - nI t = -2 := fun e => h0 (z2.mp e)
      rw [if_neg n2]
      simp [h5, h6, n0]
  · rw [a, b]
    obtain ⟨z1, z2, z3⟩ := nI_ne (b := bb) (by omega)
    rw [if_neg z1, if_neg z2]
    decide
theorem q_ref_no {I : px_I} {x : Int32} (hx : s_within x 0 5 = false) : g_refBytes I x = -1 := by
  have hsx : s_shelf x = false := (shelf_w x).trans hx
  unfold g_refBytes g_refRow
  rw [hsx]
  rfl
theorem lg_eq {x y : Int64} : (lg_cmp x y = 0) ↔ x = y := by
  unfold lg_cmp
  by_cases h : x > y
  · rw [if_pos h]
    exact ⟨fun e => absurd e (by decide), fun e => by rw [e] at h; exact absurd h (by rw [gt_iff_lt, Int64.lt_iff_toInt_lt]; omega)⟩
  · rw [if_neg h]
    by_cases e : x = y
    · rw [if_pos e]; exact ⟨fun _ => e, fun _ => rfl⟩
    · rw [if_neg e]; exact ⟨fun q => absurd q (by decide), fun q => absurd q e⟩
theorem lg_byte {e : Int64} {c : Int32} (h : e.toInt32.toInt64 = e) (hc : c.toInt64.toInt32 = c) : decide (lg_cmp e c.toInt64 = 0) = decide (e.toInt32 = c) := by
  rw [decide_eq_decide, lg_eq]
  exact ⟨fun q => by rw [q, hc], fun q => by rw [← h, q]⟩
/-- a row of bytes, as both read it -/
def q_sh (Y : px_I) (J : px_J) (x : Int32) (s z : Nat) : Prop := g_lenOf Y x = nI z ∧ z ≤ 60 ∧ ∀ j, j < z → g_cell Y J x (nI j) = J 90 (60 * s + j) ∧ (J 90 (60 * s + j)).toInt32.toInt64 = J 90 (60 * s + j)
theorem q_sh.up {Y : px_I} {J : px_J} {x v : Int32} {s z q k : Nat} (h : q_sh Y J x s z) (h1 : q ≠ 20) (h2 : q ≠ 21) : q_sh (px_up Y q k v) J x s z := by
  have e1 : ∀ x, g_row (px_up Y q k v) x = g_row Y x := fun x => by unfold g_row; rw [px_up_row (Ne.symm h1)]
  have e2 : ∀ x, g_lenOf (px_up Y q k v) x = g_lenOf Y x := fun x => by unfold g_lenOf; rw [e1, px_up_row (Ne.symm h2)]
  unfold q_sh g_cell g_hasRun at h ⊢
  simp only [e1, e2]
  exact h
theorem r_all.sh {I : px_I} {J : px_J} {nb : Nat} {x : Int32} (hs : r_s1 I J nb (ix x)) (hx : s_within x 0 5 = true) (h0 : I 20 (ix x) = 0) : q_sh I J x (ix x) (ix (I 89 (ix x))) := by
  have hsx : s_shelf x = true := (shelf_w x).trans hx
  obtain ⟨⟨c1, c2⟩, c⟩ := hs
  rcases c with ⟨a, _⟩ | ⟨t, ht, a, _, c3, c4, c5⟩ | ⟨bb, _, a, _⟩
  · rw [a] at h0; exact absurd h0 (by decide)
  · have t0 : t = 0 := (nI_eq0 (by omega)).mp (a.symm.trans h0)
    have hrow : g_row I x = true := by unfold g_row; rw [hsx, h0]; decide
    have hlen : g_lenOf I x = nI (ix (I 89 (ix x))) := by unfold g_lenOf; rw [if_pos hrow, c3]; exact c1
    refine ⟨hlen, c2, fun j hj => ⟨?_, c5 t0 j hj⟩⟩
    have hrun : g_hasRun I x (nI j) 1 = true := by
      unfold g_hasRun
      rw [hlen, decide_eq_false (nI_nn (by omega))]
      obtain ⟨k, hk⟩ : ∃ k, ix (I 89 (ix x)) = k + 1 := ⟨ix (I 89 (ix x)) - 1, by omega⟩
      rw [hk, nI_pred, decide_eq_false (show ¬ nI k < nI j from fun q => absurd ((qI_lt (by omega) (by omega)).mp q) (by omega))]
      decide
    unfold g_cell
    rw [if_pos ⟨hrow, hrun⟩, ix_nI (by omega)]
    exact c4 j hj
  · rw [a] at h0; exact absurd h0 (by decide)
theorem q_unl {Y X : px_I} {J : px_J} {x : Int32} {m n s z one : Nat} (h : q_ok Y X m n) (hs : q_sh Y J x s z) (ho : one < m) : t_unl Y J x m n one = m_wd X J s z m n one := by
  obtain ⟨c1, c2, c3⟩ := hs
  have hl : t_lim Y x = m_lim z := by
    unfold t_lim m_lim
    rw [c1, ix_nI (by omega)]
  unfold t_unl m_wd
  rw [hl]
  refine s_first_congr _ _ (fun j _ hj => ?_)
  have hjz : j < z := by
    unfold m_lim at hj
    split at hj <;> omega
  obtain ⟨d1, d2⟩ := c3 j hjz
  unfold t_bad m_bad
  rw [d1, q_glad (q_days h (q_start h) j) ho]
  have e9 : decide (lg_cmp (J 90 (60 * s + j)) 9 = 0) = decide (m_el J s j = 9) := lg_byte (c := 9) d2 (by decide)
  have eb : ∀ b : Bool, decide (lg_cmp (J 90 (60 * s + j)) (b2 b).toInt64 = 0) = decide (m_el J s j = b2 b) := fun b => lg_byte (c := b2 b) d2 (by cases b <;> decide)
  rw [e9, eb]
theorem s_first_or {f : Nat → Bool} : ∀ k j, s_first f k j = -2 ∨ ∃ i, i < j + k ∧ s_first f k j = nI i := by
  intro k
  induction k with
  | zero => intro j; exact Or.inl rfl
  | succ k ih =>
    intro j
    unfold s_first
    split
    · exact Or.inr ⟨j, by omega, rfl⟩
    · rcases ih (j + 1) with e | ⟨i, h1, h2⟩
      · exact Or.inl e
      · exact Or.inr ⟨i, by omega, h2⟩
theorem m_wd_neg {X : px_I} {J : px_J} {m n s z one : Nat} : decide (m_wd X J s z m n one = -2) = decide (m_wd X J s z m n one < 0) := by
  unfold m_wd
  have hl : m_lim z ≤ 41 := by unfold m_lim; split <;> omega
  rcases s_first_or (f := m_bad (m_lay X m n) J s m n one) (m_lim z) 0 with e | ⟨i, h1, h2⟩
  · rw [e]; decide
  · rw [h2]
    have := nI_ne (b := i) (by omega)
    rw [decide_eq_false this.2.1, decide_eq_false this.2.2]
theorem q_fits {Y X : px_I} {J : px_J} {x : Int32} {m n s z one q r jy : Nat} (h : q_ok Y X m n) (hs : q_sh Y J x s z) (ho : one < m) (hq : (q = 3 ∧ r = 57) ∨ (q = 5 ∧ r = 59)) : ∀ v, t_fits Y J x m n one q jy v = m_fits X J s z m n one r jy v := by
  intro v
  induction v with
  | zero => rfl
  | succ v ih =>
    have e1 : t_fit Y J x m n one q jy v = decide (m_wd (px_up X r jy (nI v)) J s z m n one < 0) := by
      unfold t_fit
      rw [q_unl (h.up hq) (hs.up (by omega) (by omega)) ho]
      exact m_wd_neg
    have e2 : t_fits Y J x m n one q jy (v + 1) = if t_fit Y J x m n one q jy v = true then ((t_fits Y J x m n one q jy v).1 + 1, if (t_fits Y J x m n one q jy v).1 = 0 then nI v else (t_fits Y J x m n one q jy v).2) else t_fits Y J x m n one q jy v := rfl
    have e3 : m_fits X J s z m n one r jy (v + 1) = if m_wd (px_up X r jy (nI v)) J s z m n one < 0 then ((m_fits X J s z m n one r jy v).1 + 1, if (m_fits X J s z m n one r jy v).1 = 0 then nI v else (m_fits X J s z m n one r jy v).2) else m_fits X J s z m n one r jy v := rfl
    rw [e2, e3, e1, ih]
    by_cases c : m_wd (px_up X r jy (nI v)) J s z m n one < 0
    · rw [if_pos c, if_pos (decide_eq_true c)]
    · rw [if_neg c, if_neg (fun e => c (of_decide_eq_true e))]
theorem q_who {Y X : px_I} {J : px_J} {x : Int32} {m n s z : Nat} (h : q_ok Y X m n) (hs : q_sh Y J x s z) : ∀ k, k ≤ m → g_who Y J x m n k = s_bits (fun p => decide (m_wd X J s z m n p < 0)) k := by
  intro k
  induction k with
  | zero => intro _; rfl
  | succ k ih =>
    intro hk
    unfold g_who s_bits
    rw [q_unl h hs (by omega), ih (by omega)]
    have e := m_wd_neg (X := X) (J := J) (m := m) (n := n) (s := s) (z := z) (one := k)
    by_cases c : m_wd X J s z m n k = -2
    · rw [if_pos c, if_pos (e.symm.trans (decide_eq_true c))]
    · rw [if_neg c, if_neg (by rw [← e, decide_eq_false c]; decide)]
/-! draws -/
theorem q_mvd {S Z : px_I} {m n : Nat} {z mv' : Int32} (h : px_R m n S 43 (mv Z) 43) (hm : S 1 6 = nI m) (hm7 : m ≤ 7) : px_R m n (t_mvd S z mv') 43 (mv (m_mvd Z m z mv')) 43 := by
  unfold t_mvd m_mvd
  rw [hm]
  by_cases c : 0 < nI m ∧ px_rem (px_ushr z 24) 12 < mv'
  · rw [if_pos c, if_pos c]
    have h0 : 0 < m := px_lt (show nI 0 < nI m from c.1) (by omega) (by omega)
    have hw := m_who_ix (z := z) h0 hm7
    have hP : g_isP S (px_rem (px_ushr z 8) (nI m)) = true := by
      unfold g_isP
      rw [hw.1, hm]
      unfold s_is
      rw [decide_eq_false (nI_nn (by omega)), decide_eq_true ((qI_lt (by omega) (by omega)).mpr hw.2), decide_eq_true (show nI (ix (px_rem (px_ushr z 8) (nI m))) < (7 : Int32) from (qI_lt (b := 7) (by omega) (by omega)).mpr (by omega))]
      rfl
    rw [if_pos hP]
    exact (R_up1 h (by omega) (by omega)).tr mv_up77
  · rw [if_neg c, if_neg c]; exact h
theorem q_tin {Y X S : px_I} {m n : Nat} {mv' z0 : Int32} (h : q_ok Y X m n) (hS : px_R m n S 43 (mv (m_lay X m n)) 43) (hm : S 1 6 = nI m) : ∀ k, (t_in m n mv' (z0, S) k).1 = (m_di m n mv' (z0, m_lay X m n) k).1 ∧ px_R m n (t_in m n mv' (z0, S) k).2 43 (mv (m_di m n mv' (z0, m_lay X m n) k).2) 43 := by
  have hm7 := h.2.2.2.2.2
  intro k
  induction k with
  | zero => exact ⟨rfl, hS⟩
  | succ k ih =>
    obtain ⟨i1, i2⟩ := ih
    have e1 : (t_in m n mv' (z0, S) (k + 1)) = (z_next (t_in m n mv' (z0, S) k).1, g_pass (t_mvd (t_in m n mv' (z0, S) k).2 (z_next (t_in m n mv' (z0, S) k).1) mv') 43 m n) := rfl
    have e2 : (m_di m n mv' (z0, m_lay X m n) (k + 1)) = (z_next (m_di m n mv' (z0, m_lay X m n) k).1, m_day (m_mvd (m_di m n mv' (z0, m_lay X m n) k).2 m (z_next (m_di m n mv' (z0, m_lay X m n) k).1) mv') m n) := rfl
    rw [e1, e2, i1]
    refine ⟨rfl, ?_⟩
    have hs1 : (t_in m n mv' (z0, S) k).2 1 6 = nI m := by rw [t_in_row (by omega)]; exact hm
    have hM := q_mvd (z := z_next (m_di m n mv' (z0, m_lay X m n) k).1) (mv' := mv') i2 hs1 hm7
    have hsd := (m_sd_di (n := n) (mv := mv') (s := (z0, m_lay X m n)) hm7 k).tr (m_sd_mvd (z := z_next (m_di m n mv' (z0, m_lay X m n) k).1) (mv := mv') hm7)
    have hr : ∀ q, q ≠ 54 → q ≠ 77 → q ≠ 78 → q ≠ 79 → (m_mvd (m_di m n mv' (z0, m_lay X m n) k).2 m (z_next (m_di m n mv' (z0, m_lay X m n) k).1) mv') q = X q := fun q a b c d => (hsd.1 q a b c d).trans (m_lay_ne a b c d)
    exact M_day hM (by omega) (fun j hj => by rw [hM.1 2 (by omega) (by omega), mv_row.1, hr 56 (by omega) (by omega) (by omega) (by omega), ← h.1.1.2.1]; exact h.2.1 j hj) (by rw [hr 64 (by omega) (by omega) (by omega) (by omega)]; exact h.2.2.1)
theorem q_tsum {S Z : px_I} {m n : Nat} {joy sum : Int32} (h : px_R m n S 43 (mv Z) 43) (hj : ¬ joy < 0 → ix joy < n) : t_sum S n joy sum = sum + m_addn Z n joy := by
  unfold t_sum m_addn
  by_cases c : joy < 0
  · rw [if_pos c, if_pos c, q_worth h]
  · rw [if_neg c, if_neg c, q_had h (hj c)]
    cases m_had Z (ix joy) with
    | true => rfl
    | false => show sum = sum + 0; simp
theorem q_drawn {Y X : px_I} {m n days : Nat} {mv' joy seed : Int32} (h : q_ok Y X m n) (hm : Y 1 6 = nI m) (hj : ¬ joy < 0 → ix joy < n) : ∀ i, (t_out m n days mv' joy seed Y i).1 = (m_dr X m n days mv' joy seed i).1 ∧ (t_out m n days mv' joy seed Y i).2.1 = (m_dr X m n days mv' joy seed i).2 := by
  intro i
  induction i with
  | zero => exact ⟨rfl, rfl⟩
  | succ i ih =>
    obtain ⟨i1, i2⟩ := ih
    have hrow : ∀ q, q < 43 ∨ 47 < q → (t_out m n days mv' joy seed Y i).2.2 q = Y q := fun q a => t_out_row a
    have hS : px_R m n (t_start (t_out m n days mv' joy seed Y i).2.2 m n) 43 (mv (m_lay X m n)) 43 := by
      refine (R_takes (by omega) (by omega) (by omega)).tr (px_R.tr ?_ (r_lay h.1))
      exact ⟨fun q a b => hrow q (by omega), ⟨by rw [hrow 1 (by omega)], by rw [hrow 1 (by omega)]⟩, ⟨by rw [hrow 8 (by omega)], by rw [hrow 8 (by omega)]⟩, fun k _ => by rw [hrow (8 + 1) (by omega)], fun k _ => by rw [hrow (8 + 2) (by omega)], fun k _ => by rw [hrow (8 + 3) (by omega)]⟩
    have hk := q_tin (mv' := mv') (z0 := (t_out m n days mv' joy seed Y i).1) h hS (by rw [t_start_row (by omega), hrow 1 (by omega)]; exact hm) days
    have e1 : (t_out m n days mv' joy seed Y (i + 1)).1 = (t_in m n mv' ((t_out m n days mv' joy seed Y i).1, t_start (t_out m n days mv' joy seed Y i).2.2 m n) days).1 := rfl
    have e2 : (t_out m n days mv' joy seed Y (i + 1)).2.1 = t_sum (t_in m n mv' ((t_out m n days mv' joy seed Y i).1, t_start (t_out m n days mv' joy seed Y i).2.2 m n) days).2 n joy (t_out m n days mv' joy seed Y i).2.1 := rfl
    have e3 : m_dr X m n days mv' joy seed (i + 1) = ((m_di m n mv' ((m_dr X m n days mv' joy seed i).1, m_lay X m n) days).1, (m_dr X m n days mv' joy seed i).2 + m_addn (m_di m n mv' ((m_dr X m n days mv' joy seed i).1, m_lay X m n) days).2 n joy) := rfl
    rw [e1, e2, e3, q_tsum hk.2 hj, hk.1, i1, i2]
    exact ⟨rfl, rfl⟩
/-! shares -/
theorem q_share1 {Y X : px_I} {m n : Nat} (h : q_ok Y X m n) : s_sum (g_had Y 8) (Y 6) n = s_sum (m_had (m_lay X m n)) (X 60) n := by
  rw [R_worth (r_lay (m := m) (n := n) h.1)]
  show s_sum (m_had (m_lay X m n)) (m_lay X m n 60) n = _
  rw [m_lay_row (by omega) (by omega)]
theorem q_share2 {Y X : px_I} {m n : Nat} {x : Int32} (h : q_ok Y X m n) : s_sum (g_hadBy Y 8 x) (Y 6) n = s_sum (fun j => m_had (m_lay X m n) j && decide (X 56 j = x)) (X 60) n := by
  refine s_sum_congr n (fun j hj => ⟨?_, by rw [h.1.1.2.2.2.2.2.1]⟩)
  show (decide (Y 2 j = x) && g_had Y 8 j) = _
  rw [R_had (r_lay (m := m) (n := n) h.1) hj, h.1.1.2.1, Bool.and_comm]
  rfl
theorem q_share {Y X : px_I} {m n : Nat} {x v : Int32} (h : q_ok Y X m n) (hw : ∀ j, j < n → X 60 j = nI (ix (X 60 j)) ∧ ix (X 60 j) < 10) : (if 0 < s_sum (g_had Y 8) (Y 6) n then v * s_sum (g_hadBy Y 8 x) (Y 6) n / s_sum (g_had Y 8) (Y 6) n else 0) = (if s_sum (m_had (m_lay X m n)) (X 60) n = 0 then 0 else v * s_sum (fun j => m_had (m_lay X m n) j && decide (X 56 j = x)) (X 60) n / s_sum (m_had (m_lay X m n)) (X 60) n) := by
  rw [q_share1 h, q_share2 h]
  obtain ⟨s, h1, h2⟩ := s_sum_nn (c := m_had (m_lay X m n)) (w := X 60) n h.2.2.2.2.1 hw
  have h10 := h.2.2.2.2.1
  rw [h2]
  by_cases e : s = 0
  · subst e; rw [nI_0, if_neg (by decide), if_pos rfl]
  · rw [if_pos (show (0 : Int32) < nI s from (qI_lt (a := 0) (b := s) (by omega) (by omega)).mpr (by omega)), if_neg (fun q => e ((nI_eq0 (by omega)).mp q))]

