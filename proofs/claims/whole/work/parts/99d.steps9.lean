/-! mend of the law -/
theorem may_eq {x w v : Int32} (ha : m_at x w) : s_mayBe w v = m_may w v := by
  rcases ha with ⟨e, _⟩ | ⟨e | e | e | e | e | e | e, _⟩ | ⟨e | e | e | e, _⟩ <;> subst e <;> rfl
theorem may_okv {x w v : Int32} (ha : m_at x w) (h : m_may w v = true) : r_okv w v := by
  refine ⟨fun e => by subst e; exact h, fun e => by subst e; exact h, fun e => by subst e; exact h, fun e => by subst e; exact h, fun e => ?_⟩
  have c0 : (0 : Int32).toInt = 0 := by decide
  have c1 : (1 : Int32).toInt = 1 := by decide
  have c2 : (2 : Int32).toInt = 2 := by decide
  rcases e with e | e <;> subst e
  · have h' : s_within v 2 30 = true := h
    unfold s_within at h'
    simp only [Bool.and_eq_true, Bool.not_eq_true', decide_eq_false_iff_not] at h'
    have h2 := h'.1
    rw [Int32.lt_iff_toInt_lt] at h2 ⊢
    omega
  · have h' : s_within v 1 9 = true := h
    unfold s_within at h'
    simp only [Bool.and_eq_true, Bool.not_eq_true', decide_eq_false_iff_not] at h'
    have h2 := h'.1
    rw [Int32.lt_iff_toInt_lt] at h2 ⊢
    omega
theorem w_in {k b : Nat} (hk : k ≤ b) (hb : b < 1000) : s_within (nI k) 0 (nI b) = true := by
  unfold s_within
  rw [decide_eq_false (nI_nn (by omega)), decide_eq_false (fun q => absurd ((qI_lt (by omega) (by omega)).mp q) (by omega))]
  rfl
theorem r_all.okv {I : px_I} {J : px_J} {m n d u t nb : Nat} {Ls : List l_L} {x w : Int32} (h : r_all I J m n d u t nb Ls) (ha : m_at x w) (hp : g_there I x w = true) : r_okv w (g_read I x w) := by
  obtain ⟨c1, c2, c3, c4, c5, c6, c7⟩ := h.2.2.1
  have at0 : ∀ z : Int32, r_01 z → s_within z 0 1 = true := by
    intro z hz
    rcases hz with e | e <;> rw [e] <;> decide
  refine ⟨fun e => ?_, fun e => ?_, fun e => ?_, fun e => ?_, fun e => ?_⟩ <;> try subst e
  · rcases ha with ⟨_, b, c⟩ | ⟨b | b | b | b | b | b | b, _⟩ | ⟨b | b | b | b, _⟩
    · unfold g_read
      rw [hp]
      show s_within (I 9 (ix x)) 0 11 = true
      rw [(c1 (ix x) c).1]
      exact w_in (b := 11) (by have := (c1 (ix x) c).2; omega) (by omega)
    all_goals exact absurd b (by decide)
  · rcases ha with ⟨b, _⟩ | ⟨_, b, c⟩ | ⟨b | b | b | b, _⟩
    · exact absurd b (by decide)
    · unfold g_read
      rw [hp]
      show s_within (I 6 (ix x)) 0 9 = true
      rw [(c4 (ix x) c).1]
      exact w_in (b := 9) (by have := (c4 (ix x) c).2; omega) (by omega)
    all_goals exact absurd b (by decide)
  · rcases ha with ⟨b, _⟩ | ⟨_, b, c⟩ | ⟨b | b | b | b, _⟩
    · exact absurd b (by decide)
    · unfold g_read
      rw [hp]
      exact at0 _ (c5 (ix x) c)
    all_goals exact absurd b (by decide)
  · exact at0 _ c6
  · rcases e with e | e <;> subst e
    · exact c7.1
    · have pl := h.pl (I' := I) (fun _ _ => rfl) x 2
      have pp := hp
      rw [pl.1, pl.2] at pp
      have pw : s_within x 0 (nI n - 1) = true := pp
      have hn10 := h.1.2.2.2.2.2
      unfold g_read
      rw [hp]
      show 0 < I 4 (ix x)
      exact c7.2 (ix x) (w_ix (by omega) pw).2
theorem st_mend {l : Launch} {I : px_I} {J : px_J} {x w v : Int32} (h : r_ex I J) : r_stp l mX11_mend mX12_mend 3 3 [.int x, .int w, .int v] I J := by
  obtain ⟨m, n, d, u, t, nb, Ls, h⟩ := h
  obtain ⟨k1, k2, k3, k4, k5, ⟨k6, k7, k8, k9⟩, k10⟩ := h.2.2.2.1
  have hpl := h.pl (I' := I) (fun _ _ => rfl) x w
  have cG := c_X11_mend (l := l) (I := I) (J := J) (x := x) (w := w) (v := v) k1 (by omega)
  have hat : ∀ I1, r_same54 I I1 → m_pl I1 x w = true → m_at x w := fun I1 hM q => r_pl_at h.1.2.2.1 h.1.2.2.2.2.2 (by rw [← (h.pl hM x w).2]; exact q)
  by_cases z : g_there I x w = true ∧ s_mayBe w v = true
  · obtain ⟨hp, hmay⟩ := z
    have ha := hat I (fun _ _ => rfl) (by rw [← hpl.1]; exact hp)
    have hmm : m_may w v = true := by rw [← may_eq ha]; exact hmay
    have hg := w_rng ha
    have hv := may_okv ha hmm
    have ho := h.okv ha hp
    rw [if_pos ⟨hp, hmay⟩, g_mend, if_pos ⟨hp, hmay⟩] at cG
    by_cases e : g_read I x w = v
    · rw [if_pos e] at cG
      have cM := c_X12_mend (l := l) (I := I) (J := J) (x := x) (w := w) (v := v) k2 (by omega) (hat I (fun _ _ => rfl))
      have ev := h.vl (I' := I) (fun _ _ => rfl) hp ha
      rw [if_pos ⟨by rw [← hpl.1]; exact hp, hmm⟩, if_pos ⟨by rw [← hpl.1]; exact hp, hmm⟩, m_chg, if_pos (by rw [← ev]; exact e)] at cM
      exact r_do cG cM ev.symm ⟨m, n, d, u, t, nb, Ls, h⟩
    · rw [if_neg e] at cG
      generalize hf : g_read I x w = f at cG e ho
      -- the state that GladSide leaves
      have hY : ∀ q k, ¬ (28 ≤ q ∧ q ≤ 32) → g_add I d x w f v q k = I q k := by
        intro q k a
        unfold g_add
        split
        · rw [g_add1, px_up_ne (by omega), px_up_ne (by omega), px_up_ne (by omega), px_up_ne (by omega), px_up_ne (by omega), px_up_ne (by omega)]
        · rw [g_add1, px_up_ne (by omega), px_up_ne (by omega), px_up_ne (by omega), px_up_ne (by omega), px_up_ne (by omega), px_up_ne (by omega), g_forget, px_up_ne (by omega), px_cp_row (by omega), px_cp_row (by omega), px_cp_row (by omega), px_cp_row (by omega)]
      have hpY : g_there (g_add I d x w f v) x w = true := by
        rw [g_there_1 (I := I) (hY 1 6 (by omega)) (hY 1 7 (by omega))]; exact hp
      generalize hI1 : g_write (g_add I d x w f v) x w v = I1 at cG
      have g1 : ∀ q k, I1 q k = if q = wq w ∧ k = wk w x then v else g_add I d x w f v q k := by
        intro q k
        rw [← hI1]; exact g_write_at hpY ha
      have hM : r_same54 I I1 := by
        intro q a
        funext k
        rw [g1, if_neg (by omega), hY q k (by omega)]
      have ev := h.vl hM hp ha
      rw [hf] at ev
      have hpl1 := h.pl hM x w
      have cM := c_X12_mend (l := l) (I := I1) (J := J) (x := x) (w := w) (v := v) (d := d) (by rw [hM 54 (by omega)]; exact k2) (by omega) (hat I1 hM)
      rw [if_pos ⟨by rw [← hpl1.1]; exact hp, hmm⟩, if_pos ⟨by rw [← hpl1.1]; exact hp, hmm⟩, m_chg, if_neg (by rw [← ev]; exact e), ← ev] at cM
      have hent : r_ent m n x w f v := ⟨by rw [← hpl.2, ← hpl.1]; exact hp, ho, hv⟩
      by_cases d40 : d < 40
      · rw [if_pos d40] at cM
        refine r_do cG cM rfl ⟨m, n, d + 1, 0, t, nb, Ls, ?_⟩
        generalize hI2 : m_put (m_add1 (px_up I1 54 14 0) d x w f v) x w v = I2
        have g2 : ∀ q k, I2 q k = if q = vq w ∧ k = vk w x then v else m_add1 (px_up I1 54 14 0) d x w f v q k := by
          intro q k
          rw [← hI2]; exact m_put_at ha
        have hF : ∀ q k, ¬ (28 ≤ q ∧ q ≤ 32) → ¬ (65 ≤ q ∧ q ≤ 68) → ¬ (q = 54 ∧ (k = 13 ∨ k = 14)) → I2 q k = if (q = wq w ∧ k = wk w x) ∨ (q = vq w ∧ k = vk w x) then v else I q k := by
          intro q k a b c
          rw [g2]
          by_cases y : q = vq w ∧ k = vk w x
          · rw [if_pos y, if_pos (Or.inr y)]
          · rw [if_neg y, m_add1, px_up_ne (by omega), px_up_ne (by omega), px_up_ne (by omega), px_up_ne (by omega), px_up_ne (by omega), px_up_ne (by omega), g1, hY q k a]
            by_cases y2 : q = wq w ∧ k = wk w x
            · rw [if_pos y2, if_pos (Or.inl y2)]
            · rw [if_neg y2, if_neg (fun s => s.elim y2 y)]
        have r1 : ∀ q k, 28 ≤ q ∧ q ≤ 32 → I2 q k = g_add1 I d x w f v q k := by
          intro q k a
          rw [g2, if_neg (by omega), m_add1, px_up_ne (by omega), px_up_ne (by omega), px_up_ne (by omega), px_up_ne (by omega), px_up_ne (by omega), px_up_ne (by omega), g1, if_neg (by omega), g_add, if_pos d40]
        have r2 : ∀ q k, 65 ≤ q ∧ q ≤ 68 → I2 q k = m_add1 (px_up I1 54 14 0) d x w f v q k := by
          intro q k a
          rw [g2, if_neg (by omega)]
        have r29 : ∀ k, I2 29 k = if k = d then x else I 29 k := by intro k; rw [r1 29 k (by omega)]; simp [g_add1, px_up_at]
        have r30 : ∀ k, I2 30 k = if k = d then w else I 30 k := by intro k; rw [r1 30 k (by omega)]; simp [g_add1, px_up_at]
        have r31 : ∀ k, I2 31 k = if k = d then f else I 31 k := by intro k; rw [r1 31 k (by omega)]; simp [g_add1, px_up_at]
        have r32 : ∀ k, I2 32 k = if k = d then v else I 32 k := by intro k; rw [r1 32 k (by omega)]; simp [g_add1, px_up_at]
        have r65 : ∀ k, I2 65 k = if k = d then w else I 65 k := by intro k; rw [r2 65 k (by omega)]; simp [m_add1, px_up_at, hM 65 (by omega)]
        have r66 : ∀ k, I2 66 k = if k = d then x else I 66 k := by intro k; rw [r2 66 k (by omega)]; simp [m_add1, px_up_at, hM 66 (by omega)]
        have r67 : ∀ k, I2 67 k = if k = d then f else I 67 k := by intro k; rw [r2 67 k (by omega)]; simp [m_add1, px_up_at, hM 67 (by omega)]
        have r68 : ∀ k, I2 68 k = if k = d then v else I 68 k := by intro k; rw [r2 68 k (by omega)]; simp [m_add1, px_up_at, hM 68 (by omega)]
        refine r_mend h ha hv hF ⟨?_, ?_, ?_, ?_, by omega, ⟨?_, ?_, ?_, ?_⟩, fun k hk => ?_⟩
        · rw [r1 28 5 (by omega)]; simp [g_add1, px_up_at]
        · rw [g2, if_neg (by omega)]; simp [m_add1, px_up_at]
        · rw [r1 28 6 (by omega)]; simp [g_add1, px_up_at]
        · rw [g2, if_neg (by omega)]; simp [m_add1, px_up_at, nI_0]
        · funext k; rw [r29, r66, k6]
        · funext k; rw [r30, r65, k7]
        · funext k; rw [r31, r67, k8]
        · funext k; rw [r32, r68, k9]
        · rw [r29, r30, r31, r32]
          by_cases y : k = d
          · rw [if_pos y, if_pos y, if_pos y, if_pos y]; exact hent
          · rw [if_neg y, if_neg y, if_neg y, if_neg y]; exact k10 k (by omega)
      · have e40 : d = 40 := by omega
        rw [if_neg d40] at cM
        refine r_do cG cM rfl ⟨m, n, 40, 0, t, nb, Ls, ?_⟩
        generalize hI2 : m_put (m_add1 (px_up (m_fg (px_up I1 54 14 0) 39) 54 13 39) 39 x w f v) x w v = I2
        have g2 : ∀ q k, I2 q k = if q = vq w ∧ k = vk w x then v else m_add1 (px_up (m_fg (px_up I1 54 14 0) 39) 54 13 39) 39 x w f v q k := by
          intro q k
          rw [← hI2]; exact m_put_at ha
        have fgq : ∀ q k, ¬ (65 ≤ q ∧ q ≤ 68) → m_fg (px_up I1 54 14 0) 39 q k = px_up I1 54 14 0 q k := by
          intro q k a
          show (if (65 ≤ q ∧ q ≤ 68) ∧ k < 39 then _ else _) = _
          rw [if_neg (fun s => a s.1)]
        have fgs : ∀ q k, 65 ≤ q ∧ q ≤ 68 → m_fg (px_up I1 54 14 0) 39 q k = if k < 39 then I q (k + 1) else I q k := by
          intro q k a
          show (if (65 ≤ q ∧ q ≤ 68) ∧ k < 39 then _ else _) = _
          rw [px_up_ne (by omega), px_up_ne (by omega), hM q (by omega)]
          by_cases y : k < 39
          · rw [if_pos ⟨a, y⟩, if_pos y]
          · rw [if_neg (fun s => y s.2), if_neg y]
        have hF : ∀ q k, ¬ (28 ≤ q ∧ q ≤ 32) → ¬ (65 ≤ q ∧ q ≤ 68) → ¬ (q = 54 ∧ (k = 13 ∨ k = 14)) → I2 q k = if (q = wq w ∧ k = wk w x) ∨ (q = vq w ∧ k = vk w x) then v else I q k := by
          intro q k a b c
          rw [g2]
          by_cases y : q = vq w ∧ k = vk w x
          · rw [if_pos y, if_pos (Or.inr y)]
          · rw [if_neg y, m_add1, px_up_ne (by omega), px_up_ne (by omega), px_up_ne (by omega), px_up_ne (by omega), px_up_ne (by omega), px_up_ne (by omega), fgq q k b, px_up_ne (by omega), g1, hY q k a]
            by_cases y2 : q = wq w ∧ k = wk w x
            · rw [if_pos y2, if_pos (Or.inl y2)]
            · rw [if_neg y2, if_neg (fun s => s.elim y2 y)]
        have r1 : ∀ q k, 28 ≤ q ∧ q ≤ 32 → I2 q k = g_add1 (g_forget I) 39 x w f v q k := by
          intro q k a
          rw [g2, if_neg (by omega), m_add1, px_up_ne (by omega), px_up_ne (by omega), px_up_ne (by omega), px_up_ne (by omega), px_up_ne (by omega), px_up_ne (by omega), fgq q k (by omega), px_up_ne (by omega), g1, if_neg (by omega), g_add, if_neg d40]
        have r2 : ∀ q k, 65 ≤ q ∧ q ≤ 68 → I2 q k = m_add1 (px_up (m_fg (px_up I1 54 14 0) 39) 54 13 39) 39 x w f v q k := by
          intro q k a
          rw [g2, if_neg (by omega)]
        have cpk : ∀ (g : Nat → Int32) (k : Nat), (if k < 39 then g (1 + k) else g k) = (if k < 39 then g (k + 1) else g k) := by
          intro g k; rw [Nat.add_comm]
        have r29 : ∀ k, I2 29 k = if k = 39 then x else if k < 39 then I 29 (k + 1) else I 29 k := by intro k; rw [r1 29 k (by omega), ← cpk]; simp [g_add1, g_forget, px_up_at, px_cp_at]
        have r30 : ∀ k, I2 30 k = if k = 39 then w else if k < 39 then I 30 (k + 1) else I 30 k := by intro k; rw [r1 30 k (by omega), ← cpk]; simp [g_add1, g_forget, px_up_at, px_cp_at]
        have r31 : ∀ k, I2 31 k = if k = 39 then f else if k < 39 then I 31 (k + 1) else I 31 k := by intro k; rw [r1 31 k (by omega), ← cpk]; simp [g_add1, g_forget, px_up_at, px_cp_at]
        have r32 : ∀ k, I2 32 k = if k = 39 then v else if k < 39 then I 32 (k + 1) else I 32 k := by intro k; rw [r1 32 k (by omega), ← cpk]; simp [g_add1, g_forget, px_up_at, px_cp_at]
        have r65 : ∀ k, I2 65 k = if k = 39 then w else if k < 39 then I 65 (k + 1) else I 65 k := by intro k; rw [r2 65 k (by omega)]; simp [m_add1, px_up_at, fgs]
        have r66 : ∀ k, I2 66 k = if k = 39 then x else if k < 39 then I 66 (k + 1) else I 66 k := by intro k; rw [r2 66 k (by omega)]; simp [m_add1, px_up_at, fgs]
        have r67 : ∀ k, I2 67 k = if k = 39 then f else if k < 39 then I 67 (k + 1) else I 67 k := by intro k; rw [r2 67 k (by omega)]; simp [m_add1, px_up_at, fgs]
        have r68 : ∀ k, I2 68 k = if k = 39 then v else if k < 39 then I 68 (k + 1) else I 68 k := by intro k; rw [r2 68 k (by omega)]; simp [m_add1, px_up_at, fgs]
        refine r_mend h ha hv hF ⟨?_, ?_, ?_, ?_, by omega, ⟨?_, ?_, ?_, ?_⟩, fun k hk => ?_⟩
        · rw [r1 28 5 (by omega)]; simp [g_add1, px_up_at]
        · rw [g2, if_neg (by omega)]; simp [m_add1, px_up_at]
        · rw [r1 28 6 (by omega)]; simp [g_add1, px_up_at]
        · rw [g2, if_neg (by omega)]; simp [m_add1, px_up_at, fgq, nI_0]
        · funext k; rw [r29, r66, k6]
        · funext k; rw [r30, r65, k7]
        · funext k; rw [r31, r67, k8]
        · funext k; rw [r32, r68, k9]
        · rw [r29, r30, r31, r32]
          by_cases y : k = 39
          · rw [if_pos y, if_pos y, if_pos y, if_pos y]; exact hent
          · rw [if_neg y, if_neg y, if_neg y, if_neg y, if_pos (by omega), if_pos (by omega), if_pos (by omega), if_pos (by omega)]; exact k10 (k + 1) (by omega)
  · rw [if_neg z, g_mend, if_neg z] at cG
    have cM := c_X12_mend (l := l) (I := I) (J := J) (x := x) (w := w) (v := v) k2 (by omega) (hat I (fun _ _ => rfl))
    have z' : ¬ (m_pl I x w = true ∧ m_may w v = true) := by
      rintro ⟨a, b⟩
      have ha := hat I (fun _ _ => rfl) a
      exact z ⟨by rw [hpl.1]; exact a, by rw [may_eq ha]; exact b⟩
    rw [if_neg z', if_neg z'] at cM
    exact r_do cG cM rfl ⟨m, n, d, u, t, nb, Ls, h⟩

