/-! the Model: the reader does what the grammar says -/
def m_lev : Nat → px_M
  | 0 => mX12_operand
  | 1 => mX12_product
  | 2 => mX12_sum
  | 3 => mX12_compared
  | 4 => mX12_both
  | _ + 5 => mX12_either
def m_ls (v : Value) : Nat → List Value
  | 4 => [.ref 54]
  | 5 => [.ref 54]
  | _ => [.ref 54, v]
def m_PP (l : Launch) (J : px_J) (t : Nat → Int32) (n L r a a' : Nat) (ok : Bool) (c : List l_C) : Prop :=
  (L ≤ 5 → ∀ (I : px_I) (k : Nat), m_s t n a k r I → m_C l J (m_lev L) (6 * r + L + 2) I (m_out t n a k r a' ok c I)) ∧
  (∀ L', L = 11 + L' → L' < 5 → ∀ (I : px_I) (k : Nat) (v : Value) (Q : px_Q), m_s t n a k r I → (∀ X, m_out t n a k r a' ok c I X → Q none X J) → V0 l (px_rm (6 * r + L' + 3) 0 0) (m_lev (L' + 1)) (false, []) 0 0 4 (m_ls v (L' + 1)) [] (px_mk I J) (px_q Q))
theorem dg_no {x : Int32} (h : T_dg x = true) : s_name x < 0 ∧ ¬ x = 33 ∧ ¬ x = 45 ∧ ¬ x = 40 := by
  have ne : ∀ c : Int32, T_dg c = false → ¬ x = c := fun c hc e => by rw [e, hc] at h; exact absurd h (by decide)
  refine ⟨?_, ne 33 (by decide), ne 45 (by decide), ne 40 (by decide)⟩
  unfold s_name
  rw [if_neg (ne 119 (by decide)), if_neg (ne 103 (by decide)), if_neg (ne 108 (by decide)), if_neg (ne 111 (by decide)), if_neg (ne 107 (by decide)), if_neg (ne 121 (by decide))]
  decide
theorem m_s.open1 {t : Nat → Int32} {n a k r : Nat} {I : px_I} (h : m_s t n a k (r + 1) I) (ha : a < n) : m_s t n (a + 1) k r (px_up (px_up I 54 23 (nI (6 - r))) 54 21 (nI (a + 1))) := ⟨(px_up_ne (by omega)).trans ((px_up_ne (by omega)).trans h.1), h.2.1, px_up_same, ha, (px_up_ne (by omega)).trans ((px_up_ne (by omega)).trans h.2.2.2.2.1), ⟨(px_up_ne (by omega)).trans px_up_same, by have := h.2.2.2.2.2.1.2; omega⟩, ⟨(px_up_ne (by omega)).trans ((px_up_ne (by omega)).trans h.2.2.2.2.2.2.1.1), by have := h.2.2.2.2.2.2.1.2; omega⟩, (px_up_row (by omega)).trans ((px_up_row (by omega)).trans h.2.2.2.2.2.2.2)⟩
theorem m_s.close {t : Nat → Int32} {n a k r : Nat} {I : px_I} (h : m_s t n a k r I) (hr : r + 1 ≤ 6) : m_s t n a k (r + 1) (px_up I 54 23 (I 54 23 - 1)) := by
  refine ⟨(px_up_ne (by omega)).trans h.1, h.2.1, (px_up_ne (by omega)).trans h.2.2.1, h.2.2.2.1, (px_up_ne (by omega)).trans h.2.2.2.2.1, ⟨?_, hr⟩, ⟨(px_up_ne (by omega)).trans h.2.2.2.2.2.2.1.1, h.2.2.2.2.2.2.1.2⟩, (px_up_row (by omega)).trans h.2.2.2.2.2.2.2⟩
  rw [px_up_same, h.2.2.2.2.2.1.1, show 6 - r = (6 - (r + 1)) + 1 from by omega, nI_pred]
theorem m_d.close {t : Nat → Int32} {n a k : Nat} {I : px_I} {x : Int32} (h : m_d t n a k I) : m_d t n a k (px_up I 54 23 x) := ⟨(px_up_ne (by omega)).trans h.1, h.2.1, (px_up_ne (by omega)).trans h.2.2.1, h.2.2.2.1, (px_up_ne (by omega)).trans h.2.2.2.2.1, (px_up_ne (by omega)).trans h.2.2.2.2.2.1, h.2.2.2.2.2.2.1, (px_up_row (by omega)).trans h.2.2.2.2.2.2.2⟩
theorem m_fr.open1 {k : Nat} {I X : px_I} {x y : Int32} (h : m_fr k (px_up (px_up I 54 23 x) 54 21 y) X) : m_fr k I X := ((m_fr.rf.up54 (by omega)).up54 (by omega)).tr h (Nat.le_refl _)
/-- an operator before an operand -/
theorem m_out.pre {t : Nat → Int32} {n a k r a' k1 : Nat} {c : List l_C} {I X : px_I} {x y w : Int32} {s : l_C} (h : m_out t n (a + 1) k r a' true c (px_up (px_up I 54 23 x) 54 21 y) X) (hka : k ≤ a) (hr : r + 1 ≤ 6) (hk1 : k1 < 130) (hk2 : X 54 24 = nI k1) (hs : m_act s.1 = w) (hs2 : ¬ s.1 = 35 ∧ ¬ s.1 = 36) (hcd : m_cd s) : m_out t n a k (r + 1) a' true (c ++ [s]) I (m_addS (px_up X 54 23 (X 54 23 - 1)) k1 w 0) := by
  obtain ⟨h1, h2, h3⟩ := h
  obtain ⟨s1, c1, b1⟩ := h2 rfl
  have hn120 := s1.2.1
  have han := s1.2.2.2.1
  have e : k1 = k + c.length := (qI_inj (by omega) (by have := s1.2.2.2.2.2.2.1.2; omega)).mp (hk2.symm.trans s1.2.2.2.2.2.2.1.1)
  subst e
  refine ⟨(h1.open1.up54 (by omega)).tr m_fr_add (by omega), fun _ => ⟨?_, ?_, by rw [List.length_append]; simp; omega⟩, fun q => absurd q (by decide)⟩
  · have := (s1.close hr).add (w := w) (v := 0) (by omega)
    rw [List.length_append]
    exact this
  · refine (m_code_app c [s] (130 + k)).mpr ⟨m_code_rng c (130 + k) (130 + (k + c.length)) (by omega) (m_fr_add (k := k + c.length)).2.2 (m_code_congr (px_up_row (by omega)) (px_up_row (by omega)) _ _ c1), ?_⟩
    rw [Nat.add_assoc]
    exact ⟨m_add_code.1.trans hs.symm, fun q => absurd q (not_or.mpr hs2), hcd, trivial⟩
theorem m_out.preX {t : Nat → Int32} {n a k r a' k1 : Nat} {c : List l_C} {I X : px_I} {x y w : Int32} (h : m_out t n (a + 1) k r a' false c (px_up (px_up I 54 23 x) 54 21 y) X) (hka : k ≤ a) (hk1 : k1 < 130) (hk2 : X 54 24 = nI k1) : m_out t n a k (r + 1) a' false [] I (m_addS (px_up X 54 23 (X 54 23 - 1)) k1 w 0) := by
  obtain ⟨h1, h2, h3⟩ := h
  obtain ⟨k', q1, q2, q3⟩ := h3 rfl
  have hn120 := q1.2.1
  have han := q1.2.2.2.1
  have e : k1 = k' := (qI_inj (by omega) (by have := q1.2.2.2.2.2.2.1; omega)).mp (hk2.symm.trans q1.2.2.2.2.2.1)
  subst e
  exact ⟨(h1.open1.up54 (by omega)).tr m_fr_add (by omega), fun q => absurd q (by decide), fun _ => ⟨k1 + 1, (q1.close (x := X 54 23 - 1)).add (by omega), by omega, by omega⟩⟩
theorem m_noL {L : Nat} {P : Prop} (h : L ≤ 5) : ∀ L', L = 11 + L' → L' < 5 → P := fun L' e _ => by omega
theorem m_rd {l : Launch} {J : px_J} {t : Nat → Int32} {n L r a a' : Nat} {ok : Bool} {c : List l_C} (p : Pr (m_T t n) L r a a' ok c) : m_PP l J t n L r a a' ok c := by
  refine p (m_PP l J t n) (fun k => ?_)
  match k with
  | 0 =>
    intro r a N h1 h4 hd hn
    obtain ⟨d1, d2, d3, d4⟩ := dg_no (by have := hd 0 (by omega); exact this)
    exact ⟨fun _ I k h => O_fig h d1 d2 d3 d4 (c_X12_figure1 h h1 h4 hd hn), fun L' e => by omega⟩
  | 1 =>
    intro r a hd
    obtain ⟨d1, d2, d3, d4⟩ := dg_no (by have := hd 0 (by omega); exact this)
    exact ⟨fun _ I k h => O_fig h d1 d2 d3 d4 (c_X12_figure0 h (Nat.le_refl 4) (fun i hi => hd i (by omega)) (Or.inr ⟨rfl, hd 4 (by omega)⟩)), fun L' e => by omega⟩
  | 2 =>
    intro r a hn
    exact ⟨fun _ I k h => O_name h hn, fun L' e => by omega⟩
  | 3 =>
    intro a hd hn
    refine ⟨fun _ I k h => ?_, fun L' e => by omega⟩
    by_cases n33 : m_T t n a = 33
    · exact O_shut h hn (Or.inl n33)
    by_cases n45 : m_T t n a = 45
    · exact O_shut h hn (Or.inr (Or.inl n45))
    by_cases n40 : m_T t n a = 40
    · exact O_shut h hn (Or.inr (Or.inr n40))
    exact O_fig h hn n33 n45 n40 (c_X12_figure0 (N := 0) h (by omega) (fun i hi => absurd hi (Nat.not_lt_zero i)) (Or.inl ⟨rfl, hd⟩))
  | 4 =>
    intro r a a' s c hs ih
    refine ⟨fun _ I k h => ?_, fun L' e => by omega⟩
    have hka := h.2.2.2.2.2.2.1.2
    have hr6 := h.2.2.2.2.2.1.2
    have hT1 : ¬ m_T t n a = -1 := by rcases hs with ⟨e, _⟩ | ⟨e, _⟩ <;> rw [e] <;> decide
    have hn : s_name (m_T t n a) < 0 := by rcases hs with ⟨e, _⟩ | ⟨e, _⟩ <;> rw [e] <;> decide
    have h1 := ih.1 (by omega) _ k (h.open1 (m_T_lt hT1))
    rcases hs with ⟨e, es⟩ | ⟨e, es⟩
    · exact O_pre (D := 6 * (r + 1)) (w := 3) h hn (Or.inl ⟨e, rfl⟩) (by omega) h1 add_product (fun X k1 hX hk1 hk2 => hX.pre hka (by omega) hk1 hk2 (by rw [es]; decide) (by rw [es]; exact ⟨by decide, by decide⟩) (Or.inr (Or.inr (Or.inl es))))
    · exact O_pre (D := 6 * (r + 1)) (w := 4) h hn (Or.inr ⟨e, rfl⟩) (by omega) h1 add_product (fun X k1 hX hk1 hk2 => hX.pre hka (by omega) hk1 hk2 (by rw [es]; decide) (by rw [es]; exact ⟨by decide, by decide⟩) (Or.inr (Or.inr (Or.inr (Or.inl es)))))
  | 5 =>
    intro r a a' hs ih
    refine ⟨fun _ I k h => ?_, fun L' e => by omega⟩
    have hka := h.2.2.2.2.2.2.1.2
    have hT1 : ¬ m_T t n a = -1 := by rcases hs with e | e <;> rw [e] <;> decide
    have hn : s_name (m_T t n a) < 0 := by rcases hs with e | e <;> rw [e] <;> decide
    have h1 := ih.1 (by omega) _ k (h.open1 (m_T_lt hT1))
    rcases hs with e | e
    · exact O_pre (D := 6 * (r + 1)) (w := 3) h hn (Or.inl ⟨e, rfl⟩) (by omega) h1 add_product (fun X k1 hX hk1 hk2 => hX.preX hka hk1 hk2)
    · exact O_pre (D := 6 * (r + 1)) (w := 4) h hn (Or.inr ⟨e, rfl⟩) (by omega) h1 add_product (fun X k1 hX hk1 hk2 => hX.preX hka hk1 hk2)
  | 6 =>
    intro r a a' c hT ih hT2
    refine ⟨fun _ I k h => ?_, fun L' e => by omega⟩
    have hr6 := h.2.2.2.2.2.1.2
    have h1 := ih.1 (by omega) _ k (h.open1 (m_T_lt (by rw [hT]; decide)))
    refine O_par (D := 6 * (r + 1)) h hT h1 (fun X hX => Or.inr ⟨a', k + c.length, r, ?_⟩)
    obtain ⟨f1, f2, _⟩ := hX
    obtain ⟨s1, c1, b1⟩ := f2 rfl
    refine ⟨s1, Or.inl ⟨hT2, ?_⟩⟩
    have hlt := m_T_lt (n := n) (t := t) (a := a') (by rw [hT2]; decide)
    have s2 := (s1.go hlt).close (by omega)
    rw [show px_up X 54 21 (nI (a' + 1)) 54 23 = X 54 23 from px_up_ne (by omega)] at s2
    exact ⟨(f1.open1.up54 (by omega)).up54 (by omega), fun _ => ⟨s2, m_code_congr ((px_up_row (by omega)).trans (px_up_row (by omega))) ((px_up_row (by omega)).trans (px_up_row (by omega))) _ _ c1, by omega⟩, fun q => absurd q (by decide)⟩
  | 7 =>
    intro r a a' hT ih
    refine ⟨fun _ I k h => ?_, fun L' e => by omega⟩
    have h1 := ih.1 (by omega) _ k (h.open1 (m_T_lt (by rw [hT]; decide)))
    refine O_par (D := 6 * (r + 1)) h hT h1 (fun X hX => ?_)
    obtain ⟨f1, f2, f3⟩ := hX
    obtain ⟨k', q1, q2, q3⟩ := f3 rfl
    exact Or.inl ⟨a', k', q1, f1.open1, fun q => absurd q (by decide), fun _ => ⟨k', q1, by omega, q3⟩⟩
  | 8 =>
    intro r a a' c hT ih hT2
    refine ⟨fun _ I k h => ?_, fun L' e => by omega⟩
    have h1 := ih.1 (by omega) _ k (h.open1 (m_T_lt (by rw [hT]; decide)))
    refine O_par (D := 6 * (r + 1)) h hT h1 (fun X hX => Or.inr ⟨a', k + c.length, r, ?_⟩)
    obtain ⟨f1, f2, _⟩ := hX
    obtain ⟨s1, c1, b1⟩ := f2 rfl
    exact ⟨s1, Or.inr ⟨hT2, f1.open1.up54 (by omega), fun q => absurd q (by decide), fun _ => ⟨k + c.length, s1.wr, by omega, by omega⟩⟩⟩
  | 9 =>
    intro r a hd hn n33 n45 n40
    exact ⟨fun _ I k h => O_fig h hn n33 n45 n40 (c_X12_figure0 (N := 0) h (by omega) (fun i hi => absurd hi (Nat.not_lt_zero i)) (Or.inl ⟨rfl, hd⟩)), fun L' e => by omega⟩
  | 10 =>
    intro L r a b a' c c' hL i1 i2
    refine ⟨fun _ I k h => ?_, fun L' e => by omega⟩
    match L, hL, i1, i2 with
    | 0, _, i1, i2 => exact R10_product (i1.1 (by omega) I k h) (fun X v Q hs hq => i2.2 0 rfl (by omega) X _ v Q hs hq)
    | 1, _, i1, i2 => exact R10_sum (i1.1 (by omega) I k h) (fun X v Q hs hq => i2.2 1 rfl (by omega) X _ v Q hs hq)
    | 2, _, i1, i2 => exact R10_compared (i1.1 (by omega) I k h) (fun X v Q hs hq => i2.2 2 rfl (by omega) X _ v Q hs hq)
    | 3, _, i1, i2 => exact R10_both (i1.1 (by omega) I k h) (fun X Q hs hq => i2.2 3 rfl (by omega) X _ .null Q hs hq)
    | 4, _, i1, i2 => exact R10_either (i1.1 (by omega) I k h) (fun X Q hs hq => i2.2 4 rfl (by omega) X _ .null Q hs hq)
  | 11 =>
    intro L r a b hL i1
    refine ⟨fun _ I k h => ?_, fun L' e => by omega⟩
    match L, hL, i1 with
    | 0, _, i1 => exact R11_product (i1.1 (by omega) I k h)
    | 1, _, i1 => exact R11_sum (i1.1 (by omega) I k h)
    | 2, _, i1 => exact R11_compared (i1.1 (by omega) I k h)
    | 3, _, i1 => exact R11_both (i1.1 (by omega) I k h)
    | 4, _, i1 => exact R11_either (i1.1 (by omega) I k h)
  | 12 =>
    intro L r a b a' c hL i1 i2
    refine ⟨fun _ I k h => ?_, fun L' e => by omega⟩
    match L, hL, i1, i2 with
    | 0, _, i1, i2 => exact R12_product (i1.1 (by omega) I k h) (fun X v Q hs hq => i2.2 0 rfl (by omega) X _ v Q hs hq)
    | 1, _, i1, i2 => exact R12_sum (i1.1 (by omega) I k h) (fun X v Q hs hq => i2.2 1 rfl (by omega) X _ v Q hs hq)
    | 2, _, i1, i2 => exact R12_compared (i1.1 (by omega) I k h) (fun X v Q hs hq => i2.2 2 rfl (by omega) X _ v Q hs hq)
    | 3, _, i1, i2 => exact R12_both (i1.1 (by omega) I k h) (fun X Q hs hq => i2.2 3 rfl (by omega) X _ .null Q hs hq)
    | 4, _, i1, i2 => exact R12_either (i1.1 (by omega) I k h) (fun X Q hs hq => i2.2 4 rfl (by omega) X _ .null Q hs hq)
  | 13 =>
    intro L r b hL hop
    refine ⟨fun e => by omega, fun L' e hL' I k v Q h hQ => ?_⟩
    obtain rfl : L = L' := by omega
    match L, hL, hop with
    | 0, _, hop => exact R13_product h hop hQ
    | 1, _, hop => exact R13_sum h hop hQ
    | 2, _, hop => exact R13_compared h hop hQ
    | 3, _, hop => exact R13_both h hop hQ
    | 4, _, hop => exact R13_either h hop hQ
  | 14 =>
    intro L r b b' a' c c' hL hn2 hop i1 i2
    refine ⟨fun e => by omega, fun L' e hL' I k v Q h hQ => ?_⟩
    obtain rfl : L = L' := by omega
    have hb := m_T_lt (T_op_neg hop)
    match L, hL, hn2, hop, i1, i2 with
    | 0, _, hn2, hop, i1, i2 => exact R14_product h hop (i1.1 (by omega) _ k (h.go hb)) (fun X v Q hs hq => i2.2 0 rfl (by omega) X _ v Q hs hq) hQ
    | 1, _, hn2, hop, i1, i2 => exact R14_sum h hop (i1.1 (by omega) _ k (h.go hb)) (fun X v Q hs hq => i2.2 1 rfl (by omega) X _ v Q hs hq) hQ
    | 2, _, hn2, hop, i1, i2 => exact absurd rfl hn2
    | 3, _, hn2, hop, i1, i2 => exact R14_both h hop (i1.1 (by omega) _ k (h.go hb)) (fun X Q hs hq => i2.2 3 rfl (by omega) X _ .null Q hs hq) hQ
    | 4, _, hn2, hop, i1, i2 => exact R14_either h hop (i1.1 (by omega) _ k (h.go hb)) (fun X Q hs hq => i2.2 4 rfl (by omega) X _ .null Q hs hq) hQ
  | 15 =>
    intro L r b b' hL hop i1
    refine ⟨fun e => by omega, fun L' e hL' I k v Q h hQ => ?_⟩
    obtain rfl : L = L' := by omega
    have hb := m_T_lt (T_op_neg hop)
    match L, hL, hop, i1 with
    | 0, _, hop, i1 => exact R15_product h hop (i1.1 (by omega) _ k (h.go hb)) hQ
    | 1, _, hop, i1 => exact R15_sum h hop (i1.1 (by omega) _ k (h.go hb)) hQ
    | 2, _, hop, i1 => exact R15_compared h hop (i1.1 (by omega) _ k (h.go hb)) hQ
    | 3, _, hop, i1 => exact R15_both h hop (i1.1 (by omega) _ k (h.go hb)) hQ
    | 4, _, hop, i1 => exact R15_either h hop (i1.1 (by omega) _ k (h.go hb)) hQ
  | 16 =>
    intro L r b b' a' c hL hn2 hop i1 i2
    refine ⟨fun e => by omega, fun L' e hL' I k v Q h hQ => ?_⟩
    obtain rfl : L = L' := by omega
    have hb := m_T_lt (T_op_neg hop)
    match L, hL, hn2, hop, i1, i2 with
    | 0, _, hn2, hop, i1, i2 => exact R16_product h hop (i1.1 (by omega) _ k (h.go hb)) (fun X v Q hs hq => i2.2 0 rfl (by omega) X _ v Q hs hq) hQ
    | 1, _, hn2, hop, i1, i2 => exact R16_sum h hop (i1.1 (by omega) _ k (h.go hb)) (fun X v Q hs hq => i2.2 1 rfl (by omega) X _ v Q hs hq) hQ
    | 2, _, hn2, hop, i1, i2 => exact absurd rfl hn2
    | 3, _, hn2, hop, i1, i2 => exact R16_both h hop (i1.1 (by omega) _ k (h.go hb)) (fun X Q hs hq => i2.2 3 rfl (by omega) X _ .null Q hs hq) hQ
    | 4, _, hn2, hop, i1, i2 => exact R16_either h hop (i1.1 (by omega) _ k (h.go hb)) (fun X Q hs hq => i2.2 4 rfl (by omega) X _ .null Q hs hq) hQ
  | 17 =>
    intro r b b' c hop i1
    refine ⟨fun e => by omega, fun L' e hL' I k v Q h hQ => ?_⟩
    obtain rfl : L' = 2 := by omega
    have hb := m_T_lt (T_op_neg hop)
    exact R17_compared h hop (i1.1 (by omega) _ k (h.go hb)) hQ
  | _ + 18 => trivial

