/-! the Model: what the reader makes of a tape, by the grammar's rules -/
theorem m_code_rng {X Y : px_I} : ∀ (c : List l_C) (i e : Nat), i + c.length ≤ e → (∀ j, j < e → Y 70 j = X 70 j ∧ Y 71 j = X 71 j) → m_code X i c → m_code Y i c := by
  intro c
  induction c with
  | nil => intro i e _ _ _; trivial
  | cons x c ih =>
    intro i e he h hc
    simp only [List.length_cons] at he
    exact ⟨(h i (by omega)).1.trans hc.1, fun q => (h i (by omega)).2.trans (hc.2.1 q), hc.2.2.1, ih (i + 1) e (by omega) h hc.2.2.2⟩
theorem m_out.app {t : Nat → Int32} {n a k r b a' : Nat} {c c' : List l_C} {I X Y : px_I} (h : m_out t n a k r b true c I X) (g : m_out t n b (k + c.length) r a' true c' X Y) : m_out t n a k r a' true (c ++ c') I Y := by
  obtain ⟨h1, h2, _⟩ := h
  obtain ⟨g1, g2, _⟩ := g
  obtain ⟨s1, c1, b1⟩ := h2 rfl
  obtain ⟨s2, c2, b2'⟩ := g2 rfl
  refine ⟨h1.tr g1 (by omega), fun _ => ⟨?_, ?_, by rw [List.length_append]; omega⟩, fun q => absurd q (by decide)⟩
  · rw [List.length_append, ← Nat.add_assoc]; exact s2
  · refine (m_code_app c c' (130 + k)).mpr ⟨m_code_rng c (130 + k) (130 + (k + c.length)) (by omega) g1.2.2 c1, ?_⟩
    rw [Nat.add_assoc]
    exact c2
theorem m_out.appX {t : Nat → Int32} {n a k r b a' : Nat} {c c' : List l_C} {I X Y : px_I} (h : m_out t n a k r b true c I X) (g : m_out t n b (k + c.length) r a' false c' X Y) : m_out t n a k r a' false [] I Y := by
  obtain ⟨h1, h2, _⟩ := h
  obtain ⟨g1, _, g3⟩ := g
  obtain ⟨s1, c1, b1⟩ := h2 rfl
  obtain ⟨k', q1, q2, q3⟩ := g3 rfl
  exact ⟨h1.tr g1 (by omega), fun q => absurd q (by decide), fun _ => ⟨k', q1, by omega, by omega⟩⟩
theorem m_out.back {t : Nat → Int32} {n a k r a' : Nat} {ok : Bool} {c : List l_C} {I X : px_I} {x : Int32} (h : m_out t n (a + 1) k r a' ok c (px_up I 54 21 x) X) : m_out t n a k r a' ok c I X := by
  obtain ⟨h1, h2, h3⟩ := h
  refine ⟨(m_fr.rf.up54 (by omega)).tr h1 (Nat.le_refl _), fun e => ⟨(h2 e).1, (h2 e).2.1, by have := (h2 e).2.2; omega⟩, fun e => ?_⟩
  obtain ⟨k', q1, q2, q3⟩ := h3 e
  exact ⟨k', q1, by omega, q3⟩
/-- a sign behind what was read -/
theorem m_out.sign {t : Nat → Int32} {n a k r a' k1 : Nat} {c : List l_C} {I X : px_I} {x w : Int32} {s : l_C} (h : m_out t n (a + 1) k r a' true c (px_up I 54 21 x) X) (hka : k ≤ a) (hk1 : k1 < 130) (hk2 : X 54 24 = nI k1) (hs : m_act s.1 = w) (hs2 : ¬ s.1 = 35 ∧ ¬ s.1 = 36) (hcd : m_cd s) : m_out t n a k r a' true (c ++ [s]) I (m_addS X k1 w 0) := by
  obtain ⟨h1, h2, h3⟩ := h
  obtain ⟨s1, c1, b1⟩ := h2 rfl
  have hn120 := s1.2.1
  have han := s1.2.2.2.1
  have e : k1 = k + c.length := (qI_inj (by omega) (by have := s1.2.2.2.2.2.2.1.2; omega)).mp (hk2.symm.trans s1.2.2.2.2.2.2.1.1)
  subst e
  refine ⟨((m_fr.rf.up54 (by omega)).tr h1 (Nat.le_refl _)).tr m_fr_add (by omega), fun _ => ⟨?_, ?_, by rw [List.length_append]; simp; omega⟩, fun q => absurd q (by decide)⟩
  · have := s1.add (w := w) (v := 0) (by omega)
    rw [List.length_append]
    exact this
  · refine (m_code_app c [s] (130 + k)).mpr ⟨m_code_rng c (130 + k) (130 + (k + c.length)) (by omega) (m_fr_add (k := k + c.length)).2.2 c1, ?_⟩
    rw [Nat.add_assoc]
    exact ⟨m_add_code.1.trans hs.symm, fun q => absurd q (not_or.mpr hs2), hcd, trivial⟩
theorem m_out.signX {t : Nat → Int32} {n a k r a' k1 : Nat} {c : List l_C} {I X : px_I} {x w : Int32} (h : m_out t n (a + 1) k r a' false c (px_up I 54 21 x) X) (hka : k ≤ a) (hk1 : k1 < 130) (hk2 : X 54 24 = nI k1) : m_out t n a k r a' false [] I (m_addS X k1 w 0) ∧ m_d t n a' (k1 + 1) (m_addS X k1 w 0) := by
  obtain ⟨h1, h2, h3⟩ := h
  obtain ⟨k', q1, q2, q3⟩ := h3 rfl
  have hn120 := q1.2.1
  have han := q1.2.2.2.1
  have e : k1 = k' := (qI_inj (by omega) (by have := q1.2.2.2.2.2.2.1; omega)).mp (hk2.symm.trans q1.2.2.2.2.2.1)
  subst e
  have hd := q1.add (w := w) (v := 0) (by omega)
  exact ⟨⟨((m_fr.rf.up54 (by omega)).tr h1 (Nat.le_refl _)).tr m_fr_add (by omega), fun q => absurd q (by decide), fun _ => ⟨k1 + 1, hd, by omega, by omega⟩⟩, hd⟩

theorem R10_product {l : Launch} {J : px_J} {t : Nat → Int32} {n a k r b a' : Nat} {c c' : List l_C} {I : px_I} (h1 : m_C l J mX12_operand (6 * r + 0 + 2) I (m_out t n a k r b true c I)) (h2 : ∀ (X : px_I) (v : Value) (Q : px_Q), m_s t n b (k + c.length) r X → (∀ Y, m_out t n b (k + c.length) r a' true c' X Y → Q none Y J) → V0 l (px_rm (6 * r + 0 + 3) 0 0) mX12_product (false, []) 0 0 4 [.ref 54, v] [] (px_mk X J) (px_q Q)) : m_C l J mX12_product (6 * r + 0 + 3) I (m_out t n a k r a' true (c ++ c') I) := C_product (D := 6 * r + 0 + 1) h1 (fun X hX => h2 X .null _ (hX.2.1 rfl).1 (fun Y hY => ⟨rfl, rfl, hX.app hY⟩))
theorem R11_product {l : Launch} {J : px_J} {t : Nat → Int32} {n a k r b : Nat} {I : px_I} (h1 : m_C l J mX12_operand (6 * r + 0 + 2) I (m_out t n a k r b false [] I)) : m_C l J mX12_product (6 * r + 0 + 3) I (m_out t n a k r b false [] I) := C_product (D := 6 * r + 0 + 1) h1 (fun X hX => (hX.2.2 rfl).elim (fun k' hk => E_product hk.1 ⟨rfl, rfl, hX⟩))
theorem R12_product {l : Launch} {J : px_J} {t : Nat → Int32} {n a k r b a' : Nat} {c : List l_C} {I : px_I} (h1 : m_C l J mX12_operand (6 * r + 0 + 2) I (m_out t n a k r b true c I)) (h2 : ∀ (X : px_I) (v : Value) (Q : px_Q), m_s t n b (k + c.length) r X → (∀ Y, m_out t n b (k + c.length) r a' false [] X Y → Q none Y J) → V0 l (px_rm (6 * r + 0 + 3) 0 0) mX12_product (false, []) 0 0 4 [.ref 54, v] [] (px_mk X J) (px_q Q)) : m_C l J mX12_product (6 * r + 0 + 3) I (m_out t n a k r a' false [] I) := C_product (D := 6 * r + 0 + 1) h1 (fun X hX => h2 X .null _ (hX.2.1 rfl).1 (fun Y hY => ⟨rfl, rfl, hX.appX hY⟩))
theorem R13_product {l : Launch} {J : px_J} {t : Nat → Int32} {n b k r : Nat} {X : px_I} {v : Value} {Q : px_Q} (h : m_s t n b k r X) (hop : T_op 1 (m_T t n b) = false) (hQ : ∀ Y, m_out t n b k r b true [] X Y → Q none Y J) : V0 l (px_rm (6 * r + 0 + 3) 0 0) mX12_product (false, []) 0 0 4 [.ref 54, v] [] (px_mk X J) (px_q Q) := S_product (D := 6 * r + 0 + 2) h (fun e => by rw [e] at hop; exact absurd hop (by decide)) (fun e => by rw [e] at hop; exact absurd hop (by decide)) (fun e => by rw [e] at hop; exact absurd hop (by decide)) (hQ X ⟨m_fr.rf, fun _ => ⟨h, trivial, Nat.le_refl _⟩, fun q => absurd q (by decide)⟩)
theorem T_product {w : Int32} (hop : T_op 1 w = true) : w = 42 ∨ w = 47 ∨ w = 37 := by
  simp [T_op] at hop
  exact hop
theorem A_product {w : Int32} (hop : T_op 1 w = true) : m_act w = w ∧ (¬ w = 35 ∧ ¬ w = 36) ∧ m_cd (w, 0) := by
  have h := T_product hop
  have hs : m_sign w = true := by
    rcases h with e | e | e <;> rw [e] <;> decide
  refine ⟨(m_act_no hs).1, ⟨fun e => by rw [e] at hs; exact absurd hs (by decide), fun e => by rw [e] at hs; exact absurd hs (by decide)⟩, Or.inr (Or.inr (Or.inr (Or.inr hs)))⟩
theorem add_product {t : Nat → Int32} {n a k r a' : Nat} {ok : Bool} {c : List l_C} {I : px_I} : ∀ X, m_out t n a k r a' ok c I X → ∃ k1, k1 < 130 ∧ X 54 24 = nI k1 := by
  intro X h
  cases ok with
  | true =>
    obtain ⟨s1, _, _⟩ := h.2.1 rfl
    exact ⟨_, by have := s1.2.1; have := s1.2.2.2.1; have := s1.2.2.2.2.2.2.1.2; omega, s1.2.2.2.2.2.2.1.1⟩
  | false =>
    obtain ⟨k', q1, _, _⟩ := h.2.2 rfl
    exact ⟨k', by have := q1.2.1; have := q1.2.2.2.1; have := q1.2.2.2.2.2.2.1; omega, q1.2.2.2.2.2.1⟩
theorem R14_product {l : Launch} {J : px_J} {t : Nat → Int32} {n b b' a' k r : Nat} {c c' : List l_C} {I : px_I} {v : Value} {Q : px_Q} (h : m_s t n b k r I) (hop : T_op 1 (m_T t n b) = true) (h1 : m_C l J mX12_operand (6 * r + 0 + 2) (px_up I 54 21 (nI (b + 1))) (m_out t n (b + 1) k r b' true c (px_up I 54 21 (nI (b + 1))))) (h2 : ∀ (X : px_I) (v : Value) (Q : px_Q), m_s t n b' (k + (c ++ [(m_T t n b, 0)]).length) r X → (∀ Y, m_out t n b' (k + (c ++ [(m_T t n b, 0)]).length) r a' true c' X Y → Q none Y J) → V0 l (px_rm (6 * r + 0 + 3) 0 0) mX12_product (false, []) 0 0 4 [.ref 54, v] [] (px_mk X J) (px_q Q)) (hQ : ∀ Y, m_out t n b k r a' true (c ++ (m_T t n b, 0) :: c') I Y → Q none Y J) : V0 l (px_rm (6 * r + 0 + 3) 0 0) mX12_product (false, []) 0 0 4 [.ref 54, v] [] (px_mk I J) (px_q Q) := by
  obtain ⟨a1, a2, a3⟩ := A_product hop
  refine G_product (D := 6 * r + 0 + 1) h rfl (T_product hop) h1 add_product (fun X k1 hX hk1 hk2 => ?_)
  have hs := hX.sign (s := (m_T t n b, 0)) h.2.2.2.2.2.2.1.2 hk1 hk2 a1 a2 a3
  refine h2 _ (.int _) _ (hs.2.1 rfl).1 (fun Y hY => hQ Y ?_)
  have := hs.app hY
  rw [List.append_assoc] at this
  exact this
theorem R15_product {l : Launch} {J : px_J} {t : Nat → Int32} {n b b' k r : Nat} {I : px_I} {v : Value} {Q : px_Q} (h : m_s t n b k r I) (hop : T_op 1 (m_T t n b) = true) (h1 : m_C l J mX12_operand (6 * r + 0 + 2) (px_up I 54 21 (nI (b + 1))) (m_out t n (b + 1) k r b' false [] (px_up I 54 21 (nI (b + 1))))) (hQ : ∀ Y, m_out t n b k r b' false [] I Y → Q none Y J) : V0 l (px_rm (6 * r + 0 + 3) 0 0) mX12_product (false, []) 0 0 4 [.ref 54, v] [] (px_mk I J) (px_q Q) := by
  refine G_product (D := 6 * r + 0 + 1) h rfl (T_product hop) h1 add_product (fun X k1 hX hk1 hk2 => ?_)
  have hs := hX.signX (w := m_T t n b) h.2.2.2.2.2.2.1.2 hk1 hk2
  exact E_product hs.2 (hQ _ hs.1)
theorem R16_product {l : Launch} {J : px_J} {t : Nat → Int32} {n b b' a' k r : Nat} {c : List l_C} {I : px_I} {v : Value} {Q : px_Q} (h : m_s t n b k r I) (hop : T_op 1 (m_T t n b) = true) (h1 : m_C l J mX12_operand (6 * r + 0 + 2) (px_up I 54 21 (nI (b + 1))) (m_out t n (b + 1) k r b' true c (px_up I 54 21 (nI (b + 1))))) (h2 : ∀ (X : px_I) (v : Value) (Q : px_Q), m_s t n b' (k + (c ++ [(m_T t n b, 0)]).length) r X → (∀ Y, m_out t n b' (k + (c ++ [(m_T t n b, 0)]).length) r a' false [] X Y → Q none Y J) → V0 l (px_rm (6 * r + 0 + 3) 0 0) mX12_product (false, []) 0 0 4 [.ref 54, v] [] (px_mk X J) (px_q Q)) (hQ : ∀ Y, m_out t n b k r a' false [] I Y → Q none Y J) : V0 l (px_rm (6 * r + 0 + 3) 0 0) mX12_product (false, []) 0 0 4 [.ref 54, v] [] (px_mk I J) (px_q Q) := by
  obtain ⟨a1, a2, a3⟩ := A_product hop
  refine G_product (D := 6 * r + 0 + 1) h rfl (T_product hop) h1 add_product (fun X k1 hX hk1 hk2 => ?_)
  have hs := hX.sign (s := (m_T t n b, 0)) h.2.2.2.2.2.2.1.2 hk1 hk2 a1 a2 a3
  exact h2 _ (.int _) _ (hs.2.1 rfl).1 (fun Y hY => hQ Y (hs.appX hY))
theorem R10_sum {l : Launch} {J : px_J} {t : Nat → Int32} {n a k r b a' : Nat} {c c' : List l_C} {I : px_I} (h1 : m_C l J mX12_product (6 * r + 1 + 2) I (m_out t n a k r b true c I)) (h2 : ∀ (X : px_I) (v : Value) (Q : px_Q), m_s t n b (k + c.length) r X → (∀ Y, m_out t n b (k + c.length) r a' true c' X Y → Q none Y J) → V0 l (px_rm (6 * r + 1 + 3) 0 0) mX12_sum (false, []) 0 0 4 [.ref 54, v] [] (px_mk X J) (px_q Q)) : m_C l J mX12_sum (6 * r + 1 + 3) I (m_out t n a k r a' true (c ++ c') I) := C_sum (D := 6 * r + 1 + 1) h1 (fun X hX => h2 X .null _ (hX.2.1 rfl).1 (fun Y hY => ⟨rfl, rfl, hX.app hY⟩))
theorem R11_sum {l : Launch} {J : px_J} {t : Nat → Int32} {n a k r b : Nat} {I : px_I} (h1 : m_C l J mX12_product (6 * r + 1 + 2) I (m_out t n a k r b false [] I)) : m_C l J mX12_sum (6 * r + 1 + 3) I (m_out t n a k r b false [] I) := C_sum (D := 6 * r + 1 + 1) h1 (fun X hX => (hX.2.2 rfl).elim (fun k' hk => E_sum hk.1 ⟨rfl, rfl, hX⟩))
theorem R12_sum {l : Launch} {J : px_J} {t : Nat → Int32} {n a k r b a' : Nat} {c : List l_C} {I : px_I} (h1 : m_C l J mX12_product (6 * r + 1 + 2) I (m_out t n a k r b true c I)) (h2 : ∀ (X : px_I) (v : Value) (Q : px_Q), m_s t n b (k + c.length) r X → (∀ Y, m_out t n b (k + c.length) r a' false [] X Y → Q none Y J) → V0 l (px_rm (6 * r + 1 + 3) 0 0) mX12_sum (false, []) 0 0 4 [.ref 54, v] [] (px_mk X J) (px_q Q)) : m_C l J mX12_sum (6 * r + 1 + 3) I (m_out t n a k r a' false [] I) := C_sum (D := 6 * r + 1 + 1) h1 (fun X hX => h2 X .null _ (hX.2.1 rfl).1 (fun Y hY => ⟨rfl, rfl, hX.appX hY⟩))
theorem R13_sum {l : Launch} {J : px_J} {t : Nat → Int32} {n b k r : Nat} {X : px_I} {v : Value} {Q : px_Q} (h : m_s t n b k r X) (hop : T_op 2 (m_T t n b) = false) (hQ : ∀ Y, m_out t n b k r b true [] X Y → Q none Y J) : V0 l (px_rm (6 * r + 1 + 3) 0 0) mX12_sum (false, []) 0 0 4 [.ref 54, v] [] (px_mk X J) (px_q Q) := S_sum (D := 6 * r + 1 + 2) h (fun e => by rw [e] at hop; exact absurd hop (by decide)) (fun e => by rw [e] at hop; exact absurd hop (by decide)) (hQ X ⟨m_fr.rf, fun _ => ⟨h, trivial, Nat.le_refl _⟩, fun q => absurd q (by decide)⟩)
theorem T_sum {w : Int32} (hop : T_op 2 w = true) : w = 43 ∨ w = 45 := by
  simp [T_op] at hop
  exact hop
theorem A_sum {w : Int32} (hop : T_op 2 w = true) : m_act w = w ∧ (¬ w = 35 ∧ ¬ w = 36) ∧ m_cd (w, 0) := by
  have h := T_sum hop
  have hs : m_sign w = true := by
    rcases h with e | e <;> rw [e] <;> decide
  refine ⟨(m_act_no hs).1, ⟨fun e => by rw [e] at hs; exact absurd hs (by decide), fun e => by rw [e] at hs; exact absurd hs (by decide)⟩, Or.inr (Or.inr (Or.inr (Or.inr hs)))⟩
theorem add_sum {t : Nat → Int32} {n a k r a' : Nat} {ok : Bool} {c : List l_C} {I : px_I} : ∀ X, m_out t n a k r a' ok c I X → ∃ k1, k1 < 130 ∧ X 54 24 = nI k1 := by
  intro X h
  cases ok with
  | true =>
    obtain ⟨s1, _, _⟩ := h.2.1 rfl
    exact ⟨_, by have := s1.2.1; have := s1.2.2.2.1; have := s1.2.2.2.2.2.2.1.2; omega, s1.2.2.2.2.2.2.1.1⟩
  | false =>
    obtain ⟨k', q1, _, _⟩ := h.2.2 rfl
    exact ⟨k', by have := q1.2.1; have := q1.2.2.2.1; have := q1.2.2.2.2.2.2.1; omega, q1.2.2.2.2.2.1⟩
theorem R14_sum {l : Launch} {J : px_J} {t : Nat → Int32} {n b b' a' k r : Nat} {c c' : List l_C} {I : px_I} {v : Value} {Q : px_Q} (h : m_s t n b k r I) (hop : T_op 2 (m_T t n b) = true) (h1 : m_C l J mX12_product (6 * r + 1 + 2) (px_up I 54 21 (nI (b + 1))) (m_out t n (b + 1) k r b' true c (px_up I 54 21 (nI (b + 1))))) (h2 : ∀ (X : px_I) (v : Value) (Q : px_Q), m_s t n b' (k + (c ++ [(m_T t n b, 0)]).length) r X → (∀ Y, m_out t n b' (k + (c ++ [(m_T t n b, 0)]).length) r a' true c' X Y → Q none Y J) → V0 l (px_rm (6 * r + 1 + 3) 0 0) mX12_sum (false, []) 0 0 4 [.ref 54, v] [] (px_mk X J) (px_q Q)) (hQ : ∀ Y, m_out t n b k r a' true (c ++ (m_T t n b, 0) :: c') I Y → Q none Y J) : V0 l (px_rm (6 * r + 1 + 3) 0 0) mX12_sum (false, []) 0 0 4 [.ref 54, v] [] (px_mk I J) (px_q Q) := by
  obtain ⟨a1, a2, a3⟩ := A_sum hop
  refine G_sum (D := 6 * r + 1 + 1) h rfl (T_sum hop) h1 add_sum (fun X k1 hX hk1 hk2 => ?_)
  have hs := hX.sign (s := (m_T t n b, 0)) h.2.2.2.2.2.2.1.2 hk1 hk2 a1 a2 a3
  refine h2 _ (.int _) _ (hs.2.1 rfl).1 (fun Y hY => hQ Y ?_)
  have := hs.app hY
  rw [List.append_assoc] at this
  exact this
theorem R15_sum {l : Launch} {J : px_J} {t : Nat → Int32} {n b b' k r : Nat} {I : px_I} {v : Value} {Q : px_Q} (h : m_s t n b k r I) (hop : T_op 2 (m_T t n b) = true) (h1 : m_C l J mX12_product (6 * r + 1 + 2) (px_up I 54 21 (nI (b + 1))) (m_out t n (b + 1) k r b' false [] (px_up I 54 21 (nI (b + 1))))) (hQ : ∀ Y, m_out t n b k r b' false [] I Y → Q none Y J) : V0 l (px_rm (6 * r + 1 + 3) 0 0) mX12_sum (false, []) 0 0 4 [.ref 54, v] [] (px_mk I J) (px_q Q) := by
  refine G_sum (D := 6 * r + 1 + 1) h rfl (T_sum hop) h1 add_sum (fun X k1 hX hk1 hk2 => ?_)
  have hs := hX.signX (w := m_T t n b) h.2.2.2.2.2.2.1.2 hk1 hk2
  exact E_sum hs.2 (hQ _ hs.1)
theorem R16_sum {l : Launch} {J : px_J} {t : Nat → Int32} {n b b' a' k r : Nat} {c : List l_C} {I : px_I} {v : Value} {Q : px_Q} (h : m_s t n b k r I) (hop : T_op 2 (m_T t n b) = true) (h1 : m_C l J mX12_product (6 * r + 1 + 2) (px_up I 54 21 (nI (b + 1))) (m_out t n (b + 1) k r b' true c (px_up I 54 21 (nI (b + 1))))) (h2 : ∀ (X : px_I) (v : Value) (Q : px_Q), m_s t n b' (k + (c ++ [(m_T t n b, 0)]).length) r X → (∀ Y, m_out t n b' (k + (c ++ [(m_T t n b, 0)]).length) r a' false [] X Y → Q none Y J) → V0 l (px_rm (6 * r + 1 + 3) 0 0) mX12_sum (false, []) 0 0 4 [.ref 54, v] [] (px_mk X J) (px_q Q)) (hQ : ∀ Y, m_out t n b k r a' false [] I Y → Q none Y J) : V0 l (px_rm (6 * r + 1 + 3) 0 0) mX12_sum (false, []) 0 0 4 [.ref 54, v] [] (px_mk I J) (px_q Q) := by
  obtain ⟨a1, a2, a3⟩ := A_sum hop
  refine G_sum (D := 6 * r + 1 + 1) h rfl (T_sum hop) h1 add_sum (fun X k1 hX hk1 hk2 => ?_)
  have hs := hX.sign (s := (m_T t n b, 0)) h.2.2.2.2.2.2.1.2 hk1 hk2 a1 a2 a3
  exact h2 _ (.int _) _ (hs.2.1 rfl).1 (fun Y hY => hQ Y (hs.appX hY))
theorem R10_compared {l : Launch} {J : px_J} {t : Nat → Int32} {n a k r b a' : Nat} {c c' : List l_C} {I : px_I} (h1 : m_C l J mX12_sum (6 * r + 2 + 2) I (m_out t n a k r b true c I)) (h2 : ∀ (X : px_I) (v : Value) (Q : px_Q), m_s t n b (k + c.length) r X → (∀ Y, m_out t n b (k + c.length) r a' true c' X Y → Q none Y J) → V0 l (px_rm (6 * r + 2 + 3) 0 0) mX12_compared (false, []) 0 0 4 [.ref 54, v] [] (px_mk X J) (px_q Q)) : m_C l J mX12_compared (6 * r + 2 + 3) I (m_out t n a k r a' true (c ++ c') I) := C_compared (D := 6 * r + 2 + 1) h1 (fun X hX => h2 X .null _ (hX.2.1 rfl).1 (fun Y hY => ⟨rfl, rfl, hX.app hY⟩))
theorem R11_compared {l : Launch} {J : px_J} {t : Nat → Int32} {n a k r b : Nat} {I : px_I} (h1 : m_C l J mX12_sum (6 * r + 2 + 2) I (m_out t n a k r b false [] I)) : m_C l J mX12_compared (6 * r + 2 + 3) I (m_out t n a k r b false [] I) := C_compared (D := 6 * r + 2 + 1) h1 (fun X hX => (hX.2.2 rfl).elim (fun k' hk => E_compared hk.1 ⟨rfl, rfl, hX⟩))
theorem R12_compared {l : Launch} {J : px_J} {t : Nat → Int32} {n a k r b a' : Nat} {c : List l_C} {I : px_I} (h1 : m_C l J mX12_sum (6 * r + 2 + 2) I (m_out t n a k r b true c I)) (h2 : ∀ (X : px_I) (v : Value) (Q : px_Q), m_s t n b (k + c.length) r X → (∀ Y, m_out t n b (k + c.length) r a' false [] X Y → Q none Y J) → V0 l (px_rm (6 * r + 2 + 3) 0 0) mX12_compared (false, []) 0 0 4 [.ref 54, v] [] (px_mk X J) (px_q Q)) : m_C l J mX12_compared (6 * r + 2 + 3) I (m_out t n a k r a' false [] I) := C_compared (D := 6 * r + 2 + 1) h1 (fun X hX => h2 X .null _ (hX.2.1 rfl).1 (fun Y hY => ⟨rfl, rfl, hX.appX hY⟩))
theorem R13_compared {l : Launch} {J : px_J} {t : Nat → Int32} {n b k r : Nat} {X : px_I} {v : Value} {Q : px_Q} (h : m_s t n b k r X) (hop : T_op 3 (m_T t n b) = false) (hQ : ∀ Y, m_out t n b k r b true [] X Y → Q none Y J) : V0 l (px_rm (6 * r + 2 + 3) 0 0) mX12_compared (false, []) 0 0 4 [.ref 54, v] [] (px_mk X J) (px_q Q) := S_compared (D := 6 * r + 2 + 2) h (fun e => by rw [e] at hop; exact absurd hop (by decide)) (fun e => by rw [e] at hop; exact absurd hop (by decide)) (fun e => by rw [e] at hop; exact absurd hop (by decide)) (hQ X ⟨m_fr.rf, fun _ => ⟨h, trivial, Nat.le_refl _⟩, fun q => absurd q (by decide)⟩)
theorem T_compared {w : Int32} (hop : T_op 3 w = true) : w = 60 ∨ w = 61 ∨ w = 62 := by
  simp [T_op] at hop
  exact hop
theorem A_compared {w : Int32} (hop : T_op 3 w = true) : m_act w = w ∧ (¬ w = 35 ∧ ¬ w = 36) ∧ m_cd (w, 0) := by
  have h := T_compared hop
  have hs : m_sign w = true := by
    rcases h with e | e | e <;> rw [e] <;> decide
  refine ⟨(m_act_no hs).1, ⟨fun e => by rw [e] at hs; exact absurd hs (by decide), fun e => by rw [e] at hs; exact absurd hs (by decide)⟩, Or.inr (Or.inr (Or.inr (Or.inr hs)))⟩
theorem add_compared {t : Nat → Int32} {n a k r a' : Nat} {ok : Bool} {c : List l_C} {I : px_I} : ∀ X, m_out t n a k r a' ok c I X → ∃ k1, k1 < 130 ∧ X 54 24 = nI k1 := by
  intro X h
  cases ok with
  | true =>
    obtain ⟨s1, _, _⟩ := h.2.1 rfl
    exact ⟨_, by have := s1.2.1; have := s1.2.2.2.1; have := s1.2.2.2.2.2.2.1.2; omega, s1.2.2.2.2.2.2.1.1⟩
  | false =>
    obtain ⟨k', q1, _, _⟩ := h.2.2 rfl
    exact ⟨k', by have := q1.2.1; have := q1.2.2.2.1; have := q1.2.2.2.2.2.2.1; omega, q1.2.2.2.2.2.1⟩
theorem R15_compared {l : Launch} {J : px_J} {t : Nat → Int32} {n b b' k r : Nat} {I : px_I} {v : Value} {Q : px_Q} (h : m_s t n b k r I) (hop : T_op 3 (m_T t n b) = true) (h1 : m_C l J mX12_sum (6 * r + 2 + 2) (px_up I 54 21 (nI (b + 1))) (m_out t n (b + 1) k r b' false [] (px_up I 54 21 (nI (b + 1))))) (hQ : ∀ Y, m_out t n b k r b' false [] I Y → Q none Y J) : V0 l (px_rm (6 * r + 2 + 3) 0 0) mX12_compared (false, []) 0 0 4 [.ref 54, v] [] (px_mk I J) (px_q Q) := by
  refine G_compared (D := 6 * r + 2 + 1) h rfl (T_compared hop) h1 add_compared (fun X k1 hX hk1 hk2 => ?_)
  exact hQ _ (hX.signX (w := m_T t n b) h.2.2.2.2.2.2.1.2 hk1 hk2).1
theorem R17_compared {l : Launch} {J : px_J} {t : Nat → Int32} {n b b' k r : Nat} {c : List l_C} {I : px_I} {v : Value} {Q : px_Q} (h : m_s t n b k r I) (hop : T_op 3 (m_T t n b) = true) (h1 : m_C l J mX12_sum (6 * r + 2 + 2) (px_up I 54 21 (nI (b + 1))) (m_out t n (b + 1) k r b' true c (px_up I 54 21 (nI (b + 1))))) (hQ : ∀ Y, m_out t n b k r b' true (c ++ [(m_T t n b, 0)]) I Y → Q none Y J) : V0 l (px_rm (6 * r + 2 + 3) 0 0) mX12_compared (false, []) 0 0 4 [.ref 54, v] [] (px_mk I J) (px_q Q) := by
  obtain ⟨a1, a2, a3⟩ := A_compared hop
  refine G_compared (D := 6 * r + 2 + 1) h rfl (T_compared hop) h1 add_compared (fun X k1 hX hk1 hk2 => ?_)
  exact hQ _ (hX.sign (s := (m_T t n b, 0)) h.2.2.2.2.2.2.1.2 hk1 hk2 a1 a2 a3)
theorem R10_both {l : Launch} {J : px_J} {t : Nat → Int32} {n a k r b a' : Nat} {c c' : List l_C} {I : px_I} (h1 : m_C l J mX12_compared (6 * r + 3 + 2) I (m_out t n a k r b true c I)) (h2 : ∀ (X : px_I) (Q : px_Q), m_s t n b (k + c.length) r X → (∀ Y, m_out t n b (k + c.length) r a' true c' X Y → Q none Y J) → V0 l (px_rm (6 * r + 3 + 3) 0 0) mX12_both (false, []) 0 0 4 [.ref 54] [] (px_mk X J) (px_q Q)) : m_C l J mX12_both (6 * r + 3 + 3) I (m_out t n a k r a' true (c ++ c') I) := C_both (D := 6 * r + 3 + 1) h1 (fun X hX => h2 X _ (hX.2.1 rfl).1 (fun Y hY => ⟨rfl, rfl, hX.app hY⟩))
theorem R11_both {l : Launch} {J : px_J} {t : Nat → Int32} {n a k r b : Nat} {I : px_I} (h1 : m_C l J mX12_compared (6 * r + 3 + 2) I (m_out t n a k r b false [] I)) : m_C l J mX12_both (6 * r + 3 + 3) I (m_out t n a k r b false [] I) := C_both (D := 6 * r + 3 + 1) h1 (fun X hX => (hX.2.2 rfl).elim (fun k' hk => E_both hk.1 ⟨rfl, rfl, hX⟩))
theorem R12_both {l : Launch} {J : px_J} {t : Nat → Int32} {n a k r b a' : Nat} {c : List l_C} {I : px_I} (h1 : m_C l J mX12_compared (6 * r + 3 + 2) I (m_out t n a k r b true c I)) (h2 : ∀ (X : px_I) (Q : px_Q), m_s t n b (k + c.length) r X → (∀ Y, m_out t n b (k + c.length) r a' false [] X Y → Q none Y J) → V0 l (px_rm (6 * r + 3 + 3) 0 0) mX12_both (false, []) 0 0 4 [.ref 54] [] (px_mk X J) (px_q Q)) : m_C l J mX12_both (6 * r + 3 + 3) I (m_out t n a k r a' false [] I) := C_both (D := 6 * r + 3 + 1) h1 (fun X hX => h2 X _ (hX.2.1 rfl).1 (fun Y hY => ⟨rfl, rfl, hX.appX hY⟩))
theorem R13_both {l : Launch} {J : px_J} {t : Nat → Int32} {n b k r : Nat} {X : px_I} {Q : px_Q} (h : m_s t n b k r X) (hop : T_op 4 (m_T t n b) = false) (hQ : ∀ Y, m_out t n b k r b true [] X Y → Q none Y J) : V0 l (px_rm (6 * r + 3 + 3) 0 0) mX12_both (false, []) 0 0 4 [.ref 54] [] (px_mk X J) (px_q Q) := S_both (D := 6 * r + 3 + 2) h (fun e => by rw [e] at hop; exact absurd hop (by decide)) (hQ X ⟨m_fr.rf, fun _ => ⟨h, trivial, Nat.le_refl _⟩, fun q => absurd q (by decide)⟩)
theorem T_both {w : Int32} (hop : T_op 4 w = true) : w = 38 := by
  simp [T_op] at hop
  exact hop
theorem A_both {w : Int32} (hop : T_op 4 w = true) : m_act w = w ∧ (¬ w = 35 ∧ ¬ w = 36) ∧ m_cd (w, 0) := by
  have h := T_both hop
  have hs : m_sign w = true := by
    rw [h]; decide
  refine ⟨(m_act_no hs).1, ⟨fun e => by rw [e] at hs; exact absurd hs (by decide), fun e => by rw [e] at hs; exact absurd hs (by decide)⟩, Or.inr (Or.inr (Or.inr (Or.inr hs)))⟩
theorem add_both {t : Nat → Int32} {n a k r a' : Nat} {ok : Bool} {c : List l_C} {I : px_I} : ∀ X, m_out t n a k r a' ok c I X → ∃ k1, k1 < 130 ∧ X 54 24 = nI k1 := by
  intro X h
  cases ok with
  | true =>
    obtain ⟨s1, _, _⟩ := h.2.1 rfl
    exact ⟨_, by have := s1.2.1; have := s1.2.2.2.1; have := s1.2.2.2.2.2.2.1.2; omega, s1.2.2.2.2.2.2.1.1⟩
  | false =>
    obtain ⟨k', q1, _, _⟩ := h.2.2 rfl
    exact ⟨k', by have := q1.2.1; have := q1.2.2.2.1; have := q1.2.2.2.2.2.2.1; omega, q1.2.2.2.2.2.1⟩
theorem R14_both {l : Launch} {J : px_J} {t : Nat → Int32} {n b b' a' k r : Nat} {c c' : List l_C} {I : px_I} {Q : px_Q} (h : m_s t n b k r I) (hop : T_op 4 (m_T t n b) = true) (h1 : m_C l J mX12_compared (6 * r + 3 + 2) (px_up I 54 21 (nI (b + 1))) (m_out t n (b + 1) k r b' true c (px_up I 54 21 (nI (b + 1))))) (h2 : ∀ (X : px_I) (Q : px_Q), m_s t n b' (k + (c ++ [(m_T t n b, 0)]).length) r X → (∀ Y, m_out t n b' (k + (c ++ [(m_T t n b, 0)]).length) r a' true c' X Y → Q none Y J) → V0 l (px_rm (6 * r + 3 + 3) 0 0) mX12_both (false, []) 0 0 4 [.ref 54] [] (px_mk X J) (px_q Q)) (hQ : ∀ Y, m_out t n b k r a' true (c ++ (m_T t n b, 0) :: c') I Y → Q none Y J) : V0 l (px_rm (6 * r + 3 + 3) 0 0) mX12_both (false, []) 0 0 4 [.ref 54] [] (px_mk I J) (px_q Q) := by
  obtain ⟨a1, a2, a3⟩ := A_both hop
  refine G_both (D := 6 * r + 3 + 1) h rfl (T_both hop) h1 add_both (fun X k1 hX hk1 hk2 => ?_)
  have hs := hX.sign (s := (m_T t n b, 0)) h.2.2.2.2.2.2.1.2 hk1 hk2 a1 a2 a3
  refine h2 _ _ (hs.2.1 rfl).1 (fun Y hY => hQ Y ?_)
  have := hs.app hY
  rw [List.append_assoc] at this
  exact this
theorem R15_both {l : Launch} {J : px_J} {t : Nat → Int32} {n b b' k r : Nat} {I : px_I} {Q : px_Q} (h : m_s t n b k r I) (hop : T_op 4 (m_T t n b) = true) (h1 : m_C l J mX12_compared (6 * r + 3 + 2) (px_up I 54 21 (nI (b + 1))) (m_out t n (b + 1) k r b' false [] (px_up I 54 21 (nI (b + 1))))) (hQ : ∀ Y, m_out t n b k r b' false [] I Y → Q none Y J) : V0 l (px_rm (6 * r + 3 + 3) 0 0) mX12_both (false, []) 0 0 4 [.ref 54] [] (px_mk I J) (px_q Q) := by
  refine G_both (D := 6 * r + 3 + 1) h rfl (T_both hop) h1 add_both (fun X k1 hX hk1 hk2 => ?_)
  have hs := hX.signX (w := m_T t n b) h.2.2.2.2.2.2.1.2 hk1 hk2
  exact E_both hs.2 (hQ _ hs.1)
theorem R16_both {l : Launch} {J : px_J} {t : Nat → Int32} {n b b' a' k r : Nat} {c : List l_C} {I : px_I} {Q : px_Q} (h : m_s t n b k r I) (hop : T_op 4 (m_T t n b) = true) (h1 : m_C l J mX12_compared (6 * r + 3 + 2) (px_up I 54 21 (nI (b + 1))) (m_out t n (b + 1) k r b' true c (px_up I 54 21 (nI (b + 1))))) (h2 : ∀ (X : px_I) (Q : px_Q), m_s t n b' (k + (c ++ [(m_T t n b, 0)]).length) r X → (∀ Y, m_out t n b' (k + (c ++ [(m_T t n b, 0)]).length) r a' false [] X Y → Q none Y J) → V0 l (px_rm (6 * r + 3 + 3) 0 0) mX12_both (false, []) 0 0 4 [.ref 54] [] (px_mk X J) (px_q Q)) (hQ : ∀ Y, m_out t n b k r a' false [] I Y → Q none Y J) : V0 l (px_rm (6 * r + 3 + 3) 0 0) mX12_both (false, []) 0 0 4 [.ref 54] [] (px_mk I J) (px_q Q) := by
  obtain ⟨a1, a2, a3⟩ := A_both hop
  refine G_both (D := 6 * r + 3 + 1) h rfl (T_both hop) h1 add_both (fun X k1 hX hk1 hk2 => ?_)
  have hs := hX.sign (s := (m_T t n b, 0)) h.2.2.2.2.2.2.1.2 hk1 hk2 a1 a2 a3
  exact h2 _ _ (hs.2.1 rfl).1 (fun Y hY => hQ Y (hs.appX hY))
theorem R10_either {l : Launch} {J : px_J} {t : Nat → Int32} {n a k r b a' : Nat} {c c' : List l_C} {I : px_I} (h1 : m_C l J mX12_both (6 * r + 4 + 2) I (m_out t n a k r b true c I)) (h2 : ∀ (X : px_I) (Q : px_Q), m_s t n b (k + c.length) r X → (∀ Y, m_out t n b (k + c.length) r a' true c' X Y → Q none Y J) → V0 l (px_rm (6 * r + 4 + 3) 0 0) mX12_either (false, []) 0 0 4 [.ref 54] [] (px_mk X J) (px_q Q)) : m_C l J mX12_either (6 * r + 4 + 3) I (m_out t n a k r a' true (c ++ c') I) := C_either (D := 6 * r + 4 + 1) h1 (fun X hX => h2 X _ (hX.2.1 rfl).1 (fun Y hY => ⟨rfl, rfl, hX.app hY⟩))
theorem R11_either {l : Launch} {J : px_J} {t : Nat → Int32} {n a k r b : Nat} {I : px_I} (h1 : m_C l J mX12_both (6 * r + 4 + 2) I (m_out t n a k r b false [] I)) : m_C l J mX12_either (6 * r + 4 + 3) I (m_out t n a k r b false [] I) := C_either (D := 6 * r + 4 + 1) h1 (fun X hX => (hX.2.2 rfl).elim (fun k' hk => E_either hk.1 ⟨rfl, rfl, hX⟩))
theorem R12_either {l : Launch} {J : px_J} {t : Nat → Int32} {n a k r b a' : Nat} {c : List l_C} {I : px_I} (h1 : m_C l J mX12_both (6 * r + 4 + 2) I (m_out t n a k r b true c I)) (h2 : ∀ (X : px_I) (Q : px_Q), m_s t n b (k + c.length) r X → (∀ Y, m_out t n b (k + c.length) r a' false [] X Y → Q none Y J) → V0 l (px_rm (6 * r + 4 + 3) 0 0) mX12_either (false, []) 0 0 4 [.ref 54] [] (px_mk X J) (px_q Q)) : m_C l J mX12_either (6 * r + 4 + 3) I (m_out t n a k r a' false [] I) := C_either (D := 6 * r + 4 + 1) h1 (fun X hX => h2 X _ (hX.2.1 rfl).1 (fun Y hY => ⟨rfl, rfl, hX.appX hY⟩))
theorem R13_either {l : Launch} {J : px_J} {t : Nat → Int32} {n b k r : Nat} {X : px_I} {Q : px_Q} (h : m_s t n b k r X) (hop : T_op 5 (m_T t n b) = false) (hQ : ∀ Y, m_out t n b k r b true [] X Y → Q none Y J) : V0 l (px_rm (6 * r + 4 + 3) 0 0) mX12_either (false, []) 0 0 4 [.ref 54] [] (px_mk X J) (px_q Q) := S_either (D := 6 * r + 4 + 2) h (fun e => by rw [e] at hop; exact absurd hop (by decide)) (hQ X ⟨m_fr.rf, fun _ => ⟨h, trivial, Nat.le_refl _⟩, fun q => absurd q (by decide)⟩)
theorem T_either {w : Int32} (hop : T_op 5 w = true) : w = 124 := by
  simp [T_op] at hop
  exact hop
theorem A_either {w : Int32} (hop : T_op 5 w = true) : m_act w = w ∧ (¬ w = 35 ∧ ¬ w = 36) ∧ m_cd (w, 0) := by
  have h := T_either hop
  have hs : m_sign w = true := by
    rw [h]; decide
  refine ⟨(m_act_no hs).1, ⟨fun e => by rw [e] at hs; exact absurd hs (by decide), fun e => by rw [e] at hs; exact absurd hs (by decide)⟩, Or.inr (Or.inr (Or.inr (Or.inr hs)))⟩
theorem add_either {t : Nat → Int32} {n a k r a' : Nat} {ok : Bool} {c : List l_C} {I : px_I} : ∀ X, m_out t n a k r a' ok c I X → ∃ k1, k1 < 130 ∧ X 54 24 = nI k1 := by
  intro X h
  cases ok with
  | true =>
    obtain ⟨s1, _, _⟩ := h.2.1 rfl
    exact ⟨_, by have := s1.2.1; have := s1.2.2.2.1; have := s1.2.2.2.2.2.2.1.2; omega, s1.2.2.2.2.2.2.1.1⟩
  | false =>
    obtain ⟨k', q1, _, _⟩ := h.2.2 rfl
    exact ⟨k', by have := q1.2.1; have := q1.2.2.2.1; have := q1.2.2.2.2.2.2.1; omega, q1.2.2.2.2.2.1⟩
theorem R14_either {l : Launch} {J : px_J} {t : Nat → Int32} {n b b' a' k r : Nat} {c c' : List l_C} {I : px_I} {Q : px_Q} (h : m_s t n b k r I) (hop : T_op 5 (m_T t n b) = true) (h1 : m_C l J mX12_both (6 * r + 4 + 2) (px_up I 54 21 (nI (b + 1))) (m_out t n (b + 1) k r b' true c (px_up I 54 21 (nI (b + 1))))) (h2 : ∀ (X : px_I) (Q : px_Q), m_s t n b' (k + (c ++ [(m_T t n b, 0)]).length) r X → (∀ Y, m_out t n b' (k + (c ++ [(m_T t n b, 0)]).length) r a' true c' X Y → Q none Y J) → V0 l (px_rm (6 * r + 4 + 3) 0 0) mX12_either (false, []) 0 0 4 [.ref 54] [] (px_mk X J) (px_q Q)) (hQ : ∀ Y, m_out t n b k r a' true (c ++ (m_T t n b, 0) :: c') I Y → Q none Y J) : V0 l (px_rm (6 * r + 4 + 3) 0 0) mX12_either (false, []) 0 0 4 [.ref 54] [] (px_mk I J) (px_q Q) := by
  obtain ⟨a1, a2, a3⟩ := A_either hop
  refine G_either (D := 6 * r + 4 + 1) h rfl (T_either hop) h1 add_either (fun X k1 hX hk1 hk2 => ?_)
  have hs := hX.sign (s := (m_T t n b, 0)) h.2.2.2.2.2.2.1.2 hk1 hk2 a1 a2 a3
  refine h2 _ _ (hs.2.1 rfl).1 (fun Y hY => hQ Y ?_)
  have := hs.app hY
  rw [List.append_assoc] at this
  exact this
theorem R15_either {l : Launch} {J : px_J} {t : Nat → Int32} {n b b' k r : Nat} {I : px_I} {Q : px_Q} (h : m_s t n b k r I) (hop : T_op 5 (m_T t n b) = true) (h1 : m_C l J mX12_both (6 * r + 4 + 2) (px_up I 54 21 (nI (b + 1))) (m_out t n (b + 1) k r b' false [] (px_up I 54 21 (nI (b + 1))))) (hQ : ∀ Y, m_out t n b k r b' false [] I Y → Q none Y J) : V0 l (px_rm (6 * r + 4 + 3) 0 0) mX12_either (false, []) 0 0 4 [.ref 54] [] (px_mk I J) (px_q Q) := by
  refine G_either (D := 6 * r + 4 + 1) h rfl (T_either hop) h1 add_either (fun X k1 hX hk1 hk2 => ?_)
  have hs := hX.signX (w := m_T t n b) h.2.2.2.2.2.2.1.2 hk1 hk2
  exact E_either hs.2 (hQ _ hs.1)
theorem R16_either {l : Launch} {J : px_J} {t : Nat → Int32} {n b b' a' k r : Nat} {c : List l_C} {I : px_I} {Q : px_Q} (h : m_s t n b k r I) (hop : T_op 5 (m_T t n b) = true) (h1 : m_C l J mX12_both (6 * r + 4 + 2) (px_up I 54 21 (nI (b + 1))) (m_out t n (b + 1) k r b' true c (px_up I 54 21 (nI (b + 1))))) (h2 : ∀ (X : px_I) (Q : px_Q), m_s t n b' (k + (c ++ [(m_T t n b, 0)]).length) r X → (∀ Y, m_out t n b' (k + (c ++ [(m_T t n b, 0)]).length) r a' false [] X Y → Q none Y J) → V0 l (px_rm (6 * r + 4 + 3) 0 0) mX12_either (false, []) 0 0 4 [.ref 54] [] (px_mk X J) (px_q Q)) (hQ : ∀ Y, m_out t n b k r a' false [] I Y → Q none Y J) : V0 l (px_rm (6 * r + 4 + 3) 0 0) mX12_either (false, []) 0 0 4 [.ref 54] [] (px_mk I J) (px_q Q) := by
  obtain ⟨a1, a2, a3⟩ := A_either hop
  refine G_either (D := 6 * r + 4 + 1) h rfl (T_either hop) h1 add_either (fun X k1 hX hk1 hk2 => ?_)
  have hs := hX.sign (s := (m_T t n b, 0)) h.2.2.2.2.2.2.1.2 hk1 hk2 a1 a2 a3
  exact h2 _ _ (hs.2.1 rfl).1 (fun Y hY => hQ Y (hs.appX hY))

