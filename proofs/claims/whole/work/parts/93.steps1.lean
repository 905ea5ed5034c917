/-! one call of the law: both answer alike and stay alike -/
def r_ex (I : px_I) (J : px_J) : Prop := ∃ m n d u t nb Ls, r_all I J m n d u t nb Ls
def r_stp (l : Launch) (G M : px_M) (dg dm : Nat) (as : List Value) (I : px_I) (J : px_J) : Prop := Ct l G dg (.ref 0 :: as) I J (fun r I1 J1 => ∃ x, r = some (.int x) ∧ Ct l M dm (.ref 54 :: as) I1 J1 (fun r' I2 J2 => r' = some (.int x) ∧ r_ex I2 J2))
def r_same54 (I I' : px_I) : Prop := ∀ q, 54 ≤ q → I' q = I q
/-- a question: what it changes does not count -/
theorem r_ask {l : Launch} {G M : px_M} {dg dm : Nat} {as : List Value} {I : px_I} {J : px_J} {m n d u t nb : Nat} {Ls : List l_L} {x : Int32} {P : px_I → Prop} {R : px_I → px_I → Prop} (h : r_all I J m n d u t nb Ls) (cG : Ct l G dg (.ref 0 :: as) I J (fun r I' J' => r = some (.int x) ∧ P I' ∧ J' = J)) (hP : ∀ I', P I' → r_eq I I' ∧ r_same54 I I') (cM : ∀ I1, P I1 → r_same54 I I1 → r_all I1 J m n d u t nb Ls → Ct l M dm (.ref 54 :: as) I1 J (fun r I' J' => r = some (.int x) ∧ R I1 I' ∧ J' = J)) (hR : ∀ I1 I', R I1 I' → r_eq I1 I') : r_stp l G M dg dm as I J := by
  refine cG.mono ?_
  rintro r I1 J1 ⟨e, p, rfl⟩
  obtain ⟨p1, p2⟩ := hP I1 p
  have h1 := r_same h p1 rfl rfl
  refine ⟨x, e, (cM I1 p p2 h1).mono ?_⟩
  rintro r' I2 J2 ⟨e', q, rfl⟩
  exact ⟨e', m, n, d, u, t, nb, Ls, r_same h1 (hR I1 I2 q) rfl rfl⟩
theorem r_id (I : px_I) : ∀ I', I' = I → r_eq I I' ∧ r_same54 I I' := by
  intro I' e
  rw [e]
  exact ⟨r_eq.rf, fun _ _ => rfl⟩
theorem r_cs (I : px_I) : ∀ I', px_sc I I' → r_eq I I' ∧ r_same54 I I' := fun _ h => ⟨h.eq, h.m⟩
theorem r_ws (I : px_I) : ∀ I', px_sw I I' → r_eq I I' ∧ r_same54 I I' := fun _ h => ⟨h.eq, fun q a => h q (by omega) (by omega)⟩
theorem r_xs (I : px_I) : ∀ I', px_sx I I' → r_eq I I' ∧ r_same54 I I' := fun _ h => ⟨h.eq, fun q a => h q (by omega) (by omega) (by omega)⟩
theorem r_ids : ∀ I1 I' : px_I, I' = I1 → r_eq I1 I' := by
  intro I1 I' e
  rw [e]
  exact r_eq.rf
/-- an answer told by a rule, put another way -/
theorem Ct.as {l : Launch} {M : px_M} {d : Nat} {args : List Value} {I : px_I} {J : px_J} {x y : Int32} {P : px_I → Prop} (c : Ct l M d args I J (fun r I' J' => r = some (.int x) ∧ P I' ∧ J' = J)) (e : x = y) : Ct l M d args I J (fun r I' J' => r = some (.int y) ∧ P I' ∧ J' = J) := by
  subst e; exact c
theorem r_all.hs {I : px_I} {J : px_J} {m n d u t nb : Nat} {Ls : List l_L} (h : r_all I J m n d u t nb Ls) : q_hs I m n := fun p hp => h.2.2.1.1 p (by have := h.1.2.2.1; omega)
theorem r_all.hw {I I' : px_I} {J : px_J} {m n d u t nb : Nat} {Ls : List l_L} (h : r_all I J m n d u t nb Ls) (hM : r_same54 I I') : ∀ j, j < n → I' 60 j = nI (ix (I' 60 j)) ∧ ix (I' 60 j) < 10 := by
  intro j hj
  rw [hM 60 (by omega), ← h.2.1.1.2.2.2.2.2.1]
  exact h.2.2.1.2.2.2.1 j (by have := h.1.2.2.2.2.2; omega)
theorem r_all.jx {I I' : px_I} {J : px_J} {m n d u t nb : Nat} {Ls : List l_L} {x : Int32} (h : r_all I J m n d u t nb Ls) (hM : r_same54 I I') (hj : m_joy I' x = true) : x = nI (ix x) ∧ ix x < n := m_joy_ix (by rw [hM 54 (by omega)]; exact h.1.2.2.2.2.1) h.1.2.2.2.2.2 hj
theorem r_all.px {I I' : px_I} {J : px_J} {m n d u t nb : Nat} {Ls : List l_L} {x : Int32} (h : r_all I J m n d u t nb Ls) (hM : r_same54 I I') (hj : m_one I' x = true) : x = nI (ix x) ∧ ix x < m := m_one_ix (by rw [hM 54 (by omega)]; exact h.1.2.1) h.1.2.2.1 hj
theorem r_all.m1 {I I' : px_I} {J : px_J} {m n d u t nb : Nat} {Ls : List l_L} (h : r_all I J m n d u t nb Ls) (hM : r_same54 I I') : I' 54 1 = nI m := by rw [hM 54 (by omega)]; exact h.1.2.1
theorem r_all.ml {I I' : px_I} {J : px_J} {m n d u t nb : Nat} {Ls : List l_L} (h : r_all I J m n d u t nb Ls) (hM : r_same54 I I') : m_law I' Ls := h.2.2.2.2.2.2.1.2.of (fun q a _ => hM q (by omega)) (by rw [hM 54 (by omega)])
theorem if_and {c c' : Prop} [Decidable c] [Decidable c'] {a b x : Int32} (h1 : c ↔ c') (h2 : c → a = b) : (if c then a else x) = (if c' then b else x) := by
  by_cases z : c
  · rw [if_pos z, if_pos (h1.mp z), h2 z]
  · rw [if_neg z, if_neg (fun q => z (h1.mpr q))]
theorem st_share {l : Launch} {I : px_I} {J : px_J} {x v : Int32} (h : r_ex I J) : r_stp l mX11_share mX12_share 2 2 [.int x, .int v] I J := by
  obtain ⟨m, n, d, u, t, nb, Ls, h⟩ := h
  refine r_ask h (P := fun I' => I' = I) (c_X11_share h.ok0) (r_id I) (fun I1 hp hM h1 => (c_X12_share (h.mok hM)).as ?_) (fun _ _ => m_sd.eq)
  exact (if_and (by rw [r_isP h hM]) (fun _ => q_share (h.q hM) (h.hw hM))).symm
theorem st_when {l : Launch} {I : px_I} {J : px_J} {x w : Int32} (h : r_ex I J) : r_stp l mX11_when mX12_when 5 4 [.int x, .int w] I J := by
  obtain ⟨m, n, d, u, t, nb, Ls, h⟩ := h
  refine r_ask h (c_X11_when h.ok0) (r_cs I) (fun I1 hp hM h1 => (c_X12_when (h.mok hM)).as ?_) (fun _ _ => m_sd.eq)
  exact (if_and (by rw [r_isJ h hM]) (fun z => q_when (h.q hM) (h.jx hM (by rw [← r_isJ h hM]; exact z.1)).2)).symm
theorem st_lane {l : Launch} {I : px_I} {J : px_J} {x w : Int32} (h : r_ex I J) : r_stp l mX11_lane mX12_lane 5 5 [.int x, .int w] I J := by
  obtain ⟨m, n, d, u, t, nb, Ls, h⟩ := h
  refine r_ask h (c_X11_lane h.ok0) (r_cs I) (fun I1 hp hM h1 => (c_X12_lane (h.mok hM)).as ?_) (fun _ _ => m_sd.eq)
  exact (if_and Iff.rfl (fun _ => q_lane (h.q hM))).symm
theorem st_move {l : Launch} {I : px_I} {J : px_J} {x w : Int32} (h : r_ex I J) : r_stp l mX11_move mX12_move 6 6 [.int x, .int w] I J := by
  obtain ⟨m, n, d, u, t, nb, Ls, h⟩ := h
  refine r_ask h (c_X11_move h.ok0) (r_cs I) (fun I1 hp hM h1 => (c_X12_move (h.mok hM)).as ?_) (fun _ _ => m_sd.eq)
  exact (if_and Iff.rfl (fun _ => by rw [q_move (h.q hM) h.1.1 _ (Nat.le_refl _)])).symm
theorem st_date {l : Launch} {I : px_I} {J : px_J} {x y w : Int32} (h : r_ex I J) : r_stp l mX11_date mX12_date 6 6 [.int x, .int y, .int w] I J := by
  obtain ⟨m, n, d, u, t, nb, Ls, h⟩ := h
  refine r_ask h (c_X11_date h.ok0) (r_cs I) (fun I1 hp hM h1 => (c_X12_date (h.mok hM)).as ?_) (fun _ _ => m_sd.eq)
  refine (if_and (by rw [r_isJ h hM]) (fun _ => ?_)).symm
  obtain ⟨a, b, _⟩ := q_date (k := ix y) (jy := ix x) (h.q hM) (h.hw hM) 100 (by omega) (by omega)
  rw [a, b]
theorem st_over {l : Launch} {I : px_I} {J : px_J} {v : Int32} (h : r_ex I J) : r_stp l mX11_over mX12_over 2 2 [.int v] I J := by
  obtain ⟨m, n, d, u, t, nb, Ls, h⟩ := h
  refine r_ask h (P := fun I' => I' = I) (c_X11_over h.1.1 h.1.2.2.1) (r_id I) (fun I1 hp hM h1 => (c_X12_over (h.mok hM)).as ?_) (fun _ _ => m_sd.eq)
  exact (if_and Iff.rfl (fun z => q_over (h.q hM) h.hs h.2.2.1.2.2.2.2.2.1 z)).symm
theorem st_near {l : Launch} {I : px_I} {J : px_J} {x : Int32} (h : r_ex I J) : r_stp l mX11_near mX12_near 3 2 [.int x] I J := by
  obtain ⟨m, n, d, u, t, nb, Ls, h⟩ := h
  refine r_ask h (P := fun I' => I' = I) (R := fun I1 I' => I' = I1) (c_X11_near h.1.1 h.1.2.2.1) (r_id I) (fun I1 hp hM h1 => Ct.as (P := fun I' => I' = I1) (c_X12_near (h.m1 hM) h.1.2.2.1) ?_) r_ids
  exact (if_and (by rw [r_isP h hM]) (fun z => q_near (h.q hM) h.hs (h.px hM (by rw [← r_isP h hM]; exact z)).2)).symm
theorem st_byTurns {l : Launch} {I : px_I} {J : px_J} {x w : Int32} (h : r_ex I J) : r_stp l mX11_byTurns mX12_byTurns 21 9 [.int x, .int w] I J := by
  obtain ⟨m, n, d, u, t, nb, Ls, h⟩ := h
  refine r_ask h (c_X11_byTurns h.1.1 h.1.2.2.1) (fun I' q => ⟨⟨fun r a => q r (by have := r_in_no a; omega) (by have := r_in_no a; omega), by rw [q 33 (by omega) (by omega)], fun k _ _ => by rw [q 54 (by omega) (by omega)]⟩, fun r a => q r (by omega) (by omega)⟩) (R := fun I1 I' => I' = I1) (fun I1 hp hM h1 => Ct.as (P := fun I' => I' = I1) (c_X12_byTurns (h.m1 hM) h.1.2.2.1) ?_) r_ids
  exact (if_and Iff.rfl (fun _ => q_turns (h.q hM) h.hs)).symm
theorem st_smell {l : Launch} {I : px_I} {J : px_J} {x w : Int32} (h : r_ex I J) : r_stp l mX11_smell mX12_smell 5 4 [.int x, .int w] I J := by
  obtain ⟨m, n, d, u, t, nb, Ls, h⟩ := h
  refine r_ask h (c_X11_smell h.ok0 h.2.2.2.2.2.2.1.1) (r_ws I) (fun I1 hp hM h1 => (c_X12_smell (h.mok hM) (h.ml hM)).as ?_) (fun _ _ => m_sl.eq)
  refine (if_and (by rw [r_isJ h hM]) (fun z => ?_)).symm
  have hj := (h.jx hM (by rw [← r_isJ h hM]; exact z.1)).2
  have hx := w_ixc (m := 11) (by omega) rfl z.2
  rw [q_much (h.q hM) h.hs hj ⟨ix w, hx.2, hx.1⟩, q_hoj (h.q hM) hj]
  by_cases e : px_rem w 2 = px_rem (m_hoj (m_lay I1 m n) (ix x)) 2
  · rw [if_pos e, if_pos e.symm]
  · rw [if_neg e, if_neg (fun q => e q.symm)]
theorem st_smelt {l : Launch} {I : px_I} {J : px_J} {x : Int32} (h : r_ex I J) : r_stp l mX11_smelt mX12_smelt 6 5 [.int x] I J := by
  obtain ⟨m, n, d, u, t, nb, Ls, h⟩ := h
  refine r_ask h (c_X11_smelt h.ok0 h.2.2.2.2.2.2.1.1) (r_ws I) (fun I1 hp hM h1 => (c_X12_smelt (h.mok hM) (h.ml hM)).as ?_) (fun _ _ => m_sl.eq)
  exact (if_and (by rw [r_isJ h hM]) (fun z => q_smelt (h.q hM) h.hs (h.jx hM (by rw [← r_isJ h hM]; exact z)).2)).symm
theorem st_shut {l : Launch} {I : px_I} {J : px_J} {x : Int32} (h : r_ex I J) : r_stp l mX11_shut mX12_shut 7 5 [.int x] I J := by
  obtain ⟨m, n, d, u, t, nb, Ls, h⟩ := h
  refine r_ask h (c_X11_shut h.ok0 h.2.2.2.2.2.2.1.1) (r_xs I) (fun I1 hp hM h1 => (c_X12_shut (h.mok hM) (h.ml hM)).as ?_) (fun _ _ => m_sl.eq)
  exact (if_and Iff.rfl (fun _ => by rw [q_shut (h.q hM) h.hs])).symm
theorem st_led {l : Launch} {I : px_I} {J : px_J} {x : Int32} (h : r_ex I J) : r_stp l mX11_led mX12_led 1 1 [.int x] I J := by
  obtain ⟨m, n, d, u, t, nb, Ls, h⟩ := h
  refine r_ask h (P := fun I' => I' = I) (R := fun I1 I' => I' = I1) c_X11_led (r_id I) (fun I1 hp hM h1 => Ct.as (P := fun I' => I' = I1) c_X12_led ?_) r_ids
  rw [hM 81 (by omega), h.2.1.1.2.2.2.2.2.2.2.2.2]
theorem st_count {l : Launch} {I : px_I} {J : px_J} {x : Int32} (h : r_ex I J) : r_stp l mX11_count mX12_count 0 0 [.int x] I J := by
  obtain ⟨m, n, d, u, t, nb, Ls, h⟩ := h
  refine r_ask h (P := fun I' => I' = I) (R := fun I1 I' => I' = I1) c_X11_count (r_id I) (fun I1 hp hM h1 => Ct.as (P := fun I' => I' = I1) c_X12_count ?_) r_ids
  rw [hM 54 (by omega), h.1.1, h.1.2.1, h.1.2.2.2.1, h.1.2.2.2.2.1, h.2.2.2.2.2.1.1, h.2.2.2.2.2.1.2.1, h.2.2.2.1.1, h.2.2.2.1.2.1, h.2.2.2.2.2.2.2.1.1, h.2.2.2.2.2.2.2.1.2.1, h.2.2.2.2.2.2.2.1.2.2.2.2.2.1]
theorem st_trace {l : Launch} {I : px_I} {J : px_J} {x : Int32} (h : r_ex I J) : r_stp l mX11_trace mX12_trace 2 0 [.int x] I J := by
  obtain ⟨m, n, d, u, t, nb, Ls, h⟩ := h
  refine r_ask h (P := fun I' => I' = I) (R := fun I1 I' => I' = I1) c_X11_trace (r_id I) (fun I1 hp hM h1 => Ct.as (P := fun I' => I' = I1) c_X12_trace ?_) r_ids
  obtain ⟨_, _, _, _, _, b1, b2⟩ := h.2.2.2.2.2.2.2.1
  rw [hM 54 (by omega), hM 87 (by omega), ← b1, ← b2]
  refine (if_and ?_ (fun _ => rfl)).symm
  by_cases c : 24 < I 51 3
  · rw [if_pos c]
    constructor
    · rintro ⟨a, b⟩; exact ⟨a, by rw [Int32.lt_iff_toInt_lt] at b c ⊢; omega, b⟩
    · rintro ⟨a, _, b⟩; exact ⟨a, b⟩
  · rw [if_neg c]
    constructor
    · rintro ⟨a, b⟩; exact ⟨a, b, by rw [Int32.lt_iff_toInt_lt] at b c ⊢; omega⟩
    · rintro ⟨a, b, _⟩; exact ⟨a, b⟩

