/-! the relation of GladSide and the Model -/
def r_cnt (I : px_I) (m n : Nat) : Prop := I 1 6 = nI m ∧ I 54 1 = nI m ∧ m ≤ 7 ∧ I 1 7 = nI n ∧ I 54 3 = nI n ∧ n ≤ 10
def r_row (I : px_I) : Prop := (I 9 = I 55 ∧ I 2 = I 56 ∧ I 3 = I 57 ∧ I 4 = I 58 ∧ I 5 = I 59 ∧ I 6 = I 60 ∧ I 7 = I 61 ∧ I 10 = I 62 ∧ I 11 = I 63 ∧ I 12 = I 81) ∧ (I 8 4 = I 64 0 ∧ I 1 8 = I 64 1 ∧ I 1 9 = I 64 2 ∧ I 8 5 = I 64 3)
def r_hs (h : Nat → Int32) : Prop := ∀ p, p < 7 → h p = nI (ix (h p)) ∧ ix (h p) < 12
def r_01 (x : Int32) : Prop := x = 0 ∨ x = 1
def r_val (I : px_I) (m n : Nat) : Prop := r_hs (I 9) ∧ px_ofs (I 2) ∧ (∀ j, j < n → ix (I 2 j) < m) ∧ (∀ j, j < 10 → I 6 j = nI (ix (I 6 j)) ∧ ix (I 6 j) < 10) ∧ (∀ j, j < 10 → r_01 (I 11 j)) ∧ r_01 (I 8 4) ∧ 0 < I 1 8 ∧ ∀ j, j < n → 0 < I 4 j
def r_okv (w v : Int32) : Prop := (w = 0 → s_within v 0 11 = true) ∧ (w = 4 → s_within v 0 9 = true) ∧ (w = 7 → s_within v 0 1 = true) ∧ (w = 8 → s_within v 0 1 = true) ∧ (w = 9 ∨ w = 2 → 0 < v)
def r_pl (m n : Nat) (x w : Int32) : Bool := if w = 0 then s_within x 0 (nI m - 1) else if s_within w 1 7 = true then s_within x 0 (nI n - 1) else s_within w 8 11 && decide (x = 0)
def r_ent (m n : Nat) (x w a b : Int32) : Prop := r_pl m n x w = true ∧ r_okv w a ∧ r_okv w b
def r_chg (I : px_I) (m n d u : Nat) : Prop := I 28 5 = nI d ∧ I 54 13 = nI d ∧ I 28 6 = nI (d + u) ∧ I 54 14 = nI u ∧ d + u ≤ 40 ∧ (I 29 = I 66 ∧ I 30 = I 65 ∧ I 31 = I 67 ∧ I 32 = I 68) ∧ ∀ k, k < d + u → r_ent m n (I 29 k) (I 30 k) (I 31 k) (I 32 k)
def r_img (I : px_I) (m n : Nat) : Prop := I 0 12 = I 54 42 ∧ (∃ a b, I 0 13 = nI a ∧ I 54 43 = nI a ∧ a ≤ m ∧ I 0 14 = nI b ∧ I 54 44 = nI b ∧ b ≤ n) ∧ (I 24 = I 82 ∧ I 25 = I 83 ∧ I 26 = I 84 ∧ I 27 = I 85) ∧ (I 23 4 = I 54 45 ∧ I 23 5 = I 54 46) ∧ r_hs (I 24) ∧ (∀ j, j < 10 → r_01 (I 26 j)) ∧ r_01 (I 23 4)
def r_sm (x y : Int32) : Prop := x = y ∨ (127 < x ∧ y < 0)
def r_tape (I : px_I) (t : Nat) : Prop := I 33 2 = nI t ∧ I 54 20 = nI t ∧ t ≤ 120 ∧ ∀ i, i < t → r_sm (I 39 i) (I 69 i)
def r_law (I : px_I) (Ls : List l_L) : Prop := px_law I 14 Ls ∧ m_law I Ls
def r_bod (I : px_I) (nb : Nat) : Prop := I 51 2 = nI nb ∧ I 54 51 = nI nb ∧ nb ≤ 50 ∧ I 52 = I 86 ∧ a_kinds I ∧ I 51 3 = I 54 53 ∧ I 53 = I 87
def r_s1 (I : px_I) (J : px_J) (nb s : Nat) : Prop := (I 89 s = nI (ix (I 89 s)) ∧ ix (I 89 s) ≤ 60) ∧ ((I 20 s = 6 ∧ I 88 s = -1) ∨ (∃ t, t < 5 ∧ I 20 s = nI t ∧ I 88 s = -2 - nI t ∧ I 21 s = I 89 s ∧ (∀ k, k < ix (I 89 s) → J 22 (s * 60 + k) = J 90 (60 * s + k)) ∧ (t = 0 → ∀ k, k < ix (I 89 s) → (J 90 (60 * s + k)).toInt32.toInt64 = J 90 (60 * s + k))) ∨ (∃ b, b < nb ∧ I 20 s = 5 ∧ I 21 s = nI b ∧ I 88 s = nI b))
def r_sh (I : px_I) (J : px_J) (nb : Nat) : Prop := ∀ s, s < 6 → r_s1 I J nb s
def r_all (I : px_I) (J : px_J) (m n d u t nb : Nat) (Ls : List l_L) : Prop := r_cnt I m n ∧ r_row I ∧ r_val I m n ∧ r_chg I m n d u ∧ r_img I m n ∧ r_tape I t ∧ r_law I Ls ∧ r_bod I nb ∧ r_sh I J nb

theorem r_cnt.of {I I' : px_I} {m n : Nat} (h : r_cnt I m n)  (c1_6 : I' 1 6 = I 1 6) (c1_7 : I' 1 7 = I 1 7) (c54_1 : I' 54 1 = I 54 1) (c54_3 : I' 54 3 = I 54 3) : r_cnt I' m n := by
  unfold r_cnt at h ⊢
  simp only [c1_6, c1_7, c54_1, c54_3]
  exact h
theorem r_row.of {I I' : px_I}  (h : r_row I ) (e9 : I' 9 = I 9) (e2 : I' 2 = I 2) (e3 : I' 3 = I 3) (e4 : I' 4 = I 4) (e5 : I' 5 = I 5) (e6 : I' 6 = I 6) (e7 : I' 7 = I 7) (e10 : I' 10 = I 10) (e11 : I' 11 = I 11) (e12 : I' 12 = I 12) (e55 : I' 55 = I 55) (e56 : I' 56 = I 56) (e57 : I' 57 = I 57) (e58 : I' 58 = I 58) (e59 : I' 59 = I 59) (e60 : I' 60 = I 60) (e61 : I' 61 = I 61) (e62 : I' 62 = I 62) (e63 : I' 63 = I 63) (e64 : I' 64 = I 64) (e81 : I' 81 = I 81) (c8_4 : I' 8 4 = I 8 4) (c8_5 : I' 8 5 = I 8 5) (c1_8 : I' 1 8 = I 1 8) (c1_9 : I' 1 9 = I 1 9) : r_row I'  := by
  unfold r_row at h ⊢
  simp only [e9, e2, e3, e4, e5, e6, e7, e10, e11, e12, e55, e56, e57, e58, e59, e60, e61, e62, e63, e64, e81, c8_4, c8_5, c1_8, c1_9]
  exact h
theorem r_val.of {I I' : px_I} {m n : Nat} (h : r_val I m n) (e9 : I' 9 = I 9) (e2 : I' 2 = I 2) (e6 : I' 6 = I 6) (e11 : I' 11 = I 11) (e4 : I' 4 = I 4) (c8_4 : I' 8 4 = I 8 4) (c1_8 : I' 1 8 = I 1 8) : r_val I' m n := by
  unfold r_val at h ⊢
  simp only [e9, e2, e6, e11, e4, c8_4, c1_8]
  exact h
theorem r_chg.of {I I' : px_I} {m n d u : Nat} (h : r_chg I m n d u) (e29 : I' 29 = I 29) (e30 : I' 30 = I 30) (e31 : I' 31 = I 31) (e32 : I' 32 = I 32) (e65 : I' 65 = I 65) (e66 : I' 66 = I 66) (e67 : I' 67 = I 67) (e68 : I' 68 = I 68) (c28_5 : I' 28 5 = I 28 5) (c28_6 : I' 28 6 = I 28 6) (c54_13 : I' 54 13 = I 54 13) (c54_14 : I' 54 14 = I 54 14) : r_chg I' m n d u := by
  unfold r_chg at h ⊢
  simp only [e29, e30, e31, e32, e65, e66, e67, e68, c28_5, c28_6, c54_13, c54_14]
  exact h
theorem r_img.of {I I' : px_I} {m n : Nat} (h : r_img I m n) (e24 : I' 24 = I 24) (e25 : I' 25 = I 25) (e26 : I' 26 = I 26) (e27 : I' 27 = I 27) (e82 : I' 82 = I 82) (e83 : I' 83 = I 83) (e84 : I' 84 = I 84) (e85 : I' 85 = I 85) (c0_12 : I' 0 12 = I 0 12) (c0_13 : I' 0 13 = I 0 13) (c0_14 : I' 0 14 = I 0 14) (c23_4 : I' 23 4 = I 23 4) (c23_5 : I' 23 5 = I 23 5) (c54_42 : I' 54 42 = I 54 42) (c54_43 : I' 54 43 = I 54 43) (c54_44 : I' 54 44 = I 54 44) (c54_45 : I' 54 45 = I 54 45) (c54_46 : I' 54 46 = I 54 46) : r_img I' m n := by
  unfold r_img at h ⊢
  simp only [e24, e25, e26, e27, e82, e83, e84, e85, c0_12, c0_13, c0_14, c23_4, c23_5, c54_42, c54_43, c54_44, c54_45, c54_46]
  exact h
theorem r_tape.of {I I' : px_I} {t : Nat} (h : r_tape I t) (e39 : I' 39 = I 39) (e69 : I' 69 = I 69) (c33_2 : I' 33 2 = I 33 2) (c54_20 : I' 54 20 = I 54 20) : r_tape I' t := by
  unfold r_tape at h ⊢
  simp only [e39, e69, c33_2, c54_20]
  exact h
theorem r_law.of {I I' : px_I} {Ls : List l_L} (h : r_law I Ls) (e16 : I' 16 = I 16) (e17 : I' 17 = I 17) (c14_4 : I' 14 4 = I 14 4) (hq : ∀ q, 70 ≤ q → q ≤ 74 → I' q = I q) (c54_32 : I' 54 32 = I 54 32) : r_law I' Ls := ⟨h.1.of e16 e17 c14_4, h.2.of hq c54_32⟩
theorem r_bod.of {I I' : px_I} {nb : Nat} (h : r_bod I nb) (e52 : I' 52 = I 52) (e53 : I' 53 = I 53) (e86 : I' 86 = I 86) (e87 : I' 87 = I 87) (c51_2 : I' 51 2 = I 51 2) (c51_3 : I' 51 3 = I 51 3) (c54_51 : I' 54 51 = I 54 51) (c54_53 : I' 54 53 = I 54 53) : r_bod I' nb := by
  unfold r_bod a_kinds at h ⊢
  simp only [e52, e53, e86, e87, c51_2, c51_3, c54_51, c54_53]
  exact h
theorem r_sh.of {I I' : px_I} {J J' : px_J} {nb : Nat} (h : r_sh I J nb) (e20 : I' 20 = I 20) (e21 : I' 21 = I 21) (e88 : I' 88 = I 88) (e89 : I' 89 = I 89) (j22 : J' 22 = J 22) (j90 : J' 90 = J 90) : r_sh I' J' nb := by
  unfold r_sh r_s1 at h ⊢
  simp only [e20, e21, e88, e89, j22, j90]
  exact h
/-- rows that count -/
def r_in (q : Nat) : Bool := decide (q ≤ 12) || decide (q = 14) || decide (q = 16) || decide (q = 17) || (decide (20 ≤ q) && decide (q ≤ 21)) || (decide (23 ≤ q) && decide (q ≤ 32)) || decide (q = 39) || (decide (51 ≤ q) && decide (q ≤ 53)) || (decide (55 ≤ q) && decide (q ≤ 74)) || (decide (81 ≤ q) && decide (q ≤ 90))
def r_eq (I I' : px_I) : Prop := (∀ q, r_in q = true → I' q = I q) ∧ I' 33 2 = I 33 2 ∧ ∀ k, (k < 21 ∨ 24 < k) → (k < 36 ∨ 39 < k) → I' 54 k = I 54 k
theorem r_same {I I' : px_I} {J J' : px_J} {m n d u t nb : Nat} {Ls : List l_L} (h : r_all I J m n d u t nb Ls) (e : r_eq I I') (j22 : J' 22 = J 22) (j90 : J' 90 = J 90) : r_all I' J' m n d u t nb Ls := by
  obtain ⟨h1, h2, h3, h4, h5, h6, h7, h8, h9⟩ := h
  obtain ⟨e, e33, e54⟩ := e
  have c54 : ∀ k, (k < 21 ∨ 24 < k) → (k < 36 ∨ 39 < k) → I' 54 k = I 54 k := e54
  refine ⟨h1.of (by rw [e 1 rfl]) (by rw [e 1 rfl]) (c54 _ (by omega) (by omega)) (c54 _ (by omega) (by omega)), ?_, ?_, ?_, ?_, ?_, ?_, ?_, ?_⟩
  · exact h2.of (e _ rfl) (e _ rfl) (e _ rfl) (e _ rfl) (e _ rfl) (e _ rfl) (e _ rfl) (e _ rfl) (e _ rfl) (e _ rfl) (e _ rfl) (e _ rfl) (e _ rfl) (e _ rfl) (e _ rfl) (e _ rfl) (e _ rfl) (e _ rfl) (e _ rfl) (e _ rfl) (e _ rfl) (by rw [e 8 rfl]) (by rw [e 8 rfl]) (by rw [e 1 rfl]) (by rw [e 1 rfl])
  · exact h3.of (e _ rfl) (e _ rfl) (e _ rfl) (e _ rfl) (e _ rfl) (by rw [e 8 rfl]) (by rw [e 1 rfl])
  · exact h4.of (e _ rfl) (e _ rfl) (e _ rfl) (e _ rfl) (e _ rfl) (e _ rfl) (e _ rfl) (e _ rfl) (by rw [e 28 rfl]) (by rw [e 28 rfl]) (c54 _ (by omega) (by omega)) (c54 _ (by omega) (by omega))
  · exact h5.of (e _ rfl) (e _ rfl) (e _ rfl) (e _ rfl) (e _ rfl) (e _ rfl) (e _ rfl) (e _ rfl) (by rw [e 0 rfl]) (by rw [e 0 rfl]) (by rw [e 0 rfl]) (by rw [e 23 rfl]) (by rw [e 23 rfl]) (c54 _ (by omega) (by omega)) (c54 _ (by omega) (by omega)) (c54 _ (by omega) (by omega)) (c54 _ (by omega) (by omega)) (c54 _ (by omega) (by omega))
  · exact h6.of (e _ rfl) (e _ rfl) e33 (c54 _ (by omega) (by omega))
  · exact h7.of (e _ rfl) (e _ rfl) (by rw [e 14 rfl]) (fun q a b => e q (by unfold r_in; simp; omega)) (c54 _ (by omega) (by omega))
  · exact h8.of (e _ rfl) (e _ rfl) (e _ rfl) (e _ rfl) (by rw [e 51 rfl]) (by rw [e 51 rfl]) (c54 _ (by omega) (by omega)) (c54 _ (by omega) (by omega))
  · exact h9.of (e _ rfl) (e _ rfl) (e _ rfl) (e _ rfl) j22 j90
theorem r_eq.tr {I I' I2 : px_I} (h : r_eq I I') (g : r_eq I' I2) : r_eq I I2 := ⟨fun q a => (g.1 q a).trans (h.1 q a), g.2.1.trans h.2.1, fun k a b => (g.2.2 k a b).trans (h.2.2 k a b)⟩
theorem r_eq.rf {I : px_I} : r_eq I I := ⟨fun _ _ => rfl, rfl, fun _ _ _ => rfl⟩
theorem r_in_no {q : Nat} (h : r_in q = true) : q ≠ 13 ∧ q ≠ 15 ∧ q ≠ 18 ∧ q ≠ 54 ∧ q ≠ 75 ∧ q ≠ 76 ∧ q ≠ 77 ∧ q ≠ 78 ∧ q ≠ 79 ∧ q ≠ 80 ∧ (q < 33 ∨ 38 < q) ∧ (q < 40 ∨ 50 < q) := by
  unfold r_in at h
  simp at h
  omega
theorem px_sc.eq {I I' : px_I} (h : px_sc I I') : r_eq I I' := ⟨fun q a => (h q (by have := r_in_no a; omega)).symm, by rw [h 33 (by omega)], fun k _ _ => by rw [h 54 (by omega)]⟩
theorem px_sc.m {I I' : px_I} (h : px_sc I I') : ∀ q, 54 ≤ q → I' q = I q := fun q a => (h q (by omega)).symm
theorem px_sw.eq {I I' : px_I} (h : px_sw I I') : r_eq I I' := ⟨fun q a => h q (r_in_no a).2.1 (r_in_no a).2.2.1, by rw [h 33 (by omega) (by omega)], fun k _ _ => by rw [h 54 (by omega) (by omega)]⟩
theorem px_sx.eq {I I' : px_I} (h : px_sx I I') : r_eq I I' := ⟨fun q a => h q (r_in_no a).2.1 (r_in_no a).2.2.1 (by have := r_in_no a; omega), by rw [h 33 (by omega) (by omega) (by omega)], fun k _ _ => by rw [h 54 (by omega) (by omega) (by omega)]⟩
theorem m_sd.eq {m n : Nat} {I I' : px_I} (h : m_sd m n I I') : r_eq I I' := ⟨fun q a => h.1 q (by have := r_in_no a; omega) (by have := r_in_no a; omega) (by have := r_in_no a; omega) (by have := r_in_no a; omega), by rw [h.1 33 (by omega) (by omega) (by omega) (by omega)], fun k _ b => h.2.1 k b⟩
theorem m_sl.eq {m n : Nat} {I I' : px_I} (h : m_sl m n I I') : r_eq I I' := by
  obtain ⟨Y, h1, h2⟩ := h
  exact h1.eq.tr ⟨fun q a => h2 q (by have := r_in_no a; omega) (by have := r_in_no a; omega) (by have := r_in_no a; omega), by rw [h2 33 (by omega) (by omega) (by omega)], fun k _ _ => by rw [h2 54 (by omega) (by omega) (by omega)]⟩
/-! what the two say the same of -/
theorem r_all.ok0 {I : px_I} {J : px_J} {m n d u t nb : Nat} {Ls : List l_L} (h : r_all I J m n d u t nb Ls) : px_ok0 I m n := ⟨h.1.1, h.1.2.2.1, h.1.2.2.2.1, h.1.2.2.2.2.2, h.2.2.1.2.1, h.2.2.1.2.2.1⟩
theorem r_all.mok {I I' : px_I} {J : px_J} {m n d u t nb : Nat} {Ls : List l_L} (h : r_all I J m n d u t nb Ls) (hM : ∀ q, 54 ≤ q → I' q = I q) : m_ok I' m n := by
  unfold m_ok
  rw [hM 54 (by omega), hM 56 (by omega), hM 64 (by omega), ← h.2.1.1.2.1, ← h.2.1.2.2.1]
  refine ⟨h.1.2.1, h.1.2.2.1, h.1.2.2.2.2.1, h.1.2.2.2.2.2, h.2.2.1.2.1, h.2.2.1.2.2.1, fun e => ?_⟩
  have := h.2.2.1.2.2.2.2.2.2.1
  rw [e] at this
  exact absurd this (by decide)
theorem s_is_w {x a : Int32} {c m : Nat} {C : Int32} (ha : a = nI m) (hC : C = nI c) (hmc : m ≤ c) (hc : c < 100000) : s_is x a C = s_within x 0 (a - 1) := by
  subst ha
  subst hC
  unfold s_is s_within
  by_cases h0 : x < 0
  · rw [decide_eq_true h0]; rfl
  · have hx : x.toInt < 2 ^ 31 := Int32.toInt_lt x
    have hb : ix x < 2 ^ 31 := by show x.toInt.toNat < 2 ^ 31; omega
    rw [nI_ix h0]
    by_cases hm : ix x < m
    · have h1 : nI (ix x) < nI m := (qI_lt hb (by omega)).mpr hm
      have h2 : nI (ix x) < nI c := (qI_lt hb (by omega)).mpr (by omega)
      obtain ⟨k, rfl⟩ : ∃ k, m = k + 1 := ⟨m - 1, by omega⟩
      have h3 : ¬ nI k < nI (ix x) := fun q => absurd ((qI_lt (by omega) hb).mp q) (by omega)
      rw [nI_pred, decide_eq_true h1, decide_eq_true h2, decide_eq_false h3]
      simp
    · have h1 : ¬ nI (ix x) < nI m := fun q => hm ((qI_lt hb (by omega)).mp q)
      rw [decide_eq_false h1]
      cases m with
      | zero =>
        have h3 : nI 0 - 1 < nI (ix x) := by
          rw [Int32.lt_iff_toInt_lt, nI_toInt hb]
          have : (nI 0 - 1).toInt = -1 := by decide
          omega
        rw [decide_eq_true h3]
        simp
      | succ k =>
        have h3 : nI k < nI (ix x) := (qI_lt (by omega) hb).mpr (by omega)
        rw [nI_pred, decide_eq_true h3]
        simp
theorem r_isP {I I' : px_I} {J : px_J} {m n d u t nb : Nat} {Ls : List l_L} (h : r_all I J m n d u t nb Ls) (hM : ∀ q, 54 ≤ q → I' q = I q) (x : Int32) : g_isP I x = m_one I' x := by
  unfold g_isP m_one
  rw [hM 54 (by omega), h.1.2.1, ← h.1.1]
  exact s_is_w (c := 7) h.1.1 rfl h.1.2.2.1 (by omega)
theorem r_isJ {I I' : px_I} {J : px_J} {m n d u t nb : Nat} {Ls : List l_L} (h : r_all I J m n d u t nb Ls) (hM : ∀ q, 54 ≤ q → I' q = I q) (x : Int32) : g_isJ I x = m_joy I' x := by
  unfold g_isJ m_joy
  rw [hM 54 (by omega), h.1.2.2.2.2.1, ← h.1.2.2.2.1]
  exact s_is_w (c := 10) h.1.2.2.2.1 rfl h.1.2.2.2.2.2 (by omega)
theorem R_lay {m n : Nat} {I Y : px_I} : px_R m n (t_start Y m n) 43 Y 8 := R_takes (by omega) (by omega) (by omega)
/-- a state of GladSide and one of the Model that tell the same lane -/
def r_two (Y X : px_I) : Prop := (Y 9 = X 55 ∧ Y 2 = X 56 ∧ Y 3 = X 57 ∧ Y 4 = X 58 ∧ Y 5 = X 59 ∧ Y 6 = X 60 ∧ Y 7 = X 61 ∧ Y 10 = X 62 ∧ Y 11 = X 63) ∧ (Y 8 4 = X 64 0 ∧ Y 1 8 = X 64 1 ∧ Y 1 9 = X 64 2 ∧ Y 8 5 = X 64 3)
theorem r_row.two {I I' : px_I} (h : r_row I) (hM : ∀ q, 54 ≤ q → I' q = I q) : r_two I I' := by
  obtain ⟨⟨a1, a2, a3, a4, a5, a6, a7, a8, a9, a10⟩, b⟩ := h
  unfold r_two
  rw [hM 55 (by omega), hM 56 (by omega), hM 57 (by omega), hM 58 (by omega), hM 59 (by omega), hM 60 (by omega), hM 61 (by omega), hM 62 (by omega), hM 63 (by omega), hM 64 (by omega)]
  exact ⟨⟨a1, a2, a3, a4, a5, a6, a7, a8, a9⟩, b⟩
theorem r_two.up {Y X : px_I} {q r k : Nat} {x : Int32} (h : r_two Y X) (hq : (q = 3 ∧ r = 57) ∨ (q = 5 ∧ r = 59)) : r_two (px_up Y q k x) (px_up X r k x) := by
  obtain ⟨⟨a1, a2, a3, a4, a5, a6, a7, a8, a9⟩, b1, b2', b3, b4⟩ := h
  have same : ∀ {f g : Nat → Nat → Int32} {q r : Nat}, f q = g r → px_up f q k x q = px_up g r k x r := by
    intro f g q r e
    funext i
    simp only [px_up_at, e, true_and]
  rcases hq with ⟨rfl, rfl⟩ | ⟨rfl, rfl⟩
  · exact ⟨⟨(px_up_row (by omega)).trans (a1.trans (px_up_row (I := X) (by omega)).symm), (px_up_row (by omega)).trans (a2.trans (px_up_row (I := X) (by omega)).symm), same a3, (px_up_row (by omega)).trans (a4.trans (px_up_row (I := X) (by omega)).symm), (px_up_row (by omega)).trans (a5.trans (px_up_row (I := X) (by omega)).symm), (px_up_row (by omega)).trans (a6.trans (px_up_row (I := X) (by omega)).symm), (px_up_row (by omega)).trans (a7.trans (px_up_row (I := X) (by omega)).symm), (px_up_row (by omega)).trans (a8.trans (px_up_row (I := X) (by omega)).symm), (px_up_row (by omega)).trans (a9.trans (px_up_row (I := X) (by omega)).symm)⟩, b1, b2', b3, b4⟩
  · exact ⟨⟨(px_up_row (by omega)).trans (a1.trans (px_up_row (I := X) (by omega)).symm), (px_up_row (by omega)).trans (a2.trans (px_up_row (I := X) (by omega)).symm), (px_up_row (by omega)).trans (a3.trans (px_up_row (I := X) (by omega)).symm), (px_up_row (by omega)).trans (a4.trans (px_up_row (I := X) (by omega)).symm), same a5, (px_up_row (by omega)).trans (a6.trans (px_up_row (I := X) (by omega)).symm), (px_up_row (by omega)).trans (a7.trans (px_up_row (I := X) (by omega)).symm), (px_up_row (by omega)).trans (a8.trans (px_up_row (I := X) (by omega)).symm), (px_up_row (by omega)).trans (a9.trans (px_up_row (I := X) (by omega)).symm)⟩, b1, b2', b3, b4⟩
/-- the told and the course in thought, at the start -/
theorem r_lay {Y X : px_I} {m n : Nat} (h : r_two Y X) : px_R m n Y 8 (mv (m_lay X m n)) 43 := by
  obtain ⟨⟨a1, a2, a3, a4, a5, a6, a7, a8, a9⟩, b1, b2', b3, b4⟩ := h
  have lr : ∀ q, (q < 77 ∨ 79 < q) → q ≠ 54 → m_lay X m n q = X q := fun q x y => m_lay_row x y
  refine mv_R (a2.trans (lr 56 (by omega) (by omega)).symm) (a3.trans (lr 57 (by omega) (by omega)).symm) (a4.trans (lr 58 (by omega) (by omega)).symm) (a5.trans (lr 59 (by omega) (by omega)).symm) (a6.trans (lr 60 (by omega) (by omega)).symm) (a7.trans (lr 61 (by omega) (by omega)).symm) (by rw [lr 64 (by omega) (by omega)]; exact b2') (by rw [lr 64 (by omega) (by omega)]; exact b3) ?_ ?_ (fun k hk => ?_) (fun k hk => ?_) (fun k hk => ?_)
  · unfold m_lay
    rw [px_up_ne (by omega), px_up_ne (by omega), px_up_ne (by omega), px_up_same]
    exact b1
  · unfold m_lay
    rw [px_up_ne (by omega), px_up_ne (by omega), px_up_same]
    exact b4
  · unfold m_lay m_cp
    rw [px_up_row (by omega), px_up_row (by omega), px_up_row (by omega), px_up_row (by omega), px_cp_row (by omega), px_cp_row (by omega), px_cp_at, if_pos (by omega), ← a1, Nat.sub_zero, Nat.zero_add]
  · unfold m_lay m_cp
    rw [px_up_row (by omega), px_up_row (by omega), px_up_row (by omega), px_up_row (by omega), px_cp_row (by omega), px_cp_at, if_pos (by omega), px_cp_row (by omega), ← a8, Nat.sub_zero, Nat.zero_add]
  · unfold m_lay m_cp
    rw [px_up_row (by omega), px_up_row (by omega), px_up_row (by omega), px_up_row (by omega), px_cp_at, if_pos (by omega), px_cp_row (by omega), px_cp_row (by omega), ← a9, Nat.sub_zero, Nat.zero_add]

