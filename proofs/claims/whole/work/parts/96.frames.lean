/-! what a change does not touch stays -/
def f_cnt (q k : Nat) : Prop := (q = 1 ∧ k = 6) ∨ (q = 1 ∧ k = 7) ∨ (q = 54 ∧ k = 1) ∨ (q = 54 ∧ k = 3)
theorem r_cnt.fr {I I' : px_I} {m n : Nat} (h : r_cnt I m n) (hF : ∀ q k, f_cnt q k → I' q k = I q k) : r_cnt I' m n := h.of (c1_6 := hF 1 6 (by simp [f_cnt])) (c1_7 := hF 1 7 (by simp [f_cnt])) (c54_1 := hF 54 1 (by simp [f_cnt])) (c54_3 := hF 54 3 (by simp [f_cnt]))
def f_row (q k : Nat) : Prop := q = 9 ∨ q = 2 ∨ q = 3 ∨ q = 4 ∨ q = 5 ∨ q = 6 ∨ q = 7 ∨ q = 10 ∨ q = 11 ∨ q = 12 ∨ q = 55 ∨ q = 56 ∨ q = 57 ∨ q = 58 ∨ q = 59 ∨ q = 60 ∨ q = 61 ∨ q = 62 ∨ q = 63 ∨ q = 64 ∨ q = 81 ∨ (q = 8 ∧ k = 4) ∨ (q = 8 ∧ k = 5) ∨ (q = 1 ∧ k = 8) ∨ (q = 1 ∧ k = 9)
theorem r_row.fr {I I' : px_I}  (h : r_row I ) (hF : ∀ q k, f_row q k → I' q k = I q k) : r_row I'  := h.of (e9 := funext fun k => hF 9 k (by simp [f_row])) (e2 := funext fun k => hF 2 k (by simp [f_row])) (e3 := funext fun k => hF 3 k (by simp [f_row])) (e4 := funext fun k => hF 4 k (by simp [f_row])) (e5 := funext fun k => hF 5 k (by simp [f_row])) (e6 := funext fun k => hF 6 k (by simp [f_row])) (e7 := funext fun k => hF 7 k (by simp [f_row])) (e10 := funext fun k => hF 10 k (by simp [f_row])) (e11 := funext fun k => hF 11 k (by simp [f_row])) (e12 := funext fun k => hF 12 k (by simp [f_row])) (e55 := funext fun k => hF 55 k (by simp [f_row])) (e56 := funext fun k => hF 56 k (by simp [f_row])) (e57 := funext fun k => hF 57 k (by simp [f_row])) (e58 := funext fun k => hF 58 k (by simp [f_row])) (e59 := funext fun k => hF 59 k (by simp [f_row])) (e60 := funext fun k => hF 60 k (by simp [f_row])) (e61 := funext fun k => hF 61 k (by simp [f_row])) (e62 := funext fun k => hF 62 k (by simp [f_row])) (e63 := funext fun k => hF 63 k (by simp [f_row])) (e64 := funext fun k => hF 64 k (by simp [f_row])) (e81 := funext fun k => hF 81 k (by simp [f_row])) (c8_4 := hF 8 4 (by simp [f_row])) (c8_5 := hF 8 5 (by simp [f_row])) (c1_8 := hF 1 8 (by simp [f_row])) (c1_9 := hF 1 9 (by simp [f_row]))
def f_val (q k : Nat) : Prop := q = 9 ∨ q = 2 ∨ q = 6 ∨ q = 11 ∨ q = 4 ∨ (q = 8 ∧ k = 4) ∨ (q = 1 ∧ k = 8)
theorem r_val.fr {I I' : px_I} {m n : Nat} (h : r_val I m n) (hF : ∀ q k, f_val q k → I' q k = I q k) : r_val I' m n := h.of (e9 := funext fun k => hF 9 k (by simp [f_val])) (e2 := funext fun k => hF 2 k (by simp [f_val])) (e6 := funext fun k => hF 6 k (by simp [f_val])) (e11 := funext fun k => hF 11 k (by simp [f_val])) (e4 := funext fun k => hF 4 k (by simp [f_val])) (c8_4 := hF 8 4 (by simp [f_val])) (c1_8 := hF 1 8 (by simp [f_val]))
def f_chg (q k : Nat) : Prop := q = 29 ∨ q = 30 ∨ q = 31 ∨ q = 32 ∨ q = 65 ∨ q = 66 ∨ q = 67 ∨ q = 68 ∨ (q = 28 ∧ k = 5) ∨ (q = 28 ∧ k = 6) ∨ (q = 54 ∧ k = 13) ∨ (q = 54 ∧ k = 14)
theorem r_chg.fr {I I' : px_I} {m n d u : Nat} (h : r_chg I m n d u) (hF : ∀ q k, f_chg q k → I' q k = I q k) : r_chg I' m n d u := h.of (e29 := funext fun k => hF 29 k (by simp [f_chg])) (e30 := funext fun k => hF 30 k (by simp [f_chg])) (e31 := funext fun k => hF 31 k (by simp [f_chg])) (e32 := funext fun k => hF 32 k (by simp [f_chg])) (e65 := funext fun k => hF 65 k (by simp [f_chg])) (e66 := funext fun k => hF 66 k (by simp [f_chg])) (e67 := funext fun k => hF 67 k (by simp [f_chg])) (e68 := funext fun k => hF 68 k (by simp [f_chg])) (c28_5 := hF 28 5 (by simp [f_chg])) (c28_6 := hF 28 6 (by simp [f_chg])) (c54_13 := hF 54 13 (by simp [f_chg])) (c54_14 := hF 54 14 (by simp [f_chg]))
def f_img (q k : Nat) : Prop := q = 24 ∨ q = 25 ∨ q = 26 ∨ q = 27 ∨ q = 82 ∨ q = 83 ∨ q = 84 ∨ q = 85 ∨ (q = 0 ∧ k = 12) ∨ (q = 0 ∧ k = 13) ∨ (q = 0 ∧ k = 14) ∨ (q = 23 ∧ k = 4) ∨ (q = 23 ∧ k = 5) ∨ (q = 54 ∧ k = 42) ∨ (q = 54 ∧ k = 43) ∨ (q = 54 ∧ k = 44) ∨ (q = 54 ∧ k = 45) ∨ (q = 54 ∧ k = 46)
theorem r_img.fr {I I' : px_I} {m n : Nat} (h : r_img I m n) (hF : ∀ q k, f_img q k → I' q k = I q k) : r_img I' m n := h.of (e24 := funext fun k => hF 24 k (by simp [f_img])) (e25 := funext fun k => hF 25 k (by simp [f_img])) (e26 := funext fun k => hF 26 k (by simp [f_img])) (e27 := funext fun k => hF 27 k (by simp [f_img])) (e82 := funext fun k => hF 82 k (by simp [f_img])) (e83 := funext fun k => hF 83 k (by simp [f_img])) (e84 := funext fun k => hF 84 k (by simp [f_img])) (e85 := funext fun k => hF 85 k (by simp [f_img])) (c0_12 := hF 0 12 (by simp [f_img])) (c0_13 := hF 0 13 (by simp [f_img])) (c0_14 := hF 0 14 (by simp [f_img])) (c23_4 := hF 23 4 (by simp [f_img])) (c23_5 := hF 23 5 (by simp [f_img])) (c54_42 := hF 54 42 (by simp [f_img])) (c54_43 := hF 54 43 (by simp [f_img])) (c54_44 := hF 54 44 (by simp [f_img])) (c54_45 := hF 54 45 (by simp [f_img])) (c54_46 := hF 54 46 (by simp [f_img]))
def f_tape (q k : Nat) : Prop := q = 39 ∨ q = 69 ∨ (q = 33 ∧ k = 2) ∨ (q = 54 ∧ k = 20)
theorem r_tape.fr {I I' : px_I} {t : Nat} (h : r_tape I t) (hF : ∀ q k, f_tape q k → I' q k = I q k) : r_tape I' t := h.of (e39 := funext fun k => hF 39 k (by simp [f_tape])) (e69 := funext fun k => hF 69 k (by simp [f_tape])) (c33_2 := hF 33 2 (by simp [f_tape])) (c54_20 := hF 54 20 (by simp [f_tape]))
def f_law (q k : Nat) : Prop := q = 16 ∨ q = 17 ∨ q = 70 ∨ q = 71 ∨ q = 72 ∨ q = 73 ∨ q = 74 ∨ (q = 14 ∧ k = 4) ∨ (q = 54 ∧ k = 32)
theorem r_law.fr {I I' : px_I} {Ls : List l_L} (h : r_law I Ls) (hF : ∀ q k, f_law q k → I' q k = I q k) : r_law I' Ls := h.of (funext fun k => hF 16 k (by simp [f_law])) (funext fun k => hF 17 k (by simp [f_law])) (hF 14 4 (by simp [f_law])) (fun q a b => funext fun k => hF q k (by unfold f_law; omega)) (hF 54 32 (by simp [f_law]))
def f_bod (q k : Nat) : Prop := q = 52 ∨ q = 53 ∨ q = 86 ∨ q = 87 ∨ (q = 51 ∧ k = 2) ∨ (q = 51 ∧ k = 3) ∨ (q = 54 ∧ k = 51) ∨ (q = 54 ∧ k = 53)
theorem r_bod.fr {I I' : px_I} {nb : Nat} (h : r_bod I nb) (hF : ∀ q k, f_bod q k → I' q k = I q k) : r_bod I' nb := h.of (e52 := funext fun k => hF 52 k (by simp [f_bod])) (e53 := funext fun k => hF 53 k (by simp [f_bod])) (e86 := funext fun k => hF 86 k (by simp [f_bod])) (e87 := funext fun k => hF 87 k (by simp [f_bod])) (c51_2 := hF 51 2 (by simp [f_bod])) (c51_3 := hF 51 3 (by simp [f_bod])) (c54_51 := hF 54 51 (by simp [f_bod])) (c54_53 := hF 54 53 (by simp [f_bod]))
def f_sh (q k : Nat) : Prop := q = 20 ∨ q = 21 ∨ q = 88 ∨ q = 89
theorem r_sh.fr {I I' : px_I} {J : px_J} {nb : Nat} (h : r_sh I J nb) (hF : ∀ q k, f_sh q k → I' q k = I q k) : r_sh I' J nb := h.of (e20 := funext fun k => hF 20 k (by unfold f_sh; omega)) (e21 := funext fun k => hF 21 k (by unfold f_sh; omega)) (e88 := funext fun k => hF 88 k (by unfold f_sh; omega)) (e89 := funext fun k => hF 89 k (by unfold f_sh; omega)) (j22 := rfl) (j90 := rfl)
theorem r_isB {I I' : px_I} {J : px_J} {m n d u t nb : Nat} {Ls : List l_L} (h : r_all I J m n d u t nb Ls) (hM : r_same54 I I') (x : Int32) : g_isB I x = m_body I' x := by
  unfold g_isB m_body
  have hb := h.2.2.2.2.2.2.2.1
  rw [hM 54 (by omega), hb.2.1, ← hb.1]
  exact s_is_w (c := 50) hb.1 rfl hb.2.2.1 (by omega)
theorem run_ix {z : Nat} {n i : Int32} (hz : z ≤ 60) (hn : ¬ n < 0) (hi : ¬ i < 0) (h : ¬ nI z - n < i) : n = nI (ix n) ∧ i = nI (ix i) ∧ ix i + ix n ≤ z := by
  refine ⟨nI_ix hn, nI_ix hi, ?_⟩
  rw [Int32.lt_iff_toInt_lt] at hn hi h
  have c0 : (0 : Int32).toInt = 0 := by decide
  rw [c0] at hn hi
  rw [Int32.toInt_sub, nI_toInt (by omega)] at h
  have h1 : n.toInt < 2 ^ 31 := Int32.toInt_lt n
  have h2 : i.toInt < 2 ^ 31 := Int32.toInt_lt i
  have e : Int.bmod ((z : Int) - n.toInt) (2 ^ 32) = z - n.toInt := by
    rw [Int.bmod_def]; split <;> omega
  rw [e] at h
  show i.toInt.toNat + n.toInt.toNat ≤ z
  omega
theorem s_shift_pair {I : px_I} {J : px_J} {nb : Nat} {x y : Int32} (hs : r_s1 I J nb (ix x)) (ho : r_s1 I J nb (ix y)) (hnb : nb ≤ 50) (hx : s_within x 0 5 = true) (hy : s_within y 0 5 = true) : (g_refPair I x y = (if I 88 (ix x) = -1 ∨ I 88 (ix y) = -1 then -11 else if I 88 (ix x) < 0 ∧ I 88 (ix x) = I 88 (ix y) then 0 else -12)) ∧ ((I 88 (ix x) < 0 ∧ I 88 (ix x) = I 88 (ix y)) → ¬ (I 88 (ix x) = -1 ∨ I 88 (ix y) = -1) → g_row I x = true ∧ g_row I y = true ∧ I 21 (ix x) = I 89 (ix x) ∧ I 21 (ix y) = I 89 (ix y) ∧ I 20 (ix x) = I 20 (ix y)) := by
  have hsx : s_shelf x = true := (shelf_w x).trans hx
  have hsy : s_shelf y = true := (shelf_w y).trans hy
  unfold g_refPair g_empty g_row
  rw [hsx, hsy, if_neg (by decide)]
  rcases hs.2 with ⟨a, b⟩ | ⟨t, ht, a, b, c, _⟩ | ⟨bb, hb, a, _, b⟩
  · rw [a, b]
    exact ⟨by simp, fun _ q => absurd (Or.inl rfl) q⟩
  · obtain ⟨z1, z2, z3⟩ := nI_m2 t ht
    obtain ⟨y1, y2, y3, y4⟩ := t_fact t ht
    rcases ho.2 with ⟨a', b'⟩ | ⟨t', ht', a', b', c', _⟩ | ⟨bb', hb', a', _, b'⟩
    · rw [a, b, a', b']
      exact ⟨by simp, fun _ q => absurd (Or.inr rfl) q⟩
    · obtain ⟨z1', z2', z3'⟩ := nI_m2 t' ht'
      obtain ⟨y1', y2', y3', y4'⟩ := t_fact t' ht'
      rw [a, b, a', b', c, c']
      have e : (-2 - nI t = -2 - nI t') ↔ nI t = nI t' := by
        constructor
        · intro q; rw [← y4, ← y4', q]
        · intro q; rw [q]
      refine ⟨?_, fun q _ => ⟨by simp [y1], by simp [y1'], rfl, rfl, e.mp q.2⟩⟩
      simp [y1, y2, y2', z1, z1', z3, e]
    · obtain ⟨z1', z2', z3'⟩ := nI_ne (b := bb') (by omega)
      rw [a, b, a', b']
      have e : ¬ (-2 - nI t = nI bb') := by intro q; rw [q] at z3; exact z3' z3
      refine ⟨?_, fun q => absurd q.2 e⟩
      simp [y1, y2, y3, z1, z1', z3, e]
  · obtain ⟨z1, z2, z3⟩ := nI_ne (b := bb) (by omega)
    rw [a, b]
    refine ⟨?_, fun q => absurd q.1 z3⟩
    rcases ho.2 with ⟨a', b'⟩ | ⟨t', ht', a', b', c', _⟩ | ⟨bb', hb', a', _, b'⟩
    · rw [a', b']; simp
    · obtain ⟨z1', z2', z3'⟩ := nI_m2 t' ht'
      obtain ⟨y1', y2', y3', y4'⟩ := t_fact t' ht'
      rw [a', b']; simp [y2', z1, z1', z3]
    · obtain ⟨z1', z2', z3'⟩ := nI_ne (b := bb') (by omega)
      rw [a', b']; simp [z1, z1', z3]

