/-! changes of a place, and the changes themselves -/
def wq (w : Int32) : Nat := if w = 8 then 8 else if w = 9 then 1 else if w = 10 then 1 else if w = 11 then 8 else g_lst w
def wk (w x : Int32) : Nat := if w = 8 then 4 else if w = 9 then 8 else if w = 10 then 9 else if w = 11 then 5 else ix x
def vq (w : Int32) : Nat := if w = 0 then 55 else if w = 1 then 57 else if w = 2 then 58 else if w = 3 then 59 else if w = 4 then 60 else if w = 5 then 61 else if w = 6 then 62 else if w = 7 then 63 else 64
def vk (w x : Int32) : Nat := if w = 8 then 0 else if w = 9 then 1 else if w = 10 then 2 else if w = 11 then 3 else ix x
theorem g_write_at {I : px_I} {x w v : Int32} {q k : Nat} (hp : g_there I x w = true) (ha : m_at x w) : g_write I x w v q k = if q = wq w ∧ k = wk w x then v else I q k := by
  unfold g_write
  rw [hp]
  rcases ha with ⟨e, _⟩ | ⟨e | e | e | e | e | e | e, _⟩ | ⟨e | e | e | e, _⟩ <;> subst e <;> rfl
theorem m_put_at {I : px_I} {x w v : Int32} {q k : Nat} (ha : m_at x w) : m_put I x w v q k = if q = vq w ∧ k = vk w x then v else I q k := by
  unfold m_put
  rcases ha with ⟨e, _⟩ | ⟨e | e | e | e | e | e | e, _⟩ | ⟨e | e | e | e, _⟩ <;> subst e <;> rfl
/-- the table of places -/
theorem w_tab {x w : Int32} (ha : m_at x w) : (w = 0 ∧ wq w = 9 ∧ vq w = 55 ∧ wk w x = ix x ∧ vk w x = ix x) ∨ (w = 1 ∧ wq w = 3 ∧ vq w = 57 ∧ wk w x = ix x ∧ vk w x = ix x) ∨ (w = 2 ∧ wq w = 4 ∧ vq w = 58 ∧ wk w x = ix x ∧ vk w x = ix x) ∨ (w = 3 ∧ wq w = 5 ∧ vq w = 59 ∧ wk w x = ix x ∧ vk w x = ix x) ∨ (w = 4 ∧ wq w = 6 ∧ vq w = 60 ∧ wk w x = ix x ∧ vk w x = ix x) ∨ (w = 5 ∧ wq w = 7 ∧ vq w = 61 ∧ wk w x = ix x ∧ vk w x = ix x) ∨ (w = 6 ∧ wq w = 10 ∧ vq w = 62 ∧ wk w x = ix x ∧ vk w x = ix x) ∨ (w = 7 ∧ wq w = 11 ∧ vq w = 63 ∧ wk w x = ix x ∧ vk w x = ix x) ∨ (w = 8 ∧ wq w = 8 ∧ vq w = 64 ∧ wk w x = 4 ∧ vk w x = 0) ∨ (w = 9 ∧ wq w = 1 ∧ vq w = 64 ∧ wk w x = 8 ∧ vk w x = 1) ∨ (w = 10 ∧ wq w = 1 ∧ vq w = 64 ∧ wk w x = 9 ∧ vk w x = 2) ∨ (w = 11 ∧ wq w = 8 ∧ vq w = 64 ∧ wk w x = 5 ∧ vk w x = 3) := by
  rcases ha with ⟨e, _⟩ | ⟨e | e | e | e | e | e | e, _⟩ | ⟨e | e | e | e, _⟩ <;> subst e
  · exact Or.inl ⟨rfl, rfl, rfl, rfl, rfl⟩
  · exact Or.inr (Or.inl ⟨rfl, rfl, rfl, rfl, rfl⟩)
  · exact Or.inr (Or.inr (Or.inl ⟨rfl, rfl, rfl, rfl, rfl⟩))
  · exact Or.inr (Or.inr (Or.inr (Or.inl ⟨rfl, rfl, rfl, rfl, rfl⟩)))
  · exact Or.inr (Or.inr (Or.inr (Or.inr (Or.inl ⟨rfl, rfl, rfl, rfl, rfl⟩))))
  · exact Or.inr (Or.inr (Or.inr (Or.inr (Or.inr (Or.inl ⟨rfl, rfl, rfl, rfl, rfl⟩)))))
  · exact Or.inr (Or.inr (Or.inr (Or.inr (Or.inr (Or.inr (Or.inl ⟨rfl, rfl, rfl, rfl, rfl⟩))))))
  · exact Or.inr (Or.inr (Or.inr (Or.inr (Or.inr (Or.inr (Or.inr (Or.inl ⟨rfl, rfl, rfl, rfl, rfl⟩)))))))
  · exact Or.inr (Or.inr (Or.inr (Or.inr (Or.inr (Or.inr (Or.inr (Or.inr (Or.inl ⟨rfl, rfl, rfl, rfl, rfl⟩))))))))
  · exact Or.inr (Or.inr (Or.inr (Or.inr (Or.inr (Or.inr (Or.inr (Or.inr (Or.inr (Or.inl ⟨rfl, rfl, rfl, rfl, rfl⟩)))))))))
  · exact Or.inr (Or.inr (Or.inr (Or.inr (Or.inr (Or.inr (Or.inr (Or.inr (Or.inr (Or.inr (Or.inl ⟨rfl, rfl, rfl, rfl, rfl⟩))))))))))
  · exact Or.inr (Or.inr (Or.inr (Or.inr (Or.inr (Or.inr (Or.inr (Or.inr (Or.inr (Or.inr (Or.inr ⟨rfl, rfl, rfl, rfl, rfl⟩))))))))))
theorem w_rng {x w : Int32} (ha : m_at x w) : ((wq w = 1 ∧ (wk w x = 8 ∨ wk w x = 9)) ∨ (3 ≤ wq w ∧ wq w ≤ 11)) ∧ 55 ≤ vq w ∧ vq w ≤ 64 ∧ vq w ≠ 56 := by
  rcases w_tab ha with h | h | h | h | h | h | h | h | h | h | h | h <;> (obtain ⟨_, a, b, c, d⟩ := h; rw [a, b, c]; omega)
theorem pair_eq {I I2 : px_I} {w x v : Int32} {a b : Nat} (hF : ∀ q k, ¬ (28 ≤ q ∧ q ≤ 32) → ¬ (65 ≤ q ∧ q ≤ 68) → ¬ (q = 54 ∧ (k = 13 ∨ k = 14)) → I2 q k = if (q = wq w ∧ k = wk w x) ∨ (q = vq w ∧ k = vk w x) then v else I q k) (h : I a = I b) (ha : a ≠ 54 ∧ (a < 28 ∨ 32 < a) ∧ (a < 65 ∨ 68 < a)) (hb : b ≠ 54 ∧ (b < 28 ∨ 32 < b) ∧ (b < 65 ∨ 68 < b)) (hs : ∀ k, ((a = wq w ∧ k = wk w x) ∨ (a = vq w ∧ k = vk w x)) ↔ ((b = wq w ∧ k = wk w x) ∨ (b = vq w ∧ k = vk w x))) : I2 a = I2 b := by
  funext k
  rw [hF a k (by omega) (by omega) (by omega), hF b k (by omega) (by omega) (by omega), h]
  by_cases c : (a = wq w ∧ k = wk w x) ∨ (a = vq w ∧ k = vk w x)
  · rw [if_pos c, if_pos ((hs k).mp c)]
  · rw [if_neg c, if_neg (fun q => c ((hs k).mpr q))]
theorem cell_eq {I I2 : px_I} {w x v : Int32} {a b i j : Nat} (hF : ∀ q k, ¬ (28 ≤ q ∧ q ≤ 32) → ¬ (65 ≤ q ∧ q ≤ 68) → ¬ (q = 54 ∧ (k = 13 ∨ k = 14)) → I2 q k = if (q = wq w ∧ k = wk w x) ∨ (q = vq w ∧ k = vk w x) then v else I q k) (h : I a i = I b j) (ha : a ≠ 54 ∧ (a < 28 ∨ 32 < a) ∧ (a < 65 ∨ 68 < a)) (hb : b ≠ 54 ∧ (b < 28 ∨ 32 < b) ∧ (b < 65 ∨ 68 < b)) (hs : ((a = wq w ∧ i = wk w x) ∨ (a = vq w ∧ i = vk w x)) ↔ ((b = wq w ∧ j = wk w x) ∨ (b = vq w ∧ j = vk w x))) : I2 a i = I2 b j := by
  rw [hF a i (by omega) (by omega) (by omega), hF b j (by omega) (by omega) (by omega), h]
  by_cases c : (a = wq w ∧ i = wk w x) ∨ (a = vq w ∧ i = vk w x)
  · rw [if_pos c, if_pos (hs.mp c)]
  · rw [if_neg c, if_neg (fun q => c (hs.mpr q))]
theorem w_01 {v : Int32} (h : s_within v 0 1 = true) : r_01 v := by
  have hx := w_ixc (m := 1) (by omega) (b := 1) (by decide) h
  have hc : ix v = 0 ∨ ix v = 1 := by omega
  rcases hc with e | e <;> rw [e] at hx
  · exact Or.inl (hx.1.trans nI_0)
  · exact Or.inr (hx.1.trans (by decide))
theorem r_mend {I I2 : px_I} {J : px_J} {m n d u d' u' t nb : Nat} {Ls : List l_L} {x w v : Int32} (h : r_all I J m n d u t nb Ls) (ha : m_at x w) (hv : r_okv w v) (hF : ∀ q k, ¬ (28 ≤ q ∧ q ≤ 32) → ¬ (65 ≤ q ∧ q ≤ 68) → ¬ (q = 54 ∧ (k = 13 ∨ k = 14)) → I2 q k = if (q = wq w ∧ k = wk w x) ∨ (q = vq w ∧ k = vk w x) then v else I q k) (hc : r_chg I2 m n d' u') : r_all I2 J m n d' u' t nb Ls := by
  have hg := w_rng ha
  have hf : ∀ q k, ¬ (28 ≤ q ∧ q ≤ 32) → ¬ (65 ≤ q ∧ q ≤ 68) → ¬ (q = 54 ∧ (k = 13 ∨ k = 14)) → ¬ (q = 1 ∧ (k = 8 ∨ k = 9)) → ¬ (3 ≤ q ∧ q ≤ 11) → (q < 55 ∨ 64 < q) → I2 q k = I q k := by
    intro q k a b c e f g
    rw [hF q k a b c, if_neg (by omega)]
  have ht := w_tab ha
  obtain ⟨h1, h2, h3, h4, h5, h6, h7, h8, h9⟩ := h
  refine ⟨h1.fr (fun q k a => by unfold f_cnt at a; exact hf q k (by omega) (by omega) (by omega) (by omega) (by omega) (by omega)), ?_, ?_, hc, h5.fr (fun q k a => by unfold f_img at a; exact hf q k (by omega) (by omega) (by omega) (by omega) (by omega) (by omega)), h6.fr (fun q k a => by unfold f_tape at a; exact hf q k (by omega) (by omega) (by omega) (by omega) (by omega) (by omega)), h7.fr (fun q k a => by unfold f_law at a; exact hf q k (by omega) (by omega) (by omega) (by omega) (by omega) (by omega)), h8.fr (fun q k a => by unfold f_bod at a; exact hf q k (by omega) (by omega) (by omega) (by omega) (by omega) (by omega)), h9.fr (fun q k a => by unfold f_sh at a; exact hf q k (by omega) (by omega) (by omega) (by omega) (by omega) (by omega))⟩
  · obtain ⟨⟨a1, a2, a3, a4, a5, a6, a7, a8, a9, a10⟩, b1, b2', b3, b4⟩ := h2
    rcases ht with e | e | e | e | e | e | e | e | e | e | e | e <;> (obtain ⟨_, e1, e2, e3, e4⟩ := e; refine ⟨⟨pair_eq hF a1 (by omega) (by omega) (fun k => by omega), pair_eq hF a2 (by omega) (by omega) (fun k => by omega), pair_eq hF a3 (by omega) (by omega) (fun k => by omega), pair_eq hF a4 (by omega) (by omega) (fun k => by omega), pair_eq hF a5 (by omega) (by omega) (fun k => by omega), pair_eq hF a6 (by omega) (by omega) (fun k => by omega), pair_eq hF a7 (by omega) (by omega) (fun k => by omega), pair_eq hF a8 (by omega) (by omega) (fun k => by omega), pair_eq hF a9 (by omega) (by omega) (fun k => by omega), pair_eq hF a10 (by omega) (by omega) (fun k => by omega)⟩, cell_eq hF b1 (by omega) (by omega) (by omega), cell_eq hF b2' (by omega) (by omega) (by omega), cell_eq hF b3 (by omega) (by omega) (by omega), cell_eq hF b4 (by omega) (by omega) (by omega)⟩)
  · obtain ⟨c1, c2, c3, c4, c5, c6, c7⟩ := h3
    have i2 : I2 2 = I 2 := funext fun k => by rw [hF 2 k (by omega) (by omega) (by omega), if_neg (by omega)]
    unfold r_val
    rw [i2]
    refine ⟨fun p hp => ?_, c2, c3, fun j hj => ?_, fun j hj => ?_, ?_, ?_, fun j hj => ?_⟩
    · rw [hF 9 p (by omega) (by omega) (by omega)]
      split
      · have w0 : w = 0 := by rcases ht with e | e | e | e | e | e | e | e | e | e | e | e <;> first | exact e.1 | (exfalso; omega)
        exact w_ixc (m := 11) (by omega) rfl (hv.1 w0)
      · exact c1 p hp
    · rw [hF 6 j (by omega) (by omega) (by omega)]
      split
      · have w0 : w = 4 := by rcases ht with e | e | e | e | e | e | e | e | e | e | e | e <;> first | exact e.1 | (exfalso; omega)
        exact w_ixc (m := 9) (by omega) rfl (hv.2.1 w0)
      · exact c4 j hj
    · rw [hF 11 j (by omega) (by omega) (by omega)]
      split
      · have w0 : w = 7 := by rcases ht with e | e | e | e | e | e | e | e | e | e | e | e <;> first | exact e.1 | (exfalso; omega)
        exact w_01 (hv.2.2.1 w0)
      · exact c5 j hj
    · rw [hF 8 4 (by omega) (by omega) (by omega)]
      split
      · have w0 : w = 8 := by rcases ht with e | e | e | e | e | e | e | e | e | e | e | e <;> first | exact e.1 | (exfalso; omega)
        exact w_01 (hv.2.2.2.1 w0)
      · exact c6
    · rw [hF 1 8 (by omega) (by omega) (by omega)]
      split
      · have w0 : w = 9 := by rcases ht with e | e | e | e | e | e | e | e | e | e | e | e <;> first | exact e.1 | (exfalso; omega)
        exact hv.2.2.2.2 (Or.inl w0)
      · exact c7.1
    · rw [hF 4 j (by omega) (by omega) (by omega)]
      split
      · have w0 : w = 2 := by rcases ht with e | e | e | e | e | e | e | e | e | e | e | e <;> first | exact e.1 | (exfalso; omega)
        exact hv.2.2.2.2 (Or.inr w0)
      · exact c7.2 j hj

