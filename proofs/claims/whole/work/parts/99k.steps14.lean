/-! joys from rows of the law -/
def mg (S X : px_I) : px_I := fun q => if q < 54 then S q else X q
theorem g_fr_row {I : px_I} {J : px_J} {n q : Nat} {s p : Int32} (h : 7 < q) : (g_fr I J n s p).2 q = I q := by
  unfold g_fr
  split
  · dsimp only
    split
    · unfold g_addJoy
      show px_up _ 6 n _ q = I q
      rw [px_up_row (by omega), px_up_row (by omega), px_up_row (by omega), px_up_row (by omega), px_up_row (by omega), px_up_row (by omega), px_up_row (by omega)]
    · rfl
  · rfl
theorem g_js_row {J : px_J} {s i : Int32} {N q : Nat} (h : 7 < q) : ∀ f k n S, (g_js J s i N f k n S).2 q = S q := by
  intro f
  induction f with
  | zero => intro k n S; rfl
  | succ f ih =>
    intro k n S
    rw [g_js]
    split
    · rw [ih, g_fr_row h]
    · rfl
theorem m_js_row {J : px_J} {s z q : Nat} {i : Int32} (h : q < 54) : ∀ f k n X, (m_js J s z i f k n X).2 q = X q := by
  intro f
  induction f with
  | zero => intro k n X; rfl
  | succ f ih =>
    intro k n X
    rw [m_js]
    split
    · rw [ih, m_addJoy, px_up_row (by omega), m_addJoy5_row (by omega)]
    · rfl
theorem js_p {i : Int32} {k z : Nat} (hk : k ≤ 10) (hz : z ≤ 60) : ((¬ i + 3 * nI k < 0 ∧ ¬ nI z - 3 < i + 3 * nI k) ↔ (0 ≤ i.toInt + 3 * k ∧ i.toInt + 3 * k + 2 < z)) ∧ (0 ≤ i.toInt + 3 * k ∧ i.toInt + 3 * k + 2 < z → i + 3 * nI k = nI (i.toInt + 3 * k).toNat) := by
  have h1 : i.toInt < 2 ^ 31 := Int32.toInt_lt i
  have h2 : -2 ^ 31 ≤ i.toInt := Int32.le_toInt i
  have e : (i + 3 * nI k).toInt = Int.bmod (i.toInt + 3 * k) (2 ^ 32) := by
    have h3 : (3 * nI k : Int32) = nI (3 * k) := qI_mul 3 k
    rw [h3, Int32.toInt_add, nI_toInt (by omega)]
    congr 1
  have hb : Int.bmod (i.toInt + 3 * k) (2 ^ 32) = i.toInt + 3 * k ∨ (Int.bmod (i.toInt + 3 * k) (2 ^ 32) = i.toInt + 3 * k - 2 ^ 32 ∧ 2 ^ 31 ≤ i.toInt + 3 * k) := by
    rw [Int.bmod_def]; split <;> omega
  have e3 : (nI z - 3).toInt = (z : Int) - 3 := by
    rw [Int32.toInt_sub, nI_toInt (by omega), show (3 : Int32).toInt = 3 from by decide]
    rw [Int.bmod_def]; split <;> omega
  have c0 : (0 : Int32).toInt = 0 := by decide
  refine ⟨?_, fun q => ?_⟩
  · rw [Int32.lt_iff_toInt_lt, Int32.lt_iff_toInt_lt, e, e3, c0]
    constructor <;> intro q <;> omega
  · apply Int32.toInt_inj.mp
    rw [e, nI_toInt (by omega)]
    omega
theorem g_fr_eq {S : px_I} {J : px_J} {n : Nat} {s p o d v : Int32} (q : ¬ p < 0 ∧ ¬ g_lenOf S s - 3 < p) (h0 : (g_cell S J s p).toInt32 = o) (h1 : (g_cell S J s (p + 1)).toInt32 = d) (h2 : (g_cell S J s (p + 2)).toInt32 = v) : g_fr S J n s p = if s_mayBe 4 v = true ∧ g_isP S o = true ∧ s_within d 0 99 = true ∧ n < 10 then (true, px_up (g_addJoy S n o d) 6 n v) else (false, S) := by
  subst h0 h1 h2
  unfold g_fr
  exact if_pos q
theorem js_may (v : Int32) : s_mayBe 4 v = s_within v 0 9 := rfl
theorem js_fr {S X : px_I} {J : px_J} {s i : Int32} {n k z : Nat} (hq : q_sh S J s (ix s) z) (hk : k ≤ 10) (hP : ∀ x, g_isP S x = m_one X x) : ((g_fr S J n s (i + 3 * nI k)).1 = true ↔ (m_jr z i k n = true ∧ m_jb X J (ix s) (i.toInt + 3 * k).toNat = true)) ∧ ((m_jr z i k n = true ∧ m_jb X J (ix s) (i.toInt + 3 * k).toNat = true) → (g_fr S J n s (i + 3 * nI k)).2 = px_up (g_addJoy S n (m_el J (ix s) (i.toInt + 3 * k).toNat) (m_el J (ix s) ((i.toInt + 3 * k).toNat + 1))) 6 n (m_el J (ix s) ((i.toInt + 3 * k).toNat + 2))) := by
  obtain ⟨hl, hz, hc⟩ := hq
  have P := js_p (i := i) hk hz
  by_cases hr : 0 ≤ i.toInt + 3 * k ∧ i.toInt + 3 * k + 2 < z
  · have e := P.2 hr
    obtain ⟨p, hp⟩ : ∃ p : Nat, p = (i.toInt + 3 * k).toNat := ⟨_, rfl⟩
    have q := P.1.mpr hr
    rw [← hl] at q
    rw [← hp] at e ⊢
    have g := g_fr_eq (n := n) (J := J) q (o := m_el J (ix s) p) (d := m_el J (ix s) (p + 1)) (v := m_el J (ix s) (p + 2)) (by rw [e, (hc p (by omega)).1]; rfl) (by rw [e, show nI p + 1 = nI (p + 1) from qI_add p 1, (hc (p + 1) (by omega)).1]; rfl) (by rw [e, show nI p + 2 = nI (p + 2) from qI_add p 2, (hc (p + 2) (by omega)).1]; rfl)
    have A : (s_mayBe 4 (m_el J (ix s) (p + 2)) = true ∧ g_isP S (m_el J (ix s) p) = true ∧ s_within (m_el J (ix s) (p + 1)) 0 99 = true ∧ n < 10) ↔ (m_jr z i k n = true ∧ m_jb X J (ix s) p = true) := by
      rw [js_may, hP]
      simp only [m_jr, m_jb, Bool.and_eq_true, decide_eq_true_eq]
      constructor
      · rintro ⟨a, b, c, d⟩; exact ⟨⟨hr, d⟩, ⟨b, c⟩, a⟩
      · rintro ⟨⟨_, d⟩, ⟨b, c⟩, a⟩; exact ⟨a, b, c, d⟩
    rw [g]
    by_cases c : m_jr z i k n = true ∧ m_jb X J (ix s) p = true
    · rw [if_pos (A.mpr c)]
      exact ⟨⟨fun _ => c, fun _ => rfl⟩, fun _ => rfl⟩
    · rw [if_neg (fun a => c (A.mp a))]
      exact ⟨⟨fun a => absurd a Bool.false_ne_true, fun a => absurd a c⟩, fun a => absurd a c⟩
  · have n1 : g_fr S J n s (i + 3 * nI k) = (false, S) := by
      unfold g_fr
      exact if_neg (fun a => hr (P.1.mp (by rw [← hl]; exact a)))
    have n2 : ¬ (m_jr z i k n = true ∧ m_jb X J (ix s) (i.toInt + 3 * k).toNat = true) := by
      rintro ⟨a, _⟩
      simp only [m_jr, Bool.and_eq_true, decide_eq_true_eq] at a
      exact hr a.1
    rw [n1]
    exact ⟨⟨fun a => absurd a Bool.false_ne_true, fun a => absurd a n2⟩, fun a => absurd a n2⟩
theorem mg_add {S X : px_I} {n : Nat} {o d w : Int32} (q k : Nat) : mg (px_up (g_addJoy S n o d) 6 n w) (m_addJoy X n o d w) q k = if k = n ∧ (q = 2 ∨ q = 56) then o else if k = n ∧ (q = 3 ∨ q = 57) then d else if k = n ∧ (q = 4 ∨ q = 58) then 2 else if k = n ∧ (q = 5 ∨ q = 59) then 9 else if k = n ∧ (q = 6 ∨ q = 60) then w else if (q = 1 ∧ k = 7) ∨ (q = 54 ∧ k = 3) then nI (n + 1) else mg S X q k := by
  by_cases c1 : q = 1 ∨ q = 2 ∨ q = 3 ∨ q = 4 ∨ q = 5 ∨ q = 6 ∨ q = 54 ∨ q = 56 ∨ q = 57 ∨ q = 58 ∨ q = 59 ∨ q = 60
  · rcases c1 with e | e | e | e | e | e | e | e | e | e | e | e <;> subst e <;> simp [mg, g_addJoy, m_addJoy, px_up_at]
    by_cases e : k = n <;> simp [e]
  · have h1 : mg (px_up (g_addJoy S n o d) 6 n w) (m_addJoy X n o d w) q k = mg S X q k := by
      unfold mg
      by_cases h : q < 54
      · rw [if_pos h, if_pos h, g_addJoy, px_up_row (by omega), px_up_row (by omega), px_up_row (by omega), px_up_row (by omega), px_up_row (by omega), px_up_row (by omega), px_up_row (by omega)]
      · rw [if_neg h, if_neg h, m_addJoy, px_up_row (by omega), m_addJoy5_row (by omega)]
    rw [h1, if_neg (by omega), if_neg (by omega), if_neg (by omega), if_neg (by omega), if_neg (by omega), if_neg (by omega)]
theorem js_all {J : px_J} {s i : Int32} {N z m d u t nb : Nat} {Ls : List l_L} (hN : N ≤ 10) : ∀ f k n S X, k + f = N → r_all (mg S X) J m n d u t nb Ls → q_sh S J s (ix s) z → (g_js J s i N (f + 1) k n S).1 = (m_js J (ix s) z i f k n X).1 ∧ ∃ n', r_all (mg (g_js J s i N (f + 1) k n S).2 (m_js J (ix s) z i f k n X).2) J m n' d u t nb Ls := by
  intro f
  induction f with
  | zero =>
    intro k n S X hk h hq
    rw [g_js, if_neg (fun a => absurd a.1 (by omega))]
    exact ⟨rfl, n, h⟩
  | succ f ih =>
    intro k n S X hk h hq
    have hP : ∀ x, g_isP S x = m_one X x := fun x => r_isP h (I' := mg S X) (fun _ _ => rfl) x
    have F := js_fr (i := i) (n := n) (k := k) hq (by omega) hP
    rw [g_js, m_js]
    by_cases c : m_jr z i k n = true ∧ m_jb X J (ix s) (i.toInt + 3 * k).toNat = true
    · rw [if_pos ⟨by omega, F.1.mpr c⟩, if_pos c, F.2 c]
      have c' := c
      simp only [m_jr, m_jb, Bool.and_eq_true, decide_eq_true_eq] at c'
      obtain ⟨⟨⟨_, _⟩, cn⟩, ⟨co, cd⟩, cw⟩ := c'
      have hw := w_ixc (m := 9) (by omega) rfl cw
      have ho := h.px (I' := mg S X) (fun _ _ => rfl) (show m_one (mg S X) (m_el J (ix s) (i.toInt + 3 * k).toNat) = true from co)
      refine ih (k + 1) (n + 1) _ _ (by omega) (r_addJoy h cn ho ⟨hw.1, by omega⟩ mg_add) ?_
      unfold g_addJoy
      exact ((((((hq.up (by omega) (by omega)).up (by omega) (by omega)).up (by omega) (by omega)).up (by omega) (by omega)).up (by omega) (by omega)).up (by omega) (by omega)).up (by omega) (by omega)
    · rw [if_neg (fun a => c (F.1.mp a.2)), if_neg c]
      exact ⟨rfl, n, h⟩
theorem mg_self {I I1 : px_I} (h : ∀ q, 54 ≤ q → I1 q = I q) : mg I I1 = I := by
  funext q
  unfold mg
  split
  · rfl
  · exact h q (by omega)
theorem mg_same {S X : px_I} (h : ∀ q, q < 54 → X q = S q) : mg S X = X := by
  funext q
  unfold mg
  split
  · exact (h q (by omega)).symm
  · rfl
theorem st_joys {l : Launch} {I : px_I} {J : px_J} {s i x : Int32} (h : r_ex I J) : r_stp l mX11_joys mX12_joys 5 2 [.int s, .int i, .int x] I J := by
  obtain ⟨m, n, d, u, t, nb, Ls, h⟩ := h
  have cG := c_X11_joys (l := l) (I := I) (J := J) (s := s) (i := i) (x := x) h.1.2.2.2.1 h.1.2.2.2.2.2 h.rows
  have cM0 := c_X12_joys (l := l) (I := I) (J := J) (s := s) (i := i) (x := x) h.1.2.1 h.1.2.2.1 h.1.2.2.2.2.1 h.1.2.2.2.2.2 (h.szok (fun _ _ => rfl))
  by_cases hx : s_within x 1 10 = true
  · rw [if_pos hx] at cG
    by_cases hs : s_within s 0 5 = true
    · obtain ⟨a1, a2, a3⟩ := q_ref (h.s1 hs) h.nb (I' := I) rfl hs
      by_cases w : g_refBytes I s = 0
      · have h0 := a3 w
        have h88 : I 88 (ix s) = -2 := by
          rw [w] at a1
          unfold m_rf at a1
          by_cases b1 : I 88 (ix s) = -1
          · rw [if_pos b1] at a1; exact absurd a1 (by decide)
          · rw [if_neg b1] at a1
            by_cases b2 : I 88 (ix s) = -2
            · exact b2
            · rw [if_neg b2] at a1; exact absurd a1 (by decide)
        rw [if_neg (by rw [w]; decide), if_pos w, if_pos ⟨hx, w⟩] at cG
        generalize hI1 : (g_js J s i (ix x) (ix x + 1) 0 n I).2 = I1 at cG
        have hM : r_same54 I I1 := fun q a => by rw [← hI1]; exact g_js_row (by omega) _ _ _ _
        have hxx := w_ixc (m := 10) (b := 10) (by omega) rfl (show s_within x 0 10 = true by
          unfold s_within at hx ⊢
          simp only [Bool.and_eq_true, Bool.not_eq_true', decide_eq_false_iff_not, Int32.lt_iff_toInt_lt] at hx ⊢
          have k0 : (0 : Int32).toInt = 0 := by decide
          have k1 : (1 : Int32).toInt = 1 := by decide
          omega)
        have A := js_all (i := i) (N := ix x) (by omega) (ix x) 0 n I I1 (by omega) (by rw [mg_self hM]; exact h) (r_all.sh (h.s1 hs) hs h0)
        rw [hI1] at A
        have cM := c_X12_joys (l := l) (I := I1) (J := J) (s := s) (i := i) (x := x) (m := m) (n := n) (by rw [hM 54 (by omega)]; exact h.1.2.1) h.1.2.2.1 (by rw [hM 54 (by omega)]; exact h.1.2.2.2.2.1) h.1.2.2.2.2.2 (h.szok hM)
        have e88 : I1 88 (ix s) = -2 := by rw [hM 88 (by omega)]; exact h88
        have ez : m_z I1 s = ix (I 89 (ix s)) := by unfold m_z; rw [hM 89 (by omega)]
        have n1 : ¬ I1 88 (ix s) = -1 := by rw [e88]; decide
        rw [if_pos ⟨hs, hx⟩, if_neg n1, if_pos e88, if_pos ⟨⟨hs, hx⟩, n1, e88⟩, ez] at cM
        obtain ⟨A1, n', A2⟩ := A
        rw [mg_same (fun q a => m_js_row a _ _ _ _)] at A2
        exact r_do cG cM (by rw [A1]) ⟨m, n', d, u, t, nb, Ls, A2⟩
      · rw [if_neg w, if_neg (show ¬ (s_within x 1 10 = true ∧ g_refBytes I s = 0) from fun a => w a.2)] at cG
        have n2 : ¬ I 88 (ix s) = -2 := fun e => w (by
          rw [a1]
          unfold m_rf
          rw [if_neg (by rw [e]; decide), if_pos e])
        rw [if_pos ⟨hs, hx⟩, if_neg n2, if_neg (show ¬ ((s_within s 0 5 = true ∧ s_within x 1 10 = true) ∧ ¬ I 88 (ix s) = -1 ∧ I 88 (ix s) = -2) from fun a => n2 a.2.2)] at cM0
        refine r_do cG cM0 ?_ ⟨m, n, d, u, t, nb, Ls, h⟩
        rw [a1]
        unfold m_rf
        by_cases b1 : I 88 (ix s) = -1
        · rw [if_pos b1, if_pos b1, if_pos rfl]
        · rw [if_neg b1, if_neg b1, if_neg n2, if_neg (by decide)]
    · have w := q_ref_no (I := I) (w_no hs)
      rw [if_neg (by rw [w]; decide), if_neg (show ¬ g_refBytes I s = 0 by rw [w]; decide), if_neg (show ¬ (s_within x 1 10 = true ∧ g_refBytes I s = 0) from fun a => absurd (w.symm.trans a.2) (by decide))] at cG
      rw [if_neg (fun a => hs a.1), if_neg (fun a => hs a.1.1)] at cM0
      exact r_do cG cM0 w.symm ⟨m, n, d, u, t, nb, Ls, h⟩
  · rw [if_neg hx, if_neg (show ¬ (s_within x 1 10 = true ∧ g_refBytes I s = 0) from fun a => hx a.1)] at cG
    rw [if_neg (fun a => hx a.2), if_neg (fun a => hx a.1.2)] at cM0
    exact r_do cG cM0 rfl ⟨m, n, d, u, t, nb, Ls, h⟩

