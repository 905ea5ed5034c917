/-! the most mates, found by sets and by trying -/
def mt_pc (s : Nat) : Nat := (if s.testBit 0 then 1 else 0) + (if s.testBit 1 then 1 else 0) + (if s.testBit 2 then 1 else 0) + (if s.testBit 3 then 1 else 0) + (if s.testBit 4 then 1 else 0) + (if s.testBit 5 then 1 else 0) + (if s.testBit 6 then 1 else 0)
theorem mt_bc : ∀ s, s < 128 → s_bc (nI s) = nI (mt_pc s) := by decide +kernel
theorem mt_in : ∀ s, s < 128 → ∀ o, o < 7 → s.testBit o = true → s ||| 2 ^ o = s := by decide +kernel
theorem mt_new : ∀ s, s < 128 → ∀ o, o < 7 → s.testBit o = false → mt_pc (s ||| 2 ^ o) = mt_pc s + 1 := by decide +kernel
theorem mt_le7 : ∀ s, s < 128 → mt_pc s ≤ 7 := by decide +kernel
theorem mt_bit (s o q : Nat) : (s ||| 2 ^ o).testBit q = (s.testBit q || decide (q = o)) := by
  rw [Nat.testBit_or, Nat.testBit_two_pow]
  congr 1
  exact decide_eq_decide.mpr ⟨fun e => e.symm, fun e => e.symm⟩
/-- one set from another by a person's move -/
def mt_nr (X : px_I) (x : Int32) (k o : Nat) : Prop := px_rem (X 55 k) 2 = 0 ∧ ¬ px_rem (X 55 o) 2 = 0 ∧ ¬ x < m_ap (X 55 k) (X 55 o)
def mt_N (X : px_I) (x : Int32) (m k s t : Nat) : Prop := t = s ∨ ∃ o, o < m ∧ mt_nr X x k o ∧ t = s ||| 2 ^ o
def mt_P (X : px_I) (x : Int32) (m : Nat) : Nat → Nat → Nat → Nat → Prop
  | 0, _, s, t => t = s
  | f + 1, k, s, t => ∃ u, mt_N X x m k s u ∧ mt_P X x m f (k + 1) u t
def mt_R (X : px_I) (x : Int32) (m : Nat) : Nat → Nat → Prop
  | 0, t => t = 0
  | k + 1, t => ∃ s, mt_R X x m k s ∧ mt_N X x m k s t
theorem mt_RP {X : px_I} {x : Int32} {m : Nat} : ∀ f k t, (∃ s, mt_R X x m k s ∧ mt_P X x m f k s t) ↔ mt_R X x m (k + f) t := by
  intro f
  induction f with
  | zero =>
    intro k t
    constructor
    · rintro ⟨s, h, e⟩
      have e' : t = s := e
      rw [e']; exact h
    · intro h; exact ⟨t, h, rfl⟩
  | succ f ih =>
    intro k t
    rw [show k + (f + 1) = k + 1 + f from by omega, ← ih (k + 1) t]
    constructor
    · rintro ⟨s, h, u, hu, hp⟩
      exact ⟨u, ⟨s, h, hu⟩, hp⟩
    · rintro ⟨u, ⟨s, h, hu⟩, hp⟩
      exact ⟨s, h, u, hu, hp⟩
theorem mt_N_lt {X : px_I} {x : Int32} {m k s t : Nat} (hm7 : m ≤ 7) (h : mt_N X x m k s t) (hs : s < 128) : t < 128 := by
  rcases h with e | ⟨o, ho, _, e⟩
  · rw [e]; exact hs
  · rw [e]; exact or_lt hs (by omega)
theorem mt_R_lt {X : px_I} {x : Int32} {m : Nat} (hm7 : m ≤ 7) : ∀ k t, mt_R X x m k t → t < 128 := by
  intro k
  induction k with
  | zero =>
    intro t h
    have h' : t = 0 := h
    omega
  | succ k ih =>
    rintro t ⟨s, h, hn⟩
    exact mt_N_lt hm7 hn (ih s h)
/-! by sets -/
theorem mt_vnr {Y X S : px_I} {x : Int32} {m n k o : Nat} (h : q_ok Y X m n) (hh : q_hs Y m n) (e9 : S 9 = Y 9) (hk : k < m) (ho : o < m) (h0 : px_rem (X 55 k) 2 = 0) : (v_nr S k x o = true) ↔ mt_nr X x k o := by
  unfold v_nr v_acr mt_nr
  rw [e9, (hh k hk).1, (hh o ho).1, ap_eq _ (hh k hk).2 _ (hh o ho).2, ← (hh k hk).1, ← (hh o ho).1, h.1.1.1, h0]
  simp only [Bool.and_eq_true, Bool.not_eq_true', decide_eq_false_iff_not]
  constructor
  · rintro ⟨a, b⟩; exact ⟨trivial, fun e => a e.symm, b⟩
  · rintro ⟨_, a, b⟩; exact ⟨fun e => a e.symm, b⟩
theorem mt_vin {Y X : px_I} {x : Int32} {m n k s : Nat} (h : q_ok Y X m n) (hh : q_hs Y m n) (hk : k < m) (h0 : px_rem (X 55 k) 2 = 0) {I : px_I} (e9 : I 9 = Y 9) : ∀ j, j ≤ m → ∀ t, (¬ v_in k x s I j 50 t = 0) ↔ (¬ I 50 t = 0 ∨ ∃ o, o < j ∧ mt_nr X x k o ∧ t = s ||| 2 ^ o) := by
  intro j
  induction j with
  | zero =>
    intro _ t
    constructor
    · intro a; exact Or.inl a
    · rintro (a | ⟨o, ho, _⟩)
      · exact a
      · omega
  | succ j ih =>
    intro hj t
    have e9' : v_in k x s I j 9 = Y 9 := (v_in_row (by omega)).trans e9
    have hv := mt_vnr (x := x) h hh e9' hk (show j < m by omega) h0
    unfold v_in
    by_cases c : v_nr (v_in k x s I j) k x j = true
    · rw [if_pos c, px_up_at]
      by_cases e : t = s ||| 2 ^ j
      · rw [if_pos ⟨rfl, e⟩]
        exact ⟨fun _ => Or.inr ⟨j, by omega, hv.mp c, e⟩, fun _ => by decide⟩
      · rw [if_neg (fun q => e q.2), ih (by omega) t]
        constructor
        · rintro (a | ⟨o, ho, b⟩)
          · exact Or.inl a
          · exact Or.inr ⟨o, by omega, b⟩
        · rintro (a | ⟨o, ho, b1, b2⟩)
          · exact Or.inl a
          · by_cases z : o = j
            · rw [z] at b2; exact absurd b2 e
            · exact Or.inr ⟨o, by omega, b1, b2⟩
    · rw [if_neg c, ih (by omega) t]
      constructor
      · rintro (a | ⟨o, ho, b⟩)
        · exact Or.inl a
        · exact Or.inr ⟨o, by omega, b⟩
      · rintro (a | ⟨o, ho, b1, b2⟩)
        · exact Or.inl a
        · by_cases z : o = j
          · rw [z] at b1; exact absurd (hv.mpr b1) c
          · exact Or.inr ⟨o, by omega, b1, b2⟩
theorem or_ge (s o : Nat) : s ≤ s ||| 2 ^ o := Nat.left_le_or
theorem mt_vset {Y X : px_I} {x : Int32} {m n k s : Nat} (h : q_ok Y X m n) (hh : q_hs Y m n) (hk : k < m) (h0 : px_rem (X 55 k) 2 = 0) {I : px_I} (e9 : I 9 = Y 9) (t : Nat) : (¬ v_set k x m s I 50 t = 0) ↔ (¬ I 50 t = 0 ∨ (¬ I 50 s = 0 ∧ ∃ o, o < m ∧ mt_nr X x k o ∧ t = s ||| 2 ^ o)) := by
  unfold v_set
  by_cases c : I 50 s = 0
  · rw [if_pos c]
    constructor
    · intro a; exact Or.inl a
    · rintro (a | ⟨a, _⟩)
      · exact a
      · exact absurd c a
  · rw [if_neg c, mt_vin h hh hk h0 e9 m (Nat.le_refl m) t]
    constructor
    · rintro (a | b)
      · exact Or.inl a
      · exact Or.inr ⟨c, b⟩
    · rintro (a | ⟨_, b⟩)
      · exact Or.inl a
      · exact Or.inr b
theorem mt_voff {Y X : px_I} {x : Int32} {m n k : Nat} (h : q_ok Y X m n) (hh : q_hs Y m n) (hk : k < m) (h0 : px_rem (X 55 k) 2 = 0) : ∀ (s : Nat) (I : px_I), I 9 = Y 9 → ∀ t, (¬ v_off k x m I s 50 t = 0) ↔ (¬ I 50 t = 0 ∨ ∃ r, r < s ∧ ¬ I 50 r = 0 ∧ ∃ o, o < m ∧ mt_nr X x k o ∧ t = r ||| 2 ^ o) := by
  intro s
  induction s with
  | zero =>
    intro I _ t
    constructor
    · intro a; exact Or.inl a
    · rintro (a | ⟨r, hr, _⟩)
      · exact a
      · omega
  | succ s ih =>
    intro I e9 t
    have hset := mt_vset (x := x) (s := s) h hh hk h0 e9
    rw [v_off, ih (v_set k x m s I) ((v_set_row (by omega)).trans e9) t, hset t]
    constructor
    · rintro ((a | ⟨a, b⟩) | ⟨r, hr, a, b⟩)
      · exact Or.inl a
      · exact Or.inr ⟨s, by omega, a, b⟩
      · rcases (hset r).mp a with c | ⟨_, o, _, _, c⟩
        · exact Or.inr ⟨r, by omega, c, b⟩
        · have := or_ge s o
          omega
    · rintro (a | ⟨r, hr, a, b⟩)
      · exact Or.inl (Or.inl a)
      · by_cases e : r = s
        · rw [e] at a b; exact Or.inl (Or.inr ⟨a, b⟩)
        · exact Or.inr ⟨r, by omega, (hset r).mpr (Or.inl a), b⟩
theorem mt_zero {I : px_I} : ∀ j t, t < j → ((¬ v_zero I j 50 t = 0) ↔ t = 0) := by
  intro j
  induction j with
  | zero => intro t h; omega
  | succ j ih =>
    intro t h
    unfold v_zero
    by_cases e : t = j
    · subst e
      rw [px_up_same]
      by_cases z : t = 0
      · rw [if_pos z]; exact ⟨fun _ => z, fun _ => by decide⟩
      · rw [if_neg z]; exact ⟨fun q => absurd rfl q, fun q => absurd q z⟩
    · rw [px_up_ne (by omega)]; exact ih t (by omega)
theorem mt_all {Y X : px_I} {x : Int32} {m n : Nat} (h : q_ok Y X m n) (hh : q_hs Y m n) : ∀ k, k ≤ m → ∀ t, t < 128 → ((¬ v_all x m (v_zero Y 128) k 50 t = 0) ↔ mt_R X x m k t) := by
  intro k
  induction k with
  | zero => intro _ t ht; exact mt_zero 128 t ht
  | succ k ih =>
    intro hk t ht
    have hm7 := h.2.2.2.2.2
    have e9 : v_all x m (v_zero Y 128) k 9 = Y 9 := (v_all_row (by omega)).trans (v_zero_row (by omega))
    have ex : px_rem (v_all x m (v_zero Y 128) k 9 k) 2 = px_rem (X 55 k) 2 := by rw [e9, h.1.1.1]
    unfold v_all mt_R
    rw [ex]
    by_cases c : px_rem (X 55 k) 2 = 0
    · rw [if_pos c, mt_voff h hh (by omega) c 128 _ e9 t, ih (by omega) t ht]
      constructor
      · rintro (a | ⟨r, hr, a, o, ho, b1, b2⟩)
        · exact ⟨t, a, Or.inl rfl⟩
        · exact ⟨r, (ih (by omega) r hr).mp a, Or.inr ⟨o, ho, b1, b2⟩⟩
      · rintro ⟨s, a, e | ⟨o, ho, b1, b2⟩⟩
        · rw [e]; exact Or.inl a
        · have hs := mt_R_lt hm7 k s a
          exact Or.inr ⟨s, hs, (ih (by omega) s hs).mpr a, o, ho, b1, b2⟩
    · rw [if_neg c, ih (by omega) t ht]
      constructor
      · intro a; exact ⟨t, a, Or.inl rfl⟩
      · rintro ⟨s, a, e | ⟨o, ho, b1, b2⟩⟩
        · rw [e]; exact a
        · exact absurd b1.1 c
theorem mt_max {I : px_I} : ∀ j, j ≤ 128 → ∃ v, v_max I j = nI v ∧ v ≤ 7 ∧ (∀ t, t < j → ¬ I 50 t = 0 → mt_pc t ≤ v) ∧ (v = 0 ∨ ∃ t, t < j ∧ ¬ I 50 t = 0 ∧ mt_pc t = v) := by
  intro j
  induction j with
  | zero => intro _; exact ⟨0, rfl, by omega, fun t ht => by omega, Or.inl rfl⟩
  | succ j ih =>
    intro hj
    obtain ⟨v, e, hv, a, b⟩ := ih (by omega)
    have e1 : v_max I (j + 1) = if I 50 j = 0 then v_max I j else (if v_max I j < s_bc (nI j) then s_bc (nI j) else v_max I j) := rfl
    have h7 := mt_le7 j (by omega)
    by_cases c : I 50 j = 0
    · refine ⟨v, by rw [e1, if_pos c, e], hv, fun t ht hne => ?_, ?_⟩
      · by_cases z : t = j
        · rw [z] at hne; exact absurd c hne
        · exact a t (by omega) hne
      · rcases b with b | ⟨t, b1, b2⟩
        · exact Or.inl b
        · exact Or.inr ⟨t, by omega, b2⟩
    · rw [if_neg c, e, mt_bc j (by omega)] at e1
      by_cases d : v < mt_pc j
      · rw [if_pos ((qI_lt (by omega) (by omega)).mpr d)] at e1
        refine ⟨mt_pc j, e1, h7, fun t ht hne => ?_, Or.inr ⟨j, by omega, c, rfl⟩⟩
        by_cases z : t = j
        · rw [z]; exact Nat.le_refl _
        · have := a t (by omega) hne; omega
      · rw [if_neg (fun q => d ((qI_lt (by omega) (by omega)).mp q))] at e1
        refine ⟨v, e1, hv, fun t ht hne => ?_, ?_⟩
        · by_cases z : t = j
          · rw [z]; omega
          · exact a t (by omega) hne
        · rcases b with b | ⟨t, b1, b2⟩
          · exact Or.inl b
          · exact Or.inr ⟨t, by omega, b2⟩
/-! by trying -/
theorem mt_mf {g : Nat → Int32} {c : Nat → Bool} {b : Int32} {b0 : Nat} (hb : b = nI b0) (hb7 : b0 ≤ 100) (hg : ∀ q, c q = true → ∃ e, g q = nI e ∧ e ≤ 100) : ∀ j, ∃ v, m_mf g c b j = nI v ∧ v ≤ 100 ∧ b0 ≤ v ∧ (∀ q, q < j → c q = true → ∀ e, g q = nI e → e ≤ 100 → e ≤ v) ∧ (v = b0 ∨ ∃ q, q < j ∧ c q = true ∧ g q = nI v) := by
  intro j
  induction j with
  | zero => exact ⟨b0, hb, hb7, Nat.le_refl _, fun q hq => by omega, Or.inl rfl⟩
  | succ j ih =>
    obtain ⟨v, e, h1, h2, h3, h4⟩ := ih
    have e1 : m_mf g c b (j + 1) = if c j = true ∧ m_mf g c b j < g j then g j else m_mf g c b j := rfl
    by_cases d : c j = true
    · obtain ⟨w, ew, hw⟩ := hg j d
      by_cases z : v < w
      · have hlt : m_mf g c b j < g j := by rw [e, ew]; exact (qI_lt (by omega) (by omega)).mpr z
        rw [if_pos ⟨d, hlt⟩] at e1
        refine ⟨w, e1.trans ew, hw, by omega, fun q hq hc a ea ha => ?_, Or.inr ⟨j, by omega, d, ew⟩⟩
        by_cases y : q = j
        · rw [y, ew] at ea
          have := (qI_inj (by omega) (by omega)).mp ea
          omega
        · have := h3 q (by omega) hc a ea ha; omega
      · have hlt : ¬ m_mf g c b j < g j := by rw [e, ew]; exact fun q => z ((qI_lt (by omega) (by omega)).mp q)
        rw [if_neg (fun q => hlt q.2)] at e1
        refine ⟨v, e1.trans e, h1, h2, fun q hq hc a ea ha => ?_, ?_⟩
        · by_cases y : q = j
          · rw [y, ew] at ea
            have := (qI_inj (by omega) (by omega)).mp ea
            omega
          · exact h3 q (by omega) hc a ea ha
        · rcases h4 with h4 | ⟨q, q1, q2⟩
          · exact Or.inl h4
          · exact Or.inr ⟨q, by omega, q2⟩
    · rw [if_neg (fun q => d q.1)] at e1
      refine ⟨v, e1.trans e, h1, h2, fun q hq hc a ea ha => ?_, ?_⟩
      · by_cases y : q = j
        · rw [y] at hc; exact absurd hc d
        · exact h3 q (by omega) hc a ea ha
      · rcases h4 with h4 | ⟨q, q1, q2⟩
        · exact Or.inl h4
        · exact Or.inr ⟨q, by omega, q2⟩
/-- who is left is who is not in the set -/
def mt_lf (m : Nat) (left : Int32) (s : Nat) : Prop := ∀ q, q < m → m_has left (nI q) = !s.testBit q
theorem mt_rest {m s o : Nat} {left : Int32} (hm7 : m ≤ 7) (h : mt_lf m left s) (ho : o < m) : mt_lf m (m_rest left o) (s ||| 2 ^ o) := by
  intro q hq
  rw [mt_bit, bt_has (by omega), m_rest, bt_and, bt_xor, bt_m1 q (by omega), bt_pw o (by omega) (by omega), ← bt_has (by omega), h q hq]
  by_cases e : q = o
  · rw [decide_eq_true e]; simp
  · rw [decide_eq_false e]; simp
theorem mt_try {X : px_I} {x : Int32} {m : Nat} (hm7 : m ≤ 7) (hx : ∀ p, p < m → px_rem (X 55 p) 2 = 0 ∨ px_rem (X 55 p) 2 = 1) : ∀ f, f ≤ m → ∀ (left : Int32) (s : Nat), s < 128 → mt_lf m left s → ∃ d, m_mm X m x f left = nI d ∧ d ≤ f ∧ (∃ t, t < 128 ∧ mt_P X x m f (m - f) s t ∧ mt_pc t = mt_pc s + d) ∧ (∀ t, mt_P X x m f (m - f) s t → mt_pc t ≤ mt_pc s + d) := by
  intro f
  induction f with
  | zero =>
    intro _ left s hs _
    exact ⟨0, rfl, by omega, ⟨s, hs, rfl, rfl⟩, fun t ht => by have ht' : t = s := ht; rw [ht']; omega⟩
  | succ f ih =>
    intro hf left s hs hl
    obtain ⟨d0, a1, a2, ⟨t0, a3, a4, a5⟩, a6⟩ := ih (by omega) left s hs hl
    have ek : m - (f + 1) + 1 = m - f := by omega
    have e1 : m_mm X m x (f + 1) left = if px_rem (X 55 (m - (f + 1))) 2 = 1 then m_mm X m x f left else m_mf (fun q => 1 + m_mm X m x f (m_rest left q)) (m_mc X (m - (f + 1)) left x) (m_mm X m x f left) m := rfl
    rcases hx (m - (f + 1)) (by omega) with c | c
    · rw [if_neg (by rw [c]; decide)] at e1
      have hmc : ∀ q, q < m → (m_mc X (m - (f + 1)) left x q = true ↔ (s.testBit q = false ∧ mt_nr X x (m - (f + 1)) q)) := by
        intro q hq
        unfold m_mc mt_nr
        rw [hl q hq]
        simp only [Bool.and_eq_true, Bool.not_eq_true', decide_eq_false_iff_not]
        constructor
        · rintro ⟨⟨b1, b2⟩, b3⟩; exact ⟨b1, c, b2, b3⟩
        · rintro ⟨b1, _, b2, b3⟩; exact ⟨⟨b1, b2⟩, b3⟩
      have hq : ∀ q, q < m → ∃ d, 1 + m_mm X m x f (m_rest left q) = nI (1 + d) ∧ d ≤ f ∧ (∃ t, t < 128 ∧ mt_P X x m f (m - f) (s ||| 2 ^ q) t ∧ mt_pc t = mt_pc (s ||| 2 ^ q) + d) ∧ (∀ t, mt_P X x m f (m - f) (s ||| 2 ^ q) t → mt_pc t ≤ mt_pc (s ||| 2 ^ q) + d) := by
        intro q hq
        obtain ⟨d, z1, z2⟩ := ih (by omega) (m_rest left q) (s ||| 2 ^ q) (or_lt hs (by omega)) (mt_rest hm7 hl hq)
        exact ⟨d, by rw [z1, show 1 + d = d + 1 from by omega, ← nI_1, Int32.add_comm], z2⟩
      have hcut : ∀ q, m_mc X (m - (f + 1)) left x q = true ∧ q < m → ∃ e, (fun q => 1 + m_mm X m x f (m_rest left q)) q = nI e ∧ e ≤ 100 := by
        rintro q ⟨_, hqm⟩
        obtain ⟨d, z1, z2, _⟩ := hq q hqm
        exact ⟨1 + d, z1, by omega⟩
      have efold : ∀ j, j ≤ m → m_mf (fun q => 1 + m_mm X m x f (m_rest left q)) (m_mc X (m - (f + 1)) left x) (m_mm X m x f left) j = m_mf (fun q => 1 + m_mm X m x f (m_rest left q)) (fun q => m_mc X (m - (f + 1)) left x q && decide (q < m)) (m_mm X m x f left) j := by
        intro j
        induction j with
        | zero => intro _; rfl
        | succ j ihj =>
          intro hj
          unfold m_mf
          rw [ihj (by omega), decide_eq_true (show j < m by omega), Bool.and_true]
      rw [efold m (Nat.le_refl m)] at e1
      obtain ⟨v, y1, y2, y3, y4, y5⟩ := mt_mf (g := fun q => 1 + m_mm X m x f (m_rest left q)) (c := fun q => m_mc X (m - (f + 1)) left x q && decide (q < m)) a1 (by omega) (fun q hc => hcut q (by simpa using hc)) m
      have up : ∀ q, q < m → s.testBit q = false → mt_nr X x (m - (f + 1)) q → ∃ d, 1 + d ≤ v ∧ (∀ t, mt_P X x m f (m - f) (s ||| 2 ^ q) t → mt_pc t ≤ mt_pc s + (1 + d)) := by
        intro q hqm b1 b2
        obtain ⟨d, z1, z2, z3, z4⟩ := hq q hqm
        refine ⟨d, y4 q hqm (by rw [(hmc q hqm).mpr ⟨b1, b2⟩, decide_eq_true hqm]; rfl) (1 + d) z1 (by omega), fun t ht => ?_⟩
        have := z4 t ht
        rw [mt_new s hs q (by omega) b1] at this
        omega
      refine ⟨v, e1.trans y1, ?_, ?_, ?_⟩
      · rcases y5 with y5 | ⟨q, q1, q2, q3⟩
        · omega
        · obtain ⟨d, z1, z2, _⟩ := hq q q1
          have := (qI_inj (by omega) (by omega)).mp (q3.symm.trans z1)
          omega
      · rcases y5 with y5 | ⟨q, q1, q2, q3⟩
        · exact ⟨t0, a3, ⟨s, Or.inl rfl, by rw [ek]; exact a4⟩, by omega⟩
        · obtain ⟨d, z1, z2, ⟨t, z3, z4, z5⟩, _⟩ := hq q q1
          have ev := (qI_inj (by omega) (by omega)).mp (q3.symm.trans z1)
          have hc2 := (hmc q q1).mp (by have := q2; simp only [Bool.and_eq_true] at this; exact this.1)
          refine ⟨t, z3, ⟨s ||| 2 ^ q, Or.inr ⟨q, q1, hc2.2, rfl⟩, by rw [ek]; exact z4⟩, ?_⟩
          rw [z5, mt_new s hs q (by omega) hc2.1]
          omega
      · rintro t ⟨u, hu, hp⟩
        rw [ek] at hp
        rcases hu with e | ⟨o, ho, b, e⟩
        · rw [e] at hp
          have := a6 t hp; omega
        · by_cases w : s.testBit o = true
          · rw [e, mt_in s hs o (by omega) w] at hp
            have := a6 t hp; omega
          · obtain ⟨d, w1, w2⟩ := up o ho (by simpa using w) b
            rw [e] at hp
            have := w2 t hp; omega
    · rw [if_pos c] at e1
      refine ⟨d0, e1.trans a1, by omega, ⟨t0, a3, ⟨s, Or.inl rfl, by rw [ek]; exact a4⟩, a5⟩, ?_⟩
      rintro t ⟨u, hu, hp⟩
      rw [ek] at hp
      rcases hu with e | ⟨o, _, b, _⟩
      · rw [e] at hp; exact a6 t hp
      · have h1 := b.1
        rw [c] at h1
        exact absurd h1 (by decide)
theorem mt_full : ∀ m, m ≤ 7 → ∀ q, q < m → m_has (((1 : Int32) <<< (nI m &&& 31)) - 1) (nI q) = true := by decide +kernel
theorem hs_01 {Y X : px_I} {m n : Nat} (h : q_ok Y X m n) (hh : q_hs Y m n) : ∀ p, p < m → px_rem (X 55 p) 2 = 0 ∨ px_rem (X 55 p) 2 = 1 := by
  intro p hp
  have hv := hh p hp
  rw [← h.1.1.1, hv.1, rem2_nI _ hv.2]
  have hc : ix (Y 9 p) % 2 = 0 ∨ ix (Y 9 p) % 2 = 1 := by omega
  rcases hc with e | e <;> rw [e]
  · exact Or.inl nI_0
  · exact Or.inr (by decide)
theorem q_mates {Y X : px_I} {m n : Nat} {x : Int32} (h : q_ok Y X m n) (hh : q_hs Y m n) : v_max (v_all x m (v_zero Y 128) m) 128 = m_mm X m x m (((1 : Int32) <<< (nI m &&& 31)) - 1) := by
  have hm7 := h.2.2.2.2.2
  obtain ⟨v, e1, h1, h2, h3⟩ := mt_max (I := v_all x m (v_zero Y 128) m) 128 (Nat.le_refl _)
  obtain ⟨d, e2, _, ⟨t, g1, g2, g3⟩, g4⟩ := mt_try (x := x) hm7 (hs_01 h hh) m (Nat.le_refl m) (((1 : Int32) <<< (nI m &&& 31)) - 1) 0 (by omega) (fun q hq => by rw [mt_full m hm7 q hq, Nat.zero_testBit]; rfl)
  rw [Nat.sub_self] at g2 g4
  have z0 : mt_pc 0 = 0 := by decide
  have rp : ∀ t, mt_P X x m m 0 0 t ↔ mt_R X x m m t := by
    intro t
    have := mt_RP (X := X) (x := x) (m := m) m 0 t
    rw [Nat.zero_add] at this
    rw [← this]
    constructor
    · intro a; exact ⟨0, rfl, a⟩
    · rintro ⟨s, a, b⟩
      have a' : s = 0 := a
      rw [a'] at b; exact b
  have hd : d ≤ v := by
    have := h2 t g1 ((mt_all h hh m (Nat.le_refl m) t g1).mpr ((rp t).mp g2))
    omega
  have hv : v ≤ d := by
    rcases h3 with h3 | ⟨r, r1, r2, r3⟩
    · omega
    · have := g4 r ((rp r).mpr ((mt_all h hh m (Nat.le_refl m) r r1).mp r2))
      omega
  rw [e1, e2, show v = d from by omega]

