/-! in thought -/
def px_ok0 (I : px_I) (m n : Nat) : Prop := I 1 6 = nI m ∧ m ≤ 7 ∧ I 1 7 = nI n ∧ n ≤ 10 ∧ px_ofs (I 2) ∧ ∀ j, j < n → ix (I 2 j) < m
theorem px_ok0.of {I I' : px_I} {m n : Nat} (h : px_ok0 I m n) (h1 : I' 1 = I 1) (h2 : I' 2 = I 2) : px_ok0 I' m n := by
  unfold px_ok0; rw [h1, h2]; exact h
abbrev t_start (I : px_I) (m n : Nat) : px_I := g_takes I 43 8 m n
theorem t_start_row {I : px_I} {m n q : Nat} (h : q < 43 ∨ 47 < q) : t_start I m n q = I q := g_takes_row (by omega)
theorem ok_start {I : px_I} {m n : Nat} (h : px_ok0 I m n) : px_ok0 (t_start I m n) m n := h.of (g_takes_row (by omega)) (g_takes_row (by omega))
theorem ok_days {I : px_I} {m n k : Nat} (h : px_ok0 I m n) : px_ok0 (g_days 43 m n I k) m n := h.of (g_days_row (by omega) (by omega) (by omega) (by omega)) (g_days_row (by omega) (by omega) (by omega) (by omega))
theorem ok_up {I : px_I} {m n q k : Nat} {x : Int32} (h : px_ok0 I m n) (hq : 2 < q) : px_ok0 (px_up I q k x) m n := h.of (px_up_row (by omega)) (px_up_row (by omega))
theorem c_X9_startNow {l : Launch} {I : px_I} {J : px_J} {m n : Nat} (hk : px_ok0 I m n) : Ct l mX9_startNow 2 [.ref 42] I J (px_qs (t_start I m n) J) := by
  refine Ct.of plX9_startNow (Nat.le_of_ble_eq_true rfl) [.ref 42] rfl ?_
  refine V0_aload_n (pc := 0) dX9_startNow_0 rfl ?_
  refine V_getr (pc := 1) dX9_startNow_1 flX9_28 rfl rfl ?_
  refine V0_aload_n (pc := 4) dX9_startNow_4 rfl ?_
  refine V_getr (pc := 5) dX9_startNow_5 flX9_15 rfl rfl ?_
  refine V0_aload_n (pc := 8) dX9_startNow_8 rfl ?_
  refine V_getr (pc := 9) dX9_startNow_9 flX9_9 rfl rfl ?_
  refine V_geti (pc := 12) dX9_startNow_12 flX9_31 rfl rfl ?_
  refine V0_aload_n (pc := 15) dX9_startNow_15 rfl ?_
  refine V_getr (pc := 16) dX9_startNow_16 flX9_9 rfl rfl ?_
  refine V_geti (pc := 19) dX9_startNow_19 flX9_37 rfl rfl ?_
  rw [hk.1, hk.2.2.1]
  refine V_callV (pc := 22) (M' := mX2_take) dX9_startNow_22 mlX9_40 okX2_take rfl (c_X2_take cs43 cs8 hk.2.1 hk.2.2.2.1) rfl rfl rfl rfl ⟨Nat.le_of_ble_eq_true rfl, Nat.le_of_ble_eq_true rfl⟩ ⟨Nat.le_refl 0, Nat.le_refl 0⟩ (Nat.le_of_ble_eq_true rfl) ?_
  intro r1 I1 J1 hh
  obtain ⟨e1, e2, e3⟩ := hh
  rw [e1, e2, e3]
  clear e1 e2 e3 r1 I1 J1
  refine V_retv (pc := 25) dX9_startNow_25 rfl ?_
  exact ⟨rfl, rfl, rfl⟩
theorem lp_X9_behind {l : Launch} {S : px_I} {J : px_J} {m n k : Nat} {Q : px_Q} (hS : px_ok0 S m n) (hk60 : k ≤ 60) (hQ : Q (some (.ref 43)) (g_days 43 m n S k) J) : ∀ (f j : Nat), k + 1 - j ≤ f → j ≤ k → V0 l (px_rm 4 0 0) mX9_behind (false, []) 0 0 6 [.ref 42, .int (nI k), .int (nI j)] [] (px_mk (g_days 43 m n S j) J) (px_q Q) := by
  intro f
  induction f with
  | zero => intro j h1 h2; omega
  | succ f ih =>
    intro j h1 h2
    have ho := ok_days (k := j) hS
    refine V0_iload_n (pc := 6) dX9_behind_6 rfl ?_
    refine V0_iload_n (pc := 7) dX9_behind_7 rfl ?_
    refine V1_icmp_ge (pc := 8) 24 dX9_behind_8 (by decide) (fun h8 => ?_) (fun h8 => ?_)
    · skip
      have hj : j = k := by have := px_ge h8 (by omega) (by omega); omega
      subst hj
      refine V0_aload_n (pc := 24) dX9_behind_24 rfl ?_
      refine V_getr (pc := 25) dX9_behind_25 flX9_28 rfl rfl ?_
      refine V_retr (pc := 28) _ dX9_behind_28 rfl (Or.inl ⟨_, rfl⟩) ?_
      exact hQ
    · skip
      have hj := px_lt h8 (by omega) (by omega)
      refine V0_aload_n (pc := 11) dX9_behind_11 rfl ?_
      refine V_getr (pc := 12) dX9_behind_12 flX9_28 rfl rfl ?_
      refine V_callV (pc := 15) (M' := mX2_pass) dX9_behind_15 mlX9_47 okX2_pass rfl (c_X2_pass cs43 ho.1 ho.2.1 ho.2.2.1 ho.2.2.2.1 ho.2.2.2.2.1) rfl rfl rfl rfl ⟨Nat.le_of_ble_eq_true rfl, Nat.le_of_ble_eq_true rfl⟩ ⟨Nat.le_refl 0, Nat.le_refl 0⟩ (Nat.le_of_ble_eq_true rfl) ?_
      intro r1 I1 J1 hh
      obtain ⟨e1, e2, e3⟩ := hh
      rw [e1, e2, e3]
      clear e1 e2 e3 r1 I1 J1
      refine V0_iinc_2 (pc := 18) (nI (j + 1)) dX9_behind_18 (by decide) rfl (nI_1 _) ?_
      refine V0_goto (pc := 21) 6 dX9_behind_21 (by decide) ?_
      exact ih (j + 1) (by omega) (by omega)
theorem c_X9_behind {l : Launch} {I : px_I} {J : px_J} {m n k : Nat} (hk : px_ok0 I m n) (hk60 : k ≤ 60) : Ct l mX9_behind 4 [.ref 42, .int (nI k)] I J (fun r I' J' => r = some (.ref 43) ∧ I' = g_days 43 m n (t_start I m n) k ∧ J' = J) := by
  refine Ct.of plX9_behind (Nat.le_of_ble_eq_true rfl) [.ref 42, .int (nI k), .null] rfl ?_
  refine V0_aload_n (pc := 0) dX9_behind_0 rfl ?_
  refine V_callV (pc := 1) (M' := mX9_startNow) dX9_behind_1 mlX9_44 okX9_startNow rfl (c_X9_startNow hk) rfl rfl rfl rfl ⟨Nat.le_of_ble_eq_true rfl, Nat.le_of_ble_eq_true rfl⟩ ⟨Nat.le_refl 0, Nat.le_refl 0⟩ (Nat.le_of_ble_eq_true rfl) ?_
  intro r1 I1 J1 hh
  obtain ⟨e1, e2, e3⟩ := hh
  rw [e1, e2, e3]
  clear e1 e2 e3 r1 I1 J1
  refine V0_iconst (pc := 4) (0) dX9_behind_4 (by decide) ?_
  refine V0_istore_2 (pc := 5) dX9_behind_5 (by decide) rfl ?_
  exact lp_X9_behind (S := t_start I m n) (ok_start hk) hk60 ⟨rfl, rfl, rfl⟩ (k + 1) 0 (by omega) (by omega)
def t_put (I : px_I) (m n : Nat) (one house : Int32) : px_I := if g_isP (t_start I m n) one = true then px_up (t_start I m n) 44 (ix one) house else t_start I m n
def t_worth (I : px_I) (m n k : Nat) (one house : Int32) : Int32 := s_sum (g_had (g_days 43 m n (t_put I m n one house) k) 43) (g_days 43 m n (t_put I m n one house) k 6) n
theorem ok_put {I : px_I} {m n : Nat} {one house : Int32} (h : px_ok0 I m n) : px_ok0 (t_put I m n one house) m n := by
  unfold t_put; split
  · exact ok_up (ok_start h) (by omega)
  · exact ok_start h
theorem s_is_ix {x n : Int32} {c : Nat} {cc : Int32} (hc : cc = nI c) (hc2 : c < 2 ^ 31) (h : s_is x n cc = true) : x = nI (ix x) ∧ ix x < c := by
  subst hc
  simp only [s_is, Bool.and_eq_true, Bool.not_eq_true', decide_eq_false_iff_not, decide_eq_true_eq] at h
  exact ⟨nI_ix h.1.1, ix_lt h.1.1 hc2 h.2⟩
theorem lp_X9_worthBehind {l : Launch} {S : px_I} {J : px_J} {m n k : Nat} {one house : Int32} {Q : px_Q} (hS : px_ok0 S m n) (hk60 : k ≤ 60) (hQ : Q (some (.int (s_sum (g_had (g_days 43 m n S k) 43) (g_days 43 m n S k 6) n))) (g_days 43 m n S k) J) : ∀ (f j : Nat), k + 1 - j ≤ f → j ≤ k → V0 l (px_rm 4 0 0) mX9_worthBehind (false, []) 0 0 28 [.ref 42, .int (nI k), .int one, .int house, .int (nI j)] [] (px_mk (g_days 43 m n S j) J) (px_q Q) := by
  intro f
  induction f with
  | zero => intro j h1 h2; omega
  | succ f ih =>
    intro j h1 h2
    have ho := ok_days (k := j) hS
    refine V0_iload (pc := 28) dX9_worthBehind_28 rfl ?_
    refine V0_iload_n (pc := 30) dX9_worthBehind_30 rfl ?_
    refine V1_icmp_ge (pc := 31) 47 dX9_worthBehind_31 (by decide) (fun h31 => ?_) (fun h31 => ?_)
    · skip
      have hj : j = k := by have := px_ge h31 (by omega) (by omega); omega
      subst hj
      refine V0_aload_n (pc := 47) dX9_worthBehind_47 rfl ?_
      refine V_getr (pc := 48) dX9_worthBehind_48 flX9_28 rfl rfl ?_
      refine V_callVi (pc := 51) (M' := mX2_worthOfHad) dX9_worthBehind_51 mlX9_58 okX2_worthOfHad rfl (c_X2_worthOfHad cs43 ho.2.2.1 ho.2.2.2.1) rfl rfl rfl rfl ⟨Nat.le_of_ble_eq_true rfl, Nat.le_of_ble_eq_true rfl⟩ ⟨Nat.le_refl 0, Nat.le_refl 0⟩ (Nat.le_of_ble_eq_true rfl) ?_
      refine V_reti (pc := 54) _ dX9_worthBehind_54 rfl ?_
      exact hQ
    · skip
      have hj := px_lt h31 (by omega) (by omega)
      refine V0_aload_n (pc := 34) dX9_worthBehind_34 rfl ?_
      refine V_getr (pc := 35) dX9_worthBehind_35 flX9_28 rfl rfl ?_
      refine V_callV (pc := 38) (M' := mX2_pass) dX9_worthBehind_38 mlX9_47 okX2_pass rfl (c_X2_pass cs43 ho.1 ho.2.1 ho.2.2.1 ho.2.2.2.1 ho.2.2.2.2.1) rfl rfl rfl rfl ⟨Nat.le_of_ble_eq_true rfl, Nat.le_of_ble_eq_true rfl⟩ ⟨Nat.le_refl 0, Nat.le_refl 0⟩ (Nat.le_of_ble_eq_true rfl) ?_
      intro r1 I1 J1 hh
      obtain ⟨e1, e2, e3⟩ := hh
      rw [e1, e2, e3]
      clear e1 e2 e3 r1 I1 J1
      refine V0_iinc_4 (pc := 41) (nI (j + 1)) dX9_worthBehind_41 (by decide) rfl (nI_1 _) ?_
      refine V0_goto (pc := 44) 28 dX9_worthBehind_44 (by decide) ?_
      exact ih (j + 1) (by omega) (by omega)
theorem c_X9_worthBehind {l : Launch} {I : px_I} {J : px_J} {m n k : Nat} {one house : Int32} (hk : px_ok0 I m n) (hk60 : k ≤ 60) : Ct l mX9_worthBehind 4 [.ref 42, .int (nI k), .int one, .int house] I J (px_qi (t_worth I m n k one house) (g_days 43 m n (t_put I m n one house) k) J) := by
  have key : ∀ S : px_I, S = t_put I m n one house → V0 l (px_rm 4 0 0) mX9_worthBehind (false, []) 0 0 28 [.ref 42, .int (nI k), .int one, .int house, .int (nI 0)] [] (px_mk S J) (px_q (px_qi (t_worth I m n k one house) (g_days 43 m n (t_put I m n one house) k) J)) := by
    intro S e
    subst e
    exact lp_X9_worthBehind (ok_put hk) hk60 ⟨rfl, rfl, rfl⟩ (k + 1) 0 (by omega) (by omega)
  refine Ct.of plX9_worthBehind (Nat.le_of_ble_eq_true rfl) [.ref 42, .int (nI k), .int one, .int house, .null] rfl ?_
  refine V0_aload_n (pc := 0) dX9_worthBehind_0 rfl ?_
  refine V_callV (pc := 1) (M' := mX9_startNow) dX9_worthBehind_1 mlX9_44 okX9_startNow rfl (c_X9_startNow hk) rfl rfl rfl rfl ⟨Nat.le_of_ble_eq_true rfl, Nat.le_of_ble_eq_true rfl⟩ ⟨Nat.le_refl 0, Nat.le_refl 0⟩ (Nat.le_of_ble_eq_true rfl) ?_
  intro r1 I1 J1 hh
  obtain ⟨e1, e2, e3⟩ := hh
  rw [e1, e2, e3]
  clear e1 e2 e3 r1 I1 J1
  refine V0_aload_n (pc := 4) dX9_worthBehind_4 rfl ?_
  refine V_getr (pc := 5) dX9_worthBehind_5 flX9_9 rfl rfl ?_
  refine V0_iload_n (pc := 8) dX9_worthBehind_8 rfl ?_
  refine V_callVi (pc := 9) (M' := mX7_isPerson) dX9_worthBehind_9 mlX9_50 okX7_isPerson rfl c_X7_isPerson rfl rfl rfl rfl ⟨Nat.le_of_ble_eq_true rfl, Nat.le_of_ble_eq_true rfl⟩ ⟨Nat.le_refl 0, Nat.le_refl 0⟩ (Nat.le_of_ble_eq_true rfl) ?_
  refine V_ifeqb (pc := 12) 25 dX9_worthBehind_12 (by decide) (fun h12 => ?_) (fun h12 => ?_)
  · skip
    refine V0_iconst (pc := 25) (0) dX9_worthBehind_25 (by decide) ?_
    refine V0_istore_4 (pc := 26) dX9_worthBehind_26 (by decide) rfl ?_
    exact key _ (by simp [t_put, h12])
  · skip
    have hi := s_is_ix (c := 7) rfl (by omega) h12
    refine V0_aload_n (pc := 15) dX9_worthBehind_15 rfl ?_
    refine V_getr (pc := 16) dX9_worthBehind_16 flX9_28 rfl rfl ?_
    refine V_getr (pc := 19) dX9_worthBehind_19 flX9_54 rfl rfl ?_
    refine V0_iload_n (pc := 22) dX9_worthBehind_22 rfl ?_
    refine V0_iload_n (pc := 23) dX9_worthBehind_23 rfl ?_
    refine V_iast (pc := 24) (ix one) dX9_worthBehind_24 rfl hi.1 hi.2 ?_
    refine V0_iconst (pc := 25) (0) dX9_worthBehind_25 (by decide) ?_
    refine V0_istore_4 (pc := 26) dX9_worthBehind_26 (by decide) rfl ?_
    exact key _ (by simp [t_put, h12])
def s_first (f : Nat → Bool) : Nat → Nat → Int32
  | 0, _ => -2
  | k + 1, j => if f j = true then nI j else s_first f k (j + 1)
theorem lp_X9_firstDayOf {l : Launch} {S : px_I} {J : px_J} {m n jy : Nat} {s : Int32} {Q : px_Q} (hS : px_ok0 S m n) (hjy : jy < 10) : ∀ (f j : Nat), j + f = 61 → (∀ i, Q (some (.int (s_first (fun i => g_in (g_days 43 m n S i) 43 s jy) f j))) (g_days 43 m n S i) J) → V0 l (px_rm 4 0 0) mX9_firstDayOf (false, []) 0 0 6 [.ref 42, .int (nI jy), .int s, .int (nI j)] [] (px_mk (g_days 43 m n S j) J) (px_q Q) := by
  intro f
  induction f with
  | zero =>
    intro j h1 hQ
    obtain rfl : j = 61 := by omega
    refine V0_iload_n (pc := 6) dX9_firstDayOf_6 rfl ?_
    refine V0_bipush (pc := 7) (60) dX9_firstDayOf_7 (by decide) ?_
    refine V0_icmp_gt (pc := 9) 39 dX9_firstDayOf_9 (by decide) (fun h9 => ?_) (fun h9 => ?_)
    · skip
      refine V0_bipush (pc := 39) (-2) dX9_firstDayOf_39 (by decide) ?_
      refine V_reti (pc := 41) _ dX9_firstDayOf_41 rfl ?_
      exact hQ 61
    · skip
      exact absurd (show (60 : Int32) < nI 61 by decide) h9
  | succ f ih =>
    intro j h1 hQ
    have ho := ok_days (k := j) hS
    have hj60 : ¬ (60 : Int32) < nI j := fun q => absurd ((qI_lt (a := 60) (b := j) (by omega) (by omega)).mp q) (by omega)
    refine V0_iload_n (pc := 6) dX9_firstDayOf_6 rfl ?_
    refine V0_bipush (pc := 7) (60) dX9_firstDayOf_7 (by decide) ?_
    refine V0_icmp_gt (pc := 9) 39 dX9_firstDayOf_9 (by decide) (fun h9 => ?_) (fun h9 => ?_)
    · skip
      exact absurd h9 hj60
    · skip
      refine V0_aload_n (pc := 12) dX9_firstDayOf_12 rfl ?_
      refine V_getr (pc := 13) dX9_firstDayOf_13 flX9_28 rfl rfl ?_
      refine V0_iload_n (pc := 16) dX9_firstDayOf_16 rfl ?_
      refine V0_iload_n (pc := 17) dX9_firstDayOf_17 rfl ?_
      refine V_callVi (pc := 18) (M' := mX2_isIn) dX9_firstDayOf_18 mlX9_62 okX2_isIn rfl (c_X2_isIn cs43 (by omega)) rfl rfl rfl rfl ⟨Nat.le_of_ble_eq_true rfl, Nat.le_of_ble_eq_true rfl⟩ ⟨Nat.le_refl 0, Nat.le_refl 0⟩ (Nat.le_of_ble_eq_true rfl) ?_
      refine V_ifeqb (pc := 21) 26 dX9_firstDayOf_21 (by decide) (fun h21 => ?_) (fun h21 => ?_)
      · skip
        refine V0_aload_n (pc := 26) dX9_firstDayOf_26 rfl ?_
        refine V_getr (pc := 27) dX9_firstDayOf_27 flX9_28 rfl rfl ?_
        refine V_callV (pc := 30) (M' := mX2_pass) dX9_firstDayOf_30 mlX9_47 okX2_pass rfl (c_X2_pass cs43 ho.1 ho.2.1 ho.2.2.1 ho.2.2.2.1 ho.2.2.2.2.1) rfl rfl rfl rfl ⟨Nat.le_of_ble_eq_true rfl, Nat.le_of_ble_eq_true rfl⟩ ⟨Nat.le_refl 0, Nat.le_refl 0⟩ (Nat.le_of_ble_eq_true rfl) ?_
        intro r1 I1 J1 hh
        obtain ⟨e1, e2, e3⟩ := hh
        rw [e1, e2, e3]
        clear e1 e2 e3 r1 I1 J1
        refine V0_iinc_3 (pc := 33) (nI (j + 1)) dX9_firstDayOf_33 (by decide) rfl (nI_1 _) ?_
        refine V0_goto (pc := 36) 6 dX9_firstDayOf_36 (by decide) ?_
        exact ih (j + 1) (by omega) (fun i => by have := hQ i; rw [s_first, if_neg (by rw [h21]; decide)] at this; exact this)
      · skip
        refine V0_iload_n (pc := 24) dX9_firstDayOf_24 rfl ?_
        refine V_reti (pc := 25) _ dX9_firstDayOf_25 rfl ?_
        have := hQ j
        rw [s_first, if_pos h21] at this
        exact this
theorem c_X9_firstDayOf {l : Launch} {I : px_I} {J : px_J} {m n jy : Nat} {s : Int32} (hk : px_ok0 I m n) (hj : jy < 10) : Ct l mX9_firstDayOf 4 [.ref 42, .int (nI jy), .int s] I J (fun r I' J' => r = some (.int (s_first (fun i => g_in (g_days 43 m n (t_start I m n) i) 43 s jy) 61 0)) ∧ (∃ i, I' = g_days 43 m n (t_start I m n) i) ∧ J' = J) := by
  refine Ct.of plX9_firstDayOf (Nat.le_of_ble_eq_true rfl) [.ref 42, .int (nI jy), .int s, .null] rfl ?_
  refine V0_aload_n (pc := 0) dX9_firstDayOf_0 rfl ?_
  refine V_callV (pc := 1) (M' := mX9_startNow) dX9_firstDayOf_1 mlX9_44 okX9_startNow rfl (c_X9_startNow hk) rfl rfl rfl rfl ⟨Nat.le_of_ble_eq_true rfl, Nat.le_of_ble_eq_true rfl⟩ ⟨Nat.le_refl 0, Nat.le_refl 0⟩ (Nat.le_of_ble_eq_true rfl) ?_
  intro r1 I1 J1 hh
  obtain ⟨e1, e2, e3⟩ := hh
  rw [e1, e2, e3]
  clear e1 e2 e3 r1 I1 J1
  refine V0_iconst (pc := 4) (0) dX9_firstDayOf_4 (by decide) ?_
  refine V0_istore_3 (pc := 5) dX9_firstDayOf_5 (by decide) rfl ?_
  exact lp_X9_firstDayOf (S := t_start I m n) (ok_start hk) hj 61 0 rfl (fun i => ⟨rfl, ⟨i, rfl⟩, rfl⟩)
/-! scratch: the course in thought, what was sought -/
def px_sc (I I' : px_I) : Prop := ∀ q, q < 42 ∨ 47 < q → I q = I' q
theorem px_sc.rf {I : px_I} : px_sc I I := fun _ _ => rfl
theorem px_sc.tr {I I' I2 : px_I} (h : px_sc I I') (g : px_sc I' I2) : px_sc I I2 := fun q hq => (h q hq).trans (g q hq)
theorem px_sc.days {I S : px_I} {m n k : Nat} (h : px_sc I S) : px_sc I (g_days 43 m n S k) := fun q hq => (h q hq).trans (g_days_row (by omega) (by omega) (by omega) (by omega)).symm
theorem px_sc.start {I S : px_I} {m n : Nat} (h : px_sc I S) : px_sc I (t_start S m n) := fun q hq => (h q hq).trans (g_takes_row (by omega)).symm
theorem px_sc.up {I S : px_I} {q0 k : Nat} {x : Int32} (h : px_sc I S) (h1 : 42 ≤ q0) (h2 : q0 ≤ 47) : px_sc I (px_up S q0 k x) := fun q hq => (h q hq).trans (px_up_row (by omega)).symm
theorem px_sc.put {I S : px_I} {m n : Nat} {one house : Int32} (h : px_sc I S) : px_sc I (t_put S m n one house) := by
  unfold t_put; split
  · exact h.start.up (by omega) (by omega)
  · exact h.start
theorem px_sc.ok {I S : px_I} {m n : Nat} (h : px_sc I S) (hk : px_ok0 I m n) : px_ok0 S m n := hk.of (h 1 (by omega)).symm (h 2 (by omega)).symm
theorem px_sc.R {I S : px_I} {m n : Nat} (h : px_sc I S) : px_R m n I 8 S 8 := ⟨fun q a b => h q (by omega), ⟨by rw [h 1 (by omega)], by rw [h 1 (by omega)]⟩, ⟨by rw [h 8 (by omega)], by rw [h 8 (by omega)]⟩, fun k a => by rw [h (8 + 1) (by omega)], fun k a => by rw [h (8 + 2) (by omega)], fun k a => by rw [h (8 + 3) (by omega)]⟩
theorem R_start8 {I : px_I} {m n : Nat} : px_R m n (t_start I m n) 43 I 8 := R_takes (by omega) (by omega) (by omega)
theorem R_start2 {I S : px_I} {m n : Nat} (h : px_R m n I 8 S 8) : px_R m n (t_start I m n) 43 (t_start S m n) 43 := R_start8.tr (h.tr R_start8.sy)
theorem R_put {I S : px_I} {m n : Nat} {one house : Int32} (h : px_R m n I 8 S 8) (h1 : I 1 6 = S 1 6) : px_R m n (t_put I m n one house) 43 (t_put S m n one house) 43 := by
  unfold t_put
  have e : g_isP (t_start I m n) one = g_isP (t_start S m n) one := by
    simp only [g_isP]; rw [t_start_row (by omega), t_start_row (by omega), h1]
  rw [e]
  split
  · exact R_up1 (R_start2 h) (by omega) (by omega)
  · exact R_start2 h
theorem R_tworth {I S : px_I} {m n k : Nat} {one house : Int32} (hk : px_ok0 I m n) (h : px_R m n I 8 S 8) (h1 : I 1 6 = S 1 6) : t_worth I m n k one house = t_worth S m n k one house :=
  R_worth (R_days (R_put h h1) (by omega) (by omega) (ok_put hk).2.2.2.2.2 k)
def t_best (w : Nat → Int32) (base : Int32 × Int32) : Nat → Int32 × Int32
  | 0 => base
  | j + 1 => if (t_best w base j).1 < w j then (w j, nI j) else t_best w base j
theorem qI_div12 {j : Nat} (h : j < 1000) : nI j / 12 = nI (j / 12) := by
  apply Int32.toInt_inj.mp
  rw [Int32.toInt_div_of_ne_right _ _ (by decide), nI_toInt (by omega), nI_toInt (by omega)]
  have : (12 : Int32).toInt = 12 := by decide
  rw [this, Int.tdiv_eq_ediv_of_nonneg (by omega)]
  omega
theorem qI_rem12 {j : Nat} (h : j < 1000) : px_rem (nI j) 12 = nI (j % 12) := by
  unfold px_rem
  rw [qI_div12 h, show (12 : Int32) = nI 12 from rfl, qI_mul, qI_sub (by omega)]
  congr 1
  omega

def t_wm (I : px_I) (m n k j : Nat) : Int32 := t_worth I m n k (nI (j / 12)) (nI (j % 12))
def t_mv (I : px_I) (m n k j : Nat) : Int32 × Int32 := t_best (t_wm I m n k) (t_worth I m n k (-1) 0, 99) j
/-- what seeking leaves: scratch, and what was found -/
def px_found (I : px_I) (b : Int32 × Int32) (J : px_J) : px_Q := fun r I' J' => r = none ∧ px_sc I I' ∧ I' 42 4 = b.1 ∧ I' 42 5 = b.2 ∧ J' = J
theorem lp_X9_seekMove {l : Launch} {I : px_I} {J : px_J} {m n k : Nat} {Q : px_Q} (hk : px_ok0 I m n) (hk60 : k ≤ 60) (hQ : ∀ I', px_sc I I' → I' 42 4 = (t_mv I m n k (12 * m)).1 → I' 42 5 = (t_mv I m n k (12 * m)).2 → Q none I' J) : ∀ (f j : Nat), 12 * m + 1 - j ≤ f → j ≤ 12 * m → ∀ (X : px_I) (v3 : Value), px_sc I X → X 42 4 = (t_mv I m n k j).1 → X 42 5 = (t_mv I m n k j).2 → V0 l (px_rm 5 0 0) mX9_seekMove (false, []) 0 0 19 [.ref 42, .int (nI k), .int (nI j), v3] [] (px_mk X J) (px_q Q) := by
  have hm7 := hk.2.1
  intro f
  induction f with
  | zero => intro j h1 h2; omega
  | succ f ih =>
    intro j h1 h2 X v3 hsc hx4 hx5
    have hkX := hsc.ok hk
    have hw : t_worth X m n k (nI (j / 12)) (nI (j % 12)) = t_wm I m n k j := (R_tworth hk hsc.R (by rw [hsc 1 (by omega)])).symm
    have hX2 : ∀ q, q < 42 ∨ 47 < q → g_days 43 m n (t_put X m n (nI (j / 12)) (nI (j % 12))) k q = I q := fun q hq => (px_sc.days (px_sc.put hsc) q hq).symm
    have hXr : ∀ c, g_days 43 m n (t_put X m n (nI (j / 12)) (nI (j % 12))) k 42 c = X 42 c := fun c => by
      rw [g_days_row (by omega) (by omega) (by omega) (by omega)]
      unfold t_put; split
      · rw [px_up_row (by omega), t_start_row (by omega)]
      · rw [t_start_row (by omega)]
    have e12 : (12 : Int32) * nI m = nI (12 * m) := qI_mul 12 m
    refine V0_iload_n (pc := 19) dX9_seekMove_19 rfl ?_
    refine V0_bipush (pc := 20) (12) dX9_seekMove_20 (by decide) ?_
    refine V0_aload_n (pc := 22) dX9_seekMove_22 rfl ?_
    refine V_getr (pc := 23) dX9_seekMove_23 flX9_9 rfl rfl ?_
    refine V_geti (pc := 26) dX9_seekMove_26 flX9_31 rfl rfl ?_
    rw [hkX.1]
    refine V0_imul (pc := 29) dX9_seekMove_29 ?_
    rw [e12]
    refine V1_icmp_ge (pc := 30) 71 dX9_seekMove_30 (by decide) (fun h30 => ?_) (fun h30 => ?_)
    · skip
      have hj : j = 12 * m := by have := px_ge h30 (by omega) (by omega); omega
      subst hj
      refine V_retv (pc := 71) dX9_seekMove_71 rfl ?_
      exact hQ X hsc hx4 hx5
    · skip
      have hj := px_lt h30 (by omega) (by omega)
      refine V0_aload_n (pc := 33) dX9_seekMove_33 rfl ?_
      refine V0_iload_n (pc := 34) dX9_seekMove_34 rfl ?_
      refine V0_iload_n (pc := 35) dX9_seekMove_35 rfl ?_
      refine V0_bipush (pc := 36) (12) dX9_seekMove_36 (by decide) ?_
      refine V0_idiv (pc := 38) dX9_seekMove_38 (by decide) ?_
      refine V0_iload_n (pc := 39) dX9_seekMove_39 rfl ?_
      refine V0_bipush (pc := 40) (12) dX9_seekMove_40 (by decide) ?_
      refine V0_irem (pc := 42) dX9_seekMove_42 (by decide) ?_
      rw [qI_div12 (by omega), qI_rem12 (by omega)]
      refine V_callV (pc := 43) (M' := mX9_worthBehind) dX9_seekMove_43 mlX9_66 okX9_worthBehind rfl (c_X9_worthBehind hkX hk60) rfl rfl rfl rfl ⟨Nat.le_of_ble_eq_true rfl, Nat.le_of_ble_eq_true rfl⟩ ⟨Nat.le_refl 0, Nat.le_refl 0⟩ (Nat.le_of_ble_eq_true rfl) ?_
      intro r1 I1 J1 hh
      obtain ⟨e1, e2, e3⟩ := hh
      rw [e1, e2, e3]
      clear e1 e2 e3 r1 I1 J1
      refine V0_istore_3 (pc := 46) dX9_seekMove_46 (by decide) rfl ?_
      refine V0_iload_n (pc := 47) dX9_seekMove_47 rfl ?_
      refine V0_aload_n (pc := 48) dX9_seekMove_48 rfl ?_
      refine V_geti (pc := 49) dX9_seekMove_49 flX9_70 rfl rfl ?_
      rw [hXr, hx4, hw]
      refine V1_icmp_le (pc := 52) 65 dX9_seekMove_52 (by decide) (fun h52 => ?_) (fun h52 => ?_)
      · skip
        refine V0_iinc_2 (pc := 65) (nI (j + 1)) dX9_seekMove_65 (by decide) rfl (nI_1 _) ?_
        refine V0_goto (pc := 68) 19 dX9_seekMove_68 (by decide) ?_
        have hb : t_mv I m n k (j + 1) = if (t_mv I m n k j).1 < t_wm I m n k j then (t_wm I m n k j, nI j) else t_mv I m n k j := rfl
        first | (rw [if_pos h52] at hb; exact ih (j + 1) (by omega) (by omega) _ _ (((px_sc.days (px_sc.put hsc)).up (by omega) (by omega)).up (by omega) (by omega)) (by rw [hb]; simp [px_up_at, hw]) (by rw [hb]; simp [px_up_at])) | (rw [if_neg h52] at hb; exact ih (j + 1) (by omega) (by omega) _ _ (px_sc.days (px_sc.put hsc)) (by rw [hb, hXr]; exact hx4) (by rw [hb, hXr]; exact hx5))
      · skip
        refine V0_aload_n (pc := 55) dX9_seekMove_55 rfl ?_
        refine V0_iload_n (pc := 56) dX9_seekMove_56 rfl ?_
        refine V_puti (pc := 57) dX9_seekMove_57 flX9_70 rfl rfl ?_
        refine V0_aload_n (pc := 60) dX9_seekMove_60 rfl ?_
        refine V0_iload_n (pc := 61) dX9_seekMove_61 rfl ?_
        refine V_puti (pc := 62) dX9_seekMove_62 flX9_73 rfl rfl ?_
        refine V0_iinc_2 (pc := 65) (nI (j + 1)) dX9_seekMove_65 (by decide) rfl (nI_1 _) ?_
        refine V0_goto (pc := 68) 19 dX9_seekMove_68 (by decide) ?_
        have hb : t_mv I m n k (j + 1) = if (t_mv I m n k j).1 < t_wm I m n k j then (t_wm I m n k j, nI j) else t_mv I m n k j := rfl
        first | (rw [if_pos h52] at hb; exact ih (j + 1) (by omega) (by omega) _ _ (((px_sc.days (px_sc.put hsc)).up (by omega) (by omega)).up (by omega) (by omega)) (by rw [hb]; simp [px_up_at, hw]) (by rw [hb]; simp [px_up_at])) | (rw [if_neg h52] at hb; exact ih (j + 1) (by omega) (by omega) _ _ (px_sc.days (px_sc.put hsc)) (by rw [hb, hXr]; exact hx4) (by rw [hb, hXr]; exact hx5))
theorem c_X9_seekMove {l : Launch} {I : px_I} {J : px_J} {m n k : Nat} (hk : px_ok0 I m n) (hk60 : k ≤ 60) : Ct l mX9_seekMove 5 [.ref 42, .int (nI k)] I J (px_found I (t_mv I m n k (12 * m)) J) := by
  refine Ct.of plX9_seekMove (Nat.le_of_ble_eq_true rfl) [.ref 42, .int (nI k), .null, .null] rfl ?_
  refine V0_aload_n (pc := 0) dX9_seekMove_0 rfl ?_
  refine V0_aload_n (pc := 1) dX9_seekMove_1 rfl ?_
  refine V0_iload_n (pc := 2) dX9_seekMove_2 rfl ?_
  refine V0_iconst (pc := 3) (-1) dX9_seekMove_3 (by decide) ?_
  refine V0_iconst (pc := 4) (0) dX9_seekMove_4 (by decide) ?_
  refine V_callV (pc := 5) (M' := mX9_worthBehind) dX9_seekMove_5 mlX9_66 okX9_worthBehind rfl (c_X9_worthBehind hk hk60) rfl rfl rfl rfl ⟨Nat.le_of_ble_eq_true rfl, Nat.le_of_ble_eq_true rfl⟩ ⟨Nat.le_refl 0, Nat.le_refl 0⟩ (Nat.le_of_ble_eq_true rfl) ?_
  intro r1 I1 J1 hh
  obtain ⟨e1, e2, e3⟩ := hh
  rw [e1, e2, e3]
  clear e1 e2 e3 r1 I1 J1
  refine V_puti (pc := 8) dX9_seekMove_8 flX9_70 rfl rfl ?_
  refine V0_aload_n (pc := 11) dX9_seekMove_11 rfl ?_
  refine V0_bipush (pc := 12) (99) dX9_seekMove_12 (by decide) ?_
  refine V_puti (pc := 14) dX9_seekMove_14 flX9_73 rfl rfl ?_
  refine V0_iconst (pc := 17) (0) dX9_seekMove_17 (by decide) ?_
  refine V0_istore_2 (pc := 18) dX9_seekMove_18 (by decide) rfl ?_
  exact lp_X9_seekMove hk hk60 (fun I1 a b c => ⟨rfl, a, b, c, rfl⟩) (12 * m + 1) 0 (by omega) (by omega) _ _ (((px_sc.days (px_sc.put px_sc.rf)).up (by omega) (by omega)).up (by omega) (by omega)) (by simp [px_up_at, t_mv, t_best]) (by simp [px_up_at, t_mv, t_best])

/-! a due by which most is had -/
def px_sd (q0 jy : Nat) (I X : px_I) : Prop := ∀ q, q < 42 ∨ 47 < q → ∀ k, ¬ (q = q0 ∧ k = jy) → I q k = X q k
theorem px_sd.up {q0 jy : Nat} {I X : px_I} {v : Int32} (h : px_sd q0 jy I X) : px_sc (px_up I q0 jy v) (px_up X q0 jy v) := by
  intro q hq
  funext k
  by_cases hc : q = q0 ∧ k = jy
  · simp [px_up_at, hc]
  · rw [px_up_ne hc, px_up_ne hc]; exact h q hq k hc
theorem px_sc.sd {q0 jy : Nat} {I X : px_I} {v : Int32} (h : px_sc (px_up I q0 jy v) X) : px_sd q0 jy I X := by
  intro q hq k hc
  rw [← h q hq, px_up_ne hc]
theorem px_sd.rf {q0 jy : Nat} {I : px_I} : px_sd q0 jy I I := fun _ _ _ _ => rfl
theorem px_sd.up2 {q0 jy q k : Nat} {I X : px_I} {v : Int32} (h : px_sd q0 jy I X) (h1 : 42 ≤ q) (h2 : q ≤ 47) : px_sd q0 jy I (px_up X q k v) := by
  intro r hr c hc
  rw [px_up_row (by omega)]; exact h r hr c hc
theorem px_sd.back {q0 jy : Nat} {I X : px_I} (h : px_sd q0 jy I X) : px_sc I (px_up X q0 jy (I q0 jy)) := by
  intro q hq
  funext k
  by_cases hc : q = q0 ∧ k = jy
  · obtain ⟨rfl, rfl⟩ := hc; rw [px_up_same]
  · rw [px_up_ne hc]; exact h q hq k hc
theorem px_ok0.sd {q0 jy m n : Nat} {I X : px_I} (h : px_ok0 I m n) (hs : px_sd q0 jy I X) (hq : 2 < q0) : px_ok0 X m n :=
  h.of (by funext k; exact (hs 1 (by omega) k (by omega)).symm) (by funext k; exact (hs 2 (by omega) k (by omega)).symm)
def t_wd (I : px_I) (m n k jy d : Nat) : Int32 := t_worth (px_up I 3 jy (nI d)) m n k (-1) 0
def t_dt (I : px_I) (m n k jy j : Nat) : Int32 × Int32 := t_best (t_wd I m n k jy) (-1, I 42 5) j
theorem lp_X9_seekDue {l : Launch} {I : px_I} {J : px_J} {m n k jy : Nat} {Q : px_Q} (hk : px_ok0 I m n) (hk60 : k ≤ 60) (hjy : jy < 10) (hQ : ∀ I', px_sc I I' → I' 42 4 = (t_dt I m n k jy 100).1 → I' 42 5 = (t_dt I m n k jy 100).2 → Q none I' J) : ∀ (f j : Nat), 101 - j ≤ f → j ≤ 100 → ∀ (X : px_I) (v5 : Value), px_sd 3 jy I X → X 42 4 = (t_dt I m n k jy j).1 → X 42 5 = (t_dt I m n k jy j).2 → V0 l (px_rm 5 0 0) mX9_seekDue (false, []) 0 0 18 [.ref 42, .int (nI jy), .int (nI k), .int (I 3 jy), .int (nI j), v5] [] (px_mk X J) (px_q Q) := by
  intro f
  induction f with
  | zero => intro j h1 h2; omega
  | succ f ih =>
    intro j h1 h2 X v5 hsd hx4 hx5
    have hkX : px_ok0 (px_up X 3 jy (nI j)) m n := ok_up (hk.sd hsd (by omega)) (by omega)
    have hkI : px_ok0 (px_up I 3 jy (nI j)) m n := ok_up hk (by omega)
    have hsu := hsd.up (v := nI j)
    have hw : t_worth (px_up X 3 jy (nI j)) m n k (-1) 0 = t_wd I m n k jy j := (R_tworth hkI hsu.R (by rw [hsu 1 (by omega)])).symm
    have hXr : ∀ c, g_days 43 m n (t_put (px_up X 3 jy (nI j)) m n (-1) 0) k 42 c = X 42 c := fun c => by
      rw [g_days_row (by omega) (by omega) (by omega) (by omega)]
      unfold t_put; split
      · rw [px_up_row (by omega), t_start_row (by omega), px_up_row (by omega)]
      · rw [t_start_row (by omega), px_up_row (by omega)]
    have hdn := px_sc.days (m := m) (n := n) (k := k) (px_sc.put (m := m) (n := n) (one := -1) (house := 0) hsu)
    refine V0_iload (pc := 18) dX9_seekDue_18 rfl ?_
    refine V0_bipush (pc := 20) (99) dX9_seekDue_20 (by decide) ?_
    refine V0_icmp_gt (pc := 22) 72 dX9_seekDue_22 (by decide) (fun h22 => ?_) (fun h22 => ?_)
    · skip
      have hj : j = 100 := by
        have := px_lt (a := 99) (b := j) h22 (by omega) (by omega)
        omega
      subst hj
      refine V0_aload_n (pc := 72) dX9_seekDue_72 rfl ?_
      refine V_getr (pc := 73) dX9_seekDue_73 flX9_9 rfl rfl ?_
      refine V_getr (pc := 76) dX9_seekDue_76 flX9_76 rfl rfl ?_
      refine V0_iload_n (pc := 79) dX9_seekDue_79 rfl ?_
      refine V0_iload_n (pc := 80) dX9_seekDue_80 rfl ?_
      refine V_iast (pc := 81) (jy) dX9_seekDue_81 rfl rfl (by omega) ?_
      refine V_retv (pc := 82) dX9_seekDue_82 rfl ?_
      exact hQ _ hsd.back (by rw [px_up_row (by omega)]; exact hx4) (by rw [px_up_row (by omega)]; exact hx5)
    · skip
      have hj : j ≤ 99 := by
        have := px_ge (a := 99) (b := j) h22 (by omega) (by omega)
        omega
      refine V0_aload_n (pc := 25) dX9_seekDue_25 rfl ?_
      refine V_getr (pc := 26) dX9_seekDue_26 flX9_9 rfl rfl ?_
      refine V_getr (pc := 29) dX9_seekDue_29 flX9_76 rfl rfl ?_
      refine V0_iload_n (pc := 32) dX9_seekDue_32 rfl ?_
      refine V0_iload (pc := 33) dX9_seekDue_33 rfl ?_
      refine V_iast (pc := 35) (jy) dX9_seekDue_35 rfl rfl (by omega) ?_
      refine V0_aload_n (pc := 36) dX9_seekDue_36 rfl ?_
      refine V0_iload_n (pc := 37) dX9_seekDue_37 rfl ?_
      refine V0_iconst (pc := 38) (-1) dX9_seekDue_38 (by decide) ?_
      refine V0_iconst (pc := 39) (0) dX9_seekDue_39 (by decide) ?_
      refine V_callV (pc := 40) (M' := mX9_worthBehind) dX9_seekDue_40 mlX9_66 okX9_worthBehind rfl (c_X9_worthBehind hkX hk60) rfl rfl rfl rfl ⟨Nat.le_of_ble_eq_true rfl, Nat.le_of_ble_eq_true rfl⟩ ⟨Nat.le_refl 0, Nat.le_refl 0⟩ (Nat.le_of_ble_eq_true rfl) ?_
      intro r1 I1 J1 hh
      obtain ⟨e1, e2, e3⟩ := hh
      rw [e1, e2, e3]
      clear e1 e2 e3 r1 I1 J1
      refine V0_istore_5 (pc := 43) dX9_seekDue_43 (by decide) rfl ?_
      refine V0_iload (pc := 45) dX9_seekDue_45 rfl ?_
      refine V0_aload_n (pc := 47) dX9_seekDue_47 rfl ?_
      refine V_geti (pc := 48) dX9_seekDue_48 flX9_70 rfl rfl ?_
      rw [hXr, hx4, hw]
      refine V1_icmp_le (pc := 51) 66 dX9_seekDue_51 (by decide) (fun h51 => ?_) (fun h51 => ?_)
      · skip
        refine V0_iinc_4 (pc := 66) (nI (j + 1)) dX9_seekDue_66 (by decide) rfl (nI_1 _) ?_
        refine V0_goto (pc := 69) 18 dX9_seekDue_69 (by decide) ?_
        have hb : t_dt I m n k jy (j + 1) = if (t_dt I m n k jy j).1 < t_wd I m n k jy j then (t_wd I m n k jy j, nI j) else t_dt I m n k jy j := rfl
        first | (rw [if_pos h51] at hb; exact ih (j + 1) (by omega) (by omega) _ _ ((hdn.sd.up2 (by omega) (by omega)).up2 (by omega) (by omega)) (by rw [hb]; simp [px_up_at, hw]) (by rw [hb]; simp [px_up_at])) | (rw [if_neg h51] at hb; exact ih (j + 1) (by omega) (by omega) _ _ hdn.sd (by rw [hb, hXr]; exact hx4) (by rw [hb, hXr]; exact hx5))
      · skip
        refine V0_aload_n (pc := 54) dX9_seekDue_54 rfl ?_
        refine V0_iload (pc := 55) dX9_seekDue_55 rfl ?_
        refine V_puti (pc := 57) dX9_seekDue_57 flX9_70 rfl rfl ?_
        refine V0_aload_n (pc := 60) dX9_seekDue_60 rfl ?_
        refine V0_iload (pc := 61) dX9_seekDue_61 rfl ?_
        refine V_puti (pc := 63) dX9_seekDue_63 flX9_73 rfl rfl ?_
        refine V0_iinc_4 (pc := 66) (nI (j + 1)) dX9_seekDue_66 (by decide) rfl (nI_1 _) ?_
        refine V0_goto (pc := 69) 18 dX9_seekDue_69 (by decide) ?_
        have hb : t_dt I m n k jy (j + 1) = if (t_dt I m n k jy j).1 < t_wd I m n k jy j then (t_wd I m n k jy j, nI j) else t_dt I m n k jy j := rfl
        first | (rw [if_pos h51] at hb; exact ih (j + 1) (by omega) (by omega) _ _ ((hdn.sd.up2 (by omega) (by omega)).up2 (by omega) (by omega)) (by rw [hb]; simp [px_up_at, hw]) (by rw [hb]; simp [px_up_at])) | (rw [if_neg h51] at hb; exact ih (j + 1) (by omega) (by omega) _ _ hdn.sd (by rw [hb, hXr]; exact hx4) (by rw [hb, hXr]; exact hx5))
theorem c_X9_seekDue {l : Launch} {I : px_I} {J : px_J} {m n k jy : Nat} (hk : px_ok0 I m n) (hj : jy < 10) (hk60 : k ≤ 60) : Ct l mX9_seekDue 5 [.ref 42, .int (nI jy), .int (nI k)] I J (px_found I (t_dt I m n k jy 100) J) := by
  refine Ct.of plX9_seekDue (Nat.le_of_ble_eq_true rfl) [.ref 42, .int (nI jy), .int (nI k), .null, .null, .null] rfl ?_
  refine V0_aload_n (pc := 0) dX9_seekDue_0 rfl ?_
  refine V_getr (pc := 1) dX9_seekDue_1 flX9_9 rfl rfl ?_
  refine V_getr (pc := 4) dX9_seekDue_4 flX9_76 rfl rfl ?_
  refine V0_iload_n (pc := 7) dX9_seekDue_7 rfl ?_
  refine V_iald (pc := 8) (jy) dX9_seekDue_8 rfl rfl (by omega) ?_
  refine V0_istore_3 (pc := 9) dX9_seekDue_9 (by decide) rfl ?_
  refine V0_aload_n (pc := 10) dX9_seekDue_10 rfl ?_
  refine V0_iconst (pc := 11) (-1) dX9_seekDue_11 (by decide) ?_
  refine V_puti (pc := 12) dX9_seekDue_12 flX9_70 rfl rfl ?_
  refine V0_iconst (pc := 15) (0) dX9_seekDue_15 (by decide) ?_
  refine V0_istore_4 (pc := 16) dX9_seekDue_16 (by decide) rfl ?_
  exact lp_X9_seekDue hk hk60 hj (fun I1 a b c => ⟨rfl, a, b, c, rfl⟩) 101 0 (by omega) (by omega) _ _ (px_sd.rf.up2 (by omega) (by omega)) (by simp [px_up_at, t_dt, t_best]) (by simp [px_up_at, t_dt, t_best])
/-! shutters -/
theorem g_lenOf_nI {I : px_I} {x : Int32} (hr : px_rows I) : g_lenOf I x = nI (ix (g_lenOf I x)) ∧ ix (g_lenOf I x) ≤ 60 := by
  unfold g_lenOf
  split
  · rename_i h
    obtain ⟨-, h6, h5⟩ := g_row_ix h
    obtain ⟨m, hm, em⟩ := hr _ h6 h5
    rw [em, ix_nI (by omega)]; exact ⟨rfl, hm⟩
  · exact ⟨rfl, by decide⟩
def t_lim (I : px_I) (x : Int32) : Nat := if 41 < ix (g_lenOf I x) then 41 else ix (g_lenOf I x)
theorem t_lim_eq {I : px_I} {x : Int32} (hr : px_rows I) : (if (41 : Int32) < g_lenOf I x then 41 else g_lenOf I x) = nI (t_lim I x) := by
  obtain ⟨h1, h2⟩ := g_lenOf_nI (x := x) hr
  have e : ((41 : Int32) < g_lenOf I x) ↔ 41 < ix (g_lenOf I x) := by
    rw [h1, ix_nI (by omega)]
    exact qI_lt (a := 41) (by omega) (by omega)
  unfold t_lim
  by_cases h : 41 < ix (g_lenOf I x)
  · rw [if_pos (e.mpr h), if_pos h]; rfl
  · rw [if_neg (fun q => h (e.mp q)), if_neg h]; exact h1
def t_bad (I : px_I) (J : px_J) (x : Int32) (m n one j : Nat) : Bool := !decide (lg_cmp (g_cell I J x (nI j)) 9 = 0) && !decide (lg_cmp (g_cell I J x (nI j)) (b2 (g_glad (g_days 43 m n (t_start I m n) j) 43 n one)).toInt64 = 0)
def t_unl (I : px_I) (J : px_J) (x : Int32) (m n one : Nat) : Int32 := s_first (t_bad I J x m n one) (t_lim I x) 0
theorem g_row_congr {I I' : px_I} {x : Int32} (h0 : I 20 = I' 20) : g_row I x = g_row I' x := by simp only [g_row, h0]
theorem g_lenOf_congr {I I' : px_I} {x : Int32} (h0 : I 20 = I' 20) (h1 : I 21 = I' 21) : g_lenOf I x = g_lenOf I' x := by
  unfold g_lenOf; rw [g_row_congr h0, h1]
theorem g_cell_congr {I I' : px_I} {J : px_J} {x i : Int32} (h0 : I 20 = I' 20) (h1 : I 21 = I' 21) : g_cell I J x i = g_cell I' J x i := by
  unfold g_cell g_hasRun; rw [g_row_congr h0, g_lenOf_congr h0 h1]
theorem px_rows.of {I I' : px_I} (h : px_rows I) (h0 : I' 20 = I 20) (h1 : I' 21 = I 21) : px_rows I' := by
  unfold px_rows; rw [h0, h1]; exact h
theorem lp_X9_firstUnlike {l : Launch} {I : px_I} {J : px_J} {m n one : Nat} {x : Int32} {Q : px_Q} (hk : px_ok0 I m n) (ho7 : one < 7) (hr : px_rows I) : ∀ (f j : Nat), j + f = t_lim I x → (∀ i, Q (some (.int (s_first (t_bad I J x m n one) f j))) (g_days 43 m n (t_start I m n) i) J) → ∀ v5 v6 : Value, V0 l (px_rm 4 0 0) mX9_firstUnlike (false, []) 0 0 21 [.ref 42, .int x, .int (nI one), .int (nI (t_lim I x)), .int (nI j), v5, v6] [] (px_mk (g_days 43 m n (t_start I m n) j) J) (px_q Q) := by
  have hl41 : t_lim I x ≤ 41 := by unfold t_lim; split <;> omega
  intro f
  induction f with
  | zero =>
    intro j h1 hQ v5 v6
    obtain rfl : j = t_lim I x := by omega
    have hir : ∀ a : Nat, ¬ nI a < nI a := fun a q => by rw [Int32.lt_iff_toInt_lt] at q; omega
    refine V0_iload (pc := 21) dX9_firstUnlike_21 rfl ?_
    refine V0_iload_n (pc := 23) dX9_firstUnlike_23 rfl ?_
    refine V1_icmp_ge (pc := 24) 87 dX9_firstUnlike_24 (by decide) (fun h24 => ?_) (fun h24 => ?_)
    · skip
      refine V0_bipush (pc := 87) (-2) dX9_firstUnlike_87 (by decide) ?_
      refine V_reti (pc := 89) _ dX9_firstUnlike_89 rfl ?_
      exact hQ _
    · skip
      exact absurd h24 (hir _)
  | succ f ih =>
    intro j h1 hQ v5 v6
    have ho := ok_days (k := j) (ok_start hk)
    have hjl : nI j < nI (t_lim I x) := (qI_lt (by omega) (by omega)).mpr (by omega)
    have r20 : g_days 43 m n (t_start I m n) j 20 = I 20 := by rw [g_days_row (by omega) (by omega) (by omega) (by omega), t_start_row (by omega)]
    have r21 : g_days 43 m n (t_start I m n) j 21 = I 21 := by rw [g_days_row (by omega) (by omega) (by omega) (by omega), t_start_row (by omega)]
    have hr2 := hr.of r20 r21
    have ec : g_cell (g_days 43 m n (t_start I m n) j) J x (nI j) = g_cell I J x (nI j) := g_cell_congr r20 r21
    refine V0_iload (pc := 21) dX9_firstUnlike_21 rfl ?_
    refine V0_iload_n (pc := 23) dX9_firstUnlike_23 rfl ?_
    refine V1_icmp_ge (pc := 24) 87 dX9_firstUnlike_24 (by decide) (fun h24 => ?_) (fun h24 => ?_)
    · skip
      exact absurd hjl h24
    · skip
      refine V0_aload_n (pc := 27) dX9_firstUnlike_27 rfl ?_
      refine V_getr (pc := 28) dX9_firstUnlike_28 flX9_19 rfl rfl ?_
      refine V0_iload_n (pc := 31) dX9_firstUnlike_31 rfl ?_
      refine V0_iload (pc := 32) dX9_firstUnlike_32 rfl ?_
      refine V_callV (pc := 34) (M' := mX5_cell) dX9_firstUnlike_34 mlX9_91 okX5_cell rfl (c_X5_cell hr2) rfl rfl rfl rfl ⟨Nat.le_of_ble_eq_true rfl, Nat.le_of_ble_eq_true rfl⟩ ⟨Nat.le_refl 0, Nat.le_refl 0⟩ (Nat.le_of_ble_eq_true rfl) ?_
      intro r1 I1 J1 hh
      obtain ⟨e1, e2, e3⟩ := hh
      rw [e1, e2, e3]
      clear e1 e2 e3 r1 I1 J1
      rw [ec]
      refine V0_lstore_5 (pc := 37) dX9_firstUnlike_37 (by decide) rfl ?_
      refine V0_lload (pc := 39) dX9_firstUnlike_39 rfl ?_
      refine V0_ldc2 (pc := 41) dX9_firstUnlike_41 csX9_95 ?_
      refine V0_lcmp (pc := 44) dX9_firstUnlike_44 ?_
      refine V0_if_eq (pc := 45) 74 dX9_firstUnlike_45 (by decide) (fun h45 => ?_) (fun h45 => ?_)
      · skip
        refine V0_aload_n (pc := 74) dX9_firstUnlike_74 rfl ?_
        refine V_getr (pc := 75) dX9_firstUnlike_75 flX9_28 rfl rfl ?_
        refine V_callV (pc := 78) (M' := mX2_pass) dX9_firstUnlike_78 mlX9_47 okX2_pass rfl (c_X2_pass cs43 ho.1 ho.2.1 ho.2.2.1 ho.2.2.2.1 ho.2.2.2.2.1) rfl rfl rfl rfl ⟨Nat.le_of_ble_eq_true rfl, Nat.le_of_ble_eq_true rfl⟩ ⟨Nat.le_refl 0, Nat.le_refl 0⟩ (Nat.le_of_ble_eq_true rfl) ?_
        intro r1 I1 J1 hh
        obtain ⟨e1, e2, e3⟩ := hh
        rw [e1, e2, e3]
        clear e1 e2 e3 r1 I1 J1
        refine V0_iinc_4 (pc := 81) (nI (j + 1)) dX9_firstUnlike_81 (by decide) rfl (nI_1 _) ?_
        refine V0_goto (pc := 84) 21 dX9_firstUnlike_84 (by decide) ?_
        have hq : t_bad I J x m n one j = false := by first | (simp [t_bad, h45]; done) | (simp [t_bad, h58, b2]; intro _; exact h68)
        exact ih (j + 1) (by omega) (fun i => by have := hQ i; rw [s_first, hq] at this; exact this) _ _
      · skip
        refine V0_lload (pc := 48) dX9_firstUnlike_48 rfl ?_
        refine V0_aload_n (pc := 50) dX9_firstUnlike_50 rfl ?_
        refine V_getr (pc := 51) dX9_firstUnlike_51 flX9_28 rfl rfl ?_
        refine V0_iload_n (pc := 54) dX9_firstUnlike_54 rfl ?_
        refine V_callVi (pc := 55) (M' := mX2_isGlad) dX9_firstUnlike_55 mlX9_97 okX2_isGlad rfl (c_X2_isGlad cs43 ho.2.2.1 ho.2.2.2.1 ho7) rfl rfl rfl rfl ⟨Nat.le_of_ble_eq_true rfl, Nat.le_of_ble_eq_true rfl⟩ ⟨Nat.le_refl 0, Nat.le_refl 0⟩ (Nat.le_of_ble_eq_true rfl) ?_
        refine V_ifeqb (pc := 58) 65 dX9_firstUnlike_58 (by decide) (fun h58 => ?_) (fun h58 => ?_)
        · skip
          refine V0_iconst (pc := 65) (0) dX9_firstUnlike_65 (by decide) ?_
          refine V0_i2l (pc := 66) dX9_firstUnlike_66 ?_
          refine V0_lcmp (pc := 67) dX9_firstUnlike_67 ?_
          refine V0_if_eq (pc := 68) 74 dX9_firstUnlike_68 (by decide) (fun h68 => ?_) (fun h68 => ?_)
          · skip
            refine V0_aload_n (pc := 74) dX9_firstUnlike_74 rfl ?_
            refine V_getr (pc := 75) dX9_firstUnlike_75 flX9_28 rfl rfl ?_
            refine V_callV (pc := 78) (M' := mX2_pass) dX9_firstUnlike_78 mlX9_47 okX2_pass rfl (c_X2_pass cs43 ho.1 ho.2.1 ho.2.2.1 ho.2.2.2.1 ho.2.2.2.2.1) rfl rfl rfl rfl ⟨Nat.le_of_ble_eq_true rfl, Nat.le_of_ble_eq_true rfl⟩ ⟨Nat.le_refl 0, Nat.le_refl 0⟩ (Nat.le_of_ble_eq_true rfl) ?_
            intro r1 I1 J1 hh
            obtain ⟨e1, e2, e3⟩ := hh
            rw [e1, e2, e3]
            clear e1 e2 e3 r1 I1 J1
            refine V0_iinc_4 (pc := 81) (nI (j + 1)) dX9_firstUnlike_81 (by decide) rfl (nI_1 _) ?_
            refine V0_goto (pc := 84) 21 dX9_firstUnlike_84 (by decide) ?_
            have hq : t_bad I J x m n one j = false := by first | (simp [t_bad, h45]; done) | (simp [t_bad, h58, b2]; intro _; exact h68)
            exact ih (j + 1) (by omega) (fun i => by have := hQ i; rw [s_first, hq] at this; exact this) _ _
          · skip
            refine V0_iload (pc := 71) dX9_firstUnlike_71 rfl ?_
            refine V_reti (pc := 73) _ dX9_firstUnlike_73 rfl ?_
            have hq := hQ j
            first | (rw [s_first, if_pos (by simp [t_bad, h45, h58, b2]; exact h68)] at hq; exact hq)
        · skip
          refine V0_iconst (pc := 61) (1) dX9_firstUnlike_61 (by decide) ?_
          refine V0_goto (pc := 62) 66 dX9_firstUnlike_62 (by decide) ?_
          refine V0_i2l (pc := 66) dX9_firstUnlike_66 ?_
          refine V0_lcmp (pc := 67) dX9_firstUnlike_67 ?_
          refine V0_if_eq (pc := 68) 74 dX9_firstUnlike_68 (by decide) (fun h68 => ?_) (fun h68 => ?_)
          · skip
            refine V0_aload_n (pc := 74) dX9_firstUnlike_74 rfl ?_
            refine V_getr (pc := 75) dX9_firstUnlike_75 flX9_28 rfl rfl ?_
            refine V_callV (pc := 78) (M' := mX2_pass) dX9_firstUnlike_78 mlX9_47 okX2_pass rfl (c_X2_pass cs43 ho.1 ho.2.1 ho.2.2.1 ho.2.2.2.1 ho.2.2.2.2.1) rfl rfl rfl rfl ⟨Nat.le_of_ble_eq_true rfl, Nat.le_of_ble_eq_true rfl⟩ ⟨Nat.le_refl 0, Nat.le_refl 0⟩ (Nat.le_of_ble_eq_true rfl) ?_
            intro r1 I1 J1 hh
            obtain ⟨e1, e2, e3⟩ := hh
            rw [e1, e2, e3]
            clear e1 e2 e3 r1 I1 J1
            refine V0_iinc_4 (pc := 81) (nI (j + 1)) dX9_firstUnlike_81 (by decide) rfl (nI_1 _) ?_
            refine V0_goto (pc := 84) 21 dX9_firstUnlike_84 (by decide) ?_
            have hq : t_bad I J x m n one j = false := by first | (simp [t_bad, h45]; done) | (simp [t_bad, h58, b2]; intro _; exact h68)
            exact ih (j + 1) (by omega) (fun i => by have := hQ i; rw [s_first, hq] at this; exact this) _ _
          · skip
            refine V0_iload (pc := 71) dX9_firstUnlike_71 rfl ?_
            refine V_reti (pc := 73) _ dX9_firstUnlike_73 rfl ?_
            have hq := hQ j
            first | (rw [s_first, if_pos (by simp [t_bad, h45, h58, b2]; exact h68)] at hq; exact hq)
theorem c_X9_firstUnlike {l : Launch} {I : px_I} {J : px_J} {m n one : Nat} {x : Int32} (hk : px_ok0 I m n) (ho7 : one < 7) (hr : px_rows I) : Ct l mX9_firstUnlike 4 [.ref 42, .int x, .int (nI one)] I J (fun r I' J' => r = some (.int (t_unl I J x m n one)) ∧ (∃ i, I' = g_days 43 m n (t_start I m n) i) ∧ J' = J) := by
  have el : g_lenOf (t_start I m n) x = g_lenOf I x := g_lenOf_congr (t_start_row (by omega)) (t_start_row (by omega))
  refine Ct.of plX9_firstUnlike (Nat.le_of_ble_eq_true rfl) [.ref 42, .int x, .int (nI one), .null, .null, .null, .null] rfl ?_
  refine V0_aload_n (pc := 0) dX9_firstUnlike_0 rfl ?_
  refine V_callV (pc := 1) (M' := mX9_startNow) dX9_firstUnlike_1 mlX9_44 okX9_startNow rfl (c_X9_startNow hk) rfl rfl rfl rfl ⟨Nat.le_of_ble_eq_true rfl, Nat.le_of_ble_eq_true rfl⟩ ⟨Nat.le_refl 0, Nat.le_refl 0⟩ (Nat.le_of_ble_eq_true rfl) ?_
  intro r1 I1 J1 hh
  obtain ⟨e1, e2, e3⟩ := hh
  rw [e1, e2, e3]
  clear e1 e2 e3 r1 I1 J1
  refine V0_aload_n (pc := 4) dX9_firstUnlike_4 rfl ?_
  refine V_getr (pc := 5) dX9_firstUnlike_5 flX9_19 rfl rfl ?_
  refine V0_iload_n (pc := 8) dX9_firstUnlike_8 rfl ?_
  refine V_callVi (pc := 9) (M' := mX5_lengthOf) dX9_firstUnlike_9 mlX9_79 okX5_lengthOf rfl c_X5_lengthOf rfl rfl rfl rfl ⟨Nat.le_of_ble_eq_true rfl, Nat.le_of_ble_eq_true rfl⟩ ⟨Nat.le_refl 0, Nat.le_refl 0⟩ (Nat.le_of_ble_eq_true rfl) ?_
  refine V0_bipush (pc := 12) (41) dX9_firstUnlike_12 (by decide) ?_
  refine V0_min (pc := 14) dX9_firstUnlike_14 mlX9_85 js_min ji_Math jc_min (Nat.le_of_ble_eq_true rfl) (Nat.le_of_ble_eq_true rfl) ?_
  rw [el, t_lim_eq hr]
  refine V0_istore_3 (pc := 17) dX9_firstUnlike_17 (by decide) rfl ?_
  refine V0_iconst (pc := 18) (0) dX9_firstUnlike_18 (by decide) ?_
  refine V0_istore_4 (pc := 19) dX9_firstUnlike_19 (by decide) rfl ?_
  exact lp_X9_firstUnlike hk ho7 hr (t_lim I x) 0 (by omega) (fun i => ⟨rfl, ⟨i, rfl⟩, rfl⟩) _ _
theorem t_unl_congr {I X : px_I} {J : px_J} {m n one : Nat} {x : Int32} (hk : px_ok0 I m n) (ho : one < m) (h : px_sc I X) : t_unl I J x m n one = t_unl X J x m n one := by
  have h0 := h 20 (by omega)
  have h1 := h 21 (by omega)
  have e : t_bad I J x m n one = t_bad X J x m n one := by
    funext j
    unfold t_bad
    rw [g_cell_congr h0 h1, R_glad (R_days (R_start2 h.R) (by omega) (by omega) (ok_start hk).2.2.2.2.2 j) ho]
  unfold t_unl
  rw [e]
  have e2 : t_lim I x = t_lim X x := by unfold t_lim; rw [g_lenOf_congr h0 h1]
  rw [e2]
def t_fit (I : px_I) (J : px_J) (x : Int32) (m n one q0 jy v : Nat) : Bool := decide (t_unl (px_up I q0 jy (nI v)) J x m n one = -2)
def t_fits (I : px_I) (J : px_J) (x : Int32) (m n one q0 jy : Nat) : Nat → Int32 × Int32
  | 0 => (0, -2)
  | v + 1 => if t_fit I J x m n one q0 jy v = true then ((t_fits I J x m n one q0 jy v).1 + 1, if (t_fits I J x m n one q0 jy v).1 = 0 then nI v else (t_fits I J x m n one q0 jy v).2) else t_fits I J x m n one q0 jy v
theorem lp_X9_seekFits {l : Launch} {I : px_I} {J : px_J} {m n one jy L q0 : Nat} {x : Int32} {Q : px_Q} (hk : px_ok0 I m n) (hom : one < m) (hr : px_rows I) (hjy : jy < 10) (hL : L ≤ 99) (hq0 : px_sh[q0]? = some (.inl (0, 10))) (hq : 2 < q0 ∧ q0 < 8) (hQ : ∀ I', px_sc I I' → I' 42 4 = (t_fits I J x m n one q0 jy (L + 1)).1 → I' 42 5 = (t_fits I J x m n one q0 jy (L + 1)).2 → Q none I' J) : ∀ (f j : Nat), L + 2 - j ≤ f → j ≤ L + 1 → ∀ X : px_I, px_sd q0 jy I X → X 42 4 = (t_fits I J x m n one q0 jy j).1 → X 42 5 = (t_fits I J x m n one q0 jy j).2 → V0 l (px_rm 5 0 0) mX9_seekFits (false, []) 0 0 32 [.ref 42, .int x, .int (nI one), .int (nI jy), .ref q0, .int (nI L), .int (I q0 jy), .int (nI j)] [] (px_mk X J) (px_q Q) := by
  have ho7 : one < 7 := by have := hk.2.1; omega
  intro f
  induction f with
  | zero => intro j h1 h2; omega
  | succ f ih =>
    intro j h1 h2 X hsd hx4 hx5
    have hkX : px_ok0 (px_up X q0 jy (nI j)) m n := ok_up (hk.sd hsd hq.1) hq.1
    have hsu := hsd.up (v := nI j)
    have hrX : px_rows (px_up X q0 jy (nI j)) := by
      refine hr.of ?_ ?_
      · rw [← hsu 20 (by omega), px_up_row (by omega)]
      · rw [← hsu 21 (by omega), px_up_row (by omega)]
    have hu : t_unl (px_up I q0 jy (nI j)) J x m n one = t_unl (px_up X q0 jy (nI j)) J x m n one := t_unl_congr (ok_up hk hq.1) hom hsu
    have hXr : ∀ c i, g_days 43 m n (t_start (px_up X q0 jy (nI j)) m n) i 42 c = X 42 c := fun c i => by
      rw [g_days_row (by omega) (by omega) (by omega) (by omega), t_start_row (by omega), px_up_row (by omega)]
    have hdn : ∀ i, px_sc (px_up I q0 jy (nI j)) (g_days 43 m n (t_start (px_up X q0 jy (nI j)) m n) i) := fun i => px_sc.days hsu.start
    refine V0_iload (pc := 32) dX9_seekFits_32 rfl ?_
    refine V0_iload (pc := 34) dX9_seekFits_34 rfl ?_
    refine V0_icmp_gt (pc := 36) 88 dX9_seekFits_36 (by decide) (fun h36 => ?_) (fun h36 => ?_)
    · skip
      have hj : j = L + 1 := by
        have := px_lt h36 (by omega) (by omega)
        omega
      subst hj
      refine V0_aload (pc := 88) dX9_seekFits_88 rfl ?_
      refine V0_iload_n (pc := 90) dX9_seekFits_90 rfl ?_
      refine V0_iload (pc := 91) dX9_seekFits_91 rfl ?_
      refine V_iast (pc := 93) (jy) dX9_seekFits_93 hq0 rfl (by omega) ?_
      refine V_retv (pc := 94) dX9_seekFits_94 rfl ?_
      exact hQ _ hsd.back (by rw [px_up_row (by omega)]; exact hx4) (by rw [px_up_row (by omega)]; exact hx5)
    · skip
      have hj : j ≤ L := px_ge h36 (by omega) (by omega)
      refine V0_aload (pc := 39) dX9_seekFits_39 rfl ?_
      refine V0_iload_n (pc := 41) dX9_seekFits_41 rfl ?_
      refine V0_iload (pc := 42) dX9_seekFits_42 rfl ?_
      refine V_iast (pc := 44) (jy) dX9_seekFits_44 hq0 rfl (by omega) ?_
      refine V0_aload_n (pc := 45) dX9_seekFits_45 rfl ?_
      refine V0_iload_n (pc := 46) dX9_seekFits_46 rfl ?_
      refine V0_iload_n (pc := 47) dX9_seekFits_47 rfl ?_
      refine V_callV (pc := 48) (M' := mX9_firstUnlike) dX9_seekFits_48 mlX9_100 okX9_firstUnlike rfl (c_X9_firstUnlike hkX ho7 hrX) rfl rfl rfl rfl ⟨Nat.le_of_ble_eq_true rfl, Nat.le_of_ble_eq_true rfl⟩ ⟨Nat.le_refl 0, Nat.le_refl 0⟩ (Nat.le_of_ble_eq_true rfl) ?_
      intro r1 I1 J1 hh
      obtain ⟨e1, ⟨i1, e2⟩, e3⟩ := hh
      rw [e1, e2, e3]
      clear e1 e2 e3 r1 I1 J1
      rw [← hu]
      refine V0_bipush (pc := 51) (-2) dX9_seekFits_51 (by decide) ?_
      refine V0_icmp_eq (pc := 53) 59 dX9_seekFits_53 (by decide) (fun h53 => ?_) (fun h53 => ?_)
      · skip
        refine V0_aload_n (pc := 59) dX9_seekFits_59 rfl ?_
        refine V_geti (pc := 60) dX9_seekFits_60 flX9_70 rfl rfl ?_
        refine V0_if_ne (pc := 63) 72 dX9_seekFits_63 (by decide) (fun h63 => ?_) (fun h63 => ?_)
        · skip
          refine V0_aload_n (pc := 72) dX9_seekFits_72 rfl ?_
          refine V0_dup (pc := 73) dX9_seekFits_73 rfl ?_
          refine V_geti (pc := 74) dX9_seekFits_74 flX9_70 rfl rfl ?_
          refine V0_iconst (pc := 77) (1) dX9_seekFits_77 (by decide) ?_
          refine V0_iadd (pc := 78) dX9_seekFits_78 ?_
          refine V_puti (pc := 79) dX9_seekFits_79 flX9_70 rfl rfl ?_
          refine V0_iinc_7 (pc := 82) (nI (j + 1)) dX9_seekFits_82 (by decide) rfl (nI_1 _) ?_
          refine V0_goto (pc := 85) 32 dX9_seekFits_85 (by decide) ?_
          have hb : t_fits I J x m n one q0 jy (j + 1) = if t_fit I J x m n one q0 jy j = true then ((t_fits I J x m n one q0 jy j).1 + 1, if (t_fits I J x m n one q0 jy j).1 = 0 then nI j else (t_fits I J x m n one q0 jy j).2) else t_fits I J x m n one q0 jy j := rfl
          first | (rw [if_neg (by simp [t_fit, h53])] at hb; exact ih (j + 1) (by omega) (by omega) _ (hdn _).sd (by rw [hb, hXr]; exact hx4) (by rw [hb, hXr]; exact hx5)) | (rw [if_pos (by simp [t_fit, h53])] at hb; rw [hXr, hx4] at h63; exact ih (j + 1) (by omega) (by omega) _ (((hdn _).sd.up2 (by omega) (by omega)).up2 (by omega) (by omega)) (by rw [hb]; simp [px_up_at, hXr, hx4]) (by rw [hb]; simp [px_up_at, h63])) | (rw [if_pos (by simp [t_fit, h53])] at hb; rw [hXr, hx4] at h63; exact ih (j + 1) (by omega) (by omega) _ ((hdn _).sd.up2 (by omega) (by omega)) (by rw [hb]; simp [px_up_at, hXr, hx4]) (by rw [hb]; simp [px_up_at, h63, hXr, hx5]))
        · skip
          refine V0_aload_n (pc := 66) dX9_seekFits_66 rfl ?_
          refine V0_iload (pc := 67) dX9_seekFits_67 rfl ?_
          refine V_puti (pc := 69) dX9_seekFits_69 flX9_73 rfl rfl ?_
          refine V0_aload_n (pc := 72) dX9_seekFits_72 rfl ?_
          refine V0_dup (pc := 73) dX9_seekFits_73 rfl ?_
          refine V_geti (pc := 74) dX9_seekFits_74 flX9_70 rfl rfl ?_
          refine V0_iconst (pc := 77) (1) dX9_seekFits_77 (by decide) ?_
          refine V0_iadd (pc := 78) dX9_seekFits_78 ?_
          refine V_puti (pc := 79) dX9_seekFits_79 flX9_70 rfl rfl ?_
          refine V0_iinc_7 (pc := 82) (nI (j + 1)) dX9_seekFits_82 (by decide) rfl (nI_1 _) ?_
          refine V0_goto (pc := 85) 32 dX9_seekFits_85 (by decide) ?_
          have hb : t_fits I J x m n one q0 jy (j + 1) = if t_fit I J x m n one q0 jy j = true then ((t_fits I J x m n one q0 jy j).1 + 1, if (t_fits I J x m n one q0 jy j).1 = 0 then nI j else (t_fits I J x m n one q0 jy j).2) else t_fits I J x m n one q0 jy j := rfl
          first | (rw [if_neg (by simp [t_fit, h53])] at hb; exact ih (j + 1) (by omega) (by omega) _ (hdn _).sd (by rw [hb, hXr]; exact hx4) (by rw [hb, hXr]; exact hx5)) | (rw [if_pos (by simp [t_fit, h53])] at hb; rw [hXr, hx4] at h63; exact ih (j + 1) (by omega) (by omega) _ (((hdn _).sd.up2 (by omega) (by omega)).up2 (by omega) (by omega)) (by rw [hb]; simp [px_up_at, hXr, hx4]) (by rw [hb]; simp [px_up_at, h63])) | (rw [if_pos (by simp [t_fit, h53])] at hb; rw [hXr, hx4] at h63; exact ih (j + 1) (by omega) (by omega) _ ((hdn _).sd.up2 (by omega) (by omega)) (by rw [hb]; simp [px_up_at, hXr, hx4]) (by rw [hb]; simp [px_up_at, h63, hXr, hx5]))
      · skip
        refine V0_goto (pc := 56) 82 dX9_seekFits_56 (by decide) ?_
        refine V0_iinc_7 (pc := 82) (nI (j + 1)) dX9_seekFits_82 (by decide) rfl (nI_1 _) ?_
        refine V0_goto (pc := 85) 32 dX9_seekFits_85 (by decide) ?_
        have hb : t_fits I J x m n one q0 jy (j + 1) = if t_fit I J x m n one q0 jy j = true then ((t_fits I J x m n one q0 jy j).1 + 1, if (t_fits I J x m n one q0 jy j).1 = 0 then nI j else (t_fits I J x m n one q0 jy j).2) else t_fits I J x m n one q0 jy j := rfl
        first | (rw [if_neg (by simp [t_fit, h53])] at hb; exact ih (j + 1) (by omega) (by omega) _ (hdn _).sd (by rw [hb, hXr]; exact hx4) (by rw [hb, hXr]; exact hx5)) | (rw [if_pos (by simp [t_fit, h53])] at hb; rw [hXr, hx4] at h63; exact ih (j + 1) (by omega) (by omega) _ (((hdn _).sd.up2 (by omega) (by omega)).up2 (by omega) (by omega)) (by rw [hb]; simp [px_up_at, hXr, hx4]) (by rw [hb]; simp [px_up_at, h63])) | (rw [if_pos (by simp [t_fit, h53])] at hb; rw [hXr, hx4] at h63; exact ih (j + 1) (by omega) (by omega) _ ((hdn _).sd.up2 (by omega) (by omega)) (by rw [hb]; simp [px_up_at, hXr, hx4]) (by rw [hb]; simp [px_up_at, h63, hXr, hx5]))
theorem c_X9_seekFits {l : Launch} {I : px_I} {J : px_J} {m n one jy L q0 : Nat} {x : Int32} (hk : px_ok0 I m n) (hom : one < m) (hr : px_rows I) (hjy : jy < 10) (hL : L ≤ 99) (hq0 : px_sh[q0]? = some (.inl (0, 10))) (hq : 2 < q0 ∧ q0 < 8) : Ct l mX9_seekFits 5 [.ref 42, .int x, .int (nI one), .int (nI jy), .ref q0, .int (nI L)] I J (px_found I (t_fits I J x m n one q0 jy (L + 1)) J) := by
  have e1 : ∀ X : px_I, X = px_up (px_up I 42 4 0) 42 5 (-2) → X q0 jy = I q0 jy := fun X e => by rw [e, px_up_row (by omega), px_up_row (by omega)]
  refine Ct.of plX9_seekFits (Nat.le_of_ble_eq_true rfl) [.ref 42, .int x, .int (nI one), .int (nI jy), .ref q0, .int (nI L), .null, .null] rfl ?_
  refine V0_aload_n (pc := 0) dX9_seekFits_0 rfl ?_
  refine V0_iconst (pc := 1) (0) dX9_seekFits_1 (by decide) ?_
  refine V_puti (pc := 2) dX9_seekFits_2 flX9_70 rfl rfl ?_
  refine V0_aload_n (pc := 5) dX9_seekFits_5 rfl ?_
  refine V0_bipush (pc := 6) (-2) dX9_seekFits_6 (by decide) ?_
  refine V_puti (pc := 8) dX9_seekFits_8 flX9_73 rfl rfl ?_
  refine V0_iload_n (pc := 11) dX9_seekFits_11 rfl ?_
  refine V0_if_lt (pc := 12) 22 dX9_seekFits_12 (by decide) (fun h12 => ?_) (fun h12 => ?_)
  · skip
    exact absurd h12 (nI_nn (by omega))
  · skip
    refine V0_iload_n (pc := 15) dX9_seekFits_15 rfl ?_
    refine V0_aload (pc := 16) dX9_seekFits_16 rfl ?_
    refine V_alen (pc := 18) (10) dX9_seekFits_18 hq0 (by decide) (by decide) ?_
    refine V0_icmp_lt (pc := 19) 23 dX9_seekFits_19 (by decide) (fun h19 => ?_) (fun h19 => ?_)
    · skip
      refine V0_aload (pc := 23) dX9_seekFits_23 rfl ?_
      refine V0_iload_n (pc := 25) dX9_seekFits_25 rfl ?_
      refine V_iald (pc := 26) (jy) dX9_seekFits_26 hq0 rfl (by omega) ?_
      rw [e1 _ rfl]
      refine V0_istore_6 (pc := 27) dX9_seekFits_27 (by decide) rfl ?_
      refine V0_iconst (pc := 29) (0) dX9_seekFits_29 (by decide) ?_
      refine V0_istore_7 (pc := 30) dX9_seekFits_30 (by decide) rfl ?_
      exact lp_X9_seekFits hk hom hr hjy hL hq0 hq (fun I1 a b c => ⟨rfl, a, b, c, rfl⟩) (L + 2) 0 (by omega) (by omega) _ ((px_sd.rf.up2 (by omega) (by omega)).up2 (by omega) (by omega)) (by simp [px_up_at, t_fits]) (by simp [px_up_at, t_fits])
    · skip
      exact absurd ((qI_lt (a := jy) (b := 10) (by omega) (by omega)).mpr hjy) h19

