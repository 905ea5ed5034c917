/-! shelves -/
def s_shelf (x : Int32) : Bool := !decide (x < 0) && decide (x < 6)
theorem s_shelf_ix {x : Int32} (h : s_shelf x = true) : x = nI (ix x) ∧ ix x < 6 := by
  simp only [s_shelf, Bool.and_eq_true, Bool.not_eq_true', decide_eq_false_iff_not, decide_eq_true_eq] at h
  exact ⟨nI_ix h.1, ix_lt (n := 6) h.1 (by omega) h.2⟩
def g_empty (I : px_I) (x : Int32) : Bool := !s_shelf x || decide (I 20 (ix x) = 6)
def g_row (I : px_I) (x : Int32) : Bool := s_shelf x && decide (I 20 (ix x) < 5)
def g_body (I : px_I) (x : Int32) : Int32 := if s_shelf x = true ∧ I 20 (ix x) = 5 then I 21 (ix x) else -1
def g_lenOf (I : px_I) (x : Int32) : Int32 := if g_row I x = true then I 21 (ix x) else 0
def g_hasRun (I : px_I) (x i n : Int32) : Bool := !decide (i < 0) && !decide (n < 0) && !decide (g_lenOf I x - n < i)
/-- a row's length is told between 0 and 60 -/
def px_rows (I : px_I) : Prop := ∀ s, s < 6 → I 20 s < 5 → ∃ n, n ≤ 60 ∧ I 21 s = nI n
theorem g_row_ix {I : px_I} {x : Int32} (h : g_row I x = true) : x = nI (ix x) ∧ ix x < 6 ∧ I 20 (ix x) < 5 := by
  simp only [g_row, Bool.and_eq_true, decide_eq_true_eq] at h
  exact ⟨(s_shelf_ix h.1).1, (s_shelf_ix h.1).2, h.2⟩
theorem qI_sub {a b : Nat} (h : b ≤ a) : nI a - nI b = nI (a - b) := by
  have e : nI a = nI (a - b) + nI b := by rw [qI_add]; congr 1; omega
  rw [e]
  apply Int32.toBitVec_inj.mp
  simp
theorem sub_toInt {a b : Nat} (ha : a < 2 ^ 30) (hb : b < 2 ^ 30) : (nI a - nI b).toInt = (a : Int) - (b : Int) := by
  rw [Int32.toInt_sub, nI_toInt (by omega), nI_toInt (by omega)]
  rw [Int.bmod_eq_of_le] <;> omega
/-- what a run in a row says of its places -/
theorem g_run_ix {I : px_I} {x i n : Int32} (hr : px_rows I) (h : g_row I x = true) (hh : g_hasRun I x i n = true) : i = nI (ix i) ∧ n = nI (ix n) ∧ ix i + ix n ≤ 60 := by
  obtain ⟨-, h6, h5⟩ := g_row_ix h
  obtain ⟨m, hm, em⟩ := hr _ h6 h5
  simp only [g_hasRun, g_lenOf, h, if_true, Bool.and_eq_true, Bool.not_eq_true', decide_eq_false_iff_not] at hh
  obtain ⟨⟨h1, h2⟩, h3⟩ := hh
  refine ⟨nI_ix h1, nI_ix h2, ?_⟩
  rw [em] at h3
  rw [nI_ix h2, nI_ix h1, px_nlt, Int32.le_iff_toInt_le] at h3
  have bi : ix i < 2 ^ 31 := by have := Int32.toInt_lt i; show i.toInt.toNat < _; omega
  have bn : ix n < 2 ^ 31 := by have := Int32.toInt_lt n; show n.toInt.toNat < _; omega
  rw [nI_toInt bi, Int32.toInt_sub, nI_toInt (by omega), nI_toInt bn] at h3
  rw [Int.bmod_eq_of_le (by omega) (by omega)] at h3
  omega
theorem c_X5_isShelf {l : Launch} {I : px_I} {J : px_J} {x : Int32} : CtI l mX5_isShelf 0 [.int x] I J (b2 (s_shelf x)) := by
  refine Ct.of plX5_isShelf (Nat.le_of_ble_eq_true rfl) [.int x] rfl ?_
  refine V0_iload_n (pc := 0) dX5_isShelf_0 rfl ?_
  refine V0_if_lt (pc := 1) 14 dX5_isShelf_1 (by decide) (fun h1 => ?_) (fun h1 => ?_)
  · skip
    refine V0_iconst (pc := 14) (0) dX5_isShelf_14 (by decide) ?_
    refine V_retz (pc := 15) _ dX5_isShelf_15 rfl (Or.inl rfl) ?_
    refine px_li ?_
    simp [s_shelf, b2, *]
  · skip
    refine V0_iload_n (pc := 4) dX5_isShelf_4 rfl ?_
    refine V0_bipush (pc := 5) (6) dX5_isShelf_5 (by decide) ?_
    refine V1_icmp_ge (pc := 7) 14 dX5_isShelf_7 (by decide) (fun h7 => ?_) (fun h7 => ?_)
    · skip
      refine V0_iconst (pc := 14) (0) dX5_isShelf_14 (by decide) ?_
      refine V_retz (pc := 15) _ dX5_isShelf_15 rfl (Or.inl rfl) ?_
      refine px_li ?_
      simp [s_shelf, b2, *]
    · skip
      refine V0_iconst (pc := 10) (1) dX5_isShelf_10 (by decide) ?_
      refine V0_goto (pc := 11) 15 dX5_isShelf_11 (by decide) ?_
      refine V_retz (pc := 15) _ dX5_isShelf_15 rfl (Or.inr rfl) ?_
      refine px_li ?_
      simp [s_shelf, b2, *]
theorem c_X5_isEmpty {l : Launch} {I : px_I} {J : px_J} {x : Int32} : CtI l mX5_isEmpty 1 [.ref 19, .int x] I J (b2 (g_empty I x)) := by
  refine Ct.of plX5_isEmpty (Nat.le_of_ble_eq_true rfl) [.ref 19, .int x] rfl ?_
  refine V0_iload_n (pc := 0) dX5_isEmpty_0 rfl ?_
  refine V_callSi (pc := 1) (M' := mX5_isShelf) dX5_isEmpty_1 mlX5_22 okX5_isShelf rfl c_X5_isShelf rfl rfl ⟨Nat.le_of_ble_eq_true rfl, Nat.le_of_ble_eq_true rfl⟩ ⟨Nat.le_refl 0, Nat.le_refl 0⟩ (Nat.le_of_ble_eq_true rfl) ?_
  refine V_ifeqb (pc := 4) 18 dX5_isEmpty_4 (by decide) (fun h4 => ?_) (fun h4 => ?_)
  · skip
    refine V0_iconst (pc := 18) (1) dX5_isEmpty_18 (by decide) ?_
    refine V0_goto (pc := 19) 23 dX5_isEmpty_19 (by decide) ?_
    refine V_retz (pc := 23) _ dX5_isEmpty_23 rfl (Or.inr rfl) ?_
    refine px_li ?_
    simp [g_empty, b2, *]
  · skip
    refine V0_aload_n (pc := 7) dX5_isEmpty_7 rfl ?_
    refine V_getr (pc := 8) dX5_isEmpty_8 flX5_11 rfl rfl ?_
    refine V0_iload_n (pc := 11) dX5_isEmpty_11 rfl ?_
    refine V_iald (pc := 12) (ix x) dX5_isEmpty_12 rfl (s_shelf_ix h4).1 (s_shelf_ix h4).2 ?_
    refine V0_bipush (pc := 13) (6) dX5_isEmpty_13 (by decide) ?_
    refine V0_icmp_ne (pc := 15) 22 dX5_isEmpty_15 (by decide) (fun h15 => ?_) (fun h15 => ?_)
    · skip
      refine V0_iconst (pc := 22) (0) dX5_isEmpty_22 (by decide) ?_
      refine V_retz (pc := 23) _ dX5_isEmpty_23 rfl (Or.inl rfl) ?_
      refine px_li ?_
      simp [g_empty, b2, *]
    · skip
      refine V0_iconst (pc := 18) (1) dX5_isEmpty_18 (by decide) ?_
      refine V0_goto (pc := 19) 23 dX5_isEmpty_19 (by decide) ?_
      refine V_retz (pc := 23) _ dX5_isEmpty_23 rfl (Or.inr rfl) ?_
      refine px_li ?_
      simp [g_empty, b2, *]
theorem c_X5_isRow {l : Launch} {I : px_I} {J : px_J} {x : Int32} : CtI l mX5_isRow 0 [.ref 19, .int x] I J (b2 (g_row I x)) := by
  refine Ct.of plX5_isRow (Nat.le_of_ble_eq_true rfl) [.ref 19, .int x] rfl ?_
  refine V0_iload_n (pc := 0) dX5_isRow_0 rfl ?_
  refine V0_if_lt (pc := 1) 24 dX5_isRow_1 (by decide) (fun h1 => ?_) (fun h1 => ?_)
  · skip
    refine V0_iconst (pc := 24) (0) dX5_isRow_24 (by decide) ?_
    refine V_retz (pc := 25) _ dX5_isRow_25 rfl (Or.inl rfl) ?_
    refine px_li ?_
    simp [g_row, s_shelf, b2, *]
  · skip
    refine V0_iload_n (pc := 4) dX5_isRow_4 rfl ?_
    refine V0_bipush (pc := 5) (6) dX5_isRow_5 (by decide) ?_
    refine V1_icmp_ge (pc := 7) 24 dX5_isRow_7 (by decide) (fun h7 => ?_) (fun h7 => ?_)
    · skip
      refine V0_iconst (pc := 24) (0) dX5_isRow_24 (by decide) ?_
      refine V_retz (pc := 25) _ dX5_isRow_25 rfl (Or.inl rfl) ?_
      refine px_li ?_
      simp [g_row, s_shelf, b2, *]
    · skip
      refine V0_aload_n (pc := 10) dX5_isRow_10 rfl ?_
      refine V_getr (pc := 11) dX5_isRow_11 flX5_11 rfl rfl ?_
      refine V0_iload_n (pc := 14) dX5_isRow_14 rfl ?_
      refine V_iald (pc := 15) (ix x) dX5_isRow_15 rfl (nI_ix h1) (ix_lt (n := 6) h1 (by omega) h7) ?_
      refine V0_iconst (pc := 16) (5) dX5_isRow_16 (by decide) ?_
      refine V1_icmp_ge (pc := 17) 24 dX5_isRow_17 (by decide) (fun h17 => ?_) (fun h17 => ?_)
      · skip
        refine V0_iconst (pc := 24) (0) dX5_isRow_24 (by decide) ?_
        refine V_retz (pc := 25) _ dX5_isRow_25 rfl (Or.inl rfl) ?_
        refine px_li ?_
        simp [g_row, s_shelf, b2, *]
      · skip
        refine V0_iconst (pc := 20) (1) dX5_isRow_20 (by decide) ?_
        refine V0_goto (pc := 21) 25 dX5_isRow_21 (by decide) ?_
        refine V_retz (pc := 25) _ dX5_isRow_25 rfl (Or.inr rfl) ?_
        refine px_li ?_
        simp [g_row, s_shelf, b2, *]
theorem c_X5_bodyOn {l : Launch} {I : px_I} {J : px_J} {x : Int32} : CtI l mX5_bodyOn 1 [.ref 19, .int x] I J (g_body I x) := by
  refine Ct.of plX5_bodyOn (Nat.le_of_ble_eq_true rfl) [.ref 19, .int x] rfl ?_
  refine V0_iload_n (pc := 0) dX5_bodyOn_0 rfl ?_
  refine V_callSi (pc := 1) (M' := mX5_isShelf) dX5_bodyOn_1 mlX5_22 okX5_isShelf rfl c_X5_isShelf rfl rfl ⟨Nat.le_of_ble_eq_true rfl, Nat.le_of_ble_eq_true rfl⟩ ⟨Nat.le_refl 0, Nat.le_refl 0⟩ (Nat.le_of_ble_eq_true rfl) ?_
  refine V_ifeqb (pc := 4) 26 dX5_bodyOn_4 (by decide) (fun h4 => ?_) (fun h4 => ?_)
  · skip
    refine V0_iconst (pc := 26) (-1) dX5_bodyOn_26 (by decide) ?_
    refine V_reti (pc := 27) _ dX5_bodyOn_27 rfl ?_
    refine px_li ?_
    simp [g_body, *]
  · skip
    refine V0_aload_n (pc := 7) dX5_bodyOn_7 rfl ?_
    refine V_getr (pc := 8) dX5_bodyOn_8 flX5_11 rfl rfl ?_
    refine V0_iload_n (pc := 11) dX5_bodyOn_11 rfl ?_
    refine V_iald (pc := 12) (ix x) dX5_bodyOn_12 rfl (s_shelf_ix h4).1 (s_shelf_ix h4).2 ?_
    refine V0_iconst (pc := 13) (5) dX5_bodyOn_13 (by decide) ?_
    refine V0_icmp_ne (pc := 14) 26 dX5_bodyOn_14 (by decide) (fun h14 => ?_) (fun h14 => ?_)
    · skip
      refine V0_iconst (pc := 26) (-1) dX5_bodyOn_26 (by decide) ?_
      refine V_reti (pc := 27) _ dX5_bodyOn_27 rfl ?_
      refine px_li ?_
      simp [g_body, *]
    · skip
      refine V0_aload_n (pc := 17) dX5_bodyOn_17 rfl ?_
      refine V_getr (pc := 18) dX5_bodyOn_18 flX5_15 rfl rfl ?_
      refine V0_iload_n (pc := 21) dX5_bodyOn_21 rfl ?_
      refine V_iald (pc := 22) (ix x) dX5_bodyOn_22 rfl (s_shelf_ix h4).1 (s_shelf_ix h4).2 ?_
      refine V0_goto (pc := 23) 27 dX5_bodyOn_23 (by decide) ?_
      refine V_reti (pc := 27) _ dX5_bodyOn_27 rfl ?_
      refine px_li ?_
      simp [g_body, *]
theorem c_X5_lengthOf {l : Launch} {I : px_I} {J : px_J} {x : Int32} : CtI l mX5_lengthOf 1 [.ref 19, .int x] I J (g_lenOf I x) := by
  refine Ct.of plX5_lengthOf (Nat.le_of_ble_eq_true rfl) [.ref 19, .int x] rfl ?_
  refine V0_aload_n (pc := 0) dX5_lengthOf_0 rfl ?_
  refine V0_iload_n (pc := 1) dX5_lengthOf_1 rfl ?_
  refine V_callVi (pc := 2) (M' := mX5_isRow) dX5_lengthOf_2 mlX5_26 okX5_isRow rfl c_X5_isRow rfl rfl rfl rfl ⟨Nat.le_of_ble_eq_true rfl, Nat.le_of_ble_eq_true rfl⟩ ⟨Nat.le_refl 0, Nat.le_refl 0⟩ (Nat.le_of_ble_eq_true rfl) ?_
  refine V_ifeqb (pc := 5) 17 dX5_lengthOf_5 (by decide) (fun h5 => ?_) (fun h5 => ?_)
  · skip
    refine V0_iconst (pc := 17) (0) dX5_lengthOf_17 (by decide) ?_
    refine V_reti (pc := 18) _ dX5_lengthOf_18 rfl ?_
    refine px_li ?_
    simp [g_lenOf, *]
  · skip
    refine V0_aload_n (pc := 8) dX5_lengthOf_8 rfl ?_
    refine V_getr (pc := 9) dX5_lengthOf_9 flX5_15 rfl rfl ?_
    refine V0_iload_n (pc := 12) dX5_lengthOf_12 rfl ?_
    refine V_iald (pc := 13) (ix x) dX5_lengthOf_13 rfl (g_row_ix h5).1 (g_row_ix h5).2.1 ?_
    refine V0_goto (pc := 14) 18 dX5_lengthOf_14 (by decide) ?_
    refine V_reti (pc := 18) _ dX5_lengthOf_18 rfl ?_
    refine px_li ?_
    simp [g_lenOf, *]
theorem c_X5_empty {l : Launch} {I : px_I} {J : px_J} {x : Int32} : Ct l mX5_empty 1 [.ref 19, .int x] I J (px_qs (if s_shelf x = true then px_up I 20 (ix x) 6 else I) J) := by
  refine Ct.of plX5_empty (Nat.le_of_ble_eq_true rfl) [.ref 19, .int x] rfl ?_
  refine V0_iload_n (pc := 0) dX5_empty_0 rfl ?_
  refine V_callSi (pc := 1) (M' := mX5_isShelf) dX5_empty_1 mlX5_22 okX5_isShelf rfl c_X5_isShelf rfl rfl ⟨Nat.le_of_ble_eq_true rfl, Nat.le_of_ble_eq_true rfl⟩ ⟨Nat.le_refl 0, Nat.le_refl 0⟩ (Nat.le_of_ble_eq_true rfl) ?_
  refine V_ifeqb (pc := 4) 15 dX5_empty_4 (by decide) (fun h4 => ?_) (fun h4 => ?_)
  · skip
    refine V_retv (pc := 15) dX5_empty_15 rfl ?_
    exact ⟨rfl, by simp [h4], rfl⟩
  · skip
    refine V0_aload_n (pc := 7) dX5_empty_7 rfl ?_
    refine V_getr (pc := 8) dX5_empty_8 flX5_11 rfl rfl ?_
    refine V0_iload_n (pc := 11) dX5_empty_11 rfl ?_
    refine V0_bipush (pc := 12) (6) dX5_empty_12 (by decide) ?_
    refine V_iast (pc := 14) (ix x) dX5_empty_14 rfl (s_shelf_ix h4).1 (s_shelf_ix h4).2 ?_
    refine V_retv (pc := 15) dX5_empty_15 rfl ?_
    exact ⟨rfl, by simp [h4], rfl⟩
theorem c_X5_layBody {l : Launch} {I : px_I} {J : px_J} {x b : Int32} : Ct l mX5_layBody 1 [.ref 19, .int x, .int b] I J (px_qs (if s_shelf x = true then px_up (px_up I 20 (ix x) 5) 21 (ix x) b else I) J) := by
  refine Ct.of plX5_layBody (Nat.le_of_ble_eq_true rfl) [.ref 19, .int x, .int b] rfl ?_
  refine V0_iload_n (pc := 0) dX5_layBody_0 rfl ?_
  refine V_callSi (pc := 1) (M' := mX5_isShelf) dX5_layBody_1 mlX5_22 okX5_isShelf rfl c_X5_isShelf rfl rfl ⟨Nat.le_of_ble_eq_true rfl, Nat.le_of_ble_eq_true rfl⟩ ⟨Nat.le_refl 0, Nat.le_refl 0⟩ (Nat.le_of_ble_eq_true rfl) ?_
  refine V_ifneb (pc := 4) 8 dX5_layBody_4 (by decide) (fun h4 => ?_) (fun h4 => ?_)
  · skip
    refine V0_aload_n (pc := 8) dX5_layBody_8 rfl ?_
    refine V_getr (pc := 9) dX5_layBody_9 flX5_11 rfl rfl ?_
    refine V0_iload_n (pc := 12) dX5_layBody_12 rfl ?_
    refine V0_iconst (pc := 13) (5) dX5_layBody_13 (by decide) ?_
    refine V_iast (pc := 14) (ix x) dX5_layBody_14 rfl (s_shelf_ix h4).1 (s_shelf_ix h4).2 ?_
    refine V0_aload_n (pc := 15) dX5_layBody_15 rfl ?_
    refine V_getr (pc := 16) dX5_layBody_16 flX5_15 rfl rfl ?_
    refine V0_iload_n (pc := 19) dX5_layBody_19 rfl ?_
    refine V0_iload_n (pc := 20) dX5_layBody_20 rfl ?_
    refine V_iast (pc := 21) (ix x) dX5_layBody_21 rfl (s_shelf_ix h4).1 (s_shelf_ix h4).2 ?_
    refine V_retv (pc := 22) dX5_layBody_22 rfl ?_
    exact ⟨rfl, by simp [h4], rfl⟩
  · skip
    refine V_retv (pc := 7) dX5_layBody_7 rfl ?_
    exact ⟨rfl, by simp [h4], rfl⟩
def g_zero (J : px_J) (s : Nat) : Nat → px_J
  | 0 => J
  | n + 1 => px_upL (g_zero J s n) 22 (s * 60 + n) 0
theorem lp_X5_layRow {l : Launch} {I : px_I} {J : px_J} {s n : Nat} {x t : Int32} {Q : px_Q} (hx : x = nI s) (hx6 : s < 6) (hn : n ≤ 60) (hQ : Q none I (g_zero J s n)) : ∀ (k j : Nat), n + 1 - j ≤ k → j ≤ n → V0 l (px_rm 1 0 0) mX5_layRow (false, []) 0 0 35 [.ref 19, .int x, .int t, .int (nI n), .int (nI j)] [] (px_mk I (g_zero J s j)) (px_q Q) := by
  intro k
  induction k with
  | zero => intro j h1 h2; omega
  | succ k ih =>
    intro j h1 h2
    refine V0_iload (pc := 35) dX5_layRow_35 rfl ?_
    refine V0_iload_n (pc := 37) dX5_layRow_37 rfl ?_
    refine V1_icmp_ge (pc := 38) 60 dX5_layRow_38 (by decide) (fun h38 => ?_) (fun h38 => ?_)
    · skip
      have hj : j = n := by have := px_ge h38 (by omega) (by omega); omega
      subst hj
      refine V_retv (pc := 60) dX5_layRow_60 rfl ?_
      exact hQ
    · skip
      have hj := px_lt h38 (by omega) (by omega)
      refine V0_aload_n (pc := 41) dX5_layRow_41 rfl ?_
      refine V_getr (pc := 42) dX5_layRow_42 flX5_18 rfl rfl ?_
      refine V0_iload_n (pc := 45) dX5_layRow_45 rfl ?_
      refine V0_bipush (pc := 46) (60) dX5_layRow_46 (by decide) ?_
      refine V0_imul (pc := 48) dX5_layRow_48 ?_
      refine V0_iload (pc := 49) dX5_layRow_49 rfl ?_
      refine V0_iadd (pc := 51) dX5_layRow_51 ?_
      refine V0_lconst (pc := 52) 0 dX5_layRow_52 (by decide) ?_
      refine V_last (pc := 53) (s * 60 + j) dX5_layRow_53 rfl (by rw [hx, ← qI_add, ← qI_mul]; rfl) (by omega) ?_
      refine V0_iinc_4 (pc := 54) (nI (j + 1)) dX5_layRow_54 (by decide) rfl (nI_1 _) ?_
      refine V0_goto (pc := 57) 35 dX5_layRow_57 (by decide) ?_
      exact ih (j + 1) (by omega) (by omega)
theorem c_X5_layRow {l : Launch} {I : px_I} {J : px_J} {s n : Nat} {x t : Int32} (hx : x = nI s) (hx6 : s < 6) (hn : n ≤ 60) : Ct l mX5_layRow 1 [.ref 19, .int x, .int t, .int (nI n)] I J (px_qs (px_up (px_up I 20 s t) 21 s (nI n)) (g_zero J s n)) := by
  have hs : s_shelf x = true := by
    subst hx
    simp [s_shelf, nI_nn (show s < 2 ^ 31 by omega), (qI_lt (a := s) (b := 6) (by omega) (by omega)).mpr hx6, show (6 : Int32) = nI 6 from rfl]
  refine Ct.of plX5_layRow (Nat.le_of_ble_eq_true rfl) [.ref 19, .int x, .int t, .int (nI n), .null] rfl ?_
  refine V0_iload_n (pc := 0) dX5_layRow_0 rfl ?_
  refine V_callSi (pc := 1) (M' := mX5_isShelf) dX5_layRow_1 mlX5_22 okX5_isShelf rfl c_X5_isShelf rfl rfl ⟨Nat.le_of_ble_eq_true rfl, Nat.le_of_ble_eq_true rfl⟩ ⟨Nat.le_refl 0, Nat.le_refl 0⟩ (Nat.le_of_ble_eq_true rfl) ?_
  refine V_ifeqb (pc := 4) 17 dX5_layRow_4 (by decide) (fun h4 => ?_) (fun h4 => ?_)
  · skip
    rw [hs] at h4; cases h4
  · skip
    refine V0_iload_n (pc := 7) dX5_layRow_7 rfl ?_
    refine V0_if_lt (pc := 8) 17 dX5_layRow_8 (by decide) (fun h8 => ?_) (fun h8 => ?_)
    · skip
      exact absurd h8 (nI_nn (by omega))
    · skip
      refine V0_iload_n (pc := 11) dX5_layRow_11 rfl ?_
      refine V0_bipush (pc := 12) (60) dX5_layRow_12 (by decide) ?_
      refine V1_icmp_le (pc := 14) 18 dX5_layRow_14 (by decide) (fun h14 => ?_) (fun h14 => ?_)
      · skip
        refine V0_aload_n (pc := 18) dX5_layRow_18 rfl ?_
        refine V_getr (pc := 19) dX5_layRow_19 flX5_11 rfl rfl ?_
        refine V0_iload_n (pc := 22) dX5_layRow_22 rfl ?_
        refine V0_iload_n (pc := 23) dX5_layRow_23 rfl ?_
        refine V_iast (pc := 24) s dX5_layRow_24 rfl hx (by omega) ?_
        refine V0_aload_n (pc := 25) dX5_layRow_25 rfl ?_
        refine V_getr (pc := 26) dX5_layRow_26 flX5_15 rfl rfl ?_
        refine V0_iload_n (pc := 29) dX5_layRow_29 rfl ?_
        refine V0_iload_n (pc := 30) dX5_layRow_30 rfl ?_
        refine V_iast (pc := 31) s dX5_layRow_31 rfl hx (by omega) ?_
        refine V0_iconst (pc := 32) (0) dX5_layRow_32 (by decide) ?_
        refine V0_istore_4 (pc := 33) dX5_layRow_33 (by decide) rfl ?_
        exact lp_X5_layRow hx hx6 hn ⟨rfl, rfl, rfl⟩ (n + 1) 0 (by omega) (by omega)
      · skip
        exact absurd (px_ltc (a := 60) n rfl h14 (by omega) (by omega)) (by omega)
def g_refRow (I : px_I) (x : Int32) : Int32 := if s_shelf x = false then -1 else if g_empty I x = true then -11 else if g_row I x = true then 0 else -12
theorem c_X5_refuseRow {l : Launch} {I : px_I} {J : px_J} {x : Int32} : CtI l mX5_refuseRow 2 [.ref 19, .int x] I J (g_refRow I x) := by
  refine Ct.of plX5_refuseRow (Nat.le_of_ble_eq_true rfl) [.ref 19, .int x] rfl ?_
  refine V0_iload_n (pc := 0) dX5_refuseRow_0 rfl ?_
  refine V_callSi (pc := 1) (M' := mX5_isShelf) dX5_refuseRow_1 mlX5_22 okX5_isShelf rfl c_X5_isShelf rfl rfl ⟨Nat.le_of_ble_eq_true rfl, Nat.le_of_ble_eq_true rfl⟩ ⟨Nat.le_refl 0, Nat.le_refl 0⟩ (Nat.le_of_ble_eq_true rfl) ?_
  refine V_ifneb (pc := 4) 9 dX5_refuseRow_4 (by decide) (fun h4 => ?_) (fun h4 => ?_)
  · skip
    refine V0_aload_n (pc := 9) dX5_refuseRow_9 rfl ?_
    refine V0_iload_n (pc := 10) dX5_refuseRow_10 rfl ?_
    refine V_callVi (pc := 11) (M' := mX5_isEmpty) dX5_refuseRow_11 mlX5_29 okX5_isEmpty rfl c_X5_isEmpty rfl rfl rfl rfl ⟨Nat.le_of_ble_eq_true rfl, Nat.le_of_ble_eq_true rfl⟩ ⟨Nat.le_refl 0, Nat.le_refl 0⟩ (Nat.le_of_ble_eq_true rfl) ?_
    refine V_ifeqb (pc := 14) 20 dX5_refuseRow_14 (by decide) (fun h14 => ?_) (fun h14 => ?_)
    · skip
      refine V0_aload_n (pc := 20) dX5_refuseRow_20 rfl ?_
      refine V0_iload_n (pc := 21) dX5_refuseRow_21 rfl ?_
      refine V_callVi (pc := 22) (M' := mX5_isRow) dX5_refuseRow_22 mlX5_26 okX5_isRow rfl c_X5_isRow rfl rfl rfl rfl ⟨Nat.le_of_ble_eq_true rfl, Nat.le_of_ble_eq_true rfl⟩ ⟨Nat.le_refl 0, Nat.le_refl 0⟩ (Nat.le_of_ble_eq_true rfl) ?_
      refine V_ifeqb (pc := 25) 32 dX5_refuseRow_25 (by decide) (fun h25 => ?_) (fun h25 => ?_)
      · skip
        refine V0_bipush (pc := 32) (-12) dX5_refuseRow_32 (by decide) ?_
        refine V_reti (pc := 34) _ dX5_refuseRow_34 rfl ?_
        refine px_li ?_
        simp [g_refRow, *]
      · skip
        refine V0_iconst (pc := 28) (0) dX5_refuseRow_28 (by decide) ?_
        refine V0_goto (pc := 29) 34 dX5_refuseRow_29 (by decide) ?_
        refine V_reti (pc := 34) _ dX5_refuseRow_34 rfl ?_
        refine px_li ?_
        simp [g_refRow, *]
    · skip
      refine V0_bipush (pc := 17) (-11) dX5_refuseRow_17 (by decide) ?_
      refine V_reti (pc := 19) _ dX5_refuseRow_19 rfl ?_
      refine px_li ?_
      simp [g_refRow, *]
  · skip
    refine V0_iconst (pc := 7) (-1) dX5_refuseRow_7 (by decide) ?_
    refine V_reti (pc := 8) _ dX5_refuseRow_8 rfl ?_
    refine px_li ?_
    simp [g_refRow, *]
def g_refBytes (I : px_I) (x : Int32) : Int32 := if g_refRow I x = 0 then (if I 20 (ix x) = 0 then 0 else -12) else g_refRow I x
theorem g_refRow0 {I : px_I} {x : Int32} (h : g_refRow I x = 0) : s_shelf x = true ∧ g_row I x = true := by
  unfold g_refRow at h
  split at h
  · exact absurd h (by decide)
  · rename_i h1
    split at h
    · exact absurd h (by decide)
    · split at h
      · rename_i h3
        exact ⟨by simpa using h1, h3⟩
      · exact absurd h (by decide)
theorem c_X5_refuseBytes {l : Launch} {I : px_I} {J : px_J} {x : Int32} : CtI l mX5_refuseBytes 3 [.ref 19, .int x] I J (g_refBytes I x) := by
  refine Ct.of plX5_refuseBytes (Nat.le_of_ble_eq_true rfl) [.ref 19, .int x, .null] rfl ?_
  refine V0_aload_n (pc := 0) dX5_refuseBytes_0 rfl ?_
  refine V0_iload_n (pc := 1) dX5_refuseBytes_1 rfl ?_
  refine V_callVi (pc := 2) (M' := mX5_refuseRow) dX5_refuseBytes_2 mlX5_32 okX5_refuseRow rfl c_X5_refuseRow rfl rfl rfl rfl ⟨Nat.le_of_ble_eq_true rfl, Nat.le_of_ble_eq_true rfl⟩ ⟨Nat.le_refl 0, Nat.le_refl 0⟩ (Nat.le_of_ble_eq_true rfl) ?_
  refine V0_istore_2 (pc := 5) dX5_refuseBytes_5 (by decide) rfl ?_
  refine V0_iload_n (pc := 6) dX5_refuseBytes_6 rfl ?_
  refine V0_if_eq (pc := 7) 12 dX5_refuseBytes_7 (by decide) (fun h7 => ?_) (fun h7 => ?_)
  · skip
    refine V0_aload_n (pc := 12) dX5_refuseBytes_12 rfl ?_
    refine V_getr (pc := 13) dX5_refuseBytes_13 flX5_11 rfl rfl ?_
    refine V0_iload_n (pc := 16) dX5_refuseBytes_16 rfl ?_
    refine V_iald (pc := 17) (ix x) dX5_refuseBytes_17 rfl (s_shelf_ix (g_refRow0 h7).1).1 (s_shelf_ix (g_refRow0 h7).1).2 ?_
    refine V0_if_ne (pc := 18) 25 dX5_refuseBytes_18 (by decide) (fun h18 => ?_) (fun h18 => ?_)
    · skip
      refine V0_bipush (pc := 25) (-12) dX5_refuseBytes_25 (by decide) ?_
      refine V_reti (pc := 27) _ dX5_refuseBytes_27 rfl ?_
      refine px_li ?_
      simp [g_refBytes, *]
    · skip
      refine V0_iconst (pc := 21) (0) dX5_refuseBytes_21 (by decide) ?_
      refine V0_goto (pc := 22) 27 dX5_refuseBytes_22 (by decide) ?_
      refine V_reti (pc := 27) _ dX5_refuseBytes_27 rfl ?_
      refine px_li ?_
      simp [g_refBytes, *]
  · skip
    refine V0_iload_n (pc := 10) dX5_refuseBytes_10 rfl ?_
    refine V_reti (pc := 11) _ dX5_refuseBytes_11 rfl ?_
    refine px_li ?_
    simp [g_refBytes, *]
theorem c_X5_hasRun {l : Launch} {I : px_I} {J : px_J} {x i n : Int32} : CtI l mX5_hasRun 2 [.ref 19, .int x, .int i, .int n] I J (b2 (g_hasRun I x i n)) := by
  refine Ct.of plX5_hasRun (Nat.le_of_ble_eq_true rfl) [.ref 19, .int x, .int i, .int n] rfl ?_
  refine V0_iload_n (pc := 0) dX5_hasRun_0 rfl ?_
  refine V0_if_lt (pc := 1) 23 dX5_hasRun_1 (by decide) (fun h1 => ?_) (fun h1 => ?_)
  · skip
    refine V0_iconst (pc := 23) (0) dX5_hasRun_23 (by decide) ?_
    refine V_retz (pc := 24) _ dX5_hasRun_24 rfl (Or.inl rfl) ?_
    refine px_li ?_
    simp [g_hasRun, b2, *]
  · skip
    refine V0_iload_n (pc := 4) dX5_hasRun_4 rfl ?_
    refine V0_if_lt (pc := 5) 23 dX5_hasRun_5 (by decide) (fun h5 => ?_) (fun h5 => ?_)
    · skip
      refine V0_iconst (pc := 23) (0) dX5_hasRun_23 (by decide) ?_
      refine V_retz (pc := 24) _ dX5_hasRun_24 rfl (Or.inl rfl) ?_
      refine px_li ?_
      simp [g_hasRun, b2, *]
    · skip
      refine V0_iload_n (pc := 8) dX5_hasRun_8 rfl ?_
      refine V0_aload_n (pc := 9) dX5_hasRun_9 rfl ?_
      refine V0_iload_n (pc := 10) dX5_hasRun_10 rfl ?_
      refine V_callVi (pc := 11) (M' := mX5_lengthOf) dX5_hasRun_11 mlX5_40 okX5_lengthOf rfl c_X5_lengthOf rfl rfl rfl rfl ⟨Nat.le_of_ble_eq_true rfl, Nat.le_of_ble_eq_true rfl⟩ ⟨Nat.le_refl 0, Nat.le_refl 0⟩ (Nat.le_of_ble_eq_true rfl) ?_
      refine V0_iload_n (pc := 14) dX5_hasRun_14 rfl ?_
      refine V0_isub (pc := 15) dX5_hasRun_15 ?_
      refine V0_icmp_gt (pc := 16) 23 dX5_hasRun_16 (by decide) (fun h16 => ?_) (fun h16 => ?_)
      · skip
        refine V0_iconst (pc := 23) (0) dX5_hasRun_23 (by decide) ?_
        refine V_retz (pc := 24) _ dX5_hasRun_24 rfl (Or.inl rfl) ?_
        refine px_li ?_
        simp [g_hasRun, b2, *]
      · skip
        refine V0_iconst (pc := 19) (1) dX5_hasRun_19 (by decide) ?_
        refine V0_goto (pc := 20) 24 dX5_hasRun_20 (by decide) ?_
        refine V_retz (pc := 24) _ dX5_hasRun_24 rfl (Or.inr rfl) ?_
        refine px_li ?_
        simp [g_hasRun, b2, *]
def g_refPlace (I : px_I) (x i : Int32) : Int32 := if g_refRow I x = 0 then (if g_hasRun I x i 1 = true then 0 else -13) else g_refRow I x
theorem c_X5_refusePlace {l : Launch} {I : px_I} {J : px_J} {x i : Int32} : CtI l mX5_refusePlace 3 [.ref 19, .int x, .int i] I J (g_refPlace I x i) := by
  refine Ct.of plX5_refusePlace (Nat.le_of_ble_eq_true rfl) [.ref 19, .int x, .int i, .null] rfl ?_
  refine V0_aload_n (pc := 0) dX5_refusePlace_0 rfl ?_
  refine V0_iload_n (pc := 1) dX5_refusePlace_1 rfl ?_
  refine V_callVi (pc := 2) (M' := mX5_refuseRow) dX5_refusePlace_2 mlX5_32 okX5_refuseRow rfl c_X5_refuseRow rfl rfl rfl rfl ⟨Nat.le_of_ble_eq_true rfl, Nat.le_of_ble_eq_true rfl⟩ ⟨Nat.le_refl 0, Nat.le_refl 0⟩ (Nat.le_of_ble_eq_true rfl) ?_
  refine V0_istore_3 (pc := 5) dX5_refusePlace_5 (by decide) rfl ?_
  refine V0_iload_n (pc := 6) dX5_refusePlace_6 rfl ?_
  refine V0_if_eq (pc := 7) 12 dX5_refusePlace_7 (by decide) (fun h7 => ?_) (fun h7 => ?_)
  · skip
    refine V0_aload_n (pc := 12) dX5_refusePlace_12 rfl ?_
    refine V0_iload_n (pc := 13) dX5_refusePlace_13 rfl ?_
    refine V0_iload_n (pc := 14) dX5_refusePlace_14 rfl ?_
    refine V0_iconst (pc := 15) (1) dX5_refusePlace_15 (by decide) ?_
    refine V_callVi (pc := 16) (M' := mX5_hasRun) dX5_refusePlace_16 mlX5_36 okX5_hasRun rfl c_X5_hasRun rfl rfl rfl rfl ⟨Nat.le_of_ble_eq_true rfl, Nat.le_of_ble_eq_true rfl⟩ ⟨Nat.le_refl 0, Nat.le_refl 0⟩ (Nat.le_of_ble_eq_true rfl) ?_
    refine V_ifeqb (pc := 19) 26 dX5_refusePlace_19 (by decide) (fun h19 => ?_) (fun h19 => ?_)
    · skip
      refine V0_bipush (pc := 26) (-13) dX5_refusePlace_26 (by decide) ?_
      refine V_reti (pc := 28) _ dX5_refusePlace_28 rfl ?_
      refine px_li ?_
      simp [g_refPlace, *]
    · skip
      refine V0_iconst (pc := 22) (0) dX5_refusePlace_22 (by decide) ?_
      refine V0_goto (pc := 23) 28 dX5_refusePlace_23 (by decide) ?_
      refine V_reti (pc := 28) _ dX5_refusePlace_28 rfl ?_
      refine px_li ?_
      simp [g_refPlace, *]
  · skip
    refine V0_iload_n (pc := 10) dX5_refusePlace_10 rfl ?_
    refine V_reti (pc := 11) _ dX5_refusePlace_11 rfl ?_
    refine px_li ?_
    simp [g_refPlace, *]
def g_refPair (I : px_I) (x y : Int32) : Int32 := if s_shelf x = false ∨ s_shelf y = false then -1 else if g_empty I x = true ∨ g_empty I y = true then -11 else if g_row I x = true ∧ I 20 (ix x) = I 20 (ix y) then 0 else -12
theorem c_X5_refusePair {l : Launch} {I : px_I} {J : px_J} {x y : Int32} : CtI l mX5_refusePair 2 [.ref 19, .int x, .int y] I J (g_refPair I x y) := by
  refine Ct.of plX5_refusePair (Nat.le_of_ble_eq_true rfl) [.ref 19, .int x, .int y] rfl ?_
  refine V0_iload_n (pc := 0) dX5_refusePair_0 rfl ?_
  refine V_callSi (pc := 1) (M' := mX5_isShelf) dX5_refusePair_1 mlX5_22 okX5_isShelf rfl c_X5_isShelf rfl rfl ⟨Nat.le_of_ble_eq_true rfl, Nat.le_of_ble_eq_true rfl⟩ ⟨Nat.le_refl 0, Nat.le_refl 0⟩ (Nat.le_of_ble_eq_true rfl) ?_
  refine V_ifeqb (pc := 4) 14 dX5_refusePair_4 (by decide) (fun h4 => ?_) (fun h4 => ?_)
  · skip
    refine V0_iconst (pc := 14) (-1) dX5_refusePair_14 (by decide) ?_
    refine V_reti (pc := 15) _ dX5_refusePair_15 rfl ?_
    refine px_li ?_
    simp [g_refPair, *]
  · skip
    refine V0_iload_n (pc := 7) dX5_refusePair_7 rfl ?_
    refine V_callSi (pc := 8) (M' := mX5_isShelf) dX5_refusePair_8 mlX5_22 okX5_isShelf rfl c_X5_isShelf rfl rfl ⟨Nat.le_of_ble_eq_true rfl, Nat.le_of_ble_eq_true rfl⟩ ⟨Nat.le_refl 0, Nat.le_refl 0⟩ (Nat.le_of_ble_eq_true rfl) ?_
    refine V_ifneb (pc := 11) 16 dX5_refusePair_11 (by decide) (fun h11 => ?_) (fun h11 => ?_)
    · skip
      refine V0_aload_n (pc := 16) dX5_refusePair_16 rfl ?_
      refine V0_iload_n (pc := 17) dX5_refusePair_17 rfl ?_
      refine V_callVi (pc := 18) (M' := mX5_isEmpty) dX5_refusePair_18 mlX5_29 okX5_isEmpty rfl c_X5_isEmpty rfl rfl rfl rfl ⟨Nat.le_of_ble_eq_true rfl, Nat.le_of_ble_eq_true rfl⟩ ⟨Nat.le_refl 0, Nat.le_refl 0⟩ (Nat.le_of_ble_eq_true rfl) ?_
      refine V_ifneb (pc := 21) 32 dX5_refusePair_21 (by decide) (fun h21 => ?_) (fun h21 => ?_)
      · skip
        refine V0_bipush (pc := 32) (-11) dX5_refusePair_32 (by decide) ?_
        refine V_reti (pc := 34) _ dX5_refusePair_34 rfl ?_
        refine px_li ?_
        simp [g_refPair, *]
      · skip
        refine V0_aload_n (pc := 24) dX5_refusePair_24 rfl ?_
        refine V0_iload_n (pc := 25) dX5_refusePair_25 rfl ?_
        refine V_callVi (pc := 26) (M' := mX5_isEmpty) dX5_refusePair_26 mlX5_29 okX5_isEmpty rfl c_X5_isEmpty rfl rfl rfl rfl ⟨Nat.le_of_ble_eq_true rfl, Nat.le_of_ble_eq_true rfl⟩ ⟨Nat.le_refl 0, Nat.le_refl 0⟩ (Nat.le_of_ble_eq_true rfl) ?_
        refine V_ifeqb (pc := 29) 35 dX5_refusePair_29 (by decide) (fun h29 => ?_) (fun h29 => ?_)
        · skip
          refine V0_aload_n (pc := 35) dX5_refusePair_35 rfl ?_
          refine V0_iload_n (pc := 36) dX5_refusePair_36 rfl ?_
          refine V_callVi (pc := 37) (M' := mX5_isRow) dX5_refusePair_37 mlX5_26 okX5_isRow rfl c_X5_isRow rfl rfl rfl rfl ⟨Nat.le_of_ble_eq_true rfl, Nat.le_of_ble_eq_true rfl⟩ ⟨Nat.le_refl 0, Nat.le_refl 0⟩ (Nat.le_of_ble_eq_true rfl) ?_
          refine V_ifeqb (pc := 40) 62 dX5_refusePair_40 (by decide) (fun h40 => ?_) (fun h40 => ?_)
          · skip
            refine V0_bipush (pc := 62) (-12) dX5_refusePair_62 (by decide) ?_
            refine V_reti (pc := 64) _ dX5_refusePair_64 rfl ?_
            refine px_li ?_
            simp [g_refPair, *]
          · skip
            refine V0_aload_n (pc := 43) dX5_refusePair_43 rfl ?_
            refine V_getr (pc := 44) dX5_refusePair_44 flX5_11 rfl rfl ?_
            refine V0_iload_n (pc := 47) dX5_refusePair_47 rfl ?_
            refine V_iald (pc := 48) (ix x) dX5_refusePair_48 rfl (s_shelf_ix h4).1 (s_shelf_ix h4).2 ?_
            refine V0_aload_n (pc := 49) dX5_refusePair_49 rfl ?_
            refine V_getr (pc := 50) dX5_refusePair_50 flX5_11 rfl rfl ?_
            refine V0_iload_n (pc := 53) dX5_refusePair_53 rfl ?_
            refine V_iald (pc := 54) (ix y) dX5_refusePair_54 rfl (s_shelf_ix h11).1 (s_shelf_ix h11).2 ?_
            refine V0_icmp_ne (pc := 55) 62 dX5_refusePair_55 (by decide) (fun h55 => ?_) (fun h55 => ?_)
            · skip
              refine V0_bipush (pc := 62) (-12) dX5_refusePair_62 (by decide) ?_
              refine V_reti (pc := 64) _ dX5_refusePair_64 rfl ?_
              refine px_li ?_
              simp [g_refPair, *]
            · skip
              refine V0_iconst (pc := 58) (0) dX5_refusePair_58 (by decide) ?_
              refine V0_goto (pc := 59) 64 dX5_refusePair_59 (by decide) ?_
              refine V_reti (pc := 64) _ dX5_refusePair_64 rfl ?_
              refine px_li ?_
              simp [g_refPair, *]
        · skip
          refine V0_bipush (pc := 32) (-11) dX5_refusePair_32 (by decide) ?_
          refine V_reti (pc := 34) _ dX5_refusePair_34 rfl ?_
          refine px_li ?_
          simp [g_refPair, *]
    · skip
      refine V0_iconst (pc := 14) (-1) dX5_refusePair_14 (by decide) ?_
      refine V_reti (pc := 15) _ dX5_refusePair_15 rfl ?_
      refine px_li ?_
      simp [g_refPair, *]
def g_cell (I : px_I) (J : px_J) (x i : Int32) : Int64 := if g_row I x = true ∧ g_hasRun I x i 1 = true then J 22 (ix x * 60 + ix i) else 0
def CtL (l : Launch) (M : px_M) (d : Nat) (args : List Value) (I : px_I) (J : px_J) (x : Int64) : Prop := Ct l M d args I J (fun r I' J' => r = some (.long x) ∧ I' = I ∧ J' = J)
theorem g_ix60 {x i : Int32} {s j : Nat} (h1 : x = nI s) (h2 : i = nI j) : x * 60 + i = nI (s * 60 + j) := by
  rw [h1, h2, ← qI_add, ← qI_mul]; rfl
theorem c_X5_cell {l : Launch} {I : px_I} {J : px_J} {x i : Int32} (hr : px_rows I) : CtL l mX5_cell 3 [.ref 19, .int x, .int i] I J (g_cell I J x i) := by
  have e1 : ix 1 = 1 := rfl
  refine Ct.of plX5_cell (Nat.le_of_ble_eq_true rfl) [.ref 19, .int x, .int i] rfl ?_
  refine V0_aload_n (pc := 0) dX5_cell_0 rfl ?_
  refine V0_iload_n (pc := 1) dX5_cell_1 rfl ?_
  refine V_callVi (pc := 2) (M' := mX5_isRow) dX5_cell_2 mlX5_26 okX5_isRow rfl c_X5_isRow rfl rfl rfl rfl ⟨Nat.le_of_ble_eq_true rfl, Nat.le_of_ble_eq_true rfl⟩ ⟨Nat.le_refl 0, Nat.le_refl 0⟩ (Nat.le_of_ble_eq_true rfl) ?_
  refine V_ifeqb (pc := 5) 32 dX5_cell_5 (by decide) (fun h5 => ?_) (fun h5 => ?_)
  · skip
    refine V0_lconst (pc := 32) 0 dX5_cell_32 (by decide) ?_
    refine V_retl (pc := 33) _ dX5_cell_33 rfl ?_
    exact ⟨by first | (simp [g_cell, h5, h15]; done) | (simp [g_cell, h5]; done), rfl, rfl⟩
  · skip
    refine V0_aload_n (pc := 8) dX5_cell_8 rfl ?_
    refine V0_iload_n (pc := 9) dX5_cell_9 rfl ?_
    refine V0_iload_n (pc := 10) dX5_cell_10 rfl ?_
    refine V0_iconst (pc := 11) (1) dX5_cell_11 (by decide) ?_
    refine V_callVi (pc := 12) (M' := mX5_hasRun) dX5_cell_12 mlX5_36 okX5_hasRun rfl c_X5_hasRun rfl rfl rfl rfl ⟨Nat.le_of_ble_eq_true rfl, Nat.le_of_ble_eq_true rfl⟩ ⟨Nat.le_refl 0, Nat.le_refl 0⟩ (Nat.le_of_ble_eq_true rfl) ?_
    refine V_ifeqb (pc := 15) 32 dX5_cell_15 (by decide) (fun h15 => ?_) (fun h15 => ?_)
    · skip
      refine V0_lconst (pc := 32) 0 dX5_cell_32 (by decide) ?_
      refine V_retl (pc := 33) _ dX5_cell_33 rfl ?_
      exact ⟨by first | (simp [g_cell, h5, h15]; done) | (simp [g_cell, h5]; done), rfl, rfl⟩
    · skip
      have hg := g_row_ix h5
      have hi := g_run_ix hr h5 h15
      rw [e1] at hi
      refine V0_aload_n (pc := 18) dX5_cell_18 rfl ?_
      refine V_getr (pc := 19) dX5_cell_19 flX5_18 rfl rfl ?_
      refine V0_iload_n (pc := 22) dX5_cell_22 rfl ?_
      refine V0_bipush (pc := 23) (60) dX5_cell_23 (by decide) ?_
      refine V0_imul (pc := 25) dX5_cell_25 ?_
      refine V0_iload_n (pc := 26) dX5_cell_26 rfl ?_
      refine V0_iadd (pc := 27) dX5_cell_27 ?_
      refine V_lald (pc := 28) (ix x * 60 + ix i) dX5_cell_28 rfl (g_ix60 hg.1 hi.1) (by omega) ?_
      refine V0_goto (pc := 29) 33 dX5_cell_29 (by decide) ?_
      refine V_retl (pc := 33) _ dX5_cell_33 rfl ?_
      exact ⟨by first | (simp [g_cell, h5, h15]; done) | (simp [g_cell, h5]; done), rfl, rfl⟩
def s_cut (t : Int32) (v : Int64) : Int64 := if t = 0 then v.toInt32.toInt8.toInt32.toInt64 else if t = 1 then v.toInt32.toInt16.toInt32.toInt64 else if t = 2 then v.toInt32.toInt64 else if t = 4 then (if lg_cmp v 0 = 0 then 0 else 1) else v
theorem c_X5_cut {l : Launch} {I : px_I} {J : px_J} {t : Int32} {v : Int64} : CtL l mX5_cut 0 [.int t, .long v] I J (s_cut t v) := by
  refine Ct.of plX5_cut (Nat.le_of_ble_eq_true rfl) [.int t, .long v, .null] rfl ?_
  refine V0_iload_n (pc := 0) dX5_cut_0 rfl ?_
  by_cases s1_0 : t = (0)
  · refine V_tabIn (pc := 1) (off := 35) (0) 36 dX5_cut_1 s1_0 (by decide) (by decide) (by decide) (by decide) ?_
    refine V0_lload_n (pc := 36) dX5_cut_36 rfl ?_
    refine V0_l2i (pc := 37) dX5_cut_37 ?_
    refine V0_i2b (pc := 38) dX5_cut_38 ?_
    refine V0_i2l (pc := 39) dX5_cut_39 ?_
    refine V_retl (pc := 40) _ dX5_cut_40 rfl ?_
    exact ⟨by simp [s_cut, *], rfl, rfl⟩
  by_cases s1_1 : t = (1)
  · refine V_tabIn (pc := 1) (off := 40) (1) 41 dX5_cut_1 s1_1 (by decide) (by decide) (by decide) (by decide) ?_
    refine V0_lload_n (pc := 41) dX5_cut_41 rfl ?_
    refine V0_l2i (pc := 42) dX5_cut_42 ?_
    refine V0_i2s (pc := 43) dX5_cut_43 ?_
    refine V0_i2l (pc := 44) dX5_cut_44 ?_
    refine V_retl (pc := 45) _ dX5_cut_45 rfl ?_
    exact ⟨by simp [s_cut, *], rfl, rfl⟩
  by_cases s1_2 : t = (2)
  · refine V_tabIn (pc := 1) (off := 45) (2) 46 dX5_cut_1 s1_2 (by decide) (by decide) (by decide) (by decide) ?_
    refine V0_lload_n (pc := 46) dX5_cut_46 rfl ?_
    refine V0_l2i (pc := 47) dX5_cut_47 ?_
    refine V0_i2l (pc := 48) dX5_cut_48 ?_
    refine V_retl (pc := 49) _ dX5_cut_49 rfl ?_
    exact ⟨by simp [s_cut, *], rfl, rfl⟩
  by_cases s1_3 : t = (3)
  · refine V_tabIn (pc := 1) (off := 61) (3) 62 dX5_cut_1 s1_3 (by decide) (by decide) (by decide) (by decide) ?_
    refine V0_lload_n (pc := 62) dX5_cut_62 rfl ?_
    refine V_retl (pc := 63) _ dX5_cut_63 rfl ?_
    exact ⟨by simp [s_cut, *], rfl, rfl⟩
  by_cases s1_4 : t = (4)
  · refine V_tabIn (pc := 1) (off := 49) (4) 50 dX5_cut_1 s1_4 (by decide) (by decide) (by decide) (by decide) ?_
    refine V0_lload_n (pc := 50) dX5_cut_50 rfl ?_
    refine V0_lconst (pc := 51) 0 dX5_cut_51 (by decide) ?_
    refine V0_lcmp (pc := 52) dX5_cut_52 ?_
    refine V0_if_eq (pc := 53) 60 dX5_cut_53 (by decide) (fun h53 => ?_) (fun h53 => ?_)
    · skip
      refine V0_lconst (pc := 60) 0 dX5_cut_60 (by decide) ?_
      refine V_retl (pc := 61) _ dX5_cut_61 rfl ?_
      exact ⟨by simp [s_cut, *], rfl, rfl⟩
    · skip
      refine V0_lconst (pc := 56) 1 dX5_cut_56 (by decide) ?_
      refine V0_goto (pc := 57) 61 dX5_cut_57 (by decide) ?_
      refine V_retl (pc := 61) _ dX5_cut_61 rfl ?_
      exact ⟨by simp [s_cut, *], rfl, rfl⟩
  refine V_tabOut (pc := 1) 62 dX5_cut_1 (by have g0 := px_ne s1_0 (k := 0) (by decide); have g1 := px_ne s1_1 (k := 1) (by decide); have g2 := px_ne s1_2 (k := 2) (by decide); have g3 := px_ne s1_3 (k := 3) (by decide); have g4 := px_ne s1_4 (k := 4) (by decide); omega) (by decide) ?_
  refine V0_lload_n (pc := 62) dX5_cut_62 rfl ?_
  refine V_retl (pc := 63) _ dX5_cut_63 rfl ?_
  exact ⟨by simp [s_cut, *], rfl, rfl⟩
def g_setCell (I : px_I) (J : px_J) (x i : Int32) (v : Int64) : px_J := if g_row I x = true ∧ g_hasRun I x i 1 = true then px_upL J 22 (ix x * 60 + ix i) (s_cut (I 20 (ix x)) v) else J
theorem c_X5_setCell {l : Launch} {I : px_I} {J : px_J} {x i : Int32} {v : Int64} (hr : px_rows I) : Ct l mX5_setCell 3 [.ref 19, .int x, .int i, .long v] I J (px_qs I (g_setCell I J x i v)) := by
  have e1 : ix 1 = 1 := rfl
  refine Ct.of plX5_setCell (Nat.le_of_ble_eq_true rfl) [.ref 19, .int x, .int i, .long v, .null] rfl ?_
  refine V0_aload_n (pc := 0) dX5_setCell_0 rfl ?_
  refine V0_iload_n (pc := 1) dX5_setCell_1 rfl ?_
  refine V_callVi (pc := 2) (M' := mX5_isRow) dX5_setCell_2 mlX5_26 okX5_isRow rfl c_X5_isRow rfl rfl rfl rfl ⟨Nat.le_of_ble_eq_true rfl, Nat.le_of_ble_eq_true rfl⟩ ⟨Nat.le_refl 0, Nat.le_refl 0⟩ (Nat.le_of_ble_eq_true rfl) ?_
  refine V_ifeqb (pc := 5) 39 dX5_setCell_5 (by decide) (fun h5 => ?_) (fun h5 => ?_)
  · skip
    refine V_retv (pc := 39) dX5_setCell_39 rfl ?_
    exact ⟨rfl, rfl, by first | (simp [g_setCell, h5, h15]; done) | (simp [g_setCell, h5]; done)⟩
  · skip
    refine V0_aload_n (pc := 8) dX5_setCell_8 rfl ?_
    refine V0_iload_n (pc := 9) dX5_setCell_9 rfl ?_
    refine V0_iload_n (pc := 10) dX5_setCell_10 rfl ?_
    refine V0_iconst (pc := 11) (1) dX5_setCell_11 (by decide) ?_
    refine V_callVi (pc := 12) (M' := mX5_hasRun) dX5_setCell_12 mlX5_36 okX5_hasRun rfl c_X5_hasRun rfl rfl rfl rfl ⟨Nat.le_of_ble_eq_true rfl, Nat.le_of_ble_eq_true rfl⟩ ⟨Nat.le_refl 0, Nat.le_refl 0⟩ (Nat.le_of_ble_eq_true rfl) ?_
    refine V_ifeqb (pc := 15) 39 dX5_setCell_15 (by decide) (fun h15 => ?_) (fun h15 => ?_)
    · skip
      refine V_retv (pc := 39) dX5_setCell_39 rfl ?_
      exact ⟨rfl, rfl, by first | (simp [g_setCell, h5, h15]; done) | (simp [g_setCell, h5]; done)⟩
    · skip
      have hg := g_row_ix h5
      have hi := g_run_ix hr h5 h15
      rw [e1] at hi
      refine V0_aload_n (pc := 18) dX5_setCell_18 rfl ?_
      refine V_getr (pc := 19) dX5_setCell_19 flX5_18 rfl rfl ?_
      refine V0_iload_n (pc := 22) dX5_setCell_22 rfl ?_
      refine V0_bipush (pc := 23) (60) dX5_setCell_23 (by decide) ?_
      refine V0_imul (pc := 25) dX5_setCell_25 ?_
      refine V0_iload_n (pc := 26) dX5_setCell_26 rfl ?_
      refine V0_iadd (pc := 27) dX5_setCell_27 ?_
      refine V0_aload_n (pc := 28) dX5_setCell_28 rfl ?_
      refine V_getr (pc := 29) dX5_setCell_29 flX5_11 rfl rfl ?_
      refine V0_iload_n (pc := 32) dX5_setCell_32 rfl ?_
      refine V_iald (pc := 33) (ix x) dX5_setCell_33 rfl hg.1 hg.2.1 ?_
      refine V0_lload_n (pc := 34) dX5_setCell_34 rfl ?_
      refine V_callS (pc := 35) (M' := mX5_cut) dX5_setCell_35 mlX5_43 okX5_cut rfl c_X5_cut rfl rfl ⟨Nat.le_of_ble_eq_true rfl, Nat.le_of_ble_eq_true rfl⟩ ⟨Nat.le_refl 0, Nat.le_refl 0⟩ (Nat.le_of_ble_eq_true rfl) ?_
      intro r1 I1 J1 hh
      obtain ⟨e1, e2, e3⟩ := hh
      rw [e1, e2, e3]
      clear e1 e2 e3 r1 I1 J1
      refine V_last (pc := 38) (ix x * 60 + ix i) dX5_setCell_38 rfl (g_ix60 hg.1 hi.1) (by omega) ?_
      refine V_retv (pc := 39) dX5_setCell_39 rfl ?_
      exact ⟨rfl, rfl, by first | (simp [g_setCell, h5, h15]; done) | (simp [g_setCell, h5]; done)⟩
def g_copyRun (I : px_I) (J : px_J) (x i y j n : Int32) : px_J := if g_row I x = true ∧ g_row I y = true ∧ g_hasRun I x i n = true ∧ g_hasRun I y j n = true then px_cpL J 22 (ix x * 60 + ix i) 22 (ix y * 60 + ix j) (ix n) else J
theorem c_X5_copyRun {l : Launch} {I : px_I} {J : px_J} {x i y j n : Int32} (hr : px_rows I) : Ct l mX5_copyRun 3 [.ref 19, .int x, .int i, .int y, .int j, .int n] I J (px_qs I (g_copyRun I J x i y j n)) := by
  refine Ct.of plX5_copyRun (Nat.le_of_ble_eq_true rfl) [.ref 19, .int x, .int i, .int y, .int j, .int n] rfl ?_
  refine V0_aload_n (pc := 0) dX5_copyRun_0 rfl ?_
  refine V0_iload_n (pc := 1) dX5_copyRun_1 rfl ?_
  refine V_callVi (pc := 2) (M' := mX5_isRow) dX5_copyRun_2 mlX5_26 okX5_isRow rfl c_X5_isRow rfl rfl rfl rfl ⟨Nat.le_of_ble_eq_true rfl, Nat.le_of_ble_eq_true rfl⟩ ⟨Nat.le_refl 0, Nat.le_refl 0⟩ (Nat.le_of_ble_eq_true rfl) ?_
  refine V_ifeqb (pc := 5) 39 dX5_copyRun_5 (by decide) (fun h5 => ?_) (fun h5 => ?_)
  · skip
    refine V_retv (pc := 39) dX5_copyRun_39 rfl ?_
    exact ⟨rfl, rfl, by first | (simp [g_copyRun, h5, h13, h24, h36]; done) | (simp [g_copyRun, h5, h13, h24]; done) | (simp [g_copyRun, h5, h13]; done) | (simp [g_copyRun, h5]; done)⟩
  · skip
    refine V0_aload_n (pc := 8) dX5_copyRun_8 rfl ?_
    refine V0_iload_n (pc := 9) dX5_copyRun_9 rfl ?_
    refine V_callVi (pc := 10) (M' := mX5_isRow) dX5_copyRun_10 mlX5_26 okX5_isRow rfl c_X5_isRow rfl rfl rfl rfl ⟨Nat.le_of_ble_eq_true rfl, Nat.le_of_ble_eq_true rfl⟩ ⟨Nat.le_refl 0, Nat.le_refl 0⟩ (Nat.le_of_ble_eq_true rfl) ?_
    refine V_ifeqb (pc := 13) 39 dX5_copyRun_13 (by decide) (fun h13 => ?_) (fun h13 => ?_)
    · skip
      refine V_retv (pc := 39) dX5_copyRun_39 rfl ?_
      exact ⟨rfl, rfl, by first | (simp [g_copyRun, h5, h13, h24, h36]; done) | (simp [g_copyRun, h5, h13, h24]; done) | (simp [g_copyRun, h5, h13]; done) | (simp [g_copyRun, h5]; done)⟩
    · skip
      refine V0_aload_n (pc := 16) dX5_copyRun_16 rfl ?_
      refine V0_iload_n (pc := 17) dX5_copyRun_17 rfl ?_
      refine V0_iload_n (pc := 18) dX5_copyRun_18 rfl ?_
      refine V0_iload (pc := 19) dX5_copyRun_19 rfl ?_
      refine V_callVi (pc := 21) (M' := mX5_hasRun) dX5_copyRun_21 mlX5_36 okX5_hasRun rfl c_X5_hasRun rfl rfl rfl rfl ⟨Nat.le_of_ble_eq_true rfl, Nat.le_of_ble_eq_true rfl⟩ ⟨Nat.le_refl 0, Nat.le_refl 0⟩ (Nat.le_of_ble_eq_true rfl) ?_
      refine V_ifeqb (pc := 24) 39 dX5_copyRun_24 (by decide) (fun h24 => ?_) (fun h24 => ?_)
      · skip
        refine V_retv (pc := 39) dX5_copyRun_39 rfl ?_
        exact ⟨rfl, rfl, by first | (simp [g_copyRun, h5, h13, h24, h36]; done) | (simp [g_copyRun, h5, h13, h24]; done) | (simp [g_copyRun, h5, h13]; done) | (simp [g_copyRun, h5]; done)⟩
      · skip
        refine V0_aload_n (pc := 27) dX5_copyRun_27 rfl ?_
        refine V0_iload_n (pc := 28) dX5_copyRun_28 rfl ?_
        refine V0_iload (pc := 29) dX5_copyRun_29 rfl ?_
        refine V0_iload (pc := 31) dX5_copyRun_31 rfl ?_
        refine V_callVi (pc := 33) (M' := mX5_hasRun) dX5_copyRun_33 mlX5_36 okX5_hasRun rfl c_X5_hasRun rfl rfl rfl rfl ⟨Nat.le_of_ble_eq_true rfl, Nat.le_of_ble_eq_true rfl⟩ ⟨Nat.le_refl 0, Nat.le_refl 0⟩ (Nat.le_of_ble_eq_true rfl) ?_
        refine V_ifneb (pc := 36) 40 dX5_copyRun_36 (by decide) (fun h36 => ?_) (fun h36 => ?_)
        · skip
          have hg := g_row_ix h5
          have hi := g_run_ix hr h5 h24
          have hg2 := g_row_ix h13
          have hi2 := g_run_ix hr h13 h36
          refine V0_aload_n (pc := 40) dX5_copyRun_40 rfl ?_
          refine V_getr (pc := 41) dX5_copyRun_41 flX5_18 rfl rfl ?_
          refine V0_iload_n (pc := 44) dX5_copyRun_44 rfl ?_
          refine V0_bipush (pc := 45) (60) dX5_copyRun_45 (by decide) ?_
          refine V0_imul (pc := 47) dX5_copyRun_47 ?_
          refine V0_iload_n (pc := 48) dX5_copyRun_48 rfl ?_
          refine V0_iadd (pc := 49) dX5_copyRun_49 ?_
          refine V0_aload_n (pc := 50) dX5_copyRun_50 rfl ?_
          refine V_getr (pc := 51) dX5_copyRun_51 flX5_18 rfl rfl ?_
          refine V0_iload_n (pc := 54) dX5_copyRun_54 rfl ?_
          refine V0_bipush (pc := 55) (60) dX5_copyRun_55 (by decide) ?_
          refine V0_imul (pc := 57) dX5_copyRun_57 ?_
          refine V0_iload (pc := 58) dX5_copyRun_58 rfl ?_
          refine V0_iadd (pc := 60) dX5_copyRun_60 ?_
          refine V0_iload (pc := 61) dX5_copyRun_61 rfl ?_
          refine V_copyl (pc := 63) (ix x * 60 + ix i) (ix y * 60 + ix j) (ix n) rfl dX5_copyRun_63 mlX5_47 rfl rfl (g_ix60 hg.1 hi.1) (g_ix60 hg2.1 hi2.1) hi.2.1 (by omega) (by omega) (Nat.le_of_ble_eq_true rfl) (Nat.le_of_ble_eq_true rfl) ?_
          refine V_retv (pc := 66) dX5_copyRun_66 rfl ?_
          exact ⟨rfl, rfl, by first | (simp [g_copyRun, h5, h13, h24, h36]; done) | (simp [g_copyRun, h5, h13, h24]; done) | (simp [g_copyRun, h5, h13]; done) | (simp [g_copyRun, h5]; done)⟩
        · skip
          refine V_retv (pc := 39) dX5_copyRun_39 rfl ?_
          exact ⟨rfl, rfl, by first | (simp [g_copyRun, h5, h13, h24, h36]; done) | (simp [g_copyRun, h5, h13, h24]; done) | (simp [g_copyRun, h5, h13]; done) | (simp [g_copyRun, h5]; done)⟩
/-! small ones -/
def s_within (v a b : Int32) : Bool := !decide (v < a) && !decide (b < v)
theorem c_X11_isWithin {l : Launch} {I : px_I} {J : px_J} {v a b : Int32} : CtI l mX11_isWithin 0 [.int v, .int a, .int b] I J (b2 (s_within v a b)) := by
  refine Ct.of plX11_isWithin (Nat.le_of_ble_eq_true rfl) [.int v, .int a, .int b] rfl ?_
  refine V0_iload_n (pc := 0) dX11_isWithin_0 rfl ?_
  refine V0_iload_n (pc := 1) dX11_isWithin_1 rfl ?_
  refine V0_icmp_lt (pc := 2) 14 dX11_isWithin_2 (by decide) (fun h2 => ?_) (fun h2 => ?_)
  · skip
    refine V0_iconst (pc := 14) (0) dX11_isWithin_14 (by decide) ?_
    refine V_retz (pc := 15) _ dX11_isWithin_15 rfl (Or.inl rfl) ?_
    refine px_li ?_
    simp [s_within, b2, *]
  · skip
    refine V0_iload_n (pc := 5) dX11_isWithin_5 rfl ?_
    refine V0_iload_n (pc := 6) dX11_isWithin_6 rfl ?_
    refine V0_icmp_gt (pc := 7) 14 dX11_isWithin_7 (by decide) (fun h7 => ?_) (fun h7 => ?_)
    · skip
      refine V0_iconst (pc := 14) (0) dX11_isWithin_14 (by decide) ?_
      refine V_retz (pc := 15) _ dX11_isWithin_15 rfl (Or.inl rfl) ?_
      refine px_li ?_
      simp [s_within, b2, *]
    · skip
      refine V0_iconst (pc := 10) (1) dX11_isWithin_10 (by decide) ?_
      refine V0_goto (pc := 11) 15 dX11_isWithin_11 (by decide) ?_
      refine V_retz (pc := 15) _ dX11_isWithin_15 rfl (Or.inr rfl) ?_
      refine px_li ?_
      simp [s_within, b2, *]
def s_apart (a b : Int32) : Int32 := if 0 ≤ a / 2 - b / 2 then a / 2 - b / 2 else -(a / 2 - b / 2)
theorem c_X11_placesApart {l : Launch} {I : px_I} {J : px_J} {a b : Int32} : CtI l mX11_placesApart 1 [.int a, .int b] I J (s_apart a b) := by
  refine Ct.of plX11_placesApart (Nat.le_of_ble_eq_true rfl) [.int a, .int b] rfl ?_
  refine V0_iload_n (pc := 0) dX11_placesApart_0 rfl ?_
  refine V0_iconst (pc := 1) (2) dX11_placesApart_1 (by decide) ?_
  refine V0_idiv (pc := 2) dX11_placesApart_2 (by decide) ?_
  refine V0_iload_n (pc := 3) dX11_placesApart_3 rfl ?_
  refine V0_iconst (pc := 4) (2) dX11_placesApart_4 (by decide) ?_
  refine V0_idiv (pc := 5) dX11_placesApart_5 (by decide) ?_
  refine V0_isub (pc := 6) dX11_placesApart_6 ?_
  refine V0_abs (pc := 7) dX11_placesApart_7 mlX11_376 js_abs ji_Math jc_abs (Nat.le_of_ble_eq_true rfl) (Nat.le_of_ble_eq_true rfl) ?_
  refine V_reti (pc := 10) _ dX11_placesApart_10 rfl ?_
  refine px_li ?_
  rfl
def s_bc1 (x : Int32) : Int32 := x - (px_ushr x 1 &&& 1431655765)
def s_bc2 (x : Int32) : Int32 := (x &&& 858993459) + (px_ushr x 2 &&& 858993459)
def s_bc3 (x : Int32) : Int32 := (x + px_ushr x 4) &&& 252645135
def s_bc4 (x : Int32) : Int32 := x + px_ushr x 8
def s_bc5 (x : Int32) : Int32 := x + px_ushr x 16
def s_bc (x : Int32) : Int32 := s_bc5 (s_bc4 (s_bc3 (s_bc2 (s_bc1 x)))) &&& 63
theorem c_J6_bitCount_0f7a4 {l : Launch} {I : px_I} {J : px_J} {x : Int32} : CtI l mJ6_bitCount_0f7a4 0 [.int x] I J (s_bc x) := by
  refine Ct.of plJ6_bitCount_0f7a4 (Nat.le_of_ble_eq_true rfl) [.int x] rfl ?_
  refine V0_iload_n (pc := 0) dJ6_bitCount_0f7a4_0 rfl ?_
  refine V0_iload_n (pc := 1) dJ6_bitCount_0f7a4_1 rfl ?_
  refine V0_iconst (pc := 2) (1) dJ6_bitCount_0f7a4_2 (by decide) ?_
  refine V0_iushr (pc := 3) dJ6_bitCount_0f7a4_3 ?_
  refine V0_ldcw (pc := 4) dJ6_bitCount_0f7a4_4 csJ6_265 ?_
  refine V0_iand (pc := 7) dJ6_bitCount_0f7a4_7 ?_
  refine V0_isub (pc := 8) dJ6_bitCount_0f7a4_8 ?_
  refine V0_istore_0 (pc := 9) dJ6_bitCount_0f7a4_9 (by decide) ?_
  refine V0_iload_n (pc := 10) dJ6_bitCount_0f7a4_10 rfl ?_
  refine V0_ldcw (pc := 11) dJ6_bitCount_0f7a4_11 csJ6_266 ?_
  refine V0_iand (pc := 14) dJ6_bitCount_0f7a4_14 ?_
  refine V0_iload_n (pc := 15) dJ6_bitCount_0f7a4_15 rfl ?_
  refine V0_iconst (pc := 16) (2) dJ6_bitCount_0f7a4_16 (by decide) ?_
  refine V0_iushr (pc := 17) dJ6_bitCount_0f7a4_17 ?_
  refine V0_ldcw (pc := 18) dJ6_bitCount_0f7a4_18 csJ6_266 ?_
  refine V0_iand (pc := 21) dJ6_bitCount_0f7a4_21 ?_
  refine V0_iadd (pc := 22) dJ6_bitCount_0f7a4_22 ?_
  refine V0_istore_0 (pc := 23) dJ6_bitCount_0f7a4_23 (by decide) ?_
  refine V0_iload_n (pc := 24) dJ6_bitCount_0f7a4_24 rfl ?_
  refine V0_iload_n (pc := 25) dJ6_bitCount_0f7a4_25 rfl ?_
  refine V0_iconst (pc := 26) (4) dJ6_bitCount_0f7a4_26 (by decide) ?_
  refine V0_iushr (pc := 27) dJ6_bitCount_0f7a4_27 ?_
  refine V0_iadd (pc := 28) dJ6_bitCount_0f7a4_28 ?_
  refine V0_ldcw (pc := 29) dJ6_bitCount_0f7a4_29 csJ6_267 ?_
  refine V0_iand (pc := 32) dJ6_bitCount_0f7a4_32 ?_
  refine V0_istore_0 (pc := 33) dJ6_bitCount_0f7a4_33 (by decide) ?_
  refine V0_iload_n (pc := 34) dJ6_bitCount_0f7a4_34 rfl ?_
  refine V0_iload_n (pc := 35) dJ6_bitCount_0f7a4_35 rfl ?_
  refine V0_bipush (pc := 36) (8) dJ6_bitCount_0f7a4_36 (by decide) ?_
  refine V0_iushr (pc := 38) dJ6_bitCount_0f7a4_38 ?_
  refine V0_iadd (pc := 39) dJ6_bitCount_0f7a4_39 ?_
  refine V0_istore_0 (pc := 40) dJ6_bitCount_0f7a4_40 (by decide) ?_
  refine V0_iload_n (pc := 41) dJ6_bitCount_0f7a4_41 rfl ?_
  refine V0_iload_n (pc := 42) dJ6_bitCount_0f7a4_42 rfl ?_
  refine V0_bipush (pc := 43) (16) dJ6_bitCount_0f7a4_43 (by decide) ?_
  refine V0_iushr (pc := 45) dJ6_bitCount_0f7a4_45 ?_
  refine V0_iadd (pc := 46) dJ6_bitCount_0f7a4_46 ?_
  refine V0_istore_0 (pc := 47) dJ6_bitCount_0f7a4_47 (by decide) ?_
  refine V0_iload_n (pc := 48) dJ6_bitCount_0f7a4_48 rfl ?_
  refine V0_bipush (pc := 49) (63) dJ6_bitCount_0f7a4_49 (by decide) ?_
  refine V0_iand (pc := 51) dJ6_bitCount_0f7a4_51 ?_
  refine V_reti (pc := 52) _ dJ6_bitCount_0f7a4_52 rfl ?_
  refine px_li ?_
  rfl

