/-! lanes by draws -/
def z_next (z : Int32) : Int32 := z * 1103515245 + 12345
def t_mvd (X : px_I) (z mv : Int32) : px_I := if 0 < X 1 6 ∧ px_rem (px_ushr z 24) 12 < mv then (if g_isP X (px_rem (px_ushr z 8) (X 1 6)) = true then px_up X 44 (ix (px_rem (px_ushr z 8) (X 1 6))) (px_rem (px_ushr z 16) 12) else X) else X
theorem c_X9_moveByDraw {l : Launch} {I : px_I} {J : px_J} {z mv : Int32} : Ct l mX9_moveByDraw 1 [.ref 42, .int z, .int mv] I J (px_qs (t_mvd I z mv) J) := by
  refine Ct.of plX9_moveByDraw (Nat.le_of_ble_eq_true rfl) [.ref 42, .int z, .int mv, .null] rfl ?_
  refine V0_aload_n (pc := 0) dX9_moveByDraw_0 rfl ?_
  refine V_getr (pc := 1) dX9_moveByDraw_1 flX9_9 rfl rfl ?_
  refine V_geti (pc := 4) dX9_moveByDraw_4 flX9_31 rfl rfl ?_
  refine V1_if_le (pc := 7) 21 dX9_moveByDraw_7 (by decide) (fun h7 => ?_) (fun h7 => ?_)
  · skip
    refine V_retv (pc := 21) dX9_moveByDraw_21 rfl ?_
    exact ⟨rfl, by first | (simp [t_mvd, h7, h18, h43]; done) | (simp [t_mvd, h7, h18]; done) | (simp [t_mvd, h7]; done), rfl⟩
  · skip
    refine V0_iload_n (pc := 10) dX9_moveByDraw_10 rfl ?_
    refine V0_bipush (pc := 11) (24) dX9_moveByDraw_11 (by decide) ?_
    refine V0_iushr (pc := 13) dX9_moveByDraw_13 ?_
    refine V0_bipush (pc := 14) (12) dX9_moveByDraw_14 (by decide) ?_
    refine V0_irem (pc := 16) dX9_moveByDraw_16 (by decide) ?_
    refine V0_iload_n (pc := 17) dX9_moveByDraw_17 rfl ?_
    refine V0_icmp_lt (pc := 18) 22 dX9_moveByDraw_18 (by decide) (fun h18 => ?_) (fun h18 => ?_)
    · skip
      refine V0_iload_n (pc := 22) dX9_moveByDraw_22 rfl ?_
      refine V0_bipush (pc := 23) (8) dX9_moveByDraw_23 (by decide) ?_
      refine V0_iushr (pc := 25) dX9_moveByDraw_25 ?_
      refine V0_aload_n (pc := 26) dX9_moveByDraw_26 rfl ?_
      refine V_getr (pc := 27) dX9_moveByDraw_27 flX9_9 rfl rfl ?_
      refine V_geti (pc := 30) dX9_moveByDraw_30 flX9_31 rfl rfl ?_
      refine V0_irem (pc := 33) dX9_moveByDraw_33 (fun e => by rw [e] at h7; exact absurd h7 (by decide)) ?_
      refine V0_istore_3 (pc := 34) dX9_moveByDraw_34 (by decide) rfl ?_
      refine V0_aload_n (pc := 35) dX9_moveByDraw_35 rfl ?_
      refine V_getr (pc := 36) dX9_moveByDraw_36 flX9_9 rfl rfl ?_
      refine V0_iload_n (pc := 39) dX9_moveByDraw_39 rfl ?_
      refine V_callVi (pc := 40) (M' := mX7_isPerson) dX9_moveByDraw_40 mlX9_50 okX7_isPerson rfl c_X7_isPerson rfl rfl rfl rfl ⟨Nat.le_of_ble_eq_true rfl, Nat.le_of_ble_eq_true rfl⟩ ⟨Nat.le_refl 0, Nat.le_refl 0⟩ (Nat.le_of_ble_eq_true rfl) ?_
      refine V_ifeqb (pc := 43) 62 dX9_moveByDraw_43 (by decide) (fun h43 => ?_) (fun h43 => ?_)
      · skip
        refine V_retv (pc := 62) dX9_moveByDraw_62 rfl ?_
        exact ⟨rfl, by first | (simp [t_mvd, h7, h18, h43]; done) | (simp [t_mvd, h7, h18]; done) | (simp [t_mvd, h7]; done), rfl⟩
      · skip
        refine V0_aload_n (pc := 46) dX9_moveByDraw_46 rfl ?_
        refine V_getr (pc := 47) dX9_moveByDraw_47 flX9_28 rfl rfl ?_
        refine V_getr (pc := 50) dX9_moveByDraw_50 flX9_54 rfl rfl ?_
        refine V0_iload_n (pc := 53) dX9_moveByDraw_53 rfl ?_
        refine V0_iload_n (pc := 54) dX9_moveByDraw_54 rfl ?_
        refine V0_bipush (pc := 55) (16) dX9_moveByDraw_55 (by decide) ?_
        refine V0_iushr (pc := 57) dX9_moveByDraw_57 ?_
        refine V0_bipush (pc := 58) (12) dX9_moveByDraw_58 (by decide) ?_
        refine V0_irem (pc := 60) dX9_moveByDraw_60 (by decide) ?_
        refine V_iast (pc := 61) (ix (px_rem (px_ushr z 8) (I 1 6))) dX9_moveByDraw_61 rfl (s_is_ix (c := 7) rfl (by omega) h43).1 (s_is_ix (c := 7) rfl (by omega) h43).2 ?_
        refine V_retv (pc := 62) dX9_moveByDraw_62 rfl ?_
        exact ⟨rfl, by first | (simp [t_mvd, h7, h18, h43]; done) | (simp [t_mvd, h7, h18]; done) | (simp [t_mvd, h7]; done), rfl⟩
    · skip
      refine V_retv (pc := 21) dX9_moveByDraw_21 rfl ?_
      exact ⟨rfl, by first | (simp [t_mvd, h7, h18, h43]; done) | (simp [t_mvd, h7, h18]; done) | (simp [t_mvd, h7]; done), rfl⟩
def t_in (m n : Nat) (mv : Int32) (s : Int32 × px_I) : Nat → Int32 × px_I
  | 0 => s
  | k + 1 => (z_next (t_in m n mv s k).1, g_pass (t_mvd (t_in m n mv s k).2 (z_next (t_in m n mv s k).1) mv) 43 m n)
def t_sum (X : px_I) (n : Nat) (joy sum : Int32) : Int32 := if joy < 0 then sum + s_sum (g_had X 43) (X 6) n else if g_had X 43 (ix joy) = true then sum + 1 else sum
def t_out (m n days : Nat) (mv joy seed : Int32) (I : px_I) : Nat → Int32 × Int32 × px_I
  | 0 => (seed, 0, I)
  | i + 1 => ((t_in m n mv ((t_out m n days mv joy seed I i).1, t_start (t_out m n days mv joy seed I i).2.2 m n) days).1, t_sum (t_in m n mv ((t_out m n days mv joy seed I i).1, t_start (t_out m n days mv joy seed I i).2.2 m n) days).2 n joy (t_out m n days mv joy seed I i).2.1, (t_in m n mv ((t_out m n days mv joy seed I i).1, t_start (t_out m n days mv joy seed I i).2.2 m n) days).2)
theorem t_mvd_row {X : px_I} {z mv : Int32} {q : Nat} (h : q ≠ 44) : t_mvd X z mv q = X q := by
  unfold t_mvd; split
  · split
    · exact px_up_row h
    · rfl
  · rfl
theorem t_in_row {m n k q : Nat} {mv : Int32} {s : Int32 × px_I} (h : q < 43 ∨ 47 < q) : (t_in m n mv s k).2 q = s.2 q := by
  induction k with
  | zero => rfl
  | succ k ih =>
    show g_pass _ 43 m n q = _
    rw [g_pass_row (by omega) (by omega) (by omega) (by omega), t_mvd_row (by omega), ih]
theorem t_out_row {m n days i q : Nat} {mv joy seed : Int32} {I : px_I} (h : q < 43 ∨ 47 < q) : (t_out m n days mv joy seed I i).2.2 q = I q := by
  induction i with
  | zero => rfl
  | succ i ih =>
    rw [t_out, t_in_row h]
    show t_start _ m n q = _
    rw [t_start_row h, ih]
theorem lp_X9_drawIn {l : Launch} {S : px_I} {J : px_J} {m n days : Nat} {seed mv joy z0 sum : Int32} {v2 : Value} {w8 : Int32} {Q : px_Q} (hS : px_ok0 S m n) (hd : days ≤ 40) (hQ : ∀ v9, V0 l (px_rm 4 0 0) mX9_drawLanes (false, []) 0 0 60 [.ref 42, .int seed, v2, .int (nI days), .int mv, .int joy, .int (t_in m n mv (z0, S) days).1, .int sum, (.int w8), v9] [] (px_mk (t_in m n mv (z0, S) days).2 J) (px_q Q)) : ∀ (f j : Nat), days + 1 - j ≤ f → j ≤ days → V0 l (px_rm 4 0 0) mX9_drawLanes (false, []) 0 0 22 [.ref 42, .int seed, v2, .int (nI days), .int mv, .int joy, .int (t_in m n mv (z0, S) j).1, .int sum, (.int w8), .int (nI j)] [] (px_mk (t_in m n mv (z0, S) j).2 J) (px_q Q) := by
  intro f
  induction f with
  | zero => intro j h1 h2; omega
  | succ f ih =>
    intro j h1 h2
    have ho : px_ok0 (t_mvd (t_in m n mv (z0, S) j).2 (z_next (t_in m n mv (z0, S) j).1) mv) m n := hS.of (by rw [t_mvd_row (by omega), t_in_row (by omega)]) (by rw [t_mvd_row (by omega), t_in_row (by omega)])
    refine V0_iload (pc := 22) dX9_drawLanes_22 rfl ?_
    refine V0_iload_n (pc := 24) dX9_drawLanes_24 rfl ?_
    refine V1_icmp_ge (pc := 25) 60 dX9_drawLanes_25 (by decide) (fun h25 => ?_) (fun h25 => ?_)
    · skip
      have hj : j = days := by have := px_ge h25 (by omega) (by omega); omega
      subst hj
      exact hQ _
    · skip
      have hj := px_lt h25 (by omega) (by omega)
      refine V0_iload (pc := 28) dX9_drawLanes_28 rfl ?_
      refine V0_ldc (pc := 30) dX9_drawLanes_30 csX9_103 ?_
      refine V0_imul (pc := 32) dX9_drawLanes_32 ?_
      refine V0_sipush (pc := 33) (12345) dX9_drawLanes_33 (by decide) ?_
      refine V0_iadd (pc := 36) dX9_drawLanes_36 ?_
      refine V0_istore_6 (pc := 37) dX9_drawLanes_37 (by decide) rfl ?_
      show V0 _ _ _ _ _ _ _ [.ref 42, .int seed, v2, .int (nI days), .int mv, .int joy, .int (z_next (t_in m n mv (z0, S) j).1), .int sum, (.int w8), .int (nI j)] _ _ _
      refine V0_aload_n (pc := 39) dX9_drawLanes_39 rfl ?_
      refine V0_iload (pc := 40) dX9_drawLanes_40 rfl ?_
      refine V0_iload (pc := 42) dX9_drawLanes_42 rfl ?_
      refine V_callV (pc := 44) (M' := mX9_moveByDraw) dX9_drawLanes_44 mlX9_104 okX9_moveByDraw rfl c_X9_moveByDraw rfl rfl rfl rfl ⟨Nat.le_of_ble_eq_true rfl, Nat.le_of_ble_eq_true rfl⟩ ⟨Nat.le_refl 0, Nat.le_refl 0⟩ (Nat.le_of_ble_eq_true rfl) ?_
      intro r1 I1 J1 hh
      obtain ⟨e1, e2, e3⟩ := hh
      rw [e1, e2, e3]
      clear e1 e2 e3 r1 I1 J1
      refine V0_aload_n (pc := 47) dX9_drawLanes_47 rfl ?_
      refine V_getr (pc := 48) dX9_drawLanes_48 flX9_28 rfl rfl ?_
      refine V_callV (pc := 51) (M' := mX2_pass) dX9_drawLanes_51 mlX9_47 okX2_pass rfl (c_X2_pass cs43 ho.1 ho.2.1 ho.2.2.1 ho.2.2.2.1 ho.2.2.2.2.1) rfl rfl rfl rfl ⟨Nat.le_of_ble_eq_true rfl, Nat.le_of_ble_eq_true rfl⟩ ⟨Nat.le_refl 0, Nat.le_refl 0⟩ (Nat.le_of_ble_eq_true rfl) ?_
      intro r1 I1 J1 hh
      obtain ⟨e1, e2, e3⟩ := hh
      rw [e1, e2, e3]
      clear e1 e2 e3 r1 I1 J1
      refine V0_iinc_9 (pc := 54) (nI (j + 1)) dX9_drawLanes_54 (by decide) rfl (nI_1 _) ?_
      refine V0_goto (pc := 57) 22 dX9_drawLanes_57 (by decide) ?_
      exact ih (j + 1) (by omega) (by omega)

theorem lp_X9_drawEnd {l : Launch} {T : px_I} {J : px_J} {m n lanes days i : Nat} {seed mv joy z sum : Int32} {Q : px_Q} {w9 : Value} (hT : px_ok0 T m n) (hj : ¬ joy < 0 → joy = nI (ix joy) ∧ ix joy < 10) (hi : i < 31) (kk : V0 l (px_rm 4 0 0) mX9_drawLanes (false, []) 0 0 9 [.ref 42, .int seed, .int (nI lanes), .int (nI days), .int mv, .int joy, .int z, .int (t_sum T n joy sum), .int (nI (i + 1)), w9] [] (px_mk T J) (px_q Q)) : V0 l (px_rm 4 0 0) mX9_drawLanes (false, []) 0 0 60 [.ref 42, .int seed, .int (nI lanes), .int (nI days), .int mv, .int joy, .int z, .int sum, .int (nI i), w9] [] (px_mk T J) (px_q Q) := by
  refine V0_iload (pc := 60) dX9_drawLanes_60 rfl ?_
  refine V1_if_ge (pc := 62) 80 dX9_drawLanes_62 (by decide) (fun h62 => ?_) (fun h62 => ?_)
  · skip
    obtain ⟨j1, j2⟩ := hj h62
    refine V0_aload_n (pc := 80) dX9_drawLanes_80 rfl ?_
    refine V_getr (pc := 81) dX9_drawLanes_81 flX9_28 rfl rfl ?_
    refine V0_iload (pc := 84) dX9_drawLanes_84 rfl ?_
    rw [j1]
    refine V_callVi (pc := 86) (M' := mX2_had) dX9_drawLanes_86 mlX9_108 okX2_had rfl (c_X2_had cs43 j2) rfl rfl rfl rfl ⟨Nat.le_of_ble_eq_true rfl, Nat.le_of_ble_eq_true rfl⟩ ⟨Nat.le_refl 0, Nat.le_refl 0⟩ (Nat.le_of_ble_eq_true rfl) ?_
    refine V_ifeqb (pc := 89) 95 dX9_drawLanes_89 (by decide) (fun h89 => ?_) (fun h89 => ?_)
    · skip
      refine V0_iinc_8 (pc := 95) (nI (i + 1)) dX9_drawLanes_95 (by decide) rfl (nI_1 _) ?_
      refine V0_goto (pc := 98) 9 dX9_drawLanes_98 (by decide) ?_
      refine V_ls ?_ kk
      first | (simp [t_sum, h62]; done) | (simp [t_sum, h62, h89, ← j1]; done)
    · skip
      refine V0_iinc_7 (pc := 92) _ dX9_drawLanes_92 (by decide) rfl rfl ?_
      refine V0_iinc_8 (pc := 95) (nI (i + 1)) dX9_drawLanes_95 (by decide) rfl (nI_1 _) ?_
      refine V0_goto (pc := 98) 9 dX9_drawLanes_98 (by decide) ?_
      refine V_ls ?_ kk
      first | (simp [t_sum, h62]; done) | (simp [t_sum, h62, h89, ← j1]; done)
  · skip
    refine V0_iload (pc := 65) dX9_drawLanes_65 rfl ?_
    refine V0_aload_n (pc := 67) dX9_drawLanes_67 rfl ?_
    refine V_getr (pc := 68) dX9_drawLanes_68 flX9_28 rfl rfl ?_
    refine V_callVi (pc := 71) (M' := mX2_worthOfHad) dX9_drawLanes_71 mlX9_58 okX2_worthOfHad rfl (c_X2_worthOfHad cs43 hT.2.2.1 hT.2.2.2.1) rfl rfl rfl rfl ⟨Nat.le_of_ble_eq_true rfl, Nat.le_of_ble_eq_true rfl⟩ ⟨Nat.le_refl 0, Nat.le_refl 0⟩ (Nat.le_of_ble_eq_true rfl) ?_
    refine V0_iadd (pc := 74) dX9_drawLanes_74 ?_
    refine V0_istore_7 (pc := 75) dX9_drawLanes_75 (by decide) rfl ?_
    refine V0_goto (pc := 77) 95 dX9_drawLanes_77 (by decide) ?_
    refine V0_iinc_8 (pc := 95) (nI (i + 1)) dX9_drawLanes_95 (by decide) rfl (nI_1 _) ?_
    refine V0_goto (pc := 98) 9 dX9_drawLanes_98 (by decide) ?_
    refine V_ls ?_ kk
    first | (simp [t_sum, h62]; done) | (simp [t_sum, h62, h89, ← j1]; done)
theorem lp_X9_drawLanes {l : Launch} {I : px_I} {J : px_J} {m n lanes days : Nat} {seed mv joy : Int32} {Q : px_Q} (hk : px_ok0 I m n) (hl : lanes ≤ 30) (hd : days ≤ 40) (hj : ¬ joy < 0 → joy = nI (ix joy) ∧ ix joy < 10) (hQ : Q (some (.int (t_out m n days mv joy seed I lanes).2.1)) (t_out m n days mv joy seed I lanes).2.2 J) : ∀ (f i : Nat), lanes + 1 - i ≤ f → i ≤ lanes → ∀ v9 : Value, V0 l (px_rm 4 0 0) mX9_drawLanes (false, []) 0 0 9 [.ref 42, .int seed, .int (nI lanes), .int (nI days), .int mv, .int joy, .int (t_out m n days mv joy seed I i).1, .int (t_out m n days mv joy seed I i).2.1, .int (nI i), v9] [] (px_mk (t_out m n days mv joy seed I i).2.2 J) (px_q Q) := by
  intro f
  induction f with
  | zero => intro i h1 h2; omega
  | succ f ih =>
    intro i h1 h2 v9
    have hX : px_ok0 (t_out m n days mv joy seed I i).2.2 m n := hk.of (t_out_row (by omega)) (t_out_row (by omega))
    have hS := ok_start hX
    have hT : px_ok0 (t_in m n mv ((t_out m n days mv joy seed I i).1, t_start (t_out m n days mv joy seed I i).2.2 m n) days).2 m n := hS.of (t_in_row (by omega)) (t_in_row (by omega))
    have e1 : (t_out m n days mv joy seed I (i + 1)).2.1 = t_sum (t_in m n mv ((t_out m n days mv joy seed I i).1, t_start (t_out m n days mv joy seed I i).2.2 m n) days).2 n joy (t_out m n days mv joy seed I i).2.1 := rfl
    refine V0_iload (pc := 9) dX9_drawLanes_9 rfl ?_
    refine V0_iload_n (pc := 11) dX9_drawLanes_11 rfl ?_
    refine V1_icmp_ge (pc := 12) 101 dX9_drawLanes_12 (by decide) (fun h12 => ?_) (fun h12 => ?_)
    · skip
      have hi : i = lanes := by have := px_ge h12 (by omega) (by omega); omega
      subst hi
      refine V0_iload (pc := 101) dX9_drawLanes_101 rfl ?_
      refine V_reti (pc := 103) _ dX9_drawLanes_103 rfl ?_
      exact hQ
    · skip
      have hi := px_lt h12 (by omega) (by omega)
      refine V0_aload_n (pc := 15) dX9_drawLanes_15 rfl ?_
      refine V_callV (pc := 16) (M' := mX9_startNow) dX9_drawLanes_16 mlX9_44 okX9_startNow rfl (c_X9_startNow hX) rfl rfl rfl rfl ⟨Nat.le_of_ble_eq_true rfl, Nat.le_of_ble_eq_true rfl⟩ ⟨Nat.le_refl 0, Nat.le_refl 0⟩ (Nat.le_of_ble_eq_true rfl) ?_
      intro r1 I1 J1 hh
      obtain ⟨e1, e2, e3⟩ := hh
      rw [e1, e2, e3]
      clear e1 e2 e3 r1 I1 J1
      refine V0_iconst (pc := 19) (0) dX9_drawLanes_19 (by decide) ?_
      refine V0_istore_9 (pc := 20) dX9_drawLanes_20 (by decide) rfl ?_
      refine lp_X9_drawIn (z0 := (t_out m n days mv joy seed I i).1) hS hd (fun w9 => ?_) (days + 1) 0 (by omega) (by omega)
      exact lp_X9_drawEnd hT hj (by omega) (ih (i + 1) (by omega) (by omega) w9)
theorem c_X9_drawLanes {l : Launch} {I : px_I} {J : px_J} {m n lanes days : Nat} {seed mv joy : Int32} (hk : px_ok0 I m n) (hl : lanes ≤ 30) (hd : days ≤ 40) (hj : ¬ joy < 0 → joy = nI (ix joy) ∧ ix joy < 10) : Ct l mX9_drawLanes 4 [.ref 42, .int seed, .int (nI lanes), .int (nI days), .int mv, .int joy] I J (px_qi (t_out m n days mv joy seed I lanes).2.1 (t_out m n days mv joy seed I lanes).2.2 J) := by
  refine Ct.of plX9_drawLanes (Nat.le_of_ble_eq_true rfl) [.ref 42, .int seed, .int (nI lanes), .int (nI days), .int mv, .int joy, .null, .null, .null, .null] rfl ?_
  refine V0_iload_n (pc := 0) dX9_drawLanes_0 rfl ?_
  refine V0_istore_6 (pc := 1) dX9_drawLanes_1 (by decide) rfl ?_
  refine V0_iconst (pc := 3) (0) dX9_drawLanes_3 (by decide) ?_
  refine V0_istore_7 (pc := 4) dX9_drawLanes_4 (by decide) rfl ?_
  refine V0_iconst (pc := 6) (0) dX9_drawLanes_6 (by decide) ?_
  refine V0_istore_8 (pc := 7) dX9_drawLanes_7 (by decide) rfl ?_
  exact lp_X9_drawLanes hk hl hd hj ⟨rfl, rfl, rfl⟩ (lanes + 1) 0 (by omega) (by omega) _

