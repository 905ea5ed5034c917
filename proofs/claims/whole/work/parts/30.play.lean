/-! the turns as played -/
def v_side (I : px_I) : Nat → px_I
  | 0 => I
  | k + 1 => px_up (v_side I k) 49 k (px_rem (I 9 k) 2)
theorem v_side_row {I : px_I} {k q : Nat} (h : q ≠ 49) : v_side I k q = I q := by
  induction k with
  | zero => rfl
  | succ k ih => rw [v_side, px_up_row h, ih]
abbrev v_sd (I : px_I) (m : Nat) : Nat → Int32 := v_side I m 49
def v_tb (I : px_I) (m k j : Nat) : Int32 × Int32 := t_best (fun one => v_lm m k (v_sd I m) one false (s_lead (I 9) m)) (v_bl m k (v_sd I m) false (s_lead (I 9) m), 9) j
theorem lp_X10_side {l : Launch} {I : px_I} {J : px_J} {m : Nat} {n : Int32} {Q : px_Q} (hm : I 1 6 = nI m) (hm7 : m ≤ 7) (hQ : ∀ w2, V0 l (px_rm 20 0 0) mX10_playTurns (false, []) 0 0 36 [.ref 48, .int n, .int w2, .null, .null] [] (px_mk (v_side I m) J) (px_q Q)) : ∀ (f j : Nat), m + 1 - j ≤ f → j ≤ m → V0 l (px_rm 20 0 0) mX10_playTurns (false, []) 0 0 2 [.ref 48, .int n, .int (nI j), .null, .null] [] (px_mk (v_side I j) J) (px_q Q) := by
  intro f
  induction f with
  | zero => intro j h1 h2; omega
  | succ f ih =>
    intro j h1 h2
    have hmj : v_side I j 1 6 = nI m := by rw [v_side_row (by omega)]; exact hm
    have h9 : v_side I j 9 = I 9 := v_side_row (by omega)
    refine V0_iload_n (pc := 2) dX10_playTurns_2 rfl ?_
    refine V0_aload_n (pc := 3) dX10_playTurns_3 rfl ?_
    refine V_getr (pc := 4) dX10_playTurns_4 flX10_19 rfl rfl ?_
    refine V_geti (pc := 7) dX10_playTurns_7 flX10_33 rfl rfl ?_
    rw [hmj]
    refine V1_icmp_ge (pc := 10) 36 dX10_playTurns_10 (by decide) (fun h10 => ?_) (fun h10 => ?_)
    · skip
      have hj : j = m := by have := px_ge h10 (by omega) (by omega); omega
      subst hj
      exact hQ _
    · skip
      have hj := px_lt h10 (by omega) (by omega)
      refine V0_aload_n (pc := 13) dX10_playTurns_13 rfl ?_
      refine V_getr (pc := 14) dX10_playTurns_14 flX10_9 rfl rfl ?_
      refine V0_iload_n (pc := 17) dX10_playTurns_17 rfl ?_
      refine V0_aload_n (pc := 18) dX10_playTurns_18 rfl ?_
      refine V_getr (pc := 19) dX10_playTurns_19 flX10_23 rfl rfl ?_
      refine V_getr (pc := 22) dX10_playTurns_22 flX10_39 rfl rfl ?_
      refine V0_iload_n (pc := 25) dX10_playTurns_25 rfl ?_
      refine V_iald (pc := 26) (j) dX10_playTurns_26 rfl rfl (by omega) ?_
      rw [h9]
      refine V0_iconst (pc := 27) (2) dX10_playTurns_27 (by decide) ?_
      refine V0_irem (pc := 28) dX10_playTurns_28 (by decide) ?_
      refine V_iast (pc := 29) (j) dX10_playTurns_29 rfl rfl (by omega) ?_
      refine V0_iinc_2 (pc := 30) (nI (j + 1)) dX10_playTurns_30 (by decide) rfl (nI_1 _) ?_
      refine V0_goto (pc := 33) 2 dX10_playTurns_33 (by decide) ?_
      exact ih (j + 1) (by omega) (by omega)
theorem lp_X10_play {l : Launch} {I : px_I} {J : px_J} {m k : Nat} {Q : px_Q} (hm : I 1 6 = nI m) (hm7 : m ≤ 7) (hk4 : k < 4) (hQ : ∀ I', (∀ q, q ≠ 48 → q ≠ 49 → I' q = I q) → I' 48 4 = (v_tb I m k m).1 → I' 48 5 = (v_tb I m k m).2 → Q none I' J) : ∀ (f j : Nat), m + 1 - j ≤ f → j ≤ m → ∀ (X : px_I) (v4 : Value), (∀ q, q ≠ 48 → X q = v_side I m q) → X 48 4 = (v_tb I m k j).1 → X 48 5 = (v_tb I m k j).2 → V0 l (px_rm 20 0 0) mX10_playTurns (false, []) 0 0 65 [.ref 48, .int (nI (k + 1)), .int (s_lead (I 9) m), .int (nI j), v4] [] (px_mk X J) (px_q Q) := by
  have hrun : ∀ {l : Launch}, v_run l m k := c_X10_bestLead hm7 k (by omega)
  intro f
  induction f with
  | zero => intro j h1 h2; omega
  | succ f ih =>
    intro j h1 h2 X v4 hX hx4 hx5
    have hmX : X 1 6 = nI m := by rw [hX 1 (by omega), v_side_row (by omega)]; exact hm
    have hc := c_X10_leadIfMoved (l := l) (J := J) (f := false) (b := s_lead (I 9) m) (one := j) hrun hmX
    rw [hX 49 (by omega)] at hc
    refine V0_iload_n (pc := 65) dX10_playTurns_65 rfl ?_
    refine V0_aload_n (pc := 66) dX10_playTurns_66 rfl ?_
    refine V_getr (pc := 67) dX10_playTurns_67 flX10_19 rfl rfl ?_
    refine V_geti (pc := 70) dX10_playTurns_70 flX10_33 rfl rfl ?_
    rw [hmX]
    refine V1_icmp_ge (pc := 73) 114 dX10_playTurns_73 (by decide) (fun h73 => ?_) (fun h73 => ?_)
    · skip
      have hj : j = m := by have := px_ge h73 (by omega) (by omega); omega
      subst hj
      refine V_retv (pc := 114) dX10_playTurns_114 rfl ?_
      exact hQ X (fun q a b => by rw [hX q a, v_side_row b]) hx4 hx5
    · skip
      have hj := px_lt h73 (by omega) (by omega)
      refine V0_aload_n (pc := 76) dX10_playTurns_76 rfl ?_
      refine V0_iload_n (pc := 77) dX10_playTurns_77 rfl ?_
      refine V0_iload_n (pc := 78) dX10_playTurns_78 rfl ?_
      refine V0_iconst (pc := 79) (1) dX10_playTurns_79 (by decide) ?_
      refine V0_isub (pc := 80) dX10_playTurns_80 ?_
      rw [nI_pred]
      refine V0_iconst (pc := 81) (0) dX10_playTurns_81 (by decide) ?_
      refine V0_iload_n (pc := 82) dX10_playTurns_82 rfl ?_
      refine V_callVi (pc := 83) (M' := mX10_leadIfMoved) dX10_playTurns_83 mlX10_81 okX10_leadIfMoved rfl (hc (by omega)) rfl rfl rfl rfl (px_hr (by omega) (by decide)) ⟨Nat.le_refl 0, Nat.le_refl 0⟩ (Nat.le_of_ble_eq_true rfl) ?_
      refine V0_istore_4 (pc := 86) dX10_playTurns_86 (by decide) rfl ?_
      refine V0_iload (pc := 88) dX10_playTurns_88 rfl ?_
      refine V0_aload_n (pc := 90) dX10_playTurns_90 rfl ?_
      refine V_geti (pc := 91) dX10_playTurns_91 flX10_75 rfl rfl ?_
      rw [hx4]
      refine V1_icmp_le (pc := 94) 108 dX10_playTurns_94 (by decide) (fun h94 => ?_) (fun h94 => ?_)
      · skip
        refine V0_iinc_3 (pc := 108) (nI (j + 1)) dX10_playTurns_108 (by decide) rfl (nI_1 _) ?_
        refine V0_goto (pc := 111) 65 dX10_playTurns_111 (by decide) ?_
        have hb : v_tb I m k (j + 1) = if (v_tb I m k j).1 < v_lm m k (v_sd I m) j false (s_lead (I 9) m) then (v_lm m k (v_sd I m) j false (s_lead (I 9) m), nI j) else v_tb I m k j := rfl
        first | (rw [if_pos h94] at hb; exact ih (j + 1) (by omega) (by omega) _ _ (fun q hq => by rw [px_up_row hq, px_up_row hq]; exact hX q hq) (by rw [hb]; simp [px_up_at]) (by rw [hb]; simp [px_up_at])) | (rw [if_neg h94] at hb; exact ih (j + 1) (by omega) (by omega) _ _ hX (by rw [hb]; exact hx4) (by rw [hb]; exact hx5))
      · skip
        refine V0_aload_n (pc := 97) dX10_playTurns_97 rfl ?_
        refine V0_iload (pc := 98) dX10_playTurns_98 rfl ?_
        refine V_puti (pc := 100) dX10_playTurns_100 flX10_75 rfl rfl ?_
        refine V0_aload_n (pc := 103) dX10_playTurns_103 rfl ?_
        refine V0_iload_n (pc := 104) dX10_playTurns_104 rfl ?_
        refine V_puti (pc := 105) dX10_playTurns_105 flX10_78 rfl rfl ?_
        refine V0_iinc_3 (pc := 108) (nI (j + 1)) dX10_playTurns_108 (by decide) rfl (nI_1 _) ?_
        refine V0_goto (pc := 111) 65 dX10_playTurns_111 (by decide) ?_
        have hb : v_tb I m k (j + 1) = if (v_tb I m k j).1 < v_lm m k (v_sd I m) j false (s_lead (I 9) m) then (v_lm m k (v_sd I m) j false (s_lead (I 9) m), nI j) else v_tb I m k j := rfl
        first | (rw [if_pos h94] at hb; exact ih (j + 1) (by omega) (by omega) _ _ (fun q hq => by rw [px_up_row hq, px_up_row hq]; exact hX q hq) (by rw [hb]; simp [px_up_at]) (by rw [hb]; simp [px_up_at])) | (rw [if_neg h94] at hb; exact ih (j + 1) (by omega) (by omega) _ _ hX (by rw [hb]; exact hx4) (by rw [hb]; exact hx5))
theorem c_X10_playTurns {l : Launch} {I : px_I} {J : px_J} {m k : Nat} (hm : I 1 6 = nI m) (hm7 : m ≤ 7) (hk4 : k < 4) : Ct l mX10_playTurns 20 [.ref 48, .int (nI (k + 1))] I J (fun r I' J' => r = none ∧ (∀ q, q ≠ 48 → q ≠ 49 → I' q = I q) ∧ I' 48 4 = (v_tb I m k m).1 ∧ I' 48 5 = (v_tb I m k m).2 ∧ J' = J) := by
  have hrun : ∀ {l : Launch}, v_run l m k := c_X10_bestLead hm7 k (by omega)
  have hms : v_side I m 1 6 = nI m := by rw [v_side_row (by omega)]; exact hm
  have h9 : v_side I m 9 = I 9 := v_side_row (by omega)
  have hl : s_lead (v_side I m (8 + 1)) m = s_lead (I 9) m := by rw [show v_side I m (8 + 1) = I 9 from h9]
  have hc := hrun (l := l) (v_side I m) J false (s_lead (I 9) m) hms
  have key : ∀ w2, V0 l (px_rm 20 0 0) mX10_playTurns (false, []) 0 0 36 [.ref 48, .int (nI (k + 1)), .int w2, .null, .null] [] (px_mk (v_side I m) J) (px_q (fun r I' J' => r = none ∧ (∀ q, q ≠ 48 → q ≠ 49 → I' q = I q) ∧ I' 48 4 = (v_tb I m k m).1 ∧ I' 48 5 = (v_tb I m k m).2 ∧ J' = J)) := by
    intro w2
    refine V0_aload_n (pc := 36) dX10_playTurns_36 rfl ?_
    refine V_getr (pc := 37) dX10_playTurns_37 flX10_23 rfl rfl ?_
    refine V_callVi (pc := 40) (M' := mX2_leadOfSide0) dX10_playTurns_40 mlX10_27 okX2_leadOfSide0 rfl (c_X2_leadOfSide0 cs8 hms hm7) rfl rfl rfl rfl (px_hr (by omega) (by decide)) ⟨Nat.le_refl 0, Nat.le_refl 0⟩ (Nat.le_of_ble_eq_true rfl) ?_
    rw [hl]
    refine V0_istore_2 (pc := 43) dX10_playTurns_43 (by decide) rfl ?_
    refine V0_aload_n (pc := 44) dX10_playTurns_44 rfl ?_
    refine V0_aload_n (pc := 45) dX10_playTurns_45 rfl ?_
    refine V0_iload_n (pc := 46) dX10_playTurns_46 rfl ?_
    refine V0_iconst (pc := 47) (1) dX10_playTurns_47 (by decide) ?_
    refine V0_isub (pc := 48) dX10_playTurns_48 ?_
    rw [nI_pred]
    refine V0_iconst (pc := 49) (0) dX10_playTurns_49 (by decide) ?_
    refine V0_iload_n (pc := 50) dX10_playTurns_50 rfl ?_
    refine V_callVi (pc := 51) (M' := mX10_bestLead) dX10_playTurns_51 mlX10_71 okX10_bestLead rfl hc rfl rfl rfl rfl (px_hr (by omega) (by decide)) ⟨Nat.le_refl 0, Nat.le_refl 0⟩ (Nat.le_of_ble_eq_true rfl) ?_
    refine V_puti (pc := 54) dX10_playTurns_54 flX10_75 rfl rfl ?_
    refine V0_aload_n (pc := 57) dX10_playTurns_57 rfl ?_
    refine V0_bipush (pc := 58) (9) dX10_playTurns_58 (by decide) ?_
    refine V_puti (pc := 60) dX10_playTurns_60 flX10_78 rfl rfl ?_
    refine V0_iconst (pc := 63) (0) dX10_playTurns_63 (by decide) ?_
    refine V0_istore_3 (pc := 64) dX10_playTurns_64 (by decide) rfl ?_
    exact lp_X10_play hm hm7 hk4 (fun I1 a b c => ⟨rfl, a, b, c, rfl⟩) (m + 1) 0 (by omega) (by omega) _ _ (fun q hq => by rw [px_up_row hq, px_up_row hq]) (by simp [px_up_at, v_tb, t_best]) (by simp [px_up_at, v_tb, t_best])
  refine Ct.of plX10_playTurns (Nat.le_of_ble_eq_true rfl) [.ref 48, .int (nI (k + 1)), .null, .null, .null] rfl ?_
  refine V0_iconst (pc := 0) (0) dX10_playTurns_0 (by decide) ?_
  refine V0_istore_2 (pc := 1) dX10_playTurns_1 (by decide) rfl ?_
  exact lp_X10_side hm hm7 key (m + 1) 0 (by omega) (by omega)

