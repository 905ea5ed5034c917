/-! votes: who lives across -/
def v_oth (house : Nat → Int32) (v : Int32) : Nat → Nat
  | 0 => 0
  | k + 1 => if px_rem (house k) 2 = v then v_oth house v k else v_oth house v k + 1
theorem v_oth_le {house : Nat → Int32} {v : Int32} : ∀ k, v_oth house v k ≤ k := by
  intro k
  induction k with
  | zero => exact Nat.le_refl 0
  | succ k ih => unfold v_oth; split <;> omega
def v_for (I : px_I) (m : Nat) (v : Int32) : Int32 := if v = 0 then s_lead (I 9) m else -s_lead (I 9) m
def v_ok (I : px_I) (m : Nat) (v : Int32) (k : Nat) : Bool := decide (0 < v_for I m v + 2 * nI k) || (decide (v_for I m v + 2 * nI k = 0) && decide (I 8 4 = v))
theorem lp_X10_few1 {l : Launch} {I : px_I} {J : px_J} {m : Nat} {v : Int32} {v5 : Value} {Q : px_Q} (hm : I 1 6 = nI m) (hm7 : m ≤ 7) (hQ : ∀ v4, V0 l (px_rm 1 0 0) mX10_fewestToTurn (false, []) 0 0 65 [.ref 48, .int v, .int (v_for I m v), .int (nI (v_oth (I 9) v m)), .int v4, v5] [] (px_mk I J) (px_q Q)) : ∀ (f j : Nat), m + 1 - j ≤ f → j ≤ m → V0 l (px_rm 1 0 0) mX10_fewestToTurn (false, []) 0 0 28 [.ref 48, .int v, .int (v_for I m v), .int (nI (v_oth (I 9) v j)), .int (nI j), v5] [] (px_mk I J) (px_q Q) := by
  intro f
  induction f with
  | zero => intro j h1 h2; omega
  | succ f ih =>
    intro j h1 h2
    refine V0_iload (pc := 28) dX10_fewestToTurn_28 rfl ?_
    refine V0_aload_n (pc := 30) dX10_fewestToTurn_30 rfl ?_
    refine V_getr (pc := 31) dX10_fewestToTurn_31 flX10_19 rfl rfl ?_
    refine V_geti (pc := 34) dX10_fewestToTurn_34 flX10_33 rfl rfl ?_
    rw [hm]
    refine V1_icmp_ge (pc := 37) 65 dX10_fewestToTurn_37 (by decide) (fun h37 => ?_) (fun h37 => ?_)
    · skip
      have hj : j = m := by have := px_ge h37 (by omega) (by omega); omega
      subst hj
      exact hQ _
    · skip
      have hj := px_lt h37 (by omega) (by omega)
      refine V0_aload_n (pc := 40) dX10_fewestToTurn_40 rfl ?_
      refine V_getr (pc := 41) dX10_fewestToTurn_41 flX10_23 rfl rfl ?_
      refine V_getr (pc := 44) dX10_fewestToTurn_44 flX10_39 rfl rfl ?_
      refine V0_iload (pc := 47) dX10_fewestToTurn_47 rfl ?_
      refine V_iald (pc := 49) (j) dX10_fewestToTurn_49 rfl rfl (by omega) ?_
      refine V0_iconst (pc := 50) (2) dX10_fewestToTurn_50 (by decide) ?_
      refine V0_irem (pc := 51) dX10_fewestToTurn_51 (by decide) ?_
      refine V0_iload_n (pc := 52) dX10_fewestToTurn_52 rfl ?_
      refine V0_icmp_eq (pc := 53) 59 dX10_fewestToTurn_53 (by decide) (fun h53 => ?_) (fun h53 => ?_)
      · skip
        refine V0_iinc_4 (pc := 59) (nI (j + 1)) dX10_fewestToTurn_59 (by decide) rfl (nI_1 _) ?_
        refine V0_goto (pc := 62) 28 dX10_fewestToTurn_62 (by decide) ?_
        exact V_ls (by simp [v_oth, h53]) (ih (j + 1) (by omega) (by omega))
      · skip
        refine V0_iinc_3 (pc := 56) (nI ((v_oth (I 9) v j) + 1)) dX10_fewestToTurn_56 (by decide) rfl (nI_1 _) ?_
        refine V0_iinc_4 (pc := 59) (nI (j + 1)) dX10_fewestToTurn_59 (by decide) rfl (nI_1 _) ?_
        refine V0_goto (pc := 62) 28 dX10_fewestToTurn_62 (by decide) ?_
        exact V_ls (by simp [v_oth, h53]) (ih (j + 1) (by omega) (by omega))
theorem lp_X10_few2 {l : Launch} {I : px_I} {J : px_J} {m : Nat} {v : Int32} {Q : px_Q} (hm7 : m ≤ 7) : ∀ (f j : Nat), j + f = v_oth (I 9) v m + 1 → Q (some (.int (s_first (v_ok I m v) f j))) I J → ∀ v5 : Value, V0 l (px_rm 1 0 0) mX10_fewestToTurn (false, []) 0 0 68 [.ref 48, .int v, .int (v_for I m v), .int (nI (v_oth (I 9) v m)), .int (nI j), v5] [] (px_mk I J) (px_q Q) := by
  have ho := v_oth_le (house := I 9) (v := v) m
  intro f
  induction f with
  | zero =>
    intro j h1 hQ v5
    have hlt : nI (v_oth (I 9) v m) < nI j := (qI_lt (by omega) (by omega)).mpr (by omega)
    refine V0_iload (pc := 68) dX10_fewestToTurn_68 rfl ?_
    refine V0_iload_n (pc := 70) dX10_fewestToTurn_70 rfl ?_
    refine V0_icmp_gt (pc := 71) 112 dX10_fewestToTurn_71 (by decide) (fun h71 => ?_) (fun h71 => ?_)
    · skip
      refine V0_bipush (pc := 112) (-2) dX10_fewestToTurn_112 (by decide) ?_
      refine V_reti (pc := 114) _ dX10_fewestToTurn_114 rfl ?_
      exact hQ
    · skip
      exact absurd hlt h71
  | succ f ih =>
    intro j h1 hQ v5
    have hlt : ¬ nI (v_oth (I 9) v m) < nI j := fun q => absurd (px_lt q (by omega) (by omega)) (by omega)
    refine V0_iload (pc := 68) dX10_fewestToTurn_68 rfl ?_
    refine V0_iload_n (pc := 70) dX10_fewestToTurn_70 rfl ?_
    refine V0_icmp_gt (pc := 71) 112 dX10_fewestToTurn_71 (by decide) (fun h71 => ?_) (fun h71 => ?_)
    · skip
      exact absurd h71 hlt
    · skip
      refine V0_iload_n (pc := 74) dX10_fewestToTurn_74 rfl ?_
      refine V0_iconst (pc := 75) (2) dX10_fewestToTurn_75 (by decide) ?_
      refine V0_iload (pc := 76) dX10_fewestToTurn_76 rfl ?_
      refine V0_imul (pc := 78) dX10_fewestToTurn_78 ?_
      refine V0_iadd (pc := 79) dX10_fewestToTurn_79 ?_
      refine V0_istore_5 (pc := 80) dX10_fewestToTurn_80 (by decide) rfl ?_
      refine V0_iload (pc := 82) dX10_fewestToTurn_82 rfl ?_
      refine V0_if_gt (pc := 84) 103 dX10_fewestToTurn_84 (by decide) (fun h84 => ?_) (fun h84 => ?_)
      · skip
        refine V0_iload (pc := 103) dX10_fewestToTurn_103 rfl ?_
        refine V_reti (pc := 105) _ dX10_fewestToTurn_105 rfl ?_
        rw [s_first, if_pos (by first | (simp [v_ok, h84]; done) | (simp [v_ok, h84, h89, h100]; done))] at hQ
        exact hQ
      · skip
        refine V0_iload (pc := 87) dX10_fewestToTurn_87 rfl ?_
        refine V0_if_ne (pc := 89) 106 dX10_fewestToTurn_89 (by decide) (fun h89 => ?_) (fun h89 => ?_)
        · skip
          refine V0_iinc_4 (pc := 106) (nI (j + 1)) dX10_fewestToTurn_106 (by decide) rfl (nI_1 _) ?_
          refine V0_goto (pc := 109) 68 dX10_fewestToTurn_109 (by decide) ?_
          refine ih (j + 1) (by omega) ?_ _
          rw [s_first, if_neg (by first | (simp [v_ok, h84, h89]; done) | (simp [v_ok, h84, h89, h100]; done))] at hQ
          exact hQ
        · skip
          refine V0_aload_n (pc := 92) dX10_fewestToTurn_92 rfl ?_
          refine V_getr (pc := 93) dX10_fewestToTurn_93 flX10_23 rfl rfl ?_
          refine V_geti (pc := 96) dX10_fewestToTurn_96 flX10_42 rfl rfl ?_
          refine V0_iload_n (pc := 99) dX10_fewestToTurn_99 rfl ?_
          refine V0_icmp_ne (pc := 100) 106 dX10_fewestToTurn_100 (by decide) (fun h100 => ?_) (fun h100 => ?_)
          · skip
            refine V0_iinc_4 (pc := 106) (nI (j + 1)) dX10_fewestToTurn_106 (by decide) rfl (nI_1 _) ?_
            refine V0_goto (pc := 109) 68 dX10_fewestToTurn_109 (by decide) ?_
            refine ih (j + 1) (by omega) ?_ _
            rw [s_first, if_neg (by first | (simp [v_ok, h84, h89]; done) | (simp [v_ok, h84, h89, h100]; done))] at hQ
            exact hQ
          · skip
            refine V0_iload (pc := 103) dX10_fewestToTurn_103 rfl ?_
            refine V_reti (pc := 105) _ dX10_fewestToTurn_105 rfl ?_
            rw [s_first, if_pos (by first | (simp [v_ok, h84]; done) | (simp [v_ok, h84, h89, h100]; done))] at hQ
            exact hQ
theorem c_X10_fewestToTurn {l : Launch} {I : px_I} {J : px_J} {m : Nat} {v : Int32} (hm : I 1 6 = nI m) (hm7 : m ≤ 7) : CtI l mX10_fewestToTurn 1 [.ref 48, .int v] I J (s_first (v_ok I m v) (v_oth (I 9) v m + 1) 0) := by
  refine Ct.of plX10_fewestToTurn (Nat.le_of_ble_eq_true rfl) [.ref 48, .int v, .null, .null, .null, .null] rfl ?_
  refine V0_iload_n (pc := 0) dX10_fewestToTurn_0 rfl ?_
  refine V0_if_ne (pc := 1) 14 dX10_fewestToTurn_1 (by decide) (fun h1 => ?_) (fun h1 => ?_)
  · skip
    refine V0_aload_n (pc := 14) dX10_fewestToTurn_14 rfl ?_
    refine V_getr (pc := 15) dX10_fewestToTurn_15 flX10_23 rfl rfl ?_
    refine V_callVi (pc := 18) (M' := mX2_leadOfSide0) dX10_fewestToTurn_18 mlX10_27 okX2_leadOfSide0 rfl (c_X2_leadOfSide0 cs8 hm hm7) rfl rfl rfl rfl ⟨Nat.le_of_ble_eq_true rfl, Nat.le_of_ble_eq_true rfl⟩ ⟨Nat.le_refl 0, Nat.le_refl 0⟩ (Nat.le_of_ble_eq_true rfl) ?_
    refine V0_ineg (pc := 21) dX10_fewestToTurn_21 ?_
    refine V_topc (v_for I m v) (by simp [v_for, h1]) ?_
    refine V0_istore_2 (pc := 22) dX10_fewestToTurn_22 (by decide) rfl ?_
    refine V0_iconst (pc := 23) (0) dX10_fewestToTurn_23 (by decide) ?_
    refine V0_istore_3 (pc := 24) dX10_fewestToTurn_24 (by decide) rfl ?_
    refine V0_iconst (pc := 25) (0) dX10_fewestToTurn_25 (by decide) ?_
    refine V0_istore_4 (pc := 26) dX10_fewestToTurn_26 (by decide) rfl ?_
    refine lp_X10_few1 hm hm7 (fun v4 => ?_) (m + 1) 0 (by omega) (by omega)
    refine V0_iconst (pc := 65) (0) dX10_fewestToTurn_65 (by decide) ?_
    refine V0_istore_4 (pc := 66) dX10_fewestToTurn_66 (by decide) rfl ?_
    exact lp_X10_few2 hm7 (v_oth (I 9) v m + 1) 0 (by omega) ⟨rfl, rfl, rfl⟩ _
  · skip
    refine V0_aload_n (pc := 4) dX10_fewestToTurn_4 rfl ?_
    refine V_getr (pc := 5) dX10_fewestToTurn_5 flX10_23 rfl rfl ?_
    refine V_callVi (pc := 8) (M' := mX2_leadOfSide0) dX10_fewestToTurn_8 mlX10_27 okX2_leadOfSide0 rfl (c_X2_leadOfSide0 cs8 hm hm7) rfl rfl rfl rfl ⟨Nat.le_of_ble_eq_true rfl, Nat.le_of_ble_eq_true rfl⟩ ⟨Nat.le_refl 0, Nat.le_refl 0⟩ (Nat.le_of_ble_eq_true rfl) ?_
    refine V0_goto (pc := 11) 22 dX10_fewestToTurn_11 (by decide) ?_
    refine V_topc (v_for I m v) (by simp [v_for, h1]) ?_
    refine V0_istore_2 (pc := 22) dX10_fewestToTurn_22 (by decide) rfl ?_
    refine V0_iconst (pc := 23) (0) dX10_fewestToTurn_23 (by decide) ?_
    refine V0_istore_3 (pc := 24) dX10_fewestToTurn_24 (by decide) rfl ?_
    refine V0_iconst (pc := 25) (0) dX10_fewestToTurn_25 (by decide) ?_
    refine V0_istore_4 (pc := 26) dX10_fewestToTurn_26 (by decide) rfl ?_
    refine lp_X10_few1 hm hm7 (fun v4 => ?_) (m + 1) 0 (by omega) (by omega)
    refine V0_iconst (pc := 65) (0) dX10_fewestToTurn_65 (by decide) ?_
    refine V0_istore_4 (pc := 66) dX10_fewestToTurn_66 (by decide) rfl ?_
    exact lp_X10_few2 hm7 (v_oth (I 9) v m + 1) 0 (by omega) ⟨rfl, rfl, rfl⟩ _
abbrev v_acr (I : px_I) (a b : Nat) : Bool := !decide (px_rem (I 9 a) 2 = px_rem (I 9 b) 2)
theorem c_X10_areAcross {l : Launch} {I : px_I} {J : px_J} {a b : Nat} (ha : a < 7) (hb : b < 7) : CtI l mX10_areAcross 0 [.ref 48, .int (nI a), .int (nI b)] I J (b2 (v_acr I a b)) := by
  refine Ct.of plX10_areAcross (Nat.le_of_ble_eq_true rfl) [.ref 48, .int (nI a), .int (nI b)] rfl ?_
  refine V0_aload_n (pc := 0) dX10_areAcross_0 rfl ?_
  refine V_getr (pc := 1) dX10_areAcross_1 flX10_23 rfl rfl ?_
  refine V_getr (pc := 4) dX10_areAcross_4 flX10_39 rfl rfl ?_
  refine V0_iload_n (pc := 7) dX10_areAcross_7 rfl ?_
  refine V_iald (pc := 8) (a) dX10_areAcross_8 rfl rfl (by omega) ?_
  refine V0_iconst (pc := 9) (2) dX10_areAcross_9 (by decide) ?_
  refine V0_irem (pc := 10) dX10_areAcross_10 (by decide) ?_
  refine V0_aload_n (pc := 11) dX10_areAcross_11 rfl ?_
  refine V_getr (pc := 12) dX10_areAcross_12 flX10_23 rfl rfl ?_
  refine V_getr (pc := 15) dX10_areAcross_15 flX10_39 rfl rfl ?_
  refine V0_iload_n (pc := 18) dX10_areAcross_18 rfl ?_
  refine V_iald (pc := 19) (b) dX10_areAcross_19 rfl rfl (by omega) ?_
  refine V0_iconst (pc := 20) (2) dX10_areAcross_20 (by decide) ?_
  refine V0_irem (pc := 21) dX10_areAcross_21 (by decide) ?_
  refine V0_icmp_eq (pc := 22) 29 dX10_areAcross_22 (by decide) (fun h22 => ?_) (fun h22 => ?_)
  · skip
    refine V0_iconst (pc := 29) (0) dX10_areAcross_29 (by decide) ?_
    refine V_retz (pc := 30) _ dX10_areAcross_30 rfl (Or.inl rfl) ?_
    refine px_li ?_
    simp [v_acr, b2, h22]
  · skip
    refine V0_iconst (pc := 25) (1) dX10_areAcross_25 (by decide) ?_
    refine V0_goto (pc := 26) 30 dX10_areAcross_26 (by decide) ?_
    refine V_retz (pc := 30) _ dX10_areAcross_30 rfl (Or.inr rfl) ?_
    refine px_li ?_
    simp [v_acr, b2, h22]
def v_near (I : px_I) (one : Nat) : Nat → Int32
  | 0 => 12
  | k + 1 => if v_acr I one k = true then (if s_apart (I 9 one) (I 9 k) < v_near I one k then s_apart (I 9 one) (I 9 k) else v_near I one k) else v_near I one k
theorem lp_X10_near {l : Launch} {I : px_I} {J : px_J} {m one : Nat} {Q : px_Q} (hm : I 1 6 = nI m) (hm7 : m ≤ 7) (ho7 : one < 7) (hQ : Q (some (.int (if v_near I one m < 12 then v_near I one m else -2))) I J) : ∀ (f j : Nat), m + 1 - j ≤ f → j ≤ m → V0 l (px_rm 2 0 0) mX10_nearestAcross (false, []) 0 0 5 [.ref 48, .int (nI one), .int (v_near I one j), .int (nI j)] [] (px_mk I J) (px_q Q) := by
  intro f
  induction f with
  | zero => intro j h1 h2; omega
  | succ f ih =>
    intro j h1 h2
    refine V0_iload_n (pc := 5) dX10_nearestAcross_5 rfl ?_
    refine V0_aload_n (pc := 6) dX10_nearestAcross_6 rfl ?_
    refine V_getr (pc := 7) dX10_nearestAcross_7 flX10_19 rfl rfl ?_
    refine V_geti (pc := 10) dX10_nearestAcross_10 flX10_33 rfl rfl ?_
    rw [hm]
    refine V1_icmp_ge (pc := 13) 57 dX10_nearestAcross_13 (by decide) (fun h13 => ?_) (fun h13 => ?_)
    · skip
      have hj : j = m := by have := px_ge h13 (by omega) (by omega); omega
      subst hj
      refine V0_iload_n (pc := 57) dX10_nearestAcross_57 rfl ?_
      refine V0_bipush (pc := 58) (12) dX10_nearestAcross_58 (by decide) ?_
      refine V1_icmp_ge (pc := 60) 67 dX10_nearestAcross_60 (by decide) (fun h60 => ?_) (fun h60 => ?_)
      · skip
        refine V0_bipush (pc := 67) (-2) dX10_nearestAcross_67 (by decide) ?_
        refine V_reti (pc := 69) _ dX10_nearestAcross_69 rfl ?_
        simpa [h60] using hQ
      · skip
        refine V0_iload_n (pc := 63) dX10_nearestAcross_63 rfl ?_
        refine V0_goto (pc := 64) 69 dX10_nearestAcross_64 (by decide) ?_
        refine V_reti (pc := 69) _ dX10_nearestAcross_69 rfl ?_
        simpa [h60] using hQ
    · skip
      have hj := px_lt h13 (by omega) (by omega)
      refine V0_aload_n (pc := 16) dX10_nearestAcross_16 rfl ?_
      refine V0_iload_n (pc := 17) dX10_nearestAcross_17 rfl ?_
      refine V0_iload_n (pc := 18) dX10_nearestAcross_18 rfl ?_
      refine V_callVi (pc := 19) (M' := mX10_areAcross) dX10_nearestAcross_19 mlX10_45 okX10_areAcross rfl (c_X10_areAcross (by omega) (by omega)) rfl rfl rfl rfl ⟨Nat.le_of_ble_eq_true rfl, Nat.le_of_ble_eq_true rfl⟩ ⟨Nat.le_refl 0, Nat.le_refl 0⟩ (Nat.le_of_ble_eq_true rfl) ?_
      refine V_ifeqb (pc := 22) 51 dX10_nearestAcross_22 (by decide) (fun h22 => ?_) (fun h22 => ?_)
      · skip
        refine V0_iinc_3 (pc := 51) (nI (j + 1)) dX10_nearestAcross_51 (by decide) rfl (nI_1 _) ?_
        refine V0_goto (pc := 54) 5 dX10_nearestAcross_54 (by decide) ?_
        exact V_ls (by simp only [v_near, h22]; simp) (ih (j + 1) (by omega) (by omega))
      · skip
        refine V0_iload_n (pc := 25) dX10_nearestAcross_25 rfl ?_
        refine V0_aload_n (pc := 26) dX10_nearestAcross_26 rfl ?_
        refine V_getr (pc := 27) dX10_nearestAcross_27 flX10_23 rfl rfl ?_
        refine V_getr (pc := 30) dX10_nearestAcross_30 flX10_39 rfl rfl ?_
        refine V0_iload_n (pc := 33) dX10_nearestAcross_33 rfl ?_
        refine V_iald (pc := 34) (one) dX10_nearestAcross_34 rfl rfl (by omega) ?_
        refine V0_aload_n (pc := 35) dX10_nearestAcross_35 rfl ?_
        refine V_getr (pc := 36) dX10_nearestAcross_36 flX10_23 rfl rfl ?_
        refine V_getr (pc := 39) dX10_nearestAcross_39 flX10_39 rfl rfl ?_
        refine V0_iload_n (pc := 42) dX10_nearestAcross_42 rfl ?_
        refine V_iald (pc := 43) (j) dX10_nearestAcross_43 rfl rfl (by omega) ?_
        refine V_callNi (pc := 44) (M' := mX11_placesApart) (host := RX11) dX10_nearestAcross_44 (by decide +kernel) okX11_placesApart rfl c_X11_placesApart rfl rfl ⟨Nat.le_of_ble_eq_true rfl, Nat.le_of_ble_eq_true rfl⟩ ⟨Nat.le_refl 0, Nat.le_refl 0⟩ (Nat.le_of_ble_eq_true rfl) ?_
        refine V0_min (pc := 47) dX10_nearestAcross_47 mlX10_53 js_min ji_Math jc_min (Nat.le_of_ble_eq_true rfl) (Nat.le_of_ble_eq_true rfl) ?_
        refine V0_istore_2 (pc := 50) dX10_nearestAcross_50 (by decide) rfl ?_
        refine V0_iinc_3 (pc := 51) (nI (j + 1)) dX10_nearestAcross_51 (by decide) rfl (nI_1 _) ?_
        refine V0_goto (pc := 54) 5 dX10_nearestAcross_54 (by decide) ?_
        exact V_ls (by simp only [v_near, h22]; simp) (ih (j + 1) (by omega) (by omega))
theorem c_X10_nearestAcross {l : Launch} {I : px_I} {J : px_J} {m one : Nat} (hm : I 1 6 = nI m) (hm7 : m ≤ 7) (ho7 : one < 7) : CtI l mX10_nearestAcross 2 [.ref 48, .int (nI one)] I J (if v_near I one m < 12 then v_near I one m else -2) := by
  refine Ct.of plX10_nearestAcross (Nat.le_of_ble_eq_true rfl) [.ref 48, .int (nI one), .null, .null] rfl ?_
  refine V0_bipush (pc := 0) (12) dX10_nearestAcross_0 (by decide) ?_
  refine V0_istore_2 (pc := 2) dX10_nearestAcross_2 (by decide) rfl ?_
  refine V0_iconst (pc := 3) (0) dX10_nearestAcross_3 (by decide) ?_
  refine V0_istore_3 (pc := 4) dX10_nearestAcross_4 (by decide) rfl ?_
  exact lp_X10_near hm hm7 ho7 ⟨rfl, rfl, rfl⟩ (m + 1) 0 (by omega) (by omega)
/-! pairs -/
theorem or_bit : ∀ s, s < 128 → ∀ o, o < 7 → nI s ||| ((1 : Int32) <<< (nI o &&& 31)) = nI (s ||| 2 ^ o) := by decide +kernel
theorem or_lt {s o : Nat} (hs : s < 128) (ho : o < 7) : s ||| 2 ^ o < 128 := Nat.or_lt_two_pow (n := 7) hs (Nat.pow_lt_pow_right (by omega) ho)
theorem nar1 : vp_nar .boolean 1 = 1 := by decide +kernel
theorem nar0 : vp_nar .boolean 0 = 0 := by decide +kernel
def v_nr (I : px_I) (one : Nat) (x : Int32) (o : Nat) : Bool := v_acr I one o && !decide (x < s_apart (I 9 one) (I 9 o))
def v_in (one : Nat) (x : Int32) (s : Nat) (I : px_I) : Nat → px_I
  | 0 => I
  | o + 1 => if v_nr (v_in one x s I o) one x o = true then px_up (v_in one x s I o) 50 (s ||| 2 ^ o) 1 else v_in one x s I o
def v_set (one : Nat) (x : Int32) (m s : Nat) (I : px_I) : px_I := if I 50 s = 0 then I else v_in one x s I m
def v_off (one : Nat) (x : Int32) (m : Nat) (I : px_I) : Nat → px_I
  | 0 => I
  | s + 1 => v_off one x m (v_set one x m s I) s
theorem v_in_row {one s o q : Nat} {x : Int32} {I : px_I} (h : q ≠ 50) : v_in one x s I o q = I q := by
  induction o with
  | zero => rfl
  | succ o ih => rw [v_in]; split
                 · rw [px_up_row h, ih]
                 · exact ih
theorem v_in_ne {one s o : Nat} {x : Int32} {I : px_I} (h : ¬ I 50 s = 0) : ¬ v_in one x s I o 50 s = 0 := by
  induction o with
  | zero => exact h
  | succ o ih =>
    rw [v_in]; split
    · rw [px_up_at]; split
      · decide
      · exact ih
    · exact ih
theorem v_set_row {one s m q : Nat} {x : Int32} {I : px_I} (h : q ≠ 50) : v_set one x m s I q = I q := by
  unfold v_set; split
  · rfl
  · exact v_in_row h
theorem v_off_row {one m q : Nat} {x : Int32} (h : q ≠ 50) : ∀ (s : Nat) (I : px_I), v_off one x m I s q = I q := by
  intro s
  induction s with
  | zero => intro I; rfl
  | succ s ih => intro I; rw [v_off, ih, v_set_row h]
theorem lp_X10_pairIn {l : Launch} {S : px_I} {J : px_J} {m one s : Nat} {x : Int32} {Q : px_Q} (hm : S 1 6 = nI m) (hm7 : m ≤ 7) (ho7 : one < 7) (hs : s < 128) (hne : ¬ S 50 s = 0) (hQ : ∀ v4 v5 v6 : Value, V0 l (px_rm 2 0 0) mX10_pairOff (false, []) 0 0 116 [.ref 48, .int (nI one), .int x, .int (nI s), v4, v5, v6] [] (px_mk (v_in one x s S m) J) (px_q Q)) : ∀ (f j : Nat), m + 1 - j ≤ f → j ≤ m → ∀ v5 v6 : Value, V0 l (px_rm 2 0 0) mX10_pairOff (false, []) 0 0 15 [.ref 48, .int (nI one), .int x, .int (nI s), .int (nI j), v5, v6] [] (px_mk (v_in one x s S j) J) (px_q Q) := by
  intro f
  induction f with
  | zero => intro j h1 h2; omega
  | succ f ih =>
    intro j h1 h2 v5 v6
    have hmj : v_in one x s S j 1 6 = nI m := by rw [v_in_row (by omega)]; exact hm
    have hnj := v_in_ne (one := one) (x := x) (o := j) hne
    refine V0_aload_n (pc := 15) dX10_pairOff_15 rfl ?_
    refine V_getr (pc := 16) dX10_pairOff_16 flX10_15 rfl rfl ?_
    refine V0_iload_n (pc := 19) dX10_pairOff_19 rfl ?_
    refine V_zald (pc := 20) (s) dX10_pairOff_20 rfl rfl (by omega) ?_
    refine V0_if_eq (pc := 21) 116 dX10_pairOff_21 (by decide) (fun h21 => ?_) (fun h21 => ?_)
    · skip
      exact absurd h21 hnj
    · skip
      refine V0_iload (pc := 24) dX10_pairOff_24 rfl ?_
      refine V0_aload_n (pc := 26) dX10_pairOff_26 rfl ?_
      refine V_getr (pc := 27) dX10_pairOff_27 flX10_19 rfl rfl ?_
      refine V_geti (pc := 30) dX10_pairOff_30 flX10_33 rfl rfl ?_
      rw [hmj]
      refine V1_icmp_ge (pc := 33) 116 dX10_pairOff_33 (by decide) (fun h33 => ?_) (fun h33 => ?_)
      · skip
        have hj : j = m := by have := px_ge h33 (by omega) (by omega); omega
        subst hj
        exact hQ _ _ _
      · skip
        have hj := px_lt h33 (by omega) (by omega)
        refine V0_aload_n (pc := 36) dX10_pairOff_36 rfl ?_
        refine V0_iload_n (pc := 37) dX10_pairOff_37 rfl ?_
        refine V0_iload (pc := 38) dX10_pairOff_38 rfl ?_
        refine V_callVi (pc := 40) (M' := mX10_areAcross) dX10_pairOff_40 mlX10_45 okX10_areAcross rfl (c_X10_areAcross (by omega) (by omega)) rfl rfl rfl rfl ⟨Nat.le_of_ble_eq_true rfl, Nat.le_of_ble_eq_true rfl⟩ ⟨Nat.le_refl 0, Nat.le_refl 0⟩ (Nat.le_of_ble_eq_true rfl) ?_
        refine V_ifeqb (pc := 43) 76 dX10_pairOff_43 (by decide) (fun h43 => ?_) (fun h43 => ?_)
        · skip
          refine V0_iconst (pc := 76) (0) dX10_pairOff_76 (by decide) ?_
          refine V0_istore_5 (pc := 77) dX10_pairOff_77 (by decide) rfl ?_
          refine V0_iload_n (pc := 79) dX10_pairOff_79 rfl ?_
          refine V0_iconst (pc := 80) (1) dX10_pairOff_80 (by decide) ?_
          refine V0_iload (pc := 81) dX10_pairOff_81 rfl ?_
          refine V0_ishl (pc := 83) dX10_pairOff_83 ?_
          refine V0_ior (pc := 84) dX10_pairOff_84 ?_
          rw [or_bit s hs j (by omega)]
          refine V0_istore_6 (pc := 85) dX10_pairOff_85 (by decide) rfl ?_
          refine V0_iload (pc := 87) dX10_pairOff_87 rfl ?_
          refine V0_if_eq (pc := 89) 110 dX10_pairOff_89 (by decide) (fun h89 => ?_) (fun h89 => ?_)
          · skip
            refine V0_iinc_4 (pc := 110) (nI (j + 1)) dX10_pairOff_110 (by decide) rfl (nI_1 _) ?_
            refine V0_goto (pc := 113) 15 dX10_pairOff_113 (by decide) ?_
            first | (have hv : v_nr (v_in one x s S j) one x j = false := (by unfold v_nr; rw [h43]; rfl); exact V_st rfl (by rw [v_in, if_neg (by rw [hv]; decide)]) (ih (j + 1) (by omega) (by omega) _ _)) | (have hv : v_nr (v_in one x s S j) one x j = true := (by unfold v_nr; rw [h43, decide_eq_false h69]; rfl); exact V_st rfl (by rw [v_in, if_pos hv, nar1]) (ih (j + 1) (by omega) (by omega) _ _)) | (have hv : v_nr (v_in one x s S j) one x j = false := (by unfold v_nr; rw [h43, decide_eq_true h69]; rfl); exact V_st rfl (by rw [v_in, if_neg (by rw [hv]; decide)]) (ih (j + 1) (by omega) (by omega) _ _))
          · skip
            exact absurd h89 (by decide)
        · skip
          refine V0_aload_n (pc := 46) dX10_pairOff_46 rfl ?_
          refine V_getr (pc := 47) dX10_pairOff_47 flX10_23 rfl rfl ?_
          refine V_getr (pc := 50) dX10_pairOff_50 flX10_39 rfl rfl ?_
          refine V0_iload_n (pc := 53) dX10_pairOff_53 rfl ?_
          refine V_iald (pc := 54) (one) dX10_pairOff_54 rfl rfl (by omega) ?_
          refine V0_aload_n (pc := 55) dX10_pairOff_55 rfl ?_
          refine V_getr (pc := 56) dX10_pairOff_56 flX10_23 rfl rfl ?_
          refine V_getr (pc := 59) dX10_pairOff_59 flX10_39 rfl rfl ?_
          refine V0_iload (pc := 62) dX10_pairOff_62 rfl ?_
          refine V_iald (pc := 64) (j) dX10_pairOff_64 rfl rfl (by omega) ?_
          refine V_callNi (pc := 65) (M' := mX11_placesApart) (host := RX11) dX10_pairOff_65 (by decide +kernel) okX11_placesApart rfl c_X11_placesApart rfl rfl ⟨Nat.le_of_ble_eq_true rfl, Nat.le_of_ble_eq_true rfl⟩ ⟨Nat.le_refl 0, Nat.le_refl 0⟩ (Nat.le_of_ble_eq_true rfl) ?_
          refine V0_iload_n (pc := 68) dX10_pairOff_68 rfl ?_
          refine V0_icmp_gt (pc := 69) 76 dX10_pairOff_69 (by decide) (fun h69 => ?_) (fun h69 => ?_)
          · skip
            refine V0_iconst (pc := 76) (0) dX10_pairOff_76 (by decide) ?_
            refine V0_istore_5 (pc := 77) dX10_pairOff_77 (by decide) rfl ?_
            refine V0_iload_n (pc := 79) dX10_pairOff_79 rfl ?_
            refine V0_iconst (pc := 80) (1) dX10_pairOff_80 (by decide) ?_
            refine V0_iload (pc := 81) dX10_pairOff_81 rfl ?_
            refine V0_ishl (pc := 83) dX10_pairOff_83 ?_
            refine V0_ior (pc := 84) dX10_pairOff_84 ?_
            rw [or_bit s hs j (by omega)]
            refine V0_istore_6 (pc := 85) dX10_pairOff_85 (by decide) rfl ?_
            refine V0_iload (pc := 87) dX10_pairOff_87 rfl ?_
            refine V0_if_eq (pc := 89) 110 dX10_pairOff_89 (by decide) (fun h89 => ?_) (fun h89 => ?_)
            · skip
              refine V0_iinc_4 (pc := 110) (nI (j + 1)) dX10_pairOff_110 (by decide) rfl (nI_1 _) ?_
              refine V0_goto (pc := 113) 15 dX10_pairOff_113 (by decide) ?_
              first | (have hv : v_nr (v_in one x s S j) one x j = false := (by unfold v_nr; rw [h43]; rfl); exact V_st rfl (by rw [v_in, if_neg (by rw [hv]; decide)]) (ih (j + 1) (by omega) (by omega) _ _)) | (have hv : v_nr (v_in one x s S j) one x j = true := (by unfold v_nr; rw [h43, decide_eq_false h69]; rfl); exact V_st rfl (by rw [v_in, if_pos hv, nar1]) (ih (j + 1) (by omega) (by omega) _ _)) | (have hv : v_nr (v_in one x s S j) one x j = false := (by unfold v_nr; rw [h43, decide_eq_true h69]; rfl); exact V_st rfl (by rw [v_in, if_neg (by rw [hv]; decide)]) (ih (j + 1) (by omega) (by omega) _ _))
            · skip
              exact absurd h89 (by decide)
          · skip
            refine V0_iconst (pc := 72) (1) dX10_pairOff_72 (by decide) ?_
            refine V0_goto (pc := 73) 77 dX10_pairOff_73 (by decide) ?_
            refine V0_istore_5 (pc := 77) dX10_pairOff_77 (by decide) rfl ?_
            refine V0_iload_n (pc := 79) dX10_pairOff_79 rfl ?_
            refine V0_iconst (pc := 80) (1) dX10_pairOff_80 (by decide) ?_
            refine V0_iload (pc := 81) dX10_pairOff_81 rfl ?_
            refine V0_ishl (pc := 83) dX10_pairOff_83 ?_
            refine V0_ior (pc := 84) dX10_pairOff_84 ?_
            rw [or_bit s hs j (by omega)]
            refine V0_istore_6 (pc := 85) dX10_pairOff_85 (by decide) rfl ?_
            refine V0_iload (pc := 87) dX10_pairOff_87 rfl ?_
            refine V0_if_eq (pc := 89) 110 dX10_pairOff_89 (by decide) (fun h89 => ?_) (fun h89 => ?_)
            · skip
              exact absurd h89 (by decide)
            · skip
              refine V0_iload (pc := 92) dX10_pairOff_92 rfl ?_
              refine V0_aload_n (pc := 94) dX10_pairOff_94 rfl ?_
              refine V_getr (pc := 95) dX10_pairOff_95 flX10_15 rfl rfl ?_
              refine V_alen (pc := 98) (128) dX10_pairOff_98 rfl (by decide) (by decide) ?_
              refine V1_icmp_ge (pc := 99) 110 dX10_pairOff_99 (by decide) (fun h99 => ?_) (fun h99 => ?_)
              · skip
                exact absurd ((qI_lt (a := s ||| 2 ^ j) (b := 128) (by have := or_lt hs (show j < 7 by omega); omega) (by omega)).mpr (or_lt hs (by omega))) h99
              · skip
                refine V0_aload_n (pc := 102) dX10_pairOff_102 rfl ?_
                refine V_getr (pc := 103) dX10_pairOff_103 flX10_15 rfl rfl ?_
                refine V0_iload (pc := 106) dX10_pairOff_106 rfl ?_
                refine V0_iconst (pc := 108) (1) dX10_pairOff_108 (by decide) ?_
                refine V_zast (pc := 109) (HOr.hOr s (2 ^ j)) dX10_pairOff_109 rfl rfl (or_lt hs (by omega)) ?_
                refine V0_iinc_4 (pc := 110) (nI (j + 1)) dX10_pairOff_110 (by decide) rfl (nI_1 _) ?_
                refine V0_goto (pc := 113) 15 dX10_pairOff_113 (by decide) ?_
                first | (have hv : v_nr (v_in one x s S j) one x j = false := (by unfold v_nr; rw [h43]; rfl); exact V_st rfl (by rw [v_in, if_neg (by rw [hv]; decide)]) (ih (j + 1) (by omega) (by omega) _ _)) | (have hv : v_nr (v_in one x s S j) one x j = true := (by unfold v_nr; rw [h43, decide_eq_false h69]; rfl); exact V_st rfl (by rw [v_in, if_pos hv, nar1]) (ih (j + 1) (by omega) (by omega) _ _)) | (have hv : v_nr (v_in one x s S j) one x j = false := (by unfold v_nr; rw [h43, decide_eq_true h69]; rfl); exact V_st rfl (by rw [v_in, if_neg (by rw [hv]; decide)]) (ih (j + 1) (by omega) (by omega) _ _))
theorem lp_X10_pairNo {l : Launch} {S : px_I} {J : px_J} {one s : Nat} {x : Int32} {v4 v5 v6 : Value} {Q : px_Q} (hs : s < 128) (hne : S 50 s = 0) (kk : V0 l (px_rm 2 0 0) mX10_pairOff (false, []) 0 0 116 [.ref 48, .int (nI one), .int x, .int (nI s), v4, v5, v6] [] (px_mk S J) (px_q Q)) : V0 l (px_rm 2 0 0) mX10_pairOff (false, []) 0 0 15 [.ref 48, .int (nI one), .int x, .int (nI s), v4, v5, v6] [] (px_mk S J) (px_q Q) := by
  refine V0_aload_n (pc := 15) dX10_pairOff_15 rfl ?_
  refine V_getr (pc := 16) dX10_pairOff_16 flX10_15 rfl rfl ?_
  refine V0_iload_n (pc := 19) dX10_pairOff_19 rfl ?_
  refine V_zald (pc := 20) (s) dX10_pairOff_20 rfl rfl (by omega) ?_
  refine V0_if_eq (pc := 21) 116 dX10_pairOff_21 (by decide) (fun h21 => ?_) (fun h21 => ?_)
  · skip
    exact kk
  · skip
    exact absurd hne h21
theorem px_dc (x : Int32) : x + Int32.ofInt (-1) = x - 1 := by rw [Int32.sub_eq_add_neg]; rfl
theorem lp_X10_pairOff {l : Launch} {J : px_J} {m one : Nat} {x : Int32} {Q : px_Q} (hm7 : m ≤ 7) (ho7 : one < 7) : ∀ (s : Nat) (S : px_I), s ≤ 128 → S 1 6 = nI m → Q none (v_off one x m S s) J → ∀ v4 v5 v6 : Value, V0 l (px_rm 2 0 0) mX10_pairOff (false, []) 0 0 8 [.ref 48, .int (nI one), .int x, .int (nI s - 1), v4, v5, v6] [] (px_mk S J) (px_q Q) := by
  intro s
  induction s with
  | zero =>
    intro S h1 hm hQ v4 v5 v6
    refine V0_iload_n (pc := 8) dX10_pairOff_8 rfl ?_
    refine V0_if_lt (pc := 9) 122 dX10_pairOff_9 (by decide) (fun h9 => ?_) (fun h9 => ?_)
    · skip
      refine V_retv (pc := 122) dX10_pairOff_122 rfl ?_
      exact hQ
    · skip
      exact absurd (show nI 0 - 1 < 0 by decide) h9
  | succ s ih =>
    intro S h1 hm hQ v4 v5 v6
    rw [nI_pred]
    have back : ∀ (S' : px_I), S' = v_set one x m s S → ∀ v4 v5 v6 : Value, V0 l (px_rm 2 0 0) mX10_pairOff (false, []) 0 0 116 [.ref 48, .int (nI one), .int x, .int (nI s), v4, v5, v6] [] (px_mk S' J) (px_q Q) := by
      intro T e v4 v5 v6
      have hmT : T 1 6 = nI m := by rw [e, v_set_row (by omega)]; exact hm
      have hQT : Q none (v_off one x m T s) J := by rw [e]; exact hQ
      refine V0_iinc_3 (pc := 116) (nI s - 1) dX10_pairOff_116 (by decide) rfl (px_dc _) ?_
      refine V0_goto (pc := 119) 8 dX10_pairOff_119 (by decide) ?_
      exact ih T (by omega) hmT hQT _ _ _
    refine V0_iload_n (pc := 8) dX10_pairOff_8 rfl ?_
    refine V0_if_lt (pc := 9) 122 dX10_pairOff_9 (by decide) (fun h9 => ?_) (fun h9 => ?_)
    · skip
      exact absurd h9 (nI_nn (by omega))
    · skip
      refine V0_iconst (pc := 12) (0) dX10_pairOff_12 (by decide) ?_
      refine V0_istore_4 (pc := 13) dX10_pairOff_13 (by decide) rfl ?_
      by_cases h0 : S 50 s = 0
      · exact lp_X10_pairNo (by omega) h0 (back _ (by unfold v_set; rw [if_pos h0]) _ _ _)
      · exact lp_X10_pairIn hm hm7 ho7 (by omega) h0 (back _ (by unfold v_set; rw [if_neg h0])) (m + 1) 0 (by omega) (by omega) _ _
theorem c_X10_pairOff {l : Launch} {I : px_I} {J : px_J} {m one : Nat} {x : Int32} (hm : I 1 6 = nI m) (hm7 : m ≤ 7) (ho7 : one < 7) : Ct l mX10_pairOff 2 [.ref 48, .int (nI one), .int x] I J (px_qs (v_off one x m I 128) J) := by
  refine Ct.of plX10_pairOff (Nat.le_of_ble_eq_true rfl) [.ref 48, .int (nI one), .int x, .null, .null, .null, .null] rfl ?_
  refine V0_aload_n (pc := 0) dX10_pairOff_0 rfl ?_
  refine V_getr (pc := 1) dX10_pairOff_1 flX10_15 rfl rfl ?_
  refine V_alen (pc := 4) (128) dX10_pairOff_4 rfl (by decide) (by decide) ?_
  refine V0_iconst (pc := 5) (1) dX10_pairOff_5 (by decide) ?_
  refine V0_isub (pc := 6) dX10_pairOff_6 ?_
  refine V0_istore_3 (pc := 7) dX10_pairOff_7 (by decide) rfl ?_
  exact lp_X10_pairOff hm7 ho7 128 I (by omega) hm ⟨rfl, rfl, rfl⟩ _ _ _
/-- all sets that can be reached, then their largest -/
def v_zero (I : px_I) : Nat → px_I
  | 0 => I
  | s + 1 => px_up (v_zero I s) 50 s (if s = 0 then 1 else 0)
def v_all (x : Int32) (m : Nat) (I : px_I) : Nat → px_I
  | 0 => I
  | k + 1 => if px_rem (v_all x m I k 9 k) 2 = 0 then v_off k x m (v_all x m I k) 128 else v_all x m I k
def v_max (I : px_I) : Nat → Int32
  | 0 => 0
  | s + 1 => if I 50 s = 0 then v_max I s else (if v_max I s < s_bc (nI s) then s_bc (nI s) else v_max I s)
theorem v_zero_row {s q : Nat} {I : px_I} (h : q ≠ 50) : v_zero I s q = I q := by
  induction s with
  | zero => rfl
  | succ s ih => rw [v_zero, px_up_row h, ih]
theorem v_all_row {k m q : Nat} {x : Int32} {I : px_I} (h : q ≠ 50) : v_all x m I k q = I q := by
  induction k with
  | zero => rfl
  | succ k ih => rw [v_all]; split
                 · rw [v_off_row h, ih]
                 · exact ih
theorem nI_eq0 {n : Nat} (h : n < 2 ^ 31) : (nI n = 0) ↔ n = 0 := by
  rw [← nI_0]; exact qI_inj h (by omega)
theorem lp_X10_most1 {l : Launch} {I : px_I} {J : px_J} {x : Int32} {v3 : Value} {Q : px_Q} (hQ : ∀ v2, V0 l (px_rm 3 0 0) mX10_mostPairs (false, []) 0 0 32 [.ref 48, .int x, v2, v3] [] (px_mk (v_zero I 128) J) (px_q Q)) : ∀ (f j : Nat), 129 - j ≤ f → j ≤ 128 → V0 l (px_rm 3 0 0) mX10_mostPairs (false, []) 0 0 2 [.ref 48, .int x, .int (nI j), v3] [] (px_mk (v_zero I j) J) (px_q Q) := by
  intro f
  induction f with
  | zero => intro j h1 h2; omega
  | succ f ih =>
    intro j h1 h2
    refine V0_iload_n (pc := 2) dX10_mostPairs_2 rfl ?_
    refine V0_aload_n (pc := 3) dX10_mostPairs_3 rfl ?_
    refine V_getr (pc := 4) dX10_mostPairs_4 flX10_15 rfl rfl ?_
    refine V_alen (pc := 7) (128) dX10_mostPairs_7 rfl (by decide) (by decide) ?_
    refine V1_icmp_ge (pc := 8) 32 dX10_mostPairs_8 (by decide) (fun h8 => ?_) (fun h8 => ?_)
    · skip
      have hj : j = 128 := by have := px_gec 128 rfl h8 (by omega) (by omega); omega
      subst hj
      exact hQ _
    · skip
      have hj : j < 128 := px_ltc 128 rfl h8 (by omega) (by omega)
      refine V0_aload_n (pc := 11) dX10_mostPairs_11 rfl ?_
      refine V_getr (pc := 12) dX10_mostPairs_12 flX10_15 rfl rfl ?_
      refine V0_iload_n (pc := 15) dX10_mostPairs_15 rfl ?_
      refine V0_iload_n (pc := 16) dX10_mostPairs_16 rfl ?_
      refine V0_if_ne (pc := 17) 24 dX10_mostPairs_17 (by decide) (fun h17 => ?_) (fun h17 => ?_)
      · skip
        refine V0_iconst (pc := 24) (0) dX10_mostPairs_24 (by decide) ?_
        refine V_zast (pc := 25) (j) dX10_mostPairs_25 rfl rfl (by omega) ?_
        refine V0_iinc_2 (pc := 26) (nI (j + 1)) dX10_mostPairs_26 (by decide) rfl (nI_1 _) ?_
        refine V0_goto (pc := 29) 2 dX10_mostPairs_29 (by decide) ?_
        exact V_st rfl (by rw [v_zero]; first | (rw [nar1, if_pos ((nI_eq0 (by omega)).mp h17)]; done) | (rw [nar0, if_neg (fun q => h17 ((nI_eq0 (by omega)).mpr q))]; done)) (ih (j + 1) (by omega) (by omega))
      · skip
        refine V0_iconst (pc := 20) (1) dX10_mostPairs_20 (by decide) ?_
        refine V0_goto (pc := 21) 25 dX10_mostPairs_21 (by decide) ?_
        refine V_zast (pc := 25) (j) dX10_mostPairs_25 rfl rfl (by omega) ?_
        refine V0_iinc_2 (pc := 26) (nI (j + 1)) dX10_mostPairs_26 (by decide) rfl (nI_1 _) ?_
        refine V0_goto (pc := 29) 2 dX10_mostPairs_29 (by decide) ?_
        exact V_st rfl (by rw [v_zero]; first | (rw [nar1, if_pos ((nI_eq0 (by omega)).mp h17)]; done) | (rw [nar0, if_neg (fun q => h17 ((nI_eq0 (by omega)).mpr q))]; done)) (ih (j + 1) (by omega) (by omega))
theorem lp_X10_most2 {l : Launch} {I : px_I} {J : px_J} {m : Nat} {x : Int32} {v3 : Value} {Q : px_Q} (hm : I 1 6 = nI m) (hm7 : m ≤ 7) (hQ : ∀ v2, V0 l (px_rm 3 0 0) mX10_mostPairs (false, []) 0 0 71 [.ref 48, .int x, v2, v3] [] (px_mk (v_all x m I m) J) (px_q Q)) : ∀ (f j : Nat), m + 1 - j ≤ f → j ≤ m → V0 l (px_rm 3 0 0) mX10_mostPairs (false, []) 0 0 34 [.ref 48, .int x, .int (nI j), v3] [] (px_mk (v_all x m I j) J) (px_q Q) := by
  intro f
  induction f with
  | zero => intro j h1 h2; omega
  | succ f ih =>
    intro j h1 h2
    have hmj : v_all x m I j 1 6 = nI m := by rw [v_all_row (by omega)]; exact hm
    refine V0_iload_n (pc := 34) dX10_mostPairs_34 rfl ?_
    refine V0_aload_n (pc := 35) dX10_mostPairs_35 rfl ?_
    refine V_getr (pc := 36) dX10_mostPairs_36 flX10_19 rfl rfl ?_
    refine V_geti (pc := 39) dX10_mostPairs_39 flX10_33 rfl rfl ?_
    rw [hmj]
    refine V1_icmp_ge (pc := 42) 71 dX10_mostPairs_42 (by decide) (fun h42 => ?_) (fun h42 => ?_)
    · skip
      have hj : j = m := by have := px_ge h42 (by omega) (by omega); omega
      subst hj
      exact hQ _
    · skip
      have hj := px_lt h42 (by omega) (by omega)
      refine V0_aload_n (pc := 45) dX10_mostPairs_45 rfl ?_
      refine V_getr (pc := 46) dX10_mostPairs_46 flX10_23 rfl rfl ?_
      refine V_getr (pc := 49) dX10_mostPairs_49 flX10_39 rfl rfl ?_
      refine V0_iload_n (pc := 52) dX10_mostPairs_52 rfl ?_
      refine V_iald (pc := 53) (j) dX10_mostPairs_53 rfl rfl (by omega) ?_
      refine V0_iconst (pc := 54) (2) dX10_mostPairs_54 (by decide) ?_
      refine V0_irem (pc := 55) dX10_mostPairs_55 (by decide) ?_
      refine V0_if_ne (pc := 56) 65 dX10_mostPairs_56 (by decide) (fun h56 => ?_) (fun h56 => ?_)
      · skip
        refine V0_iinc_2 (pc := 65) (nI (j + 1)) dX10_mostPairs_65 (by decide) rfl (nI_1 _) ?_
        refine V0_goto (pc := 68) 34 dX10_mostPairs_68 (by decide) ?_
        exact V_st rfl (by rw [v_all]; first | (rw [if_pos h56]; done) | (rw [if_neg h56]; done)) (ih (j + 1) (by omega) (by omega))
      · skip
        refine V0_aload_n (pc := 59) dX10_mostPairs_59 rfl ?_
        refine V0_iload_n (pc := 60) dX10_mostPairs_60 rfl ?_
        refine V0_iload_n (pc := 61) dX10_mostPairs_61 rfl ?_
        refine V_callV (pc := 62) (M' := mX10_pairOff) dX10_mostPairs_62 mlX10_58 okX10_pairOff rfl (c_X10_pairOff hmj hm7 (by omega)) rfl rfl rfl rfl ⟨Nat.le_of_ble_eq_true rfl, Nat.le_of_ble_eq_true rfl⟩ ⟨Nat.le_refl 0, Nat.le_refl 0⟩ (Nat.le_of_ble_eq_true rfl) ?_
        intro r1 I1 J1 hh
        obtain ⟨e1, e2, e3⟩ := hh
        rw [e1, e2, e3]
        clear e1 e2 e3 r1 I1 J1
        refine V0_iinc_2 (pc := 65) (nI (j + 1)) dX10_mostPairs_65 (by decide) rfl (nI_1 _) ?_
        refine V0_goto (pc := 68) 34 dX10_mostPairs_68 (by decide) ?_
        exact V_st rfl (by rw [v_all]; first | (rw [if_pos h56]; done) | (rw [if_neg h56]; done)) (ih (j + 1) (by omega) (by omega))
theorem lp_X10_most3 {l : Launch} {I : px_I} {J : px_J} {x : Int32} {Q : px_Q} (hQ : Q (some (.int (v_max I 128))) I J) : ∀ (f j : Nat), 129 - j ≤ f → j ≤ 128 → V0 l (px_rm 3 0 0) mX10_mostPairs (false, []) 0 0 75 [.ref 48, .int x, .int (v_max I j), .int (nI j)] [] (px_mk I J) (px_q Q) := by
  intro f
  induction f with
  | zero => intro j h1 h2; omega
  | succ f ih =>
    intro j h1 h2
    refine V0_iload_n (pc := 75) dX10_mostPairs_75 rfl ?_
    refine V0_aload_n (pc := 76) dX10_mostPairs_76 rfl ?_
    refine V_getr (pc := 77) dX10_mostPairs_77 flX10_15 rfl rfl ?_
    refine V_alen (pc := 80) (128) dX10_mostPairs_80 rfl (by decide) (by decide) ?_
    refine V1_icmp_ge (pc := 81) 108 dX10_mostPairs_81 (by decide) (fun h81 => ?_) (fun h81 => ?_)
    · skip
      have hj : j = 128 := by have := px_gec 128 rfl h81 (by omega) (by omega); omega
      subst hj
      refine V0_iload_n (pc := 108) dX10_mostPairs_108 rfl ?_
      refine V_reti (pc := 109) _ dX10_mostPairs_109 rfl ?_
      exact hQ
    · skip
      have hj : j < 128 := px_ltc 128 rfl h81 (by omega) (by omega)
      refine V0_aload_n (pc := 84) dX10_mostPairs_84 rfl ?_
      refine V_getr (pc := 85) dX10_mostPairs_85 flX10_15 rfl rfl ?_
      refine V0_iload_n (pc := 88) dX10_mostPairs_88 rfl ?_
      refine V_zald (pc := 89) (j) dX10_mostPairs_89 rfl rfl (by omega) ?_
      refine V0_if_eq (pc := 90) 102 dX10_mostPairs_90 (by decide) (fun h90 => ?_) (fun h90 => ?_)
      · skip
        refine V0_iinc_3 (pc := 102) (nI (j + 1)) dX10_mostPairs_102 (by decide) rfl (nI_1 _) ?_
        refine V0_goto (pc := 105) 75 dX10_mostPairs_105 (by decide) ?_
        exact V_ls (by simp [v_max, h90]) (ih (j + 1) (by omega) (by omega))
      · skip
        refine V0_iload_n (pc := 93) dX10_mostPairs_93 rfl ?_
        refine V0_iload_n (pc := 94) dX10_mostPairs_94 rfl ?_
        refine V_callSi (pc := 95) (M' := mJ6_bitCount_0f7a4) dX10_mostPairs_95 mlX10_62 okJ6_bitCount_0f7a4 rfl c_J6_bitCount_0f7a4 rfl rfl ⟨Nat.le_of_ble_eq_true rfl, Nat.le_of_ble_eq_true rfl⟩ ⟨Nat.le_refl 0, Nat.le_refl 0⟩ (Nat.le_of_ble_eq_true rfl) ?_
        refine V0_max (pc := 98) dX10_mostPairs_98 mlX10_68 js_max ji_Math jc_max (Nat.le_of_ble_eq_true rfl) (Nat.le_of_ble_eq_true rfl) ?_
        refine V0_istore_2 (pc := 101) dX10_mostPairs_101 (by decide) rfl ?_
        refine V0_iinc_3 (pc := 102) (nI (j + 1)) dX10_mostPairs_102 (by decide) rfl (nI_1 _) ?_
        refine V0_goto (pc := 105) 75 dX10_mostPairs_105 (by decide) ?_
        exact V_ls (by simp [v_max, h90]) (ih (j + 1) (by omega) (by omega))
theorem c_X10_mostPairs {l : Launch} {I : px_I} {J : px_J} {m : Nat} {x : Int32} (hm : I 1 6 = nI m) (hm7 : m ≤ 7) : Ct l mX10_mostPairs 3 [.ref 48, .int x] I J (px_qi (v_max (v_all x m (v_zero I 128) m) 128) (v_all x m (v_zero I 128) m) J) := by
  have hz : v_zero I 128 1 6 = nI m := by rw [v_zero_row (by omega)]; exact hm
  refine Ct.of plX10_mostPairs (Nat.le_of_ble_eq_true rfl) [.ref 48, .int x, .null, .null] rfl ?_
  refine V0_iconst (pc := 0) (0) dX10_mostPairs_0 (by decide) ?_
  refine V0_istore_2 (pc := 1) dX10_mostPairs_1 (by decide) rfl ?_
  refine lp_X10_most1 (fun v2 => ?_) 129 0 (by omega) (by omega)
  refine V0_iconst (pc := 32) (0) dX10_mostPairs_32 (by decide) ?_
  refine V0_istore_2 (pc := 33) dX10_mostPairs_33 (by decide) rfl ?_
  refine lp_X10_most2 hz hm7 (fun v2 => ?_) (m + 1) 0 (by omega) (by omega)
  refine V0_iconst (pc := 71) (0) dX10_mostPairs_71 (by decide) ?_
  refine V0_istore_2 (pc := 72) dX10_mostPairs_72 (by decide) rfl ?_
  refine V0_iconst (pc := 73) (0) dX10_mostPairs_73 (by decide) ?_
  refine V0_istore_3 (pc := 74) dX10_mostPairs_74 (by decide) rfl ?_
  exact lp_X10_most3 ⟨rfl, rfl, rfl⟩ 129 0 (by omega) (by omega)

