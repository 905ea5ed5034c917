/-! the Model: the lane in thought -/
abbrev m_hoj (I : px_I) (j : Nat) : Int32 := I 77 (ix (I 56 j))
abbrev m_runs (I : px_I) (j : Nat) : Bool := s_runs (I 58) (I 78) (I 79) j
abbrev m_waits (I : px_I) (j : Nat) : Bool := s_waits (I 57) (I 78) (I 79) (I 54 37) j
abbrev m_had (I : px_I) (j : Nat) : Bool := s_had (I 58) (I 78) (I 79) j
abbrev m_on (I : px_I) (j : Nat) : Bool := decide (px_rem (m_hoj I j) 2 = I 54 36)
theorem c_X12_houseOfJoy {l : Launch} {I : px_I} {J : px_J} {j : Nat} (ho : px_ofs (I 56)) (hj : j < 10) : CtI l mX12_houseOfJoy 0 [.ref 54, .int (nI j)] I J (m_hoj I j) := by
  obtain ⟨h1, h2⟩ := ho j hj
  refine Ct.of plX12_houseOfJoy (Nat.le_of_ble_eq_true rfl) [.ref 54, .int (nI j)] rfl ?_
  refine V0_aload_n (pc := 0) dX12_houseOfJoy_0 rfl ?_
  refine V_getr (pc := 1) dX12_houseOfJoy_1 flX12_78 rfl rfl ?_
  refine V0_aload_n (pc := 4) dX12_houseOfJoy_4 rfl ?_
  refine V_getr (pc := 5) dX12_houseOfJoy_5 flX12_13 rfl rfl ?_
  refine V0_iload_n (pc := 8) dX12_houseOfJoy_8 rfl ?_
  refine V_iald (pc := 9) (j) dX12_houseOfJoy_9 rfl rfl (by omega) ?_
  refine V_iald (pc := 10) (ix (I 56 j)) dX12_houseOfJoy_10 rfl h1 h2 ?_
  refine V_reti (pc := 11) _ dX12_houseOfJoy_11 rfl ?_
  refine px_li ?_
  rfl
theorem c_X12_waits {l : Launch} {I : px_I} {J : px_J} {j : Nat} (hj : j < 10) : CtI l mX12_waits 0 [.ref 54, .int (nI j)] I J (b2 (m_waits I j)) := by
  refine Ct.of plX12_waits (Nat.le_of_ble_eq_true rfl) [.ref 54, .int (nI j)] rfl ?_
  refine V0_aload_n (pc := 0) dX12_waits_0 rfl ?_
  refine V_getr (pc := 1) dX12_waits_1 flX12_84 rfl rfl ?_
  refine V0_iload_n (pc := 4) dX12_waits_4 rfl ?_
  refine V_iald (pc := 5) (j) dX12_waits_5 rfl rfl (by omega) ?_
  refine V0_if_ne (pc := 6) 35 dX12_waits_6 (by decide) (fun h6 => ?_) (fun h6 => ?_)
  · skip
    refine V0_iconst (pc := 35) (0) dX12_waits_35 (by decide) ?_
    refine V_retz (pc := 36) _ dX12_waits_36 rfl (Or.inl rfl) ?_
    refine px_li ?_
    simp [s_waits, b2, *]
  · skip
    refine V0_aload_n (pc := 9) dX12_waits_9 rfl ?_
    refine V_getr (pc := 10) dX12_waits_10 flX12_81 rfl rfl ?_
    refine V0_iload_n (pc := 13) dX12_waits_13 rfl ?_
    refine V_iald (pc := 14) (j) dX12_waits_14 rfl rfl (by omega) ?_
    refine V0_if_ne (pc := 15) 35 dX12_waits_15 (by decide) (fun h15 => ?_) (fun h15 => ?_)
    · skip
      refine V0_iconst (pc := 35) (0) dX12_waits_35 (by decide) ?_
      refine V_retz (pc := 36) _ dX12_waits_36 rfl (Or.inl rfl) ?_
      refine px_li ?_
      simp [s_waits, b2, *]
    · skip
      refine V0_aload_n (pc := 18) dX12_waits_18 rfl ?_
      refine V_geti (pc := 19) dX12_waits_19 flX12_258 rfl rfl ?_
      refine V0_aload_n (pc := 22) dX12_waits_22 rfl ?_
      refine V_getr (pc := 23) dX12_waits_23 flX12_16 rfl rfl ?_
      refine V0_iload_n (pc := 26) dX12_waits_26 rfl ?_
      refine V_iald (pc := 27) (j) dX12_waits_27 rfl rfl (by omega) ?_
      refine V0_icmp_lt (pc := 28) 35 dX12_waits_28 (by decide) (fun h28 => ?_) (fun h28 => ?_)
      · skip
        refine V0_iconst (pc := 35) (0) dX12_waits_35 (by decide) ?_
        refine V_retz (pc := 36) _ dX12_waits_36 rfl (Or.inl rfl) ?_
        refine px_li ?_
        simp [s_waits, b2, *]
      · skip
        refine V0_iconst (pc := 31) (1) dX12_waits_31 (by decide) ?_
        refine V0_goto (pc := 32) 36 dX12_waits_32 (by decide) ?_
        refine V_retz (pc := 36) _ dX12_waits_36 rfl (Or.inr rfl) ?_
        refine px_li ?_
        simp [s_waits, b2, *]
theorem c_X12_runs {l : Launch} {I : px_I} {J : px_J} {j : Nat} (hj : j < 10) : CtI l mX12_runs 0 [.ref 54, .int (nI j)] I J (b2 (m_runs I j)) := by
  refine Ct.of plX12_runs (Nat.le_of_ble_eq_true rfl) [.ref 54, .int (nI j)] rfl ?_
  refine V0_aload_n (pc := 0) dX12_runs_0 rfl ?_
  refine V_getr (pc := 1) dX12_runs_1 flX12_84 rfl rfl ?_
  refine V0_iload_n (pc := 4) dX12_runs_4 rfl ?_
  refine V_iald (pc := 5) (j) dX12_runs_5 rfl rfl (by omega) ?_
  refine V0_if_ne (pc := 6) 37 dX12_runs_6 (by decide) (fun h6 => ?_) (fun h6 => ?_)
  · skip
    refine V0_iconst (pc := 37) (0) dX12_runs_37 (by decide) ?_
    refine V_retz (pc := 38) _ dX12_runs_38 rfl (Or.inl rfl) ?_
    refine px_li ?_
    simp [s_runs, b2, *]
  · skip
    refine V0_aload_n (pc := 9) dX12_runs_9 rfl ?_
    refine V_getr (pc := 10) dX12_runs_10 flX12_81 rfl rfl ?_
    refine V0_iload_n (pc := 13) dX12_runs_13 rfl ?_
    refine V_iald (pc := 14) (j) dX12_runs_14 rfl rfl (by omega) ?_
    refine V1_if_le (pc := 15) 37 dX12_runs_15 (by decide) (fun h15 => ?_) (fun h15 => ?_)
    · skip
      refine V0_iconst (pc := 37) (0) dX12_runs_37 (by decide) ?_
      refine V_retz (pc := 38) _ dX12_runs_38 rfl (Or.inl rfl) ?_
      refine px_li ?_
      simp [s_runs, b2, *]
    · skip
      refine V0_aload_n (pc := 18) dX12_runs_18 rfl ?_
      refine V_getr (pc := 19) dX12_runs_19 flX12_81 rfl rfl ?_
      refine V0_iload_n (pc := 22) dX12_runs_22 rfl ?_
      refine V_iald (pc := 23) (j) dX12_runs_23 rfl rfl (by omega) ?_
      refine V0_aload_n (pc := 24) dX12_runs_24 rfl ?_
      refine V_getr (pc := 25) dX12_runs_25 flX12_19 rfl rfl ?_
      refine V0_iload_n (pc := 28) dX12_runs_28 rfl ?_
      refine V_iald (pc := 29) (j) dX12_runs_29 rfl rfl (by omega) ?_
      refine V1_icmp_ge (pc := 30) 37 dX12_runs_30 (by decide) (fun h30 => ?_) (fun h30 => ?_)
      · skip
        refine V0_iconst (pc := 37) (0) dX12_runs_37 (by decide) ?_
        refine V_retz (pc := 38) _ dX12_runs_38 rfl (Or.inl rfl) ?_
        refine px_li ?_
        simp [s_runs, b2, *]
      · skip
        refine V0_iconst (pc := 33) (1) dX12_runs_33 (by decide) ?_
        refine V0_goto (pc := 34) 38 dX12_runs_34 (by decide) ?_
        refine V_retz (pc := 38) _ dX12_runs_38 rfl (Or.inr rfl) ?_
        refine px_li ?_
        simp [s_runs, b2, *]
theorem c_X12_isHad {l : Launch} {I : px_I} {J : px_J} {j : Nat} (hj : j < 10) : CtI l mX12_isHad 0 [.ref 54, .int (nI j)] I J (b2 (m_had I j)) := by
  refine Ct.of plX12_isHad (Nat.le_of_ble_eq_true rfl) [.ref 54, .int (nI j)] rfl ?_
  refine V0_aload_n (pc := 0) dX12_isHad_0 rfl ?_
  refine V_getr (pc := 1) dX12_isHad_1 flX12_84 rfl rfl ?_
  refine V0_iload_n (pc := 4) dX12_isHad_4 rfl ?_
  refine V_iald (pc := 5) (j) dX12_isHad_5 rfl rfl (by omega) ?_
  refine V0_if_ne (pc := 6) 28 dX12_isHad_6 (by decide) (fun h6 => ?_) (fun h6 => ?_)
  · skip
    refine V0_iconst (pc := 28) (0) dX12_isHad_28 (by decide) ?_
    refine V_retz (pc := 29) _ dX12_isHad_29 rfl (Or.inl rfl) ?_
    refine px_li ?_
    simp [s_had, b2, *]
  · skip
    refine V0_aload_n (pc := 9) dX12_isHad_9 rfl ?_
    refine V_getr (pc := 10) dX12_isHad_10 flX12_81 rfl rfl ?_
    refine V0_iload_n (pc := 13) dX12_isHad_13 rfl ?_
    refine V_iald (pc := 14) (j) dX12_isHad_14 rfl rfl (by omega) ?_
    refine V0_aload_n (pc := 15) dX12_isHad_15 rfl ?_
    refine V_getr (pc := 16) dX12_isHad_16 flX12_19 rfl rfl ?_
    refine V0_iload_n (pc := 19) dX12_isHad_19 rfl ?_
    refine V_iald (pc := 20) (j) dX12_isHad_20 rfl rfl (by omega) ?_
    refine V0_icmp_lt (pc := 21) 28 dX12_isHad_21 (by decide) (fun h21 => ?_) (fun h21 => ?_)
    · skip
      refine V0_iconst (pc := 28) (0) dX12_isHad_28 (by decide) ?_
      refine V_retz (pc := 29) _ dX12_isHad_29 rfl (Or.inl rfl) ?_
      refine px_li ?_
      simp [s_had, b2, *]
    · skip
      refine V0_iconst (pc := 24) (1) dX12_isHad_24 (by decide) ?_
      refine V0_goto (pc := 25) 29 dX12_isHad_25 (by decide) ?_
      refine V_retz (pc := 29) _ dX12_isHad_29 rfl (Or.inr rfl) ?_
      refine px_li ?_
      simp [s_had, b2, *]
theorem c_X12_onGladSide {l : Launch} {I : px_I} {J : px_J} {j : Nat} (ho : px_ofs (I 56)) (hj : j < 10) : CtI l mX12_onGladSide 1 [.ref 54, .int (nI j)] I J (b2 (m_on I j)) := by
  refine Ct.of plX12_onGladSide (Nat.le_of_ble_eq_true rfl) [.ref 54, .int (nI j)] rfl ?_
  refine V0_aload_n (pc := 0) dX12_onGladSide_0 rfl ?_
  refine V0_iload_n (pc := 1) dX12_onGladSide_1 rfl ?_
  refine V_callVi (pc := 2) (M' := mX12_houseOfJoy) dX12_onGladSide_2 mlX12_267 okX12_houseOfJoy rfl (c_X12_houseOfJoy ho (by omega)) rfl rfl rfl rfl ⟨Nat.le_of_ble_eq_true rfl, Nat.le_of_ble_eq_true rfl⟩ ⟨Nat.le_refl 0, Nat.le_refl 0⟩ (Nat.le_of_ble_eq_true rfl) ?_
  refine V0_iconst (pc := 5) (2) dX12_onGladSide_5 (by decide) ?_
  refine V0_irem (pc := 6) dX12_onGladSide_6 (by decide) ?_
  refine V0_aload_n (pc := 7) dX12_onGladSide_7 rfl ?_
  refine V_geti (pc := 8) dX12_onGladSide_8 flX12_255 rfl rfl ?_
  refine V0_icmp_ne (pc := 11) 18 dX12_onGladSide_11 (by decide) (fun h11 => ?_) (fun h11 => ?_)
  · skip
    refine V0_iconst (pc := 18) (0) dX12_onGladSide_18 (by decide) ?_
    refine V_retz (pc := 19) _ dX12_onGladSide_19 rfl (Or.inl rfl) ?_
    refine px_li ?_
    simp [m_on, b2, h11]
  · skip
    refine V0_iconst (pc := 14) (1) dX12_onGladSide_14 (by decide) ?_
    refine V0_goto (pc := 15) 19 dX12_onGladSide_15 (by decide) ?_
    refine V_retz (pc := 19) _ dX12_onGladSide_19 rfl (Or.inr rfl) ?_
    refine px_li ?_
    simp [m_on, b2, h11]
theorem lp_X12_moreLeft {l : Launch} {I : px_I} {J : px_J} {m : Nat} {Q : px_Q} (hm : I 54 1 = nI m) (hm7 : m ≤ 7) (hQ : Q (some (.int (s_lead (I 77) m))) I J) : ∀ (k j : Nat), m + 1 - j ≤ k → j ≤ m → V0 l (px_rm 0 0 0) mX12_moreLeft (false, []) 0 0 4 [.ref 54, .int (s_lead (I 77) j), .int (nI j)] [] (px_mk I J) (px_q Q) := by
  intro k
  induction k with
  | zero => intro j h1 h2; omega
  | succ k ih =>
    intro j h1 h2
    refine V0_iload_n (pc := 4) dX12_moreLeft_4 rfl ?_
    refine V0_aload_n (pc := 5) dX12_moreLeft_5 rfl ?_
    refine V_geti (pc := 6) dX12_moreLeft_6 flX12_128 rfl rfl ?_
    rw [hm]
    refine V1_icmp_ge (pc := 9) 37 dX12_moreLeft_9 (by decide) (fun h9 => ?_) (fun h9 => ?_)
    · skip
      have hj : j = m := by have := px_ge h9 (by omega) (by omega); omega
      subst hj
      refine V0_iload_n (pc := 37) dX12_moreLeft_37 rfl ?_
      refine V_reti (pc := 38) _ dX12_moreLeft_38 rfl ?_
      exact hQ
    · skip
      have hj := px_lt h9 (by omega) (by omega)
      refine V0_iload_n (pc := 12) dX12_moreLeft_12 rfl ?_
      refine V0_aload_n (pc := 13) dX12_moreLeft_13 rfl ?_
      refine V_getr (pc := 14) dX12_moreLeft_14 flX12_78 rfl rfl ?_
      refine V0_iload_n (pc := 17) dX12_moreLeft_17 rfl ?_
      refine V_iald (pc := 18) (j) dX12_moreLeft_18 rfl rfl (by omega) ?_
      refine V0_iconst (pc := 19) (2) dX12_moreLeft_19 (by decide) ?_
      refine V0_irem (pc := 20) dX12_moreLeft_20 (by decide) ?_
      refine V0_if_ne (pc := 21) 28 dX12_moreLeft_21 (by decide) (fun h21 => ?_) (fun h21 => ?_)
      · skip
        refine V0_iconst (pc := 28) (-1) dX12_moreLeft_28 (by decide) ?_
        refine V0_iadd (pc := 29) dX12_moreLeft_29 ?_
        refine V0_istore_1 (pc := 30) dX12_moreLeft_30 (by decide) rfl ?_
        refine V0_iinc_2 (pc := 31) (nI (j + 1)) dX12_moreLeft_31 (by decide) rfl (nI_1 _) ?_
        refine V0_goto (pc := 34) 4 dX12_moreLeft_34 (by decide) ?_
        exact V_ls (by simp [s_lead, *]) (ih (j + 1) (by omega) (by omega))
      · skip
        refine V0_iconst (pc := 24) (1) dX12_moreLeft_24 (by decide) ?_
        refine V0_goto (pc := 25) 29 dX12_moreLeft_25 (by decide) ?_
        refine V0_iadd (pc := 29) dX12_moreLeft_29 ?_
        refine V0_istore_1 (pc := 30) dX12_moreLeft_30 (by decide) rfl ?_
        refine V0_iinc_2 (pc := 31) (nI (j + 1)) dX12_moreLeft_31 (by decide) rfl (nI_1 _) ?_
        refine V0_goto (pc := 34) 4 dX12_moreLeft_34 (by decide) ?_
        exact V_ls (by simp [s_lead, *]) (ih (j + 1) (by omega) (by omega))
theorem c_X12_moreLeft {l : Launch} {I : px_I} {J : px_J} {m : Nat} (hm : I 54 1 = nI m) (hm7 : m ≤ 7) : CtI l mX12_moreLeft 0 [.ref 54] I J (s_lead (I 77) m) := by
  refine Ct.of plX12_moreLeft (Nat.le_of_ble_eq_true rfl) [.ref 54, .null, .null] rfl ?_
  refine V0_iconst (pc := 0) (0) dX12_moreLeft_0 (by decide) ?_
  refine V0_istore_1 (pc := 1) dX12_moreLeft_1 (by decide) rfl ?_
  refine V0_iconst (pc := 2) (0) dX12_moreLeft_2 (by decide) ?_
  refine V0_istore_2 (pc := 3) dX12_moreLeft_3 (by decide) rfl ?_
  exact lp_X12_moreLeft hm hm7 ⟨rfl, rfl, rfl⟩ (m + 1) 0 (by omega) (by omega)
def m_ch (I : px_I) (m : Nat) : Int32 := if 0 < s_lead (I 77) m then 0 else if s_lead (I 77) m < 0 then 1 else I 54 36
def m_vote (I : px_I) (m : Nat) : px_I := px_up (if m_ch I m = I 54 36 then px_up I 54 39 (I 54 39 + 1) else px_up (px_up I 54 39 (I 54 39 + 1)) 54 38 (I 54 38 + 1)) 54 36 (m_ch I m)
theorem c_X12_vote {l : Launch} {I : px_I} {J : px_J} {m : Nat} (hm : I 54 1 = nI m) (hm7 : m ≤ 7) : Ct l mX12_vote 1 [.ref 54] I J (px_qs (m_vote I m) J) := by
  refine Ct.of plX12_vote (Nat.le_of_ble_eq_true rfl) [.ref 54, .null, .null] rfl ?_
  refine V0_aload_n (pc := 0) dX12_vote_0 rfl ?_
  refine V_callVi (pc := 1) (M' := mX12_moreLeft) dX12_vote_1 mlX12_270 okX12_moreLeft rfl (c_X12_moreLeft hm hm7) rfl rfl rfl rfl ⟨Nat.le_of_ble_eq_true rfl, Nat.le_of_ble_eq_true rfl⟩ ⟨Nat.le_refl 0, Nat.le_refl 0⟩ (Nat.le_of_ble_eq_true rfl) ?_
  refine V0_istore_1 (pc := 4) dX12_vote_4 (by decide) rfl ?_
  refine V0_iload_n (pc := 5) dX12_vote_5 rfl ?_
  refine V1_if_le (pc := 6) 13 dX12_vote_6 (by decide) (fun h6 => ?_) (fun h6 => ?_)
  · skip
    refine V0_iload_n (pc := 13) dX12_vote_13 rfl ?_
    refine V1_if_ge (pc := 14) 21 dX12_vote_14 (by decide) (fun h14 => ?_) (fun h14 => ?_)
    · skip
      refine V0_aload_n (pc := 21) dX12_vote_21 rfl ?_
      refine V_geti (pc := 22) dX12_vote_22 flX12_255 rfl rfl ?_
      refine V0_istore_2 (pc := 25) dX12_vote_25 (by decide) rfl ?_
      refine V_ls (ls' := [.ref 54, .int (s_lead (I 77) m), .int (m_ch I m)]) (by simp [m_ch, *]) ?_
      refine V0_aload_n (pc := 26) dX12_vote_26 rfl ?_
      refine V0_dup (pc := 27) dX12_vote_27 rfl ?_
      refine V_geti (pc := 28) dX12_vote_28 flX12_264 rfl rfl ?_
      refine V0_iconst (pc := 31) (1) dX12_vote_31 (by decide) ?_
      refine V0_iadd (pc := 32) dX12_vote_32 ?_
      refine V_puti (pc := 33) dX12_vote_33 flX12_264 rfl rfl ?_
      refine V0_iload_n (pc := 36) dX12_vote_36 rfl ?_
      refine V0_aload_n (pc := 37) dX12_vote_37 rfl ?_
      refine V_geti (pc := 38) dX12_vote_38 flX12_255 rfl rfl ?_
      rw [show px_up I 54 39 (I 54 39 + 1) 54 36 = I 54 36 from rfl]
      refine V0_icmp_eq (pc := 41) 54 dX12_vote_41 (by decide) (fun h41 => ?_) (fun h41 => ?_)
      · skip
        refine V0_aload_n (pc := 54) dX12_vote_54 rfl ?_
        refine V0_iload_n (pc := 55) dX12_vote_55 rfl ?_
        refine V_puti (pc := 56) dX12_vote_56 flX12_255 rfl rfl ?_
        refine V_retv (pc := 59) dX12_vote_59 rfl ?_
        first | exact ⟨rfl, by rw [m_vote, if_pos h41], rfl⟩ | exact ⟨rfl, by rw [m_vote, if_neg h41] <;> rfl, rfl⟩
      · skip
        refine V0_aload_n (pc := 44) dX12_vote_44 rfl ?_
        refine V0_dup (pc := 45) dX12_vote_45 rfl ?_
        refine V_geti (pc := 46) dX12_vote_46 flX12_261 rfl rfl ?_
        refine V0_iconst (pc := 49) (1) dX12_vote_49 (by decide) ?_
        refine V0_iadd (pc := 50) dX12_vote_50 ?_
        refine V_puti (pc := 51) dX12_vote_51 flX12_261 rfl rfl ?_
        refine V0_aload_n (pc := 54) dX12_vote_54 rfl ?_
        refine V0_iload_n (pc := 55) dX12_vote_55 rfl ?_
        refine V_puti (pc := 56) dX12_vote_56 flX12_255 rfl rfl ?_
        refine V_retv (pc := 59) dX12_vote_59 rfl ?_
        first | exact ⟨rfl, by rw [m_vote, if_pos h41], rfl⟩ | exact ⟨rfl, by rw [m_vote, if_neg h41] <;> rfl, rfl⟩
    · skip
      refine V0_iconst (pc := 17) (1) dX12_vote_17 (by decide) ?_
      refine V0_goto (pc := 18) 25 dX12_vote_18 (by decide) ?_
      refine V0_istore_2 (pc := 25) dX12_vote_25 (by decide) rfl ?_
      refine V_ls (ls' := [.ref 54, .int (s_lead (I 77) m), .int (m_ch I m)]) (by simp [m_ch, *]) ?_
      refine V0_aload_n (pc := 26) dX12_vote_26 rfl ?_
      refine V0_dup (pc := 27) dX12_vote_27 rfl ?_
      refine V_geti (pc := 28) dX12_vote_28 flX12_264 rfl rfl ?_
      refine V0_iconst (pc := 31) (1) dX12_vote_31 (by decide) ?_
      refine V0_iadd (pc := 32) dX12_vote_32 ?_
      refine V_puti (pc := 33) dX12_vote_33 flX12_264 rfl rfl ?_
      refine V0_iload_n (pc := 36) dX12_vote_36 rfl ?_
      refine V0_aload_n (pc := 37) dX12_vote_37 rfl ?_
      refine V_geti (pc := 38) dX12_vote_38 flX12_255 rfl rfl ?_
      rw [show px_up I 54 39 (I 54 39 + 1) 54 36 = I 54 36 from rfl]
      refine V0_icmp_eq (pc := 41) 54 dX12_vote_41 (by decide) (fun h41 => ?_) (fun h41 => ?_)
      · skip
        refine V0_aload_n (pc := 54) dX12_vote_54 rfl ?_
        refine V0_iload_n (pc := 55) dX12_vote_55 rfl ?_
        refine V_puti (pc := 56) dX12_vote_56 flX12_255 rfl rfl ?_
        refine V_retv (pc := 59) dX12_vote_59 rfl ?_
        first | exact ⟨rfl, by rw [m_vote, if_pos h41], rfl⟩ | exact ⟨rfl, by rw [m_vote, if_neg h41] <;> rfl, rfl⟩
      · skip
        refine V0_aload_n (pc := 44) dX12_vote_44 rfl ?_
        refine V0_dup (pc := 45) dX12_vote_45 rfl ?_
        refine V_geti (pc := 46) dX12_vote_46 flX12_261 rfl rfl ?_
        refine V0_iconst (pc := 49) (1) dX12_vote_49 (by decide) ?_
        refine V0_iadd (pc := 50) dX12_vote_50 ?_
        refine V_puti (pc := 51) dX12_vote_51 flX12_261 rfl rfl ?_
        refine V0_aload_n (pc := 54) dX12_vote_54 rfl ?_
        refine V0_iload_n (pc := 55) dX12_vote_55 rfl ?_
        refine V_puti (pc := 56) dX12_vote_56 flX12_255 rfl rfl ?_
        refine V_retv (pc := 59) dX12_vote_59 rfl ?_
        first | exact ⟨rfl, by rw [m_vote, if_pos h41], rfl⟩ | exact ⟨rfl, by rw [m_vote, if_neg h41] <;> rfl, rfl⟩
  · skip
    refine V0_iconst (pc := 9) (0) dX12_vote_9 (by decide) ?_
    refine V0_goto (pc := 10) 25 dX12_vote_10 (by decide) ?_
    refine V0_istore_2 (pc := 25) dX12_vote_25 (by decide) rfl ?_
    refine V_ls (ls' := [.ref 54, .int (s_lead (I 77) m), .int (m_ch I m)]) (by simp [m_ch, *]) ?_
    refine V0_aload_n (pc := 26) dX12_vote_26 rfl ?_
    refine V0_dup (pc := 27) dX12_vote_27 rfl ?_
    refine V_geti (pc := 28) dX12_vote_28 flX12_264 rfl rfl ?_
    refine V0_iconst (pc := 31) (1) dX12_vote_31 (by decide) ?_
    refine V0_iadd (pc := 32) dX12_vote_32 ?_
    refine V_puti (pc := 33) dX12_vote_33 flX12_264 rfl rfl ?_
    refine V0_iload_n (pc := 36) dX12_vote_36 rfl ?_
    refine V0_aload_n (pc := 37) dX12_vote_37 rfl ?_
    refine V_geti (pc := 38) dX12_vote_38 flX12_255 rfl rfl ?_
    rw [show px_up I 54 39 (I 54 39 + 1) 54 36 = I 54 36 from rfl]
    refine V0_icmp_eq (pc := 41) 54 dX12_vote_41 (by decide) (fun h41 => ?_) (fun h41 => ?_)
    · skip
      refine V0_aload_n (pc := 54) dX12_vote_54 rfl ?_
      refine V0_iload_n (pc := 55) dX12_vote_55 rfl ?_
      refine V_puti (pc := 56) dX12_vote_56 flX12_255 rfl rfl ?_
      refine V_retv (pc := 59) dX12_vote_59 rfl ?_
      first | exact ⟨rfl, by rw [m_vote, if_pos h41], rfl⟩ | exact ⟨rfl, by rw [m_vote, if_neg h41] <;> rfl, rfl⟩
    · skip
      refine V0_aload_n (pc := 44) dX12_vote_44 rfl ?_
      refine V0_dup (pc := 45) dX12_vote_45 rfl ?_
      refine V_geti (pc := 46) dX12_vote_46 flX12_261 rfl rfl ?_
      refine V0_iconst (pc := 49) (1) dX12_vote_49 (by decide) ?_
      refine V0_iadd (pc := 50) dX12_vote_50 ?_
      refine V_puti (pc := 51) dX12_vote_51 flX12_261 rfl rfl ?_
      refine V0_aload_n (pc := 54) dX12_vote_54 rfl ?_
      refine V0_iload_n (pc := 55) dX12_vote_55 rfl ?_
      refine V_puti (pc := 56) dX12_vote_56 flX12_255 rfl rfl ?_
      refine V_retv (pc := 59) dX12_vote_59 rfl ?_
      first | exact ⟨rfl, by rw [m_vote, if_pos h41], rfl⟩ | exact ⟨rfl, by rw [m_vote, if_neg h41] <;> rfl, rfl⟩
def m_goJoy (I : px_I) (j : Nat) : px_I := if m_runs I j = true then (if m_on I j = true then px_up I 78 j (I 78 j + 1) else I) else if m_waits I j = true then (if m_on I j = true then px_up I 78 j 1 else if I 54 37 < I 57 j + I 59 j then I else px_up I 79 j 1) else I
theorem m_goJoy_row {I : px_I} {j q : Nat} (h : q ≠ 78) (h' : q ≠ 79) : m_goJoy I j q = I q := by
  unfold m_goJoy
  repeat' split
  all_goals first | rfl | exact px_up_row h | exact px_up_row h'
theorem c_X12_goJoy {l : Launch} {I : px_I} {J : px_J} {j : Nat} (ho : px_ofs (I 56)) (hj : j < 10) : Ct l mX12_goJoy 2 [.ref 54, .int (nI j)] I J (px_qs (m_goJoy I j) J) := by
  refine Ct.of plX12_goJoy (Nat.le_of_ble_eq_true rfl) [.ref 54, .int (nI j), .null] rfl ?_
  refine V0_aload_n (pc := 0) dX12_goJoy_0 rfl ?_
  refine V0_iload_n (pc := 1) dX12_goJoy_1 rfl ?_
  refine V_callVi (pc := 2) (M' := mX12_onGladSide) dX12_goJoy_2 mlX12_273 okX12_onGladSide rfl (c_X12_onGladSide ho (by omega)) rfl rfl rfl rfl ⟨Nat.le_of_ble_eq_true rfl, Nat.le_of_ble_eq_true rfl⟩ ⟨Nat.le_refl 0, Nat.le_refl 0⟩ (Nat.le_of_ble_eq_true rfl) ?_
  refine V0_istore_2 (pc := 5) dX12_goJoy_5 (by decide) rfl ?_
  refine V0_aload_n (pc := 6) dX12_goJoy_6 rfl ?_
  refine V0_iload_n (pc := 7) dX12_goJoy_7 rfl ?_
  refine V_callVi (pc := 8) (M' := mX12_runs) dX12_goJoy_8 mlX12_276 okX12_runs rfl (c_X12_runs (by omega)) rfl rfl rfl rfl ⟨Nat.le_of_ble_eq_true rfl, Nat.le_of_ble_eq_true rfl⟩ ⟨Nat.le_refl 0, Nat.le_refl 0⟩ (Nat.le_of_ble_eq_true rfl) ?_
  refine V_ifeqb (pc := 11) 31 dX12_goJoy_11 (by decide) (fun h11 => ?_) (fun h11 => ?_)
  · skip
    refine V0_aload_n (pc := 31) dX12_goJoy_31 rfl ?_
    refine V0_iload_n (pc := 32) dX12_goJoy_32 rfl ?_
    refine V_callVi (pc := 33) (M' := mX12_waits) dX12_goJoy_33 mlX12_279 okX12_waits rfl (c_X12_waits (by omega)) rfl rfl rfl rfl ⟨Nat.le_of_ble_eq_true rfl, Nat.le_of_ble_eq_true rfl⟩ ⟨Nat.le_refl 0, Nat.le_refl 0⟩ (Nat.le_of_ble_eq_true rfl) ?_
    refine V_ifeqb (pc := 36) 80 dX12_goJoy_36 (by decide) (fun h36 => ?_) (fun h36 => ?_)
    · skip
      refine V_retv (pc := 80) dX12_goJoy_80 rfl ?_
      exact ⟨rfl, by simp [m_goJoy, *], rfl⟩
    · skip
      refine V0_iload_n (pc := 39) dX12_goJoy_39 rfl ?_
      refine V_ifeqb (pc := 40) 53 dX12_goJoy_40 (by decide) (fun h40 => ?_) (fun h40 => ?_)
      · skip
        refine V0_aload_n (pc := 53) dX12_goJoy_53 rfl ?_
        refine V_geti (pc := 54) dX12_goJoy_54 flX12_258 rfl rfl ?_
        refine V0_aload_n (pc := 57) dX12_goJoy_57 rfl ?_
        refine V_getr (pc := 58) dX12_goJoy_58 flX12_16 rfl rfl ?_
        refine V0_iload_n (pc := 61) dX12_goJoy_61 rfl ?_
        refine V_iald (pc := 62) (j) dX12_goJoy_62 rfl rfl (by omega) ?_
        refine V0_aload_n (pc := 63) dX12_goJoy_63 rfl ?_
        refine V_getr (pc := 64) dX12_goJoy_64 flX12_22 rfl rfl ?_
        refine V0_iload_n (pc := 67) dX12_goJoy_67 rfl ?_
        refine V_iald (pc := 68) (j) dX12_goJoy_68 rfl rfl (by omega) ?_
        refine V0_iadd (pc := 69) dX12_goJoy_69 ?_
        refine V0_icmp_lt (pc := 70) 80 dX12_goJoy_70 (by decide) (fun h70 => ?_) (fun h70 => ?_)
        · skip
          refine V_retv (pc := 80) dX12_goJoy_80 rfl ?_
          exact ⟨rfl, by simp [m_goJoy, *], rfl⟩
        · skip
          refine V0_aload_n (pc := 73) dX12_goJoy_73 rfl ?_
          refine V_getr (pc := 74) dX12_goJoy_74 flX12_84 rfl rfl ?_
          refine V0_iload_n (pc := 77) dX12_goJoy_77 rfl ?_
          refine V0_iconst (pc := 78) (1) dX12_goJoy_78 (by decide) ?_
          refine V_iast (pc := 79) (j) dX12_goJoy_79 rfl rfl (by omega) ?_
          refine V_retv (pc := 80) dX12_goJoy_80 rfl ?_
          exact ⟨rfl, by simp [m_goJoy, *], rfl⟩
      · skip
        refine V0_aload_n (pc := 43) dX12_goJoy_43 rfl ?_
        refine V_getr (pc := 44) dX12_goJoy_44 flX12_81 rfl rfl ?_
        refine V0_iload_n (pc := 47) dX12_goJoy_47 rfl ?_
        refine V0_iconst (pc := 48) (1) dX12_goJoy_48 (by decide) ?_
        refine V_iast (pc := 49) (j) dX12_goJoy_49 rfl rfl (by omega) ?_
        refine V0_goto (pc := 50) 80 dX12_goJoy_50 (by decide) ?_
        refine V_retv (pc := 80) dX12_goJoy_80 rfl ?_
        exact ⟨rfl, by simp [m_goJoy, *], rfl⟩
  · skip
    refine V0_iload_n (pc := 14) dX12_goJoy_14 rfl ?_
    refine V_ifeqb (pc := 15) 80 dX12_goJoy_15 (by decide) (fun h15 => ?_) (fun h15 => ?_)
    · skip
      refine V_retv (pc := 80) dX12_goJoy_80 rfl ?_
      exact ⟨rfl, by simp [m_goJoy, *], rfl⟩
    · skip
      refine V0_aload_n (pc := 18) dX12_goJoy_18 rfl ?_
      refine V_getr (pc := 19) dX12_goJoy_19 flX12_81 rfl rfl ?_
      refine V0_iload_n (pc := 22) dX12_goJoy_22 rfl ?_
      refine V0_dup2 (pc := 23) dX12_goJoy_23 rfl rfl ?_
      refine V_iald (pc := 24) (j) dX12_goJoy_24 rfl rfl (by omega) ?_
      refine V0_iconst (pc := 25) (1) dX12_goJoy_25 (by decide) ?_
      refine V0_iadd (pc := 26) dX12_goJoy_26 ?_
      refine V_iast (pc := 27) (j) dX12_goJoy_27 rfl rfl (by omega) ?_
      refine V0_goto (pc := 28) 80 dX12_goJoy_28 (by decide) ?_
      refine V_retv (pc := 80) dX12_goJoy_80 rfl ?_
      exact ⟨rfl, by simp [m_goJoy, *], rfl⟩
def m_joys (I : px_I) : Nat → px_I
  | 0 => I
  | n + 1 => m_goJoy (m_joys I n) n
theorem m_joys_row {I : px_I} {n q : Nat} (h : q ≠ 78) (h' : q ≠ 79) : m_joys I n q = I q := by
  induction n with
  | zero => rfl
  | succ n ih => rw [m_joys, m_goJoy_row h h', ih]
def m_st (I : px_I) (m : Nat) : px_I := if 0 < I 54 37 ∧ px_rem (I 54 37) (I 64 1) = 0 then m_vote I m else I
def m_later (I : px_I) : px_I := if I 54 37 < 199 then px_up I 54 37 (I 54 37 + 1) else I
def m_day (I : px_I) (m n : Nat) : px_I := m_later (m_joys (m_st I m) n)
theorem m_vote_row {I : px_I} {m q : Nat} (h : q ≠ 54) : m_vote I m q = I q := by
  unfold m_vote; rw [px_up_row h]; split
  · exact px_up_row h
  · rw [px_up_row h, px_up_row h]
theorem m_st_row {I : px_I} {m q : Nat} (h : q ≠ 54) : m_st I m q = I q := by
  unfold m_st; split
  · exact m_vote_row h
  · rfl
theorem m_later_row {I : px_I} {q : Nat} (h : q ≠ 54) : m_later I q = I q := by
  unfold m_later; split
  · exact px_up_row h
  · rfl
theorem m_day_row {I : px_I} {m n q : Nat} (h : q ≠ 54) (h1 : q ≠ 78) (h2 : q ≠ 79) : m_day I m n q = I q := by
  unfold m_day; rw [m_later_row h, m_joys_row h1 h2, m_st_row h]
theorem m_vote_54 {I : px_I} {m k : Nat} (h : k < 36 ∨ 39 < k) : m_vote I m 54 k = I 54 k := by
  unfold m_vote; rw [px_up_ne (by omega)]; split
  · exact px_up_ne (by omega)
  · rw [px_up_ne (by omega), px_up_ne (by omega)]
theorem m_st_54 {I : px_I} {m k : Nat} (h : k < 36 ∨ 39 < k) : m_st I m 54 k = I 54 k := by
  unfold m_st; split
  · exact m_vote_54 h
  · rfl
theorem m_day_54 {I : px_I} {m n k : Nat} (h : k < 36 ∨ 39 < k) : m_day I m n 54 k = I 54 k := by
  unfold m_day m_later; split
  · rw [px_up_ne (by omega), m_joys_row (by omega) (by omega), m_st_54 h]
  · rw [m_joys_row (by omega) (by omega), m_st_54 h]
theorem m_ok_day {I : px_I} {m n a b : Nat} (h : m_ok I m n) : m_ok (m_day I a b) m n := h.of (m_day_54 (by omega)) (m_day_54 (by omega)) (m_day_row (by omega) (by omega) (by omega)) (m_day_row (by omega) (by omega) (by omega))
theorem m_ok_st {I : px_I} {m n a : Nat} (h : m_ok I m n) : m_ok (m_st I a) m n := h.of (m_st_54 (by omega)) (m_st_54 (by omega)) (m_st_row (by omega)) (m_st_row (by omega))
theorem m_ok_joys {I : px_I} {m n k : Nat} (h : m_ok I m n) : m_ok (m_joys I k) m n := h.of (congrFun (m_joys_row (by omega) (by omega)) _) (congrFun (m_joys_row (by omega) (by omega)) _) (m_joys_row (by omega) (by omega)) (m_joys_row (by omega) (by omega))
theorem m_ok_up {I : px_I} {m n q k : Nat} {x : Int32} (h : m_ok I m n) (hq : q ≠ 54) (h6 : q ≠ 56) (h4 : q ≠ 64) : m_ok (px_up I q k x) m n := h.of (congrFun (px_up_row (Ne.symm hq)) _) (congrFun (px_up_row (Ne.symm hq)) _) (px_up_row (Ne.symm h6)) (px_up_row (Ne.symm h4))
theorem lp_X12_goDay {l : Launch} {S : px_I} {J : px_J} {m n : Nat} {Q : px_Q} (hS : m_ok S m n) (hQ : Q none (m_later (m_joys S n)) J) : ∀ (k j : Nat), n + 1 - j ≤ k → j ≤ n → V0 l (px_rm 3 0 0) mX12_goDay (false, []) 0 0 27 [.ref 54, .int (nI j)] [] (px_mk (m_joys S j) J) (px_q Q) := by
  have hn10 := hS.2.2.2.1
  intro k
  induction k with
  | zero => intro j h1 h2; omega
  | succ k ih =>
    intro j h1 h2
    have ho := m_ok_joys (k := j) hS
    refine V0_iload_n (pc := 27) dX12_goDay_27 rfl ?_
    refine V0_aload_n (pc := 28) dX12_goDay_28 rfl ?_
    refine V_geti (pc := 29) dX12_goDay_29 flX12_135 rfl rfl ?_
    rw [ho.2.2.1]
    refine V1_icmp_ge (pc := 32) 46 dX12_goDay_32 (by decide) (fun h32 => ?_) (fun h32 => ?_)
    · skip
      have hj : j = n := by have := px_ge h32 (by omega) (by omega); omega
      subst hj
      refine V0_aload_n (pc := 46) dX12_goDay_46 rfl ?_
      refine V_geti (pc := 47) dX12_goDay_47 flX12_258 rfl rfl ?_
      refine V0_sipush (pc := 50) (199) dX12_goDay_50 (by decide) ?_
      refine V1_icmp_ge (pc := 53) 66 dX12_goDay_53 (by decide) (fun h53 => ?_) (fun h53 => ?_)
      · skip
        refine V_retv (pc := 66) dX12_goDay_66 rfl ?_
        simpa [m_later, h53] using hQ
      · skip
        refine V0_aload_n (pc := 56) dX12_goDay_56 rfl ?_
        refine V0_dup (pc := 57) dX12_goDay_57 rfl ?_
        refine V_geti (pc := 58) dX12_goDay_58 flX12_258 rfl rfl ?_
        refine V0_iconst (pc := 61) (1) dX12_goDay_61 (by decide) ?_
        refine V0_iadd (pc := 62) dX12_goDay_62 ?_
        refine V_puti (pc := 63) dX12_goDay_63 flX12_258 rfl rfl ?_
        refine V_retv (pc := 66) dX12_goDay_66 rfl ?_
        simpa [m_later, h53] using hQ
    · skip
      have hj := px_lt h32 (by omega) (by omega)
      refine V0_aload_n (pc := 35) dX12_goDay_35 rfl ?_
      refine V0_iload_n (pc := 36) dX12_goDay_36 rfl ?_
      refine V_callV (pc := 37) (M' := mX12_goJoy) dX12_goDay_37 mlX12_285 okX12_goJoy rfl (c_X12_goJoy ho.2.2.2.2.1 (by omega)) rfl rfl rfl rfl ⟨Nat.le_of_ble_eq_true rfl, Nat.le_of_ble_eq_true rfl⟩ ⟨Nat.le_refl 0, Nat.le_refl 0⟩ (Nat.le_of_ble_eq_true rfl) ?_
      intro r1 I1 J1 hh
      obtain ⟨e1, e2, e3⟩ := hh
      rw [e1, e2, e3]
      clear e1 e2 e3 r1 I1 J1
      refine V0_iinc_1 (pc := 40) (nI (j + 1)) dX12_goDay_40 (by decide) rfl (nI_1 _) ?_
      refine V0_goto (pc := 43) 27 dX12_goDay_43 (by decide) ?_
      exact ih (j + 1) (by omega) (by omega)
theorem c_X12_goDay {l : Launch} {I : px_I} {J : px_J} {m n : Nat} (hk : m_ok I m n) : Ct l mX12_goDay 3 [.ref 54] I J (px_qs (m_day I m n) J) := by
  have key : ∀ I1 : px_I, I1 = m_st I m → V0 l (px_rm 3 0 0) mX12_goDay (false, []) 0 0 27 [.ref 54, .int (nI 0)] [] (px_mk I1 J) (px_q (px_qs (m_day I m n) J)) := by
    intro I1 e
    subst e
    exact lp_X12_goDay (m_ok_st hk) ⟨rfl, rfl, rfl⟩ (n + 1) 0 (by omega) (by omega)
  refine Ct.of plX12_goDay (Nat.le_of_ble_eq_true rfl) [.ref 54, .null] rfl ?_
  refine V0_aload_n (pc := 0) dX12_goDay_0 rfl ?_
  refine V_geti (pc := 1) dX12_goDay_1 flX12_258 rfl rfl ?_
  refine V1_if_le (pc := 4) 25 dX12_goDay_4 (by decide) (fun h4 => ?_) (fun h4 => ?_)
  · skip
    refine V0_iconst (pc := 25) (0) dX12_goDay_25 (by decide) ?_
    refine V0_istore_1 (pc := 26) dX12_goDay_26 (by decide) rfl ?_
    exact key _ (by simp [m_st, *])
  · skip
    refine V0_aload_n (pc := 7) dX12_goDay_7 rfl ?_
    refine V_geti (pc := 8) dX12_goDay_8 flX12_258 rfl rfl ?_
    refine V0_aload_n (pc := 11) dX12_goDay_11 rfl ?_
    refine V_getr (pc := 12) dX12_goDay_12 flX12_37 rfl rfl ?_
    refine V0_iconst (pc := 15) (1) dX12_goDay_15 (by decide) ?_
    refine V_iald (pc := 16) 1 dX12_goDay_16 rfl rfl (by omega) ?_
    refine V0_irem (pc := 17) dX12_goDay_17 hk.2.2.2.2.2.2 ?_
    refine V0_if_ne (pc := 18) 25 dX12_goDay_18 (by decide) (fun h18 => ?_) (fun h18 => ?_)
    · skip
      refine V0_iconst (pc := 25) (0) dX12_goDay_25 (by decide) ?_
      refine V0_istore_1 (pc := 26) dX12_goDay_26 (by decide) rfl ?_
      exact key _ (by simp [m_st, *])
    · skip
      refine V0_aload_n (pc := 21) dX12_goDay_21 rfl ?_
      refine V_callV (pc := 22) (M' := mX12_vote) dX12_goDay_22 mlX12_282 okX12_vote rfl (c_X12_vote hk.1 hk.2.1) rfl rfl rfl rfl ⟨Nat.le_of_ble_eq_true rfl, Nat.le_of_ble_eq_true rfl⟩ ⟨Nat.le_refl 0, Nat.le_refl 0⟩ (Nat.le_of_ble_eq_true rfl) ?_
      intro r1 I1 J1 hh
      obtain ⟨e1, e2, e3⟩ := hh
      rw [e1, e2, e3]
      clear e1 e2 e3 r1 I1 J1
      refine V0_iconst (pc := 25) (0) dX12_goDay_25 (by decide) ?_
      refine V0_istore_1 (pc := 26) dX12_goDay_26 (by decide) rfl ?_
      exact key _ (by simp [m_st, *])
def m_days (m n : Nat) (I : px_I) : Nat → px_I
  | 0 => I
  | k + 1 => m_day (m_days m n I k) m n
theorem m_days_row {I : px_I} {m n k q : Nat} (h : q ≠ 54) (h1 : q ≠ 78) (h2 : q ≠ 79) : m_days m n I k q = I q := by
  induction k with
  | zero => rfl
  | succ k ih => rw [m_days, m_day_row h h1 h2, ih]
theorem m_days_54 {I : px_I} {m n k i : Nat} (h : i < 36 ∨ 39 < i) : m_days m n I k 54 i = I 54 i := by
  induction k with
  | zero => rfl
  | succ k ih => rw [m_days, m_day_54 h, ih]
theorem m_ok_days {I : px_I} {m n k : Nat} (h : m_ok I m n) : m_ok (m_days m n I k) m n := h.of (m_days_54 (by omega)) (m_days_54 (by omega)) (m_days_row (by omega) (by omega) (by omega)) (m_days_row (by omega) (by omega) (by omega))
theorem lp_X12_goDays {l : Launch} {S : px_I} {J : px_J} {m n k : Nat} {Q : px_Q} (hS : m_ok S m n) (hk60 : k ≤ 60) (hQ : Q none (m_days m n S k) J) : ∀ (f j : Nat), k + 1 - j ≤ f → j ≤ k → V0 l (px_rm 4 0 0) mX12_goDays (false, []) 0 0 2 [.ref 54, .int (nI k), .int (nI j)] [] (px_mk (m_days m n S j) J) (px_q Q) := by
  intro f
  induction f with
  | zero => intro j h1 h2; omega
  | succ f ih =>
    intro j h1 h2
    have ho := m_ok_days (k := j) hS
    refine V0_iload_n (pc := 2) dX12_goDays_2 rfl ?_
    refine V0_iload_n (pc := 3) dX12_goDays_3 rfl ?_
    refine V1_icmp_ge (pc := 4) 17 dX12_goDays_4 (by decide) (fun h4 => ?_) (fun h4 => ?_)
    · skip
      have hj : j = k := by have := px_ge h4 (by omega) (by omega); omega
      subst hj
      refine V_retv (pc := 17) dX12_goDays_17 rfl ?_
      exact hQ
    · skip
      have hj := px_lt h4 (by omega) (by omega)
      refine V0_aload_n (pc := 7) dX12_goDays_7 rfl ?_
      refine V_callV (pc := 8) (M' := mX12_goDay) dX12_goDays_8 mlX12_319 okX12_goDay rfl (c_X12_goDay ho) rfl rfl rfl rfl ⟨Nat.le_of_ble_eq_true rfl, Nat.le_of_ble_eq_true rfl⟩ ⟨Nat.le_refl 0, Nat.le_refl 0⟩ (Nat.le_of_ble_eq_true rfl) ?_
      intro r1 I1 J1 hh
      obtain ⟨e1, e2, e3⟩ := hh
      rw [e1, e2, e3]
      clear e1 e2 e3 r1 I1 J1
      refine V0_iinc_2 (pc := 11) (nI (j + 1)) dX12_goDays_11 (by decide) rfl (nI_1 _) ?_
      refine V0_goto (pc := 14) 2 dX12_goDays_14 (by decide) ?_
      exact ih (j + 1) (by omega) (by omega)
theorem c_X12_goDays {l : Launch} {I : px_I} {J : px_J} {m n k : Nat} (hk : m_ok I m n) (hk60 : k ≤ 60) : Ct l mX12_goDays 4 [.ref 54, .int (nI k)] I J (px_qs (m_days m n I k) J) := by
  refine Ct.of plX12_goDays (Nat.le_of_ble_eq_true rfl) [.ref 54, .int (nI k), .null] rfl ?_
  refine V0_iconst (pc := 0) (0) dX12_goDays_0 (by decide) ?_
  refine V0_istore_2 (pc := 1) dX12_goDays_1 (by decide) rfl ?_
  exact lp_X12_goDays hk hk60 ⟨rfl, rfl, rfl⟩ (k + 1) 0 (by omega) (by omega)

