/-! the Model: calls in thought -/
theorem m_ok.lay {I : px_I} {m n : Nat} (h : m_ok I m n) : m_ok (m_lay I m n) m n := m_sd_lay.ok h
def m_lane (X : px_I) (m n : Nat) (w : Int32) : Int32 := if w = 4 then s_bits (m_gp X n) m else if w = 5 then X 54 36 else if w = 6 then s_sum (m_had X) (X 60) n else if w = 7 then s_sum (fun j => decide (X 79 j = 1)) (X 60) n else if w = 8 then X 54 38 else s_bits (m_in X w) n
theorem c_X12_lane {l : Launch} {I : px_I} {J : px_J} {x w : Int32} {m n : Nat} (hk : m_ok I m n) : Ct l mX12_lane 5 [.ref 54, .int x, .int w] I J (fun r I' J' => r = some (.int (if s_within x 0 60 = true ∧ s_within w 0 8 = true then m_lane (m_days m n (m_lay I m n) (ix x)) m n w else -1)) ∧ m_sd m n I I' ∧ J' = J) := by
  have hn10 := hk.2.2.2.1
  refine Ct.of plX12_lane (Nat.le_of_ble_eq_true rfl) [.ref 54, .int x, .int w] rfl ?_
  refine V0_iload_n (pc := 0) dX12_lane_0 rfl ?_
  refine V0_iconst (pc := 1) (0) dX12_lane_1 (by decide) ?_
  refine V0_bipush (pc := 2) (60) dX12_lane_2 (by decide) ?_
  refine V_callSi (pc := 4) (M' := mX12_in) dX12_lane_4 mlX12_131 okX12_in rfl c_X12_in rfl rfl ⟨Nat.le_of_ble_eq_true rfl, Nat.le_of_ble_eq_true rfl⟩ ⟨Nat.le_refl 0, Nat.le_refl 0⟩ (Nat.le_of_ble_eq_true rfl) ?_
  refine V_ifeqb (pc := 7) 20 dX12_lane_7 (by decide) (fun h7 => ?_) (fun h7 => ?_)
  · skip
    have z : ¬ (s_within x 0 60 = true ∧ s_within w 0 8 = true) := by first | exact (fun q => absurd (q.1.symm.trans (show s_within x 0 60 = false from h7)) (by decide)) | exact (fun q => absurd (q.2.symm.trans (show s_within w 0 8 = false from h17)) (by decide))
    refine V0_iconst (pc := 20) (-1) dX12_lane_20 (by decide) ?_
    refine V_reti (pc := 21) _ dX12_lane_21 rfl ?_
    exact ⟨by rw [if_neg z] <;> rfl, m_sd_refl, rfl⟩
  · skip
    refine V0_iload_n (pc := 10) dX12_lane_10 rfl ?_
    refine V0_iconst (pc := 11) (0) dX12_lane_11 (by decide) ?_
    refine V0_bipush (pc := 12) (8) dX12_lane_12 (by decide) ?_
    refine V_callSi (pc := 14) (M' := mX12_in) dX12_lane_14 mlX12_131 okX12_in rfl c_X12_in rfl rfl ⟨Nat.le_of_ble_eq_true rfl, Nat.le_of_ble_eq_true rfl⟩ ⟨Nat.le_refl 0, Nat.le_refl 0⟩ (Nat.le_of_ble_eq_true rfl) ?_
    refine V_ifneb (pc := 17) 22 dX12_lane_17 (by decide) (fun h17 => ?_) (fun h17 => ?_)
    · skip
      have z : s_within x 0 60 = true ∧ s_within w 0 8 = true := ⟨h7, h17⟩
      have hx := w_ixc (m := 60) (by omega) rfl h7
      have hc := c_X12_goDays (l := l) (I := m_lay I m n) (J := J) (k := ix x) hk.lay (by omega)
      rw [← hx.1] at hc
      have ho : m_ok (m_days m n (m_lay I m n) (ix x)) m n := m_ok_days hk.lay
      have hsd : m_sd m n I (m_days m n (m_lay I m n) (ix x)) := m_sd_lay.tr (m_sd_days _)
      refine V0_aload_n (pc := 22) dX12_lane_22 rfl ?_
      refine V_callV (pc := 23) (M' := mX12_layNow) dX12_lane_23 mlX12_304 okX12_layNow rfl (c_X12_layNow hk) rfl rfl rfl rfl ⟨Nat.le_of_ble_eq_true rfl, Nat.le_of_ble_eq_true rfl⟩ ⟨Nat.le_refl 0, Nat.le_refl 0⟩ (Nat.le_of_ble_eq_true rfl) ?_
      intro r1 I1 J1 hh
      obtain ⟨e1, e2, e3⟩ := hh
      rw [e1, e2, e3]
      clear e1 e2 e3 r1 I1 J1
      refine V0_aload_n (pc := 26) dX12_lane_26 rfl ?_
      refine V0_iload_n (pc := 27) dX12_lane_27 rfl ?_
      refine V_callV (pc := 28) (M' := mX12_goDays) dX12_lane_28 mlX12_322 okX12_goDays rfl hc rfl rfl rfl rfl ⟨Nat.le_of_ble_eq_true rfl, Nat.le_of_ble_eq_true rfl⟩ ⟨Nat.le_refl 0, Nat.le_refl 0⟩ (Nat.le_of_ble_eq_true rfl) ?_
      intro r1 I1 J1 hh
      obtain ⟨e1, e2, e3⟩ := hh
      rw [e1, e2, e3]
      clear e1 e2 e3 r1 I1 J1
      refine V0_iload_n (pc := 31) dX12_lane_31 rfl ?_
      by_cases s32_0 : w = (4)
      · refine V_tabIn (pc := 32) (off := 36) (4) 68 dX12_lane_32 s32_0 (by decide) (by decide) (by decide) (by decide) ?_
        refine V0_aload_n (pc := 68) dX12_lane_68 rfl ?_
        refine V_callVi (pc := 69) (M' := mX12_gladPeople) dX12_lane_69 mlX12_325 okX12_gladPeople rfl (c_X12_gladPeople ho) rfl rfl rfl rfl ⟨Nat.le_of_ble_eq_true rfl, Nat.le_of_ble_eq_true rfl⟩ ⟨Nat.le_refl 0, Nat.le_refl 0⟩ (Nat.le_of_ble_eq_true rfl) ?_
        refine V_reti (pc := 72) _ dX12_lane_72 rfl ?_
        refine ⟨?_, hsd, rfl⟩
        rw [if_pos z, m_lane]
        first | rw [if_pos s32_0] | rw [if_neg s32_0, if_pos s32_1] | rw [if_neg s32_0, if_neg s32_1, if_pos s32_2, m_in_2, s_worth_has (by omega)] | rw [if_neg s32_0, if_neg s32_1, if_neg s32_2, if_pos s32_3, m_in_3, s_worth_has (by omega)] | rw [if_neg s32_0, if_neg s32_1, if_neg s32_2, if_neg s32_3, if_pos s32_4] | rw [if_neg s32_0, if_neg s32_1, if_neg s32_2, if_neg s32_3, if_neg s32_4]
      by_cases s32_1 : w = (5)
      · refine V_tabIn (pc := 32) (off := 41) (5) 73 dX12_lane_32 s32_1 (by decide) (by decide) (by decide) (by decide) ?_
        refine V0_aload_n (pc := 73) dX12_lane_73 rfl ?_
        refine V_geti (pc := 74) dX12_lane_74 flX12_255 rfl rfl ?_
        refine V_reti (pc := 77) _ dX12_lane_77 rfl ?_
        refine ⟨?_, hsd, rfl⟩
        rw [if_pos z, m_lane]
        first | rw [if_pos s32_0] | rw [if_neg s32_0, if_pos s32_1] | rw [if_neg s32_0, if_neg s32_1, if_pos s32_2, m_in_2, s_worth_has (by omega)] | rw [if_neg s32_0, if_neg s32_1, if_neg s32_2, if_pos s32_3, m_in_3, s_worth_has (by omega)] | rw [if_neg s32_0, if_neg s32_1, if_neg s32_2, if_neg s32_3, if_pos s32_4] | rw [if_neg s32_0, if_neg s32_1, if_neg s32_2, if_neg s32_3, if_neg s32_4]
      by_cases s32_2 : w = (6)
      · refine V_tabIn (pc := 32) (off := 46) (6) 78 dX12_lane_32 s32_2 (by decide) (by decide) (by decide) (by decide) ?_
        refine V0_aload_n (pc := 78) dX12_lane_78 rfl ?_
        refine V0_aload_n (pc := 79) dX12_lane_79 rfl ?_
        refine V0_iconst (pc := 80) (2) dX12_lane_80 (by decide) ?_
        refine V_callVi (pc := 81) (M' := mX12_joysBy) dX12_lane_81 mlX12_328 okX12_joysBy rfl (c_X12_joysBy ho.2.2.1 hn10) rfl rfl rfl rfl ⟨Nat.le_of_ble_eq_true rfl, Nat.le_of_ble_eq_true rfl⟩ ⟨Nat.le_refl 0, Nat.le_refl 0⟩ (Nat.le_of_ble_eq_true rfl) ?_
        refine V_callVi (pc := 84) (M' := mX12_worthsOf) dX12_lane_84 mlX12_331 okX12_worthsOf rfl (c_X12_worthsOf ho.2.2.1 hn10) rfl rfl rfl rfl ⟨Nat.le_of_ble_eq_true rfl, Nat.le_of_ble_eq_true rfl⟩ ⟨Nat.le_refl 0, Nat.le_refl 0⟩ (Nat.le_of_ble_eq_true rfl) ?_
        refine V_reti (pc := 87) _ dX12_lane_87 rfl ?_
        refine ⟨?_, hsd, rfl⟩
        rw [if_pos z, m_lane]
        first | rw [if_pos s32_0] | rw [if_neg s32_0, if_pos s32_1] | rw [if_neg s32_0, if_neg s32_1, if_pos s32_2, m_in_2, s_worth_has (by omega)] | rw [if_neg s32_0, if_neg s32_1, if_neg s32_2, if_pos s32_3, m_in_3, s_worth_has (by omega)] | rw [if_neg s32_0, if_neg s32_1, if_neg s32_2, if_neg s32_3, if_pos s32_4] | rw [if_neg s32_0, if_neg s32_1, if_neg s32_2, if_neg s32_3, if_neg s32_4]
      by_cases s32_3 : w = (7)
      · refine V_tabIn (pc := 32) (off := 56) (7) 88 dX12_lane_32 s32_3 (by decide) (by decide) (by decide) (by decide) ?_
        refine V0_aload_n (pc := 88) dX12_lane_88 rfl ?_
        refine V0_aload_n (pc := 89) dX12_lane_89 rfl ?_
        refine V0_iconst (pc := 90) (3) dX12_lane_90 (by decide) ?_
        refine V_callVi (pc := 91) (M' := mX12_joysBy) dX12_lane_91 mlX12_328 okX12_joysBy rfl (c_X12_joysBy ho.2.2.1 hn10) rfl rfl rfl rfl ⟨Nat.le_of_ble_eq_true rfl, Nat.le_of_ble_eq_true rfl⟩ ⟨Nat.le_refl 0, Nat.le_refl 0⟩ (Nat.le_of_ble_eq_true rfl) ?_
        refine V_callVi (pc := 94) (M' := mX12_worthsOf) dX12_lane_94 mlX12_331 okX12_worthsOf rfl (c_X12_worthsOf ho.2.2.1 hn10) rfl rfl rfl rfl ⟨Nat.le_of_ble_eq_true rfl, Nat.le_of_ble_eq_true rfl⟩ ⟨Nat.le_refl 0, Nat.le_refl 0⟩ (Nat.le_of_ble_eq_true rfl) ?_
        refine V_reti (pc := 97) _ dX12_lane_97 rfl ?_
        refine ⟨?_, hsd, rfl⟩
        rw [if_pos z, m_lane]
        first | rw [if_pos s32_0] | rw [if_neg s32_0, if_pos s32_1] | rw [if_neg s32_0, if_neg s32_1, if_pos s32_2, m_in_2, s_worth_has (by omega)] | rw [if_neg s32_0, if_neg s32_1, if_neg s32_2, if_pos s32_3, m_in_3, s_worth_has (by omega)] | rw [if_neg s32_0, if_neg s32_1, if_neg s32_2, if_neg s32_3, if_pos s32_4] | rw [if_neg s32_0, if_neg s32_1, if_neg s32_2, if_neg s32_3, if_neg s32_4]
      by_cases s32_4 : w = (8)
      · refine V_tabIn (pc := 32) (off := 66) (8) 98 dX12_lane_32 s32_4 (by decide) (by decide) (by decide) (by decide) ?_
        refine V0_aload_n (pc := 98) dX12_lane_98 rfl ?_
        refine V_geti (pc := 99) dX12_lane_99 flX12_261 rfl rfl ?_
        refine V_reti (pc := 102) _ dX12_lane_102 rfl ?_
        refine ⟨?_, hsd, rfl⟩
        rw [if_pos z, m_lane]
        first | rw [if_pos s32_0] | rw [if_neg s32_0, if_pos s32_1] | rw [if_neg s32_0, if_neg s32_1, if_pos s32_2, m_in_2, s_worth_has (by omega)] | rw [if_neg s32_0, if_neg s32_1, if_neg s32_2, if_pos s32_3, m_in_3, s_worth_has (by omega)] | rw [if_neg s32_0, if_neg s32_1, if_neg s32_2, if_neg s32_3, if_pos s32_4] | rw [if_neg s32_0, if_neg s32_1, if_neg s32_2, if_neg s32_3, if_neg s32_4]
      refine V_tabOut (pc := 32) 103 dX12_lane_32 (by have g0 := px_ne s32_0 (k := 4) (by decide); have g1 := px_ne s32_1 (k := 5) (by decide); have g2 := px_ne s32_2 (k := 6) (by decide); have g3 := px_ne s32_3 (k := 7) (by decide); have g4 := px_ne s32_4 (k := 8) (by decide); omega) (by decide) ?_
      refine V0_aload_n (pc := 103) dX12_lane_103 rfl ?_
      refine V0_iload_n (pc := 104) dX12_lane_104 rfl ?_
      refine V_callVi (pc := 105) (M' := mX12_joysBy) dX12_lane_105 mlX12_328 okX12_joysBy rfl (c_X12_joysBy ho.2.2.1 hn10) rfl rfl rfl rfl ⟨Nat.le_of_ble_eq_true rfl, Nat.le_of_ble_eq_true rfl⟩ ⟨Nat.le_refl 0, Nat.le_refl 0⟩ (Nat.le_of_ble_eq_true rfl) ?_
      refine V_reti (pc := 108) _ dX12_lane_108 rfl ?_
      refine ⟨?_, hsd, rfl⟩
      rw [if_pos z, m_lane]
      first | rw [if_pos s32_0] | rw [if_neg s32_0, if_pos s32_1] | rw [if_neg s32_0, if_neg s32_1, if_pos s32_2, m_in_2, s_worth_has (by omega)] | rw [if_neg s32_0, if_neg s32_1, if_neg s32_2, if_pos s32_3, m_in_3, s_worth_has (by omega)] | rw [if_neg s32_0, if_neg s32_1, if_neg s32_2, if_neg s32_3, if_pos s32_4] | rw [if_neg s32_0, if_neg s32_1, if_neg s32_2, if_neg s32_3, if_neg s32_4]
    · skip
      have z : ¬ (s_within x 0 60 = true ∧ s_within w 0 8 = true) := by first | exact (fun q => absurd (q.1.symm.trans (show s_within x 0 60 = false from h7)) (by decide)) | exact (fun q => absurd (q.2.symm.trans (show s_within w 0 8 = false from h17)) (by decide))
      refine V0_iconst (pc := 20) (-1) dX12_lane_20 (by decide) ?_
      refine V_reti (pc := 21) _ dX12_lane_21 rfl ?_
      exact ⟨by rw [if_neg z] <;> rfl, m_sd_refl, rfl⟩
def m_is (X : px_I) (w : Int32) (jy : Nat) : Bool := if w = 0 then m_had X jy else decide (X 79 jy = 1)
theorem lp_X12_when {l : Launch} {S : px_I} {J : px_J} {m n jy : Nat} {w : Int32} {Q : px_Q} (hS : m_ok S m n) (hjy : jy < 10) : ∀ (f j : Nat), j + f = 61 → (∀ i, Q (some (.int (s_first (fun i => m_is (m_days m n S i) w jy) f j))) (m_days m n S i) J) → V0 l (px_rm 4 0 0) mX12_when (false, []) 0 0 25 [.ref 54, .int (nI jy), .int w, .int (nI j)] [] (px_mk (m_days m n S j) J) (px_q Q) := by
  intro f
  induction f with
  | zero =>
    intro j h1 hQ
    obtain rfl : j = 61 := by omega
    refine V0_iload_n (pc := 25) dX12_when_25 rfl ?_
    refine V0_bipush (pc := 26) (60) dX12_when_26 (by decide) ?_
    refine V0_icmp_gt (pc := 28) 68 dX12_when_28 (by decide) (fun h28 => ?_) (fun h28 => ?_)
    · skip
      refine V0_bipush (pc := 68) (-2) dX12_when_68 (by decide) ?_
      refine V_reti (pc := 70) _ dX12_when_70 rfl ?_
      exact hQ 61
    · skip
      exact absurd (show (60 : Int32) < nI 61 by decide) h28
  | succ f ih =>
    intro j h1 hQ
    have ho := m_ok_days (k := j) hS
    have hj60 : ¬ (60 : Int32) < nI j := fun q => absurd ((qI_lt (a := 60) (b := j) (by omega) (by omega)).mp q) (by omega)
    refine V0_iload_n (pc := 25) dX12_when_25 rfl ?_
    refine V0_bipush (pc := 26) (60) dX12_when_26 (by decide) ?_
    refine V0_icmp_gt (pc := 28) 68 dX12_when_28 (by decide) (fun h28 => ?_) (fun h28 => ?_)
    · skip
      exact absurd h28 hj60
    · skip
      refine V0_iload_n (pc := 31) dX12_when_31 rfl ?_
      refine V0_if_ne (pc := 32) 46 dX12_when_32 (by decide) (fun h32 => ?_) (fun h32 => ?_)
      · skip
        refine V0_aload_n (pc := 46) dX12_when_46 rfl ?_
        refine V_getr (pc := 47) dX12_when_47 flX12_84 rfl rfl ?_
        refine V0_iload_n (pc := 50) dX12_when_50 rfl ?_
        refine V_iald (pc := 51) (jy) dX12_when_51 rfl rfl (by omega) ?_
        refine V0_iconst (pc := 52) (1) dX12_when_52 (by decide) ?_
        refine V0_icmp_ne (pc := 53) 58 dX12_when_53 (by decide) (fun h53 => ?_) (fun h53 => ?_)
        · skip
          have hb : ¬ m_is (m_days m n S j) w jy = true := by first | (rw [m_is, if_pos h32]; exact (fun q => absurd (q.symm.trans h40) (by decide))) | (rw [m_is, if_neg h32]; exact (fun q => h53 (of_decide_eq_true q)))
          refine V0_aload_n (pc := 58) dX12_when_58 rfl ?_
          refine V_callV (pc := 59) (M' := mX12_goDay) dX12_when_59 mlX12_319 okX12_goDay rfl (c_X12_goDay ho) rfl rfl rfl rfl ⟨Nat.le_of_ble_eq_true rfl, Nat.le_of_ble_eq_true rfl⟩ ⟨Nat.le_refl 0, Nat.le_refl 0⟩ (Nat.le_of_ble_eq_true rfl) ?_
          intro r1 I1 J1 hh
          obtain ⟨e1, e2, e3⟩ := hh
          rw [e1, e2, e3]
          clear e1 e2 e3 r1 I1 J1
          refine V0_iinc_3 (pc := 62) (nI (j + 1)) dX12_when_62 (by decide) rfl (nI_1 _) ?_
          refine V0_goto (pc := 65) 25 dX12_when_65 (by decide) ?_
          exact ih (j + 1) (by omega) (fun i => by have := hQ i; rw [s_first, if_neg hb] at this; exact this)
        · skip
          have hb : m_is (m_days m n S j) w jy = true := by first | (rw [m_is, if_pos h32]; exact h40) | (rw [m_is, if_neg h32]; exact decide_eq_true h53)
          refine V0_iload_n (pc := 56) dX12_when_56 rfl ?_
          refine V_reti (pc := 57) _ dX12_when_57 rfl ?_
          have := hQ j
          rw [s_first, if_pos hb] at this
          exact this
      · skip
        refine V0_aload_n (pc := 35) dX12_when_35 rfl ?_
        refine V0_iload_n (pc := 36) dX12_when_36 rfl ?_
        refine V_callVi (pc := 37) (M' := mX12_isHad) dX12_when_37 mlX12_289 okX12_isHad rfl (c_X12_isHad (by omega)) rfl rfl rfl rfl ⟨Nat.le_of_ble_eq_true rfl, Nat.le_of_ble_eq_true rfl⟩ ⟨Nat.le_refl 0, Nat.le_refl 0⟩ (Nat.le_of_ble_eq_true rfl) ?_
        refine V_ifeqb (pc := 40) 58 dX12_when_40 (by decide) (fun h40 => ?_) (fun h40 => ?_)
        · skip
          have hb : ¬ m_is (m_days m n S j) w jy = true := by first | (rw [m_is, if_pos h32]; exact (fun q => absurd (q.symm.trans h40) (by decide))) | (rw [m_is, if_neg h32]; exact (fun q => h53 (of_decide_eq_true q)))
          refine V0_aload_n (pc := 58) dX12_when_58 rfl ?_
          refine V_callV (pc := 59) (M' := mX12_goDay) dX12_when_59 mlX12_319 okX12_goDay rfl (c_X12_goDay ho) rfl rfl rfl rfl ⟨Nat.le_of_ble_eq_true rfl, Nat.le_of_ble_eq_true rfl⟩ ⟨Nat.le_refl 0, Nat.le_refl 0⟩ (Nat.le_of_ble_eq_true rfl) ?_
          intro r1 I1 J1 hh
          obtain ⟨e1, e2, e3⟩ := hh
          rw [e1, e2, e3]
          clear e1 e2 e3 r1 I1 J1
          refine V0_iinc_3 (pc := 62) (nI (j + 1)) dX12_when_62 (by decide) rfl (nI_1 _) ?_
          refine V0_goto (pc := 65) 25 dX12_when_65 (by decide) ?_
          exact ih (j + 1) (by omega) (fun i => by have := hQ i; rw [s_first, if_neg hb] at this; exact this)
        · skip
          refine V0_goto (pc := 43) 56 dX12_when_43 (by decide) ?_
          have hb : m_is (m_days m n S j) w jy = true := by first | (rw [m_is, if_pos h32]; exact h40) | (rw [m_is, if_neg h32]; exact decide_eq_true h53)
          refine V0_iload_n (pc := 56) dX12_when_56 rfl ?_
          refine V_reti (pc := 57) _ dX12_when_57 rfl ?_
          have := hQ j
          rw [s_first, if_pos hb] at this
          exact this
theorem c_X12_when {l : Launch} {I : px_I} {J : px_J} {x w : Int32} {m n : Nat} (hk : m_ok I m n) : Ct l mX12_when 4 [.ref 54, .int x, .int w] I J (fun r I' J' => r = some (.int (if m_joy I x = true ∧ s_within w 0 1 = true then s_first (fun i => m_is (m_days m n (m_lay I m n) i) w (ix x)) 61 0 else -1)) ∧ m_sd m n I I' ∧ J' = J) := by
  have hn10 := hk.2.2.2.1
  refine Ct.of plX12_when (Nat.le_of_ble_eq_true rfl) [.ref 54, .int x, .int w, .null] rfl ?_
  refine V0_aload_n (pc := 0) dX12_when_0 rfl ?_
  refine V0_iload_n (pc := 1) dX12_when_1 rfl ?_
  refine V_callVi (pc := 2) (M' := mX12_isJoy) dX12_when_2 mlX12_168 okX12_isJoy rfl c_X12_isJoy rfl rfl rfl rfl ⟨Nat.le_of_ble_eq_true rfl, Nat.le_of_ble_eq_true rfl⟩ ⟨Nat.le_refl 0, Nat.le_refl 0⟩ (Nat.le_of_ble_eq_true rfl) ?_
  refine V_ifeqb (pc := 5) 17 dX12_when_5 (by decide) (fun h5 => ?_) (fun h5 => ?_)
  · skip
    have z : ¬ (m_joy I x = true ∧ s_within w 0 1 = true) := by first | exact (fun q => absurd (q.1.symm.trans (show m_joy I x = false from h5)) (by decide)) | exact (fun q => absurd (q.2.symm.trans (show s_within w 0 1 = false from h14)) (by decide))
    refine V0_iconst (pc := 17) (-1) dX12_when_17 (by decide) ?_
    refine V_reti (pc := 18) _ dX12_when_18 rfl ?_
    exact ⟨by rw [if_neg z] <;> rfl, m_sd_refl, rfl⟩
  · skip
    refine V0_iload_n (pc := 8) dX12_when_8 rfl ?_
    refine V0_iconst (pc := 9) (0) dX12_when_9 (by decide) ?_
    refine V0_iconst (pc := 10) (1) dX12_when_10 (by decide) ?_
    refine V_callSi (pc := 11) (M' := mX12_in) dX12_when_11 mlX12_131 okX12_in rfl c_X12_in rfl rfl ⟨Nat.le_of_ble_eq_true rfl, Nat.le_of_ble_eq_true rfl⟩ ⟨Nat.le_refl 0, Nat.le_refl 0⟩ (Nat.le_of_ble_eq_true rfl) ?_
    refine V_ifneb (pc := 14) 19 dX12_when_14 (by decide) (fun h14 => ?_) (fun h14 => ?_)
    · skip
      have z : m_joy I x = true ∧ s_within w 0 1 = true := ⟨h5, h14⟩
      have hx := m_joy_ix hk.2.2.1 hn10 h5
      refine V0_aload_n (pc := 19) dX12_when_19 rfl ?_
      refine V_callV (pc := 20) (M' := mX12_layNow) dX12_when_20 mlX12_304 okX12_layNow rfl (c_X12_layNow hk) rfl rfl rfl rfl ⟨Nat.le_of_ble_eq_true rfl, Nat.le_of_ble_eq_true rfl⟩ ⟨Nat.le_refl 0, Nat.le_refl 0⟩ (Nat.le_of_ble_eq_true rfl) ?_
      intro r1 I1 J1 hh
      obtain ⟨e1, e2, e3⟩ := hh
      rw [e1, e2, e3]
      clear e1 e2 e3 r1 I1 J1
      refine V0_iconst (pc := 23) (0) dX12_when_23 (by decide) ?_
      refine V0_istore_3 (pc := 24) dX12_when_24 (by decide) rfl ?_
      have h := lp_X12_when (l := l) (S := m_lay I m n) (J := J) (jy := ix x) (w := w) (Q := fun r I' J' => r = some (.int (if m_joy I x = true ∧ s_within w 0 1 = true then s_first (fun i => m_is (m_days m n (m_lay I m n) i) w (ix x)) 61 0 else -1)) ∧ m_sd m n I I' ∧ J' = J) hk.lay (by omega) 61 0 rfl (fun i => ⟨by rw [if_pos z], m_sd_lay.tr (m_sd_days i), rfl⟩)
      rw [← hx.1] at h
      exact h
    · skip
      have z : ¬ (m_joy I x = true ∧ s_within w 0 1 = true) := by first | exact (fun q => absurd (q.1.symm.trans (show m_joy I x = false from h5)) (by decide)) | exact (fun q => absurd (q.2.symm.trans (show s_within w 0 1 = false from h14)) (by decide))
      refine V0_iconst (pc := 17) (-1) dX12_when_17 (by decide) ?_
      refine V_reti (pc := 18) _ dX12_when_18 rfl ?_
      exact ⟨by rw [if_neg z] <;> rfl, m_sd_refl, rfl⟩
def m_wo (S : px_I) (m n k : Nat) : Int32 := s_sum (m_had (m_days m n S k)) (S 60) n
theorem c_X12_hadBehind {l : Launch} {I : px_I} {J : px_J} {m n k : Nat} (hk : m_ok I m n) (hk60 : k ≤ 60) : Ct l mX12_hadBehind 5 [.ref 54, .int (nI k)] I J (px_qi (m_wo I m n k) (m_days m n I k) J) := by
  have ho : m_ok (m_days m n I k) m n := m_ok_days hk
  have hn10 := hk.2.2.2.1
  refine Ct.of plX12_hadBehind (Nat.le_of_ble_eq_true rfl) [.ref 54, .int (nI k)] rfl ?_
  refine V0_aload_n (pc := 0) dX12_hadBehind_0 rfl ?_
  refine V0_iload_n (pc := 1) dX12_hadBehind_1 rfl ?_
  refine V_callV (pc := 2) (M' := mX12_goDays) dX12_hadBehind_2 mlX12_322 okX12_goDays rfl (c_X12_goDays hk hk60) rfl rfl rfl rfl ⟨Nat.le_of_ble_eq_true rfl, Nat.le_of_ble_eq_true rfl⟩ ⟨Nat.le_refl 0, Nat.le_refl 0⟩ (Nat.le_of_ble_eq_true rfl) ?_
  intro r1 I1 J1 hh
  obtain ⟨e1, e2, e3⟩ := hh
  rw [e1, e2, e3]
  clear e1 e2 e3 r1 I1 J1
  refine V0_aload_n (pc := 5) dX12_hadBehind_5 rfl ?_
  refine V0_aload_n (pc := 6) dX12_hadBehind_6 rfl ?_
  refine V0_iconst (pc := 7) (2) dX12_hadBehind_7 (by decide) ?_
  refine V_callVi (pc := 8) (M' := mX12_joysBy) dX12_hadBehind_8 mlX12_328 okX12_joysBy rfl (c_X12_joysBy ho.2.2.1 hn10) rfl rfl rfl rfl ⟨Nat.le_of_ble_eq_true rfl, Nat.le_of_ble_eq_true rfl⟩ ⟨Nat.le_refl 0, Nat.le_refl 0⟩ (Nat.le_of_ble_eq_true rfl) ?_
  refine V_callVi (pc := 11) (M' := mX12_worthsOf) dX12_hadBehind_11 mlX12_331 okX12_worthsOf rfl (c_X12_worthsOf ho.2.2.1 hn10) rfl rfl rfl rfl ⟨Nat.le_of_ble_eq_true rfl, Nat.le_of_ble_eq_true rfl⟩ ⟨Nat.le_refl 0, Nat.le_refl 0⟩ (Nat.le_of_ble_eq_true rfl) ?_
  refine V_reti (pc := 14) _ dX12_hadBehind_14 rfl ?_
  exact ⟨by rw [m_in_2, s_worth_has (by omega), m_wo, m_days_row (q := 60) (by omega) (by omega) (by omega)], rfl, rfl⟩
/-! whom to move over -/
def m_mw (I : px_I) (m n k i : Nat) : Int32 := m_wo (px_up (m_lay I m n) 77 (i / 12) (nI (i % 12))) m n k
def m_mv (I : px_I) (m n k : Nat) : Nat → Int32 × Int32
  | 0 => (m_wo (m_lay I m n) m n k, 99)
  | i + 1 => if nI (i % 12) = I 55 (i / 12) then m_mv I m n k i else if (m_mv I m n k i).1 < m_mw I m n k i then (m_mw I m n k i, nI i) else m_mv I m n k i
theorem lp_X12_move {l : Launch} {I : px_I} {J : px_J} {m n k p : Nat} {w : Int32} {Q : px_Q} (hk : m_ok I m n) (hk60 : k ≤ 60) (hp : p < m) (kk : ∀ (X : px_I) (v6 v7 : Value), m_sd m n I X → V0 l (px_rm 6 0 0) mX12_move (false, []) 0 0 121 [.ref 54, .int (nI k), .int w, .int (m_mv I m n k (12 * p + 12)).2, .int (m_mv I m n k (12 * p + 12)).1, .int (nI p), v6, v7] [] (px_mk X J) (px_q Q)) : ∀ (f h : Nat), h + f = 12 → ∀ (X : px_I) (v7 : Value), m_sd m n I X → V0 l (px_rm 6 0 0) mX12_move (false, []) 0 0 50 [.ref 54, .int (nI k), .int w, .int (m_mv I m n k (12 * p + h)).2, .int (m_mv I m n k (12 * p + h)).1, .int (nI p), .int (nI h), v7] [] (px_mk X J) (px_q Q) := by
  have hm7 := hk.2.1
  intro f
  induction f with
  | zero =>
    intro h h1 X v7 hsd
    obtain rfl : h = 12 := by omega
    refine V0_iload (pc := 50) dX12_move_50 rfl ?_
    refine V0_bipush (pc := 52) (12) dX12_move_52 (by decide) ?_
    refine V1_icmp_ge (pc := 54) 121 dX12_move_54 (by decide) (fun h54 => ?_) (fun h54 => ?_)
    · skip
      exact kk _ _ _ hsd
    · skip
      exact absurd (show nI 12 < (12 : Int32) from h54) (by decide)
  | succ f ih =>
    intro h h1 X v7 hsd
    have hlt : nI h < (12 : Int32) := (qI_lt (a := h) (b := 12) (by omega) (by omega)).mpr (by omega)
    have r55 := hsd.1 55 (by omega) (by omega) (by omega) (by omega)
    have hkX := hsd.ok hk
    have hk2 : m_ok (px_up (m_lay I m n) 77 p (nI h)) m n := m_ok_up hk.lay (by omega) (by omega) (by omega)
    have hs2 : m_sd m n I (m_days m n (px_up (m_lay I m n) 77 p (nI h)) k) := (m_sd_lay.tr (m_sd_up77 hp)).tr (m_sd_days k)
    have e1 : m_mv I m n k (12 * p + (h + 1)) = if nI h = I 55 p then m_mv I m n k (12 * p + h) else if (m_mv I m n k (12 * p + h)).1 < m_wo (px_up (m_lay I m n) 77 p (nI h)) m n k then (m_wo (px_up (m_lay I m n) 77 p (nI h)) m n k, nI (12 * p + h)) else m_mv I m n k (12 * p + h) := by
      show m_mv I m n k (12 * p + h + 1) = _
      rw [m_mv, m_mw, show (12 * p + h) % 12 = h from by omega, show (12 * p + h) / 12 = p from by omega]
    refine V0_iload (pc := 50) dX12_move_50 rfl ?_
    refine V0_bipush (pc := 52) (12) dX12_move_52 (by decide) ?_
    refine V1_icmp_ge (pc := 54) 121 dX12_move_54 (by decide) (fun h54 => ?_) (fun h54 => ?_)
    · skip
      exact absurd hlt h54
    · skip
      refine V0_iload (pc := 57) dX12_move_57 rfl ?_
      refine V0_aload_n (pc := 59) dX12_move_59 rfl ?_
      refine V_getr (pc := 60) dX12_move_60 flX12_7 rfl rfl ?_
      refine V0_iload (pc := 63) dX12_move_63 rfl ?_
      refine V_iald (pc := 65) p dX12_move_65 rfl rfl (by omega) ?_
      rw [r55]
      refine V0_icmp_ne (pc := 66) 72 dX12_move_66 (by decide) (fun h66 => ?_) (fun h66 => ?_)
      · skip
        refine V0_aload_n (pc := 72) dX12_move_72 rfl ?_
        refine V_callV (pc := 73) (M' := mX12_layNow) dX12_move_73 mlX12_304 okX12_layNow rfl (c_X12_layNow hkX) rfl rfl rfl rfl ⟨Nat.le_of_ble_eq_true rfl, Nat.le_of_ble_eq_true rfl⟩ ⟨Nat.le_refl 0, Nat.le_refl 0⟩ (Nat.le_of_ble_eq_true rfl) ?_
        intro r1 I1 J1 hh
        obtain ⟨e1, e2, e3⟩ := hh
        rw [e1, e2, e3]
        clear e1 e2 e3 r1 I1 J1
        rw [hsd.lay]
        refine V0_aload_n (pc := 76) dX12_move_76 rfl ?_
        refine V_getr (pc := 77) dX12_move_77 flX12_78 rfl rfl ?_
        refine V0_iload (pc := 80) dX12_move_80 rfl ?_
        refine V0_iload (pc := 82) dX12_move_82 rfl ?_
        refine V_iast (pc := 84) p dX12_move_84 rfl rfl (by omega) ?_
        refine V0_aload_n (pc := 85) dX12_move_85 rfl ?_
        refine V0_iload_n (pc := 86) dX12_move_86 rfl ?_
        refine V_callV (pc := 87) (M' := mX12_hadBehind) dX12_move_87 mlX12_334 okX12_hadBehind rfl (c_X12_hadBehind hk2 hk60) rfl rfl rfl rfl ⟨Nat.le_of_ble_eq_true rfl, Nat.le_of_ble_eq_true rfl⟩ ⟨Nat.le_refl 0, Nat.le_refl 0⟩ (Nat.le_of_ble_eq_true rfl) ?_
        intro r1 I1 J1 hh
        obtain ⟨e1, e2, e3⟩ := hh
        rw [e1, e2, e3]
        clear e1 e2 e3 r1 I1 J1
        refine V0_istore_7 (pc := 90) dX12_move_90 (by decide) rfl ?_
        refine V0_iload (pc := 92) dX12_move_92 rfl ?_
        refine V0_iload (pc := 94) dX12_move_94 rfl ?_
        refine V0_icmp_gt (pc := 96) 102 dX12_move_96 (by decide) (fun h96 => ?_) (fun h96 => ?_)
        · skip
          have e2 := e1.trans ((if_neg h66).trans (if_pos h96))
          have hs3 := hs2
          refine V0_iload (pc := 102) dX12_move_102 rfl ?_
          refine V0_istore_4 (pc := 104) dX12_move_104 (by decide) rfl ?_
          refine V0_bipush (pc := 106) (12) dX12_move_106 (by decide) ?_
          refine V0_iload (pc := 108) dX12_move_108 rfl ?_
          refine V0_imul (pc := 110) dX12_move_110 ?_
          refine V0_iload (pc := 111) dX12_move_111 rfl ?_
          refine V0_iadd (pc := 113) dX12_move_113 ?_
          rw [show (12 : Int32) * nI p + nI h = nI (12 * p + h) from by rw [show (12 : Int32) = nI 12 from rfl, qI_mul, qI_add]]
          refine V0_istore_3 (pc := 114) dX12_move_114 (by decide) rfl ?_
          refine V0_iinc_6 (pc := 115) (nI (h + 1)) dX12_move_115 (by decide) rfl (nI_1 _) ?_
          refine V0_goto (pc := 118) 50 dX12_move_118 (by decide) ?_
          exact V_ls (by rw [e2]) (ih (h + 1) (by omega) _ _ hs3)
        · skip
          have e2 := e1.trans ((if_neg h66).trans (if_neg h96))
          have hs3 := hs2
          refine V0_goto (pc := 99) 115 dX12_move_99 (by decide) ?_
          refine V0_iinc_6 (pc := 115) (nI (h + 1)) dX12_move_115 (by decide) rfl (nI_1 _) ?_
          refine V0_goto (pc := 118) 50 dX12_move_118 (by decide) ?_
          exact V_ls (by rw [e2]) (ih (h + 1) (by omega) _ _ hs3)
      · skip
        have e2 := e1.trans (if_pos h66)
        have hs3 := hsd
        refine V0_goto (pc := 69) 115 dX12_move_69 (by decide) ?_
        refine V0_iinc_6 (pc := 115) (nI (h + 1)) dX12_move_115 (by decide) rfl (nI_1 _) ?_
        refine V0_goto (pc := 118) 50 dX12_move_118 (by decide) ?_
        exact V_ls (by rw [e2]) (ih (h + 1) (by omega) _ _ hs3)
theorem lo_X12_move {l : Launch} {I : px_I} {J : px_J} {m n k : Nat} {w : Int32} {Q : px_Q} (hk : m_ok I m n) (hk60 : k ≤ 60) (hQ : ∀ X, m_sd m n I X → Q (some (.int (if w = 0 then (m_mv I m n k (12 * m)).1 else (m_mv I m n k (12 * m)).2))) X J) : ∀ (f p : Nat), p + f = m → ∀ (X : px_I) (v6 v7 : Value), m_sd m n I X → V0 l (px_rm 6 0 0) mX12_move (false, []) 0 0 38 [.ref 54, .int (nI k), .int w, .int (m_mv I m n k (12 * p)).2, .int (m_mv I m n k (12 * p)).1, .int (nI p), v6, v7] [] (px_mk X J) (px_q Q) := by
  have hm7 := hk.2.1
  intro f
  induction f with
  | zero =>
    intro p h1 X v6 v7 hsd
    obtain rfl : p = m := by omega
    have hkX := hsd.ok hk
    refine V0_iload (pc := 38) dX12_move_38 rfl ?_
    refine V0_aload_n (pc := 40) dX12_move_40 rfl ?_
    refine V_geti (pc := 41) dX12_move_41 flX12_128 rfl rfl ?_
    rw [hkX.1]
    refine V1_icmp_ge (pc := 44) 127 dX12_move_44 (by decide) (fun h44 => ?_) (fun h44 => ?_)
    · skip
      refine V0_iload_n (pc := 127) dX12_move_127 rfl ?_
      refine V0_if_ne (pc := 128) 136 dX12_move_128 (by decide) (fun h128 => ?_) (fun h128 => ?_)
      · skip
        refine V0_iload_n (pc := 136) dX12_move_136 rfl ?_
        refine V_reti (pc := 137) _ dX12_move_137 rfl ?_
        first | (rw [if_pos h128] at hQ; exact hQ _ hsd) | (rw [if_neg h128] at hQ; exact hQ _ hsd)
      · skip
        refine V0_iload (pc := 131) dX12_move_131 rfl ?_
        refine V0_goto (pc := 133) 137 dX12_move_133 (by decide) ?_
        refine V_reti (pc := 137) _ dX12_move_137 rfl ?_
        first | (rw [if_pos h128] at hQ; exact hQ _ hsd) | (rw [if_neg h128] at hQ; exact hQ _ hsd)
    · skip
      exact absurd ((qI_lt (a := p) (b := p) (by omega) (by omega)).mp h44) (by omega)
  | succ f ih =>
    intro p h1 X v6 v7 hsd
    have hlt : nI p < nI m := (qI_lt (by omega) (by omega)).mpr (by omega)
    have hkX := hsd.ok hk
    have kk : ∀ (X : px_I) (v6 v7 : Value), m_sd m n I X → V0 l (px_rm 6 0 0) mX12_move (false, []) 0 0 121 [.ref 54, .int (nI k), .int w, .int (m_mv I m n k (12 * p + 12)).2, .int (m_mv I m n k (12 * p + 12)).1, .int (nI p), v6, v7] [] (px_mk X J) (px_q Q) := by
      intro X v6 v7 hsd
      refine V0_iinc_5 (pc := 121) (nI (p + 1)) dX12_move_121 (by decide) rfl (nI_1 _) ?_
      refine V0_goto (pc := 124) 38 dX12_move_124 (by decide) ?_
      exact ih (p + 1) (by omega) X v6 v7 hsd
    refine V0_iload (pc := 38) dX12_move_38 rfl ?_
    refine V0_aload_n (pc := 40) dX12_move_40 rfl ?_
    refine V_geti (pc := 41) dX12_move_41 flX12_128 rfl rfl ?_
    rw [hkX.1]
    refine V1_icmp_ge (pc := 44) 127 dX12_move_44 (by decide) (fun h44 => ?_) (fun h44 => ?_)
    · skip
      exact absurd hlt h44
    · skip
      refine V0_iconst (pc := 47) (0) dX12_move_47 (by decide) ?_
      refine V0_istore_6 (pc := 48) dX12_move_48 (by decide) rfl ?_
      exact lp_X12_move hk hk60 (by omega) kk 12 0 (by omega) X _ hsd
theorem c_X12_move {l : Launch} {I : px_I} {J : px_J} {x w : Int32} {m n : Nat} (hk : m_ok I m n) : Ct l mX12_move 6 [.ref 54, .int x, .int w] I J (fun r I' J' => r = some (.int (if s_within x 0 40 = true ∧ s_within w 0 1 = true then (if w = 0 then (m_mv I m n (ix x) (12 * m)).1 else (m_mv I m n (ix x) (12 * m)).2) else -1)) ∧ m_sd m n I I' ∧ J' = J) := by
  by_cases z : s_within x 0 40 = true ∧ s_within w 0 1 = true
  · have hx := w_ixc (m := 40) (by omega) rfl z.1
    have hc := c_X12_hadBehind (l := l) (I := m_lay I m n) (J := J) (k := ix x) hk.lay (by omega)
    rw [← hx.1] at hc
    have ho := lo_X12_move (l := l) (I := I) (J := J) (m := m) (n := n) (k := ix x) (w := w) (Q := fun r I' J' => r = some (.int (if s_within x 0 40 = true ∧ s_within w 0 1 = true then (if w = 0 then (m_mv I m n (ix x) (12 * m)).1 else (m_mv I m n (ix x) (12 * m)).2) else -1)) ∧ m_sd m n I I' ∧ J' = J) hk (by omega) (fun X hX => ⟨by rw [if_pos z], hX, rfl⟩) m 0 (by omega) (m_days m n (m_lay I m n) (ix x)) .null .null (m_sd_lay.tr (m_sd_days _))
    rw [← hx.1] at ho
    refine Ct.of plX12_move (Nat.le_of_ble_eq_true rfl) [.ref 54, .int x, .int w, .null, .null, .null, .null, .null] rfl ?_
    refine V0_iload_n (pc := 0) dX12_move_0 rfl ?_
    refine V0_iconst (pc := 1) (0) dX12_move_1 (by decide) ?_
    refine V0_bipush (pc := 2) (40) dX12_move_2 (by decide) ?_
    refine V_callSi (pc := 4) (M' := mX12_in) dX12_move_4 mlX12_131 okX12_in rfl c_X12_in rfl rfl ⟨Nat.le_of_ble_eq_true rfl, Nat.le_of_ble_eq_true rfl⟩ ⟨Nat.le_refl 0, Nat.le_refl 0⟩ (Nat.le_of_ble_eq_true rfl) ?_
    refine V_ifeqb (pc := 7) 19 dX12_move_7 (by decide) (fun h7 => ?_) (fun h7 => ?_)
    · skip
      exact absurd (z.1.symm.trans (show s_within x 0 40 = false from h7)) (by decide)
    · skip
      refine V0_iload_n (pc := 10) dX12_move_10 rfl ?_
      refine V0_iconst (pc := 11) (0) dX12_move_11 (by decide) ?_
      refine V0_iconst (pc := 12) (1) dX12_move_12 (by decide) ?_
      refine V_callSi (pc := 13) (M' := mX12_in) dX12_move_13 mlX12_131 okX12_in rfl c_X12_in rfl rfl ⟨Nat.le_of_ble_eq_true rfl, Nat.le_of_ble_eq_true rfl⟩ ⟨Nat.le_refl 0, Nat.le_refl 0⟩ (Nat.le_of_ble_eq_true rfl) ?_
      refine V_ifneb (pc := 16) 21 dX12_move_16 (by decide) (fun h16 => ?_) (fun h16 => ?_)
      · skip
        refine V0_aload_n (pc := 21) dX12_move_21 rfl ?_
        refine V_callV (pc := 22) (M' := mX12_layNow) dX12_move_22 mlX12_304 okX12_layNow rfl (c_X12_layNow hk) rfl rfl rfl rfl ⟨Nat.le_of_ble_eq_true rfl, Nat.le_of_ble_eq_true rfl⟩ ⟨Nat.le_refl 0, Nat.le_refl 0⟩ (Nat.le_of_ble_eq_true rfl) ?_
        intro r1 I1 J1 hh
        obtain ⟨e1, e2, e3⟩ := hh
        rw [e1, e2, e3]
        clear e1 e2 e3 r1 I1 J1
        refine V0_bipush (pc := 25) (99) dX12_move_25 (by decide) ?_
        refine V0_istore_3 (pc := 27) dX12_move_27 (by decide) rfl ?_
        refine V0_aload_n (pc := 28) dX12_move_28 rfl ?_
        refine V0_iload_n (pc := 29) dX12_move_29 rfl ?_
        refine V_callV (pc := 30) (M' := mX12_hadBehind) dX12_move_30 mlX12_334 okX12_hadBehind rfl hc rfl rfl rfl rfl ⟨Nat.le_of_ble_eq_true rfl, Nat.le_of_ble_eq_true rfl⟩ ⟨Nat.le_refl 0, Nat.le_refl 0⟩ (Nat.le_of_ble_eq_true rfl) ?_
        intro r1 I1 J1 hh
        obtain ⟨e1, e2, e3⟩ := hh
        rw [e1, e2, e3]
        clear e1 e2 e3 r1 I1 J1
        refine V0_istore_4 (pc := 33) dX12_move_33 (by decide) rfl ?_
        refine V0_iconst (pc := 35) (0) dX12_move_35 (by decide) ?_
        refine V0_istore_5 (pc := 36) dX12_move_36 (by decide) rfl ?_
        exact ho
      · skip
        exact absurd (z.2.symm.trans (show s_within w 0 1 = false from h16)) (by decide)
  · refine Ct.of plX12_move (Nat.le_of_ble_eq_true rfl) [.ref 54, .int x, .int w, .null, .null, .null, .null, .null] rfl ?_
    refine V0_iload_n (pc := 0) dX12_move_0 rfl ?_
    refine V0_iconst (pc := 1) (0) dX12_move_1 (by decide) ?_
    refine V0_bipush (pc := 2) (40) dX12_move_2 (by decide) ?_
    refine V_callSi (pc := 4) (M' := mX12_in) dX12_move_4 mlX12_131 okX12_in rfl c_X12_in rfl rfl ⟨Nat.le_of_ble_eq_true rfl, Nat.le_of_ble_eq_true rfl⟩ ⟨Nat.le_refl 0, Nat.le_refl 0⟩ (Nat.le_of_ble_eq_true rfl) ?_
    refine V_ifeqb (pc := 7) 19 dX12_move_7 (by decide) (fun h7 => ?_) (fun h7 => ?_)
    · skip
      refine V0_iconst (pc := 19) (-1) dX12_move_19 (by decide) ?_
      refine V_reti (pc := 20) _ dX12_move_20 rfl ?_
      exact ⟨by rw [if_neg z] <;> rfl, m_sd_refl, rfl⟩
    · skip
      refine V0_iload_n (pc := 10) dX12_move_10 rfl ?_
      refine V0_iconst (pc := 11) (0) dX12_move_11 (by decide) ?_
      refine V0_iconst (pc := 12) (1) dX12_move_12 (by decide) ?_
      refine V_callSi (pc := 13) (M' := mX12_in) dX12_move_13 mlX12_131 okX12_in rfl c_X12_in rfl rfl ⟨Nat.le_of_ble_eq_true rfl, Nat.le_of_ble_eq_true rfl⟩ ⟨Nat.le_refl 0, Nat.le_refl 0⟩ (Nat.le_of_ble_eq_true rfl) ?_
      refine V_ifneb (pc := 16) 21 dX12_move_16 (by decide) (fun h16 => ?_) (fun h16 => ?_)
      · skip
        exact absurd ⟨h7, h16⟩ z
      · skip
        refine V0_iconst (pc := 19) (-1) dX12_move_19 (by decide) ?_
        refine V_reti (pc := 20) _ dX12_move_20 rfl ?_
        exact ⟨by rw [if_neg z] <;> rfl, m_sd_refl, rfl⟩
/-! when a joy had best be due -/
theorem m_up_up {I : px_I} {q k : Nat} {x y : Int32} : px_up (px_up I q k x) q k y = px_up I q k y := by
  funext p i
  simp only [px_up_at]
  split <;> rfl
theorem m_up_id {I : px_I} {q k : Nat} : px_up I q k (I q k) = I := by
  funext p i
  simp only [px_up_at]
  by_cases h : p = q ∧ i = k
  · rw [if_pos h, h.1, h.2]
  · rw [if_neg h]
theorem m_sd.up {m n q k : Nat} {I X : px_I} {x : Int32} (h : m_sd m n I X) (h4 : q ≠ 54) (h7 : q ≠ 77) (h8 : q ≠ 78) (h9 : q ≠ 79) : m_sd m n (px_up I q k x) (px_up X q k x) := by
  refine ⟨fun p a b c d => ?_, fun i a => ?_, fun i a => ?_, fun i a => ?_, fun i a => ?_⟩
  · funext i
    simp only [px_up_at]
    split
    · rfl
    · exact congrFun (h.1 p a b c d) i
  · rw [px_up_row (Ne.symm h4), px_up_row (Ne.symm h4)]; exact h.2.1 i a
  · rw [px_up_row (Ne.symm h7), px_up_row (Ne.symm h7)]; exact h.2.2.1 i a
  · rw [px_up_row (Ne.symm h8), px_up_row (Ne.symm h8)]; exact h.2.2.2.1 i a
  · rw [px_up_row (Ne.symm h9), px_up_row (Ne.symm h9)]; exact h.2.2.2.2 i a
def m_dw (I : px_I) (m n k jy d : Nat) : Int32 := m_wo (m_lay (px_up I 57 jy (nI d)) m n) m n k
def m_dt (I : px_I) (m n k jy : Nat) : Nat → Int32 × Int32
  | 0 => (-2, 0)
  | d + 1 => if ¬ (m_dt I m n k jy d).1 < 0 ∧ ¬ (m_dt I m n k jy d).2 < m_dw I m n k jy d then m_dt I m n k jy d else (nI d, m_dw I m n k jy d)
theorem lp_X12_date {l : Launch} {I : px_I} {J : px_J} {m n k jy : Nat} {w : Int32} {Q : px_Q} (hk : m_ok I m n) (hk60 : k ≤ 60) (hjy : jy < 10) (hQ : ∀ X, m_sd m n I X → Q (some (.int (if w = 0 then (m_dt I m n k jy 100).1 else (m_dt I m n k jy 100).2))) X J) : ∀ (f d : Nat), d + f = 100 → ∀ (X : px_I) (v : Int32) (v8 : Value), m_sd m n (px_up I 57 jy v) X → V0 l (px_rm 6 0 0) mX12_date (false, []) 0 0 47 [.ref 54, .int (nI jy), .int (nI k), .int w, .int (I 57 jy), .int (m_dt I m n k jy d).1, .int (m_dt I m n k jy d).2, .int (nI d), v8] [] (px_mk X J) (px_q Q) := by
  intro f
  induction f with
  | zero =>
    intro d h1 X v v8 hsd
    obtain rfl : d = 100 := by omega
    have hX : m_sd m n I (px_up X 57 jy (I 57 jy)) := by
      have := hsd.up (q := 57) (k := jy) (x := I 57 jy) (by omega) (by omega) (by omega) (by omega)
      rw [m_up_up, m_up_id] at this
      exact this
    refine V0_iload (pc := 47) dX12_date_47 rfl ?_
    refine V0_bipush (pc := 49) (99) dX12_date_49 (by decide) ?_
    refine V0_icmp_gt (pc := 51) 102 dX12_date_51 (by decide) (fun h51 => ?_) (fun h51 => ?_)
    · skip
      refine V0_aload_n (pc := 102) dX12_date_102 rfl ?_
      refine V_getr (pc := 103) dX12_date_103 flX12_16 rfl rfl ?_
      refine V0_iload_n (pc := 106) dX12_date_106 rfl ?_
      refine V0_iload (pc := 107) dX12_date_107 rfl ?_
      refine V_iast (pc := 109) (jy) dX12_date_109 rfl rfl (by omega) ?_
      refine V0_iload_n (pc := 110) dX12_date_110 rfl ?_
      refine V0_if_ne (pc := 111) 119 dX12_date_111 (by decide) (fun h111 => ?_) (fun h111 => ?_)
      · skip
        refine V0_iload (pc := 119) dX12_date_119 rfl ?_
        refine V_reti (pc := 121) _ dX12_date_121 rfl ?_
        first | (rw [if_pos h111] at hQ; exact hQ _ hX) | (rw [if_neg h111] at hQ; exact hQ _ hX)
      · skip
        refine V0_iload (pc := 114) dX12_date_114 rfl ?_
        refine V0_goto (pc := 116) 121 dX12_date_116 (by decide) ?_
        refine V_reti (pc := 121) _ dX12_date_121 rfl ?_
        first | (rw [if_pos h111] at hQ; exact hQ _ hX) | (rw [if_neg h111] at hQ; exact hQ _ hX)
    · skip
      exact absurd (show (99 : Int32) < nI 100 by decide) h51
  | succ f ih =>
    intro d h1 X v v8 hsd
    have hgt : ¬ (99 : Int32) < nI d := fun q => absurd ((qI_lt (a := 99) (b := d) (by omega) (by omega)).mp q) (by omega)
    have hX : m_sd m n (px_up I 57 jy (nI d)) (px_up X 57 jy (nI d)) := by
      have := hsd.up (q := 57) (k := jy) (x := nI d) (by omega) (by omega) (by omega) (by omega)
      rw [m_up_up] at this
      exact this
    have hk1 : m_ok (px_up I 57 jy (nI d)) m n := m_ok_up hk (by omega) (by omega) (by omega)
    have hkX := hX.ok hk1
    have hs2 : m_sd m n (px_up I 57 jy (nI d)) (m_days m n (m_lay (px_up I 57 jy (nI d)) m n) k) := m_sd_lay.tr (m_sd_days k)
    have e1 : m_dt I m n k jy (d + 1) = if ¬ (m_dt I m n k jy d).1 < 0 ∧ ¬ (m_dt I m n k jy d).2 < m_wo (m_lay (px_up I 57 jy (nI d)) m n) m n k then m_dt I m n k jy d else (nI d, m_wo (m_lay (px_up I 57 jy (nI d)) m n) m n k) := rfl
    refine V0_iload (pc := 47) dX12_date_47 rfl ?_
    refine V0_bipush (pc := 49) (99) dX12_date_49 (by decide) ?_
    refine V0_icmp_gt (pc := 51) 102 dX12_date_51 (by decide) (fun h51 => ?_) (fun h51 => ?_)
    · skip
      exact absurd h51 hgt
    · skip
      refine V0_aload_n (pc := 54) dX12_date_54 rfl ?_
      refine V_getr (pc := 55) dX12_date_55 flX12_16 rfl rfl ?_
      refine V0_iload_n (pc := 58) dX12_date_58 rfl ?_
      refine V0_iload (pc := 59) dX12_date_59 rfl ?_
      refine V_iast (pc := 61) (jy) dX12_date_61 rfl rfl (by omega) ?_
      refine V0_aload_n (pc := 62) dX12_date_62 rfl ?_
      refine V_callV (pc := 63) (M' := mX12_layNow) dX12_date_63 mlX12_304 okX12_layNow rfl (c_X12_layNow hkX) rfl rfl rfl rfl ⟨Nat.le_of_ble_eq_true rfl, Nat.le_of_ble_eq_true rfl⟩ ⟨Nat.le_refl 0, Nat.le_refl 0⟩ (Nat.le_of_ble_eq_true rfl) ?_
      intro r1 I1 J1 hh
      obtain ⟨e1, e2, e3⟩ := hh
      rw [e1, e2, e3]
      clear e1 e2 e3 r1 I1 J1
      rw [hX.lay]
      refine V0_aload_n (pc := 66) dX12_date_66 rfl ?_
      refine V0_iload_n (pc := 67) dX12_date_67 rfl ?_
      refine V_callV (pc := 68) (M' := mX12_hadBehind) dX12_date_68 mlX12_334 okX12_hadBehind rfl (c_X12_hadBehind hk1.lay hk60) rfl rfl rfl rfl ⟨Nat.le_of_ble_eq_true rfl, Nat.le_of_ble_eq_true rfl⟩ ⟨Nat.le_refl 0, Nat.le_refl 0⟩ (Nat.le_of_ble_eq_true rfl) ?_
      intro r1 I1 J1 hh
      obtain ⟨e1, e2, e3⟩ := hh
      rw [e1, e2, e3]
      clear e1 e2 e3 r1 I1 J1
      refine V0_istore_8 (pc := 71) dX12_date_71 (by decide) rfl ?_
      refine V0_iload (pc := 73) dX12_date_73 rfl ?_
      refine V0_if_lt (pc := 75) 88 dX12_date_75 (by decide) (fun h75 => ?_) (fun h75 => ?_)
      · skip
        have e2 := e1.trans (if_neg (show ¬ (¬ (m_dt I m n k jy d).1 < 0 ∧ ¬ (m_dt I m n k jy d).2 < m_wo (m_lay (px_up I 57 jy (nI d)) m n) m n k) from by first | (simp [h75]; done) | (simp [h82]; done)))
        refine V0_iload (pc := 88) dX12_date_88 rfl ?_
        refine V0_istore_5 (pc := 90) dX12_date_90 (by decide) rfl ?_
        refine V0_iload (pc := 92) dX12_date_92 rfl ?_
        refine V0_istore_6 (pc := 94) dX12_date_94 (by decide) rfl ?_
        refine V0_iinc_7 (pc := 96) (nI (d + 1)) dX12_date_96 (by decide) rfl (nI_1 _) ?_
        refine V0_goto (pc := 99) 47 dX12_date_99 (by decide) ?_
        exact V_ls (by rw [e2]) (ih (d + 1) (by omega) _ _ _ hs2)
      · skip
        refine V0_iload (pc := 78) dX12_date_78 rfl ?_
        refine V0_iload (pc := 80) dX12_date_80 rfl ?_
        refine V0_icmp_gt (pc := 82) 88 dX12_date_82 (by decide) (fun h82 => ?_) (fun h82 => ?_)
        · skip
          have e2 := e1.trans (if_neg (show ¬ (¬ (m_dt I m n k jy d).1 < 0 ∧ ¬ (m_dt I m n k jy d).2 < m_wo (m_lay (px_up I 57 jy (nI d)) m n) m n k) from by first | (simp [h75]; done) | (simp [h82]; done)))
          refine V0_iload (pc := 88) dX12_date_88 rfl ?_
          refine V0_istore_5 (pc := 90) dX12_date_90 (by decide) rfl ?_
          refine V0_iload (pc := 92) dX12_date_92 rfl ?_
          refine V0_istore_6 (pc := 94) dX12_date_94 (by decide) rfl ?_
          refine V0_iinc_7 (pc := 96) (nI (d + 1)) dX12_date_96 (by decide) rfl (nI_1 _) ?_
          refine V0_goto (pc := 99) 47 dX12_date_99 (by decide) ?_
          exact V_ls (by rw [e2]) (ih (d + 1) (by omega) _ _ _ hs2)
        · skip
          have e2 := e1.trans (if_pos ⟨h75, h82⟩)
          refine V0_goto (pc := 85) 96 dX12_date_85 (by decide) ?_
          refine V0_iinc_7 (pc := 96) (nI (d + 1)) dX12_date_96 (by decide) rfl (nI_1 _) ?_
          refine V0_goto (pc := 99) 47 dX12_date_99 (by decide) ?_
          exact V_ls (by rw [e2]) (ih (d + 1) (by omega) _ _ _ hs2)
theorem c_X12_date {l : Launch} {I : px_I} {J : px_J} {x y w : Int32} {m n : Nat} (hk : m_ok I m n) : Ct l mX12_date 6 [.ref 54, .int x, .int y, .int w] I J (fun r I' J' => r = some (.int (if m_joy I x = true ∧ s_within y 0 60 = true ∧ s_within w 0 1 = true then (if w = 0 then (m_dt I m n (ix y) (ix x) 100).1 else (m_dt I m n (ix y) (ix x) 100).2) else -1)) ∧ m_sd m n I I' ∧ J' = J) := by
  have hn10 := hk.2.2.2.1
  by_cases z : m_joy I x = true ∧ s_within y 0 60 = true ∧ s_within w 0 1 = true
  · have hx := m_joy_ix hk.2.2.1 hn10 z.1
    have hy := w_ixc (m := 60) (by omega) rfl z.2.1
    have ho := lp_X12_date (l := l) (I := I) (J := J) (m := m) (n := n) (k := ix y) (jy := ix x) (w := w) (Q := fun r I' J' => r = some (.int (if m_joy I x = true ∧ s_within y 0 60 = true ∧ s_within w 0 1 = true then (if w = 0 then (m_dt I m n (ix y) (ix x) 100).1 else (m_dt I m n (ix y) (ix x) 100).2) else -1)) ∧ m_sd m n I I' ∧ J' = J) hk (by omega) (by omega) (fun X hX => ⟨by rw [if_pos z], hX, rfl⟩) 100 0 (by omega) I (I 57 (ix x)) .null (by rw [m_up_id]; exact m_sd_refl)
    rw [← hx.1, ← hy.1] at ho
    refine Ct.of plX12_date (Nat.le_of_ble_eq_true rfl) [.ref 54, .int x, .int y, .int w, .null, .null, .null, .null, .null] rfl ?_
    refine V0_aload_n (pc := 0) dX12_date_0 rfl ?_
    refine V0_iload_n (pc := 1) dX12_date_1 rfl ?_
    refine V_callVi (pc := 2) (M' := mX12_isJoy) dX12_date_2 mlX12_168 okX12_isJoy rfl c_X12_isJoy rfl rfl rfl rfl ⟨Nat.le_of_ble_eq_true rfl, Nat.le_of_ble_eq_true rfl⟩ ⟨Nat.le_refl 0, Nat.le_refl 0⟩ (Nat.le_of_ble_eq_true rfl) ?_
    refine V_ifeqb (pc := 5) 27 dX12_date_5 (by decide) (fun h5 => ?_) (fun h5 => ?_)
    · skip
      exact absurd (z.1.symm.trans (show m_joy I x = false from h5)) (by decide)
    · skip
      refine V0_iload_n (pc := 8) dX12_date_8 rfl ?_
      refine V0_iconst (pc := 9) (0) dX12_date_9 (by decide) ?_
      refine V0_bipush (pc := 10) (60) dX12_date_10 (by decide) ?_
      refine V_callSi (pc := 12) (M' := mX12_in) dX12_date_12 mlX12_131 okX12_in rfl c_X12_in rfl rfl ⟨Nat.le_of_ble_eq_true rfl, Nat.le_of_ble_eq_true rfl⟩ ⟨Nat.le_refl 0, Nat.le_refl 0⟩ (Nat.le_of_ble_eq_true rfl) ?_
      refine V_ifeqb (pc := 15) 27 dX12_date_15 (by decide) (fun h15 => ?_) (fun h15 => ?_)
      · skip
        exact absurd (z.2.1.symm.trans (show s_within y 0 60 = false from h15)) (by decide)
      · skip
        refine V0_iload_n (pc := 18) dX12_date_18 rfl ?_
        refine V0_iconst (pc := 19) (0) dX12_date_19 (by decide) ?_
        refine V0_iconst (pc := 20) (1) dX12_date_20 (by decide) ?_
        refine V_callSi (pc := 21) (M' := mX12_in) dX12_date_21 mlX12_131 okX12_in rfl c_X12_in rfl rfl ⟨Nat.le_of_ble_eq_true rfl, Nat.le_of_ble_eq_true rfl⟩ ⟨Nat.le_refl 0, Nat.le_refl 0⟩ (Nat.le_of_ble_eq_true rfl) ?_
        refine V_ifneb (pc := 24) 29 dX12_date_24 (by decide) (fun h24 => ?_) (fun h24 => ?_)
        · skip
          refine V0_aload_n (pc := 29) dX12_date_29 rfl ?_
          refine V_getr (pc := 30) dX12_date_30 flX12_16 rfl rfl ?_
          refine V0_iload_n (pc := 33) dX12_date_33 rfl ?_
          refine V_iald (pc := 34) (ix x) dX12_date_34 rfl hx.1 (by omega) ?_
          refine V0_istore_4 (pc := 35) dX12_date_35 (by decide) rfl ?_
          refine V0_bipush (pc := 37) (-2) dX12_date_37 (by decide) ?_
          refine V0_istore_5 (pc := 39) dX12_date_39 (by decide) rfl ?_
          refine V0_iconst (pc := 41) (0) dX12_date_41 (by decide) ?_
          refine V0_istore_6 (pc := 42) dX12_date_42 (by decide) rfl ?_
          refine V0_iconst (pc := 44) (0) dX12_date_44 (by decide) ?_
          refine V0_istore_7 (pc := 45) dX12_date_45 (by decide) rfl ?_
          exact ho
        · skip
          exact absurd (z.2.2.symm.trans (show s_within w 0 1 = false from h24)) (by decide)
  · refine Ct.of plX12_date (Nat.le_of_ble_eq_true rfl) [.ref 54, .int x, .int y, .int w, .null, .null, .null, .null, .null] rfl ?_
    refine V0_aload_n (pc := 0) dX12_date_0 rfl ?_
    refine V0_iload_n (pc := 1) dX12_date_1 rfl ?_
    refine V_callVi (pc := 2) (M' := mX12_isJoy) dX12_date_2 mlX12_168 okX12_isJoy rfl c_X12_isJoy rfl rfl rfl rfl ⟨Nat.le_of_ble_eq_true rfl, Nat.le_of_ble_eq_true rfl⟩ ⟨Nat.le_refl 0, Nat.le_refl 0⟩ (Nat.le_of_ble_eq_true rfl) ?_
    refine V_ifeqb (pc := 5) 27 dX12_date_5 (by decide) (fun h5 => ?_) (fun h5 => ?_)
    · skip
      refine V0_iconst (pc := 27) (-1) dX12_date_27 (by decide) ?_
      refine V_reti (pc := 28) _ dX12_date_28 rfl ?_
      exact ⟨by rw [if_neg z] <;> rfl, m_sd_refl, rfl⟩
    · skip
      refine V0_iload_n (pc := 8) dX12_date_8 rfl ?_
      refine V0_iconst (pc := 9) (0) dX12_date_9 (by decide) ?_
      refine V0_bipush (pc := 10) (60) dX12_date_10 (by decide) ?_
      refine V_callSi (pc := 12) (M' := mX12_in) dX12_date_12 mlX12_131 okX12_in rfl c_X12_in rfl rfl ⟨Nat.le_of_ble_eq_true rfl, Nat.le_of_ble_eq_true rfl⟩ ⟨Nat.le_refl 0, Nat.le_refl 0⟩ (Nat.le_of_ble_eq_true rfl) ?_
      refine V_ifeqb (pc := 15) 27 dX12_date_15 (by decide) (fun h15 => ?_) (fun h15 => ?_)
      · skip
        refine V0_iconst (pc := 27) (-1) dX12_date_27 (by decide) ?_
        refine V_reti (pc := 28) _ dX12_date_28 rfl ?_
        exact ⟨by rw [if_neg z] <;> rfl, m_sd_refl, rfl⟩
      · skip
        refine V0_iload_n (pc := 18) dX12_date_18 rfl ?_
        refine V0_iconst (pc := 19) (0) dX12_date_19 (by decide) ?_
        refine V0_iconst (pc := 20) (1) dX12_date_20 (by decide) ?_
        refine V_callSi (pc := 21) (M' := mX12_in) dX12_date_21 mlX12_131 okX12_in rfl c_X12_in rfl rfl ⟨Nat.le_of_ble_eq_true rfl, Nat.le_of_ble_eq_true rfl⟩ ⟨Nat.le_refl 0, Nat.le_refl 0⟩ (Nat.le_of_ble_eq_true rfl) ?_
        refine V_ifneb (pc := 24) 29 dX12_date_24 (by decide) (fun h24 => ?_) (fun h24 => ?_)
        · skip
          exact absurd ⟨h5, h15, h24⟩ z
        · skip
          refine V0_iconst (pc := 27) (-1) dX12_date_27 (by decide) ?_
          refine V_reti (pc := 28) _ dX12_date_28 rfl ?_
          exact ⟨by rw [if_neg z] <;> rfl, m_sd_refl, rfl⟩

