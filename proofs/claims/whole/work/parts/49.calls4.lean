/-! calls in thought, shelves -/
theorem s_win {x : Int32} {a b : Nat} (h : s_within x (nI a) (nI b) = true) (ha : a < 2 ^ 31) (hb : b < 2 ^ 31) : x = nI (ix x) ∧ a ≤ ix x ∧ ix x ≤ b := by
  simp only [s_within, Bool.and_eq_true, Bool.not_eq_true', decide_eq_false_iff_not] at h
  have h0 : ¬ x < 0 := by
    have q := h.1
    rw [Int32.lt_iff_toInt_lt, nI_toInt ha] at q
    rw [Int32.lt_iff_toInt_lt]
    show ¬ x.toInt < 0
    omega
  have hx : ix x < 2 ^ 31 := by
    show x.toInt.toNat < _
    have := Int32.toInt_lt x
    omega
  have e := nI_ix h0
  rw [e] at h
  exact ⟨e, Nat.le_of_not_lt (fun q => h.1 ((qI_lt hx ha).mpr q)), Nat.le_of_not_lt (fun q => h.2 ((qI_lt hb hx).mpr q))⟩
def g_lane (S : px_I) (m n : Nat) (w : Int32) : Int32 := if w = 4 then s_bits (g_glad S 43 n) m else if w = 5 then S 43 4 else if w = 6 then s_sum (g_had S 43) (S 6) n else if w = 7 then s_sum (g_lost S 43) (S 6) n else if w = 8 then S 47 3 - S 12 3 else s_bits (g_in S 43 w) n
theorem c_X11_lane {l : Launch} {I : px_I} {J : px_J} {x w : Int32} {m n : Nat} (hk : px_ok0 I m n) : Ct l mX11_lane 5 [.ref 0, .int x, .int w] I J (fun r I' J' => r = some (.int (if s_within x 0 60 = true ∧ s_within w 0 8 = true then g_lane (g_days 43 m n (t_start I m n) (ix x)) m n w else -1)) ∧ px_sc I I' ∧ J' = J) := by
  have h43 := cs43
  refine Ct.of plX11_lane (Nat.le_of_ble_eq_true rfl) [.ref 0, .int x, .int w, .null] rfl ?_
  refine V0_iload_n (pc := 0) dX11_lane_0 rfl ?_
  refine V0_iconst (pc := 1) (0) dX11_lane_1 (by decide) ?_
  refine V0_bipush (pc := 2) (60) dX11_lane_2 (by decide) ?_
  refine V_callSi (pc := 4) (M' := mX11_isWithin) dX11_lane_4 mlX11_99 okX11_isWithin rfl c_X11_isWithin rfl rfl ⟨Nat.le_of_ble_eq_true rfl, Nat.le_of_ble_eq_true rfl⟩ ⟨Nat.le_refl 0, Nat.le_refl 0⟩ (Nat.le_of_ble_eq_true rfl) ?_
  refine V_ifeqb (pc := 7) 20 dX11_lane_7 (by decide) (fun h7 => ?_) (fun h7 => ?_)
  · skip
    have z : ¬ (s_within x 0 60 = true ∧ s_within w 0 8 = true) := by first | exact (fun q => absurd (q.1.symm.trans (show s_within x 0 60 = false from h7)) (by decide)) | exact (fun q => absurd (q.2.symm.trans (show s_within w 0 8 = false from h17)) (by decide))
    refine V0_iconst (pc := 20) (-1) dX11_lane_20 (by decide) ?_
    refine V_reti (pc := 21) _ dX11_lane_21 rfl ?_
    first | exact ⟨by rw [if_neg z] <;> rfl, px_sc.rf, rfl⟩ | exact ⟨by rw [if_pos z]; first | rw [g_lane, if_pos s32_0] | rw [g_lane, if_neg s32_0, if_pos s32_1] | rw [g_lane, if_neg s32_0, if_neg s32_1, if_pos s32_2] | rw [g_lane, if_neg s32_0, if_neg s32_1, if_neg s32_2, if_pos s32_3] | rw [g_lane, if_neg s32_0, if_neg s32_1, if_neg s32_2, if_neg s32_3, if_pos s32_4] | rw [g_lane, if_neg s32_0, if_neg s32_1, if_neg s32_2, if_neg s32_3, if_neg s32_4], (px_sc.rf.start).days, rfl⟩
  · skip
    refine V0_iload_n (pc := 10) dX11_lane_10 rfl ?_
    refine V0_iconst (pc := 11) (0) dX11_lane_11 (by decide) ?_
    refine V0_bipush (pc := 12) (8) dX11_lane_12 (by decide) ?_
    refine V_callSi (pc := 14) (M' := mX11_isWithin) dX11_lane_14 mlX11_99 okX11_isWithin rfl c_X11_isWithin rfl rfl ⟨Nat.le_of_ble_eq_true rfl, Nat.le_of_ble_eq_true rfl⟩ ⟨Nat.le_refl 0, Nat.le_refl 0⟩ (Nat.le_of_ble_eq_true rfl) ?_
    refine V_ifneb (pc := 17) 22 dX11_lane_17 (by decide) (fun h17 => ?_) (fun h17 => ?_)
    · skip
      have z : s_within x 0 60 = true ∧ s_within w 0 8 = true := ⟨h7, h17⟩
      have hx := s_win (a := 0) (b := 60) h7 (by omega) (by omega)
      have hc := c_X9_behind (l := l) (J := J) (k := ix x) hk hx.2.2
      rw [← hx.1] at hc
      refine V0_aload_n (pc := 22) dX11_lane_22 rfl ?_
      refine V_getr (pc := 23) dX11_lane_23 flX11_77 rfl rfl ?_
      refine V0_iload_n (pc := 26) dX11_lane_26 rfl ?_
      refine V_callV (pc := 27) (M' := mX9_behind) dX11_lane_27 mlX11_200 okX9_behind rfl hc rfl rfl rfl rfl ⟨Nat.le_of_ble_eq_true rfl, Nat.le_of_ble_eq_true rfl⟩ ⟨Nat.le_refl 0, Nat.le_refl 0⟩ (Nat.le_of_ble_eq_true rfl) ?_
      intro r1 I1 J1 hh
      obtain ⟨e1, e2, e3⟩ := hh
      rw [e1, e2, e3]
      clear e1 e2 e3 r1 I1 J1
      have ho := ok_days (k := ix x) (ok_start hk)
      refine V0_astore_3 (pc := 30) dX11_lane_30 (by decide) rfl ?_
      refine V0_iload_n (pc := 31) dX11_lane_31 rfl ?_
      by_cases s32_0 : w = (4)
      · refine V_tabIn (pc := 32) (off := 36) (4) 68 dX11_lane_32 s32_0 (by decide) (by decide) (by decide) (by decide) ?_
        refine V0_aload_n (pc := 68) dX11_lane_68 rfl ?_
        refine V_callVi (pc := 69) (M' := mX2_gladPeople) dX11_lane_69 mlX11_204 okX2_gladPeople rfl (c_X2_gladPeople cs43 ho.2.2.1 ho.2.2.2.1 ho.1 ho.2.1) rfl rfl rfl rfl ⟨Nat.le_of_ble_eq_true rfl, Nat.le_of_ble_eq_true rfl⟩ ⟨Nat.le_refl 0, Nat.le_refl 0⟩ (Nat.le_of_ble_eq_true rfl) ?_
        refine V_reti (pc := 72) _ dX11_lane_72 rfl ?_
        first | exact ⟨by rw [if_neg z] <;> rfl, px_sc.rf, rfl⟩ | exact ⟨by rw [if_pos z]; first | rw [g_lane, if_pos s32_0] | rw [g_lane, if_neg s32_0, if_pos s32_1] | rw [g_lane, if_neg s32_0, if_neg s32_1, if_pos s32_2] | rw [g_lane, if_neg s32_0, if_neg s32_1, if_neg s32_2, if_pos s32_3] | rw [g_lane, if_neg s32_0, if_neg s32_1, if_neg s32_2, if_neg s32_3, if_pos s32_4] | rw [g_lane, if_neg s32_0, if_neg s32_1, if_neg s32_2, if_neg s32_3, if_neg s32_4], (px_sc.rf.start).days, rfl⟩
      by_cases s32_1 : w = (5)
      · refine V_tabIn (pc := 32) (off := 41) (5) 73 dX11_lane_32 s32_1 (by decide) (by decide) (by decide) (by decide) ?_
        refine V0_aload_n (pc := 73) dX11_lane_73 rfl ?_
        refine V_geti (pc := 74) dX11_lane_74 flX11_207 rfl rfl ?_
        refine V_reti (pc := 77) _ dX11_lane_77 rfl ?_
        first | exact ⟨by rw [if_neg z] <;> rfl, px_sc.rf, rfl⟩ | exact ⟨by rw [if_pos z]; first | rw [g_lane, if_pos s32_0] | rw [g_lane, if_neg s32_0, if_pos s32_1] | rw [g_lane, if_neg s32_0, if_neg s32_1, if_pos s32_2] | rw [g_lane, if_neg s32_0, if_neg s32_1, if_neg s32_2, if_pos s32_3] | rw [g_lane, if_neg s32_0, if_neg s32_1, if_neg s32_2, if_neg s32_3, if_pos s32_4] | rw [g_lane, if_neg s32_0, if_neg s32_1, if_neg s32_2, if_neg s32_3, if_neg s32_4], (px_sc.rf.start).days, rfl⟩
      by_cases s32_2 : w = (6)
      · refine V_tabIn (pc := 32) (off := 46) (6) 78 dX11_lane_32 s32_2 (by decide) (by decide) (by decide) (by decide) ?_
        refine V0_aload_n (pc := 78) dX11_lane_78 rfl ?_
        refine V_callVi (pc := 79) (M' := mX2_worthOfHad) dX11_lane_79 mlX11_210 okX2_worthOfHad rfl (c_X2_worthOfHad cs43 ho.2.2.1 ho.2.2.2.1) rfl rfl rfl rfl ⟨Nat.le_of_ble_eq_true rfl, Nat.le_of_ble_eq_true rfl⟩ ⟨Nat.le_refl 0, Nat.le_refl 0⟩ (Nat.le_of_ble_eq_true rfl) ?_
        refine V_reti (pc := 82) _ dX11_lane_82 rfl ?_
        first | exact ⟨by rw [if_neg z] <;> rfl, px_sc.rf, rfl⟩ | exact ⟨by rw [if_pos z]; first | rw [g_lane, if_pos s32_0] | rw [g_lane, if_neg s32_0, if_pos s32_1] | rw [g_lane, if_neg s32_0, if_neg s32_1, if_pos s32_2] | rw [g_lane, if_neg s32_0, if_neg s32_1, if_neg s32_2, if_pos s32_3] | rw [g_lane, if_neg s32_0, if_neg s32_1, if_neg s32_2, if_neg s32_3, if_pos s32_4] | rw [g_lane, if_neg s32_0, if_neg s32_1, if_neg s32_2, if_neg s32_3, if_neg s32_4], (px_sc.rf.start).days, rfl⟩
      by_cases s32_3 : w = (7)
      · refine V_tabIn (pc := 32) (off := 51) (7) 83 dX11_lane_32 s32_3 (by decide) (by decide) (by decide) (by decide) ?_
        refine V0_aload_n (pc := 83) dX11_lane_83 rfl ?_
        refine V_callVi (pc := 84) (M' := mX2_worthOfLost) dX11_lane_84 mlX11_213 okX2_worthOfLost rfl (c_X2_worthOfLost cs43 ho.2.2.1 ho.2.2.2.1) rfl rfl rfl rfl ⟨Nat.le_of_ble_eq_true rfl, Nat.le_of_ble_eq_true rfl⟩ ⟨Nat.le_refl 0, Nat.le_refl 0⟩ (Nat.le_of_ble_eq_true rfl) ?_
        refine V_reti (pc := 87) _ dX11_lane_87 rfl ?_
        first | exact ⟨by rw [if_neg z] <;> rfl, px_sc.rf, rfl⟩ | exact ⟨by rw [if_pos z]; first | rw [g_lane, if_pos s32_0] | rw [g_lane, if_neg s32_0, if_pos s32_1] | rw [g_lane, if_neg s32_0, if_neg s32_1, if_pos s32_2] | rw [g_lane, if_neg s32_0, if_neg s32_1, if_neg s32_2, if_pos s32_3] | rw [g_lane, if_neg s32_0, if_neg s32_1, if_neg s32_2, if_neg s32_3, if_pos s32_4] | rw [g_lane, if_neg s32_0, if_neg s32_1, if_neg s32_2, if_neg s32_3, if_neg s32_4], (px_sc.rf.start).days, rfl⟩
      by_cases s32_4 : w = (8)
      · refine V_tabIn (pc := 32) (off := 56) (8) 88 dX11_lane_32 s32_4 (by decide) (by decide) (by decide) (by decide) ?_
        refine V0_aload_n (pc := 88) dX11_lane_88 rfl ?_
        refine V_getr (pc := 89) dX11_lane_89 flX11_216 rfl rfl ?_
        refine V0_iconst (pc := 92) (3) dX11_lane_92 (by decide) ?_
        refine V_iald (pc := 93) 3 dX11_lane_93 rfl (by decide) (by decide) ?_
        refine V0_aload_n (pc := 94) dX11_lane_94 rfl ?_
        refine V_getr (pc := 95) dX11_lane_95 flX11_32 rfl rfl ?_
        refine V_getr (pc := 98) dX11_lane_98 flX11_216 rfl rfl ?_
        refine V0_iconst (pc := 101) (3) dX11_lane_101 (by decide) ?_
        refine V_iald (pc := 102) 3 dX11_lane_102 rfl (by decide) (by decide) ?_
        refine V0_isub (pc := 103) dX11_lane_103 ?_
        refine V_reti (pc := 104) _ dX11_lane_104 rfl ?_
        first | exact ⟨by rw [if_neg z] <;> rfl, px_sc.rf, rfl⟩ | exact ⟨by rw [if_pos z]; first | rw [g_lane, if_pos s32_0] | rw [g_lane, if_neg s32_0, if_pos s32_1] | rw [g_lane, if_neg s32_0, if_neg s32_1, if_pos s32_2] | rw [g_lane, if_neg s32_0, if_neg s32_1, if_neg s32_2, if_pos s32_3] | rw [g_lane, if_neg s32_0, if_neg s32_1, if_neg s32_2, if_neg s32_3, if_pos s32_4] | rw [g_lane, if_neg s32_0, if_neg s32_1, if_neg s32_2, if_neg s32_3, if_neg s32_4], (px_sc.rf.start).days, rfl⟩
      refine V_tabOut (pc := 32) 105 dX11_lane_32 (by have g0 := px_ne s32_0 (k := 4) (by decide); have g1 := px_ne s32_1 (k := 5) (by decide); have g2 := px_ne s32_2 (k := 6) (by decide); have g3 := px_ne s32_3 (k := 7) (by decide); have g4 := px_ne s32_4 (k := 8) (by decide); omega) (by decide) ?_
      refine V0_aload_n (pc := 105) dX11_lane_105 rfl ?_
      refine V0_iload_n (pc := 106) dX11_lane_106 rfl ?_
      refine V_callVi (pc := 107) (M' := mX2_joysThat) dX11_lane_107 mlX11_219 okX2_joysThat rfl (c_X2_joysThat cs43 ho.2.2.1 ho.2.2.2.1) rfl rfl rfl rfl ⟨Nat.le_of_ble_eq_true rfl, Nat.le_of_ble_eq_true rfl⟩ ⟨Nat.le_refl 0, Nat.le_refl 0⟩ (Nat.le_of_ble_eq_true rfl) ?_
      refine V_reti (pc := 110) _ dX11_lane_110 rfl ?_
      first | exact ⟨by rw [if_neg z] <;> rfl, px_sc.rf, rfl⟩ | exact ⟨by rw [if_pos z]; first | rw [g_lane, if_pos s32_0] | rw [g_lane, if_neg s32_0, if_pos s32_1] | rw [g_lane, if_neg s32_0, if_neg s32_1, if_pos s32_2] | rw [g_lane, if_neg s32_0, if_neg s32_1, if_neg s32_2, if_pos s32_3] | rw [g_lane, if_neg s32_0, if_neg s32_1, if_neg s32_2, if_neg s32_3, if_pos s32_4] | rw [g_lane, if_neg s32_0, if_neg s32_1, if_neg s32_2, if_neg s32_3, if_neg s32_4], (px_sc.rf.start).days, rfl⟩
    · skip
      have z : ¬ (s_within x 0 60 = true ∧ s_within w 0 8 = true) := by first | exact (fun q => absurd (q.1.symm.trans (show s_within x 0 60 = false from h7)) (by decide)) | exact (fun q => absurd (q.2.symm.trans (show s_within w 0 8 = false from h17)) (by decide))
      refine V0_iconst (pc := 20) (-1) dX11_lane_20 (by decide) ?_
      refine V_reti (pc := 21) _ dX11_lane_21 rfl ?_
      first | exact ⟨by rw [if_neg z] <;> rfl, px_sc.rf, rfl⟩ | exact ⟨by rw [if_pos z]; first | rw [g_lane, if_pos s32_0] | rw [g_lane, if_neg s32_0, if_pos s32_1] | rw [g_lane, if_neg s32_0, if_neg s32_1, if_pos s32_2] | rw [g_lane, if_neg s32_0, if_neg s32_1, if_neg s32_2, if_pos s32_3] | rw [g_lane, if_neg s32_0, if_neg s32_1, if_neg s32_2, if_neg s32_3, if_pos s32_4] | rw [g_lane, if_neg s32_0, if_neg s32_1, if_neg s32_2, if_neg s32_3, if_neg s32_4], (px_sc.rf.start).days, rfl⟩
theorem c_X11_move {l : Launch} {I : px_I} {J : px_J} {x w : Int32} {m n : Nat} (hk : px_ok0 I m n) : Ct l mX11_move 6 [.ref 0, .int x, .int w] I J (fun r I' J' => r = some (.int (if s_within x 0 40 = true ∧ s_within w 0 1 = true then (if w = 0 then (t_mv I m n (ix x) (12 * m)).1 else (t_mv I m n (ix x) (12 * m)).2) else -1)) ∧ px_sc I I' ∧ J' = J) := by
  refine Ct.of plX11_move (Nat.le_of_ble_eq_true rfl) [.ref 0, .int x, .int w] rfl ?_
  refine V0_iload_n (pc := 0) dX11_move_0 rfl ?_
  refine V0_iconst (pc := 1) (0) dX11_move_1 (by decide) ?_
  refine V0_bipush (pc := 2) (40) dX11_move_2 (by decide) ?_
  refine V_callSi (pc := 4) (M' := mX11_isWithin) dX11_move_4 mlX11_99 okX11_isWithin rfl c_X11_isWithin rfl rfl ⟨Nat.le_of_ble_eq_true rfl, Nat.le_of_ble_eq_true rfl⟩ ⟨Nat.le_refl 0, Nat.le_refl 0⟩ (Nat.le_of_ble_eq_true rfl) ?_
  refine V_ifeqb (pc := 7) 19 dX11_move_7 (by decide) (fun h7 => ?_) (fun h7 => ?_)
  · skip
    have z : ¬ (s_within x 0 40 = true ∧ s_within w 0 1 = true) := by first | exact (fun q => absurd (q.1.symm.trans (show s_within x 0 40 = false from h7)) (by decide)) | exact (fun q => absurd (q.2.symm.trans (show s_within w 0 1 = false from h16)) (by decide))
    refine V0_iconst (pc := 19) (-1) dX11_move_19 (by decide) ?_
    refine V_reti (pc := 20) _ dX11_move_20 rfl ?_
    first | exact ⟨by rw [if_neg z] <;> rfl, px_sc.rf, rfl⟩ | exact ⟨by rw [if_pos z, if_pos h30], hsc, rfl⟩ | exact ⟨by rw [if_pos z, if_neg h30], hsc, rfl⟩
  · skip
    refine V0_iload_n (pc := 10) dX11_move_10 rfl ?_
    refine V0_iconst (pc := 11) (0) dX11_move_11 (by decide) ?_
    refine V0_iconst (pc := 12) (1) dX11_move_12 (by decide) ?_
    refine V_callSi (pc := 13) (M' := mX11_isWithin) dX11_move_13 mlX11_99 okX11_isWithin rfl c_X11_isWithin rfl rfl ⟨Nat.le_of_ble_eq_true rfl, Nat.le_of_ble_eq_true rfl⟩ ⟨Nat.le_refl 0, Nat.le_refl 0⟩ (Nat.le_of_ble_eq_true rfl) ?_
    refine V_ifneb (pc := 16) 21 dX11_move_16 (by decide) (fun h16 => ?_) (fun h16 => ?_)
    · skip
      have z : s_within x 0 40 = true ∧ s_within w 0 1 = true := ⟨h7, h16⟩
      have hx := s_win (a := 0) (b := 40) h7 (by omega) (by omega)
      have hc := c_X9_seekMove (l := l) (J := J) (k := ix x) hk (by omega)
      rw [← hx.1] at hc
      refine V0_aload_n (pc := 21) dX11_move_21 rfl ?_
      refine V_getr (pc := 22) dX11_move_22 flX11_77 rfl rfl ?_
      refine V0_iload_n (pc := 25) dX11_move_25 rfl ?_
      refine V_callV (pc := 26) (M' := mX9_seekMove) dX11_move_26 mlX11_225 okX9_seekMove rfl hc rfl rfl rfl rfl ⟨Nat.le_of_ble_eq_true rfl, Nat.le_of_ble_eq_true rfl⟩ ⟨Nat.le_refl 0, Nat.le_refl 0⟩ (Nat.le_of_ble_eq_true rfl) ?_
      intro r1 I1 J1 hh
      obtain ⟨e1, hsc, hb1, hb2, e3⟩ := hh
      rw [e1, e3]
      clear e1 e3 r1 J1
      refine V0_iload_n (pc := 29) dX11_move_29 rfl ?_
      refine V0_if_ne (pc := 30) 43 dX11_move_30 (by decide) (fun h30 => ?_) (fun h30 => ?_)
      · skip
        refine V0_aload_n (pc := 43) dX11_move_43 rfl ?_
        refine V_getr (pc := 44) dX11_move_44 flX11_77 rfl rfl ?_
        refine V_geti (pc := 47) dX11_move_47 flX11_232 rfl rfl ?_
        first | rw [hb2] | skip
        refine V_reti (pc := 50) _ dX11_move_50 rfl ?_
        first | exact ⟨by rw [if_neg z] <;> rfl, px_sc.rf, rfl⟩ | exact ⟨by rw [if_pos z, if_pos h30], hsc, rfl⟩ | exact ⟨by rw [if_pos z, if_neg h30], hsc, rfl⟩
      · skip
        refine V0_aload_n (pc := 33) dX11_move_33 rfl ?_
        refine V_getr (pc := 34) dX11_move_34 flX11_77 rfl rfl ?_
        refine V_geti (pc := 37) dX11_move_37 flX11_229 rfl rfl ?_
        rw [hb1]
        refine V0_goto (pc := 40) 50 dX11_move_40 (by decide) ?_
        first | rw [hb2] | skip
        refine V_reti (pc := 50) _ dX11_move_50 rfl ?_
        first | exact ⟨by rw [if_neg z] <;> rfl, px_sc.rf, rfl⟩ | exact ⟨by rw [if_pos z, if_pos h30], hsc, rfl⟩ | exact ⟨by rw [if_pos z, if_neg h30], hsc, rfl⟩
    · skip
      have z : ¬ (s_within x 0 40 = true ∧ s_within w 0 1 = true) := by first | exact (fun q => absurd (q.1.symm.trans (show s_within x 0 40 = false from h7)) (by decide)) | exact (fun q => absurd (q.2.symm.trans (show s_within w 0 1 = false from h16)) (by decide))
      refine V0_iconst (pc := 19) (-1) dX11_move_19 (by decide) ?_
      refine V_reti (pc := 20) _ dX11_move_20 rfl ?_
      first | exact ⟨by rw [if_neg z] <;> rfl, px_sc.rf, rfl⟩ | exact ⟨by rw [if_pos z, if_pos h30], hsc, rfl⟩ | exact ⟨by rw [if_pos z, if_neg h30], hsc, rfl⟩
theorem c_X11_date {l : Launch} {I : px_I} {J : px_J} {x y w : Int32} {m n : Nat} (hk : px_ok0 I m n) : Ct l mX11_date 6 [.ref 0, .int x, .int y, .int w] I J (fun r I' J' => r = some (.int (if g_isJ I x = true ∧ s_within y 0 60 = true ∧ s_within w 0 1 = true then (if w = 0 then (t_dt I m n (ix y) (ix x) 100).2 else (t_dt I m n (ix y) (ix x) 100).1) else -1)) ∧ px_sc I I' ∧ J' = J) := by
  refine Ct.of plX11_date (Nat.le_of_ble_eq_true rfl) [.ref 0, .int x, .int y, .int w] rfl ?_
  refine V0_aload_n (pc := 0) dX11_date_0 rfl ?_
  refine V_getr (pc := 1) dX11_date_1 flX11_26 rfl rfl ?_
  refine V0_iload_n (pc := 4) dX11_date_4 rfl ?_
  refine V_callVi (pc := 5) (M' := mX7_isJoy) dX11_date_5 mlX11_143 okX7_isJoy rfl c_X7_isJoy rfl rfl rfl rfl ⟨Nat.le_of_ble_eq_true rfl, Nat.le_of_ble_eq_true rfl⟩ ⟨Nat.le_refl 0, Nat.le_refl 0⟩ (Nat.le_of_ble_eq_true rfl) ?_
  refine V_ifeqb (pc := 8) 30 dX11_date_8 (by decide) (fun h8 => ?_) (fun h8 => ?_)
  · skip
    have z : ¬ (g_isJ I x = true ∧ s_within y 0 60 = true ∧ s_within w 0 1 = true) := by first | exact (fun q => absurd (q.1.symm.trans (show g_isJ I x = false from h8)) (by decide)) | exact (fun q => absurd (q.2.1.symm.trans (show s_within y 0 60 = false from h18)) (by decide)) | exact (fun q => absurd (q.2.2.symm.trans (show s_within w 0 1 = false from h27)) (by decide))
    refine V0_iconst (pc := 30) (-1) dX11_date_30 (by decide) ?_
    refine V_reti (pc := 31) _ dX11_date_31 rfl ?_
    first | exact ⟨by rw [if_neg z] <;> rfl, px_sc.rf, rfl⟩ | exact ⟨by rw [if_pos z, if_pos h42], hsc, rfl⟩ | exact ⟨by rw [if_pos z, if_neg h42], hsc, rfl⟩
  · skip
    refine V0_iload_n (pc := 11) dX11_date_11 rfl ?_
    refine V0_iconst (pc := 12) (0) dX11_date_12 (by decide) ?_
    refine V0_bipush (pc := 13) (60) dX11_date_13 (by decide) ?_
    refine V_callSi (pc := 15) (M' := mX11_isWithin) dX11_date_15 mlX11_99 okX11_isWithin rfl c_X11_isWithin rfl rfl ⟨Nat.le_of_ble_eq_true rfl, Nat.le_of_ble_eq_true rfl⟩ ⟨Nat.le_refl 0, Nat.le_refl 0⟩ (Nat.le_of_ble_eq_true rfl) ?_
    refine V_ifeqb (pc := 18) 30 dX11_date_18 (by decide) (fun h18 => ?_) (fun h18 => ?_)
    · skip
      have z : ¬ (g_isJ I x = true ∧ s_within y 0 60 = true ∧ s_within w 0 1 = true) := by first | exact (fun q => absurd (q.1.symm.trans (show g_isJ I x = false from h8)) (by decide)) | exact (fun q => absurd (q.2.1.symm.trans (show s_within y 0 60 = false from h18)) (by decide)) | exact (fun q => absurd (q.2.2.symm.trans (show s_within w 0 1 = false from h27)) (by decide))
      refine V0_iconst (pc := 30) (-1) dX11_date_30 (by decide) ?_
      refine V_reti (pc := 31) _ dX11_date_31 rfl ?_
      first | exact ⟨by rw [if_neg z] <;> rfl, px_sc.rf, rfl⟩ | exact ⟨by rw [if_pos z, if_pos h42], hsc, rfl⟩ | exact ⟨by rw [if_pos z, if_neg h42], hsc, rfl⟩
    · skip
      refine V0_iload_n (pc := 21) dX11_date_21 rfl ?_
      refine V0_iconst (pc := 22) (0) dX11_date_22 (by decide) ?_
      refine V0_iconst (pc := 23) (1) dX11_date_23 (by decide) ?_
      refine V_callSi (pc := 24) (M' := mX11_isWithin) dX11_date_24 mlX11_99 okX11_isWithin rfl c_X11_isWithin rfl rfl ⟨Nat.le_of_ble_eq_true rfl, Nat.le_of_ble_eq_true rfl⟩ ⟨Nat.le_refl 0, Nat.le_refl 0⟩ (Nat.le_of_ble_eq_true rfl) ?_
      refine V_ifneb (pc := 27) 32 dX11_date_27 (by decide) (fun h27 => ?_) (fun h27 => ?_)
      · skip
        have z : g_isJ I x = true ∧ s_within y 0 60 = true ∧ s_within w 0 1 = true := ⟨h8, h18, h27⟩
        have hx := s_is_ix (c := 10) rfl (by omega) (n := I 1 7) h8
        have hy := s_win (a := 0) (b := 60) h18 (by omega) (by omega)
        have hc := c_X9_seekDue (l := l) (J := J) (k := ix y) hk hx.2 hy.2.2
        rw [← hx.1, ← hy.1] at hc
        refine V0_aload_n (pc := 32) dX11_date_32 rfl ?_
        refine V_getr (pc := 33) dX11_date_33 flX11_77 rfl rfl ?_
        refine V0_iload_n (pc := 36) dX11_date_36 rfl ?_
        refine V0_iload_n (pc := 37) dX11_date_37 rfl ?_
        refine V_callV (pc := 38) (M' := mX9_seekDue) dX11_date_38 mlX11_238 okX9_seekDue rfl hc rfl rfl rfl rfl ⟨Nat.le_of_ble_eq_true rfl, Nat.le_of_ble_eq_true rfl⟩ ⟨Nat.le_refl 0, Nat.le_refl 0⟩ (Nat.le_of_ble_eq_true rfl) ?_
        intro r1 I1 J1 hh
        obtain ⟨e1, hsc, hb1, hb2, e3⟩ := hh
        rw [e1, e3]
        clear e1 e3 r1 J1
        refine V0_iload_n (pc := 41) dX11_date_41 rfl ?_
        refine V0_if_ne (pc := 42) 55 dX11_date_42 (by decide) (fun h42 => ?_) (fun h42 => ?_)
        · skip
          refine V0_aload_n (pc := 55) dX11_date_55 rfl ?_
          refine V_getr (pc := 56) dX11_date_56 flX11_77 rfl rfl ?_
          refine V_geti (pc := 59) dX11_date_59 flX11_229 rfl rfl ?_
          first | rw [hb1] | skip
          refine V_reti (pc := 62) _ dX11_date_62 rfl ?_
          first | exact ⟨by rw [if_neg z] <;> rfl, px_sc.rf, rfl⟩ | exact ⟨by rw [if_pos z, if_pos h42], hsc, rfl⟩ | exact ⟨by rw [if_pos z, if_neg h42], hsc, rfl⟩
        · skip
          refine V0_aload_n (pc := 45) dX11_date_45 rfl ?_
          refine V_getr (pc := 46) dX11_date_46 flX11_77 rfl rfl ?_
          refine V_geti (pc := 49) dX11_date_49 flX11_232 rfl rfl ?_
          rw [hb2]
          refine V0_goto (pc := 52) 62 dX11_date_52 (by decide) ?_
          first | rw [hb1] | skip
          refine V_reti (pc := 62) _ dX11_date_62 rfl ?_
          first | exact ⟨by rw [if_neg z] <;> rfl, px_sc.rf, rfl⟩ | exact ⟨by rw [if_pos z, if_pos h42], hsc, rfl⟩ | exact ⟨by rw [if_pos z, if_neg h42], hsc, rfl⟩
      · skip
        have z : ¬ (g_isJ I x = true ∧ s_within y 0 60 = true ∧ s_within w 0 1 = true) := by first | exact (fun q => absurd (q.1.symm.trans (show g_isJ I x = false from h8)) (by decide)) | exact (fun q => absurd (q.2.1.symm.trans (show s_within y 0 60 = false from h18)) (by decide)) | exact (fun q => absurd (q.2.2.symm.trans (show s_within w 0 1 = false from h27)) (by decide))
        refine V0_iconst (pc := 30) (-1) dX11_date_30 (by decide) ?_
        refine V_reti (pc := 31) _ dX11_date_31 rfl ?_
        first | exact ⟨by rw [if_neg z] <;> rfl, px_sc.rf, rfl⟩ | exact ⟨by rw [if_pos z, if_pos h42], hsc, rfl⟩ | exact ⟨by rw [if_pos z, if_neg h42], hsc, rfl⟩
theorem c_X11_judge {l : Launch} {I : px_I} {J : px_J} {x y : Int32} {m n : Nat} (hk : px_ok0 I m n) (hr : px_rows I) : Ct l mX11_judge 5 [.ref 0, .int x, .int y] I J (fun r I' J' => r = some (.int (if g_isP I y = true then (if g_refBytes I x = 0 then t_unl I J x m n (ix y) else g_refBytes I x) else -1)) ∧ px_sc I I' ∧ J' = J) := by
  refine Ct.of plX11_judge (Nat.le_of_ble_eq_true rfl) [.ref 0, .int x, .int y, .null] rfl ?_
  refine V0_aload_n (pc := 0) dX11_judge_0 rfl ?_
  refine V_getr (pc := 1) dX11_judge_1 flX11_26 rfl rfl ?_
  refine V0_iload_n (pc := 4) dX11_judge_4 rfl ?_
  refine V_callVi (pc := 5) (M' := mX7_isPerson) dX11_judge_5 mlX11_111 okX7_isPerson rfl c_X7_isPerson rfl rfl rfl rfl ⟨Nat.le_of_ble_eq_true rfl, Nat.le_of_ble_eq_true rfl⟩ ⟨Nat.le_refl 0, Nat.le_refl 0⟩ (Nat.le_of_ble_eq_true rfl) ?_
  refine V_ifneb (pc := 8) 13 dX11_judge_8 (by decide) (fun h8 => ?_) (fun h8 => ?_)
  · skip
    refine V0_aload_n (pc := 13) dX11_judge_13 rfl ?_
    refine V_getr (pc := 14) dX11_judge_14 flX11_95 rfl rfl ?_
    refine V0_iload_n (pc := 17) dX11_judge_17 rfl ?_
    refine V_callVi (pc := 18) (M' := mX5_refuseBytes) dX11_judge_18 mlX11_122 okX5_refuseBytes rfl c_X5_refuseBytes rfl rfl rfl rfl ⟨Nat.le_of_ble_eq_true rfl, Nat.le_of_ble_eq_true rfl⟩ ⟨Nat.le_refl 0, Nat.le_refl 0⟩ (Nat.le_of_ble_eq_true rfl) ?_
    refine V0_istore_3 (pc := 21) dX11_judge_21 (by decide) rfl ?_
    refine V0_iload_n (pc := 22) dX11_judge_22 rfl ?_
    refine V0_if_eq (pc := 23) 30 dX11_judge_23 (by decide) (fun h23 => ?_) (fun h23 => ?_)
    · skip
      refine V0_aload_n (pc := 30) dX11_judge_30 rfl ?_
      refine V_getr (pc := 31) dX11_judge_31 flX11_77 rfl rfl ?_
      refine V0_iload_n (pc := 34) dX11_judge_34 rfl ?_
      refine V0_iload_n (pc := 35) dX11_judge_35 rfl ?_
      have hx := s_is_ix (c := 7) rfl (by omega) (n := I 1 6) h8
      have hc := c_X9_firstUnlike (l := l) (J := J) (x := x) hk hx.2 hr
      rw [← hx.1] at hc
      refine V_callV (pc := 36) (M' := mX9_firstUnlike) dX11_judge_36 mlX11_242 okX9_firstUnlike rfl hc rfl rfl rfl rfl ⟨Nat.le_of_ble_eq_true rfl, Nat.le_of_ble_eq_true rfl⟩ ⟨Nat.le_refl 0, Nat.le_refl 0⟩ (Nat.le_of_ble_eq_true rfl) ?_
      intro r1 I1 J1 hh
      obtain ⟨e1, ⟨i1, e2⟩, e3⟩ := hh
      rw [e1, e2, e3]
      clear e1 e2 e3 r1 I1 J1
      refine V_reti (pc := 39) _ dX11_judge_39 rfl ?_
      first | exact ⟨by rw [if_neg (by rw [show g_isP I y = false from h8]; decide)] <;> rfl, px_sc.rf, rfl⟩ | exact ⟨by rw [if_pos h8, if_neg h23], px_sc.rf, rfl⟩ | exact ⟨by rw [if_pos h8, if_pos h23], (px_sc.rf.start).days, rfl⟩
    · skip
      refine V0_iload_n (pc := 26) dX11_judge_26 rfl ?_
      refine V0_goto (pc := 27) 39 dX11_judge_27 (by decide) ?_
      refine V_reti (pc := 39) _ dX11_judge_39 rfl ?_
      first | exact ⟨by rw [if_neg (by rw [show g_isP I y = false from h8]; decide)] <;> rfl, px_sc.rf, rfl⟩ | exact ⟨by rw [if_pos h8, if_neg h23], px_sc.rf, rfl⟩ | exact ⟨by rw [if_pos h8, if_pos h23], (px_sc.rf.start).days, rfl⟩
  · skip
    refine V0_iconst (pc := 11) (-1) dX11_judge_11 (by decide) ?_
    refine V_reti (pc := 12) _ dX11_judge_12 rfl ?_
    first | exact ⟨by rw [if_neg (by rw [show g_isP I y = false from h8]; decide)] <;> rfl, px_sc.rf, rfl⟩ | exact ⟨by rw [if_pos h8, if_neg h23], px_sc.rf, rfl⟩ | exact ⟨by rw [if_pos h8, if_pos h23], (px_sc.rf.start).days, rfl⟩

