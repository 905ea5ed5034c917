/-! the Model: people, joys, numbers, changes -/
theorem w_ix {x : Int32} {m : Nat} (hm : m < 1000) (h : s_within x 0 (nI m - 1) = true) : x = nI (ix x) ∧ ix x < m := by
  simp only [s_within, Bool.and_eq_true, Bool.not_eq_true', decide_eq_false_iff_not] at h
  refine ⟨nI_ix h.1, ?_⟩
  cases m with
  | zero =>
    exfalso
    rw [nI_0] at h
    have h1 := h.1
    have h2 := h.2
    rw [px_nlt, Int32.le_iff_toInt_le] at h1 h2
    have c0 : (0 : Int32).toInt = 0 := by decide
    have c1 : (0 - 1 : Int32).toInt = -1 := by decide
    omega
  | succ m =>
    rw [nI_pred] at h
    have h2 := h.2
    rw [nI_ix h.1] at h2
    have hx : x.toInt < 2 ^ 31 := Int32.toInt_lt x
    have hb : ix x < 2 ^ 31 := by show x.toInt.toNat < 2 ^ 31; omega
    have := px_ge h2 (by omega) hb
    omega
theorem w_ixc {x b : Int32} {m : Nat} (hm : m < 1000000) (hb : b = nI m) (h : s_within x 0 b = true) : x = nI (ix x) ∧ ix x < m + 1 := by
  subst hb
  simp only [s_within, Bool.and_eq_true, Bool.not_eq_true', decide_eq_false_iff_not] at h
  have h2 := h.2
  rw [nI_ix h.1] at h2
  have hx : x.toInt < 2 ^ 31 := Int32.toInt_lt x
  have hb : ix x < 2 ^ 31 := by show x.toInt.toNat < 2 ^ 31; omega
  have := px_ge h2 (by omega) hb
  exact ⟨nI_ix h.1, by omega⟩
theorem m_one_ix {I : px_I} {x : Int32} {m : Nat} (hm : I 54 1 = nI m) (hm7 : m ≤ 7) (h : m_one I x = true) : x = nI (ix x) ∧ ix x < m := by
  unfold m_one at h; rw [hm] at h; exact w_ix (by omega) h
theorem m_joy_ix {I : px_I} {x : Int32} {n : Nat} (hn : I 54 3 = nI n) (hn10 : n ≤ 10) (h : m_joy I x = true) : x = nI (ix x) ∧ ix x < n := by
  unfold m_joy at h; rw [hn] at h; exact w_ix (by omega) h
def m_addJoy (I : px_I) (n : Nat) (o d w : Int32) : px_I := px_up (px_up (px_up (px_up (px_up (px_up I 56 n o) 57 n d) 58 n 2) 59 n 9) 60 n w) 54 3 (nI (n + 1))
theorem c_X12_addJoy {l : Launch} {I : px_I} {J : px_J} {n : Nat} {o d w : Int32} (hn : I 54 3 = nI n) (hn10 : n < 10) : Ct l mX12_addJoy 0 [.ref 54, .int o, .int d, .int w] I J (px_qi (nI n) (m_addJoy I n o d w) J) := by
  refine Ct.of plX12_addJoy (Nat.le_of_ble_eq_true rfl) [.ref 54, .int o, .int d, .int w] rfl ?_
  refine V0_aload_n (pc := 0) dX12_addJoy_0 rfl ?_
  refine V_getr (pc := 1) dX12_addJoy_1 flX12_13 rfl rfl ?_
  refine V0_aload_n (pc := 4) dX12_addJoy_4 rfl ?_
  refine V_geti (pc := 5) dX12_addJoy_5 flX12_135 rfl rfl ?_
  refine V0_iload_n (pc := 8) dX12_addJoy_8 rfl ?_
  refine V_iast (pc := 9) n dX12_addJoy_9 rfl hn hn10 ?_
  refine V0_aload_n (pc := 10) dX12_addJoy_10 rfl ?_
  refine V_getr (pc := 11) dX12_addJoy_11 flX12_16 rfl rfl ?_
  refine V0_aload_n (pc := 14) dX12_addJoy_14 rfl ?_
  refine V_geti (pc := 15) dX12_addJoy_15 flX12_135 rfl rfl ?_
  refine V0_iload_n (pc := 18) dX12_addJoy_18 rfl ?_
  refine V_iast (pc := 19) n dX12_addJoy_19 rfl hn hn10 ?_
  refine V0_aload_n (pc := 20) dX12_addJoy_20 rfl ?_
  refine V_getr (pc := 21) dX12_addJoy_21 flX12_19 rfl rfl ?_
  refine V0_aload_n (pc := 24) dX12_addJoy_24 rfl ?_
  refine V_geti (pc := 25) dX12_addJoy_25 flX12_135 rfl rfl ?_
  refine V0_iconst (pc := 28) (2) dX12_addJoy_28 (by decide) ?_
  refine V_iast (pc := 29) n dX12_addJoy_29 rfl hn hn10 ?_
  refine V0_aload_n (pc := 30) dX12_addJoy_30 rfl ?_
  refine V_getr (pc := 31) dX12_addJoy_31 flX12_22 rfl rfl ?_
  refine V0_aload_n (pc := 34) dX12_addJoy_34 rfl ?_
  refine V_geti (pc := 35) dX12_addJoy_35 flX12_135 rfl rfl ?_
  refine V0_bipush (pc := 38) (9) dX12_addJoy_38 (by decide) ?_
  refine V_iast (pc := 40) n dX12_addJoy_40 rfl hn hn10 ?_
  refine V0_aload_n (pc := 41) dX12_addJoy_41 rfl ?_
  refine V_getr (pc := 42) dX12_addJoy_42 flX12_25 rfl rfl ?_
  refine V0_aload_n (pc := 45) dX12_addJoy_45 rfl ?_
  refine V_geti (pc := 46) dX12_addJoy_46 flX12_135 rfl rfl ?_
  refine V0_iload_n (pc := 49) dX12_addJoy_49 rfl ?_
  refine V_iast (pc := 50) n dX12_addJoy_50 rfl hn hn10 ?_
  refine V0_aload_n (pc := 51) dX12_addJoy_51 rfl ?_
  refine V0_dup (pc := 52) dX12_addJoy_52 rfl ?_
  refine V_geti (pc := 53) dX12_addJoy_53 flX12_135 rfl rfl ?_
  refine V0_iconst (pc := 56) (1) dX12_addJoy_56 (by decide) ?_
  refine V0_iadd (pc := 57) dX12_addJoy_57 ?_
  rw [show px_up (px_up (px_up (px_up (px_up I 56 n o) 57 n d) 58 n 2) 59 n 9) 60 n w 54 3 = nI n from hn, nI_1]
  refine V_puti (pc := 58) dX12_addJoy_58 flX12_135 rfl rfl ?_
  refine V0_aload_n (pc := 61) dX12_addJoy_61 rfl ?_
  refine V_geti (pc := 62) dX12_addJoy_62 flX12_135 rfl rfl ?_
  refine V0_iconst (pc := 65) (1) dX12_addJoy_65 (by decide) ?_
  rw [px_up_same]
  refine V0_isub (pc := 66) dX12_addJoy_66 ?_
  refine V_reti (pc := 67) _ dX12_addJoy_67 rfl ?_
  exact ⟨by rw [show nI (n + 1) - 1 = nI n from nI_pred n], rfl, rfl⟩
theorem c_X12_joy {l : Launch} {I : px_I} {J : px_J} {o d : Int32} {n : Nat} (hn : I 54 3 = nI n) (hn10 : n ≤ 10) : Ct l mX12_joy 2 [.ref 54, .int o, .int d] I J (px_qi (if m_one I o = true ∧ s_within d 0 99 = true then (if n < 10 then nI n else -3) else -1) (if m_one I o = true ∧ s_within d 0 99 = true then (if n < 10 then m_addJoy I n o d 5 else I) else I) J) := by
  refine Ct.of plX12_joy (Nat.le_of_ble_eq_true rfl) [.ref 54, .int o, .int d] rfl ?_
  refine V0_aload_n (pc := 0) dX12_joy_0 rfl ?_
  refine V0_iload_n (pc := 1) dX12_joy_1 rfl ?_
  refine V_callVi (pc := 2) (M' := mX12_isOne) dX12_joy_2 mlX12_142 okX12_isOne rfl c_X12_isOne rfl rfl rfl rfl ⟨Nat.le_of_ble_eq_true rfl, Nat.le_of_ble_eq_true rfl⟩ ⟨Nat.le_refl 0, Nat.le_refl 0⟩ (Nat.le_of_ble_eq_true rfl) ?_
  refine V_ifeqb (pc := 5) 18 dX12_joy_5 (by decide) (fun h5 => ?_) (fun h5 => ?_)
  · skip
    have z : ¬ (m_one I o = true ∧ s_within d 0 99 = true) := by first | exact (fun q => absurd (q.1.symm.trans (show m_one I o = false from h5)) (by decide)) | exact (fun q => absurd (q.2.symm.trans (show s_within d 0 99 = false from h15)) (by decide))
    refine V0_iconst (pc := 18) (-1) dX12_joy_18 (by decide) ?_
    refine V_reti (pc := 19) _ dX12_joy_19 rfl ?_
    exact ⟨by rw [if_neg z] <;> rfl, by rw [if_neg z], rfl⟩
  · skip
    refine V0_iload_n (pc := 8) dX12_joy_8 rfl ?_
    refine V0_iconst (pc := 9) (0) dX12_joy_9 (by decide) ?_
    refine V0_bipush (pc := 10) (99) dX12_joy_10 (by decide) ?_
    refine V_callSi (pc := 12) (M' := mX12_in) dX12_joy_12 mlX12_131 okX12_in rfl c_X12_in rfl rfl ⟨Nat.le_of_ble_eq_true rfl, Nat.le_of_ble_eq_true rfl⟩ ⟨Nat.le_refl 0, Nat.le_refl 0⟩ (Nat.le_of_ble_eq_true rfl) ?_
    refine V_ifneb (pc := 15) 20 dX12_joy_15 (by decide) (fun h15 => ?_) (fun h15 => ?_)
    · skip
      have z : m_one I o = true ∧ s_within d 0 99 = true := ⟨h5, h15⟩
      refine V0_aload_n (pc := 20) dX12_joy_20 rfl ?_
      refine V_geti (pc := 21) dX12_joy_21 flX12_135 rfl rfl ?_
      refine V0_bipush (pc := 24) (10) dX12_joy_24 (by decide) ?_
      rw [hn]
      refine V0_icmp_ne (pc := 26) 34 dX12_joy_26 (by decide) (fun h26 => ?_) (fun h26 => ?_)
      · skip
        have q : n < 10 := Nat.lt_of_le_of_ne hn10 (fun e => h26 (by rw [e]; rfl))
        refine V0_aload_n (pc := 34) dX12_joy_34 rfl ?_
        refine V0_iload_n (pc := 35) dX12_joy_35 rfl ?_
        refine V0_iload_n (pc := 36) dX12_joy_36 rfl ?_
        refine V0_iconst (pc := 37) (5) dX12_joy_37 (by decide) ?_
        refine V_callV (pc := 38) (M' := mX12_addJoy) dX12_joy_38 mlX12_145 okX12_addJoy rfl (c_X12_addJoy hn q) rfl rfl rfl rfl ⟨Nat.le_of_ble_eq_true rfl, Nat.le_of_ble_eq_true rfl⟩ ⟨Nat.le_refl 0, Nat.le_refl 0⟩ (Nat.le_of_ble_eq_true rfl) ?_
        intro r1 I1 J1 hh
        obtain ⟨e1, e2, e3⟩ := hh
        rw [e1, e2, e3]
        clear e1 e2 e3 r1 I1 J1
        refine V_reti (pc := 41) _ dX12_joy_41 rfl ?_
        first | exact ⟨by rw [if_pos z, if_neg q] <;> rfl, by rw [if_pos z, if_neg q], rfl⟩ | exact ⟨by rw [if_pos z, if_pos q], by rw [if_pos z, if_pos q], rfl⟩
      · skip
        have q : ¬ n < 10 := fun q => absurd ((qI_inj (b := 10) (by omega) (by omega)).mp h26) (by omega)
        refine V0_bipush (pc := 29) (-3) dX12_joy_29 (by decide) ?_
        refine V0_goto (pc := 31) 41 dX12_joy_31 (by decide) ?_
        refine V_reti (pc := 41) _ dX12_joy_41 rfl ?_
        first | exact ⟨by rw [if_pos z, if_neg q] <;> rfl, by rw [if_pos z, if_neg q], rfl⟩ | exact ⟨by rw [if_pos z, if_pos q], by rw [if_pos z, if_pos q], rfl⟩
    · skip
      have z : ¬ (m_one I o = true ∧ s_within d 0 99 = true) := by first | exact (fun q => absurd (q.1.symm.trans (show m_one I o = false from h5)) (by decide)) | exact (fun q => absurd (q.2.symm.trans (show s_within d 0 99 = false from h15)) (by decide))
      refine V0_iconst (pc := 18) (-1) dX12_joy_18 (by decide) ?_
      refine V_reti (pc := 19) _ dX12_joy_19 rfl ?_
      exact ⟨by rw [if_neg z] <;> rfl, by rw [if_neg z], rfl⟩
def m_at (x w : Int32) : Prop := (w = 0 ∧ x = nI (ix x) ∧ ix x < 7) ∨ ((w = 1 ∨ w = 2 ∨ w = 3 ∨ w = 4 ∨ w = 5 ∨ w = 6 ∨ w = 7) ∧ x = nI (ix x) ∧ ix x < 10) ∨ ((w = 8 ∨ w = 9 ∨ w = 10 ∨ w = 11) ∧ x = 0)
theorem m_at0 {x w : Int32} (h : m_at x w) (e : w = 0) : x = nI (ix x) ∧ ix x < 7 := by
  subst e
  rcases h with h | h | h
  · exact h.2
  · exact absurd h.1 (by decide)
  · exact absurd h.1 (by decide)
theorem m_at1 {x w c : Int32} (h : m_at x w) (e : w = c) (hc : c = 1 ∨ c = 2 ∨ c = 3 ∨ c = 4 ∨ c = 5 ∨ c = 6 ∨ c = 7) : x = nI (ix x) ∧ ix x < 10 := by
  subst e
  rcases h with h | h | h
  · rcases hc with e | e | e | e | e | e | e <;> (rw [e] at h; exact absurd h.1 (by decide))
  · exact h.2
  · rcases hc with e | e | e | e | e | e | e <;> (rw [e] at h; exact absurd h.1 (by decide))
theorem m_at8 {x w : Int32} (h : m_at x w) (e0 : ¬ w = 0) (e1 : ¬ w = 1) (e2 : ¬ w = 2) (e3 : ¬ w = 3) (e4 : ¬ w = 4) (e5 : ¬ w = 5) (e6 : ¬ w = 6) (e7 : ¬ w = 7) : w - 8 = nI (ix (w - 8)) ∧ ix (w - 8) < 4 := by
  rcases h with h | h | h
  · exact absurd h.1 e0
  · rcases h.1 with e | e | e | e | e | e | e
    · exact absurd e e1
    · exact absurd e e2
    · exact absurd e e3
    · exact absurd e e4
    · exact absurd e e5
    · exact absurd e e6
    · exact absurd e e7
  · rcases h.1 with e | e | e | e <;> subst e <;> decide
def m_val (I : px_I) (x w : Int32) : Int32 := if w = 0 then I 55 (ix x) else if w = 1 then I 57 (ix x) else if w = 2 then I 58 (ix x) else if w = 3 then I 59 (ix x) else if w = 4 then I 60 (ix x) else if w = 5 then I 61 (ix x) else if w = 6 then I 62 (ix x) else if w = 7 then I 63 (ix x) else I 64 (ix (w - 8))
def m_put (I : px_I) (x w v : Int32) : px_I := if w = 0 then px_up I 55 (ix x) v else if w = 1 then px_up I 57 (ix x) v else if w = 2 then px_up I 58 (ix x) v else if w = 3 then px_up I 59 (ix x) v else if w = 4 then px_up I 60 (ix x) v else if w = 5 then px_up I 61 (ix x) v else if w = 6 then px_up I 62 (ix x) v else if w = 7 then px_up I 63 (ix x) v else px_up I 64 (ix (w - 8)) v
theorem c_X12_valueAt {l : Launch} {I : px_I} {J : px_J} {x w : Int32} (hp : m_at x w) : CtI l mX12_valueAt 0 [.ref 54, .int w, .int x] I J (m_val I x w) := by
  refine Ct.of plX12_valueAt (Nat.le_of_ble_eq_true rfl) [.ref 54, .int w, .int x] rfl ?_
  refine V0_iload_n (pc := 0) dX12_valueAt_0 rfl ?_
  by_cases s1_0 : w = (0)
  · refine V_tabIn (pc := 1) (off := 47) (0) 48 dX12_valueAt_1 s1_0 (by decide) (by decide) (by decide) (by decide) ?_
    have hx := m_at0 hp s1_0
    refine V0_aload_n (pc := 48) dX12_valueAt_48 rfl ?_
    refine V_getr (pc := 49) dX12_valueAt_49 flX12_7 rfl rfl ?_
    refine V0_iload_n (pc := 52) dX12_valueAt_52 rfl ?_
    refine V_iald (pc := 53) (ix x) dX12_valueAt_53 rfl hx.1 hx.2 ?_
    refine V_reti (pc := 54) _ dX12_valueAt_54 rfl ?_
    refine px_li ?_
    clear hx
    simp [m_val, *]
  by_cases s1_1 : w = (1)
  · refine V_tabIn (pc := 1) (off := 54) (1) 55 dX12_valueAt_1 s1_1 (by decide) (by decide) (by decide) (by decide) ?_
    have hx := m_at1 hp s1_1 (by decide)
    refine V0_aload_n (pc := 55) dX12_valueAt_55 rfl ?_
    refine V_getr (pc := 56) dX12_valueAt_56 flX12_16 rfl rfl ?_
    refine V0_iload_n (pc := 59) dX12_valueAt_59 rfl ?_
    refine V_iald (pc := 60) (ix x) dX12_valueAt_60 rfl hx.1 hx.2 ?_
    refine V_reti (pc := 61) _ dX12_valueAt_61 rfl ?_
    refine px_li ?_
    clear hx
    simp [m_val, *]
  by_cases s1_2 : w = (2)
  · refine V_tabIn (pc := 1) (off := 61) (2) 62 dX12_valueAt_1 s1_2 (by decide) (by decide) (by decide) (by decide) ?_
    have hx := m_at1 hp s1_2 (by decide)
    refine V0_aload_n (pc := 62) dX12_valueAt_62 rfl ?_
    refine V_getr (pc := 63) dX12_valueAt_63 flX12_19 rfl rfl ?_
    refine V0_iload_n (pc := 66) dX12_valueAt_66 rfl ?_
    refine V_iald (pc := 67) (ix x) dX12_valueAt_67 rfl hx.1 hx.2 ?_
    refine V_reti (pc := 68) _ dX12_valueAt_68 rfl ?_
    refine px_li ?_
    clear hx
    simp [m_val, *]
  by_cases s1_3 : w = (3)
  · refine V_tabIn (pc := 1) (off := 68) (3) 69 dX12_valueAt_1 s1_3 (by decide) (by decide) (by decide) (by decide) ?_
    have hx := m_at1 hp s1_3 (by decide)
    refine V0_aload_n (pc := 69) dX12_valueAt_69 rfl ?_
    refine V_getr (pc := 70) dX12_valueAt_70 flX12_22 rfl rfl ?_
    refine V0_iload_n (pc := 73) dX12_valueAt_73 rfl ?_
    refine V_iald (pc := 74) (ix x) dX12_valueAt_74 rfl hx.1 hx.2 ?_
    refine V_reti (pc := 75) _ dX12_valueAt_75 rfl ?_
    refine px_li ?_
    clear hx
    simp [m_val, *]
  by_cases s1_4 : w = (4)
  · refine V_tabIn (pc := 1) (off := 75) (4) 76 dX12_valueAt_1 s1_4 (by decide) (by decide) (by decide) (by decide) ?_
    have hx := m_at1 hp s1_4 (by decide)
    refine V0_aload_n (pc := 76) dX12_valueAt_76 rfl ?_
    refine V_getr (pc := 77) dX12_valueAt_77 flX12_25 rfl rfl ?_
    refine V0_iload_n (pc := 80) dX12_valueAt_80 rfl ?_
    refine V_iald (pc := 81) (ix x) dX12_valueAt_81 rfl hx.1 hx.2 ?_
    refine V_reti (pc := 82) _ dX12_valueAt_82 rfl ?_
    refine px_li ?_
    clear hx
    simp [m_val, *]
  by_cases s1_5 : w = (5)
  · refine V_tabIn (pc := 1) (off := 82) (5) 83 dX12_valueAt_1 s1_5 (by decide) (by decide) (by decide) (by decide) ?_
    have hx := m_at1 hp s1_5 (by decide)
    refine V0_aload_n (pc := 83) dX12_valueAt_83 rfl ?_
    refine V_getr (pc := 84) dX12_valueAt_84 flX12_28 rfl rfl ?_
    refine V0_iload_n (pc := 87) dX12_valueAt_87 rfl ?_
    refine V_iald (pc := 88) (ix x) dX12_valueAt_88 rfl hx.1 hx.2 ?_
    refine V_reti (pc := 89) _ dX12_valueAt_89 rfl ?_
    refine px_li ?_
    clear hx
    simp [m_val, *]
  by_cases s1_6 : w = (6)
  · refine V_tabIn (pc := 1) (off := 89) (6) 90 dX12_valueAt_1 s1_6 (by decide) (by decide) (by decide) (by decide) ?_
    have hx := m_at1 hp s1_6 (by decide)
    refine V0_aload_n (pc := 90) dX12_valueAt_90 rfl ?_
    refine V_getr (pc := 91) dX12_valueAt_91 flX12_31 rfl rfl ?_
    refine V0_iload_n (pc := 94) dX12_valueAt_94 rfl ?_
    refine V_iald (pc := 95) (ix x) dX12_valueAt_95 rfl hx.1 hx.2 ?_
    refine V_reti (pc := 96) _ dX12_valueAt_96 rfl ?_
    refine px_li ?_
    clear hx
    simp [m_val, *]
  by_cases s1_7 : w = (7)
  · refine V_tabIn (pc := 1) (off := 96) (7) 97 dX12_valueAt_1 s1_7 (by decide) (by decide) (by decide) (by decide) ?_
    have hx := m_at1 hp s1_7 (by decide)
    refine V0_aload_n (pc := 97) dX12_valueAt_97 rfl ?_
    refine V_getr (pc := 98) dX12_valueAt_98 flX12_34 rfl rfl ?_
    refine V0_iload_n (pc := 101) dX12_valueAt_101 rfl ?_
    refine V_iald (pc := 102) (ix x) dX12_valueAt_102 rfl hx.1 hx.2 ?_
    refine V_reti (pc := 103) _ dX12_valueAt_103 rfl ?_
    refine px_li ?_
    clear hx
    simp [m_val, *]
  refine V_tabOut (pc := 1) 104 dX12_valueAt_1 (by have g0 := px_ne s1_0 (k := 0) (by decide); have g1 := px_ne s1_1 (k := 1) (by decide); have g2 := px_ne s1_2 (k := 2) (by decide); have g3 := px_ne s1_3 (k := 3) (by decide); have g4 := px_ne s1_4 (k := 4) (by decide); have g5 := px_ne s1_5 (k := 5) (by decide); have g6 := px_ne s1_6 (k := 6) (by decide); have g7 := px_ne s1_7 (k := 7) (by decide); omega) (by decide) ?_
  have hx := m_at8 hp s1_0 s1_1 s1_2 s1_3 s1_4 s1_5 s1_6 s1_7
  refine V0_aload_n (pc := 104) dX12_valueAt_104 rfl ?_
  refine V_getr (pc := 105) dX12_valueAt_105 flX12_37 rfl rfl ?_
  refine V0_iload_n (pc := 108) dX12_valueAt_108 rfl ?_
  refine V0_bipush (pc := 109) (8) dX12_valueAt_109 (by decide) ?_
  refine V0_isub (pc := 111) dX12_valueAt_111 ?_
  refine V_iald (pc := 112) (ix (w - 8)) dX12_valueAt_112 rfl hx.1 hx.2 ?_
  refine V_reti (pc := 113) _ dX12_valueAt_113 rfl ?_
  refine px_li ?_
  clear hx
  simp [m_val, *]
theorem c_X12_lays {l : Launch} {I : px_I} {J : px_J} {x w v : Int32} (hp : m_at x w) : Ct l mX12_lays 0 [.ref 54, .int w, .int x, .int v] I J (px_qs (m_put I x w v) J) := by
  refine Ct.of plX12_lays (Nat.le_of_ble_eq_true rfl) [.ref 54, .int w, .int x, .int v] rfl ?_
  refine V0_iload_n (pc := 0) dX12_lays_0 rfl ?_
  by_cases s1_0 : w = (0)
  · refine V_tabIn (pc := 1) (off := 47) (0) 48 dX12_lays_1 s1_0 (by decide) (by decide) (by decide) (by decide) ?_
    have hx := m_at0 hp s1_0
    refine V0_aload_n (pc := 48) dX12_lays_48 rfl ?_
    refine V_getr (pc := 49) dX12_lays_49 flX12_7 rfl rfl ?_
    refine V0_iload_n (pc := 52) dX12_lays_52 rfl ?_
    refine V0_iload_n (pc := 53) dX12_lays_53 rfl ?_
    refine V_iast (pc := 54) (ix x) dX12_lays_54 rfl hx.1 hx.2 ?_
    refine V0_goto (pc := 55) 138 dX12_lays_55 (by decide) ?_
    refine V_retv (pc := 138) dX12_lays_138 rfl ?_
    exact ⟨rfl, by clear hx; simp [m_put, *], rfl⟩
  by_cases s1_1 : w = (1)
  · refine V_tabIn (pc := 1) (off := 57) (1) 58 dX12_lays_1 s1_1 (by decide) (by decide) (by decide) (by decide) ?_
    have hx := m_at1 hp s1_1 (by decide)
    refine V0_aload_n (pc := 58) dX12_lays_58 rfl ?_
    refine V_getr (pc := 59) dX12_lays_59 flX12_16 rfl rfl ?_
    refine V0_iload_n (pc := 62) dX12_lays_62 rfl ?_
    refine V0_iload_n (pc := 63) dX12_lays_63 rfl ?_
    refine V_iast (pc := 64) (ix x) dX12_lays_64 rfl hx.1 hx.2 ?_
    refine V0_goto (pc := 65) 138 dX12_lays_65 (by decide) ?_
    refine V_retv (pc := 138) dX12_lays_138 rfl ?_
    exact ⟨rfl, by clear hx; simp [m_put, *], rfl⟩
  by_cases s1_2 : w = (2)
  · refine V_tabIn (pc := 1) (off := 67) (2) 68 dX12_lays_1 s1_2 (by decide) (by decide) (by decide) (by decide) ?_
    have hx := m_at1 hp s1_2 (by decide)
    refine V0_aload_n (pc := 68) dX12_lays_68 rfl ?_
    refine V_getr (pc := 69) dX12_lays_69 flX12_19 rfl rfl ?_
    refine V0_iload_n (pc := 72) dX12_lays_72 rfl ?_
    refine V0_iload_n (pc := 73) dX12_lays_73 rfl ?_
    refine V_iast (pc := 74) (ix x) dX12_lays_74 rfl hx.1 hx.2 ?_
    refine V0_goto (pc := 75) 138 dX12_lays_75 (by decide) ?_
    refine V_retv (pc := 138) dX12_lays_138 rfl ?_
    exact ⟨rfl, by clear hx; simp [m_put, *], rfl⟩
  by_cases s1_3 : w = (3)
  · refine V_tabIn (pc := 1) (off := 77) (3) 78 dX12_lays_1 s1_3 (by decide) (by decide) (by decide) (by decide) ?_
    have hx := m_at1 hp s1_3 (by decide)
    refine V0_aload_n (pc := 78) dX12_lays_78 rfl ?_
    refine V_getr (pc := 79) dX12_lays_79 flX12_22 rfl rfl ?_
    refine V0_iload_n (pc := 82) dX12_lays_82 rfl ?_
    refine V0_iload_n (pc := 83) dX12_lays_83 rfl ?_
    refine V_iast (pc := 84) (ix x) dX12_lays_84 rfl hx.1 hx.2 ?_
    refine V0_goto (pc := 85) 138 dX12_lays_85 (by decide) ?_
    refine V_retv (pc := 138) dX12_lays_138 rfl ?_
    exact ⟨rfl, by clear hx; simp [m_put, *], rfl⟩
  by_cases s1_4 : w = (4)
  · refine V_tabIn (pc := 1) (off := 87) (4) 88 dX12_lays_1 s1_4 (by decide) (by decide) (by decide) (by decide) ?_
    have hx := m_at1 hp s1_4 (by decide)
    refine V0_aload_n (pc := 88) dX12_lays_88 rfl ?_
    refine V_getr (pc := 89) dX12_lays_89 flX12_25 rfl rfl ?_
    refine V0_iload_n (pc := 92) dX12_lays_92 rfl ?_
    refine V0_iload_n (pc := 93) dX12_lays_93 rfl ?_
    refine V_iast (pc := 94) (ix x) dX12_lays_94 rfl hx.1 hx.2 ?_
    refine V0_goto (pc := 95) 138 dX12_lays_95 (by decide) ?_
    refine V_retv (pc := 138) dX12_lays_138 rfl ?_
    exact ⟨rfl, by clear hx; simp [m_put, *], rfl⟩
  by_cases s1_5 : w = (5)
  · refine V_tabIn (pc := 1) (off := 97) (5) 98 dX12_lays_1 s1_5 (by decide) (by decide) (by decide) (by decide) ?_
    have hx := m_at1 hp s1_5 (by decide)
    refine V0_aload_n (pc := 98) dX12_lays_98 rfl ?_
    refine V_getr (pc := 99) dX12_lays_99 flX12_28 rfl rfl ?_
    refine V0_iload_n (pc := 102) dX12_lays_102 rfl ?_
    refine V0_iload_n (pc := 103) dX12_lays_103 rfl ?_
    refine V_iast (pc := 104) (ix x) dX12_lays_104 rfl hx.1 hx.2 ?_
    refine V0_goto (pc := 105) 138 dX12_lays_105 (by decide) ?_
    refine V_retv (pc := 138) dX12_lays_138 rfl ?_
    exact ⟨rfl, by clear hx; simp [m_put, *], rfl⟩
  by_cases s1_6 : w = (6)
  · refine V_tabIn (pc := 1) (off := 107) (6) 108 dX12_lays_1 s1_6 (by decide) (by decide) (by decide) (by decide) ?_
    have hx := m_at1 hp s1_6 (by decide)
    refine V0_aload_n (pc := 108) dX12_lays_108 rfl ?_
    refine V_getr (pc := 109) dX12_lays_109 flX12_31 rfl rfl ?_
    refine V0_iload_n (pc := 112) dX12_lays_112 rfl ?_
    refine V0_iload_n (pc := 113) dX12_lays_113 rfl ?_
    refine V_iast (pc := 114) (ix x) dX12_lays_114 rfl hx.1 hx.2 ?_
    refine V0_goto (pc := 115) 138 dX12_lays_115 (by decide) ?_
    refine V_retv (pc := 138) dX12_lays_138 rfl ?_
    exact ⟨rfl, by clear hx; simp [m_put, *], rfl⟩
  by_cases s1_7 : w = (7)
  · refine V_tabIn (pc := 1) (off := 117) (7) 118 dX12_lays_1 s1_7 (by decide) (by decide) (by decide) (by decide) ?_
    have hx := m_at1 hp s1_7 (by decide)
    refine V0_aload_n (pc := 118) dX12_lays_118 rfl ?_
    refine V_getr (pc := 119) dX12_lays_119 flX12_34 rfl rfl ?_
    refine V0_iload_n (pc := 122) dX12_lays_122 rfl ?_
    refine V0_iload_n (pc := 123) dX12_lays_123 rfl ?_
    refine V_iast (pc := 124) (ix x) dX12_lays_124 rfl hx.1 hx.2 ?_
    refine V0_goto (pc := 125) 138 dX12_lays_125 (by decide) ?_
    refine V_retv (pc := 138) dX12_lays_138 rfl ?_
    exact ⟨rfl, by clear hx; simp [m_put, *], rfl⟩
  refine V_tabOut (pc := 1) 128 dX12_lays_1 (by have g0 := px_ne s1_0 (k := 0) (by decide); have g1 := px_ne s1_1 (k := 1) (by decide); have g2 := px_ne s1_2 (k := 2) (by decide); have g3 := px_ne s1_3 (k := 3) (by decide); have g4 := px_ne s1_4 (k := 4) (by decide); have g5 := px_ne s1_5 (k := 5) (by decide); have g6 := px_ne s1_6 (k := 6) (by decide); have g7 := px_ne s1_7 (k := 7) (by decide); omega) (by decide) ?_
  have hx := m_at8 hp s1_0 s1_1 s1_2 s1_3 s1_4 s1_5 s1_6 s1_7
  refine V0_aload_n (pc := 128) dX12_lays_128 rfl ?_
  refine V_getr (pc := 129) dX12_lays_129 flX12_37 rfl rfl ?_
  refine V0_iload_n (pc := 132) dX12_lays_132 rfl ?_
  refine V0_bipush (pc := 133) (8) dX12_lays_133 (by decide) ?_
  refine V0_isub (pc := 135) dX12_lays_135 ?_
  refine V0_iload_n (pc := 136) dX12_lays_136 rfl ?_
  refine V_iast (pc := 137) (ix (w - 8)) dX12_lays_137 rfl hx.1 hx.2 ?_
  refine V_retv (pc := 138) dX12_lays_138 rfl ?_
  exact ⟨rfl, by clear hx; simp [m_put, *], rfl⟩
def m_fg (S : px_I) (k : Nat) : px_I := fun q i => if (65 ≤ q ∧ q ≤ 68) ∧ i < k then S q (i + 1) else S q i
theorem m_fg_0 (S : px_I) : m_fg S 0 = S := by funext q i; simp [m_fg]
theorem m_fg_54 (S : px_I) (k : Nat) : m_fg S k 54 = S 54 := by funext i; simp [m_fg]
theorem m_fg_s (S : px_I) (k : Nat) : px_up (px_up (px_up (px_up (m_fg S k) 65 k (S 65 (k + 1))) 66 k (S 66 (k + 1))) 67 k (S 67 (k + 1))) 68 k (S 68 (k + 1)) = m_fg S (k + 1) := by
  funext q i
  simp only [px_up_at, m_fg]
  by_cases hi : i = k
  · subst hi
    by_cases h8 : q = 68
    · subst h8; simp
    by_cases h7 : q = 67
    · subst h7; simp
    by_cases h6 : q = 66
    · subst h6; simp
    by_cases h5 : q = 65
    · subst h5; simp
    rw [if_neg (by omega), if_neg (by omega), if_neg (by omega), if_neg (by omega), if_neg (by omega), if_neg (by omega)]
  · rw [if_neg (by omega), if_neg (by omega), if_neg (by omega), if_neg (by omega)]
    by_cases hq : (65 ≤ q ∧ q ≤ 68) ∧ i < k
    · rw [if_pos hq, if_pos ⟨hq.1, by omega⟩]
    · rw [if_neg hq, if_neg (fun e => hq ⟨e.1, by omega⟩)]
def m_add1 (I : px_I) (d : Nat) (x w f t : Int32) : px_I := px_up (px_up (px_up (px_up (px_up I 65 d w) 66 d x) 67 d f) 68 d t) 54 13 (nI (d + 1))
def m_chg (I : px_I) (d : Nat) (x w v : Int32) : px_I := if m_val I x w = v then I else m_put (if d < 40 then m_add1 (px_up I 54 14 0) d x w (m_val I x w) v else m_add1 (px_up (m_fg (px_up I 54 14 0) 39) 54 13 39) 39 x w (m_val I x w) v) x w v
theorem lq_X12_changes {l : Launch} {I : px_I} {J : px_J} {d : Nat} {x w v f : Int32} {v5 : Value} {Q : px_Q} (hp : m_at x w) (hd : I 54 13 = nI d) (hd40 : d < 40) (hQ : Q (some (.int f)) (m_put (m_add1 I d x w f v) x w v) J) : V0 l (px_rm 1 0 0) mX12_changes (false, []) 0 0 121 [.ref 54, .int w, .int x, .int v, .int f, v5] [] (px_mk I J) (px_q Q) := by
  refine V0_aload_n (pc := 121) dX12_changes_121 rfl ?_
  refine V_getr (pc := 122) dX12_changes_122 flX12_40 rfl rfl ?_
  refine V0_aload_n (pc := 125) dX12_changes_125 rfl ?_
  refine V_geti (pc := 126) dX12_changes_126 flX12_161 rfl rfl ?_
  refine V0_iload_n (pc := 129) dX12_changes_129 rfl ?_
  refine V_iast (pc := 130) d dX12_changes_130 rfl hd hd40 ?_
  refine V0_aload_n (pc := 131) dX12_changes_131 rfl ?_
  refine V_getr (pc := 132) dX12_changes_132 flX12_43 rfl rfl ?_
  refine V0_aload_n (pc := 135) dX12_changes_135 rfl ?_
  refine V_geti (pc := 136) dX12_changes_136 flX12_161 rfl rfl ?_
  refine V0_iload_n (pc := 139) dX12_changes_139 rfl ?_
  refine V_iast (pc := 140) d dX12_changes_140 rfl hd hd40 ?_
  refine V0_aload_n (pc := 141) dX12_changes_141 rfl ?_
  refine V_getr (pc := 142) dX12_changes_142 flX12_46 rfl rfl ?_
  refine V0_aload_n (pc := 145) dX12_changes_145 rfl ?_
  refine V_geti (pc := 146) dX12_changes_146 flX12_161 rfl rfl ?_
  refine V0_iload (pc := 149) dX12_changes_149 rfl ?_
  refine V_iast (pc := 151) d dX12_changes_151 rfl hd hd40 ?_
  refine V0_aload_n (pc := 152) dX12_changes_152 rfl ?_
  refine V_getr (pc := 153) dX12_changes_153 flX12_49 rfl rfl ?_
  refine V0_aload_n (pc := 156) dX12_changes_156 rfl ?_
  refine V_geti (pc := 157) dX12_changes_157 flX12_161 rfl rfl ?_
  refine V0_iload_n (pc := 160) dX12_changes_160 rfl ?_
  refine V_iast (pc := 161) d dX12_changes_161 rfl hd hd40 ?_
  refine V0_aload_n (pc := 162) dX12_changes_162 rfl ?_
  refine V0_dup (pc := 163) dX12_changes_163 rfl ?_
  refine V_geti (pc := 164) dX12_changes_164 flX12_161 rfl rfl ?_
  refine V0_iconst (pc := 167) (1) dX12_changes_167 (by decide) ?_
  refine V0_iadd (pc := 168) dX12_changes_168 ?_
  rw [show px_up (px_up (px_up (px_up I 65 d w) 66 d x) 67 d f) 68 d v 54 13 = nI d from hd, nI_1]
  refine V_puti (pc := 169) dX12_changes_169 flX12_161 rfl rfl ?_
  refine V0_aload_n (pc := 172) dX12_changes_172 rfl ?_
  refine V0_iload_n (pc := 173) dX12_changes_173 rfl ?_
  refine V0_iload_n (pc := 174) dX12_changes_174 rfl ?_
  refine V0_iload_n (pc := 175) dX12_changes_175 rfl ?_
  refine V_callV (pc := 176) (M' := mX12_lays) dX12_changes_176 mlX12_164 okX12_lays rfl (c_X12_lays hp) rfl rfl rfl rfl ⟨Nat.le_of_ble_eq_true rfl, Nat.le_of_ble_eq_true rfl⟩ ⟨Nat.le_refl 0, Nat.le_refl 0⟩ (Nat.le_of_ble_eq_true rfl) ?_
  intro r1 I1 J1 hh
  obtain ⟨e1, e2, e3⟩ := hh
  rw [e1, e2, e3]
  clear e1 e2 e3 r1 I1 J1
  refine V0_iload (pc := 179) dX12_changes_179 rfl ?_
  refine V_reti (pc := 181) _ dX12_changes_181 rfl ?_
  exact hQ
theorem lp_X12_changes {l : Launch} {S : px_I} {J : px_J} {x w v f : Int32} {Q : px_Q} (hp : m_at x w) (hd : S 54 13 = 40) (hQ : Q (some (.int f)) (m_put (m_add1 (px_up (m_fg S 39) 54 13 39) 39 x w f v) x w v) J) : ∀ (g k : Nat), k + g = 39 → V0 l (px_rm 1 0 0) mX12_changes (false, []) 0 0 34 [.ref 54, .int w, .int x, .int v, .int f, .int (nI (k + 1))] [] (px_mk (m_fg S k) J) (px_q Q) := by
  intro g
  induction g with
  | zero =>
    intro k h1
    obtain rfl : k = 39 := by omega
    refine V0_iload (pc := 34) dX12_changes_34 rfl ?_
    refine V0_bipush (pc := 36) (40) dX12_changes_36 (by decide) ?_
    refine V1_icmp_ge (pc := 38) 111 dX12_changes_38 (by decide) (fun h38 => ?_) (fun h38 => ?_)
    · skip
      refine V0_aload_n (pc := 111) dX12_changes_111 rfl ?_
      refine V0_dup (pc := 112) dX12_changes_112 rfl ?_
      refine V_geti (pc := 113) dX12_changes_113 flX12_161 rfl rfl ?_
      refine V0_iconst (pc := 116) (1) dX12_changes_116 (by decide) ?_
      rw [show m_fg S 39 54 13 = 40 from hd]
      refine V0_isub (pc := 117) dX12_changes_117 ?_
      rw [show (40 : Int32) - 1 = 39 from by decide]
      refine V_puti (pc := 118) dX12_changes_118 flX12_161 rfl rfl ?_
      exact lq_X12_changes (d := 39) hp rfl (by omega) hQ
    · skip
      exact absurd (show nI 40 < (40 : Int32) from h38) (by decide)
  | succ g ih =>
    intro k h1
    have hk : nI (k + 1) < (40 : Int32) := (qI_lt (a := k + 1) (b := 40) (by omega) (by omega)).mpr (by omega)
    have r5 : m_fg S k 65 (k + 1) = S 65 (k + 1) := if_neg (by omega)
    have r6 : m_fg S k 66 (k + 1) = S 66 (k + 1) := if_neg (by omega)
    have r7 : m_fg S k 67 (k + 1) = S 67 (k + 1) := if_neg (by omega)
    have r8 : m_fg S k 68 (k + 1) = S 68 (k + 1) := if_neg (by omega)
    refine V0_iload (pc := 34) dX12_changes_34 rfl ?_
    refine V0_bipush (pc := 36) (40) dX12_changes_36 (by decide) ?_
    refine V1_icmp_ge (pc := 38) 111 dX12_changes_38 (by decide) (fun h38 => ?_) (fun h38 => ?_)
    · skip
      exact absurd hk h38
    · skip
      refine V0_aload_n (pc := 41) dX12_changes_41 rfl ?_
      refine V_getr (pc := 42) dX12_changes_42 flX12_40 rfl rfl ?_
      refine V0_iload (pc := 45) dX12_changes_45 rfl ?_
      refine V0_iconst (pc := 47) (1) dX12_changes_47 (by decide) ?_
      refine V0_isub (pc := 48) dX12_changes_48 ?_
      rw [nI_pred]
      refine V0_aload_n (pc := 49) dX12_changes_49 rfl ?_
      refine V_getr (pc := 50) dX12_changes_50 flX12_40 rfl rfl ?_
      refine V0_iload (pc := 53) dX12_changes_53 rfl ?_
      refine V_iald (pc := 55) (k + 1) dX12_changes_55 rfl rfl (by omega) ?_
      rw [r5]
      refine V_iast (pc := 56) k dX12_changes_56 rfl rfl (by omega) ?_
      refine V0_aload_n (pc := 57) dX12_changes_57 rfl ?_
      refine V_getr (pc := 58) dX12_changes_58 flX12_43 rfl rfl ?_
      refine V0_iload (pc := 61) dX12_changes_61 rfl ?_
      refine V0_iconst (pc := 63) (1) dX12_changes_63 (by decide) ?_
      refine V0_isub (pc := 64) dX12_changes_64 ?_
      rw [nI_pred]
      refine V0_aload_n (pc := 65) dX12_changes_65 rfl ?_
      refine V_getr (pc := 66) dX12_changes_66 flX12_43 rfl rfl ?_
      refine V0_iload (pc := 69) dX12_changes_69 rfl ?_
      refine V_iald (pc := 71) (k + 1) dX12_changes_71 rfl rfl (by omega) ?_
      rw [show px_up (m_fg S k) 65 k (S 65 (k + 1)) 66 (k + 1) = S 66 (k + 1) from r6]
      refine V_iast (pc := 72) k dX12_changes_72 rfl rfl (by omega) ?_
      refine V0_aload_n (pc := 73) dX12_changes_73 rfl ?_
      refine V_getr (pc := 74) dX12_changes_74 flX12_46 rfl rfl ?_
      refine V0_iload (pc := 77) dX12_changes_77 rfl ?_
      refine V0_iconst (pc := 79) (1) dX12_changes_79 (by decide) ?_
      refine V0_isub (pc := 80) dX12_changes_80 ?_
      rw [nI_pred]
      refine V0_aload_n (pc := 81) dX12_changes_81 rfl ?_
      refine V_getr (pc := 82) dX12_changes_82 flX12_46 rfl rfl ?_
      refine V0_iload (pc := 85) dX12_changes_85 rfl ?_
      refine V_iald (pc := 87) (k + 1) dX12_changes_87 rfl rfl (by omega) ?_
      rw [show px_up (px_up (m_fg S k) 65 k (S 65 (k + 1))) 66 k (S 66 (k + 1)) 67 (k + 1) = S 67 (k + 1) from r7]
      refine V_iast (pc := 88) k dX12_changes_88 rfl rfl (by omega) ?_
      refine V0_aload_n (pc := 89) dX12_changes_89 rfl ?_
      refine V_getr (pc := 90) dX12_changes_90 flX12_49 rfl rfl ?_
      refine V0_iload (pc := 93) dX12_changes_93 rfl ?_
      refine V0_iconst (pc := 95) (1) dX12_changes_95 (by decide) ?_
      refine V0_isub (pc := 96) dX12_changes_96 ?_
      rw [nI_pred]
      refine V0_aload_n (pc := 97) dX12_changes_97 rfl ?_
      refine V_getr (pc := 98) dX12_changes_98 flX12_49 rfl rfl ?_
      refine V0_iload (pc := 101) dX12_changes_101 rfl ?_
      refine V_iald (pc := 103) (k + 1) dX12_changes_103 rfl rfl (by omega) ?_
      rw [show px_up (px_up (px_up (m_fg S k) 65 k (S 65 (k + 1))) 66 k (S 66 (k + 1))) 67 k (S 67 (k + 1)) 68 (k + 1) = S 68 (k + 1) from r8]
      refine V_iast (pc := 104) k dX12_changes_104 rfl rfl (by omega) ?_
      refine V0_iinc_5 (pc := 105) (nI ((k + 1) + 1)) dX12_changes_105 (by decide) rfl (nI_1 _) ?_
      refine V0_goto (pc := 108) 34 dX12_changes_108 (by decide) ?_
      rw [m_fg_s]
      exact ih (k + 1) (by omega)
theorem c_X12_changes {l : Launch} {I : px_I} {J : px_J} {d : Nat} {x w v : Int32} (hp : m_at x w) (hd : I 54 13 = nI d) (hd40 : d ≤ 40) : Ct l mX12_changes 1 [.ref 54, .int w, .int x, .int v] I J (px_qi (m_val I x w) (m_chg I d x w v) J) := by
  refine Ct.of plX12_changes (Nat.le_of_ble_eq_true rfl) [.ref 54, .int w, .int x, .int v, .null, .null] rfl ?_
  refine V0_aload_n (pc := 0) dX12_changes_0 rfl ?_
  refine V0_iload_n (pc := 1) dX12_changes_1 rfl ?_
  refine V0_iload_n (pc := 2) dX12_changes_2 rfl ?_
  refine V_callVi (pc := 3) (M' := mX12_valueAt) dX12_changes_3 mlX12_154 okX12_valueAt rfl (c_X12_valueAt hp) rfl rfl rfl rfl ⟨Nat.le_of_ble_eq_true rfl, Nat.le_of_ble_eq_true rfl⟩ ⟨Nat.le_refl 0, Nat.le_refl 0⟩ (Nat.le_of_ble_eq_true rfl) ?_
  refine V0_istore_4 (pc := 6) dX12_changes_6 (by decide) rfl ?_
  refine V0_iload (pc := 8) dX12_changes_8 rfl ?_
  refine V0_iload_n (pc := 10) dX12_changes_10 rfl ?_
  refine V0_icmp_ne (pc := 11) 17 dX12_changes_11 (by decide) (fun h11 => ?_) (fun h11 => ?_)
  · skip
    refine V0_aload_n (pc := 17) dX12_changes_17 rfl ?_
    refine V0_iconst (pc := 18) (0) dX12_changes_18 (by decide) ?_
    refine V_puti (pc := 19) dX12_changes_19 flX12_158 rfl rfl ?_
    refine V0_aload_n (pc := 22) dX12_changes_22 rfl ?_
    refine V_geti (pc := 23) dX12_changes_23 flX12_161 rfl rfl ?_
    refine V0_bipush (pc := 26) (40) dX12_changes_26 (by decide) ?_
    rw [show px_up I 54 14 0 54 13 = nI d from hd]
    refine V0_icmp_ne (pc := 28) 121 dX12_changes_28 (by decide) (fun h28 => ?_) (fun h28 => ?_)
    · skip
      have q : d < 40 := Nat.lt_of_le_of_ne hd40 (fun e => h28 (by rw [e]; rfl))
      exact lq_X12_changes hp hd q ⟨rfl, by rw [m_chg, if_neg h11, if_pos q], rfl⟩
    · skip
      refine V0_iconst (pc := 31) (1) dX12_changes_31 (by decide) ?_
      refine V0_istore_5 (pc := 32) dX12_changes_32 (by decide) rfl ?_
      have q : d = 40 := (qI_inj (b := 40) (by omega) (by omega)).mp h28
      subst q
      have := lp_X12_changes (l := l) (S := px_up I 54 14 0) (J := J) (x := x) (w := w) (v := v) (f := m_val I x w) (Q := px_qi (m_val I x w) (m_chg I 40 x w v) J) hp hd ⟨rfl, by rw [m_chg, if_neg h11, if_neg (by omega)], rfl⟩ 39 0 rfl
      rw [m_fg_0] at this
      exact this
  · skip
    refine V0_iload (pc := 14) dX12_changes_14 rfl ?_
    refine V_reti (pc := 16) _ dX12_changes_16 rfl ?_
    exact ⟨rfl, by rw [m_chg, if_pos h11], rfl⟩
def m_undo (I : px_I) (d : Nat) : px_I := if d = 0 then I else m_put (px_up (px_up I 54 13 (nI (d - 1))) 54 14 (I 54 14 + 1)) (I 66 (d - 1)) (I 65 (d - 1)) (I 67 (d - 1))
theorem m_put_54 {I : px_I} {x w v : Int32} : m_put I x w v 54 = I 54 := by
  unfold m_put
  repeat' split
  all_goals exact px_up_row (by omega)
theorem c_X12_undo {l : Launch} {I : px_I} {J : px_J} {d : Nat} (hd : I 54 13 = nI d) (hd40 : d ≤ 40) (hp : 0 < d → m_at (I 66 (d - 1)) (I 65 (d - 1))) : Ct l mX12_undo 1 [.ref 54] I J (px_qi (if d = 0 then -5 else nI (d - 1)) (m_undo I d) J) := by
  refine Ct.of plX12_undo (Nat.le_of_ble_eq_true rfl) [.ref 54] rfl ?_
  refine V0_aload_n (pc := 0) dX12_undo_0 rfl ?_
  refine V_geti (pc := 1) dX12_undo_1 flX12_161 rfl rfl ?_
  rw [hd]
  refine V0_if_ne (pc := 4) 10 dX12_undo_4 (by decide) (fun h4 => ?_) (fun h4 => ?_)
  · skip
    have h0 : ¬ d = 0 := fun e => h4 (by rw [e]; exact nI_0)
    obtain ⟨d, rfl⟩ : ∃ e, d = e + 1 := ⟨d - 1, by omega⟩
    have hp := hp (by omega)
    refine V0_aload_n (pc := 10) dX12_undo_10 rfl ?_
    refine V0_dup (pc := 11) dX12_undo_11 rfl ?_
    refine V_geti (pc := 12) dX12_undo_12 flX12_161 rfl rfl ?_
    refine V0_iconst (pc := 15) (1) dX12_undo_15 (by decide) ?_
    refine V0_isub (pc := 16) dX12_undo_16 ?_
    rw [hd, nI_pred]
    refine V_puti (pc := 17) dX12_undo_17 flX12_161 rfl rfl ?_
    refine V0_aload_n (pc := 20) dX12_undo_20 rfl ?_
    refine V0_dup (pc := 21) dX12_undo_21 rfl ?_
    refine V_geti (pc := 22) dX12_undo_22 flX12_158 rfl rfl ?_
    refine V0_iconst (pc := 25) (1) dX12_undo_25 (by decide) ?_
    refine V0_iadd (pc := 26) dX12_undo_26 ?_
    refine V_puti (pc := 27) dX12_undo_27 flX12_158 rfl rfl ?_
    refine V0_aload_n (pc := 30) dX12_undo_30 rfl ?_
    refine V0_aload_n (pc := 31) dX12_undo_31 rfl ?_
    refine V_getr (pc := 32) dX12_undo_32 flX12_40 rfl rfl ?_
    refine V0_aload_n (pc := 35) dX12_undo_35 rfl ?_
    refine V_geti (pc := 36) dX12_undo_36 flX12_161 rfl rfl ?_
    refine V_iald (pc := 39) d dX12_undo_39 rfl rfl (by omega) ?_
    refine V0_aload_n (pc := 40) dX12_undo_40 rfl ?_
    refine V_getr (pc := 41) dX12_undo_41 flX12_43 rfl rfl ?_
    refine V0_aload_n (pc := 44) dX12_undo_44 rfl ?_
    refine V_geti (pc := 45) dX12_undo_45 flX12_161 rfl rfl ?_
    refine V_iald (pc := 48) d dX12_undo_48 rfl rfl (by omega) ?_
    refine V0_aload_n (pc := 49) dX12_undo_49 rfl ?_
    refine V_getr (pc := 50) dX12_undo_50 flX12_46 rfl rfl ?_
    refine V0_aload_n (pc := 53) dX12_undo_53 rfl ?_
    refine V_geti (pc := 54) dX12_undo_54 flX12_161 rfl rfl ?_
    refine V_iald (pc := 57) d dX12_undo_57 rfl rfl (by omega) ?_
    refine V_callV (pc := 58) (M' := mX12_lays) dX12_undo_58 mlX12_164 okX12_lays rfl (c_X12_lays hp) rfl rfl rfl rfl ⟨Nat.le_of_ble_eq_true rfl, Nat.le_of_ble_eq_true rfl⟩ ⟨Nat.le_refl 0, Nat.le_refl 0⟩ (Nat.le_of_ble_eq_true rfl) ?_
    intro r1 I1 J1 hh
    obtain ⟨e1, e2, e3⟩ := hh
    rw [e1, e2, e3]
    clear e1 e2 e3 r1 I1 J1
    refine V0_aload_n (pc := 61) dX12_undo_61 rfl ?_
    refine V_geti (pc := 62) dX12_undo_62 flX12_161 rfl rfl ?_
    rw [show m_put _ _ _ _ 54 13 = nI d from (congrFun m_put_54 13).trans rfl]
    refine V_reti (pc := 65) _ dX12_undo_65 rfl ?_
    exact ⟨by rw [if_neg h0] <;> rfl, by rw [m_undo, if_neg h0] <;> rfl, rfl⟩
  · skip
    have h0 : d = 0 := (nI_eq0 (by omega)).mp h4
    refine V0_bipush (pc := 7) (-5) dX12_undo_7 (by decide) ?_
    refine V_reti (pc := 9) _ dX12_undo_9 rfl ?_
    exact ⟨by rw [if_pos h0] <;> rfl, by rw [m_undo, if_pos h0], rfl⟩
def m_redo (I : px_I) (d u : Nat) : px_I := if u = 0 then I else px_up (px_up (m_put I (I 66 d) (I 65 d) (I 68 d)) 54 13 (nI (d + 1))) 54 14 (nI (u - 1))
theorem c_X12_redo {l : Launch} {I : px_I} {J : px_J} {d u : Nat} (hd : I 54 13 = nI d) (hu : I 54 14 = nI u) (hdu : d + u ≤ 40) (hp : 0 < u → m_at (I 66 d) (I 65 d)) : Ct l mX12_redo 1 [.ref 54] I J (px_qi (if u = 0 then -5 else nI (u - 1)) (m_redo I d u) J) := by
  refine Ct.of plX12_redo (Nat.le_of_ble_eq_true rfl) [.ref 54] rfl ?_
  refine V0_aload_n (pc := 0) dX12_redo_0 rfl ?_
  refine V_geti (pc := 1) dX12_redo_1 flX12_158 rfl rfl ?_
  rw [hu]
  refine V0_if_ne (pc := 4) 10 dX12_redo_4 (by decide) (fun h4 => ?_) (fun h4 => ?_)
  · skip
    have h0 : ¬ u = 0 := fun e => h4 (by rw [e]; exact nI_0)
    obtain ⟨u, rfl⟩ : ∃ e, u = e + 1 := ⟨u - 1, by omega⟩
    have hp := hp (by omega)
    refine V0_aload_n (pc := 10) dX12_redo_10 rfl ?_
    refine V0_aload_n (pc := 11) dX12_redo_11 rfl ?_
    refine V_getr (pc := 12) dX12_redo_12 flX12_40 rfl rfl ?_
    refine V0_aload_n (pc := 15) dX12_redo_15 rfl ?_
    refine V_geti (pc := 16) dX12_redo_16 flX12_161 rfl rfl ?_
    refine V_iald (pc := 19) d dX12_redo_19 rfl hd (by omega) ?_
    refine V0_aload_n (pc := 20) dX12_redo_20 rfl ?_
    refine V_getr (pc := 21) dX12_redo_21 flX12_43 rfl rfl ?_
    refine V0_aload_n (pc := 24) dX12_redo_24 rfl ?_
    refine V_geti (pc := 25) dX12_redo_25 flX12_161 rfl rfl ?_
    refine V_iald (pc := 28) d dX12_redo_28 rfl hd (by omega) ?_
    refine V0_aload_n (pc := 29) dX12_redo_29 rfl ?_
    refine V_getr (pc := 30) dX12_redo_30 flX12_49 rfl rfl ?_
    refine V0_aload_n (pc := 33) dX12_redo_33 rfl ?_
    refine V_geti (pc := 34) dX12_redo_34 flX12_161 rfl rfl ?_
    refine V_iald (pc := 37) d dX12_redo_37 rfl hd (by omega) ?_
    refine V_callV (pc := 38) (M' := mX12_lays) dX12_redo_38 mlX12_164 okX12_lays rfl (c_X12_lays hp) rfl rfl rfl rfl ⟨Nat.le_of_ble_eq_true rfl, Nat.le_of_ble_eq_true rfl⟩ ⟨Nat.le_refl 0, Nat.le_refl 0⟩ (Nat.le_of_ble_eq_true rfl) ?_
    intro r1 I1 J1 hh
    obtain ⟨e1, e2, e3⟩ := hh
    rw [e1, e2, e3]
    clear e1 e2 e3 r1 I1 J1
    refine V0_aload_n (pc := 41) dX12_redo_41 rfl ?_
    refine V0_dup (pc := 42) dX12_redo_42 rfl ?_
    refine V_geti (pc := 43) dX12_redo_43 flX12_161 rfl rfl ?_
    refine V0_iconst (pc := 46) (1) dX12_redo_46 (by decide) ?_
    refine V0_iadd (pc := 47) dX12_redo_47 ?_
    rw [show m_put _ _ _ _ 54 13 = nI d from (congrFun m_put_54 13).trans hd, nI_1]
    refine V_puti (pc := 48) dX12_redo_48 flX12_161 rfl rfl ?_
    refine V0_aload_n (pc := 51) dX12_redo_51 rfl ?_
    refine V0_dup (pc := 52) dX12_redo_52 rfl ?_
    refine V_geti (pc := 53) dX12_redo_53 flX12_158 rfl rfl ?_
    refine V0_iconst (pc := 56) (1) dX12_redo_56 (by decide) ?_
    refine V0_isub (pc := 57) dX12_redo_57 ?_
    rw [show px_up (m_put _ _ _ _) 54 13 _ 54 14 = nI (u + 1) from (congrFun m_put_54 14).trans hu, nI_pred]
    refine V_puti (pc := 58) dX12_redo_58 flX12_158 rfl rfl ?_
    refine V0_aload_n (pc := 61) dX12_redo_61 rfl ?_
    refine V_geti (pc := 62) dX12_redo_62 flX12_158 rfl rfl ?_
    refine V_reti (pc := 65) _ dX12_redo_65 rfl ?_
    exact ⟨by rw [if_neg h0, px_up_same] <;> rfl, by rw [m_redo, if_neg h0] <;> rfl, rfl⟩
  · skip
    have h0 : u = 0 := (nI_eq0 (by omega)).mp h4
    refine V0_bipush (pc := 7) (-5) dX12_redo_7 (by decide) ?_
    refine V_reti (pc := 9) _ dX12_redo_9 rfl ?_
    exact ⟨by rw [if_pos h0] <;> rfl, by rw [m_redo, if_pos h0], rfl⟩
def m_pl (I : px_I) (x w : Int32) : Bool := if w = 0 then m_one I x else if s_within w 1 7 = true then m_joy I x else s_within w 8 11 && decide (x = 0)
theorem c_X12_isPlace {l : Launch} {I : px_I} {J : px_J} {x w : Int32} : CtI l mX12_isPlace 2 [.ref 54, .int x, .int w] I J (b2 (m_pl I x w)) := by
  refine Ct.of plX12_isPlace (Nat.le_of_ble_eq_true rfl) [.ref 54, .int x, .int w] rfl ?_
  refine V0_iload_n (pc := 0) dX12_isPlace_0 rfl ?_
  refine V0_if_ne (pc := 1) 12 dX12_isPlace_1 (by decide) (fun h1 => ?_) (fun h1 => ?_)
  · skip
    refine V0_iload_n (pc := 12) dX12_isPlace_12 rfl ?_
    refine V0_iconst (pc := 13) (1) dX12_isPlace_13 (by decide) ?_
    refine V0_bipush (pc := 14) (7) dX12_isPlace_14 (by decide) ?_
    refine V_callSi (pc := 16) (M' := mX12_in) dX12_isPlace_16 mlX12_131 okX12_in rfl c_X12_in rfl rfl ⟨Nat.le_of_ble_eq_true rfl, Nat.le_of_ble_eq_true rfl⟩ ⟨Nat.le_refl 0, Nat.le_refl 0⟩ (Nat.le_of_ble_eq_true rfl) ?_
    refine V_ifeqb (pc := 19) 30 dX12_isPlace_19 (by decide) (fun h19 => ?_) (fun h19 => ?_)
    · skip
      refine V0_iload_n (pc := 30) dX12_isPlace_30 rfl ?_
      refine V0_bipush (pc := 31) (8) dX12_isPlace_31 (by decide) ?_
      refine V0_bipush (pc := 33) (11) dX12_isPlace_33 (by decide) ?_
      refine V_callSi (pc := 35) (M' := mX12_in) dX12_isPlace_35 mlX12_131 okX12_in rfl c_X12_in rfl rfl ⟨Nat.le_of_ble_eq_true rfl, Nat.le_of_ble_eq_true rfl⟩ ⟨Nat.le_refl 0, Nat.le_refl 0⟩ (Nat.le_of_ble_eq_true rfl) ?_
      refine V_ifeqb (pc := 38) 49 dX12_isPlace_38 (by decide) (fun h38 => ?_) (fun h38 => ?_)
      · skip
        refine V0_iconst (pc := 49) (0) dX12_isPlace_49 (by decide) ?_
        refine V_retz (pc := 50) _ dX12_isPlace_50 rfl (Or.inl rfl) ?_
        refine px_li ?_
        simp [m_pl, b2, *]
      · skip
        refine V0_iload_n (pc := 41) dX12_isPlace_41 rfl ?_
        refine V0_if_ne (pc := 42) 49 dX12_isPlace_42 (by decide) (fun h42 => ?_) (fun h42 => ?_)
        · skip
          refine V0_iconst (pc := 49) (0) dX12_isPlace_49 (by decide) ?_
          refine V_retz (pc := 50) _ dX12_isPlace_50 rfl (Or.inl rfl) ?_
          refine px_li ?_
          simp [m_pl, b2, *]
        · skip
          refine V0_iconst (pc := 45) (1) dX12_isPlace_45 (by decide) ?_
          refine V0_goto (pc := 46) 50 dX12_isPlace_46 (by decide) ?_
          refine V_retz (pc := 50) _ dX12_isPlace_50 rfl (Or.inr rfl) ?_
          refine px_li ?_
          simp [m_pl, b2, *]
    · skip
      refine V0_aload_n (pc := 22) dX12_isPlace_22 rfl ?_
      refine V0_iload_n (pc := 23) dX12_isPlace_23 rfl ?_
      refine V_callVi (pc := 24) (M' := mX12_isJoy) dX12_isPlace_24 mlX12_168 okX12_isJoy rfl c_X12_isJoy rfl rfl rfl rfl ⟨Nat.le_of_ble_eq_true rfl, Nat.le_of_ble_eq_true rfl⟩ ⟨Nat.le_refl 0, Nat.le_refl 0⟩ (Nat.le_of_ble_eq_true rfl) ?_
      refine V0_goto (pc := 27) 50 dX12_isPlace_27 (by decide) ?_
      refine V_retz (pc := 50) _ dX12_isPlace_50 rfl (b2_01 _) ?_
      refine px_li ?_
      simp [m_pl, b2, *]
  · skip
    refine V0_aload_n (pc := 4) dX12_isPlace_4 rfl ?_
    refine V0_iload_n (pc := 5) dX12_isPlace_5 rfl ?_
    refine V_callVi (pc := 6) (M' := mX12_isOne) dX12_isPlace_6 mlX12_142 okX12_isOne rfl c_X12_isOne rfl rfl rfl rfl ⟨Nat.le_of_ble_eq_true rfl, Nat.le_of_ble_eq_true rfl⟩ ⟨Nat.le_refl 0, Nat.le_refl 0⟩ (Nat.le_of_ble_eq_true rfl) ?_
    refine V0_goto (pc := 9) 50 dX12_isPlace_9 (by decide) ?_
    refine V_retz (pc := 50) _ dX12_isPlace_50 rfl (b2_01 _) ?_
    refine px_li ?_
    simp [m_pl, b2, *]
def m_may (w v : Int32) : Bool := if w = 0 then s_within v 0 11 else if w = 1 then s_within v 0 99 else if w = 2 then s_within v 1 9 else if w = 3 then s_within v 0 40 else if w = 4 then s_within v 0 9 else if w = 5 then s_within v 0 3 else if w = 6 then s_within v 0 9 else if w = 7 then s_within v 0 1 else if w = 8 then s_within v 0 1 else if w = 9 then s_within v 2 30 else if w = 10 then s_within v 1 9 else if w = 11 then s_within v 0 199 else s_within v 0 9
theorem c_X12_mayHave {l : Launch} {I : px_I} {J : px_J} {w v : Int32} : CtI l mX12_mayHave 2 [.int w, .int v] I J (b2 (m_may w v)) := by
  refine Ct.of plX12_mayHave (Nat.le_of_ble_eq_true rfl) [.int w, .int v] rfl ?_
  refine V0_iload_n (pc := 0) dX12_mayHave_0 rfl ?_
  by_cases s1_0 : w = (0)
  · refine V_tabIn (pc := 1) (off := 63) (0) 64 dX12_mayHave_1 s1_0 (by decide) (by decide) (by decide) (by decide) ?_
    refine V0_iload_n (pc := 64) dX12_mayHave_64 rfl ?_
    refine V_callSi (pc := 65) (M' := mX12_isHouse) dX12_mayHave_65 mlX12_138 okX12_isHouse rfl c_X12_isHouse rfl rfl ⟨Nat.le_of_ble_eq_true rfl, Nat.le_of_ble_eq_true rfl⟩ ⟨Nat.le_refl 0, Nat.le_refl 0⟩ (Nat.le_of_ble_eq_true rfl) ?_
    refine V_retz (pc := 68) _ dX12_mayHave_68 rfl (b2_01 _) ?_
    refine px_li ?_
    simp [m_may, *]
  by_cases s1_1 : w = (1)
  · refine V_tabIn (pc := 1) (off := 68) (1) 69 dX12_mayHave_1 s1_1 (by decide) (by decide) (by decide) (by decide) ?_
    refine V0_iload_n (pc := 69) dX12_mayHave_69 rfl ?_
    refine V0_iconst (pc := 70) (0) dX12_mayHave_70 (by decide) ?_
    refine V0_bipush (pc := 71) (99) dX12_mayHave_71 (by decide) ?_
    refine V_callSi (pc := 73) (M' := mX12_in) dX12_mayHave_73 mlX12_131 okX12_in rfl c_X12_in rfl rfl ⟨Nat.le_of_ble_eq_true rfl, Nat.le_of_ble_eq_true rfl⟩ ⟨Nat.le_refl 0, Nat.le_refl 0⟩ (Nat.le_of_ble_eq_true rfl) ?_
    refine V_retz (pc := 76) _ dX12_mayHave_76 rfl (b2_01 _) ?_
    refine px_li ?_
    simp [m_may, *]
  by_cases s1_2 : w = (2)
  · refine V_tabIn (pc := 1) (off := 76) (2) 77 dX12_mayHave_1 s1_2 (by decide) (by decide) (by decide) (by decide) ?_
    refine V0_iload_n (pc := 77) dX12_mayHave_77 rfl ?_
    refine V0_iconst (pc := 78) (1) dX12_mayHave_78 (by decide) ?_
    refine V0_bipush (pc := 79) (9) dX12_mayHave_79 (by decide) ?_
    refine V_callSi (pc := 81) (M' := mX12_in) dX12_mayHave_81 mlX12_131 okX12_in rfl c_X12_in rfl rfl ⟨Nat.le_of_ble_eq_true rfl, Nat.le_of_ble_eq_true rfl⟩ ⟨Nat.le_refl 0, Nat.le_refl 0⟩ (Nat.le_of_ble_eq_true rfl) ?_
    refine V_retz (pc := 84) _ dX12_mayHave_84 rfl (b2_01 _) ?_
    refine px_li ?_
    simp [m_may, *]
  by_cases s1_3 : w = (3)
  · refine V_tabIn (pc := 1) (off := 84) (3) 85 dX12_mayHave_1 s1_3 (by decide) (by decide) (by decide) (by decide) ?_
    refine V0_iload_n (pc := 85) dX12_mayHave_85 rfl ?_
    refine V0_iconst (pc := 86) (0) dX12_mayHave_86 (by decide) ?_
    refine V0_bipush (pc := 87) (40) dX12_mayHave_87 (by decide) ?_
    refine V_callSi (pc := 89) (M' := mX12_in) dX12_mayHave_89 mlX12_131 okX12_in rfl c_X12_in rfl rfl ⟨Nat.le_of_ble_eq_true rfl, Nat.le_of_ble_eq_true rfl⟩ ⟨Nat.le_refl 0, Nat.le_refl 0⟩ (Nat.le_of_ble_eq_true rfl) ?_
    refine V_retz (pc := 92) _ dX12_mayHave_92 rfl (b2_01 _) ?_
    refine px_li ?_
    simp [m_may, *]
  by_cases s1_4 : w = (4)
  · refine V_tabIn (pc := 1) (off := 121) (4) 122 dX12_mayHave_1 s1_4 (by decide) (by decide) (by decide) (by decide) ?_
    refine V0_iload_n (pc := 122) dX12_mayHave_122 rfl ?_
    refine V0_iconst (pc := 123) (0) dX12_mayHave_123 (by decide) ?_
    refine V0_bipush (pc := 124) (9) dX12_mayHave_124 (by decide) ?_
    refine V_callSi (pc := 126) (M' := mX12_in) dX12_mayHave_126 mlX12_131 okX12_in rfl c_X12_in rfl rfl ⟨Nat.le_of_ble_eq_true rfl, Nat.le_of_ble_eq_true rfl⟩ ⟨Nat.le_refl 0, Nat.le_refl 0⟩ (Nat.le_of_ble_eq_true rfl) ?_
    refine V_retz (pc := 129) _ dX12_mayHave_129 rfl (b2_01 _) ?_
    refine px_li ?_
    simp [m_may, *]
  by_cases s1_5 : w = (5)
  · refine V_tabIn (pc := 1) (off := 92) (5) 93 dX12_mayHave_1 s1_5 (by decide) (by decide) (by decide) (by decide) ?_
    refine V0_iload_n (pc := 93) dX12_mayHave_93 rfl ?_
    refine V0_iconst (pc := 94) (0) dX12_mayHave_94 (by decide) ?_
    refine V0_iconst (pc := 95) (3) dX12_mayHave_95 (by decide) ?_
    refine V_callSi (pc := 96) (M' := mX12_in) dX12_mayHave_96 mlX12_131 okX12_in rfl c_X12_in rfl rfl ⟨Nat.le_of_ble_eq_true rfl, Nat.le_of_ble_eq_true rfl⟩ ⟨Nat.le_refl 0, Nat.le_refl 0⟩ (Nat.le_of_ble_eq_true rfl) ?_
    refine V_retz (pc := 99) _ dX12_mayHave_99 rfl (b2_01 _) ?_
    refine px_li ?_
    simp [m_may, *]
  by_cases s1_6 : w = (6)
  · refine V_tabIn (pc := 1) (off := 121) (6) 122 dX12_mayHave_1 s1_6 (by decide) (by decide) (by decide) (by decide) ?_
    refine V0_iload_n (pc := 122) dX12_mayHave_122 rfl ?_
    refine V0_iconst (pc := 123) (0) dX12_mayHave_123 (by decide) ?_
    refine V0_bipush (pc := 124) (9) dX12_mayHave_124 (by decide) ?_
    refine V_callSi (pc := 126) (M' := mX12_in) dX12_mayHave_126 mlX12_131 okX12_in rfl c_X12_in rfl rfl ⟨Nat.le_of_ble_eq_true rfl, Nat.le_of_ble_eq_true rfl⟩ ⟨Nat.le_refl 0, Nat.le_refl 0⟩ (Nat.le_of_ble_eq_true rfl) ?_
    refine V_retz (pc := 129) _ dX12_mayHave_129 rfl (b2_01 _) ?_
    refine px_li ?_
    simp [m_may, *]
  by_cases s1_7 : w = (7)
  · refine V_tabIn (pc := 1) (off := 99) (7) 100 dX12_mayHave_1 s1_7 (by decide) (by decide) (by decide) (by decide) ?_
    refine V0_iload_n (pc := 100) dX12_mayHave_100 rfl ?_
    refine V_callSi (pc := 101) (M' := mX12_isSide) dX12_mayHave_101 mlX12_171 okX12_isSide rfl c_X12_isSide rfl rfl ⟨Nat.le_of_ble_eq_true rfl, Nat.le_of_ble_eq_true rfl⟩ ⟨Nat.le_refl 0, Nat.le_refl 0⟩ (Nat.le_of_ble_eq_true rfl) ?_
    refine V_retz (pc := 104) _ dX12_mayHave_104 rfl (b2_01 _) ?_
    refine px_li ?_
    simp [m_may, *]
  by_cases s1_8 : w = (8)
  · refine V_tabIn (pc := 1) (off := 99) (8) 100 dX12_mayHave_1 s1_8 (by decide) (by decide) (by decide) (by decide) ?_
    refine V0_iload_n (pc := 100) dX12_mayHave_100 rfl ?_
    refine V_callSi (pc := 101) (M' := mX12_isSide) dX12_mayHave_101 mlX12_171 okX12_isSide rfl c_X12_isSide rfl rfl ⟨Nat.le_of_ble_eq_true rfl, Nat.le_of_ble_eq_true rfl⟩ ⟨Nat.le_refl 0, Nat.le_refl 0⟩ (Nat.le_of_ble_eq_true rfl) ?_
    refine V_retz (pc := 104) _ dX12_mayHave_104 rfl (b2_01 _) ?_
    refine px_li ?_
    simp [m_may, *]
  by_cases s1_9 : w = (9)
  · refine V_tabIn (pc := 1) (off := 104) (9) 105 dX12_mayHave_1 s1_9 (by decide) (by decide) (by decide) (by decide) ?_
    refine V0_iload_n (pc := 105) dX12_mayHave_105 rfl ?_
    refine V0_iconst (pc := 106) (2) dX12_mayHave_106 (by decide) ?_
    refine V0_bipush (pc := 107) (30) dX12_mayHave_107 (by decide) ?_
    refine V_callSi (pc := 109) (M' := mX12_in) dX12_mayHave_109 mlX12_131 okX12_in rfl c_X12_in rfl rfl ⟨Nat.le_of_ble_eq_true rfl, Nat.le_of_ble_eq_true rfl⟩ ⟨Nat.le_refl 0, Nat.le_refl 0⟩ (Nat.le_of_ble_eq_true rfl) ?_
    refine V_retz (pc := 112) _ dX12_mayHave_112 rfl (b2_01 _) ?_
    refine px_li ?_
    simp [m_may, *]
  by_cases s1_10 : w = (10)
  · refine V_tabIn (pc := 1) (off := 76) (10) 77 dX12_mayHave_1 s1_10 (by decide) (by decide) (by decide) (by decide) ?_
    refine V0_iload_n (pc := 77) dX12_mayHave_77 rfl ?_
    refine V0_iconst (pc := 78) (1) dX12_mayHave_78 (by decide) ?_
    refine V0_bipush (pc := 79) (9) dX12_mayHave_79 (by decide) ?_
    refine V_callSi (pc := 81) (M' := mX12_in) dX12_mayHave_81 mlX12_131 okX12_in rfl c_X12_in rfl rfl ⟨Nat.le_of_ble_eq_true rfl, Nat.le_of_ble_eq_true rfl⟩ ⟨Nat.le_refl 0, Nat.le_refl 0⟩ (Nat.le_of_ble_eq_true rfl) ?_
    refine V_retz (pc := 84) _ dX12_mayHave_84 rfl (b2_01 _) ?_
    refine px_li ?_
    simp [m_may, *]
  by_cases s1_11 : w = (11)
  · refine V_tabIn (pc := 1) (off := 112) (11) 113 dX12_mayHave_1 s1_11 (by decide) (by decide) (by decide) (by decide) ?_
    refine V0_iload_n (pc := 113) dX12_mayHave_113 rfl ?_
    refine V0_iconst (pc := 114) (0) dX12_mayHave_114 (by decide) ?_
    refine V0_sipush (pc := 115) (199) dX12_mayHave_115 (by decide) ?_
    refine V_callSi (pc := 118) (M' := mX12_in) dX12_mayHave_118 mlX12_131 okX12_in rfl c_X12_in rfl rfl ⟨Nat.le_of_ble_eq_true rfl, Nat.le_of_ble_eq_true rfl⟩ ⟨Nat.le_refl 0, Nat.le_refl 0⟩ (Nat.le_of_ble_eq_true rfl) ?_
    refine V_retz (pc := 121) _ dX12_mayHave_121 rfl (b2_01 _) ?_
    refine px_li ?_
    simp [m_may, *]
  refine V_tabOut (pc := 1) 122 dX12_mayHave_1 (by have g0 := px_ne s1_0 (k := 0) (by decide); have g1 := px_ne s1_1 (k := 1) (by decide); have g2 := px_ne s1_2 (k := 2) (by decide); have g3 := px_ne s1_3 (k := 3) (by decide); have g4 := px_ne s1_4 (k := 4) (by decide); have g5 := px_ne s1_5 (k := 5) (by decide); have g6 := px_ne s1_6 (k := 6) (by decide); have g7 := px_ne s1_7 (k := 7) (by decide); have g8 := px_ne s1_8 (k := 8) (by decide); have g9 := px_ne s1_9 (k := 9) (by decide); have g10 := px_ne s1_10 (k := 10) (by decide); have g11 := px_ne s1_11 (k := 11) (by decide); omega) (by decide) ?_
  refine V0_iload_n (pc := 122) dX12_mayHave_122 rfl ?_
  refine V0_iconst (pc := 123) (0) dX12_mayHave_123 (by decide) ?_
  refine V0_bipush (pc := 124) (9) dX12_mayHave_124 (by decide) ?_
  refine V_callSi (pc := 126) (M' := mX12_in) dX12_mayHave_126 mlX12_131 okX12_in rfl c_X12_in rfl rfl ⟨Nat.le_of_ble_eq_true rfl, Nat.le_of_ble_eq_true rfl⟩ ⟨Nat.le_refl 0, Nat.le_refl 0⟩ (Nat.le_of_ble_eq_true rfl) ?_
  refine V_retz (pc := 129) _ dX12_mayHave_129 rfl (b2_01 _) ?_
  refine px_li ?_
  simp [m_may, *]

