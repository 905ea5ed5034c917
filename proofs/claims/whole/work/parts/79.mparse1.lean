/-! the Model: the reader's small methods -/
def m_T (t : Nat → Int32) (n : Nat) : Nat → Int32 := fun i => if i < n then t i else -1
/-- the reader's state: at a, k steps laid, r deep it may still go; no fault so far -/
def m_s (t : Nat → Int32) (n a k r : Nat) (I : px_I) : Prop := I 54 20 = nI n ∧ n ≤ 120 ∧ I 54 21 = nI a ∧ a ≤ n ∧ I 54 22 = -1 ∧ (I 54 23 = nI (6 - r) ∧ r ≤ 6) ∧ (I 54 24 = nI k ∧ k ≤ a) ∧ I 69 = t
/-- a fault at a -/
def m_d (t : Nat → Int32) (n a k : Nat) (I : px_I) : Prop := I 54 20 = nI n ∧ n ≤ 120 ∧ I 54 21 = nI a ∧ a ≤ n ∧ I 54 22 = nI a ∧ I 54 24 = nI k ∧ k ≤ a + 1 ∧ I 69 = t
/-- what the reader leaves alone, k steps laid before -/
def m_fr (k : Nat) (I X : px_I) : Prop := (∀ q, q ≠ 54 → q ≠ 70 → q ≠ 71 → X q = I q) ∧ (∀ i, i < 20 ∨ 20 = i ∨ 24 < i → X 54 i = I 54 i) ∧ ∀ i, i < 130 + k → X 70 i = I 70 i ∧ X 71 i = I 71 i
theorem m_fr.rf {k : Nat} {I : px_I} : m_fr k I I := ⟨fun _ _ _ _ => rfl, fun _ _ => rfl, fun _ _ => ⟨rfl, rfl⟩⟩
theorem m_fr.tr {k k' : Nat} {I X Y : px_I} (h : m_fr k I X) (g : m_fr k' X Y) (hk : k ≤ k') : m_fr k I Y := ⟨fun q a b c => (g.1 q a b c).trans (h.1 q a b c), fun i a => (g.2.1 i a).trans (h.2.1 i a), fun i a => ⟨((g.2.2 i (by omega)).1).trans (h.2.2 i a).1, ((g.2.2 i (by omega)).2).trans (h.2.2 i a).2⟩⟩
theorem m_fr.up54 {k i : Nat} {I X : px_I} {x : Int32} (h : m_fr k I X) (hi : 21 ≤ i ∧ i ≤ 24) : m_fr k I (px_up X 54 i x) := ⟨fun q a b c => (px_up_row a).trans (h.1 q a b c), fun j a => (px_up_ne (by omega)).trans (h.2.1 j a), fun j a => ⟨(congrFun (px_up_row (by omega)) j).trans (h.2.2 j a).1, (congrFun (px_up_row (by omega)) j).trans (h.2.2 j a).2⟩⟩
def m_addS (I : px_I) (k : Nat) (w v : Int32) : px_I := px_up (px_up (px_up I 70 (130 + k) w) 71 (130 + k) v) 54 24 (nI (k + 1))
theorem m_fr_add {k : Nat} {I : px_I} {w v : Int32} : m_fr k I (m_addS I k w v) := by
  refine ⟨fun q a b c => ?_, fun i a => ?_, fun i a => ⟨?_, ?_⟩⟩
  · unfold m_addS; rw [px_up_row a, px_up_row c, px_up_row b]
  · unfold m_addS; rw [px_up_ne (by omega), px_up_row (by omega), px_up_row (by omega)]
  · unfold m_addS; rw [px_up_row (by omega), px_up_row (by omega), px_up_ne (by omega)]
  · unfold m_addS; rw [px_up_row (by omega), px_up_ne (by omega), px_up_row (by omega)]
theorem c_X12_look {l : Launch} {I : px_I} {J : px_J} {n a : Nat} (hn : I 54 20 = nI n) (hn120 : n ≤ 120) (ha : I 54 21 = nI a) (han : a ≤ n) : CtI l mX12_look 0 [.ref 54] I J (m_T (I 69) n a) := by
  by_cases q : a < n
  · have hlt : nI a < nI n := (qI_lt (by omega) (by omega)).mpr q
    refine Ct.of plX12_look (Nat.le_of_ble_eq_true rfl) [.ref 54] rfl ?_
    refine V0_aload_n (pc := 0) dX12_look_0 rfl ?_
    refine V_geti (pc := 1) dX12_look_1 flX12_187 rfl rfl ?_
    refine V0_aload_n (pc := 4) dX12_look_4 rfl ?_
    refine V_geti (pc := 5) dX12_look_5 flX12_184 rfl rfl ?_
    rw [ha, hn]
    refine V1_icmp_ge (pc := 8) 23 dX12_look_8 (by decide) (fun h8 => ?_) (fun h8 => ?_)
    · skip
      exact absurd hlt h8
    · skip
      refine V0_aload_n (pc := 11) dX12_look_11 rfl ?_
      refine V_getr (pc := 12) dX12_look_12 flX12_52 rfl rfl ?_
      refine V0_aload_n (pc := 15) dX12_look_15 rfl ?_
      refine V_geti (pc := 16) dX12_look_16 flX12_187 rfl rfl ?_
      refine V_bald (pc := 19) a dX12_look_19 rfl ha (by omega) ?_
      refine V0_goto (pc := 20) 24 dX12_look_20 (by decide) ?_
      refine V_reti (pc := 24) _ dX12_look_24 rfl ?_
      refine px_li ?_
      rw [m_T, if_pos q]
  · have hlt : ¬ nI a < nI n := fun z => q ((qI_lt (by omega) (by omega)).mp z)
    refine Ct.of plX12_look (Nat.le_of_ble_eq_true rfl) [.ref 54] rfl ?_
    refine V0_aload_n (pc := 0) dX12_look_0 rfl ?_
    refine V_geti (pc := 1) dX12_look_1 flX12_187 rfl rfl ?_
    refine V0_aload_n (pc := 4) dX12_look_4 rfl ?_
    refine V_geti (pc := 5) dX12_look_5 flX12_184 rfl rfl ?_
    rw [ha, hn]
    refine V1_icmp_ge (pc := 8) 23 dX12_look_8 (by decide) (fun h8 => ?_) (fun h8 => ?_)
    · skip
      refine V0_iconst (pc := 23) (-1) dX12_look_23 (by decide) ?_
      refine V_reti (pc := 24) _ dX12_look_24 rfl ?_
      refine px_li ?_
      rw [m_T, if_neg q] <;> rfl
    · skip
      exact absurd h8 hlt
theorem c_X12_wrong {l : Launch} {I : px_I} {J : px_J} (hf : I 54 22 = -1) : Ct l mX12_wrong 0 [.ref 54] I J (px_qs (px_up I 54 22 (I 54 21)) J) := by
  refine Ct.of plX12_wrong (Nat.le_of_ble_eq_true rfl) [.ref 54] rfl ?_
  refine V0_aload_n (pc := 0) dX12_wrong_0 rfl ?_
  refine V_geti (pc := 1) dX12_wrong_1 flX12_190 rfl rfl ?_
  rw [hf]
  refine V1_if_ge (pc := 4) 15 dX12_wrong_4 (by decide) (fun h4 => ?_) (fun h4 => ?_)
  · skip
    exact absurd (by decide) h4
  · skip
    refine V0_aload_n (pc := 7) dX12_wrong_7 rfl ?_
    refine V0_aload_n (pc := 8) dX12_wrong_8 rfl ?_
    refine V_geti (pc := 9) dX12_wrong_9 flX12_187 rfl rfl ?_
    refine V_puti (pc := 12) dX12_wrong_12 flX12_190 rfl rfl ?_
    refine V_retv (pc := 15) dX12_wrong_15 rfl ?_
    exact ⟨rfl, rfl, rfl⟩
theorem c_X12_addStep {l : Launch} {I : px_I} {J : px_J} {k : Nat} {w v : Int32} (hk : I 54 24 = nI k) (hk130 : k < 130) (hw : vp_nar .byte w.toInt8.toInt32 = w) : Ct l mX12_addStep 0 [.ref 54, .int w, .int v] I J (px_qs (m_addS I k w v) J) := by
  have e1 : (130 : Int32) + nI k = nI (130 + k) := by rw [show (130 : Int32) = nI 130 from rfl, qI_add]
  refine Ct.of plX12_addStep (Nat.le_of_ble_eq_true rfl) [.ref 54, .int w, .int v] rfl ?_
  refine V0_aload_n (pc := 0) dX12_addStep_0 rfl ?_
  refine V_getr (pc := 1) dX12_addStep_1 flX12_56 rfl rfl ?_
  refine V0_sipush (pc := 4) (130) dX12_addStep_4 (by decide) ?_
  refine V0_aload_n (pc := 7) dX12_addStep_7 rfl ?_
  refine V_geti (pc := 8) dX12_addStep_8 flX12_193 rfl rfl ?_
  rw [hk]
  refine V0_iadd (pc := 11) dX12_addStep_11 ?_
  rw [e1]
  refine V0_iload_n (pc := 12) dX12_addStep_12 rfl ?_
  refine V0_i2b (pc := 13) dX12_addStep_13 ?_
  refine V_bast (pc := 14) (130 + k) dX12_addStep_14 rfl rfl (by omega) ?_
  rw [hw]
  refine V0_aload_n (pc := 15) dX12_addStep_15 rfl ?_
  refine V_getr (pc := 16) dX12_addStep_16 flX12_59 rfl rfl ?_
  refine V0_sipush (pc := 19) (130) dX12_addStep_19 (by decide) ?_
  refine V0_aload_n (pc := 22) dX12_addStep_22 rfl ?_
  refine V_geti (pc := 23) dX12_addStep_23 flX12_193 rfl rfl ?_
  rw [show px_up I 70 (130 + k) w 54 24 = nI k from hk]
  refine V0_iadd (pc := 26) dX12_addStep_26 ?_
  rw [e1]
  refine V0_iload_n (pc := 27) dX12_addStep_27 rfl ?_
  refine V_iast (pc := 28) (130 + k) dX12_addStep_28 rfl rfl (by omega) ?_
  refine V0_aload_n (pc := 29) dX12_addStep_29 rfl ?_
  refine V0_dup (pc := 30) dX12_addStep_30 rfl ?_
  refine V_geti (pc := 31) dX12_addStep_31 flX12_193 rfl rfl ?_
  refine V0_iconst (pc := 34) (1) dX12_addStep_34 (by decide) ?_
  refine V0_iadd (pc := 35) dX12_addStep_35 ?_
  rw [show px_up (px_up I 70 (130 + k) w) 71 (130 + k) v 54 24 = nI k from hk, nI_1]
  refine V_puti (pc := 36) dX12_addStep_36 flX12_193 rfl rfl ?_
  refine V_retv (pc := 39) dX12_addStep_39 rfl ?_
  exact ⟨rfl, rfl, rfl⟩
theorem c_X12_nameOf {l : Launch} {I : px_I} {J : px_J} {b : Int32} : CtI l mX12_nameOf 0 [.int b] I J (s_name b) := by
  refine Ct.of plX12_nameOf (Nat.le_of_ble_eq_true rfl) [.int b] rfl ?_
  refine V0_iload_n (pc := 0) dX12_nameOf_0 rfl ?_
  by_cases s1_0 : b = (103)
  · refine V_tabIn (pc := 1) (off := 93) (103) 94 dX12_nameOf_1 s1_0 (by decide) (by decide) (by decide) (by decide) ?_
    refine V0_iconst (pc := 94) (1) dX12_nameOf_94 (by decide) ?_
    refine V_reti (pc := 95) _ dX12_nameOf_95 rfl ?_
    refine px_li ?_
    simp [s_name, *]
  by_cases s1_1 : b = (104)
  · refine V_tabIn (pc := 1) (off := 103) (104) 104 dX12_nameOf_1 s1_1 (by decide) (by decide) (by decide) (by decide) ?_
    refine V0_iconst (pc := 104) (-1) dX12_nameOf_104 (by decide) ?_
    refine V_reti (pc := 105) _ dX12_nameOf_105 rfl ?_
    refine px_li ?_
    simp [s_name, *]
  by_cases s1_2 : b = (105)
  · refine V_tabIn (pc := 1) (off := 103) (105) 104 dX12_nameOf_1 s1_2 (by decide) (by decide) (by decide) (by decide) ?_
    refine V0_iconst (pc := 104) (-1) dX12_nameOf_104 (by decide) ?_
    refine V_reti (pc := 105) _ dX12_nameOf_105 rfl ?_
    refine px_li ?_
    simp [s_name, *]
  by_cases s1_3 : b = (106)
  · refine V_tabIn (pc := 1) (off := 103) (106) 104 dX12_nameOf_1 s1_3 (by decide) (by decide) (by decide) (by decide) ?_
    refine V0_iconst (pc := 104) (-1) dX12_nameOf_104 (by decide) ?_
    refine V_reti (pc := 105) _ dX12_nameOf_105 rfl ?_
    refine px_li ?_
    simp [s_name, *]
  by_cases s1_4 : b = (107)
  · refine V_tabIn (pc := 1) (off := 99) (107) 100 dX12_nameOf_1 s1_4 (by decide) (by decide) (by decide) (by decide) ?_
    refine V0_iconst (pc := 100) (4) dX12_nameOf_100 (by decide) ?_
    refine V_reti (pc := 101) _ dX12_nameOf_101 rfl ?_
    refine px_li ?_
    simp [s_name, *]
  by_cases s1_5 : b = (108)
  · refine V_tabIn (pc := 1) (off := 95) (108) 96 dX12_nameOf_1 s1_5 (by decide) (by decide) (by decide) (by decide) ?_
    refine V0_iconst (pc := 96) (2) dX12_nameOf_96 (by decide) ?_
    refine V_reti (pc := 97) _ dX12_nameOf_97 rfl ?_
    refine px_li ?_
    simp [s_name, *]
  by_cases s1_6 : b = (109)
  · refine V_tabIn (pc := 1) (off := 103) (109) 104 dX12_nameOf_1 s1_6 (by decide) (by decide) (by decide) (by decide) ?_
    refine V0_iconst (pc := 104) (-1) dX12_nameOf_104 (by decide) ?_
    refine V_reti (pc := 105) _ dX12_nameOf_105 rfl ?_
    refine px_li ?_
    simp [s_name, *]
  by_cases s1_7 : b = (110)
  · refine V_tabIn (pc := 1) (off := 103) (110) 104 dX12_nameOf_1 s1_7 (by decide) (by decide) (by decide) (by decide) ?_
    refine V0_iconst (pc := 104) (-1) dX12_nameOf_104 (by decide) ?_
    refine V_reti (pc := 105) _ dX12_nameOf_105 rfl ?_
    refine px_li ?_
    simp [s_name, *]
  by_cases s1_8 : b = (111)
  · refine V_tabIn (pc := 1) (off := 97) (111) 98 dX12_nameOf_1 s1_8 (by decide) (by decide) (by decide) (by decide) ?_
    refine V0_iconst (pc := 98) (3) dX12_nameOf_98 (by decide) ?_
    refine V_reti (pc := 99) _ dX12_nameOf_99 rfl ?_
    refine px_li ?_
    simp [s_name, *]
  by_cases s1_9 : b = (112)
  · refine V_tabIn (pc := 1) (off := 103) (112) 104 dX12_nameOf_1 s1_9 (by decide) (by decide) (by decide) (by decide) ?_
    refine V0_iconst (pc := 104) (-1) dX12_nameOf_104 (by decide) ?_
    refine V_reti (pc := 105) _ dX12_nameOf_105 rfl ?_
    refine px_li ?_
    simp [s_name, *]
  by_cases s1_10 : b = (113)
  · refine V_tabIn (pc := 1) (off := 103) (113) 104 dX12_nameOf_1 s1_10 (by decide) (by decide) (by decide) (by decide) ?_
    refine V0_iconst (pc := 104) (-1) dX12_nameOf_104 (by decide) ?_
    refine V_reti (pc := 105) _ dX12_nameOf_105 rfl ?_
    refine px_li ?_
    simp [s_name, *]
  by_cases s1_11 : b = (114)
  · refine V_tabIn (pc := 1) (off := 103) (114) 104 dX12_nameOf_1 s1_11 (by decide) (by decide) (by decide) (by decide) ?_
    refine V0_iconst (pc := 104) (-1) dX12_nameOf_104 (by decide) ?_
    refine V_reti (pc := 105) _ dX12_nameOf_105 rfl ?_
    refine px_li ?_
    simp [s_name, *]
  by_cases s1_12 : b = (115)
  · refine V_tabIn (pc := 1) (off := 103) (115) 104 dX12_nameOf_1 s1_12 (by decide) (by decide) (by decide) (by decide) ?_
    refine V0_iconst (pc := 104) (-1) dX12_nameOf_104 (by decide) ?_
    refine V_reti (pc := 105) _ dX12_nameOf_105 rfl ?_
    refine px_li ?_
    simp [s_name, *]
  by_cases s1_13 : b = (116)
  · refine V_tabIn (pc := 1) (off := 103) (116) 104 dX12_nameOf_1 s1_13 (by decide) (by decide) (by decide) (by decide) ?_
    refine V0_iconst (pc := 104) (-1) dX12_nameOf_104 (by decide) ?_
    refine V_reti (pc := 105) _ dX12_nameOf_105 rfl ?_
    refine px_li ?_
    simp [s_name, *]
  by_cases s1_14 : b = (117)
  · refine V_tabIn (pc := 1) (off := 103) (117) 104 dX12_nameOf_1 s1_14 (by decide) (by decide) (by decide) (by decide) ?_
    refine V0_iconst (pc := 104) (-1) dX12_nameOf_104 (by decide) ?_
    refine V_reti (pc := 105) _ dX12_nameOf_105 rfl ?_
    refine px_li ?_
    simp [s_name, *]
  by_cases s1_15 : b = (118)
  · refine V_tabIn (pc := 1) (off := 103) (118) 104 dX12_nameOf_1 s1_15 (by decide) (by decide) (by decide) (by decide) ?_
    refine V0_iconst (pc := 104) (-1) dX12_nameOf_104 (by decide) ?_
    refine V_reti (pc := 105) _ dX12_nameOf_105 rfl ?_
    refine px_li ?_
    simp [s_name, *]
  by_cases s1_16 : b = (119)
  · refine V_tabIn (pc := 1) (off := 91) (119) 92 dX12_nameOf_1 s1_16 (by decide) (by decide) (by decide) (by decide) ?_
    refine V0_iconst (pc := 92) (0) dX12_nameOf_92 (by decide) ?_
    refine V_reti (pc := 93) _ dX12_nameOf_93 rfl ?_
    refine px_li ?_
    simp [s_name, *]
  by_cases s1_17 : b = (120)
  · refine V_tabIn (pc := 1) (off := 103) (120) 104 dX12_nameOf_1 s1_17 (by decide) (by decide) (by decide) (by decide) ?_
    refine V0_iconst (pc := 104) (-1) dX12_nameOf_104 (by decide) ?_
    refine V_reti (pc := 105) _ dX12_nameOf_105 rfl ?_
    refine px_li ?_
    simp [s_name, *]
  by_cases s1_18 : b = (121)
  · refine V_tabIn (pc := 1) (off := 101) (121) 102 dX12_nameOf_1 s1_18 (by decide) (by decide) (by decide) (by decide) ?_
    refine V0_iconst (pc := 102) (5) dX12_nameOf_102 (by decide) ?_
    refine V_reti (pc := 103) _ dX12_nameOf_103 rfl ?_
    refine px_li ?_
    simp [s_name, *]
  refine V_tabOut (pc := 1) 104 dX12_nameOf_1 (by have g0 := px_ne s1_0 (k := 103) (by decide); have g1 := px_ne s1_1 (k := 104) (by decide); have g2 := px_ne s1_2 (k := 105) (by decide); have g3 := px_ne s1_3 (k := 106) (by decide); have g4 := px_ne s1_4 (k := 107) (by decide); have g5 := px_ne s1_5 (k := 108) (by decide); have g6 := px_ne s1_6 (k := 109) (by decide); have g7 := px_ne s1_7 (k := 110) (by decide); have g8 := px_ne s1_8 (k := 111) (by decide); have g9 := px_ne s1_9 (k := 112) (by decide); have g10 := px_ne s1_10 (k := 113) (by decide); have g11 := px_ne s1_11 (k := 114) (by decide); have g12 := px_ne s1_12 (k := 115) (by decide); have g13 := px_ne s1_13 (k := 116) (by decide); have g14 := px_ne s1_14 (k := 117) (by decide); have g15 := px_ne s1_15 (k := 118) (by decide); have g16 := px_ne s1_16 (k := 119) (by decide); have g17 := px_ne s1_17 (k := 120) (by decide); have g18 := px_ne s1_18 (k := 121) (by decide); omega) (by decide) ?_
  refine V0_iconst (pc := 104) (-1) dX12_nameOf_104 (by decide) ?_
  refine V_reti (pc := 105) _ dX12_nameOf_105 rfl ?_
  refine px_li ?_
  simp [s_name, *]
theorem c_X12_opens0 {l : Launch} {I : px_I} {J : px_J} (ho : I 54 23 = 6) (hf : I 54 22 = -1) : Ct l mX12_opens 1 [.ref 54] I J (px_qi 0 (px_up I 54 22 (I 54 21)) J) := by
  refine Ct.of plX12_opens (Nat.le_of_ble_eq_true rfl) [.ref 54] rfl ?_
  refine V0_aload_n (pc := 0) dX12_opens_0 rfl ?_
  refine V_geti (pc := 1) dX12_opens_1 flX12_196 rfl rfl ?_
  refine V0_bipush (pc := 4) (6) dX12_opens_4 (by decide) ?_
  rw [ho]
  refine V0_icmp_ne (pc := 6) 15 dX12_opens_6 (by decide) (fun h6 => ?_) (fun h6 => ?_)
  · skip
    exact absurd rfl h6
  · skip
    refine V0_aload_n (pc := 9) dX12_opens_9 rfl ?_
    refine V_callV (pc := 10) (M' := mX12_wrong) dX12_opens_10 mlX12_199 okX12_wrong rfl (c_X12_wrong hf) rfl rfl rfl rfl ⟨Nat.le_of_ble_eq_true rfl, Nat.le_of_ble_eq_true rfl⟩ ⟨Nat.le_refl 0, Nat.le_refl 0⟩ (Nat.le_of_ble_eq_true rfl) ?_
    intro r1 I1 J1 hh
    obtain ⟨e1, e2, e3⟩ := hh
    rw [e1, e2, e3]
    clear e1 e2 e3 r1 I1 J1
    refine V0_iconst (pc := 13) (0) dX12_opens_13 (by decide) ?_
    refine V_retz (pc := 14) _ dX12_opens_14 rfl (Or.inl rfl) ?_
    exact ⟨rfl, rfl, rfl⟩
theorem c_X12_opens1 {l : Launch} {I : px_I} {J : px_J} {p a : Nat} (ho : I 54 23 = nI p) (hp : p < 6) (ha : I 54 21 = nI a) : Ct l mX12_opens 1 [.ref 54] I J (px_qi 1 (px_up (px_up I 54 23 (nI (p + 1))) 54 21 (nI (a + 1))) J) := by
  refine Ct.of plX12_opens (Nat.le_of_ble_eq_true rfl) [.ref 54] rfl ?_
  refine V0_aload_n (pc := 0) dX12_opens_0 rfl ?_
  refine V_geti (pc := 1) dX12_opens_1 flX12_196 rfl rfl ?_
  refine V0_bipush (pc := 4) (6) dX12_opens_4 (by decide) ?_
  rw [ho]
  refine V0_icmp_ne (pc := 6) 15 dX12_opens_6 (by decide) (fun h6 => ?_) (fun h6 => ?_)
  · skip
    refine V0_aload_n (pc := 15) dX12_opens_15 rfl ?_
    refine V0_dup (pc := 16) dX12_opens_16 rfl ?_
    refine V_geti (pc := 17) dX12_opens_17 flX12_196 rfl rfl ?_
    refine V0_iconst (pc := 20) (1) dX12_opens_20 (by decide) ?_
    refine V0_iadd (pc := 21) dX12_opens_21 ?_
    rw [ho, nI_1]
    refine V_puti (pc := 22) dX12_opens_22 flX12_196 rfl rfl ?_
    refine V0_aload_n (pc := 25) dX12_opens_25 rfl ?_
    refine V0_dup (pc := 26) dX12_opens_26 rfl ?_
    refine V_geti (pc := 27) dX12_opens_27 flX12_187 rfl rfl ?_
    refine V0_iconst (pc := 30) (1) dX12_opens_30 (by decide) ?_
    refine V0_iadd (pc := 31) dX12_opens_31 ?_
    rw [show px_up I 54 23 (nI (p + 1)) 54 21 = nI a from ha, nI_1]
    refine V_puti (pc := 32) dX12_opens_32 flX12_187 rfl rfl ?_
    refine V0_iconst (pc := 35) (1) dX12_opens_35 (by decide) ?_
    refine V_retz (pc := 36) _ dX12_opens_36 rfl (Or.inr rfl) ?_
    exact ⟨rfl, rfl, rfl⟩
  · skip
    exact absurd ((qI_inj (b := 6) (by omega) (by omega)).mp h6) (by omega)
/-! a number -/
theorem m_s.at {t : Nat → Int32} {n a k r : Nat} {I : px_I} (h : m_s t n a k r I) {l : Launch} {J : px_J} : CtI l mX12_look 0 [.ref 54] I J (m_T t n a) := by
  have := c_X12_look (l := l) (J := J) h.1 h.2.1 h.2.2.1 h.2.2.2.1
  rw [h.2.2.2.2.2.2.2] at this
  exact this
theorem m_s.go {t : Nat → Int32} {n a k r : Nat} {I : px_I} (h : m_s t n a k r I) (ha : a < n) : m_s t n (a + 1) k r (px_up I 54 21 (nI (a + 1))) := ⟨(px_up_ne (by omega)).trans h.1, h.2.1, px_up_same, ha, (px_up_ne (by omega)).trans h.2.2.2.2.1, ⟨(px_up_ne (by omega)).trans h.2.2.2.2.2.1.1, h.2.2.2.2.2.1.2⟩, ⟨(px_up_ne (by omega)).trans h.2.2.2.2.2.2.1.1, by have := h.2.2.2.2.2.2.1.2; omega⟩, (px_up_row (by omega)).trans h.2.2.2.2.2.2.2⟩
theorem m_s.add {t : Nat → Int32} {n a k r : Nat} {I : px_I} {w v : Int32} (h : m_s t n a k r I) (hk : k < a) : m_s t n a (k + 1) r (m_addS I k w v) := ⟨((m_fr_add (k := k)).2.1 _ (by omega)).trans h.1, h.2.1, (px_up_ne (by omega)).trans ((congrFun (px_up_row (by omega)) _).trans ((congrFun (px_up_row (by omega)) _).trans h.2.2.1)), h.2.2.2.1, (px_up_ne (by omega)).trans ((congrFun (px_up_row (by omega)) _).trans ((congrFun (px_up_row (by omega)) _).trans h.2.2.2.2.1)), ⟨(px_up_ne (by omega)).trans ((congrFun (px_up_row (by omega)) _).trans ((congrFun (px_up_row (by omega)) _).trans h.2.2.2.2.2.1.1)), h.2.2.2.2.2.1.2⟩, ⟨px_up_same, by omega⟩, ((m_fr_add (k := k)).1 _ (by omega) (by omega) (by omega)).trans h.2.2.2.2.2.2.2⟩
theorem m_T_lt {t : Nat → Int32} {n a : Nat} (h : ¬ m_T t n a = -1) : a < n := by
  refine Nat.lt_of_not_le (fun q => h ?_)
  rw [m_T, if_neg (by omega)]
theorem m_dg_lt {t : Nat → Int32} {n a : Nat} (h : T_dg (m_T t n a) = true) : a < n := m_T_lt (fun e => by rw [e] at h; exact absurd h (by decide))
def m_hr (I X : px_I) : Prop := (∀ q, q ≠ 54 → X q = I q) ∧ ∀ i, i ≠ 21 → X 54 i = I 54 i
/-- digits read one by one, from a on -/
theorem lp_X12_figure {l : Launch} {J : px_J} {t : Nat → Int32} {n a k r N : Nat} {I : px_I} {Q : px_Q} (hs : m_s t n a k r I) (hN : N ≤ 4) (hd : ∀ i, i < N → T_dg (m_T t n (a + i)) = true) (he : N < 4 → T_dg (m_T t n (a + N)) = false) (kk : V0 l (px_rm 1 0 0) mX12_figure (false, []) 0 0 52 [.ref 54, .int (T_val (m_T t n) a N), .int (nI N)] [] (px_mk (px_up I 54 21 (nI (a + N))) J) (px_q Q)) : ∀ (f i : Nat), i + f = N → a + i ≤ n → V0 l (px_rm 1 0 0) mX12_figure (false, []) 0 0 4 [.ref 54, .int (T_val (m_T t n) a i), .int (nI i)] [] (px_mk (px_up I 54 21 (nI (a + i))) J) (px_q Q) := by
  have hl : ∀ i, a + i ≤ n → CtI l mX12_look 0 [.ref 54] (px_up I 54 21 (nI (a + i))) J (m_T t n (a + i)) := by
    intro i hi
    have := c_X12_look (l := l) (I := px_up I 54 21 (nI (a + i))) (J := J) (n := n) (a := a + i) ((px_up_ne (by omega)).trans hs.1) hs.2.1 px_up_same hi
    rw [show px_up I 54 21 (nI (a + i)) 69 = t from (px_up_row (by omega)).trans hs.2.2.2.2.2.2.2] at this
    exact this
  intro f
  induction f with
  | zero =>
    intro i h1 hi
    obtain rfl : i = N := by omega
    have hli := hl i hi
    refine V0_iload_n (pc := 4) dX12_figure_4 rfl ?_
    refine V0_iconst (pc := 5) (4) dX12_figure_5 (by decide) ?_
    refine V1_icmp_ge (pc := 6) 52 dX12_figure_6 (by decide) (fun h6 => ?_) (fun h6 => ?_)
    · skip
      exact kk
    · skip
      refine V0_aload_n (pc := 9) dX12_figure_9 rfl ?_
      refine V_callVi (pc := 10) (M' := mX12_look) dX12_figure_10 mlX12_202 okX12_look rfl hli rfl rfl rfl rfl ⟨Nat.le_of_ble_eq_true rfl, Nat.le_of_ble_eq_true rfl⟩ ⟨Nat.le_refl 0, Nat.le_refl 0⟩ (Nat.le_of_ble_eq_true rfl) ?_
      refine V0_bipush (pc := 13) (48) dX12_figure_13 (by decide) ?_
      refine V0_bipush (pc := 15) (57) dX12_figure_15 (by decide) ?_
      refine V_callSi (pc := 17) (M' := mX12_in) dX12_figure_17 mlX12_131 okX12_in rfl c_X12_in rfl rfl ⟨Nat.le_of_ble_eq_true rfl, Nat.le_of_ble_eq_true rfl⟩ ⟨Nat.le_refl 0, Nat.le_refl 0⟩ (Nat.le_of_ble_eq_true rfl) ?_
      refine V_ifeqb (pc := 20) 52 dX12_figure_20 (by decide) (fun h20 => ?_) (fun h20 => ?_)
      · skip
        exact kk
      · skip
        exact absurd (h20.symm.trans (he (px_ltc 4 rfl h6 (by omega) (by omega)))) (by decide)
  | succ f ih =>
    intro i h1 hi
    have hdi := hd i (by omega)
    have hin := m_dg_lt hdi
    have hli := hl i hi
    have hlt : nI i < (4 : Int32) := (qI_lt (a := i) (b := 4) (by omega) (by omega)).mpr (by omega)
    have ev : T_val (m_T t n) a (i + 1) = 10 * T_val (m_T t n) a i + m_T t n (a + i) - 48 := by rw [T_val, Int32.mul_comm]
    refine V0_iload_n (pc := 4) dX12_figure_4 rfl ?_
    refine V0_iconst (pc := 5) (4) dX12_figure_5 (by decide) ?_
    refine V1_icmp_ge (pc := 6) 52 dX12_figure_6 (by decide) (fun h6 => ?_) (fun h6 => ?_)
    · skip
      exact absurd hlt h6
    · skip
      refine V0_aload_n (pc := 9) dX12_figure_9 rfl ?_
      refine V_callVi (pc := 10) (M' := mX12_look) dX12_figure_10 mlX12_202 okX12_look rfl hli rfl rfl rfl rfl ⟨Nat.le_of_ble_eq_true rfl, Nat.le_of_ble_eq_true rfl⟩ ⟨Nat.le_refl 0, Nat.le_refl 0⟩ (Nat.le_of_ble_eq_true rfl) ?_
      refine V0_bipush (pc := 13) (48) dX12_figure_13 (by decide) ?_
      refine V0_bipush (pc := 15) (57) dX12_figure_15 (by decide) ?_
      refine V_callSi (pc := 17) (M' := mX12_in) dX12_figure_17 mlX12_131 okX12_in rfl c_X12_in rfl rfl ⟨Nat.le_of_ble_eq_true rfl, Nat.le_of_ble_eq_true rfl⟩ ⟨Nat.le_refl 0, Nat.le_refl 0⟩ (Nat.le_of_ble_eq_true rfl) ?_
      refine V_ifeqb (pc := 20) 52 dX12_figure_20 (by decide) (fun h20 => ?_) (fun h20 => ?_)
      · skip
        exact absurd (hdi.symm.trans (show T_dg (m_T t n (a + i)) = false from h20)) (by decide)
      · skip
        refine V0_bipush (pc := 23) (10) dX12_figure_23 (by decide) ?_
        refine V0_iload_n (pc := 25) dX12_figure_25 rfl ?_
        refine V0_imul (pc := 26) dX12_figure_26 ?_
        refine V0_aload_n (pc := 27) dX12_figure_27 rfl ?_
        refine V_callVi (pc := 28) (M' := mX12_look) dX12_figure_28 mlX12_202 okX12_look rfl hli rfl rfl rfl rfl ⟨Nat.le_of_ble_eq_true rfl, Nat.le_of_ble_eq_true rfl⟩ ⟨Nat.le_refl 0, Nat.le_refl 0⟩ (Nat.le_of_ble_eq_true rfl) ?_
        refine V0_iadd (pc := 31) dX12_figure_31 ?_
        refine V0_bipush (pc := 32) (48) dX12_figure_32 (by decide) ?_
        refine V0_isub (pc := 34) dX12_figure_34 ?_
        refine V0_istore_1 (pc := 35) dX12_figure_35 (by decide) rfl ?_
        refine V0_iinc_2 (pc := 36) (nI (i + 1)) dX12_figure_36 (by decide) rfl (nI_1 _) ?_
        refine V0_aload_n (pc := 39) dX12_figure_39 rfl ?_
        refine V0_dup (pc := 40) dX12_figure_40 rfl ?_
        refine V_geti (pc := 41) dX12_figure_41 flX12_187 rfl rfl ?_
        refine V0_iconst (pc := 44) (1) dX12_figure_44 (by decide) ?_
        refine V0_iadd (pc := 45) dX12_figure_45 ?_
        rw [px_up_same, nI_1]
        refine V_puti (pc := 46) dX12_figure_46 flX12_187 rfl rfl ?_
        refine V0_goto (pc := 49) 4 dX12_figure_49 (by decide) ?_
        rw [m_up_up]
        exact V_ls (by rw [ev]) (ih (i + 1) (by omega) (by omega))
theorem m_here {t : Nat → Int32} {n a k r : Nat} {I : px_I} (hs : m_s t n a k r I) : px_up I 54 21 (nI (a + 0)) = I := by
  have := m_up_id (I := I) (q := 54) (k := 21)
  rw [hs.2.2.1] at this
  exact this
theorem m_s.fwd {t : Nat → Int32} {n a k r N : Nat} {I : px_I} (h : m_s t n a k r I) (ha : a + N ≤ n) : m_s t n (a + N) k r (px_up I 54 21 (nI (a + N))) := ⟨(px_up_ne (by omega)).trans h.1, h.2.1, px_up_same, ha, (px_up_ne (by omega)).trans h.2.2.2.2.1, ⟨(px_up_ne (by omega)).trans h.2.2.2.2.2.1.1, h.2.2.2.2.2.1.2⟩, ⟨(px_up_ne (by omega)).trans h.2.2.2.2.2.2.1.1, by have := h.2.2.2.2.2.2.1.2; omega⟩, (px_up_row (by omega)).trans h.2.2.2.2.2.2.2⟩
def m_out (t : Nat → Int32) (n a k r a' : Nat) (ok : Bool) (c : List l_C) (I X : px_I) : Prop := m_fr k I X ∧ (ok = true → m_s t n a' (k + c.length) r X ∧ m_code X (130 + k) c ∧ a + c.length ≤ a') ∧ (ok = false → ∃ k', m_d t n a' k' X ∧ k' + a ≤ k + a' + 1 ∧ k ≤ k')
theorem m_s.wr {t : Nat → Int32} {n a k r : Nat} {I : px_I} (h : m_s t n a k r I) : m_d t n a k (px_up I 54 22 (nI a)) := ⟨(px_up_ne (by omega)).trans h.1, h.2.1, (px_up_ne (by omega)).trans h.2.2.1, h.2.2.2.1, px_up_same, (px_up_ne (by omega)).trans h.2.2.2.2.2.2.1.1, by have := h.2.2.2.2.2.2.1.2; omega, (px_up_row (by omega)).trans h.2.2.2.2.2.2.2⟩
theorem m_d.add {t : Nat → Int32} {n a k : Nat} {I : px_I} {w v : Int32} (h : m_d t n a k I) (hk : k ≤ a) : m_d t n a (k + 1) (m_addS I k w v) := ⟨((m_fr_add (k := k)).2.1 _ (by omega)).trans h.1, h.2.1, (px_up_ne (by omega)).trans ((congrFun (px_up_row (by omega)) _).trans ((congrFun (px_up_row (by omega)) _).trans h.2.2.1)), h.2.2.2.1, (px_up_ne (by omega)).trans ((congrFun (px_up_row (by omega)) _).trans ((congrFun (px_up_row (by omega)) _).trans h.2.2.2.2.1)), px_up_same, by omega, ((m_fr_add (k := k)).1 _ (by omega) (by omega) (by omega)).trans h.2.2.2.2.2.2.2⟩
theorem m_add_code {X : px_I} {k : Nat} {w v : Int32} : m_addS X k w v 70 (130 + k) = w ∧ m_addS X k w v 71 (130 + k) = v := ⟨(congrFun (px_up_row (by omega)) _).trans ((congrFun (px_up_row (by omega)) _).trans px_up_same), (congrFun (px_up_row (by omega)) _).trans px_up_same⟩
theorem c_X12_figure1 {l : Launch} {I : px_I} {J : px_J} {t : Nat → Int32} {n a k r N : Nat} (hs : m_s t n a k r I) (h1 : 1 ≤ N) (hN : N ≤ 4) (hd : ∀ i, i < N → T_dg (m_T t n (a + i)) = true) (he : T_dg (m_T t n (a + N)) = false) : Ct l mX12_figure 1 [.ref 54] I J (fun x I' J' => x = none ∧ J' = J ∧ m_out t n a k r (a + N) true [(35, T_val (m_T t n) a N)] I I') := by
  have han : a + N ≤ n := by
    have := m_dg_lt (hd (N - 1) (by omega))
    omega
  have hka := hs.2.2.2.2.2.2.1.2
  have hn120 := hs.2.1
  have hX := hs.fwd han
  have hlN := hX.at (l := l) (J := J)
  have ha := c_X12_addStep (l := l) (J := J) (w := 1) (v := T_val (m_T t n) a N) hX.2.2.2.2.2.2.1.1 (by omega) (by decide)
  have kk : V0 l (px_rm 1 0 0) mX12_figure (false, []) 0 0 52 [.ref 54, .int (T_val (m_T t n) a N), .int (nI N)] [] (px_mk (px_up I 54 21 (nI (a + N))) J) (px_q (fun x I' J' => x = none ∧ J' = J ∧ m_out t n a k r (a + N) true [(35, T_val (m_T t n) a N)] I I')) := by
    refine V0_iload_n (pc := 52) dX12_figure_52 rfl ?_
    refine V0_if_eq (pc := 53) 70 dX12_figure_53 (by decide) (fun h53 => ?_) (fun h53 => ?_)
    · skip
      exact absurd ((nI_eq0 (by omega)).mp h53) (by omega)
    · skip
      refine V0_aload_n (pc := 56) dX12_figure_56 rfl ?_
      refine V_callVi (pc := 57) (M' := mX12_look) dX12_figure_57 mlX12_202 okX12_look rfl hlN rfl rfl rfl rfl ⟨Nat.le_of_ble_eq_true rfl, Nat.le_of_ble_eq_true rfl⟩ ⟨Nat.le_refl 0, Nat.le_refl 0⟩ (Nat.le_of_ble_eq_true rfl) ?_
      refine V0_bipush (pc := 60) (48) dX12_figure_60 (by decide) ?_
      refine V0_bipush (pc := 62) (57) dX12_figure_62 (by decide) ?_
      refine V_callSi (pc := 64) (M' := mX12_in) dX12_figure_64 mlX12_131 okX12_in rfl c_X12_in rfl rfl ⟨Nat.le_of_ble_eq_true rfl, Nat.le_of_ble_eq_true rfl⟩ ⟨Nat.le_refl 0, Nat.le_refl 0⟩ (Nat.le_of_ble_eq_true rfl) ?_
      refine V_ifeqb (pc := 67) 74 dX12_figure_67 (by decide) (fun h67 => ?_) (fun h67 => ?_)
      · skip
        refine V0_aload_n (pc := 74) dX12_figure_74 rfl ?_
        refine V0_iconst (pc := 75) (1) dX12_figure_75 (by decide) ?_
        refine V0_iload_n (pc := 76) dX12_figure_76 rfl ?_
        refine V_callV (pc := 77) (M' := mX12_addStep) dX12_figure_77 mlX12_206 okX12_addStep rfl ha rfl rfl rfl rfl ⟨Nat.le_of_ble_eq_true rfl, Nat.le_of_ble_eq_true rfl⟩ ⟨Nat.le_refl 0, Nat.le_refl 0⟩ (Nat.le_of_ble_eq_true rfl) ?_
        intro r1 I1 J1 hh
        obtain ⟨e1, e2, e3⟩ := hh
        rw [e1, e2, e3]
        clear e1 e2 e3 r1 I1 J1
        refine V_retv (pc := 80) dX12_figure_80 rfl ?_
        exact ⟨rfl, rfl, (m_fr.rf.up54 (by omega)).tr m_fr_add (Nat.le_refl _), fun _ => ⟨hX.add (by omega), ⟨m_add_code.1, fun _ => m_add_code.2, Or.inl rfl, trivial⟩, (show a + 1 ≤ a + N from by omega)⟩, (fun q => absurd q (by decide))⟩
      · skip
        exact absurd (h67.symm.trans he) (by decide)
  have h := lp_X12_figure hs hN hd (fun _ => he) kk N 0 (by omega) hs.2.2.2.1
  rw [m_here hs] at h
  refine Ct.of plX12_figure (Nat.le_of_ble_eq_true rfl) [.ref 54, .null, .null] rfl ?_
  refine V0_iconst (pc := 0) (0) dX12_figure_0 (by decide) ?_
  refine V0_istore_1 (pc := 1) dX12_figure_1 (by decide) rfl ?_
  refine V0_iconst (pc := 2) (0) dX12_figure_2 (by decide) ?_
  refine V0_istore_2 (pc := 3) dX12_figure_3 (by decide) rfl ?_
  exact h
theorem c_X12_figure0 {l : Launch} {I : px_I} {J : px_J} {t : Nat → Int32} {n a k r N : Nat} (hs : m_s t n a k r I) (hN : N ≤ 4) (hd : ∀ i, i < N → T_dg (m_T t n (a + i)) = true) (hx : (N = 0 ∧ T_dg (m_T t n a) = false) ∨ (N = 4 ∧ T_dg (m_T t n (a + 4)) = true)) : Ct l mX12_figure 1 [.ref 54] I J (fun x I' J' => x = none ∧ J' = J ∧ m_out t n a k r (a + N) false [] I I') := by
  have han : a + N ≤ n := by
    rcases hx with q | q
    · have := hs.2.2.2.1; omega
    · have := m_dg_lt q.2; omega
  have hz : ¬ N = 0 → T_dg (m_T t n (a + N)) = true := by
    intro q
    rcases hx with z | z
    · exact absurd z.1 q
    · rw [z.1]; exact z.2
  have he : N < 4 → T_dg (m_T t n (a + N)) = false := by
    intro q
    rcases hx with z | z
    · rw [z.1]; exact z.2
    · omega
  have hka := hs.2.2.2.2.2.2.1.2
  have hn120 := hs.2.1
  have hX := hs.fwd han
  have hlN := hX.at (l := l) (J := J)
  have hD := hX.wr
  have ha := c_X12_addStep (l := l) (J := J) (w := 1) (v := T_val (m_T t n) a N) hD.2.2.2.2.2.1 (by omega) (by decide)
  have kk : V0 l (px_rm 1 0 0) mX12_figure (false, []) 0 0 52 [.ref 54, .int (T_val (m_T t n) a N), .int (nI N)] [] (px_mk (px_up I 54 21 (nI (a + N))) J) (px_q (fun x I' J' => x = none ∧ J' = J ∧ m_out t n a k r (a + N) false [] I I')) := by
    refine V0_iload_n (pc := 52) dX12_figure_52 rfl ?_
    refine V0_if_eq (pc := 53) 70 dX12_figure_53 (by decide) (fun h53 => ?_) (fun h53 => ?_)
    · skip
      refine V0_aload_n (pc := 70) dX12_figure_70 rfl ?_
      refine V_callV (pc := 71) (M' := mX12_wrong) dX12_figure_71 mlX12_199 okX12_wrong rfl (c_X12_wrong hX.2.2.2.2.1) rfl rfl rfl rfl ⟨Nat.le_of_ble_eq_true rfl, Nat.le_of_ble_eq_true rfl⟩ ⟨Nat.le_refl 0, Nat.le_refl 0⟩ (Nat.le_of_ble_eq_true rfl) ?_
      intro r1 I1 J1 hh
      obtain ⟨e1, e2, e3⟩ := hh
      rw [e1, e2, e3]
      clear e1 e2 e3 r1 I1 J1
      rw [px_up_same]
      refine V0_aload_n (pc := 74) dX12_figure_74 rfl ?_
      refine V0_iconst (pc := 75) (1) dX12_figure_75 (by decide) ?_
      refine V0_iload_n (pc := 76) dX12_figure_76 rfl ?_
      refine V_callV (pc := 77) (M' := mX12_addStep) dX12_figure_77 mlX12_206 okX12_addStep rfl ha rfl rfl rfl rfl ⟨Nat.le_of_ble_eq_true rfl, Nat.le_of_ble_eq_true rfl⟩ ⟨Nat.le_refl 0, Nat.le_refl 0⟩ (Nat.le_of_ble_eq_true rfl) ?_
      intro r1 I1 J1 hh
      obtain ⟨e1, e2, e3⟩ := hh
      rw [e1, e2, e3]
      clear e1 e2 e3 r1 I1 J1
      refine V_retv (pc := 80) dX12_figure_80 rfl ?_
      exact ⟨rfl, rfl, ((m_fr.rf.up54 (by omega)).up54 (by omega)).tr m_fr_add (Nat.le_refl _), (fun q => absurd q (by decide)), fun _ => ⟨k + 1, hD.add (by omega), by omega, by omega⟩⟩
    · skip
      refine V0_aload_n (pc := 56) dX12_figure_56 rfl ?_
      refine V_callVi (pc := 57) (M' := mX12_look) dX12_figure_57 mlX12_202 okX12_look rfl hlN rfl rfl rfl rfl ⟨Nat.le_of_ble_eq_true rfl, Nat.le_of_ble_eq_true rfl⟩ ⟨Nat.le_refl 0, Nat.le_refl 0⟩ (Nat.le_of_ble_eq_true rfl) ?_
      refine V0_bipush (pc := 60) (48) dX12_figure_60 (by decide) ?_
      refine V0_bipush (pc := 62) (57) dX12_figure_62 (by decide) ?_
      refine V_callSi (pc := 64) (M' := mX12_in) dX12_figure_64 mlX12_131 okX12_in rfl c_X12_in rfl rfl ⟨Nat.le_of_ble_eq_true rfl, Nat.le_of_ble_eq_true rfl⟩ ⟨Nat.le_refl 0, Nat.le_refl 0⟩ (Nat.le_of_ble_eq_true rfl) ?_
      refine V_ifeqb (pc := 67) 74 dX12_figure_67 (by decide) (fun h67 => ?_) (fun h67 => ?_)
      · skip
        exact absurd ((hz (fun e => h53 (by rw [e]; exact nI_0))).symm.trans (show T_dg (m_T t n (a + N)) = false from h67)) (by decide)
      · skip
        refine V0_aload_n (pc := 70) dX12_figure_70 rfl ?_
        refine V_callV (pc := 71) (M' := mX12_wrong) dX12_figure_71 mlX12_199 okX12_wrong rfl (c_X12_wrong hX.2.2.2.2.1) rfl rfl rfl rfl ⟨Nat.le_of_ble_eq_true rfl, Nat.le_of_ble_eq_true rfl⟩ ⟨Nat.le_refl 0, Nat.le_refl 0⟩ (Nat.le_of_ble_eq_true rfl) ?_
        intro r1 I1 J1 hh
        obtain ⟨e1, e2, e3⟩ := hh
        rw [e1, e2, e3]
        clear e1 e2 e3 r1 I1 J1
        rw [px_up_same]
        refine V0_aload_n (pc := 74) dX12_figure_74 rfl ?_
        refine V0_iconst (pc := 75) (1) dX12_figure_75 (by decide) ?_
        refine V0_iload_n (pc := 76) dX12_figure_76 rfl ?_
        refine V_callV (pc := 77) (M' := mX12_addStep) dX12_figure_77 mlX12_206 okX12_addStep rfl ha rfl rfl rfl rfl ⟨Nat.le_of_ble_eq_true rfl, Nat.le_of_ble_eq_true rfl⟩ ⟨Nat.le_refl 0, Nat.le_refl 0⟩ (Nat.le_of_ble_eq_true rfl) ?_
        intro r1 I1 J1 hh
        obtain ⟨e1, e2, e3⟩ := hh
        rw [e1, e2, e3]
        clear e1 e2 e3 r1 I1 J1
        refine V_retv (pc := 80) dX12_figure_80 rfl ?_
        exact ⟨rfl, rfl, ((m_fr.rf.up54 (by omega)).up54 (by omega)).tr m_fr_add (Nat.le_refl _), (fun q => absurd q (by decide)), fun _ => ⟨k + 1, hD.add (by omega), by omega, by omega⟩⟩
  have h := lp_X12_figure hs hN hd he kk N 0 (by omega) hs.2.2.2.1
  rw [m_here hs] at h
  refine Ct.of plX12_figure (Nat.le_of_ble_eq_true rfl) [.ref 54, .null, .null] rfl ?_
  refine V0_iconst (pc := 0) (0) dX12_figure_0 (by decide) ?_
  refine V0_istore_1 (pc := 1) dX12_figure_1 (by decide) rfl ?_
  refine V0_iconst (pc := 2) (0) dX12_figure_2 (by decide) ?_
  refine V0_istore_2 (pc := 3) dX12_figure_3 (by decide) rfl ?_
  exact h

