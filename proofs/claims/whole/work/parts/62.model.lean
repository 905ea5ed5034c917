/-! the Model: its small methods -/
theorem c_X12_in {l : Launch} {I : px_I} {J : px_J} {v a b : Int32} : CtI l mX12_in 0 [.int v, .int a, .int b] I J (b2 (s_within v a b)) := by
  refine Ct.of plX12_in (Nat.le_of_ble_eq_true rfl) [.int v, .int a, .int b] rfl ?_
  refine V0_iload_n (pc := 0) dX12_in_0 rfl ?_
  refine V0_iload_n (pc := 1) dX12_in_1 rfl ?_
  refine V0_icmp_lt (pc := 2) 14 dX12_in_2 (by decide) (fun h2 => ?_) (fun h2 => ?_)
  · skip
    refine V0_iconst (pc := 14) (0) dX12_in_14 (by decide) ?_
    refine V_retz (pc := 15) _ dX12_in_15 rfl (Or.inl rfl) ?_
    refine px_li ?_
    simp [s_within, b2, *]
  · skip
    refine V0_iload_n (pc := 5) dX12_in_5 rfl ?_
    refine V0_iload_n (pc := 6) dX12_in_6 rfl ?_
    refine V0_icmp_gt (pc := 7) 14 dX12_in_7 (by decide) (fun h7 => ?_) (fun h7 => ?_)
    · skip
      refine V0_iconst (pc := 14) (0) dX12_in_14 (by decide) ?_
      refine V_retz (pc := 15) _ dX12_in_15 rfl (Or.inl rfl) ?_
      refine px_li ?_
      simp [s_within, b2, *]
    · skip
      refine V0_iconst (pc := 10) (1) dX12_in_10 (by decide) ?_
      refine V0_goto (pc := 11) 15 dX12_in_11 (by decide) ?_
      refine V_retz (pc := 15) _ dX12_in_15 rfl (Or.inr rfl) ?_
      refine px_li ?_
      simp [s_within, b2, *]
def m_has (s k : Int32) : Bool := decide (((s >>> (k &&& 31)) &&& 1) = 1)
theorem c_X12_has {l : Launch} {I : px_I} {J : px_J} {s k : Int32} : CtI l mX12_has 0 [.int s, .int k] I J (b2 (m_has s k)) := by
  refine Ct.of plX12_has (Nat.le_of_ble_eq_true rfl) [.int s, .int k] rfl ?_
  refine V0_iload_n (pc := 0) dX12_has_0 rfl ?_
  refine V0_iload_n (pc := 1) dX12_has_1 rfl ?_
  refine V0_ishr (pc := 2) dX12_has_2 ?_
  refine V0_iconst (pc := 3) (1) dX12_has_3 (by decide) ?_
  refine V0_iand (pc := 4) dX12_has_4 ?_
  refine V0_iconst (pc := 5) (1) dX12_has_5 (by decide) ?_
  refine V0_icmp_ne (pc := 6) 13 dX12_has_6 (by decide) (fun h6 => ?_) (fun h6 => ?_)
  · skip
    refine V0_iconst (pc := 13) (0) dX12_has_13 (by decide) ?_
    refine V_retz (pc := 14) _ dX12_has_14 rfl (Or.inl rfl) ?_
    refine px_li ?_
    simp [m_has, b2, *]
  · skip
    refine V0_iconst (pc := 9) (1) dX12_has_9 (by decide) ?_
    refine V0_goto (pc := 10) 14 dX12_has_10 (by decide) ?_
    refine V_retz (pc := 14) _ dX12_has_14 rfl (Or.inr rfl) ?_
    refine px_li ?_
    simp [m_has, b2, *]
def m_one (I : px_I) (x : Int32) : Bool := s_within x 0 (I 54 1 - 1)
def m_joy (I : px_I) (x : Int32) : Bool := s_within x 0 (I 54 3 - 1)
theorem c_X12_isOne {l : Launch} {I : px_I} {J : px_J} {x : Int32} : CtI l mX12_isOne 1 [.ref 54, .int x] I J (b2 (m_one I x)) := by
  refine Ct.of plX12_isOne (Nat.le_of_ble_eq_true rfl) [.ref 54, .int x] rfl ?_
  refine V0_iload_n (pc := 0) dX12_isOne_0 rfl ?_
  refine V0_iconst (pc := 1) (0) dX12_isOne_1 (by decide) ?_
  refine V0_aload_n (pc := 2) dX12_isOne_2 rfl ?_
  refine V_geti (pc := 3) dX12_isOne_3 flX12_128 rfl rfl ?_
  refine V0_iconst (pc := 6) (1) dX12_isOne_6 (by decide) ?_
  refine V0_isub (pc := 7) dX12_isOne_7 ?_
  refine V_callSi (pc := 8) (M' := mX12_in) dX12_isOne_8 mlX12_131 okX12_in rfl c_X12_in rfl rfl ⟨Nat.le_of_ble_eq_true rfl, Nat.le_of_ble_eq_true rfl⟩ ⟨Nat.le_refl 0, Nat.le_refl 0⟩ (Nat.le_of_ble_eq_true rfl) ?_
  refine V_retz (pc := 11) _ dX12_isOne_11 rfl (b2_01 _) ?_
  refine px_li ?_
  rfl
theorem c_X12_isJoy {l : Launch} {I : px_I} {J : px_J} {x : Int32} : CtI l mX12_isJoy 1 [.ref 54, .int x] I J (b2 (m_joy I x)) := by
  refine Ct.of plX12_isJoy (Nat.le_of_ble_eq_true rfl) [.ref 54, .int x] rfl ?_
  refine V0_iload_n (pc := 0) dX12_isJoy_0 rfl ?_
  refine V0_iconst (pc := 1) (0) dX12_isJoy_1 (by decide) ?_
  refine V0_aload_n (pc := 2) dX12_isJoy_2 rfl ?_
  refine V_geti (pc := 3) dX12_isJoy_3 flX12_135 rfl rfl ?_
  refine V0_iconst (pc := 6) (1) dX12_isJoy_6 (by decide) ?_
  refine V0_isub (pc := 7) dX12_isJoy_7 ?_
  refine V_callSi (pc := 8) (M' := mX12_in) dX12_isJoy_8 mlX12_131 okX12_in rfl c_X12_in rfl rfl ⟨Nat.le_of_ble_eq_true rfl, Nat.le_of_ble_eq_true rfl⟩ ⟨Nat.le_refl 0, Nat.le_refl 0⟩ (Nat.le_of_ble_eq_true rfl) ?_
  refine V_retz (pc := 11) _ dX12_isJoy_11 rfl (b2_01 _) ?_
  refine px_li ?_
  rfl
theorem c_X12_isHouse {l : Launch} {I : px_I} {J : px_J} {x : Int32} : CtI l mX12_isHouse 1 [.int x] I J (b2 (s_within x 0 11)) := by
  refine Ct.of plX12_isHouse (Nat.le_of_ble_eq_true rfl) [.int x] rfl ?_
  refine V0_iload_n (pc := 0) dX12_isHouse_0 rfl ?_
  refine V0_iconst (pc := 1) (0) dX12_isHouse_1 (by decide) ?_
  refine V0_bipush (pc := 2) (11) dX12_isHouse_2 (by decide) ?_
  refine V_callSi (pc := 4) (M' := mX12_in) dX12_isHouse_4 mlX12_131 okX12_in rfl c_X12_in rfl rfl ⟨Nat.le_of_ble_eq_true rfl, Nat.le_of_ble_eq_true rfl⟩ ⟨Nat.le_refl 0, Nat.le_refl 0⟩ (Nat.le_of_ble_eq_true rfl) ?_
  refine V_retz (pc := 7) _ dX12_isHouse_7 rfl (b2_01 _) ?_
  refine px_li ?_
  rfl
theorem c_X12_isSide {l : Launch} {I : px_I} {J : px_J} {x : Int32} : CtI l mX12_isSide 1 [.int x] I J (b2 (s_within x 0 1)) := by
  refine Ct.of plX12_isSide (Nat.le_of_ble_eq_true rfl) [.int x] rfl ?_
  refine V0_iload_n (pc := 0) dX12_isSide_0 rfl ?_
  refine V0_iconst (pc := 1) (0) dX12_isSide_1 (by decide) ?_
  refine V0_iconst (pc := 2) (1) dX12_isSide_2 (by decide) ?_
  refine V_callSi (pc := 3) (M' := mX12_in) dX12_isSide_3 mlX12_131 okX12_in rfl c_X12_in rfl rfl ⟨Nat.le_of_ble_eq_true rfl, Nat.le_of_ble_eq_true rfl⟩ ⟨Nat.le_refl 0, Nat.le_refl 0⟩ (Nat.le_of_ble_eq_true rfl) ?_
  refine V_retz (pc := 6) _ dX12_isSide_6 rfl (b2_01 _) ?_
  refine px_li ?_
  rfl

