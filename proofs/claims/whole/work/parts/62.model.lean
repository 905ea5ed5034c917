/-! the Model: its small methods -/
theorem c_X12_in {l : Launch} {I : px_I} {J : px_J} {v a b : Int32} : CtI l mX12_in 0 [.int v, .int a, .int b] I J (b2 (s_within v a b)) := by
  refine Ct.of plX12_in (Nat.le_of_ble_eq_true rfl) [.int v, .int a, .int b] rfl ?_
  refine V0_iload_n (pc := 0) dX12_in_0 rfl ?_
  refine V0_iload_n (pc := 1) dX12_in_1 rfl ?_
  refine V0_icmp_lt (pc := 2) 14 dX12_in_2 (by decide) (fun h2 => ?_) (fun h2 => ?_)
  · skip
    refine V0_iconst (pc := 14) (0) dX12_in_14 (by decide) ?_
    refine V_retz (pc := 15) _ dX12_in_15 rfl (Or.inl rfl) ?_
    refine px_li ?_
    simp [s_within, b2, *]
  · skip
    refine V0_iload_n (pc := 5) dX12_in_5 rfl ?_
    refine V0_iload_n (pc := 6) dX12_in_6 rfl ?_
    refine V0_icmp_gt (pc := 7) 14 dX12_in_7 (by decide) (fun h7 => ?_) (fun h7 => ?_)
    · skip
      refine V0_iconst (pc := 14) (0) dX12_in_14 (by decide) ?_
      refine V_retz (pc := 15) _ dX12_in_15 rfl (Or.inl rfl) ?_
      refine px_li ?_
      simp [s_within, b2, *]
    · skip
      refine V0_iconst (pc := 10) (1) dX12_in_10 (by decide) ?_
      refine V0_goto (pc := 11) 15 dX12_in_11 (by decide) ?_
      refine V_retz (pc := 15) _ dX12_in_15 rfl (Or.inr rfl) ?_
      refine px_li ?_
      simp [s_within, b2, *]
def m_has (s k : Int32) : Bool := decide (((s >>> (k &&& 31)) &&& 1) = 1)
theorem c_X12_has {l : Launch} {I : px_I} {J : px_J} {s k : Int32} : CtI l mX12_has 0 [.int s, .int k] I J (b2 (m_has s k)) := by
  refine Ct.of plX12_has (Nat.le_of_ble_eq_true rfl) [.int s, .int k] rfl ?_
  refine V0_iload_n (pc := 0) dX12_has_0 rfl ?_
  refine V0_iload_n (pc := 1) dX12_has_1 rfl ?_
  refine V0_ishr (pc := 2) dX12_has_2 ?_
  refine V0_iconst (pc := 3) (1) dX12_has_3 (by decide) ?_
  refine V0_iand (pc := 4) dX12_has_4 ?_
  refine V0_iconst (pc := 5) (1) dX12_has_5 (by decide) ?_
  refine V0_icmp_ne (pc := 6) 13 dX12_has_6 (by decide) (fun h6 => ?_) (fun h6 => ?_)
  · skip
    refine V0_iconst (pc := 13) (0) dX12_has_13 (by decide) ?_
    refine V_retz (pc := 14) _ dX12_has_14 rfl (Or.inl rfl) ?_
    refine px_li ?_
    simp [m_has, b2, *]
  · skip
    refine V0_iconst (pc := 9) (1) dX12_has_9 (by decide) ?_
    refine V0_goto (pc := 10) 14 dX12_has_10 (by decide) ?_
    refine V_retz (pc := 14) _ dX12_has_14 rfl (Or.inr rfl) ?_
    refine px_li ?_
    simp [m_has, b2, *]
def m_one (I : px_I) (x : Int32) : Bool := s_within x 0 (I 54 1 - 1)
def m_joy (I : px_I) (x : Int32) : Bool := s_within x 0 (I 54 3 - 1)
theorem c_X12_isOne {l : Launch} {I : px_I} {J : px_J} {x : Int32} : CtI l mX12_isOne 1 [.ref 54, .int x] I J (b2 (m_one I x)) := by
  refine Ct.of plX12_isOne (Nat.le_of_ble_eq_true rfl) [.ref 54, .int x] rfl ?_
  refine V0_iload_n (pc := 0) dX12_isOne_0 rfl ?_
  refine V0_iconst (pc := 1) (0) dX12_isOne_1 (by decide) ?_
  refine V0_aload_n (pc := 2) dX12_isOne_2 rfl ?_
  refine V_geti (pc := 3) dX12_isOne_3 flX12_128 rfl rfl ?_
  refine V0_iconst (pc := 6) (1) dX12_isOne_6 (by decide) ?_
  refine V0_isub (pc := 7) dX12_isOne_7 ?_
  refine V_callSi (pc := 8) (M' := mX12_in) dX12_isOne_8 mlX12_131 okX12_in rfl c_X12_in rfl rfl ⟨Nat.le_of_ble_eq_true rfl, Nat.le_of_ble_eq_true rfl⟩ ⟨Nat.le_refl 0, Nat.le_refl 0⟩ (Nat.le_of_ble_eq_true rfl) ?_
  refine V_retz (pc := 11) _ dX12_isOne_11 rfl (b2_01 _) ?_
  refine px_li ?_
  rfl
theorem c_X12_isJoy {l : Launch} {I : px_I} {J : px_J} {x : Int32} : CtI l mX12_isJoy 1 [.ref 54, .int x] I J (b2 (m_joy I x)) := by
  refine Ct.of plX12_isJoy (Nat.le_of_ble_eq_true rfl) [.ref 54, .int x] rfl ?_
  refine V0_iload_n (pc := 0) dX12_isJoy_0 rfl ?_
  refine V0_iconst (pc := 1) (0) dX12_isJoy_1 (by decide) ?_
  refine V0_aload_n (pc := 2) dX12_isJoy_2 rfl ?_
  refine V_geti (pc := 3) dX12_isJoy_3 flX12_135 rfl rfl ?_
  refine V0_iconst (pc := 6) (1) dX12_isJoy_6 (by decide) ?_
  refine V0_isub (pc := 7) dX12_isJoy_7 ?_
  refine V_callSi (pc := 8) (M' := mX12_in) dX12_isJoy_8 mlX12_131 okX12_in rfl c_X12_in rfl rfl ⟨Nat.le_of_ble_eq_true rfl, Nat.le_of_ble_eq_true rfl⟩ ⟨Nat.le_refl 0, Nat.le_refl 0⟩ (Nat.le_of_ble_eq_true rfl) ?_
  refine V_retz (pc := 11) _ dX12_isJoy_11 rfl (b2_01 _) ?_
  refine px_li ?_
  rfl
theorem c_X12_isHouse {l : Launch} {I : px_I} {J : px_J} {x : Int32} : CtI l mX12_isHouse 1 [.int x] I J (b2 (s_within x 0 11)) := by
  refine Ct.of plX12_isHouse (Nat.le_of_ble_eq_true rfl) [.int x] rfl ?_
  refine V0_iload_n (pc := 0) dX12_isHouse_0 rfl ?_
  refine V0_iconst (pc := 1) (0) dX12_isHouse_1 (by decide) ?_
  refine V0_bipush (pc := 2) (11) dX12_isHouse_2 (by decide) ?_
  refine V_callSi (pc := 4) (M' := mX12_in) dX12_isHouse_4 mlX12_131 okX12_in rfl c_X12_in rfl rfl ⟨Nat.le_of_ble_eq_true rfl, Nat.le_of_ble_eq_true rfl⟩ ⟨Nat.le_refl 0, Nat.le_refl 0⟩ (Nat.le_of_ble_eq_true rfl) ?_
  refine V_retz (pc := 7) _ dX12_isHouse_7 rfl (b2_01 _) ?_
  refine px_li ?_
  rfl
theorem c_X12_isSide {l : Launch} {I : px_I} {J : px_J} {x : Int32} : CtI l mX12_isSide 1 [.int x] I J (b2 (s_within x 0 1)) := by
  refine Ct.of plX12_isSide (Nat.le_of_ble_eq_true rfl) [.int x] rfl ?_
  refine V0_iload_n (pc := 0) dX12_isSide_0 rfl ?_
  refine V0_iconst (pc := 1) (0) dX12_isSide_1 (by decide) ?_
  refine V0_iconst (pc := 2) (1) dX12_isSide_2 (by decide) ?_
  refine V_callSi (pc := 3) (M' := mX12_in) dX12_isSide_3 mlX12_131 okX12_in rfl c_X12_in rfl rfl ⟨Nat.le_of_ble_eq_true rfl, Nat.le_of_ble_eq_true rfl⟩ ⟨Nat.le_refl 0, Nat.le_refl 0⟩ (Nat.le_of_ble_eq_true rfl) ?_
  refine V_retz (pc := 6) _ dX12_isSide_6 rfl (b2_01 _) ?_
  refine px_li ?_
  rfl
theorem c_X12_isBody {l : Launch} {I : px_I} {J : px_J} {x : Int32} : CtI l mX12_isBody 1 [.ref 54, .int x] I J (b2 (s_within x 0 (I 54 51 - 1))) := by
  refine Ct.of plX12_isBody (Nat.le_of_ble_eq_true rfl) [.ref 54, .int x] rfl ?_
  refine V0_iload_n (pc := 0) dX12_isBody_0 rfl ?_
  refine V0_iconst (pc := 1) (0) dX12_isBody_1 (by decide) ?_
  refine V0_aload_n (pc := 2) dX12_isBody_2 rfl ?_
  refine V_geti (pc := 3) dX12_isBody_3 flX12_383 rfl rfl ?_
  refine V0_iconst (pc := 6) (1) dX12_isBody_6 (by decide) ?_
  refine V0_isub (pc := 7) dX12_isBody_7 ?_
  refine V_callSi (pc := 8) (M' := mX12_in) dX12_isBody_8 mlX12_131 okX12_in rfl c_X12_in rfl rfl ⟨Nat.le_of_ble_eq_true rfl, Nat.le_of_ble_eq_true rfl⟩ ⟨Nat.le_refl 0, Nat.le_refl 0⟩ (Nat.le_of_ble_eq_true rfl) ?_
  refine V_retz (pc := 11) _ dX12_isBody_11 rfl (b2_01 _) ?_
  refine px_li ?_
  rfl
theorem c_X12_isShelf {l : Launch} {I : px_I} {J : px_J} {x : Int32} : CtI l mX12_isShelf 1 [.int x] I J (b2 (s_within x 0 5)) := by
  refine Ct.of plX12_isShelf (Nat.le_of_ble_eq_true rfl) [.int x] rfl ?_
  refine V0_iload_n (pc := 0) dX12_isShelf_0 rfl ?_
  refine V0_iconst (pc := 1) (0) dX12_isShelf_1 (by decide) ?_
  refine V0_iconst (pc := 2) (5) dX12_isShelf_2 (by decide) ?_
  refine V_callSi (pc := 3) (M' := mX12_in) dX12_isShelf_3 mlX12_131 okX12_in rfl c_X12_in rfl rfl ⟨Nat.le_of_ble_eq_true rfl, Nat.le_of_ble_eq_true rfl⟩ ⟨Nat.le_refl 0, Nat.le_refl 0⟩ (Nat.le_of_ble_eq_true rfl) ?_
  refine V_retz (pc := 6) _ dX12_isShelf_6 rfl (b2_01 _) ?_
  refine px_li ?_
  rfl
theorem c_X12_person {l : Launch} {I : px_I} {J : px_J} {h : Int32} {m : Nat} (hm : I 54 1 = nI m) (hm7 : m ≤ 7) : Ct l mX12_person 2 [.ref 54, .int h] I J (px_qi (if s_within h 0 11 = true then (if m < 7 then nI m else -3) else -1) (if s_within h 0 11 = true then (if m < 7 then px_up (px_up I 55 m h) 54 1 (nI (m + 1)) else I) else I) J) := by
  refine Ct.of plX12_person (Nat.le_of_ble_eq_true rfl) [.ref 54, .int h] rfl ?_
  refine V0_iload_n (pc := 0) dX12_person_0 rfl ?_
  refine V_callSi (pc := 1) (M' := mX12_isHouse) dX12_person_1 mlX12_138 okX12_isHouse rfl c_X12_isHouse rfl rfl ⟨Nat.le_of_ble_eq_true rfl, Nat.le_of_ble_eq_true rfl⟩ ⟨Nat.le_refl 0, Nat.le_refl 0⟩ (Nat.le_of_ble_eq_true rfl) ?_
  refine V_ifneb (pc := 4) 9 dX12_person_4 (by decide) (fun h4 => ?_) (fun h4 => ?_)
  · skip
    refine V0_aload_n (pc := 9) dX12_person_9 rfl ?_
    refine V_geti (pc := 10) dX12_person_10 flX12_128 rfl rfl ?_
    refine V0_bipush (pc := 13) (7) dX12_person_13 (by decide) ?_
    rw [hm]
    refine V0_icmp_ne (pc := 15) 21 dX12_person_15 (by decide) (fun h15 => ?_) (fun h15 => ?_)
    · skip
      have q : m < 7 := Nat.lt_of_le_of_ne hm7 (fun e => h15 (by rw [e]; rfl))
      refine V0_aload_n (pc := 21) dX12_person_21 rfl ?_
      refine V_getr (pc := 22) dX12_person_22 flX12_7 rfl rfl ?_
      refine V0_aload_n (pc := 25) dX12_person_25 rfl ?_
      refine V_geti (pc := 26) dX12_person_26 flX12_128 rfl rfl ?_
      refine V0_iload_n (pc := 29) dX12_person_29 rfl ?_
      refine V_iast (pc := 30) m dX12_person_30 rfl hm (by omega) ?_
      refine V0_aload_n (pc := 31) dX12_person_31 rfl ?_
      refine V0_dup (pc := 32) dX12_person_32 rfl ?_
      refine V_geti (pc := 33) dX12_person_33 flX12_128 rfl rfl ?_
      refine V0_iconst (pc := 36) (1) dX12_person_36 (by decide) ?_
      refine V0_iadd (pc := 37) dX12_person_37 ?_
      rw [show px_up I 55 m h 54 1 = nI m from hm, nI_1]
      refine V_puti (pc := 38) dX12_person_38 flX12_128 rfl rfl ?_
      refine V0_aload_n (pc := 41) dX12_person_41 rfl ?_
      refine V_geti (pc := 42) dX12_person_42 flX12_128 rfl rfl ?_
      refine V0_iconst (pc := 45) (1) dX12_person_45 (by decide) ?_
      refine V0_isub (pc := 46) dX12_person_46 ?_
      refine V_reti (pc := 47) _ dX12_person_47 rfl ?_
      exact ⟨by rw [if_pos h4, if_pos q, px_up_same, show nI (m + 1) - 1 = nI m from nI_pred _], by rw [if_pos h4, if_pos q], rfl⟩
    · skip
      have q : ¬ m < 7 := fun q => absurd ((qI_inj (b := 7) (by omega) (by omega)).mp h15) (by omega)
      refine V0_bipush (pc := 18) (-3) dX12_person_18 (by decide) ?_
      refine V_reti (pc := 20) _ dX12_person_20 rfl ?_
      exact ⟨by rw [if_pos h4, if_neg q] <;> rfl, by rw [if_pos h4, if_neg q], rfl⟩
  · skip
    refine V0_iconst (pc := 7) (-1) dX12_person_7 (by decide) ?_
    refine V_reti (pc := 8) _ dX12_person_8 rfl ?_
    exact ⟨by rw [if_neg (by rw [show s_within h 0 11 = false from h4]; decide)] <;> rfl, by rw [if_neg (by rw [show s_within h 0 11 = false from h4]; decide)], rfl⟩

