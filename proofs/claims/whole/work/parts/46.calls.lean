/-! the calls -/
theorem c_X11_person {l : Launch} {I : px_I} {J : px_J} {h : Int32} {m : Nat} (hm : I 1 6 = nI m) (hm7 : m ≤ 7) : Ct l mX11_person 1 [.ref 0, .int h] I J (px_qi (if s_within h 0 11 = true then (if m < 7 then nI m else -3) else -1) (if s_within h 0 11 = true then (if m < 7 then px_up (px_up I 9 m h) 1 6 (nI (m + 1)) else I) else I) J) := by
  refine Ct.of plX11_person (Nat.le_of_ble_eq_true rfl) [.ref 0, .int h] rfl ?_
  refine V0_iload_n (pc := 0) dX11_person_0 rfl ?_
  refine V0_iconst (pc := 1) (0) dX11_person_1 (by decide) ?_
  refine V0_bipush (pc := 2) (11) dX11_person_2 (by decide) ?_
  refine V_callSi (pc := 4) (M' := mX11_isWithin) dX11_person_4 mlX11_99 okX11_isWithin rfl c_X11_isWithin rfl rfl ⟨Nat.le_of_ble_eq_true rfl, Nat.le_of_ble_eq_true rfl⟩ ⟨Nat.le_refl 0, Nat.le_refl 0⟩ (Nat.le_of_ble_eq_true rfl) ?_
  refine V_ifneb (pc := 7) 12 dX11_person_7 (by decide) (fun h7 => ?_) (fun h7 => ?_)
  · skip
    refine V0_aload_n (pc := 12) dX11_person_12 rfl ?_
    refine V_getr (pc := 13) dX11_person_13 flX11_26 rfl rfl ?_
    refine V_geti (pc := 16) dX11_person_16 flX11_103 rfl rfl ?_
    refine V0_bipush (pc := 19) (7) dX11_person_19 (by decide) ?_
    rw [hm]
    refine V0_icmp_lt (pc := 21) 27 dX11_person_21 (by decide) (fun h21 => ?_) (fun h21 => ?_)
    · skip
      have q : m < 7 := px_lt (b := 7) h21 (by omega) (by omega)
      refine V0_aload_n (pc := 27) dX11_person_27 rfl ?_
      refine V_getr (pc := 28) dX11_person_28 flX11_32 rfl rfl ?_
      refine V_getr (pc := 31) dX11_person_31 flX11_107 rfl rfl ?_
      refine V0_aload_n (pc := 34) dX11_person_34 rfl ?_
      refine V_getr (pc := 35) dX11_person_35 flX11_26 rfl rfl ?_
      refine V_geti (pc := 38) dX11_person_38 flX11_103 rfl rfl ?_
      refine V0_iload_n (pc := 41) dX11_person_41 rfl ?_
      refine V_iast (pc := 42) m dX11_person_42 rfl hm (by omega) ?_
      refine V0_aload_n (pc := 43) dX11_person_43 rfl ?_
      refine V_getr (pc := 44) dX11_person_44 flX11_26 rfl rfl ?_
      refine V0_dup (pc := 47) dX11_person_47 rfl ?_
      refine V_geti (pc := 48) dX11_person_48 flX11_103 rfl rfl ?_
      refine V0_dup_x1 (pc := 51) dX11_person_51 rfl rfl ?_
      refine V0_iconst (pc := 52) (1) dX11_person_52 (by decide) ?_
      refine V0_iadd (pc := 53) dX11_person_53 ?_
      refine V_puti (pc := 54) dX11_person_54 flX11_103 rfl rfl ?_
      rw [show px_up I 9 m h 1 6 = nI m from hm, nI_1]
      refine V_reti (pc := 57) _ dX11_person_57 rfl ?_
      exact ⟨by rw [if_pos h7, if_pos q] <;> rfl, by rw [if_pos h7, if_pos q], rfl⟩
    · skip
      have q : ¬ m < 7 := fun q => h21 ((qI_lt (b := 7) (by omega) (by omega)).mpr q)
      refine V0_bipush (pc := 24) (-3) dX11_person_24 (by decide) ?_
      refine V_reti (pc := 26) _ dX11_person_26 rfl ?_
      exact ⟨by rw [if_pos h7, if_neg q] <;> rfl, by rw [if_pos h7, if_neg q], rfl⟩
  · skip
    refine V0_iconst (pc := 10) (-1) dX11_person_10 (by decide) ?_
    refine V_reti (pc := 11) _ dX11_person_11 rfl ?_
    exact ⟨by rw [if_neg (by rw [h7]; decide)] <;> rfl, by rw [if_neg (by rw [h7]; decide)], rfl⟩
theorem c_X11_joy {l : Launch} {I : px_I} {J : px_J} {o d : Int32} {n : Nat} (hn : I 1 7 = nI n) (hn10 : n ≤ 10) : Ct l mX11_joy 1 [.ref 0, .int o, .int d] I J (px_qi (if g_isP I o = true ∧ s_within d 0 99 = true then (if n < 10 then nI n else -3) else -1) (if g_isP I o = true ∧ s_within d 0 99 = true then (if n < 10 then g_addJoy I n o d else I) else I) J) := by
  refine Ct.of plX11_joy (Nat.le_of_ble_eq_true rfl) [.ref 0, .int o, .int d] rfl ?_
  refine V0_aload_n (pc := 0) dX11_joy_0 rfl ?_
  refine V_getr (pc := 1) dX11_joy_1 flX11_26 rfl rfl ?_
  refine V0_iload_n (pc := 4) dX11_joy_4 rfl ?_
  refine V_callVi (pc := 5) (M' := mX7_isPerson) dX11_joy_5 mlX11_111 okX7_isPerson rfl c_X7_isPerson rfl rfl rfl rfl ⟨Nat.le_of_ble_eq_true rfl, Nat.le_of_ble_eq_true rfl⟩ ⟨Nat.le_refl 0, Nat.le_refl 0⟩ (Nat.le_of_ble_eq_true rfl) ?_
  refine V_ifeqb (pc := 8) 21 dX11_joy_8 (by decide) (fun h8 => ?_) (fun h8 => ?_)
  · skip
    have z : ¬ (g_isP I o = true ∧ s_within d 0 99 = true) := by first | exact (fun q => absurd (q.1.symm.trans (show g_isP I o = false from h8)) (by decide)) | exact (fun q => absurd (q.2.symm.trans (show s_within d 0 99 = false from h18)) (by decide))
    refine V0_iconst (pc := 21) (-1) dX11_joy_21 (by decide) ?_
    refine V_reti (pc := 22) _ dX11_joy_22 rfl ?_
    exact ⟨by rw [if_neg z] <;> rfl, by rw [if_neg z], rfl⟩
  · skip
    refine V0_iload_n (pc := 11) dX11_joy_11 rfl ?_
    refine V0_iconst (pc := 12) (0) dX11_joy_12 (by decide) ?_
    refine V0_bipush (pc := 13) (99) dX11_joy_13 (by decide) ?_
    refine V_callSi (pc := 15) (M' := mX11_isWithin) dX11_joy_15 mlX11_99 okX11_isWithin rfl c_X11_isWithin rfl rfl ⟨Nat.le_of_ble_eq_true rfl, Nat.le_of_ble_eq_true rfl⟩ ⟨Nat.le_refl 0, Nat.le_refl 0⟩ (Nat.le_of_ble_eq_true rfl) ?_
    refine V_ifneb (pc := 18) 23 dX11_joy_18 (by decide) (fun h18 => ?_) (fun h18 => ?_)
    · skip
      have z : g_isP I o = true ∧ s_within d 0 99 = true := ⟨h8, h18⟩
      refine V0_aload_n (pc := 23) dX11_joy_23 rfl ?_
      refine V_getr (pc := 24) dX11_joy_24 flX11_26 rfl rfl ?_
      refine V_geti (pc := 27) dX11_joy_27 flX11_115 rfl rfl ?_
      refine V0_bipush (pc := 30) (10) dX11_joy_30 (by decide) ?_
      rw [hn]
      refine V0_icmp_lt (pc := 32) 38 dX11_joy_32 (by decide) (fun h32 => ?_) (fun h32 => ?_)
      · skip
        have q : n < 10 := px_lt (b := 10) h32 (by omega) (by omega)
        refine V0_aload_n (pc := 38) dX11_joy_38 rfl ?_
        refine V_getr (pc := 39) dX11_joy_39 flX11_26 rfl rfl ?_
        refine V0_iload_n (pc := 42) dX11_joy_42 rfl ?_
        refine V0_iload_n (pc := 43) dX11_joy_43 rfl ?_
        refine V_callV (pc := 44) (M' := mX7_addJoy) dX11_joy_44 mlX11_118 okX7_addJoy rfl (c_X7_addJoy hn hn10) rfl rfl rfl rfl ⟨Nat.le_of_ble_eq_true rfl, Nat.le_of_ble_eq_true rfl⟩ ⟨Nat.le_refl 0, Nat.le_refl 0⟩ (Nat.le_of_ble_eq_true rfl) ?_
        intro r1 I1 J1 hh
        obtain ⟨e1, e2, e3⟩ := hh
        rw [e1, e2, e3]
        clear e1 e2 e3 r1 I1 J1
        refine V_reti (pc := 47) _ dX11_joy_47 rfl ?_
        exact ⟨by rw [if_pos z, if_pos q] <;> rfl, by rw [if_pos z, if_pos q], rfl⟩
      · skip
        have q : ¬ n < 10 := fun q => h32 ((qI_lt (b := 10) (by omega) (by omega)).mpr q)
        refine V0_bipush (pc := 35) (-3) dX11_joy_35 (by decide) ?_
        refine V_reti (pc := 37) _ dX11_joy_37 rfl ?_
        exact ⟨by rw [if_pos z, if_neg q] <;> rfl, by rw [if_pos z, if_neg q], rfl⟩
    · skip
      have z : ¬ (g_isP I o = true ∧ s_within d 0 99 = true) := by first | exact (fun q => absurd (q.1.symm.trans (show g_isP I o = false from h8)) (by decide)) | exact (fun q => absurd (q.2.symm.trans (show s_within d 0 99 = false from h18)) (by decide))
      refine V0_iconst (pc := 21) (-1) dX11_joy_21 (by decide) ?_
      refine V_reti (pc := 22) _ dX11_joy_22 rfl ?_
      exact ⟨by rw [if_neg z] <;> rfl, by rw [if_neg z], rfl⟩
def g_mend (I : px_I) (d : Nat) (x w v : Int32) : px_I := if g_there I x w = true ∧ s_mayBe w v = true then (if g_read I x w = v then I else g_write (g_add I d x w (g_read I x w) v) x w v) else I
theorem c_X11_mend {l : Launch} {I : px_I} {J : px_J} {x w v : Int32} {d : Nat} (hd : I 28 5 = nI d) (hd40 : d ≤ 40) : Ct l mX11_mend 3 [.ref 0, .int x, .int w, .int v] I J (px_qi (if g_there I x w = true ∧ s_mayBe w v = true then g_read I x w else -1) (g_mend I d x w v) J) := by
  refine Ct.of plX11_mend (Nat.le_of_ble_eq_true rfl) [.ref 0, .int x, .int w, .int v, .null] rfl ?_
  refine V0_aload_n (pc := 0) dX11_mend_0 rfl ?_
  refine V_getr (pc := 1) dX11_mend_1 flX11_39 rfl rfl ?_
  refine V0_iload_n (pc := 4) dX11_mend_4 rfl ?_
  refine V0_iload_n (pc := 5) dX11_mend_5 rfl ?_
  refine V_callVi (pc := 6) (M' := mX4_isThere) dX11_mend_6 mlX11_149 okX4_isThere rfl c_X4_isThere rfl rfl rfl rfl ⟨Nat.le_of_ble_eq_true rfl, Nat.le_of_ble_eq_true rfl⟩ ⟨Nat.le_refl 0, Nat.le_refl 0⟩ (Nat.le_of_ble_eq_true rfl) ?_
  refine V_ifeqb (pc := 9) 20 dX11_mend_9 (by decide) (fun h9 => ?_) (fun h9 => ?_)
  · skip
    have z : ¬ (g_there I x w = true ∧ s_mayBe w v = true) := by first | exact (fun q => absurd (q.1.symm.trans (show g_there I x w = false from h9)) (by decide)) | exact (fun q => absurd (q.2.symm.trans (show s_mayBe w v = false from h17)) (by decide))
    refine V0_iconst (pc := 20) (-1) dX11_mend_20 (by decide) ?_
    refine V_reti (pc := 21) _ dX11_mend_21 rfl ?_
    exact ⟨by rw [if_neg z] <;> rfl, by rw [g_mend, if_neg z], rfl⟩
  · skip
    refine V0_iload_n (pc := 12) dX11_mend_12 rfl ?_
    refine V0_iload_n (pc := 13) dX11_mend_13 rfl ?_
    refine V_callSi (pc := 14) (M' := mX4_mayBe) dX11_mend_14 mlX11_137 okX4_mayBe rfl c_X4_mayBe rfl rfl ⟨Nat.le_of_ble_eq_true rfl, Nat.le_of_ble_eq_true rfl⟩ ⟨Nat.le_refl 0, Nat.le_refl 0⟩ (Nat.le_of_ble_eq_true rfl) ?_
    refine V_ifneb (pc := 17) 22 dX11_mend_17 (by decide) (fun h17 => ?_) (fun h17 => ?_)
    · skip
      have z : g_there I x w = true ∧ s_mayBe w v = true := ⟨h9, h17⟩
      refine V0_aload_n (pc := 22) dX11_mend_22 rfl ?_
      refine V_getr (pc := 23) dX11_mend_23 flX11_39 rfl rfl ?_
      refine V0_iload_n (pc := 26) dX11_mend_26 rfl ?_
      refine V0_iload_n (pc := 27) dX11_mend_27 rfl ?_
      refine V_callVi (pc := 28) (M' := mX4_read) dX11_mend_28 mlX11_152 okX4_read rfl c_X4_read rfl rfl rfl rfl ⟨Nat.le_of_ble_eq_true rfl, Nat.le_of_ble_eq_true rfl⟩ ⟨Nat.le_refl 0, Nat.le_refl 0⟩ (Nat.le_of_ble_eq_true rfl) ?_
      refine V0_istore_4 (pc := 31) dX11_mend_31 (by decide) rfl ?_
      refine V0_iload (pc := 33) dX11_mend_33 rfl ?_
      refine V0_iload_n (pc := 35) dX11_mend_35 rfl ?_
      refine V0_icmp_eq (pc := 36) 61 dX11_mend_36 (by decide) (fun h36 => ?_) (fun h36 => ?_)
      · skip
        refine V0_iload (pc := 61) dX11_mend_61 rfl ?_
        refine V_reti (pc := 63) _ dX11_mend_63 rfl ?_
        first | exact ⟨by rw [if_pos z], by rw [g_mend, if_pos z, if_pos h36], rfl⟩ | exact ⟨by rw [if_pos z], by rw [g_mend, if_pos z, if_neg h36], rfl⟩
      · skip
        refine V0_aload_n (pc := 39) dX11_mend_39 rfl ?_
        refine V_getr (pc := 40) dX11_mend_40 flX11_48 rfl rfl ?_
        refine V0_iload_n (pc := 43) dX11_mend_43 rfl ?_
        refine V0_iload_n (pc := 44) dX11_mend_44 rfl ?_
        refine V0_iload (pc := 45) dX11_mend_45 rfl ?_
        refine V0_iload_n (pc := 47) dX11_mend_47 rfl ?_
        refine V_callV (pc := 48) (M' := mX1_add) dX11_mend_48 mlX11_155 okX1_add rfl (c_X1_add hd hd40) rfl rfl rfl rfl ⟨Nat.le_of_ble_eq_true rfl, Nat.le_of_ble_eq_true rfl⟩ ⟨Nat.le_refl 0, Nat.le_refl 0⟩ (Nat.le_of_ble_eq_true rfl) ?_
        intro r1 I1 J1 hh
        obtain ⟨e1, e2, e3⟩ := hh
        rw [e1, e2, e3]
        clear e1 e2 e3 r1 I1 J1
        refine V0_aload_n (pc := 51) dX11_mend_51 rfl ?_
        refine V_getr (pc := 52) dX11_mend_52 flX11_39 rfl rfl ?_
        refine V0_iload_n (pc := 55) dX11_mend_55 rfl ?_
        refine V0_iload_n (pc := 56) dX11_mend_56 rfl ?_
        refine V0_iload_n (pc := 57) dX11_mend_57 rfl ?_
        refine V_callV (pc := 58) (M' := mX4_write) dX11_mend_58 mlX11_159 okX4_write rfl c_X4_write rfl rfl rfl rfl ⟨Nat.le_of_ble_eq_true rfl, Nat.le_of_ble_eq_true rfl⟩ ⟨Nat.le_refl 0, Nat.le_refl 0⟩ (Nat.le_of_ble_eq_true rfl) ?_
        intro r1 I1 J1 hh
        obtain ⟨e1, e2, e3⟩ := hh
        rw [e1, e2, e3]
        clear e1 e2 e3 r1 I1 J1
        refine V0_iload (pc := 61) dX11_mend_61 rfl ?_
        refine V_reti (pc := 63) _ dX11_mend_63 rfl ?_
        first | exact ⟨by rw [if_pos z], by rw [g_mend, if_pos z, if_pos h36], rfl⟩ | exact ⟨by rw [if_pos z], by rw [g_mend, if_pos z, if_neg h36], rfl⟩
    · skip
      have z : ¬ (g_there I x w = true ∧ s_mayBe w v = true) := by first | exact (fun q => absurd (q.1.symm.trans (show g_there I x w = false from h9)) (by decide)) | exact (fun q => absurd (q.2.symm.trans (show s_mayBe w v = false from h17)) (by decide))
      refine V0_iconst (pc := 20) (-1) dX11_mend_20 (by decide) ?_
      refine V_reti (pc := 21) _ dX11_mend_21 rfl ?_
      exact ⟨by rw [if_neg z] <;> rfl, by rw [g_mend, if_neg z], rfl⟩
def g_of (I : px_I) (x w : Int32) : Int32 := if w = 12 then (if g_isJ I x = true then I 2 (ix x) else -1) else if g_there I x w = true then g_read I x w else -1
theorem c_X11_of {l : Launch} {I : px_I} {J : px_J} {x w : Int32} : CtI l mX11_of 3 [.ref 0, .int x, .int w] I J (g_of I x w) := by
  refine Ct.of plX11_of (Nat.le_of_ble_eq_true rfl) [.ref 0, .int x, .int w] rfl ?_
  refine V0_iload_n (pc := 0) dX11_of_0 rfl ?_
  refine V0_bipush (pc := 1) (12) dX11_of_1 (by decide) ?_
  refine V0_icmp_ne (pc := 3) 31 dX11_of_3 (by decide) (fun h3 => ?_) (fun h3 => ?_)
  · skip
    refine V0_aload_n (pc := 31) dX11_of_31 rfl ?_
    refine V_getr (pc := 32) dX11_of_32 flX11_39 rfl rfl ?_
    refine V0_iload_n (pc := 35) dX11_of_35 rfl ?_
    refine V0_iload_n (pc := 36) dX11_of_36 rfl ?_
    refine V_callVi (pc := 37) (M' := mX4_isThere) dX11_of_37 mlX11_149 okX4_isThere rfl c_X4_isThere rfl rfl rfl rfl ⟨Nat.le_of_ble_eq_true rfl, Nat.le_of_ble_eq_true rfl⟩ ⟨Nat.le_refl 0, Nat.le_refl 0⟩ (Nat.le_of_ble_eq_true rfl) ?_
    refine V_ifeqb (pc := 40) 55 dX11_of_40 (by decide) (fun h40 => ?_) (fun h40 => ?_)
    · skip
      refine V0_iconst (pc := 55) (-1) dX11_of_55 (by decide) ?_
      refine V_reti (pc := 56) _ dX11_of_56 rfl ?_
      refine px_li ?_
      first | (rw [g_of, if_pos h3, if_pos h14]; done) | (rw [g_of, if_pos h3, if_neg (by rw [show g_isJ I x = false from h14]; decide)] <;> rfl) | (rw [g_of, if_neg h3, if_pos h40]; done) | (rw [g_of, if_neg h3, if_neg (by rw [show g_there I x w = false from h40]; decide)] <;> rfl)
    · skip
      refine V0_aload_n (pc := 43) dX11_of_43 rfl ?_
      refine V_getr (pc := 44) dX11_of_44 flX11_39 rfl rfl ?_
      refine V0_iload_n (pc := 47) dX11_of_47 rfl ?_
      refine V0_iload_n (pc := 48) dX11_of_48 rfl ?_
      refine V_callVi (pc := 49) (M' := mX4_read) dX11_of_49 mlX11_152 okX4_read rfl c_X4_read rfl rfl rfl rfl ⟨Nat.le_of_ble_eq_true rfl, Nat.le_of_ble_eq_true rfl⟩ ⟨Nat.le_refl 0, Nat.le_refl 0⟩ (Nat.le_of_ble_eq_true rfl) ?_
      refine V0_goto (pc := 52) 56 dX11_of_52 (by decide) ?_
      refine V_reti (pc := 56) _ dX11_of_56 rfl ?_
      refine px_li ?_
      first | (rw [g_of, if_pos h3, if_pos h14]; done) | (rw [g_of, if_pos h3, if_neg (by rw [show g_isJ I x = false from h14]; decide)] <;> rfl) | (rw [g_of, if_neg h3, if_pos h40]; done) | (rw [g_of, if_neg h3, if_neg (by rw [show g_there I x w = false from h40]; decide)] <;> rfl)
  · skip
    refine V0_aload_n (pc := 6) dX11_of_6 rfl ?_
    refine V_getr (pc := 7) dX11_of_7 flX11_26 rfl rfl ?_
    refine V0_iload_n (pc := 10) dX11_of_10 rfl ?_
    refine V_callVi (pc := 11) (M' := mX7_isJoy) dX11_of_11 mlX11_143 okX7_isJoy rfl c_X7_isJoy rfl rfl rfl rfl ⟨Nat.le_of_ble_eq_true rfl, Nat.le_of_ble_eq_true rfl⟩ ⟨Nat.le_refl 0, Nat.le_refl 0⟩ (Nat.le_of_ble_eq_true rfl) ?_
    refine V_ifeqb (pc := 14) 29 dX11_of_14 (by decide) (fun h14 => ?_) (fun h14 => ?_)
    · skip
      refine V0_iconst (pc := 29) (-1) dX11_of_29 (by decide) ?_
      refine V_reti (pc := 30) _ dX11_of_30 rfl ?_
      refine px_li ?_
      first | (rw [g_of, if_pos h3, if_pos h14]; done) | (rw [g_of, if_pos h3, if_neg (by rw [show g_isJ I x = false from h14]; decide)] <;> rfl) | (rw [g_of, if_neg h3, if_pos h40]; done) | (rw [g_of, if_neg h3, if_neg (by rw [show g_there I x w = false from h40]; decide)] <;> rfl)
    · skip
      refine V0_aload_n (pc := 17) dX11_of_17 rfl ?_
      refine V_getr (pc := 18) dX11_of_18 flX11_26 rfl rfl ?_
      refine V_getr (pc := 21) dX11_of_21 flX11_163 rfl rfl ?_
      refine V0_iload_n (pc := 24) dX11_of_24 rfl ?_
      have hx := s_is_ix (c := 10) rfl (by omega) (n := I 1 7) h14
      refine V_iald (pc := 25) (ix x) dX11_of_25 rfl hx.1 hx.2 ?_
      refine V0_goto (pc := 26) 30 dX11_of_26 (by decide) ?_
      refine V_reti (pc := 30) _ dX11_of_30 rfl ?_
      refine px_li ?_
      first | (rw [g_of, if_pos h3, if_pos h14]; done) | (rw [g_of, if_pos h3, if_neg (by rw [show g_isJ I x = false from h14]; decide)] <;> rfl) | (rw [g_of, if_neg h3, if_pos h40]; done) | (rw [g_of, if_neg h3, if_neg (by rw [show g_there I x w = false from h40]; decide)] <;> rfl)
theorem c_X11_feed {l : Launch} {I : px_I} {J : px_J} {x : Int32} {t : Nat} (ht : I 33 2 = nI t) (ht120 : t ≤ 120) : Ct l mX11_feed 1 [.ref 0, .int x] I J (px_qi (if s_within x 0 255 = true then (if t < 120 then nI (t + 1) else -3) else -1) (if s_within x 0 255 = true then (if t < 120 then px_up (px_up I 33 2 (nI (t + 1))) 39 t x else I) else I) J) := by
  refine Ct.of plX11_feed (Nat.le_of_ble_eq_true rfl) [.ref 0, .int x] rfl ?_
  refine V0_iload_n (pc := 0) dX11_feed_0 rfl ?_
  refine V0_iconst (pc := 1) (0) dX11_feed_1 (by decide) ?_
  refine V0_sipush (pc := 2) (255) dX11_feed_2 (by decide) ?_
  refine V_callSi (pc := 5) (M' := mX11_isWithin) dX11_feed_5 mlX11_99 okX11_isWithin rfl c_X11_isWithin rfl rfl ⟨Nat.le_of_ble_eq_true rfl, Nat.le_of_ble_eq_true rfl⟩ ⟨Nat.le_refl 0, Nat.le_refl 0⟩ (Nat.le_of_ble_eq_true rfl) ?_
  refine V_ifneb (pc := 8) 13 dX11_feed_8 (by decide) (fun h8 => ?_) (fun h8 => ?_)
  · skip
    refine V0_aload_n (pc := 13) dX11_feed_13 rfl ?_
    refine V_getr (pc := 14) dX11_feed_14 flX11_55 rfl rfl ?_
    refine V0_iload_n (pc := 17) dX11_feed_17 rfl ?_
    refine V_callV (pc := 18) (M' := mX8_append) dX11_feed_18 mlX11_166 okX8_append rfl (c_X8_append ht ht120) rfl rfl rfl rfl ⟨Nat.le_of_ble_eq_true rfl, Nat.le_of_ble_eq_true rfl⟩ ⟨Nat.le_refl 0, Nat.le_refl 0⟩ (Nat.le_of_ble_eq_true rfl) ?_
    intro r1 I1 J1 hh
    obtain ⟨e1, e2, e3⟩ := hh
    rw [e1, e2, e3]
    clear e1 e2 e3 r1 I1 J1
    refine V_ifeqb (pc := 21) 34 dX11_feed_21 (by decide) (fun h21 => ?_) (fun h21 => ?_)
    · skip
      have q : ¬ t < 120 := of_decide_eq_false h21
      simp only [if_neg q]
      refine V0_bipush (pc := 34) (-3) dX11_feed_34 (by decide) ?_
      refine V_reti (pc := 36) _ dX11_feed_36 rfl ?_
      exact ⟨by rw [if_pos h8] <;> rfl, by rw [if_pos h8], rfl⟩
    · skip
      have q : t < 120 := of_decide_eq_true h21
      simp only [if_pos q]
      refine V0_aload_n (pc := 24) dX11_feed_24 rfl ?_
      refine V_getr (pc := 25) dX11_feed_25 flX11_55 rfl rfl ?_
      refine V_geti (pc := 28) dX11_feed_28 flX11_169 rfl rfl ?_
      refine V0_goto (pc := 31) 36 dX11_feed_31 (by decide) ?_
      refine V_reti (pc := 36) _ dX11_feed_36 rfl ?_
      exact ⟨by rw [if_pos h8] <;> rfl, by rw [if_pos h8], rfl⟩
  · skip
    refine V0_iconst (pc := 11) (-1) dX11_feed_11 (by decide) ?_
    refine V_reti (pc := 12) _ dX11_feed_12 rfl ?_
    exact ⟨by rw [if_neg (by rw [h8]; decide)] <;> rfl, by rw [if_neg (by rw [h8]; decide)], rfl⟩
def lw_end (B : Nat → Int32) (t : Nat) (I : px_I) (x : Option Value) (I' : px_I) : Prop := I' 33 2 = 0 ∧ (∀ q, q ≠ 14 → q ≠ 16 → q ≠ 17 → q ≠ 33 → q ≠ 34 → q ≠ 36 → q ≠ 37 → I' q = I q) ∧ ((∃ Ls, lw_ok B t Ls ∧ x = some (.int 1) ∧ px_law I' 14 Ls) ∨ (∃ e, lw_bad B t e ∧ e ≤ t ∧ x = some (.int (-100 - nI e)) ∧ I' 14 = I 14 ∧ I' 16 = I 16 ∧ I' 17 = I 17))
theorem g_lawTake_row {I : px_I} {p q r : Nat} (h1 : r ≠ p) (h2 : r ≠ p + 2) (h3 : r ≠ p + 3) : g_lawTake I p q r = I r := by
  unfold g_lawTake
  simp only [px_up_row h1, px_cp_row h2, px_cp_row h3]
theorem lw_ne : ∀ e, e < 121 → ¬ (-100 : Int32) - nI e = 1 := by decide
theorem px_law_take {I : px_I} {Ls : List l_L} (h : px_law I 34 Ls) : px_law (px_up (g_lawTake I 14 34) 33 2 0) 14 Ls := by
  obtain ⟨h1, h2, h3, h4⟩ := h
  have r16 : ∀ k, k < 128 → px_up (g_lawTake I 14 34) 33 2 0 16 k = I 36 k := by
    intro k hk
    rw [px_up_row (by omega)]
    unfold g_lawTake
    rw [px_up_row (by omega), px_cp_row (by omega)]
    simp [px_cp, hk]
  have r17 : ∀ k, k < 128 → px_up (g_lawTake I 14 34) 33 2 0 17 k = I 37 k := by
    intro k hk
    rw [px_up_row (by omega)]
    unfold g_lawTake
    rw [px_up_row (by omega)]
    simp [px_cp, hk]
  have go : ∀ (c : List l_C) (k : Nat), k + c.length ≤ 128 → codeAt I 34 k c → codeAt (px_up (g_lawTake I 14 34) 33 2 0) 14 k c := by
    intro c
    induction c with
    | nil => intro k _ _; trivial
    | cons x c ih =>
      intro k hk hc
      simp only [List.length_cons] at hk
      exact ⟨(r16 k (by omega)).trans hc.1, (r17 k (by omega)).trans hc.2.1, ih (k + 1) (by omega) hc.2.2⟩
  refine ⟨go _ 0 (by omega) h1, ?_, h3, h4⟩
  rw [← h2, px_up_row (by omega)]
  unfold g_lawTake
  rw [px_up_same, px_cp_row (by omega), px_cp_row (by omega)]
theorem W_law {l : Launch} {I : px_I} {J : px_J} {Q : px_Q} {x : Int32} {v : Value} (h1 : x = 1 → Q (some (.int x)) (px_up (g_lawTake I 14 34) 33 2 0) J) (h2 : ¬ x = 1 → Q (some (.int x)) (px_up I 33 2 0) J) : V0 l (px_rm 46 0 0) mX11_law (false, []) 0 0 7 [.ref 0, v] [.int x] (px_mk I J) (px_q Q) := by
  refine V0_istore_1 (pc := 7) dX11_law_7 (by decide) rfl ?_
  refine V0_iload_n (pc := 8) dX11_law_8 rfl ?_
  refine V0_iconst (pc := 9) (1) dX11_law_9 (by decide) ?_
  refine V0_icmp_ne (pc := 10) 27 dX11_law_10 (by decide) (fun h10 => ?_) (fun h10 => ?_)
  · skip
    refine V0_aload_n (pc := 27) dX11_law_27 rfl ?_
    refine V_getr (pc := 28) dX11_law_28 flX11_55 rfl rfl ?_
    refine V0_iconst (pc := 31) (0) dX11_law_31 (by decide) ?_
    refine V_puti (pc := 32) dX11_law_32 flX11_169 rfl rfl ?_
    refine V0_iload_n (pc := 35) dX11_law_35 rfl ?_
    refine V_reti (pc := 36) _ dX11_law_36 rfl ?_
    first | exact h1 h10 | exact h2 h10
  · skip
    refine V0_aload_n (pc := 13) dX11_law_13 rfl ?_
    refine V_getr (pc := 14) dX11_law_14 flX11_59 rfl rfl ?_
    refine V0_aload_n (pc := 17) dX11_law_17 rfl ?_
    refine V_getr (pc := 18) dX11_law_18 flX11_55 rfl rfl ?_
    refine V_getr (pc := 21) dX11_law_21 flX11_176 rfl rfl ?_
    refine V_callV (pc := 24) (M' := mX3_take) dX11_law_24 mlX11_179 okX3_take rfl (c_X3_take lw14 lw34) rfl rfl rfl rfl ⟨Nat.le_of_ble_eq_true rfl, Nat.le_of_ble_eq_true rfl⟩ ⟨Nat.le_refl 0, Nat.le_refl 0⟩ (Nat.le_of_ble_eq_true rfl) ?_
    intro r1 I1 J1 hh
    obtain ⟨e1, e2, e3⟩ := hh
    rw [e1, e2, e3]
    clear e1 e2 e3 r1 I1 J1
    refine V0_aload_n (pc := 27) dX11_law_27 rfl ?_
    refine V_getr (pc := 28) dX11_law_28 flX11_55 rfl rfl ?_
    refine V0_iconst (pc := 31) (0) dX11_law_31 (by decide) ?_
    refine V_puti (pc := 32) dX11_law_32 flX11_169 rfl rfl ?_
    refine V0_iload_n (pc := 35) dX11_law_35 rfl ?_
    refine V_reti (pc := 36) _ dX11_law_36 rfl ?_
    first | exact h1 h10 | exact h2 h10
theorem c_X11_law {l : Launch} {I : px_I} {J : px_J} {t : Nat} (ht : I 33 2 = nI t) (ht120 : t ≤ 120) : Ct l mX11_law 46 [.ref 0] I J (fun x I' J' => J' = J ∧ lw_end (I 39) t I x I') := by
  have hc := c_X8_readLaw (l := l) (J := J) ht ht120 rfl
  refine Ct.of plX11_law (Nat.le_of_ble_eq_true rfl) [.ref 0, .null] rfl ?_
  refine V0_aload_n (pc := 0) dX11_law_0 rfl ?_
  refine V_getr (pc := 1) dX11_law_1 flX11_55 rfl rfl ?_
  refine V_callV (pc := 4) (M' := mX8_readLaw) dX11_law_4 mlX11_172 okX8_readLaw rfl hc rfl rfl rfl rfl ⟨Nat.le_of_ble_eq_true rfl, Nat.le_of_ble_eq_true rfl⟩ ⟨Nat.le_refl 0, Nat.le_refl 0⟩ (Nat.le_of_ble_eq_true rfl) ?_
  intro r1 I1 J1 hh
  obtain ⟨e2, hpf, h33, hres⟩ := hh
  rw [e2]
  clear e2 J1
  rcases hres with ⟨Ls, h1, e, h2⟩ | ⟨e1, h1, h1n, e⟩
  · rw [e]
    refine W_law (fun _ => ⟨rfl, px_up_same, fun q a b c d f g h => ?_, Or.inl ⟨Ls, h1, rfl, px_law_take h2⟩⟩) (fun q => absurd rfl q)
    rw [px_up_row d, g_lawTake_row a b c]; exact hpf q d f g h
  · rw [e]
    refine W_law (fun q => absurd q (lw_ne e1 (by omega))) (fun _ => ⟨rfl, px_up_same, fun q a b c d f g h => ?_, Or.inr ⟨e1, h1, h1n, rfl, ?_, ?_, ?_⟩⟩)
    · rw [px_up_row d]; exact hpf q d f g h
    · rw [px_up_row (by omega)]; exact hpf _ (by omega) (by omega) (by omega) (by omega)
    · rw [px_up_row (by omega)]; exact hpf _ (by omega) (by omega) (by omega) (by omega)
    · rw [px_up_row (by omega)]; exact hpf _ (by omega) (by omega) (by omega) (by omega)

