/-! the Model: calls that look or put -/
theorem c_X12_mend {l : Launch} {I : px_I} {J : px_J} {x w v : Int32} {d : Nat} (hd : I 54 13 = nI d) (hd40 : d ≤ 40) (hp : m_pl I x w = true → m_at x w) : Ct l mX12_mend 3 [.ref 54, .int x, .int w, .int v] I J (px_qi (if m_pl I x w = true ∧ m_may w v = true then m_val I x w else -1) (if m_pl I x w = true ∧ m_may w v = true then m_chg I d x w v else I) J) := by
  refine Ct.of plX12_mend (Nat.le_of_ble_eq_true rfl) [.ref 54, .int x, .int w, .int v] rfl ?_
  refine V0_aload_n (pc := 0) dX12_mend_0 rfl ?_
  refine V0_iload_n (pc := 1) dX12_mend_1 rfl ?_
  refine V0_iload_n (pc := 2) dX12_mend_2 rfl ?_
  refine V_callVi (pc := 3) (M' := mX12_isPlace) dX12_mend_3 mlX12_174 okX12_isPlace rfl c_X12_isPlace rfl rfl rfl rfl ⟨Nat.le_of_ble_eq_true rfl, Nat.le_of_ble_eq_true rfl⟩ ⟨Nat.le_refl 0, Nat.le_refl 0⟩ (Nat.le_of_ble_eq_true rfl) ?_
  refine V_ifeqb (pc := 6) 27 dX12_mend_6 (by decide) (fun h6 => ?_) (fun h6 => ?_)
  · skip
    have z : ¬ (m_pl I x w = true ∧ m_may w v = true) := by first | exact (fun q => absurd (q.1.symm.trans (show m_pl I x w = false from h6)) (by decide)) | exact (fun q => absurd (q.2.symm.trans (show m_may w v = false from h14)) (by decide))
    refine V0_iconst (pc := 27) (-1) dX12_mend_27 (by decide) ?_
    refine V_reti (pc := 28) _ dX12_mend_28 rfl ?_
    first | exact ⟨by rw [if_neg z] <;> rfl, by rw [if_neg z], rfl⟩ | exact ⟨by rw [if_pos z], by rw [if_pos z], rfl⟩
  · skip
    refine V0_iload_n (pc := 9) dX12_mend_9 rfl ?_
    refine V0_iload_n (pc := 10) dX12_mend_10 rfl ?_
    refine V_callSi (pc := 11) (M' := mX12_mayHave) dX12_mend_11 mlX12_178 okX12_mayHave rfl c_X12_mayHave rfl rfl ⟨Nat.le_of_ble_eq_true rfl, Nat.le_of_ble_eq_true rfl⟩ ⟨Nat.le_refl 0, Nat.le_refl 0⟩ (Nat.le_of_ble_eq_true rfl) ?_
    refine V_ifeqb (pc := 14) 27 dX12_mend_14 (by decide) (fun h14 => ?_) (fun h14 => ?_)
    · skip
      have z : ¬ (m_pl I x w = true ∧ m_may w v = true) := by first | exact (fun q => absurd (q.1.symm.trans (show m_pl I x w = false from h6)) (by decide)) | exact (fun q => absurd (q.2.symm.trans (show m_may w v = false from h14)) (by decide))
      refine V0_iconst (pc := 27) (-1) dX12_mend_27 (by decide) ?_
      refine V_reti (pc := 28) _ dX12_mend_28 rfl ?_
      first | exact ⟨by rw [if_neg z] <;> rfl, by rw [if_neg z], rfl⟩ | exact ⟨by rw [if_pos z], by rw [if_pos z], rfl⟩
    · skip
      have z : m_pl I x w = true ∧ m_may w v = true := ⟨h6, h14⟩
      refine V0_aload_n (pc := 17) dX12_mend_17 rfl ?_
      refine V0_iload_n (pc := 18) dX12_mend_18 rfl ?_
      refine V0_iload_n (pc := 19) dX12_mend_19 rfl ?_
      refine V0_iload_n (pc := 20) dX12_mend_20 rfl ?_
      refine V_callV (pc := 21) (M' := mX12_changes) dX12_mend_21 mlX12_181 okX12_changes rfl (c_X12_changes (hp h6) hd hd40) rfl rfl rfl rfl ⟨Nat.le_of_ble_eq_true rfl, Nat.le_of_ble_eq_true rfl⟩ ⟨Nat.le_refl 0, Nat.le_refl 0⟩ (Nat.le_of_ble_eq_true rfl) ?_
      intro r1 I1 J1 hh
      obtain ⟨e1, e2, e3⟩ := hh
      rw [e1, e2, e3]
      clear e1 e2 e3 r1 I1 J1
      refine V0_goto (pc := 24) 28 dX12_mend_24 (by decide) ?_
      refine V_reti (pc := 28) _ dX12_mend_28 rfl ?_
      first | exact ⟨by rw [if_neg z] <;> rfl, by rw [if_neg z], rfl⟩ | exact ⟨by rw [if_pos z], by rw [if_pos z], rfl⟩
def m_of (I : px_I) (x w : Int32) : Int32 := if w = 12 then (if m_joy I x = true then I 56 (ix x) else -1) else if m_pl I x w = true then m_val I x w else -1
theorem c_X12_of {l : Launch} {I : px_I} {J : px_J} {x w : Int32} {n : Nat} (hn : I 54 3 = nI n) (hn10 : n ≤ 10) (hp : m_pl I x w = true → m_at x w) : CtI l mX12_of 3 [.ref 54, .int x, .int w] I J (m_of I x w) := by
  refine Ct.of plX12_of (Nat.le_of_ble_eq_true rfl) [.ref 54, .int x, .int w] rfl ?_
  refine V0_iload_n (pc := 0) dX12_of_0 rfl ?_
  refine V0_bipush (pc := 1) (12) dX12_of_1 (by decide) ?_
  refine V0_icmp_ne (pc := 3) 25 dX12_of_3 (by decide) (fun h3 => ?_) (fun h3 => ?_)
  · skip
    refine V0_aload_n (pc := 25) dX12_of_25 rfl ?_
    refine V0_iload_n (pc := 26) dX12_of_26 rfl ?_
    refine V0_iload_n (pc := 27) dX12_of_27 rfl ?_
    refine V_callVi (pc := 28) (M' := mX12_isPlace) dX12_of_28 mlX12_174 okX12_isPlace rfl c_X12_isPlace rfl rfl rfl rfl ⟨Nat.le_of_ble_eq_true rfl, Nat.le_of_ble_eq_true rfl⟩ ⟨Nat.le_refl 0, Nat.le_refl 0⟩ (Nat.le_of_ble_eq_true rfl) ?_
    refine V_ifeqb (pc := 31) 43 dX12_of_31 (by decide) (fun h31 => ?_) (fun h31 => ?_)
    · skip
      refine V0_iconst (pc := 43) (-1) dX12_of_43 (by decide) ?_
      refine V_reti (pc := 44) _ dX12_of_44 rfl ?_
      refine px_li ?_
      first | (rw [m_of, if_pos h3, if_pos h11]; done) | (rw [m_of, if_pos h3, if_neg (by rw [show m_joy I x = false from h11]; decide)] <;> rfl) | (rw [m_of, if_neg h3, if_pos h31]; done) | (rw [m_of, if_neg h3, if_neg (by rw [show m_pl I x w = false from h31]; decide)] <;> rfl)
    · skip
      refine V0_aload_n (pc := 34) dX12_of_34 rfl ?_
      refine V0_iload_n (pc := 35) dX12_of_35 rfl ?_
      refine V0_iload_n (pc := 36) dX12_of_36 rfl ?_
      refine V_callVi (pc := 37) (M' := mX12_valueAt) dX12_of_37 mlX12_154 okX12_valueAt rfl (c_X12_valueAt (hp h31)) rfl rfl rfl rfl ⟨Nat.le_of_ble_eq_true rfl, Nat.le_of_ble_eq_true rfl⟩ ⟨Nat.le_refl 0, Nat.le_refl 0⟩ (Nat.le_of_ble_eq_true rfl) ?_
      refine V0_goto (pc := 40) 44 dX12_of_40 (by decide) ?_
      refine V_reti (pc := 44) _ dX12_of_44 rfl ?_
      refine px_li ?_
      first | (rw [m_of, if_pos h3, if_pos h11]; done) | (rw [m_of, if_pos h3, if_neg (by rw [show m_joy I x = false from h11]; decide)] <;> rfl) | (rw [m_of, if_neg h3, if_pos h31]; done) | (rw [m_of, if_neg h3, if_neg (by rw [show m_pl I x w = false from h31]; decide)] <;> rfl)
  · skip
    refine V0_aload_n (pc := 6) dX12_of_6 rfl ?_
    refine V0_iload_n (pc := 7) dX12_of_7 rfl ?_
    refine V_callVi (pc := 8) (M' := mX12_isJoy) dX12_of_8 mlX12_168 okX12_isJoy rfl c_X12_isJoy rfl rfl rfl rfl ⟨Nat.le_of_ble_eq_true rfl, Nat.le_of_ble_eq_true rfl⟩ ⟨Nat.le_refl 0, Nat.le_refl 0⟩ (Nat.le_of_ble_eq_true rfl) ?_
    refine V_ifeqb (pc := 11) 23 dX12_of_11 (by decide) (fun h11 => ?_) (fun h11 => ?_)
    · skip
      refine V0_iconst (pc := 23) (-1) dX12_of_23 (by decide) ?_
      refine V_reti (pc := 24) _ dX12_of_24 rfl ?_
      refine px_li ?_
      first | (rw [m_of, if_pos h3, if_pos h11]; done) | (rw [m_of, if_pos h3, if_neg (by rw [show m_joy I x = false from h11]; decide)] <;> rfl) | (rw [m_of, if_neg h3, if_pos h31]; done) | (rw [m_of, if_neg h3, if_neg (by rw [show m_pl I x w = false from h31]; decide)] <;> rfl)
    · skip
      have hx := m_joy_ix hn hn10 h11
      refine V0_aload_n (pc := 14) dX12_of_14 rfl ?_
      refine V_getr (pc := 15) dX12_of_15 flX12_13 rfl rfl ?_
      refine V0_iload_n (pc := 18) dX12_of_18 rfl ?_
      refine V_iald (pc := 19) (ix x) dX12_of_19 rfl hx.1 (by omega) ?_
      refine V0_goto (pc := 20) 24 dX12_of_20 (by decide) ?_
      refine V_reti (pc := 24) _ dX12_of_24 rfl ?_
      refine px_li ?_
      first | (rw [m_of, if_pos h3, if_pos h11]; done) | (rw [m_of, if_pos h3, if_neg (by rw [show m_joy I x = false from h11]; decide)] <;> rfl) | (rw [m_of, if_neg h3, if_pos h31]; done) | (rw [m_of, if_neg h3, if_neg (by rw [show m_pl I x w = false from h31]; decide)] <;> rfl)
theorem c_X12_feed {l : Launch} {I : px_I} {J : px_J} {x : Int32} {t : Nat} (ht : I 54 20 = nI t) (ht120 : t ≤ 120) : Ct l mX12_feed 1 [.ref 54, .int x] I J (px_qi (if s_within x 0 255 = true then (if t < 120 then nI (t + 1) else -3) else -1) (if s_within x 0 255 = true then (if t < 120 then px_up (px_up I 69 t (vp_nar .byte x.toInt8.toInt32)) 54 20 (nI (t + 1)) else I) else I) J) := by
  refine Ct.of plX12_feed (Nat.le_of_ble_eq_true rfl) [.ref 54, .int x] rfl ?_
  refine V0_iload_n (pc := 0) dX12_feed_0 rfl ?_
  refine V0_iconst (pc := 1) (0) dX12_feed_1 (by decide) ?_
  refine V0_sipush (pc := 2) (255) dX12_feed_2 (by decide) ?_
  refine V_callSi (pc := 5) (M' := mX12_in) dX12_feed_5 mlX12_131 okX12_in rfl c_X12_in rfl rfl ⟨Nat.le_of_ble_eq_true rfl, Nat.le_of_ble_eq_true rfl⟩ ⟨Nat.le_refl 0, Nat.le_refl 0⟩ (Nat.le_of_ble_eq_true rfl) ?_
  refine V_ifneb (pc := 8) 13 dX12_feed_8 (by decide) (fun h8 => ?_) (fun h8 => ?_)
  · skip
    refine V0_aload_n (pc := 13) dX12_feed_13 rfl ?_
    refine V_geti (pc := 14) dX12_feed_14 flX12_184 rfl rfl ?_
    rw [ht]
    refine V0_bipush (pc := 17) (120) dX12_feed_17 (by decide) ?_
    refine V0_icmp_ne (pc := 19) 25 dX12_feed_19 (by decide) (fun h19 => ?_) (fun h19 => ?_)
    · skip
      have q : t < 120 := Nat.lt_of_le_of_ne ht120 (fun e => h19 (by rw [e]; rfl))
      refine V0_aload_n (pc := 25) dX12_feed_25 rfl ?_
      refine V_getr (pc := 26) dX12_feed_26 flX12_52 rfl rfl ?_
      refine V0_aload_n (pc := 29) dX12_feed_29 rfl ?_
      refine V_geti (pc := 30) dX12_feed_30 flX12_184 rfl rfl ?_
      refine V0_iload_n (pc := 33) dX12_feed_33 rfl ?_
      refine V0_i2b (pc := 34) dX12_feed_34 ?_
      refine V_bast (pc := 35) t dX12_feed_35 rfl ht q ?_
      refine V0_aload_n (pc := 36) dX12_feed_36 rfl ?_
      refine V0_dup (pc := 37) dX12_feed_37 rfl ?_
      refine V_geti (pc := 38) dX12_feed_38 flX12_184 rfl rfl ?_
      refine V0_iconst (pc := 41) (1) dX12_feed_41 (by decide) ?_
      refine V0_iadd (pc := 42) dX12_feed_42 ?_
      rw [show px_up I 69 t (vp_nar .byte x.toInt8.toInt32) 54 20 = nI t from ht, nI_1]
      refine V_puti (pc := 43) dX12_feed_43 flX12_184 rfl rfl ?_
      refine V0_aload_n (pc := 46) dX12_feed_46 rfl ?_
      refine V_geti (pc := 47) dX12_feed_47 flX12_184 rfl rfl ?_
      refine V_reti (pc := 50) _ dX12_feed_50 rfl ?_
      exact ⟨by rw [if_pos h8, if_pos q, px_up_same], by rw [if_pos h8, if_pos q], rfl⟩
    · skip
      have q : ¬ t < 120 := fun q => absurd ((qI_inj (b := 120) (by omega) (by omega)).mp h19) (by omega)
      refine V0_bipush (pc := 22) (-3) dX12_feed_22 (by decide) ?_
      refine V_reti (pc := 24) _ dX12_feed_24 rfl ?_
      exact ⟨by rw [if_pos h8, if_neg q] <;> rfl, by rw [if_pos h8, if_neg q], rfl⟩
  · skip
    refine V0_iconst (pc := 11) (-1) dX12_feed_11 (by decide) ?_
    refine V_reti (pc := 12) _ dX12_feed_12 rfl ?_
    exact ⟨by rw [if_neg (by rw [h8]; decide)] <;> rfl, by rw [if_neg (by rw [h8]; decide)], rfl⟩
theorem c_X12_moves {l : Launch} {I : px_I} {J : px_J} {x h : Int32} {m : Nat} (hm : I 54 1 = nI m) (hm7 : m ≤ 7) : Ct l mX12_moves 2 [.ref 54, .int x, .int h] I J (px_qi (if m_one I x = true ∧ s_within h 0 11 = true then I 55 (ix x) else -1) (if m_one I x = true ∧ s_within h 0 11 = true then px_up (px_up I 55 (ix x) h) 81 0 (I 81 0 + 1) else I) J) := by
  refine Ct.of plX12_moves (Nat.le_of_ble_eq_true rfl) [.ref 54, .int x, .int h, .null] rfl ?_
  refine V0_aload_n (pc := 0) dX12_moves_0 rfl ?_
  refine V0_iload_n (pc := 1) dX12_moves_1 rfl ?_
  refine V_callVi (pc := 2) (M' := mX12_isOne) dX12_moves_2 mlX12_142 okX12_isOne rfl c_X12_isOne rfl rfl rfl rfl ⟨Nat.le_of_ble_eq_true rfl, Nat.le_of_ble_eq_true rfl⟩ ⟨Nat.le_refl 0, Nat.le_refl 0⟩ (Nat.le_of_ble_eq_true rfl) ?_
  refine V_ifeqb (pc := 5) 15 dX12_moves_5 (by decide) (fun h5 => ?_) (fun h5 => ?_)
  · skip
    have z : ¬ (m_one I x = true ∧ s_within h 0 11 = true) := by first | exact (fun q => absurd (q.1.symm.trans (show m_one I x = false from h5)) (by decide)) | exact (fun q => absurd (q.2.symm.trans (show s_within h 0 11 = false from h12)) (by decide))
    refine V0_iconst (pc := 15) (-1) dX12_moves_15 (by decide) ?_
    refine V_reti (pc := 16) _ dX12_moves_16 rfl ?_
    exact ⟨by rw [if_neg z] <;> rfl, by rw [if_neg z], rfl⟩
  · skip
    refine V0_iload_n (pc := 8) dX12_moves_8 rfl ?_
    refine V_callSi (pc := 9) (M' := mX12_isHouse) dX12_moves_9 mlX12_138 okX12_isHouse rfl c_X12_isHouse rfl rfl ⟨Nat.le_of_ble_eq_true rfl, Nat.le_of_ble_eq_true rfl⟩ ⟨Nat.le_refl 0, Nat.le_refl 0⟩ (Nat.le_of_ble_eq_true rfl) ?_
    refine V_ifneb (pc := 12) 17 dX12_moves_12 (by decide) (fun h12 => ?_) (fun h12 => ?_)
    · skip
      have z : m_one I x = true ∧ s_within h 0 11 = true := ⟨h5, h12⟩
      have hx := m_one_ix hm hm7 h5
      refine V0_aload_n (pc := 17) dX12_moves_17 rfl ?_
      refine V_getr (pc := 18) dX12_moves_18 flX12_7 rfl rfl ?_
      refine V0_iload_n (pc := 21) dX12_moves_21 rfl ?_
      refine V_iald (pc := 22) (ix x) dX12_moves_22 rfl hx.1 (by omega) ?_
      refine V0_istore_3 (pc := 23) dX12_moves_23 (by decide) rfl ?_
      refine V0_aload_n (pc := 24) dX12_moves_24 rfl ?_
      refine V_getr (pc := 25) dX12_moves_25 flX12_7 rfl rfl ?_
      refine V0_iload_n (pc := 28) dX12_moves_28 rfl ?_
      refine V0_iload_n (pc := 29) dX12_moves_29 rfl ?_
      refine V_iast (pc := 30) (ix x) dX12_moves_30 rfl hx.1 (by omega) ?_
      refine V0_aload_n (pc := 31) dX12_moves_31 rfl ?_
      refine V_getr (pc := 32) dX12_moves_32 flX12_90 rfl rfl ?_
      refine V0_iconst (pc := 35) (0) dX12_moves_35 (by decide) ?_
      refine V0_dup2 (pc := 36) dX12_moves_36 rfl rfl ?_
      refine V_iald (pc := 37) 0 dX12_moves_37 rfl (by decide) (by decide) ?_
      refine V0_iconst (pc := 38) (1) dX12_moves_38 (by decide) ?_
      refine V0_iadd (pc := 39) dX12_moves_39 ?_
      refine V_iast (pc := 40) 0 dX12_moves_40 rfl (by decide) (by decide) ?_
      refine V0_iload_n (pc := 41) dX12_moves_41 rfl ?_
      refine V_reti (pc := 42) _ dX12_moves_42 rfl ?_
      exact ⟨by rw [if_pos z], by rw [if_pos z] <;> rfl, rfl⟩
    · skip
      have z : ¬ (m_one I x = true ∧ s_within h 0 11 = true) := by first | exact (fun q => absurd (q.1.symm.trans (show m_one I x = false from h5)) (by decide)) | exact (fun q => absurd (q.2.symm.trans (show s_within h 0 11 = false from h12)) (by decide))
      refine V0_iconst (pc := 15) (-1) dX12_moves_15 (by decide) ?_
      refine V_reti (pc := 16) _ dX12_moves_16 rfl ?_
      exact ⟨by rw [if_neg z] <;> rfl, by rw [if_neg z], rfl⟩
theorem c_X12_led {l : Launch} {I : px_I} {J : px_J} {x : Int32} : CtI l mX12_led 1 [.ref 54, .int x] I J (if s_within x 0 5 = true then I 81 (ix x) else -1) := by
  refine Ct.of plX12_led (Nat.le_of_ble_eq_true rfl) [.ref 54, .int x] rfl ?_
  refine V0_iload_n (pc := 0) dX12_led_0 rfl ?_
  refine V0_iconst (pc := 1) (0) dX12_led_1 (by decide) ?_
  refine V0_iconst (pc := 2) (5) dX12_led_2 (by decide) ?_
  refine V_callSi (pc := 3) (M' := mX12_in) dX12_led_3 mlX12_131 okX12_in rfl c_X12_in rfl rfl ⟨Nat.le_of_ble_eq_true rfl, Nat.le_of_ble_eq_true rfl⟩ ⟨Nat.le_refl 0, Nat.le_refl 0⟩ (Nat.le_of_ble_eq_true rfl) ?_
  refine V_ifeqb (pc := 6) 18 dX12_led_6 (by decide) (fun h6 => ?_) (fun h6 => ?_)
  · skip
    refine V0_iconst (pc := 18) (-1) dX12_led_18 (by decide) ?_
    refine V_reti (pc := 19) _ dX12_led_19 rfl ?_
    refine px_li ?_
    first | exact (if_pos h6).symm | exact (if_neg (by rw [show s_within x 0 5 = false from h6]; decide)).symm
  · skip
    have hx := w_ixc (m := 5) (by omega) rfl h6
    refine V0_aload_n (pc := 9) dX12_led_9 rfl ?_
    refine V_getr (pc := 10) dX12_led_10 flX12_90 rfl rfl ?_
    refine V0_iload_n (pc := 13) dX12_led_13 rfl ?_
    refine V_iald (pc := 14) (ix x) dX12_led_14 rfl hx.1 (by omega) ?_
    refine V0_goto (pc := 15) 19 dX12_led_15 (by decide) ?_
    refine V_reti (pc := 19) _ dX12_led_19 rfl ?_
    refine px_li ?_
    first | exact (if_pos h6).symm | exact (if_neg (by rw [show s_within x 0 5 = false from h6]; decide)).symm
theorem c_X12_trace {l : Launch} {I : px_I} {J : px_J} {x : Int32} : CtI l mX12_trace 0 [.ref 54, .int x] I J (if ¬ x < 0 ∧ x < I 54 53 ∧ x < 24 then I 87 (ix x) else -1) := by
  refine Ct.of plX12_trace (Nat.le_of_ble_eq_true rfl) [.ref 54, .int x] rfl ?_
  refine V0_iload_n (pc := 0) dX12_trace_0 rfl ?_
  refine V0_if_lt (pc := 1) 27 dX12_trace_1 (by decide) (fun h1 => ?_) (fun h1 => ?_)
  · skip
    refine V0_iconst (pc := 27) (-1) dX12_trace_27 (by decide) ?_
    refine V_reti (pc := 28) _ dX12_trace_28 rfl ?_
    refine px_li ?_
    first | (rw [if_pos ⟨h1, h9, h15⟩]; done) | (rw [if_neg (fun q => q.1 h1)] <;> rfl) | (rw [if_neg (fun q => h9 q.2.1)] <;> rfl) | (rw [if_neg (fun q => h15 q.2.2)] <;> rfl)
  · skip
    refine V0_iload_n (pc := 4) dX12_trace_4 rfl ?_
    refine V0_aload_n (pc := 5) dX12_trace_5 rfl ?_
    refine V_geti (pc := 6) dX12_trace_6 flX12_386 rfl rfl ?_
    refine V1_icmp_ge (pc := 9) 27 dX12_trace_9 (by decide) (fun h9 => ?_) (fun h9 => ?_)
    · skip
      refine V0_iconst (pc := 27) (-1) dX12_trace_27 (by decide) ?_
      refine V_reti (pc := 28) _ dX12_trace_28 rfl ?_
      refine px_li ?_
      first | (rw [if_pos ⟨h1, h9, h15⟩]; done) | (rw [if_neg (fun q => q.1 h1)] <;> rfl) | (rw [if_neg (fun q => h9 q.2.1)] <;> rfl) | (rw [if_neg (fun q => h15 q.2.2)] <;> rfl)
    · skip
      refine V0_iload_n (pc := 12) dX12_trace_12 rfl ?_
      refine V0_bipush (pc := 13) (24) dX12_trace_13 (by decide) ?_
      refine V1_icmp_ge (pc := 15) 27 dX12_trace_15 (by decide) (fun h15 => ?_) (fun h15 => ?_)
      · skip
        refine V0_iconst (pc := 27) (-1) dX12_trace_27 (by decide) ?_
        refine V_reti (pc := 28) _ dX12_trace_28 rfl ?_
        refine px_li ?_
        first | (rw [if_pos ⟨h1, h9, h15⟩]; done) | (rw [if_neg (fun q => q.1 h1)] <;> rfl) | (rw [if_neg (fun q => h9 q.2.1)] <;> rfl) | (rw [if_neg (fun q => h15 q.2.2)] <;> rfl)
      · skip
        refine V0_aload_n (pc := 18) dX12_trace_18 rfl ?_
        refine V_getr (pc := 19) dX12_trace_19 flX12_108 rfl rfl ?_
        refine V0_iload_n (pc := 22) dX12_trace_22 rfl ?_
        refine V_iald (pc := 23) (ix x) dX12_trace_23 rfl (nI_ix h1) (ix_lt (n := 24) h1 (by omega) h15) ?_
        refine V0_goto (pc := 24) 28 dX12_trace_24 (by decide) ?_
        refine V_reti (pc := 28) _ dX12_trace_28 rfl ?_
        refine px_li ?_
        first | (rw [if_pos ⟨h1, h9, h15⟩]; done) | (rw [if_neg (fun q => q.1 h1)] <;> rfl) | (rw [if_neg (fun q => h9 q.2.1)] <;> rfl) | (rw [if_neg (fun q => h15 q.2.2)] <;> rfl)
theorem c_X12_body {l : Launch} {I : px_I} {J : px_J} {k : Int32} {n : Nat} (hn : I 54 51 = nI n) (hn50 : n ≤ 50) : Ct l mX12_body 1 [.ref 54, .int k] I J (px_qi (if s_within k 0 7 = true then (if n < 50 then nI n else -3) else -1) (if s_within k 0 7 = true then (if n < 50 then px_up (px_up I 86 n k) 54 51 (nI (n + 1)) else I) else I) J) := by
  refine Ct.of plX12_body (Nat.le_of_ble_eq_true rfl) [.ref 54, .int k] rfl ?_
  refine V0_iload_n (pc := 0) dX12_body_0 rfl ?_
  refine V0_iconst (pc := 1) (0) dX12_body_1 (by decide) ?_
  refine V0_bipush (pc := 2) (7) dX12_body_2 (by decide) ?_
  refine V_callSi (pc := 4) (M' := mX12_in) dX12_body_4 mlX12_131 okX12_in rfl c_X12_in rfl rfl ⟨Nat.le_of_ble_eq_true rfl, Nat.le_of_ble_eq_true rfl⟩ ⟨Nat.le_refl 0, Nat.le_refl 0⟩ (Nat.le_of_ble_eq_true rfl) ?_
  refine V_ifneb (pc := 7) 12 dX12_body_7 (by decide) (fun h7 => ?_) (fun h7 => ?_)
  · skip
    refine V0_aload_n (pc := 12) dX12_body_12 rfl ?_
    refine V_geti (pc := 13) dX12_body_13 flX12_383 rfl rfl ?_
    rw [hn]
    refine V0_bipush (pc := 16) (50) dX12_body_16 (by decide) ?_
    refine V0_icmp_ne (pc := 18) 24 dX12_body_18 (by decide) (fun h18 => ?_) (fun h18 => ?_)
    · skip
      have q : n < 50 := Nat.lt_of_le_of_ne hn50 (fun e => h18 (by rw [e]; rfl))
      refine V0_aload_n (pc := 24) dX12_body_24 rfl ?_
      refine V_getr (pc := 25) dX12_body_25 flX12_105 rfl rfl ?_
      refine V0_aload_n (pc := 28) dX12_body_28 rfl ?_
      refine V_geti (pc := 29) dX12_body_29 flX12_383 rfl rfl ?_
      refine V0_iload_n (pc := 32) dX12_body_32 rfl ?_
      refine V_iast (pc := 33) n dX12_body_33 rfl hn q ?_
      refine V0_aload_n (pc := 34) dX12_body_34 rfl ?_
      refine V0_dup (pc := 35) dX12_body_35 rfl ?_
      refine V_geti (pc := 36) dX12_body_36 flX12_383 rfl rfl ?_
      refine V0_iconst (pc := 39) (1) dX12_body_39 (by decide) ?_
      refine V0_iadd (pc := 40) dX12_body_40 ?_
      rw [show px_up I 86 n k 54 51 = nI n from hn, nI_1]
      refine V_puti (pc := 41) dX12_body_41 flX12_383 rfl rfl ?_
      refine V0_aload_n (pc := 44) dX12_body_44 rfl ?_
      refine V_geti (pc := 45) dX12_body_45 flX12_383 rfl rfl ?_
      refine V0_iconst (pc := 48) (1) dX12_body_48 (by decide) ?_
      refine V0_isub (pc := 49) dX12_body_49 ?_
      refine V_reti (pc := 50) _ dX12_body_50 rfl ?_
      exact ⟨by rw [if_pos h7, if_pos q, px_up_same, show nI (n + 1) - 1 = nI n from nI_pred _], by rw [if_pos h7, if_pos q], rfl⟩
    · skip
      have q : ¬ n < 50 := fun q => absurd ((qI_inj (b := 50) (by omega) (by omega)).mp h18) (by omega)
      refine V0_bipush (pc := 21) (-3) dX12_body_21 (by decide) ?_
      refine V_reti (pc := 23) _ dX12_body_23 rfl ?_
      exact ⟨by rw [if_pos h7, if_neg q] <;> rfl, by rw [if_pos h7, if_neg q], rfl⟩
  · skip
    refine V0_iconst (pc := 10) (-1) dX12_body_10 (by decide) ?_
    refine V_reti (pc := 11) _ dX12_body_11 rfl ?_
    exact ⟨by rw [if_neg (by rw [h7]; decide)] <;> rfl, by rw [if_neg (by rw [h7]; decide)], rfl⟩
theorem c_X12_count {l : Launch} {I : px_I} {J : px_J} {x : Int32} : CtI l mX12_count 0 [.ref 54, .int x] I J (if x = 0 then I 54 1 else if x = 1 then I 54 3 else if x = 2 then I 54 20 else if x = 3 then I 54 13 else if x = 4 then I 54 51 else if x = 5 then I 54 53 else -1) := by
  refine Ct.of plX12_count (Nat.le_of_ble_eq_true rfl) [.ref 54, .int x] rfl ?_
  refine V0_iload_n (pc := 0) dX12_count_0 rfl ?_
  by_cases s1_0 : x = (0)
  · refine V_tabIn (pc := 1) (off := 39) (0) 40 dX12_count_1 s1_0 (by decide) (by decide) (by decide) (by decide) ?_
    refine V0_aload_n (pc := 40) dX12_count_40 rfl ?_
    refine V_geti (pc := 41) dX12_count_41 flX12_128 rfl rfl ?_
    refine V_reti (pc := 44) _ dX12_count_44 rfl ?_
    refine px_li ?_
    simp [*]
  by_cases s1_1 : x = (1)
  · refine V_tabIn (pc := 1) (off := 44) (1) 45 dX12_count_1 s1_1 (by decide) (by decide) (by decide) (by decide) ?_
    refine V0_aload_n (pc := 45) dX12_count_45 rfl ?_
    refine V_geti (pc := 46) dX12_count_46 flX12_135 rfl rfl ?_
    refine V_reti (pc := 49) _ dX12_count_49 rfl ?_
    refine px_li ?_
    simp [*]
  by_cases s1_2 : x = (2)
  · refine V_tabIn (pc := 1) (off := 49) (2) 50 dX12_count_1 s1_2 (by decide) (by decide) (by decide) (by decide) ?_
    refine V0_aload_n (pc := 50) dX12_count_50 rfl ?_
    refine V_geti (pc := 51) dX12_count_51 flX12_184 rfl rfl ?_
    refine V_reti (pc := 54) _ dX12_count_54 rfl ?_
    refine px_li ?_
    simp [*]
  by_cases s1_3 : x = (3)
  · refine V_tabIn (pc := 1) (off := 54) (3) 55 dX12_count_1 s1_3 (by decide) (by decide) (by decide) (by decide) ?_
    refine V0_aload_n (pc := 55) dX12_count_55 rfl ?_
    refine V_geti (pc := 56) dX12_count_56 flX12_161 rfl rfl ?_
    refine V_reti (pc := 59) _ dX12_count_59 rfl ?_
    refine px_li ?_
    simp [*]
  by_cases s1_4 : x = (4)
  · refine V_tabIn (pc := 1) (off := 59) (4) 60 dX12_count_1 s1_4 (by decide) (by decide) (by decide) (by decide) ?_
    refine V0_aload_n (pc := 60) dX12_count_60 rfl ?_
    refine V_geti (pc := 61) dX12_count_61 flX12_383 rfl rfl ?_
    refine V_reti (pc := 64) _ dX12_count_64 rfl ?_
    refine px_li ?_
    simp [*]
  by_cases s1_5 : x = (5)
  · refine V_tabIn (pc := 1) (off := 64) (5) 65 dX12_count_1 s1_5 (by decide) (by decide) (by decide) (by decide) ?_
    refine V0_aload_n (pc := 65) dX12_count_65 rfl ?_
    refine V_geti (pc := 66) dX12_count_66 flX12_386 rfl rfl ?_
    refine V_reti (pc := 69) _ dX12_count_69 rfl ?_
    refine px_li ?_
    simp [*]
  refine V_tabOut (pc := 1) 70 dX12_count_1 (by have g0 := px_ne s1_0 (k := 0) (by decide); have g1 := px_ne s1_1 (k := 1) (by decide); have g2 := px_ne s1_2 (k := 2) (by decide); have g3 := px_ne s1_3 (k := 3) (by decide); have g4 := px_ne s1_4 (k := 4) (by decide); have g5 := px_ne s1_5 (k := 5) (by decide); omega) (by decide) ?_
  refine V0_iconst (pc := 70) (-1) dX12_count_70 (by decide) ?_
  refine V_reti (pc := 71) _ dX12_count_71 rfl ?_
  refine px_li ?_
  simp [*]
/-! copies, one by one -/
theorem px_cp_0 {I : px_I} {q r : Nat} : px_cp I q 0 r 0 0 = I := by funext p i; simp [px_cp]
theorem px_cp_s {I : px_I} {q r k : Nat} (h : q ≠ r) : px_up (px_cp I q 0 r 0 k) r k (I q k) = px_cp I q 0 r 0 (k + 1) := by
  funext p i
  simp only [px_up_at, px_cp_at]
  by_cases hp : p = r
  · subst hp
    by_cases hi : i = k
    · subst hi; simp
    · rw [if_neg (by omega)]
      by_cases hk : i < k
      · rw [if_pos (by omega), if_pos (by omega)]
      · rw [if_neg (by omega), if_neg (by omega)]
  · rw [if_neg (by omega), if_neg (by omega), if_neg (by omega)]
theorem px_cp_ss {I : px_I} {q r q' r' k : Nat} (h : q ≠ r) (h' : q' ≠ r') (h1 : r ≠ r') (h2 : q ≠ r') (h3 : q' ≠ r) : px_up (px_up (px_cp (px_cp I q 0 r 0 k) q' 0 r' 0 k) r k (I q k)) r' k (I q' k) = px_cp (px_cp I q 0 r 0 (k + 1)) q' 0 r' 0 (k + 1) := by
  have e1 : px_up (px_cp (px_cp I q 0 r 0 k) q' 0 r' 0 k) r k (I q k) = px_cp (px_cp I q 0 r 0 (k + 1)) q' 0 r' 0 k := by
    rw [← px_cp_s (I := I) h]
    funext p i
    simp only [px_up_at, px_cp_at]
    by_cases hp : p = r
    · subst hp
      by_cases hi : i = k
      · subst hi; simp [h1, h3]
      · simp [h1, hi]
    · simp [hp, h3]
  rw [e1, ← px_cp_s (I := px_cp I q 0 r 0 (k + 1)) h', px_cp_row h3]
theorem l1_X12_image {l : Launch} {S : px_I} {J : px_J} {d n : Nat} {Q : px_Q} (hn : S 54 1 = nI n) (hb : n ≤ 7) (kk : V0 l (px_rm d 0 0) mX12_image (false, []) 0 0 69 [.ref 54, .int (nI n)] [] (px_mk (px_cp S 55 0 82 0 n) J) (px_q Q)) : ∀ (f j : Nat), j + f = n → V0 l (px_rm d 0 0) mX12_image (false, []) 0 0 43 [.ref 54, .int (nI j)] [] (px_mk (px_cp S 55 0 82 0 j) J) (px_q Q) := by
  intro f
  induction f with
  | zero =>
    intro j h1
    obtain rfl : j = n := by omega
    refine V0_iload_n (pc := 43) dX12_image_43 rfl ?_
    refine V0_aload_n (pc := 44) dX12_image_44 rfl ?_
    refine V_geti (pc := 45) dX12_image_45 flX12_128 rfl rfl ?_
    rw [show px_cp S 55 0 82 0 j 54 1 = nI j from by rw [px_cp_row (by omega)]; exact hn]
    refine V1_icmp_ge (pc := 48) 69 dX12_image_48 (by decide) (fun h48 => ?_) (fun h48 => ?_)
    · skip
      exact kk
    · skip
      exact absurd ((qI_lt (a := j) (b := j) (by omega) (by omega)).mp h48) (by omega)
  | succ f ih =>
    intro j h1
    have hk : nI j < nI n := (qI_lt (by omega) (by omega)).mpr (by omega)
    refine V0_iload_n (pc := 43) dX12_image_43 rfl ?_
    refine V0_aload_n (pc := 44) dX12_image_44 rfl ?_
    refine V_geti (pc := 45) dX12_image_45 flX12_128 rfl rfl ?_
    rw [show px_cp S 55 0 82 0 j 54 1 = nI n from by rw [px_cp_row (by omega)]; exact hn]
    refine V1_icmp_ge (pc := 48) 69 dX12_image_48 (by decide) (fun h48 => ?_) (fun h48 => ?_)
    · skip
      exact absurd hk h48
    · skip
      refine V0_aload_n (pc := 51) dX12_image_51 rfl ?_
      refine V_getr (pc := 52) dX12_image_52 flX12_93 rfl rfl ?_
      refine V0_iload_n (pc := 55) dX12_image_55 rfl ?_
      refine V0_aload_n (pc := 56) dX12_image_56 rfl ?_
      refine V_getr (pc := 57) dX12_image_57 flX12_7 rfl rfl ?_
      refine V0_iload_n (pc := 60) dX12_image_60 rfl ?_
      refine V_iald (pc := 61) j dX12_image_61 rfl rfl (by omega) ?_
      rw [show px_cp S 55 0 82 0 j 55 j = S 55 j from by rw [px_cp_row (by omega)]]
      refine V_iast (pc := 62) j dX12_image_62 rfl rfl (by omega) ?_
      refine V0_iinc_1 (pc := 63) (nI (j + 1)) dX12_image_63 (by decide) rfl (nI_1 _) ?_
      refine V0_goto (pc := 66) 43 dX12_image_66 (by decide) ?_
      rw [px_cp_s (by omega)]
      exact ih (j + 1) (by omega)
theorem l2_X12_image {l : Launch} {S : px_I} {J : px_J} {d n : Nat} {Q : px_Q} (hn : S 54 3 = nI n) (hb : n ≤ 10) (kk : V0 l (px_rm d 0 0) mX12_image (false, []) 0 0 109 [.ref 54, .int (nI n)] [] (px_mk (px_cp (px_cp S 62 0 83 0 n) 63 0 84 0 n) J) (px_q Q)) : ∀ (f j : Nat), j + f = n → V0 l (px_rm d 0 0) mX12_image (false, []) 0 0 71 [.ref 54, .int (nI j)] [] (px_mk (px_cp (px_cp S 62 0 83 0 j) 63 0 84 0 j) J) (px_q Q) := by
  intro f
  induction f with
  | zero =>
    intro j h1
    obtain rfl : j = n := by omega
    refine V0_iload_n (pc := 71) dX12_image_71 rfl ?_
    refine V0_aload_n (pc := 72) dX12_image_72 rfl ?_
    refine V_geti (pc := 73) dX12_image_73 flX12_135 rfl rfl ?_
    rw [show px_cp (px_cp S 62 0 83 0 j) 63 0 84 0 j 54 3 = nI j from by rw [px_cp_row (by omega)]; rw [px_cp_row (by omega)]; exact hn]
    refine V1_icmp_ge (pc := 76) 109 dX12_image_76 (by decide) (fun h76 => ?_) (fun h76 => ?_)
    · skip
      exact kk
    · skip
      exact absurd ((qI_lt (a := j) (b := j) (by omega) (by omega)).mp h76) (by omega)
  | succ f ih =>
    intro j h1
    have hk : nI j < nI n := (qI_lt (by omega) (by omega)).mpr (by omega)
    refine V0_iload_n (pc := 71) dX12_image_71 rfl ?_
    refine V0_aload_n (pc := 72) dX12_image_72 rfl ?_
    refine V_geti (pc := 73) dX12_image_73 flX12_135 rfl rfl ?_
    rw [show px_cp (px_cp S 62 0 83 0 j) 63 0 84 0 j 54 3 = nI n from by rw [px_cp_row (by omega)]; rw [px_cp_row (by omega)]; exact hn]
    refine V1_icmp_ge (pc := 76) 109 dX12_image_76 (by decide) (fun h76 => ?_) (fun h76 => ?_)
    · skip
      exact absurd hk h76
    · skip
      refine V0_aload_n (pc := 79) dX12_image_79 rfl ?_
      refine V_getr (pc := 80) dX12_image_80 flX12_96 rfl rfl ?_
      refine V0_iload_n (pc := 83) dX12_image_83 rfl ?_
      refine V0_aload_n (pc := 84) dX12_image_84 rfl ?_
      refine V_getr (pc := 85) dX12_image_85 flX12_31 rfl rfl ?_
      refine V0_iload_n (pc := 88) dX12_image_88 rfl ?_
      refine V_iald (pc := 89) j dX12_image_89 rfl rfl (by omega) ?_
      rw [show px_cp (px_cp S 62 0 83 0 j) 63 0 84 0 j 62 j = S 62 j from by rw [px_cp_row (by omega), px_cp_row (by omega)]]
      refine V_iast (pc := 90) j dX12_image_90 rfl rfl (by omega) ?_
      refine V0_aload_n (pc := 91) dX12_image_91 rfl ?_
      refine V_getr (pc := 92) dX12_image_92 flX12_99 rfl rfl ?_
      refine V0_iload_n (pc := 95) dX12_image_95 rfl ?_
      refine V0_aload_n (pc := 96) dX12_image_96 rfl ?_
      refine V_getr (pc := 97) dX12_image_97 flX12_34 rfl rfl ?_
      refine V0_iload_n (pc := 100) dX12_image_100 rfl ?_
      refine V_iald (pc := 101) j dX12_image_101 rfl rfl (by omega) ?_
      rw [show px_up (px_cp (px_cp S 62 0 83 0 j) 63 0 84 0 j) 83 j (S 62 j) 63 j = S 63 j from by rw [px_up_row (by omega), px_cp_row (by omega), px_cp_row (by omega)]]
      refine V_iast (pc := 102) j dX12_image_102 rfl rfl (by omega) ?_
      refine V0_iinc_1 (pc := 103) (nI (j + 1)) dX12_image_103 (by decide) rfl (nI_1 _) ?_
      refine V0_goto (pc := 106) 71 dX12_image_106 (by decide) ?_
      rw [px_cp_ss (by omega) (by omega) (by omega) (by omega) (by omega)]
      exact ih (j + 1) (by omega)
theorem l3_X12_image {l : Launch} {S : px_I} {J : px_J} {d : Nat} {Q : px_Q}  (kk : V0 l (px_rm d 0 0) mX12_image (false, []) 0 0 135 [.ref 54, .int (nI 6)] [] (px_mk (px_cp S 81 0 85 0 6) J) (px_q Q)) : ∀ (f j : Nat), j + f = 6 → V0 l (px_rm d 0 0) mX12_image (false, []) 0 0 111 [.ref 54, .int (nI j)] [] (px_mk (px_cp S 81 0 85 0 j) J) (px_q Q) := by
  intro f
  induction f with
  | zero =>
    intro j h1
    obtain rfl : j = 6 := by omega
    refine V0_iload_n (pc := 111) dX12_image_111 rfl ?_
    refine V0_bipush (pc := 112) (6) dX12_image_112 (by decide) ?_
    refine V1_icmp_ge (pc := 114) 135 dX12_image_114 (by decide) (fun h114 => ?_) (fun h114 => ?_)
    · skip
      exact kk
    · skip
      exact absurd (show nI 6 < (6 : Int32) from h114) (by decide)
  | succ f ih =>
    intro j h1
    have hk : nI j < (6 : Int32) := (qI_lt (a := j) (b := 6) (by omega) (by omega)).mpr (by omega)
    refine V0_iload_n (pc := 111) dX12_image_111 rfl ?_
    refine V0_bipush (pc := 112) (6) dX12_image_112 (by decide) ?_
    refine V1_icmp_ge (pc := 114) 135 dX12_image_114 (by decide) (fun h114 => ?_) (fun h114 => ?_)
    · skip
      exact absurd hk h114
    · skip
      refine V0_aload_n (pc := 117) dX12_image_117 rfl ?_
      refine V_getr (pc := 118) dX12_image_118 flX12_102 rfl rfl ?_
      refine V0_iload_n (pc := 121) dX12_image_121 rfl ?_
      refine V0_aload_n (pc := 122) dX12_image_122 rfl ?_
      refine V_getr (pc := 123) dX12_image_123 flX12_90 rfl rfl ?_
      refine V0_iload_n (pc := 126) dX12_image_126 rfl ?_
      refine V_iald (pc := 127) j dX12_image_127 rfl rfl (by omega) ?_
      rw [show px_cp S 81 0 85 0 j 81 j = S 81 j from by rw [px_cp_row (by omega)]]
      refine V_iast (pc := 128) j dX12_image_128 rfl rfl (by omega) ?_
      refine V0_iinc_1 (pc := 129) (nI (j + 1)) dX12_image_129 (by decide) rfl (nI_1 _) ?_
      refine V0_goto (pc := 132) 111 dX12_image_132 (by decide) ?_
      rw [px_cp_s (by omega)]
      exact ih (j + 1) (by omega)
theorem l1_X12_back {l : Launch} {S : px_I} {J : px_J} {d n : Nat} {Q : px_Q} (hn : S 54 43 = nI n) (hb : n ≤ 7) (kk : V0 l (px_rm d 0 0) mX12_back (false, []) 0 0 58 [.ref 54, .int (nI n)] [] (px_mk (px_cp S 82 0 55 0 n) J) (px_q Q)) : ∀ (f j : Nat), j + f = n → V0 l (px_rm d 0 0) mX12_back (false, []) 0 0 32 [.ref 54, .int (nI j)] [] (px_mk (px_cp S 82 0 55 0 j) J) (px_q Q) := by
  intro f
  induction f with
  | zero =>
    intro j h1
    obtain rfl : j = n := by omega
    refine V0_iload_n (pc := 32) dX12_back_32 rfl ?_
    refine V0_aload_n (pc := 33) dX12_back_33 rfl ?_
    refine V_geti (pc := 34) dX12_back_34 flX12_371 rfl rfl ?_
    rw [show px_cp S 82 0 55 0 j 54 43 = nI j from by rw [px_cp_row (by omega)]; exact hn]
    refine V1_icmp_ge (pc := 37) 58 dX12_back_37 (by decide) (fun h37 => ?_) (fun h37 => ?_)
    · skip
      exact kk
    · skip
      exact absurd ((qI_lt (a := j) (b := j) (by omega) (by omega)).mp h37) (by omega)
  | succ f ih =>
    intro j h1
    have hk : nI j < nI n := (qI_lt (by omega) (by omega)).mpr (by omega)
    refine V0_iload_n (pc := 32) dX12_back_32 rfl ?_
    refine V0_aload_n (pc := 33) dX12_back_33 rfl ?_
    refine V_geti (pc := 34) dX12_back_34 flX12_371 rfl rfl ?_
    rw [show px_cp S 82 0 55 0 j 54 43 = nI n from by rw [px_cp_row (by omega)]; exact hn]
    refine V1_icmp_ge (pc := 37) 58 dX12_back_37 (by decide) (fun h37 => ?_) (fun h37 => ?_)
    · skip
      exact absurd hk h37
    · skip
      refine V0_aload_n (pc := 40) dX12_back_40 rfl ?_
      refine V_getr (pc := 41) dX12_back_41 flX12_7 rfl rfl ?_
      refine V0_iload_n (pc := 44) dX12_back_44 rfl ?_
      refine V0_aload_n (pc := 45) dX12_back_45 rfl ?_
      refine V_getr (pc := 46) dX12_back_46 flX12_93 rfl rfl ?_
      refine V0_iload_n (pc := 49) dX12_back_49 rfl ?_
      refine V_iald (pc := 50) j dX12_back_50 rfl rfl (by omega) ?_
      rw [show px_cp S 82 0 55 0 j 82 j = S 82 j from by rw [px_cp_row (by omega)]]
      refine V_iast (pc := 51) j dX12_back_51 rfl rfl (by omega) ?_
      refine V0_iinc_1 (pc := 52) (nI (j + 1)) dX12_back_52 (by decide) rfl (nI_1 _) ?_
      refine V0_goto (pc := 55) 32 dX12_back_55 (by decide) ?_
      rw [px_cp_s (by omega)]
      exact ih (j + 1) (by omega)
theorem l2_X12_back {l : Launch} {S : px_I} {J : px_J} {d n : Nat} {Q : px_Q} (hn : S 54 44 = nI n) (hb : n ≤ 10) (kk : V0 l (px_rm d 0 0) mX12_back (false, []) 0 0 98 [.ref 54, .int (nI n)] [] (px_mk (px_cp (px_cp S 83 0 62 0 n) 84 0 63 0 n) J) (px_q Q)) : ∀ (f j : Nat), j + f = n → V0 l (px_rm d 0 0) mX12_back (false, []) 0 0 60 [.ref 54, .int (nI j)] [] (px_mk (px_cp (px_cp S 83 0 62 0 j) 84 0 63 0 j) J) (px_q Q) := by
  intro f
  induction f with
  | zero =>
    intro j h1
    obtain rfl : j = n := by omega
    refine V0_iload_n (pc := 60) dX12_back_60 rfl ?_
    refine V0_aload_n (pc := 61) dX12_back_61 rfl ?_
    refine V_geti (pc := 62) dX12_back_62 flX12_374 rfl rfl ?_
    rw [show px_cp (px_cp S 83 0 62 0 j) 84 0 63 0 j 54 44 = nI j from by rw [px_cp_row (by omega)]; rw [px_cp_row (by omega)]; exact hn]
    refine V1_icmp_ge (pc := 65) 98 dX12_back_65 (by decide) (fun h65 => ?_) (fun h65 => ?_)
    · skip
      exact kk
    · skip
      exact absurd ((qI_lt (a := j) (b := j) (by omega) (by omega)).mp h65) (by omega)
  | succ f ih =>
    intro j h1
    have hk : nI j < nI n := (qI_lt (by omega) (by omega)).mpr (by omega)
    refine V0_iload_n (pc := 60) dX12_back_60 rfl ?_
    refine V0_aload_n (pc := 61) dX12_back_61 rfl ?_
    refine V_geti (pc := 62) dX12_back_62 flX12_374 rfl rfl ?_
    rw [show px_cp (px_cp S 83 0 62 0 j) 84 0 63 0 j 54 44 = nI n from by rw [px_cp_row (by omega)]; rw [px_cp_row (by omega)]; exact hn]
    refine V1_icmp_ge (pc := 65) 98 dX12_back_65 (by decide) (fun h65 => ?_) (fun h65 => ?_)
    · skip
      exact absurd hk h65
    · skip
      refine V0_aload_n (pc := 68) dX12_back_68 rfl ?_
      refine V_getr (pc := 69) dX12_back_69 flX12_31 rfl rfl ?_
      refine V0_iload_n (pc := 72) dX12_back_72 rfl ?_
      refine V0_aload_n (pc := 73) dX12_back_73 rfl ?_
      refine V_getr (pc := 74) dX12_back_74 flX12_96 rfl rfl ?_
      refine V0_iload_n (pc := 77) dX12_back_77 rfl ?_
      refine V_iald (pc := 78) j dX12_back_78 rfl rfl (by omega) ?_
      rw [show px_cp (px_cp S 83 0 62 0 j) 84 0 63 0 j 83 j = S 83 j from by rw [px_cp_row (by omega), px_cp_row (by omega)]]
      refine V_iast (pc := 79) j dX12_back_79 rfl rfl (by omega) ?_
      refine V0_aload_n (pc := 80) dX12_back_80 rfl ?_
      refine V_getr (pc := 81) dX12_back_81 flX12_34 rfl rfl ?_
      refine V0_iload_n (pc := 84) dX12_back_84 rfl ?_
      refine V0_aload_n (pc := 85) dX12_back_85 rfl ?_
      refine V_getr (pc := 86) dX12_back_86 flX12_99 rfl rfl ?_
      refine V0_iload_n (pc := 89) dX12_back_89 rfl ?_
      refine V_iald (pc := 90) j dX12_back_90 rfl rfl (by omega) ?_
      rw [show px_up (px_cp (px_cp S 83 0 62 0 j) 84 0 63 0 j) 62 j (S 83 j) 84 j = S 84 j from by rw [px_up_row (by omega), px_cp_row (by omega), px_cp_row (by omega)]]
      refine V_iast (pc := 91) j dX12_back_91 rfl rfl (by omega) ?_
      refine V0_iinc_1 (pc := 92) (nI (j + 1)) dX12_back_92 (by decide) rfl (nI_1 _) ?_
      refine V0_goto (pc := 95) 60 dX12_back_95 (by decide) ?_
      rw [px_cp_ss (by omega) (by omega) (by omega) (by omega) (by omega)]
      exact ih (j + 1) (by omega)
theorem l3_X12_back {l : Launch} {S : px_I} {J : px_J} {d : Nat} {Q : px_Q}  (kk : V0 l (px_rm d 0 0) mX12_back (false, []) 0 0 124 [.ref 54, .int (nI 6)] [] (px_mk (px_cp S 85 0 81 0 6) J) (px_q Q)) : ∀ (f j : Nat), j + f = 6 → V0 l (px_rm d 0 0) mX12_back (false, []) 0 0 100 [.ref 54, .int (nI j)] [] (px_mk (px_cp S 85 0 81 0 j) J) (px_q Q) := by
  intro f
  induction f with
  | zero =>
    intro j h1
    obtain rfl : j = 6 := by omega
    refine V0_iload_n (pc := 100) dX12_back_100 rfl ?_
    refine V0_bipush (pc := 101) (6) dX12_back_101 (by decide) ?_
    refine V1_icmp_ge (pc := 103) 124 dX12_back_103 (by decide) (fun h103 => ?_) (fun h103 => ?_)
    · skip
      exact kk
    · skip
      exact absurd (show nI 6 < (6 : Int32) from h103) (by decide)
  | succ f ih =>
    intro j h1
    have hk : nI j < (6 : Int32) := (qI_lt (a := j) (b := 6) (by omega) (by omega)).mpr (by omega)
    refine V0_iload_n (pc := 100) dX12_back_100 rfl ?_
    refine V0_bipush (pc := 101) (6) dX12_back_101 (by decide) ?_
    refine V1_icmp_ge (pc := 103) 124 dX12_back_103 (by decide) (fun h103 => ?_) (fun h103 => ?_)
    · skip
      exact absurd hk h103
    · skip
      refine V0_aload_n (pc := 106) dX12_back_106 rfl ?_
      refine V_getr (pc := 107) dX12_back_107 flX12_90 rfl rfl ?_
      refine V0_iload_n (pc := 110) dX12_back_110 rfl ?_
      refine V0_aload_n (pc := 111) dX12_back_111 rfl ?_
      refine V_getr (pc := 112) dX12_back_112 flX12_102 rfl rfl ?_
      refine V0_iload_n (pc := 115) dX12_back_115 rfl ?_
      refine V_iald (pc := 116) j dX12_back_116 rfl rfl (by omega) ?_
      rw [show px_cp S 85 0 81 0 j 85 j = S 85 j from by rw [px_cp_row (by omega)]]
      refine V_iast (pc := 117) j dX12_back_117 rfl rfl (by omega) ?_
      refine V0_iinc_1 (pc := 118) (nI (j + 1)) dX12_back_118 (by decide) rfl (nI_1 _) ?_
      refine V0_goto (pc := 121) 100 dX12_back_121 (by decide) ?_
      rw [px_cp_s (by omega)]
      exact ih (j + 1) (by omega)
theorem l1_X12_layNow {l : Launch} {S : px_I} {J : px_J} {d n : Nat} {Q : px_Q} (hn : S 54 1 = nI n) (hb : n ≤ 7) (kk : V0 l (px_rm d 0 0) mX12_layNow (false, []) 0 0 28 [.ref 54, .int (nI n)] [] (px_mk (px_cp S 55 0 77 0 n) J) (px_q Q)) : ∀ (f j : Nat), j + f = n → V0 l (px_rm d 0 0) mX12_layNow (false, []) 0 0 2 [.ref 54, .int (nI j)] [] (px_mk (px_cp S 55 0 77 0 j) J) (px_q Q) := by
  intro f
  induction f with
  | zero =>
    intro j h1
    obtain rfl : j = n := by omega
    refine V0_iload_n (pc := 2) dX12_layNow_2 rfl ?_
    refine V0_aload_n (pc := 3) dX12_layNow_3 rfl ?_
    refine V_geti (pc := 4) dX12_layNow_4 flX12_128 rfl rfl ?_
    rw [show px_cp S 55 0 77 0 j 54 1 = nI j from by rw [px_cp_row (by omega)]; exact hn]
    refine V1_icmp_ge (pc := 7) 28 dX12_layNow_7 (by decide) (fun h7 => ?_) (fun h7 => ?_)
    · skip
      exact kk
    · skip
      exact absurd ((qI_lt (a := j) (b := j) (by omega) (by omega)).mp h7) (by omega)
  | succ f ih =>
    intro j h1
    have hk : nI j < nI n := (qI_lt (by omega) (by omega)).mpr (by omega)
    refine V0_iload_n (pc := 2) dX12_layNow_2 rfl ?_
    refine V0_aload_n (pc := 3) dX12_layNow_3 rfl ?_
    refine V_geti (pc := 4) dX12_layNow_4 flX12_128 rfl rfl ?_
    rw [show px_cp S 55 0 77 0 j 54 1 = nI n from by rw [px_cp_row (by omega)]; exact hn]
    refine V1_icmp_ge (pc := 7) 28 dX12_layNow_7 (by decide) (fun h7 => ?_) (fun h7 => ?_)
    · skip
      exact absurd hk h7
    · skip
      refine V0_aload_n (pc := 10) dX12_layNow_10 rfl ?_
      refine V_getr (pc := 11) dX12_layNow_11 flX12_78 rfl rfl ?_
      refine V0_iload_n (pc := 14) dX12_layNow_14 rfl ?_
      refine V0_aload_n (pc := 15) dX12_layNow_15 rfl ?_
      refine V_getr (pc := 16) dX12_layNow_16 flX12_7 rfl rfl ?_
      refine V0_iload_n (pc := 19) dX12_layNow_19 rfl ?_
      refine V_iald (pc := 20) j dX12_layNow_20 rfl rfl (by omega) ?_
      rw [show px_cp S 55 0 77 0 j 55 j = S 55 j from by rw [px_cp_row (by omega)]]
      refine V_iast (pc := 21) j dX12_layNow_21 rfl rfl (by omega) ?_
      refine V0_iinc_1 (pc := 22) (nI (j + 1)) dX12_layNow_22 (by decide) rfl (nI_1 _) ?_
      refine V0_goto (pc := 25) 2 dX12_layNow_25 (by decide) ?_
      rw [px_cp_s (by omega)]
      exact ih (j + 1) (by omega)
theorem l2_X12_layNow {l : Launch} {S : px_I} {J : px_J} {d n : Nat} {Q : px_Q} (hn : S 54 3 = nI n) (hb : n ≤ 10) (kk : V0 l (px_rm d 0 0) mX12_layNow (false, []) 0 0 68 [.ref 54, .int (nI n)] [] (px_mk (px_cp (px_cp S 62 0 78 0 n) 63 0 79 0 n) J) (px_q Q)) : ∀ (f j : Nat), j + f = n → V0 l (px_rm d 0 0) mX12_layNow (false, []) 0 0 30 [.ref 54, .int (nI j)] [] (px_mk (px_cp (px_cp S 62 0 78 0 j) 63 0 79 0 j) J) (px_q Q) := by
  intro f
  induction f with
  | zero =>
    intro j h1
    obtain rfl : j = n := by omega
    refine V0_iload_n (pc := 30) dX12_layNow_30 rfl ?_
    refine V0_aload_n (pc := 31) dX12_layNow_31 rfl ?_
    refine V_geti (pc := 32) dX12_layNow_32 flX12_135 rfl rfl ?_
    rw [show px_cp (px_cp S 62 0 78 0 j) 63 0 79 0 j 54 3 = nI j from by rw [px_cp_row (by omega)]; rw [px_cp_row (by omega)]; exact hn]
    refine V1_icmp_ge (pc := 35) 68 dX12_layNow_35 (by decide) (fun h35 => ?_) (fun h35 => ?_)
    · skip
      exact kk
    · skip
      exact absurd ((qI_lt (a := j) (b := j) (by omega) (by omega)).mp h35) (by omega)
  | succ f ih =>
    intro j h1
    have hk : nI j < nI n := (qI_lt (by omega) (by omega)).mpr (by omega)
    refine V0_iload_n (pc := 30) dX12_layNow_30 rfl ?_
    refine V0_aload_n (pc := 31) dX12_layNow_31 rfl ?_
    refine V_geti (pc := 32) dX12_layNow_32 flX12_135 rfl rfl ?_
    rw [show px_cp (px_cp S 62 0 78 0 j) 63 0 79 0 j 54 3 = nI n from by rw [px_cp_row (by omega)]; rw [px_cp_row (by omega)]; exact hn]
    refine V1_icmp_ge (pc := 35) 68 dX12_layNow_35 (by decide) (fun h35 => ?_) (fun h35 => ?_)
    · skip
      exact absurd hk h35
    · skip
      refine V0_aload_n (pc := 38) dX12_layNow_38 rfl ?_
      refine V_getr (pc := 39) dX12_layNow_39 flX12_81 rfl rfl ?_
      refine V0_iload_n (pc := 42) dX12_layNow_42 rfl ?_
      refine V0_aload_n (pc := 43) dX12_layNow_43 rfl ?_
      refine V_getr (pc := 44) dX12_layNow_44 flX12_31 rfl rfl ?_
      refine V0_iload_n (pc := 47) dX12_layNow_47 rfl ?_
      refine V_iald (pc := 48) j dX12_layNow_48 rfl rfl (by omega) ?_
      rw [show px_cp (px_cp S 62 0 78 0 j) 63 0 79 0 j 62 j = S 62 j from by rw [px_cp_row (by omega), px_cp_row (by omega)]]
      refine V_iast (pc := 49) j dX12_layNow_49 rfl rfl (by omega) ?_
      refine V0_aload_n (pc := 50) dX12_layNow_50 rfl ?_
      refine V_getr (pc := 51) dX12_layNow_51 flX12_84 rfl rfl ?_
      refine V0_iload_n (pc := 54) dX12_layNow_54 rfl ?_
      refine V0_aload_n (pc := 55) dX12_layNow_55 rfl ?_
      refine V_getr (pc := 56) dX12_layNow_56 flX12_34 rfl rfl ?_
      refine V0_iload_n (pc := 59) dX12_layNow_59 rfl ?_
      refine V_iald (pc := 60) j dX12_layNow_60 rfl rfl (by omega) ?_
      rw [show px_up (px_cp (px_cp S 62 0 78 0 j) 63 0 79 0 j) 78 j (S 62 j) 63 j = S 63 j from by rw [px_up_row (by omega), px_cp_row (by omega), px_cp_row (by omega)]]
      refine V_iast (pc := 61) j dX12_layNow_61 rfl rfl (by omega) ?_
      refine V0_iinc_1 (pc := 62) (nI (j + 1)) dX12_layNow_62 (by decide) rfl (nI_1 _) ?_
      refine V0_goto (pc := 65) 30 dX12_layNow_65 (by decide) ?_
      rw [px_cp_ss (by omega) (by omega) (by omega) (by omega) (by omega)]
      exact ih (j + 1) (by omega)
theorem l1_X12_day {l : Launch} {S : px_I} {J : px_J} {d n : Nat} {v1 : Int32} {Q : px_Q} (hn : S 54 3 = nI n) (hb : n ≤ 10) (kk : V0 l (px_rm d 0 0) mX12_day (false, []) 0 0 54 [.ref 54, .int v1, .int (nI n)] [] (px_mk (px_cp (px_cp S 78 0 62 0 n) 79 0 63 0 n) J) (px_q Q)) : ∀ (f j : Nat), j + f = n → V0 l (px_rm d 0 0) mX12_day (false, []) 0 0 16 [.ref 54, .int v1, .int (nI j)] [] (px_mk (px_cp (px_cp S 78 0 62 0 j) 79 0 63 0 j) J) (px_q Q) := by
  intro f
  induction f with
  | zero =>
    intro j h1
    obtain rfl : j = n := by omega
    refine V0_iload_n (pc := 16) dX12_day_16 rfl ?_
    refine V0_aload_n (pc := 17) dX12_day_17 rfl ?_
    refine V_geti (pc := 18) dX12_day_18 flX12_135 rfl rfl ?_
    rw [show px_cp (px_cp S 78 0 62 0 j) 79 0 63 0 j 54 3 = nI j from by rw [px_cp_row (by omega)]; rw [px_cp_row (by omega)]; exact hn]
    refine V1_icmp_ge (pc := 21) 54 dX12_day_21 (by decide) (fun h21 => ?_) (fun h21 => ?_)
    · skip
      exact kk
    · skip
      exact absurd ((qI_lt (a := j) (b := j) (by omega) (by omega)).mp h21) (by omega)
  | succ f ih =>
    intro j h1
    have hk : nI j < nI n := (qI_lt (by omega) (by omega)).mpr (by omega)
    refine V0_iload_n (pc := 16) dX12_day_16 rfl ?_
    refine V0_aload_n (pc := 17) dX12_day_17 rfl ?_
    refine V_geti (pc := 18) dX12_day_18 flX12_135 rfl rfl ?_
    rw [show px_cp (px_cp S 78 0 62 0 j) 79 0 63 0 j 54 3 = nI n from by rw [px_cp_row (by omega)]; rw [px_cp_row (by omega)]; exact hn]
    refine V1_icmp_ge (pc := 21) 54 dX12_day_21 (by decide) (fun h21 => ?_) (fun h21 => ?_)
    · skip
      exact absurd hk h21
    · skip
      refine V0_aload_n (pc := 24) dX12_day_24 rfl ?_
      refine V_getr (pc := 25) dX12_day_25 flX12_31 rfl rfl ?_
      refine V0_iload_n (pc := 28) dX12_day_28 rfl ?_
      refine V0_aload_n (pc := 29) dX12_day_29 rfl ?_
      refine V_getr (pc := 30) dX12_day_30 flX12_81 rfl rfl ?_
      refine V0_iload_n (pc := 33) dX12_day_33 rfl ?_
      refine V_iald (pc := 34) j dX12_day_34 rfl rfl (by omega) ?_
      rw [show px_cp (px_cp S 78 0 62 0 j) 79 0 63 0 j 78 j = S 78 j from by rw [px_cp_row (by omega), px_cp_row (by omega)]]
      refine V_iast (pc := 35) j dX12_day_35 rfl rfl (by omega) ?_
      refine V0_aload_n (pc := 36) dX12_day_36 rfl ?_
      refine V_getr (pc := 37) dX12_day_37 flX12_34 rfl rfl ?_
      refine V0_iload_n (pc := 40) dX12_day_40 rfl ?_
      refine V0_aload_n (pc := 41) dX12_day_41 rfl ?_
      refine V_getr (pc := 42) dX12_day_42 flX12_84 rfl rfl ?_
      refine V0_iload_n (pc := 45) dX12_day_45 rfl ?_
      refine V_iald (pc := 46) j dX12_day_46 rfl rfl (by omega) ?_
      rw [show px_up (px_cp (px_cp S 78 0 62 0 j) 79 0 63 0 j) 62 j (S 78 j) 79 j = S 79 j from by rw [px_up_row (by omega), px_cp_row (by omega), px_cp_row (by omega)]]
      refine V_iast (pc := 47) j dX12_day_47 rfl rfl (by omega) ?_
      refine V0_iinc_2 (pc := 48) (nI (j + 1)) dX12_day_48 (by decide) rfl (nI_1 _) ?_
      refine V0_goto (pc := 51) 16 dX12_day_51 (by decide) ?_
      rw [px_cp_ss (by omega) (by omega) (by omega) (by omega) (by omega)]
      exact ih (j + 1) (by omega)
theorem q4_X12_image {l : Launch} {S : px_I} {J : px_J} {d : Nat} {v : Value} {Q : px_Q} (hQ : Q (some (.int (S 81 1))) S J) : V0 l (px_rm d 0 0) mX12_image (false, []) 0 0 135 [.ref 54, v] [] (px_mk S J) (px_q Q) := by
  refine V0_aload_n (pc := 135) dX12_image_135 rfl ?_
  refine V_getr (pc := 136) dX12_image_136 flX12_90 rfl rfl ?_
  refine V0_iconst (pc := 139) (1) dX12_image_139 (by decide) ?_
  refine V_iald (pc := 140) 1 dX12_image_140 rfl rfl (by omega) ?_
  refine V_reti (pc := 141) _ dX12_image_141 rfl ?_
  exact hQ
theorem q3_X12_image {l : Launch} {S : px_I} {J : px_J} {d : Nat} {v : Value} {Q : px_Q}  (hQ : Q (some (.int (px_cp S 81 0 85 0 6 81 1))) (px_cp S 81 0 85 0 6) J) : V0 l (px_rm d 0 0) mX12_image (false, []) 0 0 109 [.ref 54, v] [] (px_mk S J) (px_q Q) := by
  refine V0_iconst (pc := 109) (0) dX12_image_109 (by decide) ?_
  refine V0_istore_1 (pc := 110) dX12_image_110 (by decide) rfl ?_
  have h := fun kk => l3_X12_image (l := l) (S := S) (J := J) (d := d) (Q := Q)  kk 6 0 (by omega)
  simp only [px_cp_0] at h
  refine h ?_
  exact q4_X12_image hQ
theorem q2_X12_image {l : Launch} {S : px_I} {J : px_J} {d n : Nat} {v : Value} {Q : px_Q} (hn : S 54 3 = nI n) (hn10 : n ≤ 10) (hQ : Q (some (.int (px_cp (px_cp (px_cp S 62 0 83 0 n) 63 0 84 0 n) 81 0 85 0 6 81 1))) (px_cp (px_cp (px_cp S 62 0 83 0 n) 63 0 84 0 n) 81 0 85 0 6) J) : V0 l (px_rm d 0 0) mX12_image (false, []) 0 0 69 [.ref 54, v] [] (px_mk S J) (px_q Q) := by
  refine V0_iconst (pc := 69) (0) dX12_image_69 (by decide) ?_
  refine V0_istore_1 (pc := 70) dX12_image_70 (by decide) rfl ?_
  have h := fun kk => l2_X12_image (l := l) (S := S) (J := J) (d := d) (Q := Q) hn hn10 kk n 0 (by omega)
  simp only [px_cp_0] at h
  refine h ?_
  exact q3_X12_image hQ
theorem q1_X12_image {l : Launch} {S : px_I} {J : px_J} {d m n : Nat} {v : Value} {Q : px_Q} (hm : S 54 1 = nI m) (hm7 : m ≤ 7) (hn : S 54 3 = nI n) (hn10 : n ≤ 10) (hQ : Q (some (.int (px_cp (px_cp (px_cp (px_cp S 55 0 82 0 m) 62 0 83 0 n) 63 0 84 0 n) 81 0 85 0 6 81 1))) (px_cp (px_cp (px_cp (px_cp S 55 0 82 0 m) 62 0 83 0 n) 63 0 84 0 n) 81 0 85 0 6) J) : V0 l (px_rm d 0 0) mX12_image (false, []) 0 0 41 [.ref 54, v] [] (px_mk S J) (px_q Q) := by
  refine V0_iconst (pc := 41) (0) dX12_image_41 (by decide) ?_
  refine V0_istore_1 (pc := 42) dX12_image_42 (by decide) rfl ?_
  have h := fun kk => l1_X12_image (l := l) (S := S) (J := J) (d := d) (Q := Q) hm hm7 kk m 0 (by omega)
  simp only [px_cp_0] at h
  refine h ?_
  exact q2_X12_image (by rw [px_cp_row (by omega)]; exact hn) hn10 hQ

def m_im0 (I : px_I) (m n : Nat) : px_I := px_up (px_up (px_up (px_up (px_up I 54 42 1) 54 43 (nI m)) 54 44 (nI n)) 54 45 (I 64 0)) 54 46 (I 64 3)
def m_im (S : px_I) (m n : Nat) : px_I := px_cp (px_cp (px_cp (px_cp S 55 0 82 0 m) 62 0 83 0 n) 63 0 84 0 n) 81 0 85 0 6
theorem m_im0_row {I : px_I} {m n q : Nat} (h : q ≠ 54) : m_im0 I m n q = I q := by unfold m_im0; rw [px_up_row h, px_up_row h, px_up_row h, px_up_row h, px_up_row h]
theorem m_im_row {S : px_I} {m n q : Nat} (h : q < 82 ∨ 85 < q) : m_im S m n q = S q := by unfold m_im; rw [px_cp_row (by omega), px_cp_row (by omega), px_cp_row (by omega), px_cp_row (by omega)]
theorem c_X12_image {l : Launch} {I : px_I} {J : px_J} {m n : Nat} (hm : I 54 1 = nI m) (hm7 : m ≤ 7) (hn : I 54 3 = nI n) (hn10 : n ≤ 10) : Ct l mX12_image 0 [.ref 54] I J (px_qi (I 81 1) (m_im (m_im0 I m n) m n) J) := by
  refine Ct.of plX12_image (Nat.le_of_ble_eq_true rfl) [.ref 54, .null] rfl ?_
  refine V0_aload_n (pc := 0) dX12_image_0 rfl ?_
  refine V0_iconst (pc := 1) (1) dX12_image_1 (by decide) ?_
  refine V_putz (pc := 2) dX12_image_2 flX12_368 rfl rfl (Or.inr rfl) ?_
  refine V0_aload_n (pc := 5) dX12_image_5 rfl ?_
  refine V0_aload_n (pc := 6) dX12_image_6 rfl ?_
  refine V_geti (pc := 7) dX12_image_7 flX12_128 rfl rfl ?_
  rw [show px_up I 54 42 1 54 1 = nI m from hm]
  refine V_puti (pc := 10) dX12_image_10 flX12_371 rfl rfl ?_
  refine V0_aload_n (pc := 13) dX12_image_13 rfl ?_
  refine V0_aload_n (pc := 14) dX12_image_14 rfl ?_
  refine V_geti (pc := 15) dX12_image_15 flX12_135 rfl rfl ?_
  rw [show px_up (px_up I 54 42 1) 54 43 (nI m) 54 3 = nI n from hn]
  refine V_puti (pc := 18) dX12_image_18 flX12_374 rfl rfl ?_
  refine V0_aload_n (pc := 21) dX12_image_21 rfl ?_
  refine V0_aload_n (pc := 22) dX12_image_22 rfl ?_
  refine V_getr (pc := 23) dX12_image_23 flX12_37 rfl rfl ?_
  refine V0_iconst (pc := 26) (0) dX12_image_26 (by decide) ?_
  refine V_iald (pc := 27) 0 dX12_image_27 rfl rfl (by omega) ?_
  refine V_puti (pc := 28) dX12_image_28 flX12_377 rfl rfl ?_
  refine V0_aload_n (pc := 31) dX12_image_31 rfl ?_
  refine V0_aload_n (pc := 32) dX12_image_32 rfl ?_
  refine V_getr (pc := 33) dX12_image_33 flX12_37 rfl rfl ?_
  refine V0_iconst (pc := 36) (3) dX12_image_36 (by decide) ?_
  refine V_iald (pc := 37) 3 dX12_image_37 rfl rfl (by omega) ?_
  refine V_puti (pc := 38) dX12_image_38 flX12_380 rfl rfl ?_
  exact q1_X12_image (S := m_im0 I m n) hm hm7 hn hn10 ⟨congrArg (fun z => some (Value.int z)) ((congrFun (m_im_row (Or.inl (by omega))) 1).trans (congrFun (m_im0_row (by omega)) 1)), rfl, rfl⟩
theorem q4_X12_back {l : Launch} {S : px_I} {J : px_J} {d : Nat} {v : Value} {Q : px_Q} (hQ : Q (some (.int (S 81 1))) S J) : V0 l (px_rm d 0 0) mX12_back (false, []) 0 0 124 [.ref 54, v] [] (px_mk S J) (px_q Q) := by
  refine V0_aload_n (pc := 124) dX12_back_124 rfl ?_
  refine V_getr (pc := 125) dX12_back_125 flX12_90 rfl rfl ?_
  refine V0_iconst (pc := 128) (1) dX12_back_128 (by decide) ?_
  refine V_iald (pc := 129) 1 dX12_back_129 rfl rfl (by omega) ?_
  refine V_reti (pc := 130) _ dX12_back_130 rfl ?_
  exact hQ
theorem q3_X12_back {l : Launch} {S : px_I} {J : px_J} {d : Nat} {v : Value} {Q : px_Q}  (hQ : Q (some (.int (px_cp S 85 0 81 0 6 81 1))) (px_cp S 85 0 81 0 6) J) : V0 l (px_rm d 0 0) mX12_back (false, []) 0 0 98 [.ref 54, v] [] (px_mk S J) (px_q Q) := by
  refine V0_iconst (pc := 98) (0) dX12_back_98 (by decide) ?_
  refine V0_istore_1 (pc := 99) dX12_back_99 (by decide) rfl ?_
  have h := fun kk => l3_X12_back (l := l) (S := S) (J := J) (d := d) (Q := Q)  kk 6 0 (by omega)
  simp only [px_cp_0] at h
  refine h ?_
  exact q4_X12_back hQ
theorem q2_X12_back {l : Launch} {S : px_I} {J : px_J} {d n : Nat} {v : Value} {Q : px_Q} (hn : S 54 44 = nI n) (hn10 : n ≤ 10) (hQ : Q (some (.int (px_cp (px_cp (px_cp S 83 0 62 0 n) 84 0 63 0 n) 85 0 81 0 6 81 1))) (px_cp (px_cp (px_cp S 83 0 62 0 n) 84 0 63 0 n) 85 0 81 0 6) J) : V0 l (px_rm d 0 0) mX12_back (false, []) 0 0 58 [.ref 54, v] [] (px_mk S J) (px_q Q) := by
  refine V0_iconst (pc := 58) (0) dX12_back_58 (by decide) ?_
  refine V0_istore_1 (pc := 59) dX12_back_59 (by decide) rfl ?_
  have h := fun kk => l2_X12_back (l := l) (S := S) (J := J) (d := d) (Q := Q) hn hn10 kk n 0 (by omega)
  simp only [px_cp_0] at h
  refine h ?_
  exact q3_X12_back hQ
theorem q1_X12_back {l : Launch} {S : px_I} {J : px_J} {d m n : Nat} {v : Value} {Q : px_Q} (hm : S 54 43 = nI m) (hm7 : m ≤ 7) (hn : S 54 44 = nI n) (hn10 : n ≤ 10) (hQ : Q (some (.int (px_cp (px_cp (px_cp (px_cp S 82 0 55 0 m) 83 0 62 0 n) 84 0 63 0 n) 85 0 81 0 6 81 1))) (px_cp (px_cp (px_cp (px_cp S 82 0 55 0 m) 83 0 62 0 n) 84 0 63 0 n) 85 0 81 0 6) J) : V0 l (px_rm d 0 0) mX12_back (false, []) 0 0 30 [.ref 54, v] [] (px_mk S J) (px_q Q) := by
  refine V0_iconst (pc := 30) (0) dX12_back_30 (by decide) ?_
  refine V0_istore_1 (pc := 31) dX12_back_31 (by decide) rfl ?_
  have h := fun kk => l1_X12_back (l := l) (S := S) (J := J) (d := d) (Q := Q) hm hm7 kk m 0 (by omega)
  simp only [px_cp_0] at h
  refine h ?_
  exact q2_X12_back (by rw [px_cp_row (by omega)]; exact hn) hn10 hQ

def m_bk0 (I : px_I) : px_I := px_up (px_up I 64 0 (I 54 45)) 64 3 (I 54 46)
def m_bk (S : px_I) (m n : Nat) : px_I := px_cp (px_cp (px_cp (px_cp S 82 0 55 0 m) 83 0 62 0 n) 84 0 63 0 n) 85 0 81 0 6
theorem c_X12_back {l : Launch} {I : px_I} {J : px_J} {m n : Nat} (hm : I 54 43 = nI m) (hm7 : m ≤ 7) (hn : I 54 44 = nI n) (hn10 : n ≤ 10) : Ct l mX12_back 0 [.ref 54] I J (px_qi (if I 54 42 = 0 then -5 else m_bk (m_bk0 I) m n 81 1) (if I 54 42 = 0 then I else m_bk (m_bk0 I) m n) J) := by
  refine Ct.of plX12_back (Nat.le_of_ble_eq_true rfl) [.ref 54, .null] rfl ?_
  refine V0_aload_n (pc := 0) dX12_back_0 rfl ?_
  refine V_geti (pc := 1) dX12_back_1 flX12_368 rfl rfl ?_
  refine V0_if_ne (pc := 4) 10 dX12_back_4 (by decide) (fun h4 => ?_) (fun h4 => ?_)
  · skip
    refine V0_aload_n (pc := 10) dX12_back_10 rfl ?_
    refine V_getr (pc := 11) dX12_back_11 flX12_37 rfl rfl ?_
    refine V0_iconst (pc := 14) (0) dX12_back_14 (by decide) ?_
    refine V0_aload_n (pc := 15) dX12_back_15 rfl ?_
    refine V_geti (pc := 16) dX12_back_16 flX12_377 rfl rfl ?_
    refine V_iast (pc := 19) 0 dX12_back_19 rfl rfl (by omega) ?_
    refine V0_aload_n (pc := 20) dX12_back_20 rfl ?_
    refine V_getr (pc := 21) dX12_back_21 flX12_37 rfl rfl ?_
    refine V0_iconst (pc := 24) (3) dX12_back_24 (by decide) ?_
    refine V0_aload_n (pc := 25) dX12_back_25 rfl ?_
    refine V_geti (pc := 26) dX12_back_26 flX12_380 rfl rfl ?_
    refine V_iast (pc := 29) 3 dX12_back_29 rfl rfl (by omega) ?_
    exact q1_X12_back (S := m_bk0 I) hm hm7 hn hn10 ⟨by rw [if_neg h4]; rfl, by rw [if_neg h4]; rfl, rfl⟩
  · skip
    refine V0_bipush (pc := 7) (-5) dX12_back_7 (by decide) ?_
    refine V_reti (pc := 9) _ dX12_back_9 rfl ?_
    exact ⟨by rw [if_pos h4] <;> rfl, by rw [if_pos h4], rfl⟩
/-! the lane in thought is laid -/
theorem q2_X12_layNow {l : Launch} {S : px_I} {J : px_J} {d : Nat} {v : Value} {Q : px_Q} (hQ : Q none (px_up (px_up (px_up (px_up S 54 36 (S 64 0)) 54 37 (S 64 3)) 54 38 0) 54 39 0) J) : V0 l (px_rm d 0 0) mX12_layNow (false, []) 0 0 68 [.ref 54, v] [] (px_mk S J) (px_q Q) := by
  refine V0_aload_n (pc := 68) dX12_layNow_68 rfl ?_
  refine V0_aload_n (pc := 69) dX12_layNow_69 rfl ?_
  refine V_getr (pc := 70) dX12_layNow_70 flX12_37 rfl rfl ?_
  refine V0_iconst (pc := 73) (0) dX12_layNow_73 (by decide) ?_
  refine V_iald (pc := 74) 0 dX12_layNow_74 rfl rfl (by omega) ?_
  refine V_puti (pc := 75) dX12_layNow_75 flX12_255 rfl rfl ?_
  refine V0_aload_n (pc := 78) dX12_layNow_78 rfl ?_
  refine V0_aload_n (pc := 79) dX12_layNow_79 rfl ?_
  refine V_getr (pc := 80) dX12_layNow_80 flX12_37 rfl rfl ?_
  refine V0_iconst (pc := 83) (3) dX12_layNow_83 (by decide) ?_
  refine V_iald (pc := 84) 3 dX12_layNow_84 rfl rfl (by omega) ?_
  refine V_puti (pc := 85) dX12_layNow_85 flX12_258 rfl rfl ?_
  refine V0_aload_n (pc := 88) dX12_layNow_88 rfl ?_
  refine V0_iconst (pc := 89) (0) dX12_layNow_89 (by decide) ?_
  refine V_puti (pc := 90) dX12_layNow_90 flX12_261 rfl rfl ?_
  refine V0_aload_n (pc := 93) dX12_layNow_93 rfl ?_
  refine V0_iconst (pc := 94) (0) dX12_layNow_94 (by decide) ?_
  refine V_puti (pc := 95) dX12_layNow_95 flX12_264 rfl rfl ?_
  refine V_retv (pc := 98) dX12_layNow_98 rfl ?_
  exact hQ
theorem q1_X12_layNow {l : Launch} {S : px_I} {J : px_J} {d n : Nat} {v : Value} {Q : px_Q} (hn : S 54 3 = nI n) (hn10 : n ≤ 10) (hQ : Q none (px_up (px_up (px_up (px_up (px_cp (px_cp S 62 0 78 0 n) 63 0 79 0 n) 54 36 ((px_cp (px_cp S 62 0 78 0 n) 63 0 79 0 n) 64 0)) 54 37 ((px_cp (px_cp S 62 0 78 0 n) 63 0 79 0 n) 64 3)) 54 38 0) 54 39 0) J) : V0 l (px_rm d 0 0) mX12_layNow (false, []) 0 0 28 [.ref 54, v] [] (px_mk S J) (px_q Q) := by
  refine V0_iconst (pc := 28) (0) dX12_layNow_28 (by decide) ?_
  refine V0_istore_1 (pc := 29) dX12_layNow_29 (by decide) rfl ?_
  have h := fun kk => l2_X12_layNow (l := l) (S := S) (J := J) (d := d) (Q := Q) hn hn10 kk n 0 (by omega)
  simp only [px_cp_0] at h
  refine h ?_
  exact q2_X12_layNow hQ

def m_cp (S : px_I) (m n : Nat) : px_I := px_cp (px_cp (px_cp S 55 0 77 0 m) 62 0 78 0 n) 63 0 79 0 n
def m_lay (I : px_I) (m n : Nat) : px_I := px_up (px_up (px_up (px_up (m_cp I m n) 54 36 (I 64 0)) 54 37 (I 64 3)) 54 38 0) 54 39 0
theorem m_cp_row {S : px_I} {m n q : Nat} (h : q < 77 ∨ 79 < q) : m_cp S m n q = S q := by unfold m_cp; rw [px_cp_row (by omega), px_cp_row (by omega), px_cp_row (by omega)]
theorem m_lay_row {S : px_I} {m n q : Nat} (h : q < 77 ∨ 79 < q) (h2 : q ≠ 54) : m_lay S m n q = S q := by unfold m_lay; rw [px_up_row h2, px_up_row h2, px_up_row h2, px_up_row h2, m_cp_row h]
/-- people, joys in the Model -/
def m_ok (I : px_I) (m n : Nat) : Prop := I 54 1 = nI m ∧ m ≤ 7 ∧ I 54 3 = nI n ∧ n ≤ 10 ∧ px_ofs (I 56) ∧ (∀ j, j < n → ix (I 56 j) < m) ∧ ¬ I 64 1 = 0
theorem m_ok.of {I I' : px_I} {m n : Nat} (h : m_ok I m n) (h1 : I' 54 1 = I 54 1) (h3 : I' 54 3 = I 54 3) (h2 : I' 56 = I 56) (h4 : I' 64 = I 64) : m_ok I' m n := by
  unfold m_ok; rw [h1, h2, h3, h4]; exact h
theorem m_ok_lay {I : px_I} {m n : Nat} (h : m_ok I m n) : m_ok (m_lay I m n) m n := by
  refine h.of ?_ ?_ (m_lay_row (by omega) (by omega)) (m_lay_row (by omega) (by omega))
  · unfold m_lay; rw [px_up_ne (by omega), px_up_ne (by omega), px_up_ne (by omega), px_up_ne (by omega), m_cp_row (by omega)]
  · unfold m_lay; rw [px_up_ne (by omega), px_up_ne (by omega), px_up_ne (by omega), px_up_ne (by omega), m_cp_row (by omega)]
theorem c_X12_layNow {l : Launch} {I : px_I} {J : px_J} {m n : Nat} (hk : m_ok I m n) : Ct l mX12_layNow 0 [.ref 54] I J (px_qs (m_lay I m n) J) := by
  refine Ct.of plX12_layNow (Nat.le_of_ble_eq_true rfl) [.ref 54, .null] rfl ?_
  refine V0_iconst (pc := 0) (0) dX12_layNow_0 (by decide) ?_
  refine V0_istore_1 (pc := 1) dX12_layNow_1 (by decide) rfl ?_
  have h := fun kk => l1_X12_layNow (l := l) (S := I) (J := J) (d := 0) (Q := px_qs (m_lay I m n) J) hk.1 hk.2.1 kk m 0 (by omega)
  simp only [px_cp_0] at h
  refine h ?_
  exact q1_X12_layNow (by rw [px_cp_row (by omega)]; exact hk.2.2.1) hk.2.2.2.1 ⟨rfl, rfl, rfl⟩

