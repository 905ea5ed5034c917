/-! the Model: the reader's levels -/
/-- what is owed of a method of the reader, of a state -/
def m_C (l : Launch) (J : px_J) (M : px_M) (d : Nat) (I : px_I) (R : px_I → Prop) : Prop := Ct l M d [.ref 54] I J (fun x I' J' => x = none ∧ J' = J ∧ R I')
theorem m_by {w : Int32} (h : w = 37 ∨ w = 38 ∨ w = 42 ∨ w = 43 ∨ w = 45 ∨ w = 47 ∨ w = 60 ∨ w = 61 ∨ w = 62 ∨ w = 124) : vp_nar .byte w.toInt8.toInt32 = w := by
  rcases h with e | e | e | e | e | e | e | e | e | e <;> subst e <;> decide
theorem m_go_fr {k : Nat} {I : px_I} {x : Int32} : m_fr k I (px_up I 54 21 x) := m_fr.rf.up54 (by omega)

theorem E_product {l : Launch} {J : px_J} {D : Nat} {t : Nat → Int32} {n a k : Nat} {I : px_I} {v : Value} {Q : px_Q} (h : m_d t n a k I) (hQ : Q none I J) : V0 l (px_rm (D + 1) 0 0) mX12_product (false, []) 0 0 4 [.ref 54, v] [] (px_mk I J) (px_q Q) := by
  have hn120 := h.2.1
  have han := h.2.2.2.1
  refine V0_aload_n (pc := 4) dX12_product_4 rfl ?_
  refine V_geti (pc := 5) dX12_product_5 flX12_190 rfl rfl ?_
  rw [h.2.2.2.2.1]
  refine V1_if_ge (pc := 8) 66 dX12_product_8 (by decide) (fun h8 => ?_) (fun h8 => ?_)
  · skip
    refine V_retv (pc := 66) dX12_product_66 rfl ?_
    exact hQ
  · skip
    exact absurd h8 (nI_nn (by omega))
theorem S_product {l : Launch} {J : px_J} {D : Nat} {t : Nat → Int32} {n a k r : Nat} {I : px_I} {v : Value} {Q : px_Q} (h : m_s t n a k r I) (n42 : ¬ m_T t n a = 42) (n47 : ¬ m_T t n a = 47) (n37 : ¬ m_T t n a = 37) (hQ : Q none I J) : V0 l (px_rm (D + 1) 0 0) mX12_product (false, []) 0 0 4 [.ref 54, v] [] (px_mk I J) (px_q Q) := by
  have hl := h.at (l := l) (J := J)
  refine V0_aload_n (pc := 4) dX12_product_4 rfl ?_
  refine V_geti (pc := 5) dX12_product_5 flX12_190 rfl rfl ?_
  rw [h.2.2.2.2.1]
  refine V1_if_ge (pc := 8) 66 dX12_product_8 (by decide) (fun h8 => ?_) (fun h8 => ?_)
  · skip
    exact absurd (by decide) h8
  · skip
    refine V0_aload_n (pc := 11) dX12_product_11 rfl ?_
    refine V_callVi (pc := 12) (M' := mX12_look) dX12_product_12 mlX12_202 okX12_look rfl hl rfl rfl rfl rfl (px_hr (by omega) (by decide)) ⟨Nat.le_refl 0, Nat.le_refl 0⟩ (Nat.le_of_ble_eq_true rfl) ?_
    refine V0_bipush (pc := 15) (42) dX12_product_15 (by decide) ?_
    refine V0_icmp_eq (pc := 17) 38 dX12_product_17 (by decide) (fun h17 => ?_) (fun h17 => ?_)
    · skip
      exact absurd h17 n42
    · skip
      refine V0_aload_n (pc := 20) dX12_product_20 rfl ?_
      refine V_callVi (pc := 21) (M' := mX12_look) dX12_product_21 mlX12_202 okX12_look rfl hl rfl rfl rfl rfl (px_hr (by omega) (by decide)) ⟨Nat.le_refl 0, Nat.le_refl 0⟩ (Nat.le_of_ble_eq_true rfl) ?_
      refine V0_bipush (pc := 24) (47) dX12_product_24 (by decide) ?_
      refine V0_icmp_eq (pc := 26) 38 dX12_product_26 (by decide) (fun h26 => ?_) (fun h26 => ?_)
      · skip
        exact absurd h26 n47
      · skip
        refine V0_aload_n (pc := 29) dX12_product_29 rfl ?_
        refine V_callVi (pc := 30) (M' := mX12_look) dX12_product_30 mlX12_202 okX12_look rfl hl rfl rfl rfl rfl (px_hr (by omega) (by decide)) ⟨Nat.le_refl 0, Nat.le_refl 0⟩ (Nat.le_of_ble_eq_true rfl) ?_
        refine V0_bipush (pc := 33) (37) dX12_product_33 (by decide) ?_
        refine V0_icmp_ne (pc := 35) 66 dX12_product_35 (by decide) (fun h35 => ?_) (fun h35 => ?_)
        · skip
          refine V_retv (pc := 66) dX12_product_66 rfl ?_
          exact hQ
        · skip
          exact absurd h35 n37
theorem G_product {l : Launch} {J : px_J} {D : Nat} {t : Nat → Int32} {n a k r : Nat} {I : px_I} {v : Value} {w : Int32} {R : px_I → Prop} {Q : px_Q} (h : m_s t n a k r I) (hTw : m_T t n a = w) (hw : w = 42 ∨ w = 47 ∨ w = 37) (hc : m_C l J mX12_operand (D + 1) (px_up I 54 21 (nI (a + 1))) R) (hadd : ∀ X, R X → ∃ k1, k1 < 130 ∧ X 54 24 = nI k1) (kk : ∀ X k1, R X → k1 < 130 → X 54 24 = nI k1 → V0 l (px_rm (D + 2) 0 0) mX12_product (false, []) 0 0 4 [.ref 54, .int w] [] (px_mk (m_addS X k1 w 0) J) (px_q Q)) : V0 l (px_rm (D + 2) 0 0) mX12_product (false, []) 0 0 4 [.ref 54, v] [] (px_mk I J) (px_q Q) := by
  have hl := h.at (l := l) (J := J)
  have hbw : vp_nar .byte w.toInt8.toInt32 = w := m_by (by rcases hw with e | e | e <;> rw [e] <;> decide)
  refine V0_aload_n (pc := 4) dX12_product_4 rfl ?_
  refine V_geti (pc := 5) dX12_product_5 flX12_190 rfl rfl ?_
  rw [h.2.2.2.2.1]
  refine V1_if_ge (pc := 8) 66 dX12_product_8 (by decide) (fun h8 => ?_) (fun h8 => ?_)
  · skip
    exact absurd (by decide) h8
  · skip
    refine V0_aload_n (pc := 11) dX12_product_11 rfl ?_
    refine V_callVi (pc := 12) (M' := mX12_look) dX12_product_12 mlX12_202 okX12_look rfl hl rfl rfl rfl rfl (px_hr (by omega) (by decide)) ⟨Nat.le_refl 0, Nat.le_refl 0⟩ (Nat.le_of_ble_eq_true rfl) ?_
    refine V0_bipush (pc := 15) (42) dX12_product_15 (by decide) ?_
    refine V0_icmp_eq (pc := 17) 38 dX12_product_17 (by decide) (fun h17 => ?_) (fun h17 => ?_)
    · skip
      refine V0_aload_n (pc := 38) dX12_product_38 rfl ?_
      refine V_callVi (pc := 39) (M' := mX12_look) dX12_product_39 mlX12_202 okX12_look rfl hl rfl rfl rfl rfl (px_hr (by omega) (by decide)) ⟨Nat.le_refl 0, Nat.le_refl 0⟩ (Nat.le_of_ble_eq_true rfl) ?_
      rw [hTw]
      refine V0_istore_1 (pc := 42) dX12_product_42 (by decide) rfl ?_
      refine V0_aload_n (pc := 43) dX12_product_43 rfl ?_
      refine V0_dup (pc := 44) dX12_product_44 rfl ?_
      refine V_geti (pc := 45) dX12_product_45 flX12_187 rfl rfl ?_
      refine V0_iconst (pc := 48) (1) dX12_product_48 (by decide) ?_
      refine V0_iadd (pc := 49) dX12_product_49 ?_
      rw [h.2.2.1, nI_1]
      refine V_puti (pc := 50) dX12_product_50 flX12_187 rfl rfl ?_
      refine V0_aload_n (pc := 53) dX12_product_53 rfl ?_
      refine V_callV (pc := 54) (M' := mX12_operand) dX12_product_54 mlX12_218 okX12_operand rfl hc rfl rfl rfl rfl (px_hr (by omega) (by decide)) ⟨Nat.le_refl 0, Nat.le_refl 0⟩ (Nat.le_of_ble_eq_true rfl) ?_
      intro r1 I1 J1 hh
      obtain ⟨e1, e3, ho⟩ := hh
      rw [e1, e3]
      clear e1 e3 r1 J1
      obtain ⟨k1, hk1, hk2⟩ := hadd I1 ho
      have ha := c_X12_addStep (l := l) (J := J) (v := 0) hk2 hk1 hbw
      refine V0_aload_n (pc := 57) dX12_product_57 rfl ?_
      refine V0_iload_n (pc := 58) dX12_product_58 rfl ?_
      refine V0_iconst (pc := 59) (0) dX12_product_59 (by decide) ?_
      refine V_callV (pc := 60) (M' := mX12_addStep) dX12_product_60 mlX12_206 okX12_addStep rfl ha rfl rfl rfl rfl (px_hr (by omega) (by decide)) ⟨Nat.le_refl 0, Nat.le_refl 0⟩ (Nat.le_of_ble_eq_true rfl) ?_
      intro r1 I1 J1 hh
      obtain ⟨e1, e2, e3⟩ := hh
      rw [e1, e2, e3]
      clear e1 e2 e3 r1 J1
      refine V0_goto (pc := 63) 4 dX12_product_63 (by decide) ?_
      exact kk _ _ ho hk1 hk2
    · skip
      refine V0_aload_n (pc := 20) dX12_product_20 rfl ?_
      refine V_callVi (pc := 21) (M' := mX12_look) dX12_product_21 mlX12_202 okX12_look rfl hl rfl rfl rfl rfl (px_hr (by omega) (by decide)) ⟨Nat.le_refl 0, Nat.le_refl 0⟩ (Nat.le_of_ble_eq_true rfl) ?_
      refine V0_bipush (pc := 24) (47) dX12_product_24 (by decide) ?_
      refine V0_icmp_eq (pc := 26) 38 dX12_product_26 (by decide) (fun h26 => ?_) (fun h26 => ?_)
      · skip
        refine V0_aload_n (pc := 38) dX12_product_38 rfl ?_
        refine V_callVi (pc := 39) (M' := mX12_look) dX12_product_39 mlX12_202 okX12_look rfl hl rfl rfl rfl rfl (px_hr (by omega) (by decide)) ⟨Nat.le_refl 0, Nat.le_refl 0⟩ (Nat.le_of_ble_eq_true rfl) ?_
        rw [hTw]
        refine V0_istore_1 (pc := 42) dX12_product_42 (by decide) rfl ?_
        refine V0_aload_n (pc := 43) dX12_product_43 rfl ?_
        refine V0_dup (pc := 44) dX12_product_44 rfl ?_
        refine V_geti (pc := 45) dX12_product_45 flX12_187 rfl rfl ?_
        refine V0_iconst (pc := 48) (1) dX12_product_48 (by decide) ?_
        refine V0_iadd (pc := 49) dX12_product_49 ?_
        rw [h.2.2.1, nI_1]
        refine V_puti (pc := 50) dX12_product_50 flX12_187 rfl rfl ?_
        refine V0_aload_n (pc := 53) dX12_product_53 rfl ?_
        refine V_callV (pc := 54) (M' := mX12_operand) dX12_product_54 mlX12_218 okX12_operand rfl hc rfl rfl rfl rfl (px_hr (by omega) (by decide)) ⟨Nat.le_refl 0, Nat.le_refl 0⟩ (Nat.le_of_ble_eq_true rfl) ?_
        intro r1 I1 J1 hh
        obtain ⟨e1, e3, ho⟩ := hh
        rw [e1, e3]
        clear e1 e3 r1 J1
        obtain ⟨k1, hk1, hk2⟩ := hadd I1 ho
        have ha := c_X12_addStep (l := l) (J := J) (v := 0) hk2 hk1 hbw
        refine V0_aload_n (pc := 57) dX12_product_57 rfl ?_
        refine V0_iload_n (pc := 58) dX12_product_58 rfl ?_
        refine V0_iconst (pc := 59) (0) dX12_product_59 (by decide) ?_
        refine V_callV (pc := 60) (M' := mX12_addStep) dX12_product_60 mlX12_206 okX12_addStep rfl ha rfl rfl rfl rfl (px_hr (by omega) (by decide)) ⟨Nat.le_refl 0, Nat.le_refl 0⟩ (Nat.le_of_ble_eq_true rfl) ?_
        intro r1 I1 J1 hh
        obtain ⟨e1, e2, e3⟩ := hh
        rw [e1, e2, e3]
        clear e1 e2 e3 r1 J1
        refine V0_goto (pc := 63) 4 dX12_product_63 (by decide) ?_
        exact kk _ _ ho hk1 hk2
      · skip
        refine V0_aload_n (pc := 29) dX12_product_29 rfl ?_
        refine V_callVi (pc := 30) (M' := mX12_look) dX12_product_30 mlX12_202 okX12_look rfl hl rfl rfl rfl rfl (px_hr (by omega) (by decide)) ⟨Nat.le_refl 0, Nat.le_refl 0⟩ (Nat.le_of_ble_eq_true rfl) ?_
        refine V0_bipush (pc := 33) (37) dX12_product_33 (by decide) ?_
        refine V0_icmp_ne (pc := 35) 66 dX12_product_35 (by decide) (fun h35 => ?_) (fun h35 => ?_)
        · skip
          rcases hw with e | e | e
          · exact absurd (hTw.trans e) h17
          · exact absurd (hTw.trans e) h26
          · exact absurd (hTw.trans e) h35
        · skip
          refine V0_aload_n (pc := 38) dX12_product_38 rfl ?_
          refine V_callVi (pc := 39) (M' := mX12_look) dX12_product_39 mlX12_202 okX12_look rfl hl rfl rfl rfl rfl (px_hr (by omega) (by decide)) ⟨Nat.le_refl 0, Nat.le_refl 0⟩ (Nat.le_of_ble_eq_true rfl) ?_
          rw [hTw]
          refine V0_istore_1 (pc := 42) dX12_product_42 (by decide) rfl ?_
          refine V0_aload_n (pc := 43) dX12_product_43 rfl ?_
          refine V0_dup (pc := 44) dX12_product_44 rfl ?_
          refine V_geti (pc := 45) dX12_product_45 flX12_187 rfl rfl ?_
          refine V0_iconst (pc := 48) (1) dX12_product_48 (by decide) ?_
          refine V0_iadd (pc := 49) dX12_product_49 ?_
          rw [h.2.2.1, nI_1]
          refine V_puti (pc := 50) dX12_product_50 flX12_187 rfl rfl ?_
          refine V0_aload_n (pc := 53) dX12_product_53 rfl ?_
          refine V_callV (pc := 54) (M' := mX12_operand) dX12_product_54 mlX12_218 okX12_operand rfl hc rfl rfl rfl rfl (px_hr (by omega) (by decide)) ⟨Nat.le_refl 0, Nat.le_refl 0⟩ (Nat.le_of_ble_eq_true rfl) ?_
          intro r1 I1 J1 hh
          obtain ⟨e1, e3, ho⟩ := hh
          rw [e1, e3]
          clear e1 e3 r1 J1
          obtain ⟨k1, hk1, hk2⟩ := hadd I1 ho
          have ha := c_X12_addStep (l := l) (J := J) (v := 0) hk2 hk1 hbw
          refine V0_aload_n (pc := 57) dX12_product_57 rfl ?_
          refine V0_iload_n (pc := 58) dX12_product_58 rfl ?_
          refine V0_iconst (pc := 59) (0) dX12_product_59 (by decide) ?_
          refine V_callV (pc := 60) (M' := mX12_addStep) dX12_product_60 mlX12_206 okX12_addStep rfl ha rfl rfl rfl rfl (px_hr (by omega) (by decide)) ⟨Nat.le_refl 0, Nat.le_refl 0⟩ (Nat.le_of_ble_eq_true rfl) ?_
          intro r1 I1 J1 hh
          obtain ⟨e1, e2, e3⟩ := hh
          rw [e1, e2, e3]
          clear e1 e2 e3 r1 J1
          refine V0_goto (pc := 63) 4 dX12_product_63 (by decide) ?_
          exact kk _ _ ho hk1 hk2
theorem C_product {l : Launch} {J : px_J} {D : Nat} {I : px_I} {R : px_I → Prop} {R2 : px_I → Prop} (hc : m_C l J mX12_operand (D + 1) I R) (kk : ∀ X, R X → V0 l (px_rm (D + 2) 0 0) mX12_product (false, []) 0 0 4 [.ref 54, .null] [] (px_mk X J) (px_q (fun x I' J' => x = none ∧ J' = J ∧ R2 I'))) : m_C l J mX12_product (D + 2) I R2 := by
  unfold m_C
  refine Ct.of plX12_product (Nat.le_of_ble_eq_true rfl) [.ref 54, .null] rfl ?_
  refine V0_aload_n (pc := 0) dX12_product_0 rfl ?_
  refine V_callV (pc := 1) (M' := mX12_operand) dX12_product_1 mlX12_218 okX12_operand rfl hc rfl rfl rfl rfl (px_hr (by omega) (by decide)) ⟨Nat.le_refl 0, Nat.le_refl 0⟩ (Nat.le_of_ble_eq_true rfl) ?_
  intro r1 I1 J1 hh
  obtain ⟨e1, e3, ho⟩ := hh
  rw [e1, e3]
  clear e1 e3 r1 J1
  exact kk _ ho
theorem E_sum {l : Launch} {J : px_J} {D : Nat} {t : Nat → Int32} {n a k : Nat} {I : px_I} {v : Value} {Q : px_Q} (h : m_d t n a k I) (hQ : Q none I J) : V0 l (px_rm (D + 1) 0 0) mX12_sum (false, []) 0 0 4 [.ref 54, v] [] (px_mk I J) (px_q Q) := by
  have hn120 := h.2.1
  have han := h.2.2.2.1
  refine V0_aload_n (pc := 4) dX12_sum_4 rfl ?_
  refine V_geti (pc := 5) dX12_sum_5 flX12_190 rfl rfl ?_
  rw [h.2.2.2.2.1]
  refine V1_if_ge (pc := 8) 57 dX12_sum_8 (by decide) (fun h8 => ?_) (fun h8 => ?_)
  · skip
    refine V_retv (pc := 57) dX12_sum_57 rfl ?_
    exact hQ
  · skip
    exact absurd h8 (nI_nn (by omega))
theorem S_sum {l : Launch} {J : px_J} {D : Nat} {t : Nat → Int32} {n a k r : Nat} {I : px_I} {v : Value} {Q : px_Q} (h : m_s t n a k r I) (n43 : ¬ m_T t n a = 43) (n45 : ¬ m_T t n a = 45) (hQ : Q none I J) : V0 l (px_rm (D + 1) 0 0) mX12_sum (false, []) 0 0 4 [.ref 54, v] [] (px_mk I J) (px_q Q) := by
  have hl := h.at (l := l) (J := J)
  refine V0_aload_n (pc := 4) dX12_sum_4 rfl ?_
  refine V_geti (pc := 5) dX12_sum_5 flX12_190 rfl rfl ?_
  rw [h.2.2.2.2.1]
  refine V1_if_ge (pc := 8) 57 dX12_sum_8 (by decide) (fun h8 => ?_) (fun h8 => ?_)
  · skip
    exact absurd (by decide) h8
  · skip
    refine V0_aload_n (pc := 11) dX12_sum_11 rfl ?_
    refine V_callVi (pc := 12) (M' := mX12_look) dX12_sum_12 mlX12_202 okX12_look rfl hl rfl rfl rfl rfl (px_hr (by omega) (by decide)) ⟨Nat.le_refl 0, Nat.le_refl 0⟩ (Nat.le_of_ble_eq_true rfl) ?_
    refine V0_bipush (pc := 15) (43) dX12_sum_15 (by decide) ?_
    refine V0_icmp_eq (pc := 17) 29 dX12_sum_17 (by decide) (fun h17 => ?_) (fun h17 => ?_)
    · skip
      exact absurd h17 n43
    · skip
      refine V0_aload_n (pc := 20) dX12_sum_20 rfl ?_
      refine V_callVi (pc := 21) (M' := mX12_look) dX12_sum_21 mlX12_202 okX12_look rfl hl rfl rfl rfl rfl (px_hr (by omega) (by decide)) ⟨Nat.le_refl 0, Nat.le_refl 0⟩ (Nat.le_of_ble_eq_true rfl) ?_
      refine V0_bipush (pc := 24) (45) dX12_sum_24 (by decide) ?_
      refine V0_icmp_ne (pc := 26) 57 dX12_sum_26 (by decide) (fun h26 => ?_) (fun h26 => ?_)
      · skip
        refine V_retv (pc := 57) dX12_sum_57 rfl ?_
        exact hQ
      · skip
        exact absurd h26 n45
theorem G_sum {l : Launch} {J : px_J} {D : Nat} {t : Nat → Int32} {n a k r : Nat} {I : px_I} {v : Value} {w : Int32} {R : px_I → Prop} {Q : px_Q} (h : m_s t n a k r I) (hTw : m_T t n a = w) (hw : w = 43 ∨ w = 45) (hc : m_C l J mX12_product (D + 1) (px_up I 54 21 (nI (a + 1))) R) (hadd : ∀ X, R X → ∃ k1, k1 < 130 ∧ X 54 24 = nI k1) (kk : ∀ X k1, R X → k1 < 130 → X 54 24 = nI k1 → V0 l (px_rm (D + 2) 0 0) mX12_sum (false, []) 0 0 4 [.ref 54, .int w] [] (px_mk (m_addS X k1 w 0) J) (px_q Q)) : V0 l (px_rm (D + 2) 0 0) mX12_sum (false, []) 0 0 4 [.ref 54, v] [] (px_mk I J) (px_q Q) := by
  have hl := h.at (l := l) (J := J)
  have hbw : vp_nar .byte w.toInt8.toInt32 = w := m_by (by rcases hw with e | e <;> rw [e] <;> decide)
  refine V0_aload_n (pc := 4) dX12_sum_4 rfl ?_
  refine V_geti (pc := 5) dX12_sum_5 flX12_190 rfl rfl ?_
  rw [h.2.2.2.2.1]
  refine V1_if_ge (pc := 8) 57 dX12_sum_8 (by decide) (fun h8 => ?_) (fun h8 => ?_)
  · skip
    exact absurd (by decide) h8
  · skip
    refine V0_aload_n (pc := 11) dX12_sum_11 rfl ?_
    refine V_callVi (pc := 12) (M' := mX12_look) dX12_sum_12 mlX12_202 okX12_look rfl hl rfl rfl rfl rfl (px_hr (by omega) (by decide)) ⟨Nat.le_refl 0, Nat.le_refl 0⟩ (Nat.le_of_ble_eq_true rfl) ?_
    refine V0_bipush (pc := 15) (43) dX12_sum_15 (by decide) ?_
    refine V0_icmp_eq (pc := 17) 29 dX12_sum_17 (by decide) (fun h17 => ?_) (fun h17 => ?_)
    · skip
      refine V0_aload_n (pc := 29) dX12_sum_29 rfl ?_
      refine V_callVi (pc := 30) (M' := mX12_look) dX12_sum_30 mlX12_202 okX12_look rfl hl rfl rfl rfl rfl (px_hr (by omega) (by decide)) ⟨Nat.le_refl 0, Nat.le_refl 0⟩ (Nat.le_of_ble_eq_true rfl) ?_
      rw [hTw]
      refine V0_istore_1 (pc := 33) dX12_sum_33 (by decide) rfl ?_
      refine V0_aload_n (pc := 34) dX12_sum_34 rfl ?_
      refine V0_dup (pc := 35) dX12_sum_35 rfl ?_
      refine V_geti (pc := 36) dX12_sum_36 flX12_187 rfl rfl ?_
      refine V0_iconst (pc := 39) (1) dX12_sum_39 (by decide) ?_
      refine V0_iadd (pc := 40) dX12_sum_40 ?_
      rw [h.2.2.1, nI_1]
      refine V_puti (pc := 41) dX12_sum_41 flX12_187 rfl rfl ?_
      refine V0_aload_n (pc := 44) dX12_sum_44 rfl ?_
      refine V_callV (pc := 45) (M' := mX12_product) dX12_sum_45 mlX12_227 okX12_product rfl hc rfl rfl rfl rfl (px_hr (by omega) (by decide)) ⟨Nat.le_refl 0, Nat.le_refl 0⟩ (Nat.le_of_ble_eq_true rfl) ?_
      intro r1 I1 J1 hh
      obtain ⟨e1, e3, ho⟩ := hh
      rw [e1, e3]
      clear e1 e3 r1 J1
      obtain ⟨k1, hk1, hk2⟩ := hadd I1 ho
      have ha := c_X12_addStep (l := l) (J := J) (v := 0) hk2 hk1 hbw
      refine V0_aload_n (pc := 48) dX12_sum_48 rfl ?_
      refine V0_iload_n (pc := 49) dX12_sum_49 rfl ?_
      refine V0_iconst (pc := 50) (0) dX12_sum_50 (by decide) ?_
      refine V_callV (pc := 51) (M' := mX12_addStep) dX12_sum_51 mlX12_206 okX12_addStep rfl ha rfl rfl rfl rfl (px_hr (by omega) (by decide)) ⟨Nat.le_refl 0, Nat.le_refl 0⟩ (Nat.le_of_ble_eq_true rfl) ?_
      intro r1 I1 J1 hh
      obtain ⟨e1, e2, e3⟩ := hh
      rw [e1, e2, e3]
      clear e1 e2 e3 r1 J1
      refine V0_goto (pc := 54) 4 dX12_sum_54 (by decide) ?_
      exact kk _ _ ho hk1 hk2
    · skip
      refine V0_aload_n (pc := 20) dX12_sum_20 rfl ?_
      refine V_callVi (pc := 21) (M' := mX12_look) dX12_sum_21 mlX12_202 okX12_look rfl hl rfl rfl rfl rfl (px_hr (by omega) (by decide)) ⟨Nat.le_refl 0, Nat.le_refl 0⟩ (Nat.le_of_ble_eq_true rfl) ?_
      refine V0_bipush (pc := 24) (45) dX12_sum_24 (by decide) ?_
      refine V0_icmp_ne (pc := 26) 57 dX12_sum_26 (by decide) (fun h26 => ?_) (fun h26 => ?_)
      · skip
        rcases hw with e | e
        · exact absurd (hTw.trans e) h17
        · exact absurd (hTw.trans e) h26
      · skip
        refine V0_aload_n (pc := 29) dX12_sum_29 rfl ?_
        refine V_callVi (pc := 30) (M' := mX12_look) dX12_sum_30 mlX12_202 okX12_look rfl hl rfl rfl rfl rfl (px_hr (by omega) (by decide)) ⟨Nat.le_refl 0, Nat.le_refl 0⟩ (Nat.le_of_ble_eq_true rfl) ?_
        rw [hTw]
        refine V0_istore_1 (pc := 33) dX12_sum_33 (by decide) rfl ?_
        refine V0_aload_n (pc := 34) dX12_sum_34 rfl ?_
        refine V0_dup (pc := 35) dX12_sum_35 rfl ?_
        refine V_geti (pc := 36) dX12_sum_36 flX12_187 rfl rfl ?_
        refine V0_iconst (pc := 39) (1) dX12_sum_39 (by decide) ?_
        refine V0_iadd (pc := 40) dX12_sum_40 ?_
        rw [h.2.2.1, nI_1]
        refine V_puti (pc := 41) dX12_sum_41 flX12_187 rfl rfl ?_
        refine V0_aload_n (pc := 44) dX12_sum_44 rfl ?_
        refine V_callV (pc := 45) (M' := mX12_product) dX12_sum_45 mlX12_227 okX12_product rfl hc rfl rfl rfl rfl (px_hr (by omega) (by decide)) ⟨Nat.le_refl 0, Nat.le_refl 0⟩ (Nat.le_of_ble_eq_true rfl) ?_
        intro r1 I1 J1 hh
        obtain ⟨e1, e3, ho⟩ := hh
        rw [e1, e3]
        clear e1 e3 r1 J1
        obtain ⟨k1, hk1, hk2⟩ := hadd I1 ho
        have ha := c_X12_addStep (l := l) (J := J) (v := 0) hk2 hk1 hbw
        refine V0_aload_n (pc := 48) dX12_sum_48 rfl ?_
        refine V0_iload_n (pc := 49) dX12_sum_49 rfl ?_
        refine V0_iconst (pc := 50) (0) dX12_sum_50 (by decide) ?_
        refine V_callV (pc := 51) (M' := mX12_addStep) dX12_sum_51 mlX12_206 okX12_addStep rfl ha rfl rfl rfl rfl (px_hr (by omega) (by decide)) ⟨Nat.le_refl 0, Nat.le_refl 0⟩ (Nat.le_of_ble_eq_true rfl) ?_
        intro r1 I1 J1 hh
        obtain ⟨e1, e2, e3⟩ := hh
        rw [e1, e2, e3]
        clear e1 e2 e3 r1 J1
        refine V0_goto (pc := 54) 4 dX12_sum_54 (by decide) ?_
        exact kk _ _ ho hk1 hk2
theorem C_sum {l : Launch} {J : px_J} {D : Nat} {I : px_I} {R : px_I → Prop} {R2 : px_I → Prop} (hc : m_C l J mX12_product (D + 1) I R) (kk : ∀ X, R X → V0 l (px_rm (D + 2) 0 0) mX12_sum (false, []) 0 0 4 [.ref 54, .null] [] (px_mk X J) (px_q (fun x I' J' => x = none ∧ J' = J ∧ R2 I'))) : m_C l J mX12_sum (D + 2) I R2 := by
  unfold m_C
  refine Ct.of plX12_sum (Nat.le_of_ble_eq_true rfl) [.ref 54, .null] rfl ?_
  refine V0_aload_n (pc := 0) dX12_sum_0 rfl ?_
  refine V_callV (pc := 1) (M' := mX12_product) dX12_sum_1 mlX12_227 okX12_product rfl hc rfl rfl rfl rfl (px_hr (by omega) (by decide)) ⟨Nat.le_refl 0, Nat.le_refl 0⟩ (Nat.le_of_ble_eq_true rfl) ?_
  intro r1 I1 J1 hh
  obtain ⟨e1, e3, ho⟩ := hh
  rw [e1, e3]
  clear e1 e3 r1 J1
  exact kk _ ho
theorem E_both {l : Launch} {J : px_J} {D : Nat} {t : Nat → Int32} {n a k : Nat} {I : px_I} {Q : px_Q} (h : m_d t n a k I) (hQ : Q none I J) : V0 l (px_rm (D + 1) 0 0) mX12_both (false, []) 0 0 4 [.ref 54] [] (px_mk I J) (px_q Q) := by
  have hn120 := h.2.1
  have han := h.2.2.2.1
  refine V0_aload_n (pc := 4) dX12_both_4 rfl ?_
  refine V_geti (pc := 5) dX12_both_5 flX12_190 rfl rfl ?_
  rw [h.2.2.2.2.1]
  refine V1_if_ge (pc := 8) 44 dX12_both_8 (by decide) (fun h8 => ?_) (fun h8 => ?_)
  · skip
    refine V_retv (pc := 44) dX12_both_44 rfl ?_
    exact hQ
  · skip
    exact absurd h8 (nI_nn (by omega))
theorem S_both {l : Launch} {J : px_J} {D : Nat} {t : Nat → Int32} {n a k r : Nat} {I : px_I} {Q : px_Q} (h : m_s t n a k r I) (n38 : ¬ m_T t n a = 38) (hQ : Q none I J) : V0 l (px_rm (D + 1) 0 0) mX12_both (false, []) 0 0 4 [.ref 54] [] (px_mk I J) (px_q Q) := by
  have hl := h.at (l := l) (J := J)
  refine V0_aload_n (pc := 4) dX12_both_4 rfl ?_
  refine V_geti (pc := 5) dX12_both_5 flX12_190 rfl rfl ?_
  rw [h.2.2.2.2.1]
  refine V1_if_ge (pc := 8) 44 dX12_both_8 (by decide) (fun h8 => ?_) (fun h8 => ?_)
  · skip
    exact absurd (by decide) h8
  · skip
    refine V0_aload_n (pc := 11) dX12_both_11 rfl ?_
    refine V_callVi (pc := 12) (M' := mX12_look) dX12_both_12 mlX12_202 okX12_look rfl hl rfl rfl rfl rfl (px_hr (by omega) (by decide)) ⟨Nat.le_refl 0, Nat.le_refl 0⟩ (Nat.le_of_ble_eq_true rfl) ?_
    refine V0_bipush (pc := 15) (38) dX12_both_15 (by decide) ?_
    refine V0_icmp_ne (pc := 17) 44 dX12_both_17 (by decide) (fun h17 => ?_) (fun h17 => ?_)
    · skip
      refine V_retv (pc := 44) dX12_both_44 rfl ?_
      exact hQ
    · skip
      exact absurd h17 n38
theorem G_both {l : Launch} {J : px_J} {D : Nat} {t : Nat → Int32} {n a k r : Nat} {I : px_I} {w : Int32} {R : px_I → Prop} {Q : px_Q} (h : m_s t n a k r I) (hTw : m_T t n a = w) (hw : w = 38) (hc : m_C l J mX12_compared (D + 1) (px_up I 54 21 (nI (a + 1))) R) (hadd : ∀ X, R X → ∃ k1, k1 < 130 ∧ X 54 24 = nI k1) (kk : ∀ X k1, R X → k1 < 130 → X 54 24 = nI k1 → V0 l (px_rm (D + 2) 0 0) mX12_both (false, []) 0 0 4 [.ref 54] [] (px_mk (m_addS X k1 w 0) J) (px_q Q)) : V0 l (px_rm (D + 2) 0 0) mX12_both (false, []) 0 0 4 [.ref 54] [] (px_mk I J) (px_q Q) := by
  have hl := h.at (l := l) (J := J)
  have hbw : vp_nar .byte w.toInt8.toInt32 = w := m_by (by rw [hw]; decide)
  subst hw
  refine V0_aload_n (pc := 4) dX12_both_4 rfl ?_
  refine V_geti (pc := 5) dX12_both_5 flX12_190 rfl rfl ?_
  rw [h.2.2.2.2.1]
  refine V1_if_ge (pc := 8) 44 dX12_both_8 (by decide) (fun h8 => ?_) (fun h8 => ?_)
  · skip
    exact absurd (by decide) h8
  · skip
    refine V0_aload_n (pc := 11) dX12_both_11 rfl ?_
    refine V_callVi (pc := 12) (M' := mX12_look) dX12_both_12 mlX12_202 okX12_look rfl hl rfl rfl rfl rfl (px_hr (by omega) (by decide)) ⟨Nat.le_refl 0, Nat.le_refl 0⟩ (Nat.le_of_ble_eq_true rfl) ?_
    refine V0_bipush (pc := 15) (38) dX12_both_15 (by decide) ?_
    refine V0_icmp_ne (pc := 17) 44 dX12_both_17 (by decide) (fun h17 => ?_) (fun h17 => ?_)
    · skip
      exact absurd hTw h17
    · skip
      refine V0_aload_n (pc := 20) dX12_both_20 rfl ?_
      refine V0_dup (pc := 21) dX12_both_21 rfl ?_
      refine V_geti (pc := 22) dX12_both_22 flX12_187 rfl rfl ?_
      refine V0_iconst (pc := 25) (1) dX12_both_25 (by decide) ?_
      refine V0_iadd (pc := 26) dX12_both_26 ?_
      rw [h.2.2.1, nI_1]
      refine V_puti (pc := 27) dX12_both_27 flX12_187 rfl rfl ?_
      refine V0_aload_n (pc := 30) dX12_both_30 rfl ?_
      refine V_callV (pc := 31) (M' := mX12_compared) dX12_both_31 mlX12_233 okX12_compared rfl hc rfl rfl rfl rfl (px_hr (by omega) (by decide)) ⟨Nat.le_refl 0, Nat.le_refl 0⟩ (Nat.le_of_ble_eq_true rfl) ?_
      intro r1 I1 J1 hh
      obtain ⟨e1, e3, ho⟩ := hh
      rw [e1, e3]
      clear e1 e3 r1 J1
      obtain ⟨k1, hk1, hk2⟩ := hadd I1 ho
      have ha := c_X12_addStep (l := l) (J := J) (v := 0) hk2 hk1 hbw
      refine V0_aload_n (pc := 34) dX12_both_34 rfl ?_
      refine V0_bipush (pc := 35) (38) dX12_both_35 (by decide) ?_
      refine V0_iconst (pc := 37) (0) dX12_both_37 (by decide) ?_
      refine V_callV (pc := 38) (M' := mX12_addStep) dX12_both_38 mlX12_206 okX12_addStep rfl ha rfl rfl rfl rfl (px_hr (by omega) (by decide)) ⟨Nat.le_refl 0, Nat.le_refl 0⟩ (Nat.le_of_ble_eq_true rfl) ?_
      intro r1 I1 J1 hh
      obtain ⟨e1, e2, e3⟩ := hh
      rw [e1, e2, e3]
      clear e1 e2 e3 r1 J1
      refine V0_goto (pc := 41) 4 dX12_both_41 (by decide) ?_
      exact kk _ _ ho hk1 hk2
theorem C_both {l : Launch} {J : px_J} {D : Nat} {I : px_I} {R : px_I → Prop} {R2 : px_I → Prop} (hc : m_C l J mX12_compared (D + 1) I R) (kk : ∀ X, R X → V0 l (px_rm (D + 2) 0 0) mX12_both (false, []) 0 0 4 [.ref 54] [] (px_mk X J) (px_q (fun x I' J' => x = none ∧ J' = J ∧ R2 I'))) : m_C l J mX12_both (D + 2) I R2 := by
  unfold m_C
  refine Ct.of plX12_both (Nat.le_of_ble_eq_true rfl) [.ref 54] rfl ?_
  refine V0_aload_n (pc := 0) dX12_both_0 rfl ?_
  refine V_callV (pc := 1) (M' := mX12_compared) dX12_both_1 mlX12_233 okX12_compared rfl hc rfl rfl rfl rfl (px_hr (by omega) (by decide)) ⟨Nat.le_refl 0, Nat.le_refl 0⟩ (Nat.le_of_ble_eq_true rfl) ?_
  intro r1 I1 J1 hh
  obtain ⟨e1, e3, ho⟩ := hh
  rw [e1, e3]
  clear e1 e3 r1 J1
  exact kk _ ho
theorem E_either {l : Launch} {J : px_J} {D : Nat} {t : Nat → Int32} {n a k : Nat} {I : px_I} {Q : px_Q} (h : m_d t n a k I) (hQ : Q none I J) : V0 l (px_rm (D + 1) 0 0) mX12_either (false, []) 0 0 4 [.ref 54] [] (px_mk I J) (px_q Q) := by
  have hn120 := h.2.1
  have han := h.2.2.2.1
  refine V0_aload_n (pc := 4) dX12_either_4 rfl ?_
  refine V_geti (pc := 5) dX12_either_5 flX12_190 rfl rfl ?_
  rw [h.2.2.2.2.1]
  refine V1_if_ge (pc := 8) 44 dX12_either_8 (by decide) (fun h8 => ?_) (fun h8 => ?_)
  · skip
    refine V_retv (pc := 44) dX12_either_44 rfl ?_
    exact hQ
  · skip
    exact absurd h8 (nI_nn (by omega))
theorem S_either {l : Launch} {J : px_J} {D : Nat} {t : Nat → Int32} {n a k r : Nat} {I : px_I} {Q : px_Q} (h : m_s t n a k r I) (n124 : ¬ m_T t n a = 124) (hQ : Q none I J) : V0 l (px_rm (D + 1) 0 0) mX12_either (false, []) 0 0 4 [.ref 54] [] (px_mk I J) (px_q Q) := by
  have hl := h.at (l := l) (J := J)
  refine V0_aload_n (pc := 4) dX12_either_4 rfl ?_
  refine V_geti (pc := 5) dX12_either_5 flX12_190 rfl rfl ?_
  rw [h.2.2.2.2.1]
  refine V1_if_ge (pc := 8) 44 dX12_either_8 (by decide) (fun h8 => ?_) (fun h8 => ?_)
  · skip
    exact absurd (by decide) h8
  · skip
    refine V0_aload_n (pc := 11) dX12_either_11 rfl ?_
    refine V_callVi (pc := 12) (M' := mX12_look) dX12_either_12 mlX12_202 okX12_look rfl hl rfl rfl rfl rfl (px_hr (by omega) (by decide)) ⟨Nat.le_refl 0, Nat.le_refl 0⟩ (Nat.le_of_ble_eq_true rfl) ?_
    refine V0_bipush (pc := 15) (124) dX12_either_15 (by decide) ?_
    refine V0_icmp_ne (pc := 17) 44 dX12_either_17 (by decide) (fun h17 => ?_) (fun h17 => ?_)
    · skip
      refine V_retv (pc := 44) dX12_either_44 rfl ?_
      exact hQ
    · skip
      exact absurd h17 n124
theorem G_either {l : Launch} {J : px_J} {D : Nat} {t : Nat → Int32} {n a k r : Nat} {I : px_I} {w : Int32} {R : px_I → Prop} {Q : px_Q} (h : m_s t n a k r I) (hTw : m_T t n a = w) (hw : w = 124) (hc : m_C l J mX12_both (D + 1) (px_up I 54 21 (nI (a + 1))) R) (hadd : ∀ X, R X → ∃ k1, k1 < 130 ∧ X 54 24 = nI k1) (kk : ∀ X k1, R X → k1 < 130 → X 54 24 = nI k1 → V0 l (px_rm (D + 2) 0 0) mX12_either (false, []) 0 0 4 [.ref 54] [] (px_mk (m_addS X k1 w 0) J) (px_q Q)) : V0 l (px_rm (D + 2) 0 0) mX12_either (false, []) 0 0 4 [.ref 54] [] (px_mk I J) (px_q Q) := by
  have hl := h.at (l := l) (J := J)
  have hbw : vp_nar .byte w.toInt8.toInt32 = w := m_by (by rw [hw]; decide)
  subst hw
  refine V0_aload_n (pc := 4) dX12_either_4 rfl ?_
  refine V_geti (pc := 5) dX12_either_5 flX12_190 rfl rfl ?_
  rw [h.2.2.2.2.1]
  refine V1_if_ge (pc := 8) 44 dX12_either_8 (by decide) (fun h8 => ?_) (fun h8 => ?_)
  · skip
    exact absurd (by decide) h8
  · skip
    refine V0_aload_n (pc := 11) dX12_either_11 rfl ?_
    refine V_callVi (pc := 12) (M' := mX12_look) dX12_either_12 mlX12_202 okX12_look rfl hl rfl rfl rfl rfl (px_hr (by omega) (by decide)) ⟨Nat.le_refl 0, Nat.le_refl 0⟩ (Nat.le_of_ble_eq_true rfl) ?_
    refine V0_bipush (pc := 15) (124) dX12_either_15 (by decide) ?_
    refine V0_icmp_ne (pc := 17) 44 dX12_either_17 (by decide) (fun h17 => ?_) (fun h17 => ?_)
    · skip
      exact absurd hTw h17
    · skip
      refine V0_aload_n (pc := 20) dX12_either_20 rfl ?_
      refine V0_dup (pc := 21) dX12_either_21 rfl ?_
      refine V_geti (pc := 22) dX12_either_22 flX12_187 rfl rfl ?_
      refine V0_iconst (pc := 25) (1) dX12_either_25 (by decide) ?_
      refine V0_iadd (pc := 26) dX12_either_26 ?_
      rw [h.2.2.1, nI_1]
      refine V_puti (pc := 27) dX12_either_27 flX12_187 rfl rfl ?_
      refine V0_aload_n (pc := 30) dX12_either_30 rfl ?_
      refine V_callV (pc := 31) (M' := mX12_both) dX12_either_31 mlX12_236 okX12_both rfl hc rfl rfl rfl rfl (px_hr (by omega) (by decide)) ⟨Nat.le_refl 0, Nat.le_refl 0⟩ (Nat.le_of_ble_eq_true rfl) ?_
      intro r1 I1 J1 hh
      obtain ⟨e1, e3, ho⟩ := hh
      rw [e1, e3]
      clear e1 e3 r1 J1
      obtain ⟨k1, hk1, hk2⟩ := hadd I1 ho
      have ha := c_X12_addStep (l := l) (J := J) (v := 0) hk2 hk1 hbw
      refine V0_aload_n (pc := 34) dX12_either_34 rfl ?_
      refine V0_bipush (pc := 35) (124) dX12_either_35 (by decide) ?_
      refine V0_iconst (pc := 37) (0) dX12_either_37 (by decide) ?_
      refine V_callV (pc := 38) (M' := mX12_addStep) dX12_either_38 mlX12_206 okX12_addStep rfl ha rfl rfl rfl rfl (px_hr (by omega) (by decide)) ⟨Nat.le_refl 0, Nat.le_refl 0⟩ (Nat.le_of_ble_eq_true rfl) ?_
      intro r1 I1 J1 hh
      obtain ⟨e1, e2, e3⟩ := hh
      rw [e1, e2, e3]
      clear e1 e2 e3 r1 J1
      refine V0_goto (pc := 41) 4 dX12_either_41 (by decide) ?_
      exact kk _ _ ho hk1 hk2
theorem C_either {l : Launch} {J : px_J} {D : Nat} {I : px_I} {R : px_I → Prop} {R2 : px_I → Prop} (hc : m_C l J mX12_both (D + 1) I R) (kk : ∀ X, R X → V0 l (px_rm (D + 2) 0 0) mX12_either (false, []) 0 0 4 [.ref 54] [] (px_mk X J) (px_q (fun x I' J' => x = none ∧ J' = J ∧ R2 I'))) : m_C l J mX12_either (D + 2) I R2 := by
  unfold m_C
  refine Ct.of plX12_either (Nat.le_of_ble_eq_true rfl) [.ref 54] rfl ?_
  refine V0_aload_n (pc := 0) dX12_either_0 rfl ?_
  refine V_callV (pc := 1) (M' := mX12_both) dX12_either_1 mlX12_236 okX12_both rfl hc rfl rfl rfl rfl (px_hr (by omega) (by decide)) ⟨Nat.le_refl 0, Nat.le_refl 0⟩ (Nat.le_of_ble_eq_true rfl) ?_
  intro r1 I1 J1 hh
  obtain ⟨e1, e3, ho⟩ := hh
  rw [e1, e3]
  clear e1 e3 r1 J1
  exact kk _ ho
theorem E_compared {l : Launch} {J : px_J} {D : Nat} {t : Nat → Int32} {n a k : Nat} {I : px_I} {v : Value} {Q : px_Q} (h : m_d t n a k I) (hQ : Q none I J) : V0 l (px_rm (D + 1) 0 0) mX12_compared (false, []) 0 0 4 [.ref 54, v] [] (px_mk I J) (px_q Q) := by
  have hn120 := h.2.1
  have han := h.2.2.2.1
  have hl := c_X12_look (l := l) (J := J) h.1 h.2.1 h.2.2.1 h.2.2.2.1
  refine V0_aload_n (pc := 4) dX12_compared_4 rfl ?_
  refine V_callVi (pc := 5) (M' := mX12_look) dX12_compared_5 mlX12_202 okX12_look rfl hl rfl rfl rfl rfl (px_hr (by omega) (by decide)) ⟨Nat.le_refl 0, Nat.le_refl 0⟩ (Nat.le_of_ble_eq_true rfl) ?_
  refine V0_istore_1 (pc := 8) dX12_compared_8 (by decide) rfl ?_
  refine V0_aload_n (pc := 9) dX12_compared_9 rfl ?_
  refine V_geti (pc := 10) dX12_compared_10 flX12_190 rfl rfl ?_
  rw [h.2.2.2.2.1]
  refine V1_if_ge (pc := 13) 34 dX12_compared_13 (by decide) (fun h13 => ?_) (fun h13 => ?_)
  · skip
    refine V_retv (pc := 34) dX12_compared_34 rfl ?_
    exact hQ
  · skip
    exact absurd h13 (nI_nn (by omega))
theorem S_compared {l : Launch} {J : px_J} {D : Nat} {t : Nat → Int32} {n a k r : Nat} {I : px_I} {v : Value} {Q : px_Q} (h : m_s t n a k r I) (n60 : ¬ m_T t n a = 60) (n61 : ¬ m_T t n a = 61) (n62 : ¬ m_T t n a = 62) (hQ : Q none I J) : V0 l (px_rm (D + 1) 0 0) mX12_compared (false, []) 0 0 4 [.ref 54, v] [] (px_mk I J) (px_q Q) := by
  have hl := h.at (l := l) (J := J)
  refine V0_aload_n (pc := 4) dX12_compared_4 rfl ?_
  refine V_callVi (pc := 5) (M' := mX12_look) dX12_compared_5 mlX12_202 okX12_look rfl hl rfl rfl rfl rfl (px_hr (by omega) (by decide)) ⟨Nat.le_refl 0, Nat.le_refl 0⟩ (Nat.le_of_ble_eq_true rfl) ?_
  refine V0_istore_1 (pc := 8) dX12_compared_8 (by decide) rfl ?_
  refine V0_aload_n (pc := 9) dX12_compared_9 rfl ?_
  refine V_geti (pc := 10) dX12_compared_10 flX12_190 rfl rfl ?_
  rw [h.2.2.2.2.1]
  refine V1_if_ge (pc := 13) 34 dX12_compared_13 (by decide) (fun h13 => ?_) (fun h13 => ?_)
  · skip
    exact absurd (by decide) h13
  · skip
    refine V0_iload_n (pc := 16) dX12_compared_16 rfl ?_
    refine V0_bipush (pc := 17) (60) dX12_compared_17 (by decide) ?_
    refine V0_icmp_eq (pc := 19) 35 dX12_compared_19 (by decide) (fun h19 => ?_) (fun h19 => ?_)
    · skip
      exact absurd h19 n60
    · skip
      refine V0_iload_n (pc := 22) dX12_compared_22 rfl ?_
      refine V0_bipush (pc := 23) (61) dX12_compared_23 (by decide) ?_
      refine V0_icmp_eq (pc := 25) 35 dX12_compared_25 (by decide) (fun h25 => ?_) (fun h25 => ?_)
      · skip
        exact absurd h25 n61
      · skip
        refine V0_iload_n (pc := 28) dX12_compared_28 rfl ?_
        refine V0_bipush (pc := 29) (62) dX12_compared_29 (by decide) ?_
        refine V0_icmp_eq (pc := 31) 35 dX12_compared_31 (by decide) (fun h31 => ?_) (fun h31 => ?_)
        · skip
          exact absurd h31 n62
        · skip
          refine V_retv (pc := 34) dX12_compared_34 rfl ?_
          exact hQ
theorem G_compared {l : Launch} {J : px_J} {D : Nat} {t : Nat → Int32} {n a k r : Nat} {I : px_I} {v : Value} {w : Int32} {R : px_I → Prop} {Q : px_Q} (h : m_s t n a k r I) (hTw : m_T t n a = w) (hw : w = 60 ∨ w = 61 ∨ w = 62) (hc : m_C l J mX12_sum (D + 1) (px_up I 54 21 (nI (a + 1))) R) (hadd : ∀ X, R X → ∃ k1, k1 < 130 ∧ X 54 24 = nI k1) (kk : ∀ X k1, R X → k1 < 130 → X 54 24 = nI k1 → Q none (m_addS X k1 w 0) J) : V0 l (px_rm (D + 2) 0 0) mX12_compared (false, []) 0 0 4 [.ref 54, v] [] (px_mk I J) (px_q Q) := by
  have hl := h.at (l := l) (J := J)
  have hbw : vp_nar .byte w.toInt8.toInt32 = w := m_by (by rcases hw with e | e | e <;> rw [e] <;> decide)
  refine V0_aload_n (pc := 4) dX12_compared_4 rfl ?_
  refine V_callVi (pc := 5) (M' := mX12_look) dX12_compared_5 mlX12_202 okX12_look rfl hl rfl rfl rfl rfl (px_hr (by omega) (by decide)) ⟨Nat.le_refl 0, Nat.le_refl 0⟩ (Nat.le_of_ble_eq_true rfl) ?_
  rw [hTw]
  refine V0_istore_1 (pc := 8) dX12_compared_8 (by decide) rfl ?_
  refine V0_aload_n (pc := 9) dX12_compared_9 rfl ?_
  refine V_geti (pc := 10) dX12_compared_10 flX12_190 rfl rfl ?_
  rw [h.2.2.2.2.1]
  refine V1_if_ge (pc := 13) 34 dX12_compared_13 (by decide) (fun h13 => ?_) (fun h13 => ?_)
  · skip
    exact absurd (by decide) h13
  · skip
    refine V0_iload_n (pc := 16) dX12_compared_16 rfl ?_
    refine V0_bipush (pc := 17) (60) dX12_compared_17 (by decide) ?_
    refine V0_icmp_eq (pc := 19) 35 dX12_compared_19 (by decide) (fun h19 => ?_) (fun h19 => ?_)
    · skip
      refine V0_aload_n (pc := 35) dX12_compared_35 rfl ?_
      refine V0_dup (pc := 36) dX12_compared_36 rfl ?_
      refine V_geti (pc := 37) dX12_compared_37 flX12_187 rfl rfl ?_
      refine V0_iconst (pc := 40) (1) dX12_compared_40 (by decide) ?_
      refine V0_iadd (pc := 41) dX12_compared_41 ?_
      rw [h.2.2.1, nI_1]
      refine V_puti (pc := 42) dX12_compared_42 flX12_187 rfl rfl ?_
      refine V0_aload_n (pc := 45) dX12_compared_45 rfl ?_
      refine V_callV (pc := 46) (M' := mX12_sum) dX12_compared_46 mlX12_230 okX12_sum rfl hc rfl rfl rfl rfl (px_hr (by omega) (by decide)) ⟨Nat.le_refl 0, Nat.le_refl 0⟩ (Nat.le_of_ble_eq_true rfl) ?_
      intro r1 I1 J1 hh
      obtain ⟨e1, e3, ho⟩ := hh
      rw [e1, e3]
      clear e1 e3 r1 J1
      obtain ⟨k1, hk1, hk2⟩ := hadd I1 ho
      have ha := c_X12_addStep (l := l) (J := J) (v := 0) hk2 hk1 hbw
      refine V0_aload_n (pc := 49) dX12_compared_49 rfl ?_
      refine V0_iload_n (pc := 50) dX12_compared_50 rfl ?_
      refine V0_iconst (pc := 51) (0) dX12_compared_51 (by decide) ?_
      refine V_callV (pc := 52) (M' := mX12_addStep) dX12_compared_52 mlX12_206 okX12_addStep rfl ha rfl rfl rfl rfl (px_hr (by omega) (by decide)) ⟨Nat.le_refl 0, Nat.le_refl 0⟩ (Nat.le_of_ble_eq_true rfl) ?_
      intro r1 I1 J1 hh
      obtain ⟨e1, e2, e3⟩ := hh
      rw [e1, e2, e3]
      clear e1 e2 e3 r1 J1
      refine V_retv (pc := 55) dX12_compared_55 rfl ?_
      exact kk _ _ ho hk1 hk2
    · skip
      refine V0_iload_n (pc := 22) dX12_compared_22 rfl ?_
      refine V0_bipush (pc := 23) (61) dX12_compared_23 (by decide) ?_
      refine V0_icmp_eq (pc := 25) 35 dX12_compared_25 (by decide) (fun h25 => ?_) (fun h25 => ?_)
      · skip
        refine V0_aload_n (pc := 35) dX12_compared_35 rfl ?_
        refine V0_dup (pc := 36) dX12_compared_36 rfl ?_
        refine V_geti (pc := 37) dX12_compared_37 flX12_187 rfl rfl ?_
        refine V0_iconst (pc := 40) (1) dX12_compared_40 (by decide) ?_
        refine V0_iadd (pc := 41) dX12_compared_41 ?_
        rw [h.2.2.1, nI_1]
        refine V_puti (pc := 42) dX12_compared_42 flX12_187 rfl rfl ?_
        refine V0_aload_n (pc := 45) dX12_compared_45 rfl ?_
        refine V_callV (pc := 46) (M' := mX12_sum) dX12_compared_46 mlX12_230 okX12_sum rfl hc rfl rfl rfl rfl (px_hr (by omega) (by decide)) ⟨Nat.le_refl 0, Nat.le_refl 0⟩ (Nat.le_of_ble_eq_true rfl) ?_
        intro r1 I1 J1 hh
        obtain ⟨e1, e3, ho⟩ := hh
        rw [e1, e3]
        clear e1 e3 r1 J1
        obtain ⟨k1, hk1, hk2⟩ := hadd I1 ho
        have ha := c_X12_addStep (l := l) (J := J) (v := 0) hk2 hk1 hbw
        refine V0_aload_n (pc := 49) dX12_compared_49 rfl ?_
        refine V0_iload_n (pc := 50) dX12_compared_50 rfl ?_
        refine V0_iconst (pc := 51) (0) dX12_compared_51 (by decide) ?_
        refine V_callV (pc := 52) (M' := mX12_addStep) dX12_compared_52 mlX12_206 okX12_addStep rfl ha rfl rfl rfl rfl (px_hr (by omega) (by decide)) ⟨Nat.le_refl 0, Nat.le_refl 0⟩ (Nat.le_of_ble_eq_true rfl) ?_
        intro r1 I1 J1 hh
        obtain ⟨e1, e2, e3⟩ := hh
        rw [e1, e2, e3]
        clear e1 e2 e3 r1 J1
        refine V_retv (pc := 55) dX12_compared_55 rfl ?_
        exact kk _ _ ho hk1 hk2
      · skip
        refine V0_iload_n (pc := 28) dX12_compared_28 rfl ?_
        refine V0_bipush (pc := 29) (62) dX12_compared_29 (by decide) ?_
        refine V0_icmp_eq (pc := 31) 35 dX12_compared_31 (by decide) (fun h31 => ?_) (fun h31 => ?_)
        · skip
          refine V0_aload_n (pc := 35) dX12_compared_35 rfl ?_
          refine V0_dup (pc := 36) dX12_compared_36 rfl ?_
          refine V_geti (pc := 37) dX12_compared_37 flX12_187 rfl rfl ?_
          refine V0_iconst (pc := 40) (1) dX12_compared_40 (by decide) ?_
          refine V0_iadd (pc := 41) dX12_compared_41 ?_
          rw [h.2.2.1, nI_1]
          refine V_puti (pc := 42) dX12_compared_42 flX12_187 rfl rfl ?_
          refine V0_aload_n (pc := 45) dX12_compared_45 rfl ?_
          refine V_callV (pc := 46) (M' := mX12_sum) dX12_compared_46 mlX12_230 okX12_sum rfl hc rfl rfl rfl rfl (px_hr (by omega) (by decide)) ⟨Nat.le_refl 0, Nat.le_refl 0⟩ (Nat.le_of_ble_eq_true rfl) ?_
          intro r1 I1 J1 hh
          obtain ⟨e1, e3, ho⟩ := hh
          rw [e1, e3]
          clear e1 e3 r1 J1
          obtain ⟨k1, hk1, hk2⟩ := hadd I1 ho
          have ha := c_X12_addStep (l := l) (J := J) (v := 0) hk2 hk1 hbw
          refine V0_aload_n (pc := 49) dX12_compared_49 rfl ?_
          refine V0_iload_n (pc := 50) dX12_compared_50 rfl ?_
          refine V0_iconst (pc := 51) (0) dX12_compared_51 (by decide) ?_
          refine V_callV (pc := 52) (M' := mX12_addStep) dX12_compared_52 mlX12_206 okX12_addStep rfl ha rfl rfl rfl rfl (px_hr (by omega) (by decide)) ⟨Nat.le_refl 0, Nat.le_refl 0⟩ (Nat.le_of_ble_eq_true rfl) ?_
          intro r1 I1 J1 hh
          obtain ⟨e1, e2, e3⟩ := hh
          rw [e1, e2, e3]
          clear e1 e2 e3 r1 J1
          refine V_retv (pc := 55) dX12_compared_55 rfl ?_
          exact kk _ _ ho hk1 hk2
        · skip
          rcases hw with e | e | e
          · exact absurd e h19
          · exact absurd e h25
          · exact absurd e h31
theorem C_compared {l : Launch} {J : px_J} {D : Nat} {I : px_I} {R : px_I → Prop} {R2 : px_I → Prop} (hc : m_C l J mX12_sum (D + 1) I R) (kk : ∀ X, R X → V0 l (px_rm (D + 2) 0 0) mX12_compared (false, []) 0 0 4 [.ref 54, .null] [] (px_mk X J) (px_q (fun x I' J' => x = none ∧ J' = J ∧ R2 I'))) : m_C l J mX12_compared (D + 2) I R2 := by
  unfold m_C
  refine Ct.of plX12_compared (Nat.le_of_ble_eq_true rfl) [.ref 54, .null] rfl ?_
  refine V0_aload_n (pc := 0) dX12_compared_0 rfl ?_
  refine V_callV (pc := 1) (M' := mX12_sum) dX12_compared_1 mlX12_230 okX12_sum rfl hc rfl rfl rfl rfl (px_hr (by omega) (by decide)) ⟨Nat.le_refl 0, Nat.le_refl 0⟩ (Nat.le_of_ble_eq_true rfl) ?_
  intro r1 I1 J1 hh
  obtain ⟨e1, e3, ho⟩ := hh
  rw [e1, e3]
  clear e1 e3 r1 J1
  exact kk _ ho
/-! operands -/
theorem s_name_ix {x : Int32} (h : ¬ s_name x < 0) : s_name x = nI (ix (s_name x)) ∧ ix (s_name x) < 6 := by
  refine ⟨nI_ix h, ?_⟩
  unfold s_name
  repeat' split
  all_goals decide
theorem O_name {l : Launch} {J : px_J} {D : Nat} {t : Nat → Int32} {n a k r : Nat} {I : px_I} (h : m_s t n a k r I) (hn : ¬ s_name (m_T t n a) < 0) : m_C l J mX12_operand (D + 2) I (m_out t n a k r (a + 1) true [(36, s_name (m_T t n a))] I) := by
  have hl := h.at (l := l) (J := J)
  have hka := h.2.2.2.2.2.2.1.2
  have hn120 := h.2.1
  have han : a < n := m_T_lt (fun e => hn (by rw [e]; decide))
  have hx : s_name (m_T t n a) = nI (ix (s_name (m_T t n a))) ∧ ix (s_name (m_T t n a)) < 6 := s_name_ix hn
  have h1 := (h.go han).add (w := 2) (v := s_name (m_T t n a)) (by omega)
  have ha := c_X12_addStep (l := l) (J := J) (w := 2) (v := s_name (m_T t n a)) h.2.2.2.2.2.2.1.1 (by omega) (by decide)
  have e21 : m_addS I k 2 (s_name (m_T t n a)) 54 21 = nI a := (px_up_ne (by omega)).trans ((congrFun (px_up_row (by omega)) _).trans ((congrFun (px_up_row (by omega)) _).trans h.2.2.1))
  have eq1 : px_up (m_addS I k 2 (s_name (m_T t n a))) 54 21 (nI (a + 1)) = m_addS (px_up I 54 21 (nI (a + 1))) k 2 (s_name (m_T t n a)) := by
    unfold m_addS
    funext q i
    simp only [px_up_at]
    by_cases hq : q = 54
    · subst hq
      by_cases hi : i = 24
      · subst hi; simp
      · simp [hi]
    · simp [hq]
  unfold m_C
  refine Ct.of plX12_operand (Nat.le_of_ble_eq_true rfl) [.ref 54, .null] rfl ?_
  refine V0_aload_n (pc := 0) dX12_operand_0 rfl ?_
  refine V_callVi (pc := 1) (M' := mX12_look) dX12_operand_1 mlX12_202 okX12_look rfl hl rfl rfl rfl rfl (px_hr (by omega) (by decide)) ⟨Nat.le_refl 0, Nat.le_refl 0⟩ (Nat.le_of_ble_eq_true rfl) ?_
  refine V0_istore_1 (pc := 4) dX12_operand_4 (by decide) rfl ?_
  refine V0_iload_n (pc := 5) dX12_operand_5 rfl ?_
  refine V_callSi (pc := 6) (M' := mX12_nameOf) dX12_operand_6 mlX12_210 okX12_nameOf rfl c_X12_nameOf rfl rfl (px_hr (by omega) (by decide)) ⟨Nat.le_refl 0, Nat.le_refl 0⟩ (Nat.le_of_ble_eq_true rfl) ?_
  refine V0_if_lt (pc := 9) 34 dX12_operand_9 (by decide) (fun h9 => ?_) (fun h9 => ?_)
  · skip
    exact absurd h9 hn
  · skip
    refine V0_aload_n (pc := 12) dX12_operand_12 rfl ?_
    refine V0_iconst (pc := 13) (2) dX12_operand_13 (by decide) ?_
    refine V0_iload_n (pc := 14) dX12_operand_14 rfl ?_
    refine V_callSi (pc := 15) (M' := mX12_nameOf) dX12_operand_15 mlX12_210 okX12_nameOf rfl c_X12_nameOf rfl rfl (px_hr (by omega) (by decide)) ⟨Nat.le_refl 0, Nat.le_refl 0⟩ (Nat.le_of_ble_eq_true rfl) ?_
    refine V_callV (pc := 18) (M' := mX12_addStep) dX12_operand_18 mlX12_206 okX12_addStep rfl ha rfl rfl rfl rfl (px_hr (by omega) (by decide)) ⟨Nat.le_refl 0, Nat.le_refl 0⟩ (Nat.le_of_ble_eq_true rfl) ?_
    intro r1 I1 J1 hh
    obtain ⟨e1, e2, e3⟩ := hh
    rw [e1, e2, e3]
    clear e1 e2 e3 r1 I1 J1
    refine V0_aload_n (pc := 21) dX12_operand_21 rfl ?_
    refine V0_dup (pc := 22) dX12_operand_22 rfl ?_
    refine V_geti (pc := 23) dX12_operand_23 flX12_187 rfl rfl ?_
    refine V0_iconst (pc := 26) (1) dX12_operand_26 (by decide) ?_
    refine V0_iadd (pc := 27) dX12_operand_27 ?_
    rw [e21, nI_1]
    refine V_puti (pc := 28) dX12_operand_28 flX12_187 rfl rfl ?_
    refine V0_goto (pc := 31) 154 dX12_operand_31 (by decide) ?_
    refine V_retv (pc := 154) dX12_operand_154 rfl ?_
    rw [eq1]
    exact ⟨rfl, rfl, m_go_fr.tr m_fr_add (Nat.le_refl _), fun _ => ⟨h1, ⟨m_add_code.1, fun _ => m_add_code.2, Or.inr (Or.inl ⟨rfl, hx⟩), trivial⟩, Nat.le_refl _⟩, (fun q => absurd q (by decide))⟩
theorem O_fig {l : Launch} {J : px_J} {D : Nat} {t : Nat → Int32} {n a k r : Nat} {I : px_I} {R : px_I → Prop} (h : m_s t n a k r I) (hn : s_name (m_T t n a) < 0) (n33 : ¬ m_T t n a = 33) (n45 : ¬ m_T t n a = 45) (n40 : ¬ m_T t n a = 40) (hc : m_C l J mX12_figure 1 I R) : m_C l J mX12_operand (D + 2) I R := by
  have hl := h.at (l := l) (J := J)
  unfold m_C
  refine Ct.of plX12_operand (Nat.le_of_ble_eq_true rfl) [.ref 54, .null] rfl ?_
  refine V0_aload_n (pc := 0) dX12_operand_0 rfl ?_
  refine V_callVi (pc := 1) (M' := mX12_look) dX12_operand_1 mlX12_202 okX12_look rfl hl rfl rfl rfl rfl (px_hr (by omega) (by decide)) ⟨Nat.le_refl 0, Nat.le_refl 0⟩ (Nat.le_of_ble_eq_true rfl) ?_
  refine V0_istore_1 (pc := 4) dX12_operand_4 (by decide) rfl ?_
  refine V0_iload_n (pc := 5) dX12_operand_5 rfl ?_
  refine V_callSi (pc := 6) (M' := mX12_nameOf) dX12_operand_6 mlX12_210 okX12_nameOf rfl c_X12_nameOf rfl rfl (px_hr (by omega) (by decide)) ⟨Nat.le_refl 0, Nat.le_refl 0⟩ (Nat.le_of_ble_eq_true rfl) ?_
  refine V0_if_lt (pc := 9) 34 dX12_operand_9 (by decide) (fun h9 => ?_) (fun h9 => ?_)
  · skip
    refine V0_iload_n (pc := 34) dX12_operand_34 rfl ?_
    refine V0_bipush (pc := 35) (33) dX12_operand_35 (by decide) ?_
    refine V0_icmp_eq (pc := 37) 46 dX12_operand_37 (by decide) (fun h37 => ?_) (fun h37 => ?_)
    · skip
      exact absurd h37 n33
    · skip
      refine V0_iload_n (pc := 40) dX12_operand_40 rfl ?_
      refine V0_bipush (pc := 41) (45) dX12_operand_41 (by decide) ?_
      refine V0_icmp_ne (pc := 43) 87 dX12_operand_43 (by decide) (fun h43 => ?_) (fun h43 => ?_)
      · skip
        refine V0_iload_n (pc := 87) dX12_operand_87 rfl ?_
        refine V0_bipush (pc := 88) (40) dX12_operand_88 (by decide) ?_
        refine V0_icmp_ne (pc := 90) 150 dX12_operand_90 (by decide) (fun h90 => ?_) (fun h90 => ?_)
        · skip
          refine V0_aload_n (pc := 150) dX12_operand_150 rfl ?_
          refine V_callV (pc := 151) (M' := mX12_figure) dX12_operand_151 mlX12_224 okX12_figure rfl hc rfl rfl rfl rfl (px_hr (by omega) (by decide)) ⟨Nat.le_refl 0, Nat.le_refl 0⟩ (Nat.le_of_ble_eq_true rfl) ?_
          intro r1 I1 J1 hh
          obtain ⟨e1, e3, ho⟩ := hh
          rw [e1, e3]
          clear e1 e3 r1 J1
          refine V_retv (pc := 154) dX12_operand_154 rfl ?_
          exact ⟨rfl, rfl, ho⟩
        · skip
          exact absurd h90 n40
      · skip
        exact absurd h43 n45
  · skip
    exact absurd hn h9
theorem O_shut {l : Launch} {J : px_J} {D : Nat} {t : Nat → Int32} {n a k : Nat} {I : px_I} (h : m_s t n a k 0 I) (hn : s_name (m_T t n a) < 0) (hT : m_T t n a = 33 ∨ m_T t n a = 45 ∨ m_T t n a = 40) : m_C l J mX12_operand (D + 2) I (m_out t n a k 0 a false [] I) := by
  have hl := h.at (l := l) (J := J)
  have ho6 : I 54 23 = 6 := h.2.2.2.2.2.1.1
  have hc := c_X12_opens0 (l := l) (J := J) ho6 h.2.2.2.2.1
  rw [h.2.2.1] at hc
  have hX : m_out t n a k 0 a false [] I (px_up I 54 22 (nI a)) := ⟨m_fr.rf.up54 (by omega), (fun q => absurd q (by decide)), fun _ => ⟨k, h.wr, by omega, Nat.le_refl k⟩⟩
  unfold m_C
  refine Ct.of plX12_operand (Nat.le_of_ble_eq_true rfl) [.ref 54, .null] rfl ?_
  refine V0_aload_n (pc := 0) dX12_operand_0 rfl ?_
  refine V_callVi (pc := 1) (M' := mX12_look) dX12_operand_1 mlX12_202 okX12_look rfl hl rfl rfl rfl rfl (px_hr (by omega) (by decide)) ⟨Nat.le_refl 0, Nat.le_refl 0⟩ (Nat.le_of_ble_eq_true rfl) ?_
  refine V0_istore_1 (pc := 4) dX12_operand_4 (by decide) rfl ?_
  refine V0_iload_n (pc := 5) dX12_operand_5 rfl ?_
  refine V_callSi (pc := 6) (M' := mX12_nameOf) dX12_operand_6 mlX12_210 okX12_nameOf rfl c_X12_nameOf rfl rfl (px_hr (by omega) (by decide)) ⟨Nat.le_refl 0, Nat.le_refl 0⟩ (Nat.le_of_ble_eq_true rfl) ?_
  refine V0_if_lt (pc := 9) 34 dX12_operand_9 (by decide) (fun h9 => ?_) (fun h9 => ?_)
  · skip
    refine V0_iload_n (pc := 34) dX12_operand_34 rfl ?_
    refine V0_bipush (pc := 35) (33) dX12_operand_35 (by decide) ?_
    refine V0_icmp_eq (pc := 37) 46 dX12_operand_37 (by decide) (fun h37 => ?_) (fun h37 => ?_)
    · skip
      refine V0_aload_n (pc := 46) dX12_operand_46 rfl ?_
      refine V_callV (pc := 47) (M' := mX12_opens) dX12_operand_47 mlX12_214 okX12_opens rfl hc rfl rfl rfl rfl (px_hr (by omega) (by decide)) ⟨Nat.le_refl 0, Nat.le_refl 0⟩ (Nat.le_of_ble_eq_true rfl) ?_
      intro r1 I1 J1 hh
      obtain ⟨e1, e2, e3⟩ := hh
      rw [e1, e2, e3]
      clear e1 e2 e3 r1 I1 J1
      refine V0_if_ne (pc := 50) 54 dX12_operand_50 (by decide) (fun h50 => ?_) (fun h50 => ?_)
      · skip
        exact absurd rfl h50
      · skip
        refine V_retv (pc := 53) dX12_operand_53 rfl ?_
        exact ⟨rfl, rfl, hX⟩
    · skip
      refine V0_iload_n (pc := 40) dX12_operand_40 rfl ?_
      refine V0_bipush (pc := 41) (45) dX12_operand_41 (by decide) ?_
      refine V0_icmp_ne (pc := 43) 87 dX12_operand_43 (by decide) (fun h43 => ?_) (fun h43 => ?_)
      · skip
        refine V0_iload_n (pc := 87) dX12_operand_87 rfl ?_
        refine V0_bipush (pc := 88) (40) dX12_operand_88 (by decide) ?_
        refine V0_icmp_ne (pc := 90) 150 dX12_operand_90 (by decide) (fun h90 => ?_) (fun h90 => ?_)
        · skip
          rcases hT with e | e | e
          · exact absurd e h37
          · exact absurd e h43
          · exact absurd e h90
        · skip
          refine V0_aload_n (pc := 93) dX12_operand_93 rfl ?_
          refine V_callV (pc := 94) (M' := mX12_opens) dX12_operand_94 mlX12_214 okX12_opens rfl hc rfl rfl rfl rfl (px_hr (by omega) (by decide)) ⟨Nat.le_refl 0, Nat.le_refl 0⟩ (Nat.le_of_ble_eq_true rfl) ?_
          intro r1 I1 J1 hh
          obtain ⟨e1, e2, e3⟩ := hh
          rw [e1, e2, e3]
          clear e1 e2 e3 r1 I1 J1
          refine V0_if_ne (pc := 97) 101 dX12_operand_97 (by decide) (fun h97 => ?_) (fun h97 => ?_)
          · skip
            exact absurd rfl h97
          · skip
            refine V_retv (pc := 100) dX12_operand_100 rfl ?_
            exact ⟨rfl, rfl, hX⟩
      · skip
        refine V0_aload_n (pc := 46) dX12_operand_46 rfl ?_
        refine V_callV (pc := 47) (M' := mX12_opens) dX12_operand_47 mlX12_214 okX12_opens rfl hc rfl rfl rfl rfl (px_hr (by omega) (by decide)) ⟨Nat.le_refl 0, Nat.le_refl 0⟩ (Nat.le_of_ble_eq_true rfl) ?_
        intro r1 I1 J1 hh
        obtain ⟨e1, e2, e3⟩ := hh
        rw [e1, e2, e3]
        clear e1 e2 e3 r1 I1 J1
        refine V0_if_ne (pc := 50) 54 dX12_operand_50 (by decide) (fun h50 => ?_) (fun h50 => ?_)
        · skip
          exact absurd rfl h50
        · skip
          refine V_retv (pc := 53) dX12_operand_53 rfl ?_
          exact ⟨rfl, rfl, hX⟩
  · skip
    exact absurd hn h9
theorem O_pre {l : Launch} {J : px_J} {D : Nat} {t : Nat → Int32} {n a k r : Nat} {I : px_I} {w : Int32} {R R2 : px_I → Prop} (h : m_s t n a k (r + 1) I) (hn : s_name (m_T t n a) < 0) (hT : (m_T t n a = 33 ∧ w = 3) ∨ (m_T t n a = 45 ∧ w = 4)) {d0 : Nat} (hd0 : d0 + 1 ≤ D + 2) (hc : m_C l J mX12_operand d0 (px_up (px_up I 54 23 (nI (6 - r))) 54 21 (nI (a + 1))) R) (hadd : ∀ X, R X → ∃ k1, k1 < 130 ∧ X 54 24 = nI k1) (hk : ∀ X k1, R X → k1 < 130 → X 54 24 = nI k1 → R2 (m_addS (px_up X 54 23 (X 54 23 - 1)) k1 w 0)) : m_C l J mX12_operand (D + 2) I R2 := by
  have hl := h.at (l := l) (J := J)
  have hr6 := h.2.2.2.2.2.1.2
  have hop := c_X12_opens1 (l := l) (J := J) (p := 6 - (r + 1)) (a := a) h.2.2.2.2.2.1.1 (by omega) h.2.2.1
  rw [show 6 - (r + 1) + 1 = 6 - r from by omega] at hop
  have hbw : vp_nar .byte w.toInt8.toInt32 = w := by rcases hT with e | e <;> rw [e.2] <;> decide
  unfold m_C
  refine Ct.of plX12_operand (Nat.le_of_ble_eq_true rfl) [.ref 54, .null] rfl ?_
  refine V0_aload_n (pc := 0) dX12_operand_0 rfl ?_
  refine V_callVi (pc := 1) (M' := mX12_look) dX12_operand_1 mlX12_202 okX12_look rfl hl rfl rfl rfl rfl (px_hr (by omega) (by decide)) ⟨Nat.le_refl 0, Nat.le_refl 0⟩ (Nat.le_of_ble_eq_true rfl) ?_
  refine V0_istore_1 (pc := 4) dX12_operand_4 (by decide) rfl ?_
  refine V0_iload_n (pc := 5) dX12_operand_5 rfl ?_
  refine V_callSi (pc := 6) (M' := mX12_nameOf) dX12_operand_6 mlX12_210 okX12_nameOf rfl c_X12_nameOf rfl rfl (px_hr (by omega) (by decide)) ⟨Nat.le_refl 0, Nat.le_refl 0⟩ (Nat.le_of_ble_eq_true rfl) ?_
  refine V0_if_lt (pc := 9) 34 dX12_operand_9 (by decide) (fun h9 => ?_) (fun h9 => ?_)
  · skip
    refine V0_iload_n (pc := 34) dX12_operand_34 rfl ?_
    refine V0_bipush (pc := 35) (33) dX12_operand_35 (by decide) ?_
    refine V0_icmp_eq (pc := 37) 46 dX12_operand_37 (by decide) (fun h37 => ?_) (fun h37 => ?_)
    · skip
      refine V0_aload_n (pc := 46) dX12_operand_46 rfl ?_
      refine V_callV (pc := 47) (M' := mX12_opens) dX12_operand_47 mlX12_214 okX12_opens rfl hop rfl rfl rfl rfl (px_hr (by omega) (by decide)) ⟨Nat.le_refl 0, Nat.le_refl 0⟩ (Nat.le_of_ble_eq_true rfl) ?_
      intro r1 I1 J1 hh
      obtain ⟨e1, e2, e3⟩ := hh
      rw [e1, e2, e3]
      clear e1 e2 e3 r1 I1 J1
      refine V0_if_ne (pc := 50) 54 dX12_operand_50 (by decide) (fun h50 => ?_) (fun h50 => ?_)
      · skip
        refine V0_aload_n (pc := 54) dX12_operand_54 rfl ?_
        refine V_callV (pc := 55) (M' := mX12_operand) dX12_operand_55 mlX12_218 okX12_operand rfl hc rfl rfl rfl rfl (px_hr (by omega) (by decide)) ⟨Nat.le_refl 0, Nat.le_refl 0⟩ (Nat.le_of_ble_eq_true rfl) ?_
        intro r1 I1 J1 hh
        obtain ⟨e1, e3, ho⟩ := hh
        rw [e1, e3]
        clear e1 e3 r1 J1
        obtain ⟨k1, hk1, hk2⟩ := hadd I1 ho
        have ha := c_X12_addStep (l := l) (I := px_up I1 54 23 (I1 54 23 - 1)) (J := J) (v := 0) ((px_up_ne (by omega)).trans hk2) hk1 hbw
        refine V0_aload_n (pc := 58) dX12_operand_58 rfl ?_
        refine V0_dup (pc := 59) dX12_operand_59 rfl ?_
        refine V_geti (pc := 60) dX12_operand_60 flX12_196 rfl rfl ?_
        refine V0_iconst (pc := 63) (1) dX12_operand_63 (by decide) ?_
        refine V0_isub (pc := 64) dX12_operand_64 ?_
        refine V_puti (pc := 65) dX12_operand_65 flX12_196 rfl rfl ?_
        refine V0_aload_n (pc := 68) dX12_operand_68 rfl ?_
        refine V0_iload_n (pc := 69) dX12_operand_69 rfl ?_
        refine V0_bipush (pc := 70) (33) dX12_operand_70 (by decide) ?_
        refine V0_icmp_ne (pc := 72) 79 dX12_operand_72 (by decide) (fun h72 => ?_) (fun h72 => ?_)
        · skip
          refine V0_iconst (pc := 79) (4) dX12_operand_79 (by decide) ?_
          refine V_topc w (by rcases hT with e | e <;> first | exact e.2.symm | exact absurd (h72.symm.trans e.1) (by decide) | exact absurd e.1 h72) ?_
          refine V0_iconst (pc := 80) (0) dX12_operand_80 (by decide) ?_
          refine V_callV (pc := 81) (M' := mX12_addStep) dX12_operand_81 mlX12_206 okX12_addStep rfl ha rfl rfl rfl rfl (px_hr (by omega) (by decide)) ⟨Nat.le_refl 0, Nat.le_refl 0⟩ (Nat.le_of_ble_eq_true rfl) ?_
          intro r1 I1 J1 hh
          obtain ⟨e1, e2, e3⟩ := hh
          rw [e1, e2, e3]
          clear e1 e2 e3 r1 J1
          refine V0_goto (pc := 84) 154 dX12_operand_84 (by decide) ?_
          refine V_retv (pc := 154) dX12_operand_154 rfl ?_
          exact ⟨rfl, rfl, hk _ _ ho hk1 hk2⟩
        · skip
          refine V0_iconst (pc := 75) (3) dX12_operand_75 (by decide) ?_
          refine V0_goto (pc := 76) 80 dX12_operand_76 (by decide) ?_
          refine V_topc w (by rcases hT with e | e <;> first | exact e.2.symm | exact absurd (h72.symm.trans e.1) (by decide) | exact absurd e.1 h72) ?_
          refine V0_iconst (pc := 80) (0) dX12_operand_80 (by decide) ?_
          refine V_callV (pc := 81) (M' := mX12_addStep) dX12_operand_81 mlX12_206 okX12_addStep rfl ha rfl rfl rfl rfl (px_hr (by omega) (by decide)) ⟨Nat.le_refl 0, Nat.le_refl 0⟩ (Nat.le_of_ble_eq_true rfl) ?_
          intro r1 I1 J1 hh
          obtain ⟨e1, e2, e3⟩ := hh
          rw [e1, e2, e3]
          clear e1 e2 e3 r1 J1
          refine V0_goto (pc := 84) 154 dX12_operand_84 (by decide) ?_
          refine V_retv (pc := 154) dX12_operand_154 rfl ?_
          exact ⟨rfl, rfl, hk _ _ ho hk1 hk2⟩
      · skip
        exact absurd h50 (by decide)
    · skip
      refine V0_iload_n (pc := 40) dX12_operand_40 rfl ?_
      refine V0_bipush (pc := 41) (45) dX12_operand_41 (by decide) ?_
      refine V0_icmp_ne (pc := 43) 87 dX12_operand_43 (by decide) (fun h43 => ?_) (fun h43 => ?_)
      · skip
        rcases hT with e | e
        · exact absurd e.1 h37
        · exact absurd e.1 h43
      · skip
        refine V0_aload_n (pc := 46) dX12_operand_46 rfl ?_
        refine V_callV (pc := 47) (M' := mX12_opens) dX12_operand_47 mlX12_214 okX12_opens rfl hop rfl rfl rfl rfl (px_hr (by omega) (by decide)) ⟨Nat.le_refl 0, Nat.le_refl 0⟩ (Nat.le_of_ble_eq_true rfl) ?_
        intro r1 I1 J1 hh
        obtain ⟨e1, e2, e3⟩ := hh
        rw [e1, e2, e3]
        clear e1 e2 e3 r1 I1 J1
        refine V0_if_ne (pc := 50) 54 dX12_operand_50 (by decide) (fun h50 => ?_) (fun h50 => ?_)
        · skip
          refine V0_aload_n (pc := 54) dX12_operand_54 rfl ?_
          refine V_callV (pc := 55) (M' := mX12_operand) dX12_operand_55 mlX12_218 okX12_operand rfl hc rfl rfl rfl rfl (px_hr (by omega) (by decide)) ⟨Nat.le_refl 0, Nat.le_refl 0⟩ (Nat.le_of_ble_eq_true rfl) ?_
          intro r1 I1 J1 hh
          obtain ⟨e1, e3, ho⟩ := hh
          rw [e1, e3]
          clear e1 e3 r1 J1
          obtain ⟨k1, hk1, hk2⟩ := hadd I1 ho
          have ha := c_X12_addStep (l := l) (I := px_up I1 54 23 (I1 54 23 - 1)) (J := J) (v := 0) ((px_up_ne (by omega)).trans hk2) hk1 hbw
          refine V0_aload_n (pc := 58) dX12_operand_58 rfl ?_
          refine V0_dup (pc := 59) dX12_operand_59 rfl ?_
          refine V_geti (pc := 60) dX12_operand_60 flX12_196 rfl rfl ?_
          refine V0_iconst (pc := 63) (1) dX12_operand_63 (by decide) ?_
          refine V0_isub (pc := 64) dX12_operand_64 ?_
          refine V_puti (pc := 65) dX12_operand_65 flX12_196 rfl rfl ?_
          refine V0_aload_n (pc := 68) dX12_operand_68 rfl ?_
          refine V0_iload_n (pc := 69) dX12_operand_69 rfl ?_
          refine V0_bipush (pc := 70) (33) dX12_operand_70 (by decide) ?_
          refine V0_icmp_ne (pc := 72) 79 dX12_operand_72 (by decide) (fun h72 => ?_) (fun h72 => ?_)
          · skip
            refine V0_iconst (pc := 79) (4) dX12_operand_79 (by decide) ?_
            refine V_topc w (by rcases hT with e | e <;> first | exact e.2.symm | exact absurd (h72.symm.trans e.1) (by decide) | exact absurd e.1 h72) ?_
            refine V0_iconst (pc := 80) (0) dX12_operand_80 (by decide) ?_
            refine V_callV (pc := 81) (M' := mX12_addStep) dX12_operand_81 mlX12_206 okX12_addStep rfl ha rfl rfl rfl rfl (px_hr (by omega) (by decide)) ⟨Nat.le_refl 0, Nat.le_refl 0⟩ (Nat.le_of_ble_eq_true rfl) ?_
            intro r1 I1 J1 hh
            obtain ⟨e1, e2, e3⟩ := hh
            rw [e1, e2, e3]
            clear e1 e2 e3 r1 J1
            refine V0_goto (pc := 84) 154 dX12_operand_84 (by decide) ?_
            refine V_retv (pc := 154) dX12_operand_154 rfl ?_
            exact ⟨rfl, rfl, hk _ _ ho hk1 hk2⟩
          · skip
            refine V0_iconst (pc := 75) (3) dX12_operand_75 (by decide) ?_
            refine V0_goto (pc := 76) 80 dX12_operand_76 (by decide) ?_
            refine V_topc w (by rcases hT with e | e <;> first | exact e.2.symm | exact absurd (h72.symm.trans e.1) (by decide) | exact absurd e.1 h72) ?_
            refine V0_iconst (pc := 80) (0) dX12_operand_80 (by decide) ?_
            refine V_callV (pc := 81) (M' := mX12_addStep) dX12_operand_81 mlX12_206 okX12_addStep rfl ha rfl rfl rfl rfl (px_hr (by omega) (by decide)) ⟨Nat.le_refl 0, Nat.le_refl 0⟩ (Nat.le_of_ble_eq_true rfl) ?_
            intro r1 I1 J1 hh
            obtain ⟨e1, e2, e3⟩ := hh
            rw [e1, e2, e3]
            clear e1 e2 e3 r1 J1
            refine V0_goto (pc := 84) 154 dX12_operand_84 (by decide) ?_
            refine V_retv (pc := 154) dX12_operand_154 rfl ?_
            exact ⟨rfl, rfl, hk _ _ ho hk1 hk2⟩
        · skip
          exact absurd h50 (by decide)
  · skip
    exact absurd hn h9
theorem O_par {l : Launch} {J : px_J} {D : Nat} {t : Nat → Int32} {n a k r : Nat} {I : px_I} {R R2 : px_I → Prop} (h : m_s t n a k (r + 1) I) (hT : m_T t n a = 40) (hc : m_C l J mX12_either (D + 1) (px_up (px_up I 54 23 (nI (6 - r))) 54 21 (nI (a + 1))) R) (hk : ∀ X, R X → (∃ b k1, m_d t n b k1 X ∧ R2 X) ∨ (∃ b k1 r1, m_s t n b k1 r1 X ∧ ((m_T t n b = 41 ∧ R2 (px_up (px_up X 54 21 (nI (b + 1))) 54 23 (X 54 23 - 1))) ∨ (¬ m_T t n b = 41 ∧ R2 (px_up X 54 22 (nI b)))))) : m_C l J mX12_operand (D + 2) I R2 := by
  have hl := h.at (l := l) (J := J)
  have hr6 := h.2.2.2.2.2.1.2
  have hn : s_name (m_T t n a) < 0 := by rw [hT]; decide
  have hop := c_X12_opens1 (l := l) (J := J) (p := 6 - (r + 1)) (a := a) h.2.2.2.2.2.1.1 (by omega) h.2.2.1
  rw [show 6 - (r + 1) + 1 = 6 - r from by omega] at hop
  have kk : ∀ X, R X → ∀ v : Value, V0 l (px_rm (D + 2) 0 0) mX12_operand (false, []) 0 0 105 [.ref 54, v] [] (px_mk X J) (px_q (fun x I' J' => x = none ∧ J' = J ∧ R2 I')) := by
    intro X hX v
    rcases hk X hX with ⟨b, k1, hd, h2⟩ | ⟨b, k1, r1, hs, h2⟩
    · have hn120 := hd.2.1
      have hbn := hd.2.2.2.1
      refine V0_aload_n (pc := 105) dX12_operand_105 rfl ?_
      refine V_geti (pc := 106) dX12_operand_106 flX12_190 rfl rfl ?_
      rw [hd.2.2.2.2.1]
      refine V0_if_lt (pc := 109) 113 dX12_operand_109 (by decide) (fun h109 => ?_) (fun h109 => ?_)
      · skip
        exact absurd h109 (nI_nn (by omega))
      · skip
        refine V_retv (pc := 112) dX12_operand_112 rfl ?_
        exact ⟨rfl, rfl, h2⟩
    · have hlb := hs.at (l := l) (J := J)
      rcases h2 with ⟨e, h2⟩ | ⟨e, h2⟩
      · skip
        refine V0_aload_n (pc := 105) dX12_operand_105 rfl ?_
        refine V_geti (pc := 106) dX12_operand_106 flX12_190 rfl rfl ?_
        rw [hs.2.2.2.2.1]
        refine V0_if_lt (pc := 109) 113 dX12_operand_109 (by decide) (fun h109 => ?_) (fun h109 => ?_)
        · skip
          refine V0_aload_n (pc := 113) dX12_operand_113 rfl ?_
          refine V_callVi (pc := 114) (M' := mX12_look) dX12_operand_114 mlX12_202 okX12_look rfl hlb rfl rfl rfl rfl (px_hr (by omega) (by decide)) ⟨Nat.le_refl 0, Nat.le_refl 0⟩ (Nat.le_of_ble_eq_true rfl) ?_
          refine V0_bipush (pc := 117) (41) dX12_operand_117 (by decide) ?_
          refine V0_icmp_eq (pc := 119) 127 dX12_operand_119 (by decide) (fun h119 => ?_) (fun h119 => ?_)
          · skip
            refine V0_aload_n (pc := 127) dX12_operand_127 rfl ?_
            refine V0_dup (pc := 128) dX12_operand_128 rfl ?_
            refine V_geti (pc := 129) dX12_operand_129 flX12_187 rfl rfl ?_
            refine V0_iconst (pc := 132) (1) dX12_operand_132 (by decide) ?_
            refine V0_iadd (pc := 133) dX12_operand_133 ?_
            rw [hs.2.2.1, nI_1]
            refine V_puti (pc := 134) dX12_operand_134 flX12_187 rfl rfl ?_
            refine V0_aload_n (pc := 137) dX12_operand_137 rfl ?_
            refine V0_dup (pc := 138) dX12_operand_138 rfl ?_
            refine V_geti (pc := 139) dX12_operand_139 flX12_196 rfl rfl ?_
            refine V0_iconst (pc := 142) (1) dX12_operand_142 (by decide) ?_
            refine V0_isub (pc := 143) dX12_operand_143 ?_
            rw [show px_up X 54 21 (nI (b + 1)) 54 23 = X 54 23 from px_up_ne (by omega)]
            refine V_puti (pc := 144) dX12_operand_144 flX12_196 rfl rfl ?_
            refine V0_goto (pc := 147) 154 dX12_operand_147 (by decide) ?_
            refine V_retv (pc := 154) dX12_operand_154 rfl ?_
            exact ⟨rfl, rfl, h2⟩
          · skip
            exact absurd e h119
        · skip
          exact absurd (by decide) h109
      · skip
        refine V0_aload_n (pc := 105) dX12_operand_105 rfl ?_
        refine V_geti (pc := 106) dX12_operand_106 flX12_190 rfl rfl ?_
        rw [hs.2.2.2.2.1]
        refine V0_if_lt (pc := 109) 113 dX12_operand_109 (by decide) (fun h109 => ?_) (fun h109 => ?_)
        · skip
          refine V0_aload_n (pc := 113) dX12_operand_113 rfl ?_
          refine V_callVi (pc := 114) (M' := mX12_look) dX12_operand_114 mlX12_202 okX12_look rfl hlb rfl rfl rfl rfl (px_hr (by omega) (by decide)) ⟨Nat.le_refl 0, Nat.le_refl 0⟩ (Nat.le_of_ble_eq_true rfl) ?_
          refine V0_bipush (pc := 117) (41) dX12_operand_117 (by decide) ?_
          refine V0_icmp_eq (pc := 119) 127 dX12_operand_119 (by decide) (fun h119 => ?_) (fun h119 => ?_)
          · skip
            exact absurd h119 e
          · skip
            refine V0_aload_n (pc := 122) dX12_operand_122 rfl ?_
            refine V_callV (pc := 123) (M' := mX12_wrong) dX12_operand_123 mlX12_199 okX12_wrong rfl (c_X12_wrong hs.2.2.2.2.1) rfl rfl rfl rfl (px_hr (by omega) (by decide)) ⟨Nat.le_refl 0, Nat.le_refl 0⟩ (Nat.le_of_ble_eq_true rfl) ?_
            intro r1 I1 J1 hh
            obtain ⟨e1, e2, e3⟩ := hh
            rw [e1, e2, e3]
            clear e1 e2 e3 r1 I1 J1
            rw [hs.2.2.1]
            refine V_retv (pc := 126) dX12_operand_126 rfl ?_
            exact ⟨rfl, rfl, h2⟩
        · skip
          exact absurd (by decide) h109
  unfold m_C
  refine Ct.of plX12_operand (Nat.le_of_ble_eq_true rfl) [.ref 54, .null] rfl ?_
  refine V0_aload_n (pc := 0) dX12_operand_0 rfl ?_
  refine V_callVi (pc := 1) (M' := mX12_look) dX12_operand_1 mlX12_202 okX12_look rfl hl rfl rfl rfl rfl (px_hr (by omega) (by decide)) ⟨Nat.le_refl 0, Nat.le_refl 0⟩ (Nat.le_of_ble_eq_true rfl) ?_
  refine V0_istore_1 (pc := 4) dX12_operand_4 (by decide) rfl ?_
  refine V0_iload_n (pc := 5) dX12_operand_5 rfl ?_
  refine V_callSi (pc := 6) (M' := mX12_nameOf) dX12_operand_6 mlX12_210 okX12_nameOf rfl c_X12_nameOf rfl rfl (px_hr (by omega) (by decide)) ⟨Nat.le_refl 0, Nat.le_refl 0⟩ (Nat.le_of_ble_eq_true rfl) ?_
  refine V0_if_lt (pc := 9) 34 dX12_operand_9 (by decide) (fun h9 => ?_) (fun h9 => ?_)
  · skip
    refine V0_iload_n (pc := 34) dX12_operand_34 rfl ?_
    refine V0_bipush (pc := 35) (33) dX12_operand_35 (by decide) ?_
    refine V0_icmp_eq (pc := 37) 46 dX12_operand_37 (by decide) (fun h37 => ?_) (fun h37 => ?_)
    · skip
      exact absurd (h37.symm.trans hT) (by decide)
    · skip
      refine V0_iload_n (pc := 40) dX12_operand_40 rfl ?_
      refine V0_bipush (pc := 41) (45) dX12_operand_41 (by decide) ?_
      refine V0_icmp_ne (pc := 43) 87 dX12_operand_43 (by decide) (fun h43 => ?_) (fun h43 => ?_)
      · skip
        refine V0_iload_n (pc := 87) dX12_operand_87 rfl ?_
        refine V0_bipush (pc := 88) (40) dX12_operand_88 (by decide) ?_
        refine V0_icmp_ne (pc := 90) 150 dX12_operand_90 (by decide) (fun h90 => ?_) (fun h90 => ?_)
        · skip
          exact absurd hT h90
        · skip
          refine V0_aload_n (pc := 93) dX12_operand_93 rfl ?_
          refine V_callV (pc := 94) (M' := mX12_opens) dX12_operand_94 mlX12_214 okX12_opens rfl hop rfl rfl rfl rfl (px_hr (by omega) (by decide)) ⟨Nat.le_refl 0, Nat.le_refl 0⟩ (Nat.le_of_ble_eq_true rfl) ?_
          intro r1 I1 J1 hh
          obtain ⟨e1, e2, e3⟩ := hh
          rw [e1, e2, e3]
          clear e1 e2 e3 r1 I1 J1
          refine V0_if_ne (pc := 97) 101 dX12_operand_97 (by decide) (fun h97 => ?_) (fun h97 => ?_)
          · skip
            refine V0_aload_n (pc := 101) dX12_operand_101 rfl ?_
            refine V_callV (pc := 102) (M' := mX12_either) dX12_operand_102 mlX12_221 okX12_either rfl hc rfl rfl rfl rfl (px_hr (by omega) (by decide)) ⟨Nat.le_refl 0, Nat.le_refl 0⟩ (Nat.le_of_ble_eq_true rfl) ?_
            intro r1 I1 J1 hh
            obtain ⟨e1, e3, ho⟩ := hh
            rw [e1, e3]
            clear e1 e3 r1 J1
            exact kk _ ho _
          · skip
            exact absurd h97 (by decide)
      · skip
        exact absurd (h43.symm.trans hT) (by decide)
  · skip
    exact absurd hn h9

