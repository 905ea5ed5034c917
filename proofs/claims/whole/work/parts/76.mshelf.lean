/-! the Model: shelves -/
theorem c_X12_keep {l : Launch} {I : px_I} {J : px_J} {s b : Int32} : Ct l mX12_keep 2 [.ref 54, .int s, .int b] I J (px_qi (if s_within s 0 5 = true ∧ (b = -1 ∨ m_body I b = true) then 1 else -1) (if s_within s 0 5 = true ∧ (b = -1 ∨ m_body I b = true) then px_up I 88 (ix s) b else I) J) := by
  by_cases z : s_within s 0 5 = true ∧ (b = -1 ∨ m_body I b = true)
  · have hs := w_ixc (m := 5) (by omega) rfl z.1
    refine Ct.of plX12_keep (Nat.le_of_ble_eq_true rfl) [.ref 54, .int s, .int b] rfl ?_
    refine V0_iload_n (pc := 0) dX12_keep_0 rfl ?_
    refine V_callSi (pc := 1) (M' := mX12_isShelf) dX12_keep_1 mlX12_149 okX12_isShelf rfl c_X12_isShelf rfl rfl ⟨Nat.le_of_ble_eq_true rfl, Nat.le_of_ble_eq_true rfl⟩ ⟨Nat.le_refl 0, Nat.le_refl 0⟩ (Nat.le_of_ble_eq_true rfl) ?_
    refine V_ifeqb (pc := 4) 20 dX12_keep_4 (by decide) (fun h4 => ?_) (fun h4 => ?_)
    · skip
      exact absurd (z.1.symm.trans (show s_within s 0 5 = false from h4)) (by decide)
    · skip
      refine V0_iload_n (pc := 7) dX12_keep_7 rfl ?_
      refine V0_iconst (pc := 8) (-1) dX12_keep_8 (by decide) ?_
      refine V0_icmp_eq (pc := 9) 22 dX12_keep_9 (by decide) (fun h9 => ?_) (fun h9 => ?_)
      · skip
        refine V0_aload_n (pc := 22) dX12_keep_22 rfl ?_
        refine V_getr (pc := 23) dX12_keep_23 flX12_111 rfl rfl ?_
        refine V0_iload_n (pc := 26) dX12_keep_26 rfl ?_
        refine V0_iload_n (pc := 27) dX12_keep_27 rfl ?_
        refine V_iast (pc := 28) (ix s) dX12_keep_28 rfl hs.1 (by omega) ?_
        refine V0_iconst (pc := 29) (1) dX12_keep_29 (by decide) ?_
        refine V_reti (pc := 30) _ dX12_keep_30 rfl ?_
        exact ⟨by rw [if_pos z], by rw [if_pos z], rfl⟩
      · skip
        refine V0_aload_n (pc := 12) dX12_keep_12 rfl ?_
        refine V0_iload_n (pc := 13) dX12_keep_13 rfl ?_
        refine V_callVi (pc := 14) (M' := mX12_isBody) dX12_keep_14 mlX12_425 okX12_isBody rfl c_X12_isBody rfl rfl rfl rfl ⟨Nat.le_of_ble_eq_true rfl, Nat.le_of_ble_eq_true rfl⟩ ⟨Nat.le_refl 0, Nat.le_refl 0⟩ (Nat.le_of_ble_eq_true rfl) ?_
        refine V_ifneb (pc := 17) 22 dX12_keep_17 (by decide) (fun h17 => ?_) (fun h17 => ?_)
        · skip
          refine V0_aload_n (pc := 22) dX12_keep_22 rfl ?_
          refine V_getr (pc := 23) dX12_keep_23 flX12_111 rfl rfl ?_
          refine V0_iload_n (pc := 26) dX12_keep_26 rfl ?_
          refine V0_iload_n (pc := 27) dX12_keep_27 rfl ?_
          refine V_iast (pc := 28) (ix s) dX12_keep_28 rfl hs.1 (by omega) ?_
          refine V0_iconst (pc := 29) (1) dX12_keep_29 (by decide) ?_
          refine V_reti (pc := 30) _ dX12_keep_30 rfl ?_
          exact ⟨by rw [if_pos z], by rw [if_pos z], rfl⟩
        · skip
          exact absurd z.2 (fun q => q.elim (fun e => h9 e) (fun e => absurd (e.symm.trans (show m_body I b = false from h17)) (by decide)))
  · refine Ct.of plX12_keep (Nat.le_of_ble_eq_true rfl) [.ref 54, .int s, .int b] rfl ?_
    refine V0_iload_n (pc := 0) dX12_keep_0 rfl ?_
    refine V_callSi (pc := 1) (M' := mX12_isShelf) dX12_keep_1 mlX12_149 okX12_isShelf rfl c_X12_isShelf rfl rfl ⟨Nat.le_of_ble_eq_true rfl, Nat.le_of_ble_eq_true rfl⟩ ⟨Nat.le_refl 0, Nat.le_refl 0⟩ (Nat.le_of_ble_eq_true rfl) ?_
    refine V_ifeqb (pc := 4) 20 dX12_keep_4 (by decide) (fun h4 => ?_) (fun h4 => ?_)
    · skip
      refine V0_iconst (pc := 20) (-1) dX12_keep_20 (by decide) ?_
      refine V_reti (pc := 21) _ dX12_keep_21 rfl ?_
      exact ⟨by rw [if_neg z] <;> rfl, by rw [if_neg z], rfl⟩
    · skip
      refine V0_iload_n (pc := 7) dX12_keep_7 rfl ?_
      refine V0_iconst (pc := 8) (-1) dX12_keep_8 (by decide) ?_
      refine V0_icmp_eq (pc := 9) 22 dX12_keep_9 (by decide) (fun h9 => ?_) (fun h9 => ?_)
      · skip
        exact absurd ⟨h4, Or.inl h9⟩ z
      · skip
        refine V0_aload_n (pc := 12) dX12_keep_12 rfl ?_
        refine V0_iload_n (pc := 13) dX12_keep_13 rfl ?_
        refine V_callVi (pc := 14) (M' := mX12_isBody) dX12_keep_14 mlX12_425 okX12_isBody rfl c_X12_isBody rfl rfl rfl rfl ⟨Nat.le_of_ble_eq_true rfl, Nat.le_of_ble_eq_true rfl⟩ ⟨Nat.le_refl 0, Nat.le_refl 0⟩ (Nat.le_of_ble_eq_true rfl) ?_
        refine V_ifneb (pc := 17) 22 dX12_keep_17 (by decide) (fun h17 => ?_) (fun h17 => ?_)
        · skip
          exact absurd ⟨h4, Or.inr (show m_body I b = true from h17)⟩ z
        · skip
          refine V0_iconst (pc := 20) (-1) dX12_keep_20 (by decide) ?_
          refine V_reti (pc := 21) _ dX12_keep_21 rfl ?_
          exact ⟨by rw [if_neg z] <;> rfl, by rw [if_neg z], rfl⟩
def m_zr (J : px_J) (a k : Nat) : px_J := fun p i => if p = 90 ∧ a ≤ i ∧ i < a + k then 0 else J p i
theorem m_zr_0 {J : px_J} {a : Nat} : m_zr J a 0 = J := by funext p i; simp only [m_zr]; rw [if_neg (by omega)]
theorem m_zr_s {J : px_J} {a k : Nat} : px_upL (m_zr J a k) 90 (a + k) 0 = m_zr J a (k + 1) := by
  funext p i
  simp only [px_upL, m_zr]
  by_cases h : p = 90 ∧ i = a + k
  · rw [if_pos h, if_pos ⟨h.1, by omega, by omega⟩]
  · rw [if_neg h]
    by_cases h2 : p = 90 ∧ a ≤ i ∧ i < a + k
    · rw [if_pos h2, if_pos ⟨h2.1, by omega, by omega⟩]
    · rw [if_neg h2, if_neg (fun q => by
        by_cases e : i = a + k
        · exact h ⟨q.1, e⟩
        · exact h2 ⟨q.1, q.2.1, by omega⟩)]
theorem lp_X12_row {l : Launch} {I : px_I} {J : px_J} {s : Nat} {t n : Int32} {Q : px_Q} (hs : s < 6) (hQ : Q (some (.int 1)) I (m_zr J (60 * s) 60)) : ∀ (f k : Nat), k + f = 60 → V0 l (px_rm 2 0 0) mX12_row (false, []) 0 0 54 [.ref 54, .int (nI s), .int t, .int n, .int (nI (60 * s + k))] [] (px_mk I (m_zr J (60 * s) k)) (px_q Q) := by
  have e60 : (60 : Int32) * nI s + 60 = nI (60 * s + 60) := by rw [show (60 : Int32) = nI 60 from rfl, qI_mul, qI_add]
  intro f
  induction f with
  | zero =>
    intro k h1
    obtain rfl : k = 60 := by omega
    refine V0_iload (pc := 54) dX12_row_54 rfl ?_
    refine V0_bipush (pc := 56) (60) dX12_row_56 (by decide) ?_
    refine V0_iload_n (pc := 58) dX12_row_58 rfl ?_
    refine V0_imul (pc := 59) dX12_row_59 ?_
    refine V0_bipush (pc := 60) (60) dX12_row_60 (by decide) ?_
    refine V0_iadd (pc := 62) dX12_row_62 ?_
    rw [e60]
    refine V1_icmp_ge (pc := 63) 80 dX12_row_63 (by decide) (fun h63 => ?_) (fun h63 => ?_)
    · skip
      refine V0_iconst (pc := 80) (1) dX12_row_80 (by decide) ?_
      refine V_reti (pc := 81) _ dX12_row_81 rfl ?_
      exact hQ
    · skip
      exact absurd ((qI_lt (a := 60 * s + 60) (b := 60 * s + 60) (by omega) (by omega)).mp h63) (by omega)
  | succ f ih =>
    intro k h1
    have hlt : nI (60 * s + k) < nI (60 * s + 60) := (qI_lt (by omega) (by omega)).mpr (by omega)
    refine V0_iload (pc := 54) dX12_row_54 rfl ?_
    refine V0_bipush (pc := 56) (60) dX12_row_56 (by decide) ?_
    refine V0_iload_n (pc := 58) dX12_row_58 rfl ?_
    refine V0_imul (pc := 59) dX12_row_59 ?_
    refine V0_bipush (pc := 60) (60) dX12_row_60 (by decide) ?_
    refine V0_iadd (pc := 62) dX12_row_62 ?_
    rw [e60]
    refine V1_icmp_ge (pc := 63) 80 dX12_row_63 (by decide) (fun h63 => ?_) (fun h63 => ?_)
    · skip
      exact absurd hlt h63
    · skip
      refine V0_aload_n (pc := 66) dX12_row_66 rfl ?_
      refine V_getr (pc := 67) dX12_row_67 flX12_117 rfl rfl ?_
      refine V0_iload (pc := 70) dX12_row_70 rfl ?_
      refine V0_lconst (pc := 72) 0 dX12_row_72 (by decide) ?_
      refine V_last (pc := 73) (60 * s + k) dX12_row_73 rfl rfl (by omega) ?_
      refine V0_iinc_4 (pc := 74) (nI ((60 * s + k) + 1)) dX12_row_74 (by decide) rfl (nI_1 _) ?_
      refine V0_goto (pc := 77) 54 dX12_row_77 (by decide) ?_
      rw [m_zr_s]
      exact ih (k + 1) (by omega)
theorem c_X12_row {l : Launch} {I : px_I} {J : px_J} {x t n : Int32} : Ct l mX12_row 2 [.ref 54, .int x, .int t, .int n] I J (fun r I' J' => if s_within x 0 5 = true ∧ s_within t 0 4 = true ∧ ¬ 60 < n then (if n < 0 then r = some (.int (-14)) ∧ I' = I ∧ J' = J else r = some (.int 1) ∧ I' = px_up (px_up I 88 (ix x) (-2 - t)) 89 (ix x) n ∧ J' = m_zr J (60 * ix x) 60) else r = some (.int (-1)) ∧ I' = I ∧ J' = J) := by
  by_cases z : s_within x 0 5 = true ∧ s_within t 0 4 = true ∧ ¬ 60 < n
  · have hs := w_ixc (m := 5) (by omega) rfl z.1
    have h0 := lp_X12_row (l := l) (I := px_up (px_up I 88 (ix x) (-2 - t)) 89 (ix x) n) (J := J) (s := ix x) (t := t) (n := n) (Q := fun r I' J' => if s_within x 0 5 = true ∧ s_within t 0 4 = true ∧ ¬ 60 < n then (if n < 0 then r = some (.int (-14)) ∧ I' = I ∧ J' = J else r = some (.int 1) ∧ I' = px_up (px_up I 88 (ix x) (-2 - t)) 89 (ix x) n ∧ J' = m_zr J (60 * ix x) 60) else r = some (.int (-1)) ∧ I' = I ∧ J' = J) (by omega)
    have e60 : (60 : Int32) * x = nI (60 * ix x + 0) := by
      have e := qI_mul 60 (ix x)
      rw [← hs.1] at e
      exact e
    refine Ct.of plX12_row (Nat.le_of_ble_eq_true rfl) [.ref 54, .int x, .int t, .int n, .null] rfl ?_
    refine V0_iload_n (pc := 0) dX12_row_0 rfl ?_
    refine V_callSi (pc := 1) (M' := mX12_isShelf) dX12_row_1 mlX12_149 okX12_isShelf rfl c_X12_isShelf rfl rfl ⟨Nat.le_of_ble_eq_true rfl, Nat.le_of_ble_eq_true rfl⟩ ⟨Nat.le_refl 0, Nat.le_refl 0⟩ (Nat.le_of_ble_eq_true rfl) ?_
    refine V_ifeqb (pc := 4) 22 dX12_row_4 (by decide) (fun h4 => ?_) (fun h4 => ?_)
    · skip
      exact absurd (z.1.symm.trans (show s_within x 0 5 = false from h4)) (by decide)
    · skip
      refine V0_iload_n (pc := 7) dX12_row_7 rfl ?_
      refine V0_iconst (pc := 8) (0) dX12_row_8 (by decide) ?_
      refine V0_iconst (pc := 9) (4) dX12_row_9 (by decide) ?_
      refine V_callSi (pc := 10) (M' := mX12_in) dX12_row_10 mlX12_131 okX12_in rfl c_X12_in rfl rfl ⟨Nat.le_of_ble_eq_true rfl, Nat.le_of_ble_eq_true rfl⟩ ⟨Nat.le_refl 0, Nat.le_refl 0⟩ (Nat.le_of_ble_eq_true rfl) ?_
      refine V_ifeqb (pc := 13) 22 dX12_row_13 (by decide) (fun h13 => ?_) (fun h13 => ?_)
      · skip
        exact absurd (z.2.1.symm.trans (show s_within t 0 4 = false from h13)) (by decide)
      · skip
        refine V0_iload_n (pc := 16) dX12_row_16 rfl ?_
        refine V0_bipush (pc := 17) (60) dX12_row_17 (by decide) ?_
        refine V1_icmp_le (pc := 19) 24 dX12_row_19 (by decide) (fun h19 => ?_) (fun h19 => ?_)
        · skip
          refine V0_iload_n (pc := 24) dX12_row_24 rfl ?_
          refine V1_if_ge (pc := 25) 31 dX12_row_25 (by decide) (fun h25 => ?_) (fun h25 => ?_)
          · skip
            refine V0_aload_n (pc := 31) dX12_row_31 rfl ?_
            refine V_getr (pc := 32) dX12_row_32 flX12_111 rfl rfl ?_
            refine V0_iload_n (pc := 35) dX12_row_35 rfl ?_
            refine V0_bipush (pc := 36) (-2) dX12_row_36 (by decide) ?_
            refine V0_iload_n (pc := 38) dX12_row_38 rfl ?_
            refine V0_isub (pc := 39) dX12_row_39 ?_
            refine V_iast (pc := 40) (ix x) dX12_row_40 rfl hs.1 (by omega) ?_
            refine V0_aload_n (pc := 41) dX12_row_41 rfl ?_
            refine V_getr (pc := 42) dX12_row_42 flX12_114 rfl rfl ?_
            refine V0_iload_n (pc := 45) dX12_row_45 rfl ?_
            refine V0_iload_n (pc := 46) dX12_row_46 rfl ?_
            refine V_iast (pc := 47) (ix x) dX12_row_47 rfl hs.1 (by omega) ?_
            refine V0_bipush (pc := 48) (60) dX12_row_48 (by decide) ?_
            refine V0_iload_n (pc := 50) dX12_row_50 rfl ?_
            refine V0_imul (pc := 51) dX12_row_51 ?_
            rw [e60]
            refine V0_istore_4 (pc := 52) dX12_row_52 (by decide) rfl ?_
            have h1 := h0 (by rw [if_pos z, if_neg h25]; exact ⟨rfl, rfl, rfl⟩) 60 0 rfl
            rw [m_zr_0, ← hs.1] at h1
            exact h1
          · skip
            refine V0_bipush (pc := 28) (-14) dX12_row_28 (by decide) ?_
            refine V_reti (pc := 30) _ dX12_row_30 rfl ?_
            rw [if_pos z, if_pos h25]
            exact ⟨rfl, rfl, rfl⟩
        · skip
          exact absurd h19 z.2.2
  · refine Ct.of plX12_row (Nat.le_of_ble_eq_true rfl) [.ref 54, .int x, .int t, .int n, .null] rfl ?_
    refine V0_iload_n (pc := 0) dX12_row_0 rfl ?_
    refine V_callSi (pc := 1) (M' := mX12_isShelf) dX12_row_1 mlX12_149 okX12_isShelf rfl c_X12_isShelf rfl rfl ⟨Nat.le_of_ble_eq_true rfl, Nat.le_of_ble_eq_true rfl⟩ ⟨Nat.le_refl 0, Nat.le_refl 0⟩ (Nat.le_of_ble_eq_true rfl) ?_
    refine V_ifeqb (pc := 4) 22 dX12_row_4 (by decide) (fun h4 => ?_) (fun h4 => ?_)
    · skip
      refine V0_iconst (pc := 22) (-1) dX12_row_22 (by decide) ?_
      refine V_reti (pc := 23) _ dX12_row_23 rfl ?_
      rw [if_neg z]
      exact ⟨rfl, rfl, rfl⟩
    · skip
      refine V0_iload_n (pc := 7) dX12_row_7 rfl ?_
      refine V0_iconst (pc := 8) (0) dX12_row_8 (by decide) ?_
      refine V0_iconst (pc := 9) (4) dX12_row_9 (by decide) ?_
      refine V_callSi (pc := 10) (M' := mX12_in) dX12_row_10 mlX12_131 okX12_in rfl c_X12_in rfl rfl ⟨Nat.le_of_ble_eq_true rfl, Nat.le_of_ble_eq_true rfl⟩ ⟨Nat.le_refl 0, Nat.le_refl 0⟩ (Nat.le_of_ble_eq_true rfl) ?_
      refine V_ifeqb (pc := 13) 22 dX12_row_13 (by decide) (fun h13 => ?_) (fun h13 => ?_)
      · skip
        refine V0_iconst (pc := 22) (-1) dX12_row_22 (by decide) ?_
        refine V_reti (pc := 23) _ dX12_row_23 rfl ?_
        rw [if_neg z]
        exact ⟨rfl, rfl, rfl⟩
      · skip
        refine V0_iload_n (pc := 16) dX12_row_16 rfl ?_
        refine V0_bipush (pc := 17) (60) dX12_row_17 (by decide) ?_
        refine V1_icmp_le (pc := 19) 24 dX12_row_19 (by decide) (fun h19 => ?_) (fun h19 => ?_)
        · skip
          exact absurd ⟨h4, h13, h19⟩ z
        · skip
          refine V0_iconst (pc := 22) (-1) dX12_row_22 (by decide) ?_
          refine V_reti (pc := 23) _ dX12_row_23 rfl ?_
          rw [if_neg z]
          exact ⟨rfl, rfl, rfl⟩
def m_why (I : px_I) (s i : Int32) : Int32 := if s_within s 0 5 = true then (if I 88 (ix s) = -1 then -11 else if I 88 (ix s) < 0 then (if s_within i 0 (I 89 (ix s) - 1) = true then 0 else -13) else -12) else -1
theorem c_X12_whyNoPlace {l : Launch} {I : px_I} {J : px_J} {s i : Int32} : CtI l mX12_whyNoPlace 2 [.ref 54, .int s, .int i] I J (m_why I s i) := by
  by_cases z : s_within s 0 5 = true
  · have hs := w_ixc (m := 5) (by omega) rfl z
    refine Ct.of plX12_whyNoPlace (Nat.le_of_ble_eq_true rfl) [.ref 54, .int s, .int i] rfl ?_
    refine V0_iload_n (pc := 0) dX12_whyNoPlace_0 rfl ?_
    refine V_callSi (pc := 1) (M' := mX12_isShelf) dX12_whyNoPlace_1 mlX12_149 okX12_isShelf rfl c_X12_isShelf rfl rfl ⟨Nat.le_of_ble_eq_true rfl, Nat.le_of_ble_eq_true rfl⟩ ⟨Nat.le_refl 0, Nat.le_refl 0⟩ (Nat.le_of_ble_eq_true rfl) ?_
    refine V_ifneb (pc := 4) 9 dX12_whyNoPlace_4 (by decide) (fun h4 => ?_) (fun h4 => ?_)
    · skip
      refine V0_aload_n (pc := 9) dX12_whyNoPlace_9 rfl ?_
      refine V_getr (pc := 10) dX12_whyNoPlace_10 flX12_111 rfl rfl ?_
      refine V0_iload_n (pc := 13) dX12_whyNoPlace_13 rfl ?_
      refine V_iald (pc := 14) (ix s) dX12_whyNoPlace_14 rfl hs.1 (by omega) ?_
      refine V0_iconst (pc := 15) (-1) dX12_whyNoPlace_15 (by decide) ?_
      refine V0_icmp_ne (pc := 16) 22 dX12_whyNoPlace_16 (by decide) (fun h16 => ?_) (fun h16 => ?_)
      · skip
        refine V0_aload_n (pc := 22) dX12_whyNoPlace_22 rfl ?_
        refine V_getr (pc := 23) dX12_whyNoPlace_23 flX12_111 rfl rfl ?_
        refine V0_iload_n (pc := 26) dX12_whyNoPlace_26 rfl ?_
        refine V_iald (pc := 27) (ix s) dX12_whyNoPlace_27 rfl hs.1 (by omega) ?_
        refine V0_if_lt (pc := 28) 34 dX12_whyNoPlace_28 (by decide) (fun h28 => ?_) (fun h28 => ?_)
        · skip
          refine V0_iload_n (pc := 34) dX12_whyNoPlace_34 rfl ?_
          refine V0_iconst (pc := 35) (0) dX12_whyNoPlace_35 (by decide) ?_
          refine V0_aload_n (pc := 36) dX12_whyNoPlace_36 rfl ?_
          refine V_getr (pc := 37) dX12_whyNoPlace_37 flX12_114 rfl rfl ?_
          refine V0_iload_n (pc := 40) dX12_whyNoPlace_40 rfl ?_
          refine V_iald (pc := 41) (ix s) dX12_whyNoPlace_41 rfl hs.1 (by omega) ?_
          refine V0_iconst (pc := 42) (1) dX12_whyNoPlace_42 (by decide) ?_
          refine V0_isub (pc := 43) dX12_whyNoPlace_43 ?_
          refine V_callSi (pc := 44) (M' := mX12_in) dX12_whyNoPlace_44 mlX12_131 okX12_in rfl c_X12_in rfl rfl ⟨Nat.le_of_ble_eq_true rfl, Nat.le_of_ble_eq_true rfl⟩ ⟨Nat.le_refl 0, Nat.le_refl 0⟩ (Nat.le_of_ble_eq_true rfl) ?_
          refine V_ifeqb (pc := 47) 54 dX12_whyNoPlace_47 (by decide) (fun h47 => ?_) (fun h47 => ?_)
          · skip
            refine V0_bipush (pc := 54) (-13) dX12_whyNoPlace_54 (by decide) ?_
            refine V_reti (pc := 56) _ dX12_whyNoPlace_56 rfl ?_
            refine px_li ?_
            rw [m_why, if_pos z]
            clear hs
            simp [*]
          · skip
            refine V0_iconst (pc := 50) (0) dX12_whyNoPlace_50 (by decide) ?_
            refine V0_goto (pc := 51) 56 dX12_whyNoPlace_51 (by decide) ?_
            refine V_reti (pc := 56) _ dX12_whyNoPlace_56 rfl ?_
            refine px_li ?_
            rw [m_why, if_pos z]
            clear hs
            simp [*]
        · skip
          refine V0_bipush (pc := 31) (-12) dX12_whyNoPlace_31 (by decide) ?_
          refine V_reti (pc := 33) _ dX12_whyNoPlace_33 rfl ?_
          refine px_li ?_
          rw [m_why, if_pos z]
          clear hs
          simp [*]
      · skip
        refine V0_bipush (pc := 19) (-11) dX12_whyNoPlace_19 (by decide) ?_
        refine V_reti (pc := 21) _ dX12_whyNoPlace_21 rfl ?_
        refine px_li ?_
        rw [m_why, if_pos z]
        clear hs
        simp [*]
    · skip
      exact absurd (z.symm.trans (show s_within s 0 5 = false from h4)) (by decide)
  · refine Ct.of plX12_whyNoPlace (Nat.le_of_ble_eq_true rfl) [.ref 54, .int s, .int i] rfl ?_
    refine V0_iload_n (pc := 0) dX12_whyNoPlace_0 rfl ?_
    refine V_callSi (pc := 1) (M' := mX12_isShelf) dX12_whyNoPlace_1 mlX12_149 okX12_isShelf rfl c_X12_isShelf rfl rfl ⟨Nat.le_of_ble_eq_true rfl, Nat.le_of_ble_eq_true rfl⟩ ⟨Nat.le_refl 0, Nat.le_refl 0⟩ (Nat.le_of_ble_eq_true rfl) ?_
    refine V_ifneb (pc := 4) 9 dX12_whyNoPlace_4 (by decide) (fun h4 => ?_) (fun h4 => ?_)
    · skip
      exact absurd h4 z
    · skip
      refine V0_iconst (pc := 7) (-1) dX12_whyNoPlace_7 (by decide) ?_
      refine V_reti (pc := 8) _ dX12_whyNoPlace_8 rfl ?_
      refine px_li ?_
      rw [m_why, if_neg z] <;> rfl
theorem m_why_ok {I : px_I} {s i : Int32} (hz : m_szok I) (h : ¬ m_why I s i < 0) : s_within s 0 5 = true ∧ (s = nI (ix s) ∧ ix s < 6) ∧ (i = nI (ix i) ∧ ix i < 60) ∧ I 88 (ix s) < 0 ∧ ¬ I 88 (ix s) = -1 := by
  unfold m_why at h
  by_cases z : s_within s 0 5 = true
  · rw [if_pos z] at h
    have hs := w_ixc (m := 5) (by omega) rfl z
    by_cases h1 : I 88 (ix s) = -1
    · rw [if_pos h1] at h; exact absurd (by decide) h
    rw [if_neg h1] at h
    by_cases h2 : I 88 (ix s) < 0
    · rw [if_pos h2] at h
      by_cases h3 : s_within i 0 (I 89 (ix s) - 1) = true
      · have hzz := hz (ix s) (by omega)
        rw [hzz.1] at h3
        have hi := w_ix (by omega) h3
        exact ⟨z, ⟨hs.1, by omega⟩, ⟨hi.1, by omega⟩, h2, h1⟩
      · rw [if_neg h3] at h; exact absurd (by decide) h
    · rw [if_neg h2] at h; exact absurd (by decide) h
  · rw [if_neg z] at h; exact absurd (by decide) h
def m_cut (t : Int32) (v : Int64) : Int64 := if t = 0 then v.toInt32.toInt8.toInt32.toInt64 else if t = 1 then v.toInt32.toInt16.toInt32.toInt64 else if t = 2 then v.toInt32.toInt64 else if t = 3 then v else if lg_cmp v 0 = 0 then 0 else 1
theorem c_X12_put {l : Launch} {I : px_I} {J : px_J} {s i : Int32} {v : Int64} (hz : m_szok I) : Ct l mX12_put 3 [.ref 54, .int s, .int i, .long v] I J (px_qi (if m_why I s i < 0 then m_why I s i else 1) I (if m_why I s i < 0 then J else px_upL J 90 (60 * ix s + ix i) (m_cut (-2 - I 88 (ix s)) v))) := by
  by_cases z : m_why I s i < 0
  · refine Ct.of plX12_put (Nat.le_of_ble_eq_true rfl) [.ref 54, .int s, .int i, .long v, .null, .null, .null] rfl ?_
    refine V0_aload_n (pc := 0) dX12_put_0 rfl ?_
    refine V0_iload_n (pc := 1) dX12_put_1 rfl ?_
    refine V0_iload_n (pc := 2) dX12_put_2 rfl ?_
    refine V_callVi (pc := 3) (M' := mX12_whyNoPlace) dX12_put_3 mlX12_431 okX12_whyNoPlace rfl c_X12_whyNoPlace rfl rfl rfl rfl ⟨Nat.le_of_ble_eq_true rfl, Nat.le_of_ble_eq_true rfl⟩ ⟨Nat.le_refl 0, Nat.le_refl 0⟩ (Nat.le_of_ble_eq_true rfl) ?_
    refine V0_istore_5 (pc := 6) dX12_put_6 (by decide) rfl ?_
    refine V0_iload (pc := 8) dX12_put_8 rfl ?_
    refine V1_if_ge (pc := 10) 16 dX12_put_10 (by decide) (fun h10 => ?_) (fun h10 => ?_)
    · skip
      exact absurd z h10
    · skip
      refine V0_iload (pc := 13) dX12_put_13 rfl ?_
      refine V_reti (pc := 15) _ dX12_put_15 rfl ?_
      exact ⟨by rw [if_pos z], rfl, by rw [if_pos z]⟩
  · obtain ⟨_, hs, hi, h2, h3⟩ := m_why_ok hz z
    have e60 : (60 : Int32) * s + i = nI (60 * ix s + ix i) := by
      have e := qI_mul 60 (ix s)
      rw [← hs.1] at e
      have e' := qI_add (60 * ix s) (ix i)
      rw [← hi.1, ← e] at e'
      exact e'
    refine Ct.of plX12_put (Nat.le_of_ble_eq_true rfl) [.ref 54, .int s, .int i, .long v, .null, .null, .null] rfl ?_
    refine V0_aload_n (pc := 0) dX12_put_0 rfl ?_
    refine V0_iload_n (pc := 1) dX12_put_1 rfl ?_
    refine V0_iload_n (pc := 2) dX12_put_2 rfl ?_
    refine V_callVi (pc := 3) (M' := mX12_whyNoPlace) dX12_put_3 mlX12_431 okX12_whyNoPlace rfl c_X12_whyNoPlace rfl rfl rfl rfl ⟨Nat.le_of_ble_eq_true rfl, Nat.le_of_ble_eq_true rfl⟩ ⟨Nat.le_refl 0, Nat.le_refl 0⟩ (Nat.le_of_ble_eq_true rfl) ?_
    refine V0_istore_5 (pc := 6) dX12_put_6 (by decide) rfl ?_
    refine V0_iload (pc := 8) dX12_put_8 rfl ?_
    refine V1_if_ge (pc := 10) 16 dX12_put_10 (by decide) (fun h10 => ?_) (fun h10 => ?_)
    · skip
      refine V0_bipush (pc := 16) (-2) dX12_put_16 (by decide) ?_
      refine V0_aload_n (pc := 18) dX12_put_18 rfl ?_
      refine V_getr (pc := 19) dX12_put_19 flX12_111 rfl rfl ?_
      refine V0_iload_n (pc := 22) dX12_put_22 rfl ?_
      refine V_iald (pc := 23) (ix s) dX12_put_23 rfl hs.1 hs.2 ?_
      refine V0_isub (pc := 24) dX12_put_24 ?_
      refine V0_istore_6 (pc := 25) dX12_put_25 (by decide) rfl ?_
      refine V0_aload_n (pc := 27) dX12_put_27 rfl ?_
      refine V_getr (pc := 28) dX12_put_28 flX12_117 rfl rfl ?_
      refine V0_bipush (pc := 31) (60) dX12_put_31 (by decide) ?_
      refine V0_iload_n (pc := 33) dX12_put_33 rfl ?_
      refine V0_imul (pc := 34) dX12_put_34 ?_
      refine V0_iload_n (pc := 35) dX12_put_35 rfl ?_
      refine V0_iadd (pc := 36) dX12_put_36 ?_
      rw [e60]
      refine V0_iload (pc := 37) dX12_put_37 rfl ?_
      refine V0_if_ne (pc := 39) 49 dX12_put_39 (by decide) (fun h39 => ?_) (fun h39 => ?_)
      · skip
        refine V0_iload (pc := 49) dX12_put_49 rfl ?_
        refine V0_iconst (pc := 51) (1) dX12_put_51 (by decide) ?_
        refine V0_icmp_ne (pc := 52) 62 dX12_put_52 (by decide) (fun h52 => ?_) (fun h52 => ?_)
        · skip
          refine V0_iload (pc := 62) dX12_put_62 rfl ?_
          refine V0_iconst (pc := 64) (2) dX12_put_64 (by decide) ?_
          refine V0_icmp_ne (pc := 65) 74 dX12_put_65 (by decide) (fun h65 => ?_) (fun h65 => ?_)
          · skip
            refine V0_iload (pc := 74) dX12_put_74 rfl ?_
            refine V0_iconst (pc := 76) (3) dX12_put_76 (by decide) ?_
            refine V0_icmp_ne (pc := 77) 84 dX12_put_77 (by decide) (fun h77 => ?_) (fun h77 => ?_)
            · skip
              refine V0_lload_n (pc := 84) dX12_put_84 rfl ?_
              refine V0_lconst (pc := 85) 0 dX12_put_85 (by decide) ?_
              refine V0_lcmp (pc := 86) dX12_put_86 ?_
              refine V0_if_eq (pc := 87) 94 dX12_put_87 (by decide) (fun h87 => ?_) (fun h87 => ?_)
              · skip
                refine V0_lconst (pc := 94) 0 dX12_put_94 (by decide) ?_
                refine V_topl (m_cut (-2 - I 88 (ix s)) v) (by clear hs hi; simp [m_cut, *]) ?_
                refine V_last (pc := 95) (60 * ix s + ix i) dX12_put_95 rfl rfl (by omega) ?_
                refine V0_iconst (pc := 96) (1) dX12_put_96 (by decide) ?_
                refine V_reti (pc := 97) _ dX12_put_97 rfl ?_
                exact ⟨by rw [if_neg z], rfl, by rw [if_neg z]⟩
              · skip
                refine V0_lconst (pc := 90) 1 dX12_put_90 (by decide) ?_
                refine V0_goto (pc := 91) 95 dX12_put_91 (by decide) ?_
                refine V_topl (m_cut (-2 - I 88 (ix s)) v) (by clear hs hi; simp [m_cut, *]) ?_
                refine V_last (pc := 95) (60 * ix s + ix i) dX12_put_95 rfl rfl (by omega) ?_
                refine V0_iconst (pc := 96) (1) dX12_put_96 (by decide) ?_
                refine V_reti (pc := 97) _ dX12_put_97 rfl ?_
                exact ⟨by rw [if_neg z], rfl, by rw [if_neg z]⟩
            · skip
              refine V0_lload_n (pc := 80) dX12_put_80 rfl ?_
              refine V0_goto (pc := 81) 95 dX12_put_81 (by decide) ?_
              refine V_topl (m_cut (-2 - I 88 (ix s)) v) (by clear hs hi; simp [m_cut, *]) ?_
              refine V_last (pc := 95) (60 * ix s + ix i) dX12_put_95 rfl rfl (by omega) ?_
              refine V0_iconst (pc := 96) (1) dX12_put_96 (by decide) ?_
              refine V_reti (pc := 97) _ dX12_put_97 rfl ?_
              exact ⟨by rw [if_neg z], rfl, by rw [if_neg z]⟩
          · skip
            refine V0_lload_n (pc := 68) dX12_put_68 rfl ?_
            refine V0_l2i (pc := 69) dX12_put_69 ?_
            refine V0_i2l (pc := 70) dX12_put_70 ?_
            refine V0_goto (pc := 71) 95 dX12_put_71 (by decide) ?_
            refine V_topl (m_cut (-2 - I 88 (ix s)) v) (by clear hs hi; simp [m_cut, *]) ?_
            refine V_last (pc := 95) (60 * ix s + ix i) dX12_put_95 rfl rfl (by omega) ?_
            refine V0_iconst (pc := 96) (1) dX12_put_96 (by decide) ?_
            refine V_reti (pc := 97) _ dX12_put_97 rfl ?_
            exact ⟨by rw [if_neg z], rfl, by rw [if_neg z]⟩
        · skip
          refine V0_lload_n (pc := 55) dX12_put_55 rfl ?_
          refine V0_l2i (pc := 56) dX12_put_56 ?_
          refine V0_i2s (pc := 57) dX12_put_57 ?_
          refine V0_i2l (pc := 58) dX12_put_58 ?_
          refine V0_goto (pc := 59) 95 dX12_put_59 (by decide) ?_
          refine V_topl (m_cut (-2 - I 88 (ix s)) v) (by clear hs hi; simp [m_cut, *]) ?_
          refine V_last (pc := 95) (60 * ix s + ix i) dX12_put_95 rfl rfl (by omega) ?_
          refine V0_iconst (pc := 96) (1) dX12_put_96 (by decide) ?_
          refine V_reti (pc := 97) _ dX12_put_97 rfl ?_
          exact ⟨by rw [if_neg z], rfl, by rw [if_neg z]⟩
      · skip
        refine V0_lload_n (pc := 42) dX12_put_42 rfl ?_
        refine V0_l2i (pc := 43) dX12_put_43 ?_
        refine V0_i2b (pc := 44) dX12_put_44 ?_
        refine V0_i2l (pc := 45) dX12_put_45 ?_
        refine V0_goto (pc := 46) 95 dX12_put_46 (by decide) ?_
        refine V_topl (m_cut (-2 - I 88 (ix s)) v) (by clear hs hi; simp [m_cut, *]) ?_
        refine V_last (pc := 95) (60 * ix s + ix i) dX12_put_95 rfl rfl (by omega) ?_
        refine V0_iconst (pc := 96) (1) dX12_put_96 (by decide) ?_
        refine V_reti (pc := 97) _ dX12_put_97 rfl ?_
        exact ⟨by rw [if_neg z], rfl, by rw [if_neg z]⟩
    · skip
      exact absurd h10 z
theorem c_X12_element {l : Launch} {I : px_I} {J : px_J} {s i : Int32} (hz : m_szok I) : CtL l mX12_element 3 [.ref 54, .int s, .int i] I J (if m_why I s i < 0 then -9223372036854775808 else J 90 (60 * ix s + ix i)) := by
  by_cases z : m_why I s i < 0
  · refine Ct.of plX12_element (Nat.le_of_ble_eq_true rfl) [.ref 54, .int s, .int i] rfl ?_
    refine V0_aload_n (pc := 0) dX12_element_0 rfl ?_
    refine V0_iload_n (pc := 1) dX12_element_1 rfl ?_
    refine V0_iload_n (pc := 2) dX12_element_2 rfl ?_
    refine V_callVi (pc := 3) (M' := mX12_whyNoPlace) dX12_element_3 mlX12_431 okX12_whyNoPlace rfl c_X12_whyNoPlace rfl rfl rfl rfl ⟨Nat.le_of_ble_eq_true rfl, Nat.le_of_ble_eq_true rfl⟩ ⟨Nat.le_refl 0, Nat.le_refl 0⟩ (Nat.le_of_ble_eq_true rfl) ?_
    refine V1_if_ge (pc := 6) 15 dX12_element_6 (by decide) (fun h6 => ?_) (fun h6 => ?_)
    · skip
      exact absurd z h6
    · skip
      refine V0_ldc2 (pc := 9) dX12_element_9 csX12_436 ?_
      refine V0_goto (pc := 12) 26 dX12_element_12 (by decide) ?_
      refine V_retl (pc := 26) _ dX12_element_26 rfl ?_
      exact ⟨by rw [if_pos z], rfl, rfl⟩
  · obtain ⟨_, hs, hi, h2, h3⟩ := m_why_ok hz z
    have e60 : (60 : Int32) * s + i = nI (60 * ix s + ix i) := by
      have e := qI_mul 60 (ix s)
      rw [← hs.1] at e
      have e' := qI_add (60 * ix s) (ix i)
      rw [← hi.1, ← e] at e'
      exact e'
    refine Ct.of plX12_element (Nat.le_of_ble_eq_true rfl) [.ref 54, .int s, .int i] rfl ?_
    refine V0_aload_n (pc := 0) dX12_element_0 rfl ?_
    refine V0_iload_n (pc := 1) dX12_element_1 rfl ?_
    refine V0_iload_n (pc := 2) dX12_element_2 rfl ?_
    refine V_callVi (pc := 3) (M' := mX12_whyNoPlace) dX12_element_3 mlX12_431 okX12_whyNoPlace rfl c_X12_whyNoPlace rfl rfl rfl rfl ⟨Nat.le_of_ble_eq_true rfl, Nat.le_of_ble_eq_true rfl⟩ ⟨Nat.le_refl 0, Nat.le_refl 0⟩ (Nat.le_of_ble_eq_true rfl) ?_
    refine V1_if_ge (pc := 6) 15 dX12_element_6 (by decide) (fun h6 => ?_) (fun h6 => ?_)
    · skip
      refine V0_aload_n (pc := 15) dX12_element_15 rfl ?_
      refine V_getr (pc := 16) dX12_element_16 flX12_117 rfl rfl ?_
      refine V0_bipush (pc := 19) (60) dX12_element_19 (by decide) ?_
      refine V0_iload_n (pc := 21) dX12_element_21 rfl ?_
      refine V0_imul (pc := 22) dX12_element_22 ?_
      refine V0_iload_n (pc := 23) dX12_element_23 rfl ?_
      refine V0_iadd (pc := 24) dX12_element_24 ?_
      rw [e60]
      refine V_lald (pc := 25) (60 * ix s + ix i) dX12_element_25 rfl rfl (by omega) ?_
      refine V_retl (pc := 26) _ dX12_element_26 rfl ?_
      exact ⟨by rw [if_neg z], rfl, rfl⟩
    · skip
      exact absurd h6 z
def m_tak (I : px_I) (s k : Int32) : Int32 := if s_within s 0 5 = true ∧ s_within k 0 7 = true then (if I 88 (ix s) = -1 then -11 else if ¬ I 88 (ix s) < 0 ∧ m_und (I 86 (ix (I 88 (ix s)))) k = true then I 86 (ix (I 88 (ix s))) else -12) else -1
theorem c_X12_taken {l : Launch} {I : px_I} {J : px_J} {s k : Int32} (hb : ∀ i, i < 6 → ¬ I 88 i < 0 → I 88 i = nI (ix (I 88 i)) ∧ ix (I 88 i) < 50) : CtI l mX12_taken 2 [.ref 54, .int s, .int k] I J (m_tak I s k) := by
  by_cases z : s_within s 0 5 = true ∧ s_within k 0 7 = true
  · have hs := w_ixc (m := 5) (by omega) rfl z.1
    refine Ct.of plX12_taken (Nat.le_of_ble_eq_true rfl) [.ref 54, .int s, .int k] rfl ?_
    refine V0_iload_n (pc := 0) dX12_taken_0 rfl ?_
    refine V_callSi (pc := 1) (M' := mX12_isShelf) dX12_taken_1 mlX12_149 okX12_isShelf rfl c_X12_isShelf rfl rfl ⟨Nat.le_of_ble_eq_true rfl, Nat.le_of_ble_eq_true rfl⟩ ⟨Nat.le_refl 0, Nat.le_refl 0⟩ (Nat.le_of_ble_eq_true rfl) ?_
    refine V_ifeqb (pc := 4) 17 dX12_taken_4 (by decide) (fun h4 => ?_) (fun h4 => ?_)
    · skip
      exact absurd (z.1.symm.trans (show s_within s 0 5 = false from h4)) (by decide)
    · skip
      refine V0_iload_n (pc := 7) dX12_taken_7 rfl ?_
      refine V0_iconst (pc := 8) (0) dX12_taken_8 (by decide) ?_
      refine V0_bipush (pc := 9) (7) dX12_taken_9 (by decide) ?_
      refine V_callSi (pc := 11) (M' := mX12_in) dX12_taken_11 mlX12_131 okX12_in rfl c_X12_in rfl rfl ⟨Nat.le_of_ble_eq_true rfl, Nat.le_of_ble_eq_true rfl⟩ ⟨Nat.le_refl 0, Nat.le_refl 0⟩ (Nat.le_of_ble_eq_true rfl) ?_
      refine V_ifneb (pc := 14) 19 dX12_taken_14 (by decide) (fun h14 => ?_) (fun h14 => ?_)
      · skip
        refine V0_aload_n (pc := 19) dX12_taken_19 rfl ?_
        refine V_getr (pc := 20) dX12_taken_20 flX12_111 rfl rfl ?_
        refine V0_iload_n (pc := 23) dX12_taken_23 rfl ?_
        refine V_iald (pc := 24) (ix s) dX12_taken_24 rfl hs.1 (by omega) ?_
        refine V0_iconst (pc := 25) (-1) dX12_taken_25 (by decide) ?_
        refine V0_icmp_ne (pc := 26) 32 dX12_taken_26 (by decide) (fun h26 => ?_) (fun h26 => ?_)
        · skip
          refine V0_aload_n (pc := 32) dX12_taken_32 rfl ?_
          refine V_getr (pc := 33) dX12_taken_33 flX12_111 rfl rfl ?_
          refine V0_iload_n (pc := 36) dX12_taken_36 rfl ?_
          refine V_iald (pc := 37) (ix s) dX12_taken_37 rfl hs.1 (by omega) ?_
          refine V0_if_lt (pc := 38) 73 dX12_taken_38 (by decide) (fun h38 => ?_) (fun h38 => ?_)
          · skip
            refine V0_bipush (pc := 73) (-12) dX12_taken_73 (by decide) ?_
            refine V_reti (pc := 75) _ dX12_taken_75 rfl ?_
            refine px_li ?_
            rw [m_tak, if_pos z, if_neg h26]
            first | (rw [if_pos ⟨h38, h56⟩]; done) | (rw [if_neg (not_and_of_not_left _ (not_not_intro h38))] <;> rfl) | (rw [if_neg (not_and_of_not_right _ (b_nt h56))] <;> rfl)
          · skip
            have hbb := hb (ix s) (by omega) h38
            refine V0_aload_n (pc := 41) dX12_taken_41 rfl ?_
            refine V_getr (pc := 42) dX12_taken_42 flX12_105 rfl rfl ?_
            refine V0_aload_n (pc := 45) dX12_taken_45 rfl ?_
            refine V_getr (pc := 46) dX12_taken_46 flX12_111 rfl rfl ?_
            refine V0_iload_n (pc := 49) dX12_taken_49 rfl ?_
            refine V_iald (pc := 50) (ix s) dX12_taken_50 rfl hs.1 (by omega) ?_
            refine V_iald (pc := 51) (ix (I 88 (ix s))) dX12_taken_51 rfl hbb.1 hbb.2 ?_
            refine V0_iload_n (pc := 52) dX12_taken_52 rfl ?_
            refine V_callSi (pc := 53) (M' := mX12_isUnder) dX12_taken_53 mlX12_395 okX12_isUnder rfl c_X12_isUnder rfl rfl ⟨Nat.le_of_ble_eq_true rfl, Nat.le_of_ble_eq_true rfl⟩ ⟨Nat.le_refl 0, Nat.le_refl 0⟩ (Nat.le_of_ble_eq_true rfl) ?_
            refine V_ifeqb (pc := 56) 73 dX12_taken_56 (by decide) (fun h56 => ?_) (fun h56 => ?_)
            · skip
              refine V0_bipush (pc := 73) (-12) dX12_taken_73 (by decide) ?_
              refine V_reti (pc := 75) _ dX12_taken_75 rfl ?_
              refine px_li ?_
              rw [m_tak, if_pos z, if_neg h26]
              first | (rw [if_pos ⟨h38, h56⟩]; done) | (rw [if_neg (not_and_of_not_left _ (not_not_intro h38))] <;> rfl) | (rw [if_neg (not_and_of_not_right _ (b_nt h56))] <;> rfl)
            · skip
              refine V0_aload_n (pc := 59) dX12_taken_59 rfl ?_
              refine V_getr (pc := 60) dX12_taken_60 flX12_105 rfl rfl ?_
              refine V0_aload_n (pc := 63) dX12_taken_63 rfl ?_
              refine V_getr (pc := 64) dX12_taken_64 flX12_111 rfl rfl ?_
              refine V0_iload_n (pc := 67) dX12_taken_67 rfl ?_
              refine V_iald (pc := 68) (ix s) dX12_taken_68 rfl hs.1 (by omega) ?_
              refine V_iald (pc := 69) (ix (I 88 (ix s))) dX12_taken_69 rfl hbb.1 hbb.2 ?_
              refine V0_goto (pc := 70) 75 dX12_taken_70 (by decide) ?_
              refine V_reti (pc := 75) _ dX12_taken_75 rfl ?_
              refine px_li ?_
              rw [m_tak, if_pos z, if_neg h26]
              first | (rw [if_pos ⟨h38, h56⟩]; done) | (rw [if_neg (not_and_of_not_left _ (not_not_intro h38))] <;> rfl) | (rw [if_neg (not_and_of_not_right _ (b_nt h56))] <;> rfl)
        · skip
          refine V0_bipush (pc := 29) (-11) dX12_taken_29 (by decide) ?_
          refine V_reti (pc := 31) _ dX12_taken_31 rfl ?_
          refine px_li ?_
          rw [m_tak, if_pos z, if_pos h26] <;> rfl
      · skip
        exact absurd (z.2.symm.trans (show s_within k 0 7 = false from h14)) (by decide)
  · refine Ct.of plX12_taken (Nat.le_of_ble_eq_true rfl) [.ref 54, .int s, .int k] rfl ?_
    refine V0_iload_n (pc := 0) dX12_taken_0 rfl ?_
    refine V_callSi (pc := 1) (M' := mX12_isShelf) dX12_taken_1 mlX12_149 okX12_isShelf rfl c_X12_isShelf rfl rfl ⟨Nat.le_of_ble_eq_true rfl, Nat.le_of_ble_eq_true rfl⟩ ⟨Nat.le_refl 0, Nat.le_refl 0⟩ (Nat.le_of_ble_eq_true rfl) ?_
    refine V_ifeqb (pc := 4) 17 dX12_taken_4 (by decide) (fun h4 => ?_) (fun h4 => ?_)
    · skip
      refine V0_iconst (pc := 17) (-1) dX12_taken_17 (by decide) ?_
      refine V_reti (pc := 18) _ dX12_taken_18 rfl ?_
      refine px_li ?_
      rw [m_tak, if_neg z] <;> rfl
    · skip
      refine V0_iload_n (pc := 7) dX12_taken_7 rfl ?_
      refine V0_iconst (pc := 8) (0) dX12_taken_8 (by decide) ?_
      refine V0_bipush (pc := 9) (7) dX12_taken_9 (by decide) ?_
      refine V_callSi (pc := 11) (M' := mX12_in) dX12_taken_11 mlX12_131 okX12_in rfl c_X12_in rfl rfl ⟨Nat.le_of_ble_eq_true rfl, Nat.le_of_ble_eq_true rfl⟩ ⟨Nat.le_refl 0, Nat.le_refl 0⟩ (Nat.le_of_ble_eq_true rfl) ?_
      refine V_ifneb (pc := 14) 19 dX12_taken_14 (by decide) (fun h14 => ?_) (fun h14 => ?_)
      · skip
        exact absurd ⟨h4, h14⟩ z
      · skip
        refine V0_iconst (pc := 17) (-1) dX12_taken_17 (by decide) ?_
        refine V_reti (pc := 18) _ dX12_taken_18 rfl ?_
        refine px_li ?_
        rw [m_tak, if_neg z] <;> rfl

