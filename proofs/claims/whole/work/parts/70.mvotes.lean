/-! the Model: votes -/
def m_ov (A B gl v : Int32) : Nat → Nat → Int32
  | 0, _ => -2
  | f + 1, k => if A - B < 2 * nI k then -2 else if 0 < B + 2 * nI k ∨ (B + 2 * nI k = 0 ∧ gl = v) then nI k else m_ov A B gl v f (k + 1)
theorem lp_X12_over {l : Launch} {S : px_I} {J : px_J} {m : Nat} {B v : Int32} {Q : px_Q} (hm : S 54 1 = nI m) (hB : nI m - B < 2 * nI 9) : ∀ (f k : Nat), k + f = 9 → (Q (some (.int (m_ov (nI m) B (S 64 0) v f k))) S J) → V0 l (px_rm 2 0 0) mX12_over (false, []) 0 0 32 [.ref 54, .int v, .int B, .int (nI k)] [] (px_mk S J) (px_q Q) := by
  intro f
  induction f with
  | zero =>
    intro k h1 hQ
    obtain rfl : k = 9 := by omega
    refine V0_iconst (pc := 32) (2) dX12_over_32 (by decide) ?_
    refine V0_iload_n (pc := 33) dX12_over_33 rfl ?_
    refine V0_imul (pc := 34) dX12_over_34 ?_
    refine V0_aload_n (pc := 35) dX12_over_35 rfl ?_
    refine V_geti (pc := 36) dX12_over_36 flX12_128 rfl rfl ?_
    rw [hm]
    refine V0_iload_n (pc := 39) dX12_over_39 rfl ?_
    refine V0_isub (pc := 40) dX12_over_40 ?_
    refine V0_icmp_gt (pc := 41) 78 dX12_over_41 (by decide) (fun h41 => ?_) (fun h41 => ?_)
    · skip
      refine V0_bipush (pc := 78) (-2) dX12_over_78 (by decide) ?_
      refine V_reti (pc := 80) _ dX12_over_80 rfl ?_
      exact hQ
    · skip
      exact absurd hB h41
  | succ f ih =>
    intro k h1 hQ
    refine V0_iconst (pc := 32) (2) dX12_over_32 (by decide) ?_
    refine V0_iload_n (pc := 33) dX12_over_33 rfl ?_
    refine V0_imul (pc := 34) dX12_over_34 ?_
    refine V0_aload_n (pc := 35) dX12_over_35 rfl ?_
    refine V_geti (pc := 36) dX12_over_36 flX12_128 rfl rfl ?_
    rw [hm]
    refine V0_iload_n (pc := 39) dX12_over_39 rfl ?_
    refine V0_isub (pc := 40) dX12_over_40 ?_
    refine V0_icmp_gt (pc := 41) 78 dX12_over_41 (by decide) (fun h41 => ?_) (fun h41 => ?_)
    · skip
      refine V0_bipush (pc := 78) (-2) dX12_over_78 (by decide) ?_
      refine V_reti (pc := 80) _ dX12_over_80 rfl ?_
      rw [m_ov, if_pos h41] at hQ
      exact hQ
    · skip
      refine V0_iload_n (pc := 44) dX12_over_44 rfl ?_
      refine V0_iconst (pc := 45) (2) dX12_over_45 (by decide) ?_
      refine V0_iload_n (pc := 46) dX12_over_46 rfl ?_
      refine V0_imul (pc := 47) dX12_over_47 ?_
      refine V0_iadd (pc := 48) dX12_over_48 ?_
      refine V0_if_gt (pc := 49) 70 dX12_over_49 (by decide) (fun h49 => ?_) (fun h49 => ?_)
      · skip
        have hb : 0 < B + 2 * nI k ∨ (B + 2 * nI k = 0 ∧ S 64 0 = v) := by first | exact Or.inl h49 | exact Or.inr ⟨h57, h67⟩
        refine V0_iload_n (pc := 70) dX12_over_70 rfl ?_
        refine V_reti (pc := 71) _ dX12_over_71 rfl ?_
        rw [m_ov, if_neg h41, if_pos hb] at hQ
        exact hQ
      · skip
        refine V0_iload_n (pc := 52) dX12_over_52 rfl ?_
        refine V0_iconst (pc := 53) (2) dX12_over_53 (by decide) ?_
        refine V0_iload_n (pc := 54) dX12_over_54 rfl ?_
        refine V0_imul (pc := 55) dX12_over_55 ?_
        refine V0_iadd (pc := 56) dX12_over_56 ?_
        refine V0_if_ne (pc := 57) 72 dX12_over_57 (by decide) (fun h57 => ?_) (fun h57 => ?_)
        · skip
          have hb : ¬ (0 < B + 2 * nI k ∨ (B + 2 * nI k = 0 ∧ S 64 0 = v)) := by
            intro q
            rcases q with q | q
            · exact h49 q
            · first | exact h57 q.1 | exact h67 q.2
          refine V0_iinc_3 (pc := 72) (nI (k + 1)) dX12_over_72 (by decide) rfl (nI_1 _) ?_
          refine V0_goto (pc := 75) 32 dX12_over_75 (by decide) ?_
          exact ih (k + 1) (by omega) (by rw [m_ov, if_neg h41, if_neg hb] at hQ; exact hQ)
        · skip
          refine V0_aload_n (pc := 60) dX12_over_60 rfl ?_
          refine V_getr (pc := 61) dX12_over_61 flX12_37 rfl rfl ?_
          refine V0_iconst (pc := 64) (0) dX12_over_64 (by decide) ?_
          refine V_iald (pc := 65) 0 dX12_over_65 rfl rfl (by omega) ?_
          refine V0_iload_n (pc := 66) dX12_over_66 rfl ?_
          refine V0_icmp_ne (pc := 67) 72 dX12_over_67 (by decide) (fun h67 => ?_) (fun h67 => ?_)
          · skip
            have hb : ¬ (0 < B + 2 * nI k ∨ (B + 2 * nI k = 0 ∧ S 64 0 = v)) := by
              intro q
              rcases q with q | q
              · exact h49 q
              · first | exact h57 q.1 | exact h67 q.2
            refine V0_iinc_3 (pc := 72) (nI (k + 1)) dX12_over_72 (by decide) rfl (nI_1 _) ?_
            refine V0_goto (pc := 75) 32 dX12_over_75 (by decide) ?_
            exact ih (k + 1) (by omega) (by rw [m_ov, if_neg h41, if_neg hb] at hQ; exact hQ)
          · skip
            have hb : 0 < B + 2 * nI k ∨ (B + 2 * nI k = 0 ∧ S 64 0 = v) := by first | exact Or.inl h49 | exact Or.inr ⟨h57, h67⟩
            refine V0_iload_n (pc := 70) dX12_over_70 rfl ?_
            refine V_reti (pc := 71) _ dX12_over_71 rfl ?_
            rw [m_ov, if_neg h41, if_pos hb] at hQ
            exact hQ
def m_mo (house : Nat → Int32) (m : Nat) (v : Int32) : Int32 := if v = 0 then s_lead house m else -s_lead house m
/-- the lead, by how many live on either side -/
theorem s_lead_ab {h : Nat → Int32} : ∀ m, ∃ a b, a + b = m ∧ s_lead h m = nI a - nI b := by
  intro m
  induction m with
  | zero => exact ⟨0, 0, rfl, (show (0 : Int32) = nI 0 - nI 0 from by decide)⟩
  | succ m ih =>
    obtain ⟨a, b, e, hl⟩ := ih
    unfold s_lead
    rw [hl]
    by_cases hr : px_rem (h m) 2 = 0
    · rw [if_pos hr]
      exact ⟨a + 1, b, by omega, by rw [← nI_1]; grind⟩
    · rw [if_neg hr]
      exact ⟨a, b + 1, by omega, by rw [← nI_1]; grind⟩
theorem m_ov_lt : ∀ a, a < 8 → ∀ b, b < 8 → nI (a + b) - (nI a - nI b) < 2 * nI 9 ∧ nI (a + b) - -(nI a - nI b) < 2 * nI 9 := by decide +kernel
theorem m_mo_lt {h : Nat → Int32} {m : Nat} {v : Int32} (hm7 : m ≤ 7) : nI m - m_mo h m v < 2 * nI 9 := by
  obtain ⟨a, b, e, hl⟩ := s_lead_ab (h := h) m
  have q := m_ov_lt a (by omega) b (by omega)
  rw [e] at q
  unfold m_mo
  rw [hl]
  split
  · exact q.1
  · exact q.2
theorem c_X12_over {l : Launch} {I : px_I} {J : px_J} {v : Int32} {m n : Nat} (hk : m_ok I m n) : Ct l mX12_over 2 [.ref 54, .int v] I J (fun r I' J' => r = some (.int (if s_within v 0 1 = true then m_ov (nI m) (m_mo (I 55) m v) (I 64 0) v 9 0 else -1)) ∧ m_sd m n I I' ∧ J' = J) := by
  have hl := hk.lay
  have e1 : m_mo (m_lay I m n 77) m v = m_mo (I 55) m v := by
    unfold m_mo
    rw [s_lead_congr (f := m_lay I m n 77) (g := I 55) m (fun j hj => by unfold m_lay m_cp; rw [px_up_row (by omega), px_up_row (by omega), px_up_row (by omega), px_up_row (by omega), px_cp_row (by omega), px_cp_row (by omega), px_cp_at, if_pos (by omega)]; simp)]
  have r64 : m_lay I m n 64 = I 64 := m_lay_row (by omega) (by omega)
  refine Ct.of plX12_over (Nat.le_of_ble_eq_true rfl) [.ref 54, .int v, .null, .null] rfl ?_
  refine V0_iload_n (pc := 0) dX12_over_0 rfl ?_
  refine V_callSi (pc := 1) (M' := mX12_isSide) dX12_over_1 mlX12_171 okX12_isSide rfl c_X12_isSide rfl rfl ⟨Nat.le_of_ble_eq_true rfl, Nat.le_of_ble_eq_true rfl⟩ ⟨Nat.le_refl 0, Nat.le_refl 0⟩ (Nat.le_of_ble_eq_true rfl) ?_
  refine V_ifneb (pc := 4) 9 dX12_over_4 (by decide) (fun h4 => ?_) (fun h4 => ?_)
  · skip
    refine V0_aload_n (pc := 9) dX12_over_9 rfl ?_
    refine V_callV (pc := 10) (M' := mX12_layNow) dX12_over_10 mlX12_304 okX12_layNow rfl (c_X12_layNow hk) rfl rfl rfl rfl ⟨Nat.le_of_ble_eq_true rfl, Nat.le_of_ble_eq_true rfl⟩ ⟨Nat.le_refl 0, Nat.le_refl 0⟩ (Nat.le_of_ble_eq_true rfl) ?_
    intro r1 I1 J1 hh
    obtain ⟨e1, e2, e3⟩ := hh
    rw [e1, e2, e3]
    clear e1 e2 e3 r1 I1 J1
    refine V0_iload_n (pc := 13) dX12_over_13 rfl ?_
    refine V0_if_ne (pc := 14) 24 dX12_over_14 (by decide) (fun h14 => ?_) (fun h14 => ?_)
    · skip
      refine V0_aload_n (pc := 24) dX12_over_24 rfl ?_
      refine V_callVi (pc := 25) (M' := mX12_moreLeft) dX12_over_25 mlX12_270 okX12_moreLeft rfl (c_X12_moreLeft hl.1 hl.2.1) rfl rfl rfl rfl ⟨Nat.le_of_ble_eq_true rfl, Nat.le_of_ble_eq_true rfl⟩ ⟨Nat.le_refl 0, Nat.le_refl 0⟩ (Nat.le_of_ble_eq_true rfl) ?_
      refine V0_ineg (pc := 28) dX12_over_28 ?_
      refine V0_istore_2 (pc := 29) dX12_over_29 (by decide) rfl ?_
      refine V_ls (ls' := [.ref 54, .int v, .int (m_mo (m_lay I m n 77) m v), .null]) (by simp [m_mo, *]) ?_
      refine V0_iconst (pc := 30) (0) dX12_over_30 (by decide) ?_
      refine V0_istore_3 (pc := 31) dX12_over_31 (by decide) rfl ?_
      exact lp_X12_over hl.1 (m_mo_lt hl.2.1) 9 0 rfl ⟨by rw [if_pos h4, e1, r64], m_sd_lay, rfl⟩
    · skip
      refine V0_aload_n (pc := 17) dX12_over_17 rfl ?_
      refine V_callVi (pc := 18) (M' := mX12_moreLeft) dX12_over_18 mlX12_270 okX12_moreLeft rfl (c_X12_moreLeft hl.1 hl.2.1) rfl rfl rfl rfl ⟨Nat.le_of_ble_eq_true rfl, Nat.le_of_ble_eq_true rfl⟩ ⟨Nat.le_refl 0, Nat.le_refl 0⟩ (Nat.le_of_ble_eq_true rfl) ?_
      refine V0_goto (pc := 21) 29 dX12_over_21 (by decide) ?_
      refine V0_istore_2 (pc := 29) dX12_over_29 (by decide) rfl ?_
      refine V_ls (ls' := [.ref 54, .int v, .int (m_mo (m_lay I m n 77) m v), .null]) (by simp [m_mo, *]) ?_
      refine V0_iconst (pc := 30) (0) dX12_over_30 (by decide) ?_
      refine V0_istore_3 (pc := 31) dX12_over_31 (by decide) rfl ?_
      exact lp_X12_over hl.1 (m_mo_lt hl.2.1) 9 0 rfl ⟨by rw [if_pos h4, e1, r64], m_sd_lay, rfl⟩
  · skip
    refine V0_iconst (pc := 7) (-1) dX12_over_7 (by decide) ?_
    refine V_reti (pc := 8) _ dX12_over_8 rfl ?_
    exact ⟨by rw [if_neg (by rw [h4]; decide)] <;> rfl, m_sd_refl, rfl⟩
def m_ap (a b : Int32) : Int32 := if b / 2 < a / 2 then a / 2 - b / 2 else b / 2 - a / 2
theorem c_X12_apartBy {l : Launch} {I : px_I} {J : px_J} {a b : Int32} : CtI l mX12_apartBy 0 [.int a, .int b] I J (m_ap a b) := by
  refine Ct.of plX12_apartBy (Nat.le_of_ble_eq_true rfl) [.int a, .int b] rfl ?_
  refine V0_iload_n (pc := 0) dX12_apartBy_0 rfl ?_
  refine V0_iconst (pc := 1) (2) dX12_apartBy_1 (by decide) ?_
  refine V0_idiv (pc := 2) dX12_apartBy_2 (by decide) ?_
  refine V0_iload_n (pc := 3) dX12_apartBy_3 rfl ?_
  refine V0_iconst (pc := 4) (2) dX12_apartBy_4 (by decide) ?_
  refine V0_idiv (pc := 5) dX12_apartBy_5 (by decide) ?_
  refine V1_icmp_le (pc := 6) 19 dX12_apartBy_6 (by decide) (fun h6 => ?_) (fun h6 => ?_)
  · skip
    refine V0_iload_n (pc := 19) dX12_apartBy_19 rfl ?_
    refine V0_iconst (pc := 20) (2) dX12_apartBy_20 (by decide) ?_
    refine V0_idiv (pc := 21) dX12_apartBy_21 (by decide) ?_
    refine V0_iload_n (pc := 22) dX12_apartBy_22 rfl ?_
    refine V0_iconst (pc := 23) (2) dX12_apartBy_23 (by decide) ?_
    refine V0_idiv (pc := 24) dX12_apartBy_24 (by decide) ?_
    refine V0_isub (pc := 25) dX12_apartBy_25 ?_
    refine V_reti (pc := 26) _ dX12_apartBy_26 rfl ?_
    refine px_li ?_
    simp [m_ap, h6]
  · skip
    refine V0_iload_n (pc := 9) dX12_apartBy_9 rfl ?_
    refine V0_iconst (pc := 10) (2) dX12_apartBy_10 (by decide) ?_
    refine V0_idiv (pc := 11) dX12_apartBy_11 (by decide) ?_
    refine V0_iload_n (pc := 12) dX12_apartBy_12 rfl ?_
    refine V0_iconst (pc := 13) (2) dX12_apartBy_13 (by decide) ?_
    refine V0_idiv (pc := 14) dX12_apartBy_14 (by decide) ?_
    refine V0_isub (pc := 15) dX12_apartBy_15 ?_
    refine V0_goto (pc := 16) 26 dX12_apartBy_16 (by decide) ?_
    refine V_reti (pc := 26) _ dX12_apartBy_26 rfl ?_
    refine px_li ?_
    simp [m_ap, h6]
def m_nr (I : px_I) (one : Nat) : Nat → Int32
  | 0 => -2
  | p + 1 => if px_rem (I 55 p) 2 = px_rem (I 55 one) 2 then m_nr I one p else if m_nr I one p < 0 ∨ m_ap (I 55 p) (I 55 one) < m_nr I one p then m_ap (I 55 p) (I 55 one) else m_nr I one p
theorem lp_X12_near {l : Launch} {I : px_I} {J : px_J} {m one : Nat} {Q : px_Q} (hm : I 54 1 = nI m) (hm7 : m ≤ 7) (ho : one < 7) (hQ : Q (some (.int (m_nr I one m))) I J) : ∀ (f p : Nat), p + f = m → ∀ v4 : Value, V0 l (px_rm 2 0 0) mX12_near (false, []) 0 0 15 [.ref 54, .int (nI one), .int (m_nr I one p), .int (nI p), v4] [] (px_mk I J) (px_q Q) := by
  intro f
  induction f with
  | zero =>
    intro p h1 v4
    obtain rfl : p = m := by omega
    refine V0_iload_n (pc := 15) dX12_near_15 rfl ?_
    refine V0_aload_n (pc := 16) dX12_near_16 rfl ?_
    refine V_geti (pc := 17) dX12_near_17 flX12_128 rfl rfl ?_
    rw [hm]
    refine V1_icmp_ge (pc := 20) 81 dX12_near_20 (by decide) (fun h20 => ?_) (fun h20 => ?_)
    · skip
      refine V0_iload_n (pc := 81) dX12_near_81 rfl ?_
      refine V_reti (pc := 82) _ dX12_near_82 rfl ?_
      exact hQ
    · skip
      exact absurd ((qI_lt (a := p) (b := p) (by omega) (by omega)).mp h20) (by omega)
  | succ f ih =>
    intro p h1 v4
    have hlt : nI p < nI m := (qI_lt (by omega) (by omega)).mpr (by omega)
    have e1 : m_nr I one (p + 1) = if px_rem (I 55 p) 2 = px_rem (I 55 one) 2 then m_nr I one p else if m_nr I one p < 0 ∨ m_ap (I 55 p) (I 55 one) < m_nr I one p then m_ap (I 55 p) (I 55 one) else m_nr I one p := rfl
    refine V0_iload_n (pc := 15) dX12_near_15 rfl ?_
    refine V0_aload_n (pc := 16) dX12_near_16 rfl ?_
    refine V_geti (pc := 17) dX12_near_17 flX12_128 rfl rfl ?_
    rw [hm]
    refine V1_icmp_ge (pc := 20) 81 dX12_near_20 (by decide) (fun h20 => ?_) (fun h20 => ?_)
    · skip
      exact absurd hlt h20
    · skip
      refine V0_aload_n (pc := 23) dX12_near_23 rfl ?_
      refine V_getr (pc := 24) dX12_near_24 flX12_7 rfl rfl ?_
      refine V0_iload_n (pc := 27) dX12_near_27 rfl ?_
      refine V_iald (pc := 28) p dX12_near_28 rfl rfl (by omega) ?_
      refine V0_iconst (pc := 29) (2) dX12_near_29 (by decide) ?_
      refine V0_irem (pc := 30) dX12_near_30 (by decide) ?_
      refine V0_aload_n (pc := 31) dX12_near_31 rfl ?_
      refine V_getr (pc := 32) dX12_near_32 flX12_7 rfl rfl ?_
      refine V0_iload_n (pc := 35) dX12_near_35 rfl ?_
      refine V_iald (pc := 36) (one) dX12_near_36 rfl rfl (by omega) ?_
      refine V0_iconst (pc := 37) (2) dX12_near_37 (by decide) ?_
      refine V0_irem (pc := 38) dX12_near_38 (by decide) ?_
      refine V0_icmp_ne (pc := 39) 45 dX12_near_39 (by decide) (fun h39 => ?_) (fun h39 => ?_)
      · skip
        refine V0_aload_n (pc := 45) dX12_near_45 rfl ?_
        refine V_getr (pc := 46) dX12_near_46 flX12_7 rfl rfl ?_
        refine V0_iload_n (pc := 49) dX12_near_49 rfl ?_
        refine V_iald (pc := 50) p dX12_near_50 rfl rfl (by omega) ?_
        refine V0_aload_n (pc := 51) dX12_near_51 rfl ?_
        refine V_getr (pc := 52) dX12_near_52 flX12_7 rfl rfl ?_
        refine V0_iload_n (pc := 55) dX12_near_55 rfl ?_
        refine V_iald (pc := 56) (one) dX12_near_56 rfl rfl (by omega) ?_
        refine V_callSi (pc := 57) (M' := mX12_apartBy) dX12_near_57 mlX12_295 okX12_apartBy rfl c_X12_apartBy rfl rfl ⟨Nat.le_of_ble_eq_true rfl, Nat.le_of_ble_eq_true rfl⟩ ⟨Nat.le_refl 0, Nat.le_refl 0⟩ (Nat.le_of_ble_eq_true rfl) ?_
        refine V0_istore_4 (pc := 60) dX12_near_60 (by decide) rfl ?_
        refine V0_iload_n (pc := 62) dX12_near_62 rfl ?_
        refine V0_if_lt (pc := 63) 72 dX12_near_63 (by decide) (fun h63 => ?_) (fun h63 => ?_)
        · skip
          refine V0_iload (pc := 72) dX12_near_72 rfl ?_
          refine V0_istore_2 (pc := 74) dX12_near_74 (by decide) rfl ?_
          first | have e2 := e1.trans (if_pos h39) | have e2 := e1.trans ((if_neg h39).trans (if_pos (Or.inl h63))) | have e2 := e1.trans ((if_neg h39).trans (if_pos (Or.inr h69))) | have e2 := e1.trans ((if_neg h39).trans (if_neg (not_or.mpr ⟨h63, h69⟩)))
          refine V0_iinc_3 (pc := 75) (nI (p + 1)) dX12_near_75 (by decide) rfl (nI_1 _) ?_
          refine V0_goto (pc := 78) 15 dX12_near_78 (by decide) ?_
          exact V_ls (by rw [e2]) (ih (p + 1) (by omega) _)
        · skip
          refine V0_iload (pc := 66) dX12_near_66 rfl ?_
          refine V0_iload_n (pc := 68) dX12_near_68 rfl ?_
          refine V1_icmp_ge (pc := 69) 75 dX12_near_69 (by decide) (fun h69 => ?_) (fun h69 => ?_)
          · skip
            first | have e2 := e1.trans (if_pos h39) | have e2 := e1.trans ((if_neg h39).trans (if_pos (Or.inl h63))) | have e2 := e1.trans ((if_neg h39).trans (if_pos (Or.inr h69))) | have e2 := e1.trans ((if_neg h39).trans (if_neg (not_or.mpr ⟨h63, h69⟩)))
            refine V0_iinc_3 (pc := 75) (nI (p + 1)) dX12_near_75 (by decide) rfl (nI_1 _) ?_
            refine V0_goto (pc := 78) 15 dX12_near_78 (by decide) ?_
            exact V_ls (by rw [e2]) (ih (p + 1) (by omega) _)
          · skip
            refine V0_iload (pc := 72) dX12_near_72 rfl ?_
            refine V0_istore_2 (pc := 74) dX12_near_74 (by decide) rfl ?_
            first | have e2 := e1.trans (if_pos h39) | have e2 := e1.trans ((if_neg h39).trans (if_pos (Or.inl h63))) | have e2 := e1.trans ((if_neg h39).trans (if_pos (Or.inr h69))) | have e2 := e1.trans ((if_neg h39).trans (if_neg (not_or.mpr ⟨h63, h69⟩)))
            refine V0_iinc_3 (pc := 75) (nI (p + 1)) dX12_near_75 (by decide) rfl (nI_1 _) ?_
            refine V0_goto (pc := 78) 15 dX12_near_78 (by decide) ?_
            exact V_ls (by rw [e2]) (ih (p + 1) (by omega) _)
      · skip
        refine V0_goto (pc := 42) 75 dX12_near_42 (by decide) ?_
        first | have e2 := e1.trans (if_pos h39) | have e2 := e1.trans ((if_neg h39).trans (if_pos (Or.inl h63))) | have e2 := e1.trans ((if_neg h39).trans (if_pos (Or.inr h69))) | have e2 := e1.trans ((if_neg h39).trans (if_neg (not_or.mpr ⟨h63, h69⟩)))
        refine V0_iinc_3 (pc := 75) (nI (p + 1)) dX12_near_75 (by decide) rfl (nI_1 _) ?_
        refine V0_goto (pc := 78) 15 dX12_near_78 (by decide) ?_
        exact V_ls (by rw [e2]) (ih (p + 1) (by omega) _)
theorem c_X12_near {l : Launch} {I : px_I} {J : px_J} {x : Int32} {m : Nat} (hm : I 54 1 = nI m) (hm7 : m ≤ 7) : CtI l mX12_near 2 [.ref 54, .int x] I J (if m_one I x = true then m_nr I (ix x) m else -1) := by
  by_cases z : m_one I x = true
  · have hx := m_one_ix hm hm7 z
    have h := lp_X12_near (l := l) (I := I) (J := J) (m := m) (one := ix x) (Q := px_qi (if m_one I x = true then m_nr I (ix x) m else -1) I J) hm hm7 (by omega) ⟨by rw [if_pos z], rfl, rfl⟩ m 0 (by omega) .null
    rw [← hx.1] at h
    refine Ct.of plX12_near (Nat.le_of_ble_eq_true rfl) [.ref 54, .int x, .null, .null, .null] rfl ?_
    refine V0_aload_n (pc := 0) dX12_near_0 rfl ?_
    refine V0_iload_n (pc := 1) dX12_near_1 rfl ?_
    refine V_callVi (pc := 2) (M' := mX12_isOne) dX12_near_2 mlX12_142 okX12_isOne rfl c_X12_isOne rfl rfl rfl rfl ⟨Nat.le_of_ble_eq_true rfl, Nat.le_of_ble_eq_true rfl⟩ ⟨Nat.le_refl 0, Nat.le_refl 0⟩ (Nat.le_of_ble_eq_true rfl) ?_
    refine V_ifneb (pc := 5) 10 dX12_near_5 (by decide) (fun h5 => ?_) (fun h5 => ?_)
    · skip
      refine V0_bipush (pc := 10) (-2) dX12_near_10 (by decide) ?_
      refine V0_istore_2 (pc := 12) dX12_near_12 (by decide) rfl ?_
      refine V0_iconst (pc := 13) (0) dX12_near_13 (by decide) ?_
      refine V0_istore_3 (pc := 14) dX12_near_14 (by decide) rfl ?_
      exact h
    · skip
      exact absurd (z.symm.trans (show m_one I x = false from h5)) (by decide)
  · refine Ct.of plX12_near (Nat.le_of_ble_eq_true rfl) [.ref 54, .int x, .null, .null, .null] rfl ?_
    refine V0_aload_n (pc := 0) dX12_near_0 rfl ?_
    refine V0_iload_n (pc := 1) dX12_near_1 rfl ?_
    refine V_callVi (pc := 2) (M' := mX12_isOne) dX12_near_2 mlX12_142 okX12_isOne rfl c_X12_isOne rfl rfl rfl rfl ⟨Nat.le_of_ble_eq_true rfl, Nat.le_of_ble_eq_true rfl⟩ ⟨Nat.le_refl 0, Nat.le_refl 0⟩ (Nat.le_of_ble_eq_true rfl) ?_
    refine V_ifneb (pc := 5) 10 dX12_near_5 (by decide) (fun h5 => ?_) (fun h5 => ?_)
    · skip
      exact absurd h5 z
    · skip
      refine V0_iconst (pc := 8) (-1) dX12_near_8 (by decide) ?_
      refine V_reti (pc := 9) _ dX12_near_9 rfl ?_
      refine px_li ?_
      rw [if_neg z] <;> rfl
/-! mates -/
def m_mc (I : px_I) (p : Nat) (left x : Int32) (q : Nat) : Bool := m_has left (nI q) && !decide (px_rem (I 55 q) 2 = 0) && !decide (x < m_ap (I 55 p) (I 55 q))
theorem m_mc_0 {I : px_I} {p q : Nat} {left x : Int32} {P : Prop} (h : m_has left (nI q) = false) : ¬ (m_mc I p left x q = true ∧ P) := by
  intro z
  have := z.1
  rw [m_mc, h] at this
  exact absurd this (by simp)
theorem m_mc_1 {I : px_I} {p q : Nat} {left x : Int32} {P : Prop} (h : px_rem (I 55 q) 2 = 0) : ¬ (m_mc I p left x q = true ∧ P) := by
  intro z
  have := z.1
  rw [m_mc, decide_eq_true h] at this
  exact absurd this (by simp)
theorem m_mc_2 {I : px_I} {p q : Nat} {left x : Int32} {P : Prop} (h : x < m_ap (I 55 p) (I 55 q)) : ¬ (m_mc I p left x q = true ∧ P) := by
  intro z
  have := z.1
  rw [m_mc, decide_eq_true h] at this
  exact absurd this (by simp)
theorem m_mc_3 {c P : Prop} (h : ¬ P) : ¬ (c ∧ P) := fun z => h z.2
def m_mf (g : Nat → Int32) (c : Nat → Bool) (b : Int32) : Nat → Int32
  | 0 => b
  | q + 1 => if c q = true ∧ m_mf g c b q < g q then g q else m_mf g c b q
abbrev m_rest (left : Int32) (q : Nat) : Int32 := left &&& (((1 : Int32) <<< (nI q &&& 31)) ^^^ (-1))
def m_mm (I : px_I) (m : Nat) (x : Int32) : Nat → Int32 → Int32
  | 0, _ => 0
  | f + 1, left => if px_rem (I 55 (m - (f + 1))) 2 = 1 then m_mm I m x f left else m_mf (fun q => 1 + m_mm I m x f (m_rest left q)) (m_mc I (m - (f + 1)) left x) (m_mm I m x f left) m
def m_run (l : Launch) (I : px_I) (J : px_J) (m : Nat) (x : Int32) (f : Nat) : Prop := ∀ left : Int32, CtI l mX12_mostMates (f + 1) [.ref 54, .int (nI (m - f)), .int left, .int x] I J (m_mm I m x f left)
theorem lp_X12_mostMates {l : Launch} {I : px_I} {J : px_J} {m f p : Nat} {left x : Int32} {Q : px_Q} (hr : m_run l I J m x f) (hf : f < m) (hp : p = m - (f + 1)) (hm : I 54 1 = nI m) (hm7 : m ≤ 7) (hQ : Q (some (.int (m_mf (fun q => 1 + m_mm I m x f (m_rest left q)) (m_mc I p left x) (m_mm I m x f left) m))) I J) : ∀ (g q : Nat), q + g = m → ∀ v6 : Value, V0 l (px_rm (f + 2) 0 0) mX12_mostMates (false, []) 0 0 39 [.ref 54, .int (nI p), .int left, .int x, .int (m_mf (fun q => 1 + m_mm I m x f (m_rest left q)) (m_mc I p left x) (m_mm I m x f left) q), .int (nI q), v6] [] (px_mk I J) (px_q Q) := by
  intro g
  induction g with
  | zero =>
    intro q h1 v6
    obtain rfl : q = m := by omega
    refine V0_iload (pc := 39) dX12_mostMates_39 rfl ?_
    refine V0_aload_n (pc := 41) dX12_mostMates_41 rfl ?_
    refine V_geti (pc := 42) dX12_mostMates_42 flX12_128 rfl rfl ?_
    rw [hm]
    refine V1_icmp_ge (pc := 45) 129 dX12_mostMates_45 (by decide) (fun h45 => ?_) (fun h45 => ?_)
    · skip
      refine V0_iload (pc := 129) dX12_mostMates_129 rfl ?_
      refine V_reti (pc := 131) _ dX12_mostMates_131 rfl ?_
      exact hQ
    · skip
      exact absurd ((qI_lt (a := q) (b := q) (by omega) (by omega)).mp h45) (by omega)
  | succ g ih =>
    intro q h1 v6
    have hlt : nI q < nI m := (qI_lt (by omega) (by omega)).mpr (by omega)
    have hc := hr (m_rest left q)
    rw [show nI (m - f) = nI p + 1 from by rw [nI_1]; congr 1; omega] at hc
    have e1 : m_mf (fun q => 1 + m_mm I m x f (m_rest left q)) (m_mc I p left x) (m_mm I m x f left) (q + 1) = if m_mc I p left x q = true ∧ m_mf (fun q => 1 + m_mm I m x f (m_rest left q)) (m_mc I p left x) (m_mm I m x f left) q < 1 + m_mm I m x f (m_rest left q) then 1 + m_mm I m x f (m_rest left q) else m_mf (fun q => 1 + m_mm I m x f (m_rest left q)) (m_mc I p left x) (m_mm I m x f left) q := rfl
    refine V0_iload (pc := 39) dX12_mostMates_39 rfl ?_
    refine V0_aload_n (pc := 41) dX12_mostMates_41 rfl ?_
    refine V_geti (pc := 42) dX12_mostMates_42 flX12_128 rfl rfl ?_
    rw [hm]
    refine V1_icmp_ge (pc := 45) 129 dX12_mostMates_45 (by decide) (fun h45 => ?_) (fun h45 => ?_)
    · skip
      exact absurd hlt h45
    · skip
      refine V0_iload_n (pc := 48) dX12_mostMates_48 rfl ?_
      refine V0_iload (pc := 49) dX12_mostMates_49 rfl ?_
      refine V_callSi (pc := 51) (M' := mX12_has) dX12_mostMates_51 mlX12_292 okX12_has rfl c_X12_has rfl rfl (px_hr (by omega) (by decide)) ⟨Nat.le_refl 0, Nat.le_refl 0⟩ (Nat.le_of_ble_eq_true rfl) ?_
      refine V_ifeqb (pc := 54) 123 dX12_mostMates_54 (by decide) (fun h54 => ?_) (fun h54 => ?_)
      · skip
        first | have e3 := e2 | have e2 := e1.trans (if_neg (m_mc_0 h54)) | have e2 := e1.trans (if_neg (m_mc_1 h66)) | have e2 := e1.trans (if_neg (m_mc_2 h86)) | have e2 := e1.trans (if_neg (m_mc_3 h116))
        refine V0_iinc_5 (pc := 123) (nI (q + 1)) dX12_mostMates_123 (by decide) rfl (nI_1 _) ?_
        refine V0_goto (pc := 126) 39 dX12_mostMates_126 (by decide) ?_
        exact V_ls (by rw [e2]) (ih (q + 1) (by omega) _)
      · skip
        refine V0_aload_n (pc := 57) dX12_mostMates_57 rfl ?_
        refine V_getr (pc := 58) dX12_mostMates_58 flX12_7 rfl rfl ?_
        refine V0_iload (pc := 61) dX12_mostMates_61 rfl ?_
        refine V_iald (pc := 63) q dX12_mostMates_63 rfl rfl (by omega) ?_
        refine V0_iconst (pc := 64) (2) dX12_mostMates_64 (by decide) ?_
        refine V0_irem (pc := 65) dX12_mostMates_65 (by decide) ?_
        refine V0_if_eq (pc := 66) 123 dX12_mostMates_66 (by decide) (fun h66 => ?_) (fun h66 => ?_)
        · skip
          first | have e3 := e2 | have e2 := e1.trans (if_neg (m_mc_0 h54)) | have e2 := e1.trans (if_neg (m_mc_1 h66)) | have e2 := e1.trans (if_neg (m_mc_2 h86)) | have e2 := e1.trans (if_neg (m_mc_3 h116))
          refine V0_iinc_5 (pc := 123) (nI (q + 1)) dX12_mostMates_123 (by decide) rfl (nI_1 _) ?_
          refine V0_goto (pc := 126) 39 dX12_mostMates_126 (by decide) ?_
          exact V_ls (by rw [e2]) (ih (q + 1) (by omega) _)
        · skip
          refine V0_aload_n (pc := 69) dX12_mostMates_69 rfl ?_
          refine V_getr (pc := 70) dX12_mostMates_70 flX12_7 rfl rfl ?_
          refine V0_iload_n (pc := 73) dX12_mostMates_73 rfl ?_
          refine V_iald (pc := 74) p dX12_mostMates_74 rfl rfl (by omega) ?_
          refine V0_aload_n (pc := 75) dX12_mostMates_75 rfl ?_
          refine V_getr (pc := 76) dX12_mostMates_76 flX12_7 rfl rfl ?_
          refine V0_iload (pc := 79) dX12_mostMates_79 rfl ?_
          refine V_iald (pc := 81) q dX12_mostMates_81 rfl rfl (by omega) ?_
          refine V_callSi (pc := 82) (M' := mX12_apartBy) dX12_mostMates_82 mlX12_295 okX12_apartBy rfl c_X12_apartBy rfl rfl (px_hr (by omega) (by decide)) ⟨Nat.le_refl 0, Nat.le_refl 0⟩ (Nat.le_of_ble_eq_true rfl) ?_
          refine V0_iload_n (pc := 85) dX12_mostMates_85 rfl ?_
          refine V1_icmp_le (pc := 86) 92 dX12_mostMates_86 (by decide) (fun h86 => ?_) (fun h86 => ?_)
          · skip
            have hm1 : m_mc I p left x q = true := by simp [m_mc, h54, h66, h86]
            refine V0_iconst (pc := 92) (1) dX12_mostMates_92 (by decide) ?_
            refine V0_aload_n (pc := 93) dX12_mostMates_93 rfl ?_
            refine V0_iload_n (pc := 94) dX12_mostMates_94 rfl ?_
            refine V0_iconst (pc := 95) (1) dX12_mostMates_95 (by decide) ?_
            refine V0_iadd (pc := 96) dX12_mostMates_96 ?_
            refine V0_iload_n (pc := 97) dX12_mostMates_97 rfl ?_
            refine V0_iconst (pc := 98) (1) dX12_mostMates_98 (by decide) ?_
            refine V0_iload (pc := 99) dX12_mostMates_99 rfl ?_
            refine V0_ishl (pc := 101) dX12_mostMates_101 ?_
            refine V0_iconst (pc := 102) (-1) dX12_mostMates_102 (by decide) ?_
            refine V0_ixor (pc := 103) dX12_mostMates_103 ?_
            refine V0_iand (pc := 104) dX12_mostMates_104 ?_
            refine V0_iload_n (pc := 105) dX12_mostMates_105 rfl ?_
            refine V_callVi (pc := 106) (M' := mX12_mostMates) dX12_mostMates_106 mlX12_353 okX12_mostMates rfl hc rfl rfl rfl rfl (px_hr (by omega) (by decide)) ⟨Nat.le_refl 0, Nat.le_refl 0⟩ (Nat.le_of_ble_eq_true rfl) ?_
            refine V0_iadd (pc := 109) dX12_mostMates_109 ?_
            refine V0_istore_6 (pc := 110) dX12_mostMates_110 (by decide) rfl ?_
            refine V0_iload (pc := 112) dX12_mostMates_112 rfl ?_
            refine V0_iload (pc := 114) dX12_mostMates_114 rfl ?_
            refine V1_icmp_le (pc := 116) 123 dX12_mostMates_116 (by decide) (fun h116 => ?_) (fun h116 => ?_)
            · skip
              first | have e3 := e2 | have e2 := e1.trans (if_neg (m_mc_0 h54)) | have e2 := e1.trans (if_neg (m_mc_1 h66)) | have e2 := e1.trans (if_neg (m_mc_2 h86)) | have e2 := e1.trans (if_neg (m_mc_3 h116))
              refine V0_iinc_5 (pc := 123) (nI (q + 1)) dX12_mostMates_123 (by decide) rfl (nI_1 _) ?_
              refine V0_goto (pc := 126) 39 dX12_mostMates_126 (by decide) ?_
              exact V_ls (by rw [e2]) (ih (q + 1) (by omega) _)
            · skip
              have e2 := e1.trans (if_pos ⟨hm1, h116⟩)
              refine V0_iload (pc := 119) dX12_mostMates_119 rfl ?_
              refine V0_istore_4 (pc := 121) dX12_mostMates_121 (by decide) rfl ?_
              first | have e3 := e2 | have e2 := e1.trans (if_neg (m_mc_0 h54)) | have e2 := e1.trans (if_neg (m_mc_1 h66)) | have e2 := e1.trans (if_neg (m_mc_2 h86)) | have e2 := e1.trans (if_neg (m_mc_3 h116))
              refine V0_iinc_5 (pc := 123) (nI (q + 1)) dX12_mostMates_123 (by decide) rfl (nI_1 _) ?_
              refine V0_goto (pc := 126) 39 dX12_mostMates_126 (by decide) ?_
              exact V_ls (by rw [e2]) (ih (q + 1) (by omega) _)
          · skip
            refine V0_goto (pc := 89) 123 dX12_mostMates_89 (by decide) ?_
            first | have e3 := e2 | have e2 := e1.trans (if_neg (m_mc_0 h54)) | have e2 := e1.trans (if_neg (m_mc_1 h66)) | have e2 := e1.trans (if_neg (m_mc_2 h86)) | have e2 := e1.trans (if_neg (m_mc_3 h116))
            refine V0_iinc_5 (pc := 123) (nI (q + 1)) dX12_mostMates_123 (by decide) rfl (nI_1 _) ?_
            refine V0_goto (pc := 126) 39 dX12_mostMates_126 (by decide) ?_
            exact V_ls (by rw [e2]) (ih (q + 1) (by omega) _)
theorem c_X12_mostMates {l : Launch} {I : px_I} {J : px_J} {m : Nat} {x : Int32} (hm : I 54 1 = nI m) (hm7 : m ≤ 7) : ∀ f, f ≤ m → m_run l I J m x f := by
  intro f
  induction f with
  | zero =>
    intro hf left
    refine Ct.of plX12_mostMates (Nat.le_of_ble_eq_true rfl) [.ref 54, .int (nI (m - 0)), .int left, .int x, .null, .null, .null] rfl ?_
    refine V0_iload_n (pc := 0) dX12_mostMates_0 rfl ?_
    refine V0_aload_n (pc := 1) dX12_mostMates_1 rfl ?_
    refine V_geti (pc := 2) dX12_mostMates_2 flX12_128 rfl rfl ?_
    rw [hm]
    refine V0_icmp_ne (pc := 5) 10 dX12_mostMates_5 (by decide) (fun h5 => ?_) (fun h5 => ?_)
    · skip
      exact absurd rfl h5
    · skip
      refine V0_iconst (pc := 8) (0) dX12_mostMates_8 (by decide) ?_
      refine V_reti (pc := 9) _ dX12_mostMates_9 rfl ?_
      exact px_li rfl
  | succ f ih =>
    intro hf left
    have hr := ih (by omega)
    obtain ⟨p, hp⟩ : ∃ p, p = m - (f + 1) := ⟨_, rfl⟩
    have hc := hr left
    rw [show nI (m - f) = nI p + 1 from by rw [nI_1]; congr 1; omega] at hc
    rw [← hp]
    refine Ct.of plX12_mostMates (Nat.le_of_ble_eq_true rfl) [.ref 54, .int (nI p), .int left, .int x, .null, .null, .null] rfl ?_
    refine V0_iload_n (pc := 0) dX12_mostMates_0 rfl ?_
    refine V0_aload_n (pc := 1) dX12_mostMates_1 rfl ?_
    refine V_geti (pc := 2) dX12_mostMates_2 flX12_128 rfl rfl ?_
    rw [hm]
    refine V0_icmp_ne (pc := 5) 10 dX12_mostMates_5 (by decide) (fun h5 => ?_) (fun h5 => ?_)
    · skip
      refine V0_aload_n (pc := 10) dX12_mostMates_10 rfl ?_
      refine V0_iload_n (pc := 11) dX12_mostMates_11 rfl ?_
      refine V0_iconst (pc := 12) (1) dX12_mostMates_12 (by decide) ?_
      refine V0_iadd (pc := 13) dX12_mostMates_13 ?_
      refine V0_iload_n (pc := 14) dX12_mostMates_14 rfl ?_
      refine V0_iload_n (pc := 15) dX12_mostMates_15 rfl ?_
      refine V_callVi (pc := 16) (M' := mX12_mostMates) dX12_mostMates_16 mlX12_353 okX12_mostMates rfl hc rfl rfl rfl rfl (px_hr (by omega) (by decide)) ⟨Nat.le_refl 0, Nat.le_refl 0⟩ (Nat.le_of_ble_eq_true rfl) ?_
      refine V0_istore_4 (pc := 19) dX12_mostMates_19 (by decide) rfl ?_
      refine V0_aload_n (pc := 21) dX12_mostMates_21 rfl ?_
      refine V_getr (pc := 22) dX12_mostMates_22 flX12_7 rfl rfl ?_
      refine V0_iload_n (pc := 25) dX12_mostMates_25 rfl ?_
      refine V_iald (pc := 26) p dX12_mostMates_26 rfl rfl (by omega) ?_
      refine V0_iconst (pc := 27) (2) dX12_mostMates_27 (by decide) ?_
      refine V0_irem (pc := 28) dX12_mostMates_28 (by decide) ?_
      refine V0_iconst (pc := 29) (1) dX12_mostMates_29 (by decide) ?_
      refine V0_icmp_ne (pc := 30) 36 dX12_mostMates_30 (by decide) (fun h30 => ?_) (fun h30 => ?_)
      · skip
        refine V0_iconst (pc := 36) (0) dX12_mostMates_36 (by decide) ?_
        refine V0_istore_5 (pc := 37) dX12_mostMates_37 (by decide) rfl ?_
        exact lp_X12_mostMates hr (by omega) hp hm hm7 ⟨by rw [m_mm, ← hp, if_neg h30], rfl, rfl⟩ m 0 (by omega) _
      · skip
        refine V0_iload (pc := 33) dX12_mostMates_33 rfl ?_
        refine V_reti (pc := 35) _ dX12_mostMates_35 rfl ?_
        refine px_li ?_
        rw [m_mm, ← hp, if_pos h30]
    · skip
      exact absurd ((qI_inj (by omega) (by omega)).mp h5) (by omega)
theorem c_X12_mates {l : Launch} {I : px_I} {J : px_J} {x : Int32} {m : Nat} (hm : I 54 1 = nI m) (hm7 : m ≤ 7) : CtI l mX12_mates (m + 2) [.ref 54, .int x] I J (if s_within x 0 5 = true then m_mm I m x m (((1 : Int32) <<< (nI m &&& 31)) - 1) else -1) := by
  have hc := c_X12_mostMates (l := l) (I := I) (J := J) (x := x) hm hm7 m (Nat.le_refl m) (((1 : Int32) <<< (nI m &&& 31)) - 1)
  rw [show nI (m - m) = 0 from by rw [Nat.sub_self]; exact nI_0] at hc
  by_cases z : s_within x 0 5 = true
  · refine Ct.of plX12_mates (Nat.le_of_ble_eq_true rfl) [.ref 54, .int x] rfl ?_
    refine V0_iload_n (pc := 0) dX12_mates_0 rfl ?_
    refine V0_iconst (pc := 1) (0) dX12_mates_1 (by decide) ?_
    refine V0_iconst (pc := 2) (5) dX12_mates_2 (by decide) ?_
    refine V_callSi (pc := 3) (M' := mX12_in) dX12_mates_3 mlX12_131 okX12_in rfl c_X12_in rfl rfl (px_hr (by omega) (by decide)) ⟨Nat.le_refl 0, Nat.le_refl 0⟩ (Nat.le_of_ble_eq_true rfl) ?_
    refine V_ifeqb (pc := 6) 26 dX12_mates_6 (by decide) (fun h6 => ?_) (fun h6 => ?_)
    · skip
      exact absurd (z.symm.trans (show s_within x 0 5 = false from h6)) (by decide)
    · skip
      refine V0_aload_n (pc := 9) dX12_mates_9 rfl ?_
      refine V0_iconst (pc := 10) (0) dX12_mates_10 (by decide) ?_
      refine V0_iconst (pc := 11) (1) dX12_mates_11 (by decide) ?_
      refine V0_aload_n (pc := 12) dX12_mates_12 rfl ?_
      refine V_geti (pc := 13) dX12_mates_13 flX12_128 rfl rfl ?_
      rw [hm]
      refine V0_ishl (pc := 16) dX12_mates_16 ?_
      refine V0_iconst (pc := 17) (1) dX12_mates_17 (by decide) ?_
      refine V0_isub (pc := 18) dX12_mates_18 ?_
      refine V0_iload_n (pc := 19) dX12_mates_19 rfl ?_
      refine V_callVi (pc := 20) (M' := mX12_mostMates) dX12_mates_20 mlX12_353 okX12_mostMates rfl hc rfl rfl rfl rfl (px_hr (by omega) (by decide)) ⟨Nat.le_refl 0, Nat.le_refl 0⟩ (Nat.le_of_ble_eq_true rfl) ?_
      refine V0_goto (pc := 23) 27 dX12_mates_23 (by decide) ?_
      refine V_reti (pc := 27) _ dX12_mates_27 rfl ?_
      refine px_li ?_
      rw [if_pos z]
  · refine Ct.of plX12_mates (Nat.le_of_ble_eq_true rfl) [.ref 54, .int x] rfl ?_
    refine V0_iload_n (pc := 0) dX12_mates_0 rfl ?_
    refine V0_iconst (pc := 1) (0) dX12_mates_1 (by decide) ?_
    refine V0_iconst (pc := 2) (5) dX12_mates_2 (by decide) ?_
    refine V_callSi (pc := 3) (M' := mX12_in) dX12_mates_3 mlX12_131 okX12_in rfl c_X12_in rfl rfl (px_hr (by omega) (by decide)) ⟨Nat.le_refl 0, Nat.le_refl 0⟩ (Nat.le_of_ble_eq_true rfl) ?_
    refine V_ifeqb (pc := 6) 26 dX12_mates_6 (by decide) (fun h6 => ?_) (fun h6 => ?_)
    · skip
      refine V0_iconst (pc := 26) (-1) dX12_mates_26 (by decide) ?_
      refine V_reti (pc := 27) _ dX12_mates_27 rfl ?_
      refine px_li ?_
      rw [if_neg z] <;> rfl
    · skip
      exact absurd h6 z
/-! two landlords by turns -/
def m_en (I : px_I) (a : Int32) : Nat → Int32
  | 0 => 0
  | p + 1 => m_en I a p + (if px_rem (I 55 p) 2 = b2 (m_has a (nI p)) then 1 else -1)
theorem lp_X12_endsBy {l : Launch} {I : px_I} {J : px_J} {m : Nat} {a : Int32} {Q : px_Q} (hm : I 54 1 = nI m) (hm7 : m ≤ 7) (hQ : Q (some (.int (m_en I a m))) I J) : ∀ (f p : Nat), p + f = m → V0 l (px_rm 1 0 0) mX12_endsBy (false, []) 0 0 4 [.ref 54, .int a, .int (m_en I a p), .int (nI p)] [] (px_mk I J) (px_q Q) := by
  intro f
  induction f with
  | zero =>
    intro p h1
    obtain rfl : p = m := by omega
    refine V0_iload_n (pc := 4) dX12_endsBy_4 rfl ?_
    refine V0_aload_n (pc := 5) dX12_endsBy_5 rfl ?_
    refine V_geti (pc := 6) dX12_endsBy_6 flX12_128 rfl rfl ?_
    rw [hm]
    refine V1_icmp_ge (pc := 9) 50 dX12_endsBy_9 (by decide) (fun h9 => ?_) (fun h9 => ?_)
    · skip
      refine V0_iload_n (pc := 50) dX12_endsBy_50 rfl ?_
      refine V_reti (pc := 51) _ dX12_endsBy_51 rfl ?_
      exact hQ
    · skip
      exact absurd ((qI_lt (a := p) (b := p) (by omega) (by omega)).mp h9) (by omega)
  | succ f ih =>
    intro p h1
    have hlt : nI p < nI m := (qI_lt (by omega) (by omega)).mpr (by omega)
    refine V0_iload_n (pc := 4) dX12_endsBy_4 rfl ?_
    refine V0_aload_n (pc := 5) dX12_endsBy_5 rfl ?_
    refine V_geti (pc := 6) dX12_endsBy_6 flX12_128 rfl rfl ?_
    rw [hm]
    refine V1_icmp_ge (pc := 9) 50 dX12_endsBy_9 (by decide) (fun h9 => ?_) (fun h9 => ?_)
    · skip
      exact absurd hlt h9
    · skip
      refine V0_iload_n (pc := 12) dX12_endsBy_12 rfl ?_
      refine V0_aload_n (pc := 13) dX12_endsBy_13 rfl ?_
      refine V_getr (pc := 14) dX12_endsBy_14 flX12_7 rfl rfl ?_
      refine V0_iload_n (pc := 17) dX12_endsBy_17 rfl ?_
      refine V_iald (pc := 18) p dX12_endsBy_18 rfl rfl (by omega) ?_
      refine V0_iconst (pc := 19) (2) dX12_endsBy_19 (by decide) ?_
      refine V0_irem (pc := 20) dX12_endsBy_20 (by decide) ?_
      refine V0_iload_n (pc := 21) dX12_endsBy_21 rfl ?_
      refine V0_iload_n (pc := 22) dX12_endsBy_22 rfl ?_
      refine V_callSi (pc := 23) (M' := mX12_has) dX12_endsBy_23 mlX12_292 okX12_has rfl c_X12_has rfl rfl ⟨Nat.le_of_ble_eq_true rfl, Nat.le_of_ble_eq_true rfl⟩ ⟨Nat.le_refl 0, Nat.le_refl 0⟩ (Nat.le_of_ble_eq_true rfl) ?_
      refine V_ifeqb (pc := 26) 33 dX12_endsBy_26 (by decide) (fun h26 => ?_) (fun h26 => ?_)
      · skip
        refine V0_iconst (pc := 33) (0) dX12_endsBy_33 (by decide) ?_
        refine V_topc (b2 (m_has a (nI p))) (by rw [h26]; rfl) ?_
        refine V0_icmp_ne (pc := 34) 41 dX12_endsBy_34 (by decide) (fun h34 => ?_) (fun h34 => ?_)
        · skip
          refine V0_iconst (pc := 41) (-1) dX12_endsBy_41 (by decide) ?_
          refine V_topc (if px_rem (I 55 p) 2 = b2 (m_has a (nI p)) then 1 else -1) (by simp [h34]) ?_
          refine V0_iadd (pc := 42) dX12_endsBy_42 ?_
          refine V0_istore_2 (pc := 43) dX12_endsBy_43 (by decide) rfl ?_
          refine V0_iinc_3 (pc := 44) (nI (p + 1)) dX12_endsBy_44 (by decide) rfl (nI_1 _) ?_
          refine V0_goto (pc := 47) 4 dX12_endsBy_47 (by decide) ?_
          exact ih (p + 1) (by omega)
        · skip
          refine V0_iconst (pc := 37) (1) dX12_endsBy_37 (by decide) ?_
          refine V0_goto (pc := 38) 42 dX12_endsBy_38 (by decide) ?_
          refine V_topc (if px_rem (I 55 p) 2 = b2 (m_has a (nI p)) then 1 else -1) (by simp [h34]) ?_
          refine V0_iadd (pc := 42) dX12_endsBy_42 ?_
          refine V0_istore_2 (pc := 43) dX12_endsBy_43 (by decide) rfl ?_
          refine V0_iinc_3 (pc := 44) (nI (p + 1)) dX12_endsBy_44 (by decide) rfl (nI_1 _) ?_
          refine V0_goto (pc := 47) 4 dX12_endsBy_47 (by decide) ?_
          exact ih (p + 1) (by omega)
      · skip
        refine V0_iconst (pc := 29) (1) dX12_endsBy_29 (by decide) ?_
        refine V0_goto (pc := 30) 34 dX12_endsBy_30 (by decide) ?_
        refine V_topc (b2 (m_has a (nI p))) (by rw [h26]; rfl) ?_
        refine V0_icmp_ne (pc := 34) 41 dX12_endsBy_34 (by decide) (fun h34 => ?_) (fun h34 => ?_)
        · skip
          refine V0_iconst (pc := 41) (-1) dX12_endsBy_41 (by decide) ?_
          refine V_topc (if px_rem (I 55 p) 2 = b2 (m_has a (nI p)) then 1 else -1) (by simp [h34]) ?_
          refine V0_iadd (pc := 42) dX12_endsBy_42 ?_
          refine V0_istore_2 (pc := 43) dX12_endsBy_43 (by decide) rfl ?_
          refine V0_iinc_3 (pc := 44) (nI (p + 1)) dX12_endsBy_44 (by decide) rfl (nI_1 _) ?_
          refine V0_goto (pc := 47) 4 dX12_endsBy_47 (by decide) ?_
          exact ih (p + 1) (by omega)
        · skip
          refine V0_iconst (pc := 37) (1) dX12_endsBy_37 (by decide) ?_
          refine V0_goto (pc := 38) 42 dX12_endsBy_38 (by decide) ?_
          refine V_topc (if px_rem (I 55 p) 2 = b2 (m_has a (nI p)) then 1 else -1) (by simp [h34]) ?_
          refine V0_iadd (pc := 42) dX12_endsBy_42 ?_
          refine V0_istore_2 (pc := 43) dX12_endsBy_43 (by decide) rfl ?_
          refine V0_iinc_3 (pc := 44) (nI (p + 1)) dX12_endsBy_44 (by decide) rfl (nI_1 _) ?_
          refine V0_goto (pc := 47) 4 dX12_endsBy_47 (by decide) ?_
          exact ih (p + 1) (by omega)
theorem c_X12_endsBy {l : Launch} {I : px_I} {J : px_J} {m : Nat} {a : Int32} (hm : I 54 1 = nI m) (hm7 : m ≤ 7) : CtI l mX12_endsBy 1 [.ref 54, .int a] I J (m_en I a m) := by
  refine Ct.of plX12_endsBy (Nat.le_of_ble_eq_true rfl) [.ref 54, .int a, .null, .null] rfl ?_
  refine V0_iconst (pc := 0) (0) dX12_endsBy_0 (by decide) ?_
  refine V0_istore_2 (pc := 1) dX12_endsBy_1 (by decide) rfl ?_
  refine V0_iconst (pc := 2) (0) dX12_endsBy_2 (by decide) ?_
  refine V0_istore_3 (pc := 3) dX12_endsBy_3 (by decide) rfl ?_
  exact lp_X12_endsBy hm hm7 ⟨rfl, rfl, rfl⟩ m 0 (by omega)
abbrev m_xo (a : Int32) (p : Nat) : Int32 := a ^^^ ((1 : Int32) <<< (nI p &&& 31))
def m_be (I : px_I) (m : Nat) : Nat → Int32 → Bool → Int32
  | 0, a, _ => m_en I a m
  | k + 1, a, f => v_fold (fun p => m_be I m k (m_xo a p) (!f)) f (m_be I m k a (!f)) m
def m_br (l : Launch) (I : px_I) (J : px_J) (m k : Nat) : Prop := ∀ (a : Int32) (f : Bool), CtI l mX12_bestOf (k + 2) [.ref 54, .int a, .int (nI k), .int (b2 f)] I J (m_be I m k a f)
theorem v_pick_tp {f : Bool} {a b : Int32} (hf : f = true) (h : a < b) : v_pick f a b = b := by rw [v_pick, if_pos hf, if_pos h]
theorem v_pick_tn {f : Bool} {a b : Int32} (hf : f = true) (h : ¬ a < b) : v_pick f a b = a := by rw [v_pick, if_pos hf, if_neg h]
theorem v_pick_fp {f : Bool} {a b : Int32} (hf : f = false) (h : b < a) : v_pick f a b = b := by rw [v_pick, if_neg (by rw [hf]; decide), if_pos h]
theorem v_pick_fn {f : Bool} {a b : Int32} (hf : f = false) (h : ¬ b < a) : v_pick f a b = a := by rw [v_pick, if_neg (by rw [hf]; decide), if_neg h]
theorem lp_X12_bestOf {l : Launch} {I : px_I} {J : px_J} {m k : Nat} {a : Int32} {f : Bool} {Q : px_Q} (hr : m_br l I J m k) (hm : I 54 1 = nI m) (hm7 : m ≤ 7) (hQ : Q (some (.int (m_be I m (k + 1) a f))) I J) : ∀ (g p : Nat), p + g = m → ∀ v6 : Value, V0 l (px_rm (k + 3) 0 0) mX12_bestOf (false, []) 0 0 32 [.ref 54, .int a, .int (nI (k + 1)), .int (b2 f), .int (v_fold (fun p => m_be I m k (m_xo a p) (!f)) f (m_be I m k a (!f)) p), .int (nI p), v6] [] (px_mk I J) (px_q Q) := by
  intro g
  induction g with
  | zero =>
    intro p h1 v6
    obtain rfl : p = m := by omega
    refine V0_iload (pc := 32) dX12_bestOf_32 rfl ?_
    refine V0_aload_n (pc := 34) dX12_bestOf_34 rfl ?_
    refine V_geti (pc := 35) dX12_bestOf_35 flX12_128 rfl rfl ?_
    rw [hm]
    refine V1_icmp_ge (pc := 38) 96 dX12_bestOf_38 (by decide) (fun h38 => ?_) (fun h38 => ?_)
    · skip
      refine V0_iload (pc := 96) dX12_bestOf_96 rfl ?_
      refine V_reti (pc := 98) _ dX12_bestOf_98 rfl ?_
      exact hQ
    · skip
      exact absurd ((qI_lt (a := p) (b := p) (by omega) (by omega)).mp h38) (by omega)
  | succ g ih =>
    intro p h1 v6
    have hlt : nI p < nI m := (qI_lt (by omega) (by omega)).mpr (by omega)
    have hc := hr (m_xo a p) (!f)
    refine V0_iload (pc := 32) dX12_bestOf_32 rfl ?_
    refine V0_aload_n (pc := 34) dX12_bestOf_34 rfl ?_
    refine V_geti (pc := 35) dX12_bestOf_35 flX12_128 rfl rfl ?_
    rw [hm]
    refine V1_icmp_ge (pc := 38) 96 dX12_bestOf_38 (by decide) (fun h38 => ?_) (fun h38 => ?_)
    · skip
      exact absurd hlt h38
    · skip
      refine V0_aload_n (pc := 41) dX12_bestOf_41 rfl ?_
      refine V0_iload_n (pc := 42) dX12_bestOf_42 rfl ?_
      refine V0_iconst (pc := 43) (1) dX12_bestOf_43 (by decide) ?_
      refine V0_iload (pc := 44) dX12_bestOf_44 rfl ?_
      refine V0_ishl (pc := 46) dX12_bestOf_46 ?_
      refine V0_ixor (pc := 47) dX12_bestOf_47 ?_
      refine V0_iload_n (pc := 48) dX12_bestOf_48 rfl ?_
      refine V0_iconst (pc := 49) (1) dX12_bestOf_49 (by decide) ?_
      refine V0_isub (pc := 50) dX12_bestOf_50 ?_
      rw [nI_pred]
      refine V0_iload_n (pc := 51) dX12_bestOf_51 rfl ?_
      refine V_ifneb (pc := 52) 59 dX12_bestOf_52 (by decide) (fun h52 => ?_) (fun h52 => ?_)
      · skip
        refine V0_iconst (pc := 59) (0) dX12_bestOf_59 (by decide) ?_
        refine V_topc (b2 (!f)) (by simp [b2, h52]) ?_
        refine V_callVi (pc := 60) (M' := mX12_bestOf) dX12_bestOf_60 mlX12_359 okX12_bestOf rfl hc rfl rfl rfl rfl (px_hr (by omega) (by decide)) ⟨Nat.le_refl 0, Nat.le_refl 0⟩ (Nat.le_of_ble_eq_true rfl) ?_
        refine V0_istore_6 (pc := 63) dX12_bestOf_63 (by decide) rfl ?_
        refine V0_iload_n (pc := 65) dX12_bestOf_65 rfl ?_
        refine V_ifeqb (pc := 66) 79 dX12_bestOf_66 (by decide) (fun h66 => ?_) (fun h66 => ?_)
        · skip
          refine V0_iload (pc := 79) dX12_bestOf_79 rfl ?_
          refine V0_iload (pc := 81) dX12_bestOf_81 rfl ?_
          refine V1_icmp_ge (pc := 83) 90 dX12_bestOf_83 (by decide) (fun h83 => ?_) (fun h83 => ?_)
          · skip
            have e3 : v_fold (fun p => m_be I m k (m_xo a p) (!f)) f (m_be I m k a (!f)) (p + 1) = v_pick f (v_fold (fun p => m_be I m k (m_xo a p) (!f)) f (m_be I m k a (!f)) p) (m_be I m k (m_xo a p) (!f)) := rfl
            first | have e2 := v_pick_tp h66 h73 | have e2 := v_pick_tn h66 h73 | have e2 := v_pick_fp h66 h83 | have e2 := v_pick_fn h66 h83
            refine V_ls (ls' := [.ref 54, .int a, .int (nI (k + 1)), .int (b2 f), .int (v_fold (fun p => m_be I m k (m_xo a p) (!f)) f (m_be I m k a (!f)) (p + 1)), .int (nI p), .int (m_be I m k (m_xo a p) (!f))]) (by rw [e3, e2]) ?_
            refine V0_iinc_5 (pc := 90) (nI (p + 1)) dX12_bestOf_90 (by decide) rfl (nI_1 _) ?_
            refine V0_goto (pc := 93) 32 dX12_bestOf_93 (by decide) ?_
            exact ih (p + 1) (by omega) _
          · skip
            refine V0_iload (pc := 86) dX12_bestOf_86 rfl ?_
            refine V0_istore_4 (pc := 88) dX12_bestOf_88 (by decide) rfl ?_
            have e3 : v_fold (fun p => m_be I m k (m_xo a p) (!f)) f (m_be I m k a (!f)) (p + 1) = v_pick f (v_fold (fun p => m_be I m k (m_xo a p) (!f)) f (m_be I m k a (!f)) p) (m_be I m k (m_xo a p) (!f)) := rfl
            first | have e2 := v_pick_tp h66 h73 | have e2 := v_pick_tn h66 h73 | have e2 := v_pick_fp h66 h83 | have e2 := v_pick_fn h66 h83
            refine V_ls (ls' := [.ref 54, .int a, .int (nI (k + 1)), .int (b2 f), .int (v_fold (fun p => m_be I m k (m_xo a p) (!f)) f (m_be I m k a (!f)) (p + 1)), .int (nI p), .int (m_be I m k (m_xo a p) (!f))]) (by rw [e3, e2]) ?_
            refine V0_iinc_5 (pc := 90) (nI (p + 1)) dX12_bestOf_90 (by decide) rfl (nI_1 _) ?_
            refine V0_goto (pc := 93) 32 dX12_bestOf_93 (by decide) ?_
            exact ih (p + 1) (by omega) _
        · skip
          refine V0_iload (pc := 69) dX12_bestOf_69 rfl ?_
          refine V0_iload (pc := 71) dX12_bestOf_71 rfl ?_
          refine V1_icmp_le (pc := 73) 90 dX12_bestOf_73 (by decide) (fun h73 => ?_) (fun h73 => ?_)
          · skip
            have e3 : v_fold (fun p => m_be I m k (m_xo a p) (!f)) f (m_be I m k a (!f)) (p + 1) = v_pick f (v_fold (fun p => m_be I m k (m_xo a p) (!f)) f (m_be I m k a (!f)) p) (m_be I m k (m_xo a p) (!f)) := rfl
            first | have e2 := v_pick_tp h66 h73 | have e2 := v_pick_tn h66 h73 | have e2 := v_pick_fp h66 h83 | have e2 := v_pick_fn h66 h83
            refine V_ls (ls' := [.ref 54, .int a, .int (nI (k + 1)), .int (b2 f), .int (v_fold (fun p => m_be I m k (m_xo a p) (!f)) f (m_be I m k a (!f)) (p + 1)), .int (nI p), .int (m_be I m k (m_xo a p) (!f))]) (by rw [e3, e2]) ?_
            refine V0_iinc_5 (pc := 90) (nI (p + 1)) dX12_bestOf_90 (by decide) rfl (nI_1 _) ?_
            refine V0_goto (pc := 93) 32 dX12_bestOf_93 (by decide) ?_
            exact ih (p + 1) (by omega) _
          · skip
            refine V0_goto (pc := 76) 86 dX12_bestOf_76 (by decide) ?_
            refine V0_iload (pc := 86) dX12_bestOf_86 rfl ?_
            refine V0_istore_4 (pc := 88) dX12_bestOf_88 (by decide) rfl ?_
            have e3 : v_fold (fun p => m_be I m k (m_xo a p) (!f)) f (m_be I m k a (!f)) (p + 1) = v_pick f (v_fold (fun p => m_be I m k (m_xo a p) (!f)) f (m_be I m k a (!f)) p) (m_be I m k (m_xo a p) (!f)) := rfl
            first | have e2 := v_pick_tp h66 h73 | have e2 := v_pick_tn h66 h73 | have e2 := v_pick_fp h66 h83 | have e2 := v_pick_fn h66 h83
            refine V_ls (ls' := [.ref 54, .int a, .int (nI (k + 1)), .int (b2 f), .int (v_fold (fun p => m_be I m k (m_xo a p) (!f)) f (m_be I m k a (!f)) (p + 1)), .int (nI p), .int (m_be I m k (m_xo a p) (!f))]) (by rw [e3, e2]) ?_
            refine V0_iinc_5 (pc := 90) (nI (p + 1)) dX12_bestOf_90 (by decide) rfl (nI_1 _) ?_
            refine V0_goto (pc := 93) 32 dX12_bestOf_93 (by decide) ?_
            exact ih (p + 1) (by omega) _
      · skip
        refine V0_iconst (pc := 55) (1) dX12_bestOf_55 (by decide) ?_
        refine V0_goto (pc := 56) 60 dX12_bestOf_56 (by decide) ?_
        refine V_topc (b2 (!f)) (by simp [b2, h52]) ?_
        refine V_callVi (pc := 60) (M' := mX12_bestOf) dX12_bestOf_60 mlX12_359 okX12_bestOf rfl hc rfl rfl rfl rfl (px_hr (by omega) (by decide)) ⟨Nat.le_refl 0, Nat.le_refl 0⟩ (Nat.le_of_ble_eq_true rfl) ?_
        refine V0_istore_6 (pc := 63) dX12_bestOf_63 (by decide) rfl ?_
        refine V0_iload_n (pc := 65) dX12_bestOf_65 rfl ?_
        refine V_ifeqb (pc := 66) 79 dX12_bestOf_66 (by decide) (fun h66 => ?_) (fun h66 => ?_)
        · skip
          refine V0_iload (pc := 79) dX12_bestOf_79 rfl ?_
          refine V0_iload (pc := 81) dX12_bestOf_81 rfl ?_
          refine V1_icmp_ge (pc := 83) 90 dX12_bestOf_83 (by decide) (fun h83 => ?_) (fun h83 => ?_)
          · skip
            have e3 : v_fold (fun p => m_be I m k (m_xo a p) (!f)) f (m_be I m k a (!f)) (p + 1) = v_pick f (v_fold (fun p => m_be I m k (m_xo a p) (!f)) f (m_be I m k a (!f)) p) (m_be I m k (m_xo a p) (!f)) := rfl
            first | have e2 := v_pick_tp h66 h73 | have e2 := v_pick_tn h66 h73 | have e2 := v_pick_fp h66 h83 | have e2 := v_pick_fn h66 h83
            refine V_ls (ls' := [.ref 54, .int a, .int (nI (k + 1)), .int (b2 f), .int (v_fold (fun p => m_be I m k (m_xo a p) (!f)) f (m_be I m k a (!f)) (p + 1)), .int (nI p), .int (m_be I m k (m_xo a p) (!f))]) (by rw [e3, e2]) ?_
            refine V0_iinc_5 (pc := 90) (nI (p + 1)) dX12_bestOf_90 (by decide) rfl (nI_1 _) ?_
            refine V0_goto (pc := 93) 32 dX12_bestOf_93 (by decide) ?_
            exact ih (p + 1) (by omega) _
          · skip
            refine V0_iload (pc := 86) dX12_bestOf_86 rfl ?_
            refine V0_istore_4 (pc := 88) dX12_bestOf_88 (by decide) rfl ?_
            have e3 : v_fold (fun p => m_be I m k (m_xo a p) (!f)) f (m_be I m k a (!f)) (p + 1) = v_pick f (v_fold (fun p => m_be I m k (m_xo a p) (!f)) f (m_be I m k a (!f)) p) (m_be I m k (m_xo a p) (!f)) := rfl
            first | have e2 := v_pick_tp h66 h73 | have e2 := v_pick_tn h66 h73 | have e2 := v_pick_fp h66 h83 | have e2 := v_pick_fn h66 h83
            refine V_ls (ls' := [.ref 54, .int a, .int (nI (k + 1)), .int (b2 f), .int (v_fold (fun p => m_be I m k (m_xo a p) (!f)) f (m_be I m k a (!f)) (p + 1)), .int (nI p), .int (m_be I m k (m_xo a p) (!f))]) (by rw [e3, e2]) ?_
            refine V0_iinc_5 (pc := 90) (nI (p + 1)) dX12_bestOf_90 (by decide) rfl (nI_1 _) ?_
            refine V0_goto (pc := 93) 32 dX12_bestOf_93 (by decide) ?_
            exact ih (p + 1) (by omega) _
        · skip
          refine V0_iload (pc := 69) dX12_bestOf_69 rfl ?_
          refine V0_iload (pc := 71) dX12_bestOf_71 rfl ?_
          refine V1_icmp_le (pc := 73) 90 dX12_bestOf_73 (by decide) (fun h73 => ?_) (fun h73 => ?_)
          · skip
            have e3 : v_fold (fun p => m_be I m k (m_xo a p) (!f)) f (m_be I m k a (!f)) (p + 1) = v_pick f (v_fold (fun p => m_be I m k (m_xo a p) (!f)) f (m_be I m k a (!f)) p) (m_be I m k (m_xo a p) (!f)) := rfl
            first | have e2 := v_pick_tp h66 h73 | have e2 := v_pick_tn h66 h73 | have e2 := v_pick_fp h66 h83 | have e2 := v_pick_fn h66 h83
            refine V_ls (ls' := [.ref 54, .int a, .int (nI (k + 1)), .int (b2 f), .int (v_fold (fun p => m_be I m k (m_xo a p) (!f)) f (m_be I m k a (!f)) (p + 1)), .int (nI p), .int (m_be I m k (m_xo a p) (!f))]) (by rw [e3, e2]) ?_
            refine V0_iinc_5 (pc := 90) (nI (p + 1)) dX12_bestOf_90 (by decide) rfl (nI_1 _) ?_
            refine V0_goto (pc := 93) 32 dX12_bestOf_93 (by decide) ?_
            exact ih (p + 1) (by omega) _
          · skip
            refine V0_goto (pc := 76) 86 dX12_bestOf_76 (by decide) ?_
            refine V0_iload (pc := 86) dX12_bestOf_86 rfl ?_
            refine V0_istore_4 (pc := 88) dX12_bestOf_88 (by decide) rfl ?_
            have e3 : v_fold (fun p => m_be I m k (m_xo a p) (!f)) f (m_be I m k a (!f)) (p + 1) = v_pick f (v_fold (fun p => m_be I m k (m_xo a p) (!f)) f (m_be I m k a (!f)) p) (m_be I m k (m_xo a p) (!f)) := rfl
            first | have e2 := v_pick_tp h66 h73 | have e2 := v_pick_tn h66 h73 | have e2 := v_pick_fp h66 h83 | have e2 := v_pick_fn h66 h83
            refine V_ls (ls' := [.ref 54, .int a, .int (nI (k + 1)), .int (b2 f), .int (v_fold (fun p => m_be I m k (m_xo a p) (!f)) f (m_be I m k a (!f)) (p + 1)), .int (nI p), .int (m_be I m k (m_xo a p) (!f))]) (by rw [e3, e2]) ?_
            refine V0_iinc_5 (pc := 90) (nI (p + 1)) dX12_bestOf_90 (by decide) rfl (nI_1 _) ?_
            refine V0_goto (pc := 93) 32 dX12_bestOf_93 (by decide) ?_
            exact ih (p + 1) (by omega) _
theorem c_X12_bestOf {l : Launch} {I : px_I} {J : px_J} {m : Nat} (hm : I 54 1 = nI m) (hm7 : m ≤ 7) : ∀ k, k < 1000 → m_br l I J m k := by
  intro k
  induction k with
  | zero =>
    intro _ a f
    refine Ct.of plX12_bestOf (Nat.le_of_ble_eq_true rfl) [.ref 54, .int a, .int (nI 0), .int (b2 f), .null, .null, .null] rfl ?_
    refine V0_iload_n (pc := 0) dX12_bestOf_0 rfl ?_
    refine V0_if_ne (pc := 1) 10 dX12_bestOf_1 (by decide) (fun h1 => ?_) (fun h1 => ?_)
    · skip
      exact absurd nI_0 h1
    · skip
      refine V0_aload_n (pc := 4) dX12_bestOf_4 rfl ?_
      refine V0_iload_n (pc := 5) dX12_bestOf_5 rfl ?_
      refine V_callVi (pc := 6) (M' := mX12_endsBy) dX12_bestOf_6 mlX12_356 okX12_endsBy rfl (c_X12_endsBy hm hm7) rfl rfl rfl rfl (px_hr (by omega) (by decide)) ⟨Nat.le_refl 0, Nat.le_refl 0⟩ (Nat.le_of_ble_eq_true rfl) ?_
      refine V_reti (pc := 9) _ dX12_bestOf_9 rfl ?_
      exact px_li rfl
  | succ k ih =>
    intro hk a f
    have hr := ih (by omega)
    have hc := hr a (!f)
    refine Ct.of plX12_bestOf (Nat.le_of_ble_eq_true rfl) [.ref 54, .int a, .int (nI (k + 1)), .int (b2 f), .null, .null, .null] rfl ?_
    refine V0_iload_n (pc := 0) dX12_bestOf_0 rfl ?_
    refine V0_if_ne (pc := 1) 10 dX12_bestOf_1 (by decide) (fun h1 => ?_) (fun h1 => ?_)
    · skip
      refine V0_aload_n (pc := 10) dX12_bestOf_10 rfl ?_
      refine V0_iload_n (pc := 11) dX12_bestOf_11 rfl ?_
      refine V0_iload_n (pc := 12) dX12_bestOf_12 rfl ?_
      refine V0_iconst (pc := 13) (1) dX12_bestOf_13 (by decide) ?_
      refine V0_isub (pc := 14) dX12_bestOf_14 ?_
      rw [nI_pred]
      refine V0_iload_n (pc := 15) dX12_bestOf_15 rfl ?_
      refine V_ifneb (pc := 16) 23 dX12_bestOf_16 (by decide) (fun h16 => ?_) (fun h16 => ?_)
      · skip
        refine V0_iconst (pc := 23) (0) dX12_bestOf_23 (by decide) ?_
        refine V_topc (b2 (!f)) (by simp [b2, h16]) ?_
        refine V_callVi (pc := 24) (M' := mX12_bestOf) dX12_bestOf_24 mlX12_359 okX12_bestOf rfl hc rfl rfl rfl rfl (px_hr (by omega) (by decide)) ⟨Nat.le_refl 0, Nat.le_refl 0⟩ (Nat.le_of_ble_eq_true rfl) ?_
        refine V0_istore_4 (pc := 27) dX12_bestOf_27 (by decide) rfl ?_
        refine V0_iconst (pc := 29) (0) dX12_bestOf_29 (by decide) ?_
        refine V0_istore_5 (pc := 30) dX12_bestOf_30 (by decide) rfl ?_
        exact lp_X12_bestOf hr hm hm7 ⟨rfl, rfl, rfl⟩ m 0 (by omega) _
      · skip
        refine V0_iconst (pc := 19) (1) dX12_bestOf_19 (by decide) ?_
        refine V0_goto (pc := 20) 24 dX12_bestOf_20 (by decide) ?_
        refine V_topc (b2 (!f)) (by simp [b2, h16]) ?_
        refine V_callVi (pc := 24) (M' := mX12_bestOf) dX12_bestOf_24 mlX12_359 okX12_bestOf rfl hc rfl rfl rfl rfl (px_hr (by omega) (by decide)) ⟨Nat.le_refl 0, Nat.le_refl 0⟩ (Nat.le_of_ble_eq_true rfl) ?_
        refine V0_istore_4 (pc := 27) dX12_bestOf_27 (by decide) rfl ?_
        refine V0_iconst (pc := 29) (0) dX12_bestOf_29 (by decide) ?_
        refine V0_istore_5 (pc := 30) dX12_bestOf_30 (by decide) rfl ?_
        exact lp_X12_bestOf hr hm hm7 ⟨rfl, rfl, rfl⟩ m 0 (by omega) _
    · skip
      exact absurd ((nI_eq0 (by omega)).mp h1) (by omega)
def m_f9 (f : Nat → Bool) : Nat → Nat → Int32
  | 0, _ => 9
  | k + 1, j => if f j = true then nI j else m_f9 f k (j + 1)
theorem lp_X12_byTurns {l : Launch} {I : px_I} {J : px_J} {m k : Nat} {w y : Int32} {Q : px_Q} (hm : I 54 1 = nI m) (hm7 : m ≤ 7) (hk : k < 4) : ∀ (f p : Nat), p + f = m → (Q (some (.int (m_f9 (fun p => decide (m_be I m k ((1 : Int32) <<< (nI p &&& 31)) false = y)) f p))) I J) → V0 l (px_rm 9 0 0) mX12_byTurns (false, []) 0 0 55 [.ref 54, .int (nI (k + 1)), .int w, .int y, .int (nI p)] [] (px_mk I J) (px_q Q) := by
  intro f
  induction f with
  | zero =>
    intro p h1 hQ
    obtain rfl : p = m := by omega
    refine V0_iload (pc := 55) dX12_byTurns_55 rfl ?_
    refine V0_aload_n (pc := 57) dX12_byTurns_57 rfl ?_
    refine V_geti (pc := 58) dX12_byTurns_58 flX12_128 rfl rfl ?_
    rw [hm]
    refine V1_icmp_ge (pc := 61) 89 dX12_byTurns_61 (by decide) (fun h61 => ?_) (fun h61 => ?_)
    · skip
      refine V0_bipush (pc := 89) (9) dX12_byTurns_89 (by decide) ?_
      refine V_reti (pc := 91) _ dX12_byTurns_91 rfl ?_
      exact hQ
    · skip
      exact absurd ((qI_lt (a := p) (b := p) (by omega) (by omega)).mp h61) (by omega)
  | succ f ih =>
    intro p h1 hQ
    have hlt : nI p < nI m := (qI_lt (by omega) (by omega)).mpr (by omega)
    have hc := c_X12_bestOf (l := l) (I := I) (J := J) hm hm7 k (by omega) ((1 : Int32) <<< (nI p &&& 31)) false
    refine V0_iload (pc := 55) dX12_byTurns_55 rfl ?_
    refine V0_aload_n (pc := 57) dX12_byTurns_57 rfl ?_
    refine V_geti (pc := 58) dX12_byTurns_58 flX12_128 rfl rfl ?_
    rw [hm]
    refine V1_icmp_ge (pc := 61) 89 dX12_byTurns_61 (by decide) (fun h61 => ?_) (fun h61 => ?_)
    · skip
      exact absurd hlt h61
    · skip
      refine V0_aload_n (pc := 64) dX12_byTurns_64 rfl ?_
      refine V0_iconst (pc := 65) (1) dX12_byTurns_65 (by decide) ?_
      refine V0_iload (pc := 66) dX12_byTurns_66 rfl ?_
      refine V0_ishl (pc := 68) dX12_byTurns_68 ?_
      refine V0_iload_n (pc := 69) dX12_byTurns_69 rfl ?_
      refine V0_iconst (pc := 70) (1) dX12_byTurns_70 (by decide) ?_
      refine V0_isub (pc := 71) dX12_byTurns_71 ?_
      rw [nI_pred]
      refine V0_iconst (pc := 72) (0) dX12_byTurns_72 (by decide) ?_
      refine V_callVi (pc := 73) (M' := mX12_bestOf) dX12_byTurns_73 mlX12_359 okX12_bestOf rfl hc rfl rfl rfl rfl (px_hr (by omega) (by decide)) ⟨Nat.le_refl 0, Nat.le_refl 0⟩ (Nat.le_of_ble_eq_true rfl) ?_
      refine V0_iload_n (pc := 76) dX12_byTurns_76 rfl ?_
      refine V0_icmp_ne (pc := 77) 83 dX12_byTurns_77 (by decide) (fun h77 => ?_) (fun h77 => ?_)
      · skip
        refine V0_iinc_4 (pc := 83) (nI (p + 1)) dX12_byTurns_83 (by decide) rfl (nI_1 _) ?_
        refine V0_goto (pc := 86) 55 dX12_byTurns_86 (by decide) ?_
        exact ih (p + 1) (by omega) (by rw [m_f9, if_neg (by rw [decide_eq_false h77]; decide)] at hQ; exact hQ)
      · skip
        refine V0_iload (pc := 80) dX12_byTurns_80 rfl ?_
        refine V_reti (pc := 82) _ dX12_byTurns_82 rfl ?_
        rw [m_f9, if_pos (decide_eq_true h77)] at hQ
        exact hQ
def m_bt (I : px_I) (m k : Nat) (w : Int32) : Int32 := if w = 0 then m_be I m (k + 1) 0 true else if m_be I m k 0 false = m_be I m (k + 1) 0 true then 9 else m_f9 (fun p => decide (m_be I m k ((1 : Int32) <<< (nI p &&& 31)) false = m_be I m (k + 1) 0 true)) m 0
theorem c_X12_byTurns {l : Launch} {I : px_I} {J : px_J} {x w : Int32} {m : Nat} (hm : I 54 1 = nI m) (hm7 : m ≤ 7) : CtI l mX12_byTurns 9 [.ref 54, .int x, .int w] I J (if s_within x 1 4 = true ∧ s_within w 0 1 = true then m_bt I m (ix x - 1) w else -2000000000) := by
  by_cases z : s_within x 1 4 = true ∧ s_within w 0 1 = true
  · obtain ⟨k, hk, hx⟩ : ∃ k, k < 4 ∧ x = nI (k + 1) := by
      have q := z.1
      simp only [s_within, Bool.and_eq_true, Bool.not_eq_true', decide_eq_false_iff_not] at q
      have q1 := px_nlt.mp q.1
      have q2 := px_nlt.mp q.2
      rw [Int32.le_iff_toInt_le] at q1 q2
      have c1 : (1 : Int32).toInt = 1 := by decide
      have c4 : (4 : Int32).toInt = 4 := by decide
      rw [c1] at q1
      rw [c4] at q2
      refine ⟨x.toInt.toNat - 1, by omega, ?_⟩
      apply Int32.toInt_inj.mp
      rw [nI_toInt (by omega)]
      omega
    subst hx
    have hc1 := c_X12_bestOf (l := l) (I := I) (J := J) hm hm7 (k + 1) (by omega) 0 true
    have hc0 := c_X12_bestOf (l := l) (I := I) (J := J) hm hm7 k (by omega) 0 false
    have e : ix (nI (k + 1)) - 1 = k := by rw [ix_nI (by omega)]; omega
    refine Ct.of plX12_byTurns (Nat.le_of_ble_eq_true rfl) [.ref 54, .int (nI (k + 1)), .int w, .null, .null] rfl ?_
    refine V0_iload_n (pc := 0) dX12_byTurns_0 rfl ?_
    refine V0_iconst (pc := 1) (1) dX12_byTurns_1 (by decide) ?_
    refine V0_iconst (pc := 2) (4) dX12_byTurns_2 (by decide) ?_
    refine V_callSi (pc := 3) (M' := mX12_in) dX12_byTurns_3 mlX12_131 okX12_in rfl c_X12_in rfl rfl (px_hr (by omega) (by decide)) ⟨Nat.le_refl 0, Nat.le_refl 0⟩ (Nat.le_of_ble_eq_true rfl) ?_
    refine V_ifeqb (pc := 6) 18 dX12_byTurns_6 (by decide) (fun h6 => ?_) (fun h6 => ?_)
    · skip
      exact absurd (z.1.symm.trans (show s_within (nI (k + 1)) 1 4 = false from h6)) (by decide)
    · skip
      refine V0_iload_n (pc := 9) dX12_byTurns_9 rfl ?_
      refine V0_iconst (pc := 10) (0) dX12_byTurns_10 (by decide) ?_
      refine V0_iconst (pc := 11) (1) dX12_byTurns_11 (by decide) ?_
      refine V_callSi (pc := 12) (M' := mX12_in) dX12_byTurns_12 mlX12_131 okX12_in rfl c_X12_in rfl rfl (px_hr (by omega) (by decide)) ⟨Nat.le_refl 0, Nat.le_refl 0⟩ (Nat.le_of_ble_eq_true rfl) ?_
      refine V_ifneb (pc := 15) 22 dX12_byTurns_15 (by decide) (fun h15 => ?_) (fun h15 => ?_)
      · skip
        refine V0_aload_n (pc := 22) dX12_byTurns_22 rfl ?_
        refine V0_iconst (pc := 23) (0) dX12_byTurns_23 (by decide) ?_
        refine V0_iload_n (pc := 24) dX12_byTurns_24 rfl ?_
        refine V0_iconst (pc := 25) (1) dX12_byTurns_25 (by decide) ?_
        refine V_callVi (pc := 26) (M' := mX12_bestOf) dX12_byTurns_26 mlX12_359 okX12_bestOf rfl hc1 rfl rfl rfl rfl (px_hr (by omega) (by decide)) ⟨Nat.le_refl 0, Nat.le_refl 0⟩ (Nat.le_of_ble_eq_true rfl) ?_
        refine V0_istore_3 (pc := 29) dX12_byTurns_29 (by decide) rfl ?_
        refine V0_iload_n (pc := 30) dX12_byTurns_30 rfl ?_
        refine V0_if_ne (pc := 31) 36 dX12_byTurns_31 (by decide) (fun h31 => ?_) (fun h31 => ?_)
        · skip
          refine V0_aload_n (pc := 36) dX12_byTurns_36 rfl ?_
          refine V0_iconst (pc := 37) (0) dX12_byTurns_37 (by decide) ?_
          refine V0_iload_n (pc := 38) dX12_byTurns_38 rfl ?_
          refine V0_iconst (pc := 39) (1) dX12_byTurns_39 (by decide) ?_
          refine V0_isub (pc := 40) dX12_byTurns_40 ?_
          rw [nI_pred]
          refine V0_iconst (pc := 41) (0) dX12_byTurns_41 (by decide) ?_
          refine V_callVi (pc := 42) (M' := mX12_bestOf) dX12_byTurns_42 mlX12_359 okX12_bestOf rfl hc0 rfl rfl rfl rfl (px_hr (by omega) (by decide)) ⟨Nat.le_refl 0, Nat.le_refl 0⟩ (Nat.le_of_ble_eq_true rfl) ?_
          refine V0_iload_n (pc := 45) dX12_byTurns_45 rfl ?_
          refine V0_icmp_ne (pc := 46) 52 dX12_byTurns_46 (by decide) (fun h46 => ?_) (fun h46 => ?_)
          · skip
            refine V0_iconst (pc := 52) (0) dX12_byTurns_52 (by decide) ?_
            refine V0_istore_4 (pc := 53) dX12_byTurns_53 (by decide) rfl ?_
            exact lp_X12_byTurns hm hm7 hk m 0 (by omega) ⟨by rw [if_pos z, e, m_bt, if_neg h31, if_neg h46], rfl, rfl⟩
          · skip
            refine V0_bipush (pc := 49) (9) dX12_byTurns_49 (by decide) ?_
            refine V_reti (pc := 51) _ dX12_byTurns_51 rfl ?_
            refine px_li ?_
            rw [if_pos z, e, m_bt, if_neg h31, if_pos h46]
        · skip
          refine V0_iload_n (pc := 34) dX12_byTurns_34 rfl ?_
          refine V_reti (pc := 35) _ dX12_byTurns_35 rfl ?_
          refine px_li ?_
          rw [if_pos z, e, m_bt, if_pos h31]
      · skip
        exact absurd (z.2.symm.trans (show s_within w 0 1 = false from h15)) (by decide)
  · refine Ct.of plX12_byTurns (Nat.le_of_ble_eq_true rfl) [.ref 54, .int x, .int w, .null, .null] rfl ?_
    refine V0_iload_n (pc := 0) dX12_byTurns_0 rfl ?_
    refine V0_iconst (pc := 1) (1) dX12_byTurns_1 (by decide) ?_
    refine V0_iconst (pc := 2) (4) dX12_byTurns_2 (by decide) ?_
    refine V_callSi (pc := 3) (M' := mX12_in) dX12_byTurns_3 mlX12_131 okX12_in rfl c_X12_in rfl rfl ⟨Nat.le_of_ble_eq_true rfl, Nat.le_of_ble_eq_true rfl⟩ ⟨Nat.le_refl 0, Nat.le_refl 0⟩ (Nat.le_of_ble_eq_true rfl) ?_
    refine V_ifeqb (pc := 6) 18 dX12_byTurns_6 (by decide) (fun h6 => ?_) (fun h6 => ?_)
    · skip
      refine V0_ldcw (pc := 18) dX12_byTurns_18 csX12_363 ?_
      refine V_reti (pc := 21) _ dX12_byTurns_21 rfl ?_
      refine px_li ?_
      rw [if_neg z] <;> rfl
    · skip
      refine V0_iload_n (pc := 9) dX12_byTurns_9 rfl ?_
      refine V0_iconst (pc := 10) (0) dX12_byTurns_10 (by decide) ?_
      refine V0_iconst (pc := 11) (1) dX12_byTurns_11 (by decide) ?_
      refine V_callSi (pc := 12) (M' := mX12_in) dX12_byTurns_12 mlX12_131 okX12_in rfl c_X12_in rfl rfl ⟨Nat.le_of_ble_eq_true rfl, Nat.le_of_ble_eq_true rfl⟩ ⟨Nat.le_refl 0, Nat.le_refl 0⟩ (Nat.le_of_ble_eq_true rfl) ?_
      refine V_ifneb (pc := 15) 22 dX12_byTurns_15 (by decide) (fun h15 => ?_) (fun h15 => ?_)
      · skip
        exact absurd ⟨h6, h15⟩ z
      · skip
        refine V0_ldcw (pc := 18) dX12_byTurns_18 csX12_363 ?_
        refine V_reti (pc := 21) _ dX12_byTurns_21 rfl ?_
        refine px_li ?_
        rw [if_neg z] <;> rfl

