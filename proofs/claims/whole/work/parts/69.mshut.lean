/-! the Model: shutters -/
def m_rf (I : px_I) (x : Int32) : Int32 := if I 88 (ix x) = -1 then -11 else if I 88 (ix x) = -2 then 0 else -12
theorem c_X12_rowFault {l : Launch} {I : px_I} {J : px_J} {s : Nat} (hs : s < 6) : CtI l mX12_rowFault 0 [.ref 54, .int (nI s)] I J (m_rf I (nI s)) := by
  have e : ix (nI s) = s := ix_nI (by omega)
  refine Ct.of plX12_rowFault (Nat.le_of_ble_eq_true rfl) [.ref 54, .int (nI s)] rfl ?_
  refine V0_aload_n (pc := 0) dX12_rowFault_0 rfl ?_
  refine V_getr (pc := 1) dX12_rowFault_1 flX12_111 rfl rfl ?_
  refine V0_iload_n (pc := 4) dX12_rowFault_4 rfl ?_
  refine V_iald (pc := 5) (s) dX12_rowFault_5 rfl rfl (by omega) ?_
  refine V0_iconst (pc := 6) (-1) dX12_rowFault_6 (by decide) ?_
  refine V0_icmp_ne (pc := 7) 15 dX12_rowFault_7 (by decide) (fun h7 => ?_) (fun h7 => ?_)
  · skip
    refine V0_aload_n (pc := 15) dX12_rowFault_15 rfl ?_
    refine V_getr (pc := 16) dX12_rowFault_16 flX12_111 rfl rfl ?_
    refine V0_iload_n (pc := 19) dX12_rowFault_19 rfl ?_
    refine V_iald (pc := 20) (s) dX12_rowFault_20 rfl rfl (by omega) ?_
    refine V0_bipush (pc := 21) (-2) dX12_rowFault_21 (by decide) ?_
    refine V0_icmp_ne (pc := 23) 30 dX12_rowFault_23 (by decide) (fun h23 => ?_) (fun h23 => ?_)
    · skip
      refine V0_bipush (pc := 30) (-12) dX12_rowFault_30 (by decide) ?_
      refine V_reti (pc := 32) _ dX12_rowFault_32 rfl ?_
      refine px_li ?_
      simp [m_rf, e, *]
    · skip
      refine V0_iconst (pc := 26) (0) dX12_rowFault_26 (by decide) ?_
      refine V0_goto (pc := 27) 32 dX12_rowFault_27 (by decide) ?_
      refine V_reti (pc := 32) _ dX12_rowFault_32 rfl ?_
      refine px_li ?_
      simp [m_rf, e, *]
  · skip
    refine V0_bipush (pc := 10) (-11) dX12_rowFault_10 (by decide) ?_
    refine V0_goto (pc := 12) 32 dX12_rowFault_12 (by decide) ?_
    refine V_reti (pc := 32) _ dX12_rowFault_32 rfl ?_
    refine px_li ?_
    simp [m_rf, e, *]
def m_el (J : px_J) (s k : Nat) : Int32 := (J 90 (60 * s + k)).toInt32
theorem c_X12_at {l : Launch} {I : px_I} {J : px_J} {s k : Nat} (hs : 60 * s + k < 360) : CtI l mX12_at 0 [.ref 54, .int (nI s), .int (nI k)] I J (m_el J s k) := by
  refine Ct.of plX12_at (Nat.le_of_ble_eq_true rfl) [.ref 54, .int (nI s), .int (nI k)] rfl ?_
  refine V0_aload_n (pc := 0) dX12_at_0 rfl ?_
  refine V_getr (pc := 1) dX12_at_1 flX12_117 rfl rfl ?_
  refine V0_bipush (pc := 4) (60) dX12_at_4 (by decide) ?_
  refine V0_iload_n (pc := 6) dX12_at_6 rfl ?_
  refine V0_imul (pc := 7) dX12_at_7 ?_
  refine V0_iload_n (pc := 8) dX12_at_8 rfl ?_
  refine V0_iadd (pc := 9) dX12_at_9 ?_
  refine V_lald (pc := 10) (60 * s + k) dX12_at_10 rfl (by rw [show (60 : Int32) = nI 60 from rfl, qI_mul, qI_add]) hs ?_
  refine V0_l2i (pc := 11) dX12_at_11 ?_
  refine V_reti (pc := 12) _ dX12_at_12 rfl ?_
  refine px_li ?_
  rfl
def m_bad (S : px_I) (J : px_J) (s m n one j : Nat) : Bool := !decide (m_el J s j = 9) && !decide (m_el J s j = b2 (m_gp (m_days m n S j) n one))
def m_lim (z : Nat) : Nat := if 41 < z then 41 else z
def m_wd (I : px_I) (J : px_J) (s z m n one : Nat) : Int32 := s_first (m_bad (m_lay I m n) J s m n one) (m_lim z) 0
theorem lp_X12_wrongDay {l : Launch} {S : px_I} {J : px_J} {m n s z one : Nat} {v4 : Value} {Q : px_Q} (hS : m_ok S m n) (hs : s < 6) (hz : S 89 s = nI z) (hz60 : z ≤ 60) (ho : one < m) : ∀ (f j : Nat), j + f = m_lim z → ∀ v4 : Value, (∀ i, Q (some (.int (s_first (m_bad S J s m n one) f j))) (m_days m n S i) J) → V0 l (px_rm 4 0 0) mX12_wrongDay (false, []) 0 0 6 [.ref 54, .int (nI s), .int (nI one), .int (nI j), v4] [] (px_mk (m_days m n S j) J) (px_q Q) := by
  have hm7 := hS.2.1
  have hL : m_lim z ≤ 41 ∧ m_lim z ≤ z ∧ (m_lim z = 41 ∨ m_lim z = z) := by unfold m_lim; split <;> omega
  intro f
  induction f with
  | zero =>
    intro j h1 v4 hQ
    have hok := m_ok_days (k := j) hS
    have r89 : m_days m n S j 89 = S 89 := m_days_row (by omega) (by omega) (by omega)
    refine V0_iload_n (pc := 6) dX12_wrongDay_6 rfl ?_
    refine V0_bipush (pc := 7) (41) dX12_wrongDay_7 (by decide) ?_
    refine V1_icmp_ge (pc := 9) 74 dX12_wrongDay_9 (by decide) (fun h9 => ?_) (fun h9 => ?_)
    · skip
      refine V0_bipush (pc := 74) (-2) dX12_wrongDay_74 (by decide) ?_
      refine V_reti (pc := 76) _ dX12_wrongDay_76 rfl ?_
      exact hQ j
    · skip
      refine V0_iload_n (pc := 12) dX12_wrongDay_12 rfl ?_
      refine V0_aload_n (pc := 13) dX12_wrongDay_13 rfl ?_
      refine V_getr (pc := 14) dX12_wrongDay_14 flX12_114 rfl rfl ?_
      refine V0_iload_n (pc := 17) dX12_wrongDay_17 rfl ?_
      refine V_iald (pc := 18) (s) dX12_wrongDay_18 rfl rfl (by omega) ?_
      rw [r89, hz]
      refine V1_icmp_ge (pc := 19) 74 dX12_wrongDay_19 (by decide) (fun h19 => ?_) (fun h19 => ?_)
      · skip
        refine V0_bipush (pc := 74) (-2) dX12_wrongDay_74 (by decide) ?_
        refine V_reti (pc := 76) _ dX12_wrongDay_76 rfl ?_
        exact hQ j
      · skip
        exact absurd (px_ltc 41 rfl h9 (by omega) (by omega)) (by have := px_lt h19 (by omega) (by omega); omega)
  | succ f ih =>
    intro j h1 v4 hQ
    have hok := m_ok_days (k := j) hS
    have r89 : m_days m n S j 89 = S 89 := m_days_row (by omega) (by omega) (by omega)
    have hlt : nI j < (41 : Int32) := (qI_lt (a := j) (b := 41) (by omega) (by omega)).mpr (by omega)
    have hlz : nI j < nI z := (qI_lt (by omega) (by omega)).mpr (by omega)
    refine V0_iload_n (pc := 6) dX12_wrongDay_6 rfl ?_
    refine V0_bipush (pc := 7) (41) dX12_wrongDay_7 (by decide) ?_
    refine V1_icmp_ge (pc := 9) 74 dX12_wrongDay_9 (by decide) (fun h9 => ?_) (fun h9 => ?_)
    · skip
      exact absurd hlt h9
    · skip
      refine V0_iload_n (pc := 12) dX12_wrongDay_12 rfl ?_
      refine V0_aload_n (pc := 13) dX12_wrongDay_13 rfl ?_
      refine V_getr (pc := 14) dX12_wrongDay_14 flX12_114 rfl rfl ?_
      refine V0_iload_n (pc := 17) dX12_wrongDay_17 rfl ?_
      refine V_iald (pc := 18) (s) dX12_wrongDay_18 rfl rfl (by omega) ?_
      rw [r89, hz]
      refine V1_icmp_ge (pc := 19) 74 dX12_wrongDay_19 (by decide) (fun h19 => ?_) (fun h19 => ?_)
      · skip
        exact absurd hlz h19
      · skip
        refine V0_aload_n (pc := 22) dX12_wrongDay_22 rfl ?_
        refine V_callVi (pc := 23) (M' := mX12_gladPeople) dX12_wrongDay_23 mlX12_325 okX12_gladPeople rfl (c_X12_gladPeople hok) rfl rfl rfl rfl ⟨Nat.le_of_ble_eq_true rfl, Nat.le_of_ble_eq_true rfl⟩ ⟨Nat.le_refl 0, Nat.le_refl 0⟩ (Nat.le_of_ble_eq_true rfl) ?_
        refine V0_iload_n (pc := 26) dX12_wrongDay_26 rfl ?_
        skip
        refine V_callSi (pc := 27) (M' := mX12_has) dX12_wrongDay_27 mlX12_292 okX12_has rfl c_X12_has rfl rfl ⟨Nat.le_of_ble_eq_true rfl, Nat.le_of_ble_eq_true rfl⟩ ⟨Nat.le_refl 0, Nat.le_refl 0⟩ (Nat.le_of_ble_eq_true rfl) ?_
        refine V_ifeqb (pc := 30) 37 dX12_wrongDay_30 (by decide) (fun h30 => ?_) (fun h30 => ?_)
        · skip
          refine V0_iconst (pc := 37) (0) dX12_wrongDay_37 (by decide) ?_
          refine V0_istore_4 (pc := 38) dX12_wrongDay_38 (by decide) rfl ?_
          refine V_ls (ls' := [.ref 54, .int (nI s), .int (nI one), .int (nI j), .int (b2 (m_gp (m_days m n S j) n one))]) (by rw [s_bits_has (by omega) ho] at h30; rw [h30]; rfl) ?_
          refine V0_aload_n (pc := 40) dX12_wrongDay_40 rfl ?_
          refine V0_iload_n (pc := 41) dX12_wrongDay_41 rfl ?_
          refine V0_iload_n (pc := 42) dX12_wrongDay_42 rfl ?_
          refine V_callVi (pc := 43) (M' := mX12_at) dX12_wrongDay_43 mlX12_337 okX12_at rfl (c_X12_at (by omega)) rfl rfl rfl rfl ⟨Nat.le_of_ble_eq_true rfl, Nat.le_of_ble_eq_true rfl⟩ ⟨Nat.le_refl 0, Nat.le_refl 0⟩ (Nat.le_of_ble_eq_true rfl) ?_
          refine V0_bipush (pc := 46) (9) dX12_wrongDay_46 (by decide) ?_
          refine V0_icmp_eq (pc := 48) 64 dX12_wrongDay_48 (by decide) (fun h48 => ?_) (fun h48 => ?_)
          · skip
            refine V0_aload_n (pc := 64) dX12_wrongDay_64 rfl ?_
            refine V_callV (pc := 65) (M' := mX12_goDay) dX12_wrongDay_65 mlX12_319 okX12_goDay rfl (c_X12_goDay hok) rfl rfl rfl rfl ⟨Nat.le_of_ble_eq_true rfl, Nat.le_of_ble_eq_true rfl⟩ ⟨Nat.le_refl 0, Nat.le_refl 0⟩ (Nat.le_of_ble_eq_true rfl) ?_
            intro r1 I1 J1 hh
            obtain ⟨e1, e2, e3⟩ := hh
            rw [e1, e2, e3]
            clear e1 e2 e3 r1 I1 J1
            refine V0_iinc_3 (pc := 68) (nI (j + 1)) dX12_wrongDay_68 (by decide) rfl (nI_1 _) ?_
            refine V0_goto (pc := 71) 6 dX12_wrongDay_71 (by decide) ?_
            refine ih (j + 1) (by omega) _ (fun i => ?_)
            have hb : ¬ m_bad S J s m n one j = true := by first | (simp [m_bad, h48]; done) | (simp [m_bad, h59]; done)
            have := hQ i
            rw [s_first, if_neg hb] at this
            exact this
          · skip
            refine V0_aload_n (pc := 51) dX12_wrongDay_51 rfl ?_
            refine V0_iload_n (pc := 52) dX12_wrongDay_52 rfl ?_
            refine V0_iload_n (pc := 53) dX12_wrongDay_53 rfl ?_
            refine V_callVi (pc := 54) (M' := mX12_at) dX12_wrongDay_54 mlX12_337 okX12_at rfl (c_X12_at (by omega)) rfl rfl rfl rfl ⟨Nat.le_of_ble_eq_true rfl, Nat.le_of_ble_eq_true rfl⟩ ⟨Nat.le_refl 0, Nat.le_refl 0⟩ (Nat.le_of_ble_eq_true rfl) ?_
            refine V0_iload (pc := 57) dX12_wrongDay_57 rfl ?_
            refine V0_icmp_eq (pc := 59) 64 dX12_wrongDay_59 (by decide) (fun h59 => ?_) (fun h59 => ?_)
            · skip
              refine V0_aload_n (pc := 64) dX12_wrongDay_64 rfl ?_
              refine V_callV (pc := 65) (M' := mX12_goDay) dX12_wrongDay_65 mlX12_319 okX12_goDay rfl (c_X12_goDay hok) rfl rfl rfl rfl ⟨Nat.le_of_ble_eq_true rfl, Nat.le_of_ble_eq_true rfl⟩ ⟨Nat.le_refl 0, Nat.le_refl 0⟩ (Nat.le_of_ble_eq_true rfl) ?_
              intro r1 I1 J1 hh
              obtain ⟨e1, e2, e3⟩ := hh
              rw [e1, e2, e3]
              clear e1 e2 e3 r1 I1 J1
              refine V0_iinc_3 (pc := 68) (nI (j + 1)) dX12_wrongDay_68 (by decide) rfl (nI_1 _) ?_
              refine V0_goto (pc := 71) 6 dX12_wrongDay_71 (by decide) ?_
              refine ih (j + 1) (by omega) _ (fun i => ?_)
              have hb : ¬ m_bad S J s m n one j = true := by first | (simp [m_bad, h48]; done) | (simp [m_bad, h59]; done)
              have := hQ i
              rw [s_first, if_neg hb] at this
              exact this
            · skip
              have hb : m_bad S J s m n one j = true := by rw [m_bad, decide_eq_false h48, decide_eq_false h59]; rfl
              refine V0_iload_n (pc := 62) dX12_wrongDay_62 rfl ?_
              refine V_reti (pc := 63) _ dX12_wrongDay_63 rfl ?_
              have := hQ j
              rw [s_first, if_pos hb] at this
              exact this
        · skip
          refine V0_iconst (pc := 33) (1) dX12_wrongDay_33 (by decide) ?_
          refine V0_goto (pc := 34) 38 dX12_wrongDay_34 (by decide) ?_
          refine V0_istore_4 (pc := 38) dX12_wrongDay_38 (by decide) rfl ?_
          refine V_ls (ls' := [.ref 54, .int (nI s), .int (nI one), .int (nI j), .int (b2 (m_gp (m_days m n S j) n one))]) (by rw [s_bits_has (by omega) ho] at h30; rw [h30]; rfl) ?_
          refine V0_aload_n (pc := 40) dX12_wrongDay_40 rfl ?_
          refine V0_iload_n (pc := 41) dX12_wrongDay_41 rfl ?_
          refine V0_iload_n (pc := 42) dX12_wrongDay_42 rfl ?_
          refine V_callVi (pc := 43) (M' := mX12_at) dX12_wrongDay_43 mlX12_337 okX12_at rfl (c_X12_at (by omega)) rfl rfl rfl rfl ⟨Nat.le_of_ble_eq_true rfl, Nat.le_of_ble_eq_true rfl⟩ ⟨Nat.le_refl 0, Nat.le_refl 0⟩ (Nat.le_of_ble_eq_true rfl) ?_
          refine V0_bipush (pc := 46) (9) dX12_wrongDay_46 (by decide) ?_
          refine V0_icmp_eq (pc := 48) 64 dX12_wrongDay_48 (by decide) (fun h48 => ?_) (fun h48 => ?_)
          · skip
            refine V0_aload_n (pc := 64) dX12_wrongDay_64 rfl ?_
            refine V_callV (pc := 65) (M' := mX12_goDay) dX12_wrongDay_65 mlX12_319 okX12_goDay rfl (c_X12_goDay hok) rfl rfl rfl rfl ⟨Nat.le_of_ble_eq_true rfl, Nat.le_of_ble_eq_true rfl⟩ ⟨Nat.le_refl 0, Nat.le_refl 0⟩ (Nat.le_of_ble_eq_true rfl) ?_
            intro r1 I1 J1 hh
            obtain ⟨e1, e2, e3⟩ := hh
            rw [e1, e2, e3]
            clear e1 e2 e3 r1 I1 J1
            refine V0_iinc_3 (pc := 68) (nI (j + 1)) dX12_wrongDay_68 (by decide) rfl (nI_1 _) ?_
            refine V0_goto (pc := 71) 6 dX12_wrongDay_71 (by decide) ?_
            refine ih (j + 1) (by omega) _ (fun i => ?_)
            have hb : ¬ m_bad S J s m n one j = true := by first | (simp [m_bad, h48]; done) | (simp [m_bad, h59]; done)
            have := hQ i
            rw [s_first, if_neg hb] at this
            exact this
          · skip
            refine V0_aload_n (pc := 51) dX12_wrongDay_51 rfl ?_
            refine V0_iload_n (pc := 52) dX12_wrongDay_52 rfl ?_
            refine V0_iload_n (pc := 53) dX12_wrongDay_53 rfl ?_
            refine V_callVi (pc := 54) (M' := mX12_at) dX12_wrongDay_54 mlX12_337 okX12_at rfl (c_X12_at (by omega)) rfl rfl rfl rfl ⟨Nat.le_of_ble_eq_true rfl, Nat.le_of_ble_eq_true rfl⟩ ⟨Nat.le_refl 0, Nat.le_refl 0⟩ (Nat.le_of_ble_eq_true rfl) ?_
            refine V0_iload (pc := 57) dX12_wrongDay_57 rfl ?_
            refine V0_icmp_eq (pc := 59) 64 dX12_wrongDay_59 (by decide) (fun h59 => ?_) (fun h59 => ?_)
            · skip
              refine V0_aload_n (pc := 64) dX12_wrongDay_64 rfl ?_
              refine V_callV (pc := 65) (M' := mX12_goDay) dX12_wrongDay_65 mlX12_319 okX12_goDay rfl (c_X12_goDay hok) rfl rfl rfl rfl ⟨Nat.le_of_ble_eq_true rfl, Nat.le_of_ble_eq_true rfl⟩ ⟨Nat.le_refl 0, Nat.le_refl 0⟩ (Nat.le_of_ble_eq_true rfl) ?_
              intro r1 I1 J1 hh
              obtain ⟨e1, e2, e3⟩ := hh
              rw [e1, e2, e3]
              clear e1 e2 e3 r1 I1 J1
              refine V0_iinc_3 (pc := 68) (nI (j + 1)) dX12_wrongDay_68 (by decide) rfl (nI_1 _) ?_
              refine V0_goto (pc := 71) 6 dX12_wrongDay_71 (by decide) ?_
              refine ih (j + 1) (by omega) _ (fun i => ?_)
              have hb : ¬ m_bad S J s m n one j = true := by first | (simp [m_bad, h48]; done) | (simp [m_bad, h59]; done)
              have := hQ i
              rw [s_first, if_neg hb] at this
              exact this
            · skip
              have hb : m_bad S J s m n one j = true := by rw [m_bad, decide_eq_false h48, decide_eq_false h59]; rfl
              refine V0_iload_n (pc := 62) dX12_wrongDay_62 rfl ?_
              refine V_reti (pc := 63) _ dX12_wrongDay_63 rfl ?_
              have := hQ j
              rw [s_first, if_pos hb] at this
              exact this
theorem c_X12_wrongDay {l : Launch} {I : px_I} {J : px_J} {m n s z one : Nat} (hk : m_ok I m n) (hs : s < 6) (hz : I 89 s = nI z) (hz60 : z ≤ 60) (ho : one < m) : Ct l mX12_wrongDay 4 [.ref 54, .int (nI s), .int (nI one)] I J (fun r I' J' => r = some (.int (m_wd I J s z m n one)) ∧ (∃ i, I' = m_days m n (m_lay I m n) i) ∧ J' = J) := by
  refine Ct.of plX12_wrongDay (Nat.le_of_ble_eq_true rfl) [.ref 54, .int (nI s), .int (nI one), .null, .null] rfl ?_
  refine V0_aload_n (pc := 0) dX12_wrongDay_0 rfl ?_
  refine V_callV (pc := 1) (M' := mX12_layNow) dX12_wrongDay_1 mlX12_304 okX12_layNow rfl (c_X12_layNow hk) rfl rfl rfl rfl ⟨Nat.le_of_ble_eq_true rfl, Nat.le_of_ble_eq_true rfl⟩ ⟨Nat.le_refl 0, Nat.le_refl 0⟩ (Nat.le_of_ble_eq_true rfl) ?_
  intro r1 I1 J1 hh
  obtain ⟨e1, e2, e3⟩ := hh
  rw [e1, e2, e3]
  clear e1 e2 e3 r1 I1 J1
  refine V0_iconst (pc := 4) (0) dX12_wrongDay_4 (by decide) ?_
  refine V0_istore_3 (pc := 5) dX12_wrongDay_5 (by decide) rfl ?_
  exact lp_X12_wrongDay (v4 := .null) hk.lay hs ((congrFun (m_lay_row (by omega) (by omega)) s).trans hz) hz60 ho (m_lim z) 0 (by omega) _ (fun i => ⟨rfl, ⟨i, rfl⟩, rfl⟩)
/-- sizes -/
def m_szok (I : px_I) : Prop := ∀ s, s < 6 → I 89 s = nI (ix (I 89 s)) ∧ ix (I 89 s) ≤ 60
abbrev m_z (I : px_I) (x : Int32) : Nat := ix (I 89 (ix x))
theorem c_X12_judge {l : Launch} {I : px_I} {J : px_J} {x y : Int32} {m n : Nat} (hk : m_ok I m n) (hz : m_szok I) : Ct l mX12_judge 5 [.ref 54, .int x, .int y] I J (fun r I' J' => r = some (.int (if s_within x 0 5 = true ∧ m_one I y = true then (if m_rf I x < 0 then m_rf I x else m_wd I J (ix x) (m_z I x) m n (ix y)) else -1)) ∧ m_sd m n I I' ∧ J' = J) := by
  have hm7 := hk.2.1
  by_cases z : s_within x 0 5 = true ∧ m_one I y = true
  · have hx := w_ixc (m := 5) (by omega) rfl z.1
    have hy := m_one_ix hk.1 hk.2.1 z.2
    have hc := c_X12_rowFault (l := l) (I := I) (J := J) (s := ix x) (by omega)
    rw [← hx.1] at hc
    have hw := c_X12_wrongDay (l := l) (I := I) (J := J) (s := ix x) (one := ix y) hk (by omega) (hz (ix x) (by omega)).1 (hz (ix x) (by omega)).2 hy.2
    rw [← hx.1, ← hy.1] at hw
    refine Ct.of plX12_judge (Nat.le_of_ble_eq_true rfl) [.ref 54, .int x, .int y] rfl ?_
    refine V0_iload_n (pc := 0) dX12_judge_0 rfl ?_
    refine V_callSi (pc := 1) (M' := mX12_isShelf) dX12_judge_1 mlX12_149 okX12_isShelf rfl c_X12_isShelf rfl rfl ⟨Nat.le_of_ble_eq_true rfl, Nat.le_of_ble_eq_true rfl⟩ ⟨Nat.le_refl 0, Nat.le_refl 0⟩ (Nat.le_of_ble_eq_true rfl) ?_
    refine V_ifeqb (pc := 4) 15 dX12_judge_4 (by decide) (fun h4 => ?_) (fun h4 => ?_)
    · skip
      exact absurd (z.1.symm.trans (show s_within x 0 5 = false from h4)) (by decide)
    · skip
      refine V0_aload_n (pc := 7) dX12_judge_7 rfl ?_
      refine V0_iload_n (pc := 8) dX12_judge_8 rfl ?_
      refine V_callVi (pc := 9) (M' := mX12_isOne) dX12_judge_9 mlX12_142 okX12_isOne rfl c_X12_isOne rfl rfl rfl rfl ⟨Nat.le_of_ble_eq_true rfl, Nat.le_of_ble_eq_true rfl⟩ ⟨Nat.le_refl 0, Nat.le_refl 0⟩ (Nat.le_of_ble_eq_true rfl) ?_
      refine V_ifneb (pc := 12) 17 dX12_judge_12 (by decide) (fun h12 => ?_) (fun h12 => ?_)
      · skip
        refine V0_aload_n (pc := 17) dX12_judge_17 rfl ?_
        refine V0_iload_n (pc := 18) dX12_judge_18 rfl ?_
        refine V_callVi (pc := 19) (M' := mX12_rowFault) dX12_judge_19 mlX12_340 okX12_rowFault rfl hc rfl rfl rfl rfl ⟨Nat.le_of_ble_eq_true rfl, Nat.le_of_ble_eq_true rfl⟩ ⟨Nat.le_refl 0, Nat.le_refl 0⟩ (Nat.le_of_ble_eq_true rfl) ?_
        refine V1_if_ge (pc := 22) 33 dX12_judge_22 (by decide) (fun h22 => ?_) (fun h22 => ?_)
        · skip
          refine V0_aload_n (pc := 33) dX12_judge_33 rfl ?_
          refine V0_iload_n (pc := 34) dX12_judge_34 rfl ?_
          refine V0_iload_n (pc := 35) dX12_judge_35 rfl ?_
          refine V_callV (pc := 36) (M' := mX12_wrongDay) dX12_judge_36 mlX12_343 okX12_wrongDay rfl hw rfl rfl rfl rfl ⟨Nat.le_of_ble_eq_true rfl, Nat.le_of_ble_eq_true rfl⟩ ⟨Nat.le_refl 0, Nat.le_refl 0⟩ (Nat.le_of_ble_eq_true rfl) ?_
          intro r1 I1 J1 hh
          obtain ⟨e1, ⟨i, e2⟩, e3⟩ := hh
          rw [e1, e2, e3]
          clear e1 e3 J1 r1
          refine V_reti (pc := 39) _ dX12_judge_39 rfl ?_
          first | exact ⟨by rw [if_pos z, if_pos h22], m_sd_refl, rfl⟩ | exact ⟨by rw [if_pos z, if_neg h22], m_sd_lay.tr (m_sd_days i), rfl⟩
        · skip
          refine V0_aload_n (pc := 25) dX12_judge_25 rfl ?_
          refine V0_iload_n (pc := 26) dX12_judge_26 rfl ?_
          refine V_callVi (pc := 27) (M' := mX12_rowFault) dX12_judge_27 mlX12_340 okX12_rowFault rfl hc rfl rfl rfl rfl ⟨Nat.le_of_ble_eq_true rfl, Nat.le_of_ble_eq_true rfl⟩ ⟨Nat.le_refl 0, Nat.le_refl 0⟩ (Nat.le_of_ble_eq_true rfl) ?_
          refine V0_goto (pc := 30) 39 dX12_judge_30 (by decide) ?_
          refine V_reti (pc := 39) _ dX12_judge_39 rfl ?_
          first | exact ⟨by rw [if_pos z, if_pos h22], m_sd_refl, rfl⟩ | exact ⟨by rw [if_pos z, if_neg h22], m_sd_lay.tr (m_sd_days i), rfl⟩
      · skip
        exact absurd (z.2.symm.trans (show m_one I y = false from h12)) (by decide)
  · refine Ct.of plX12_judge (Nat.le_of_ble_eq_true rfl) [.ref 54, .int x, .int y] rfl ?_
    refine V0_iload_n (pc := 0) dX12_judge_0 rfl ?_
    refine V_callSi (pc := 1) (M' := mX12_isShelf) dX12_judge_1 mlX12_149 okX12_isShelf rfl c_X12_isShelf rfl rfl ⟨Nat.le_of_ble_eq_true rfl, Nat.le_of_ble_eq_true rfl⟩ ⟨Nat.le_refl 0, Nat.le_refl 0⟩ (Nat.le_of_ble_eq_true rfl) ?_
    refine V_ifeqb (pc := 4) 15 dX12_judge_4 (by decide) (fun h4 => ?_) (fun h4 => ?_)
    · skip
      refine V0_iconst (pc := 15) (-1) dX12_judge_15 (by decide) ?_
      refine V_reti (pc := 16) _ dX12_judge_16 rfl ?_
      exact ⟨by rw [if_neg z] <;> rfl, m_sd_refl, rfl⟩
    · skip
      refine V0_aload_n (pc := 7) dX12_judge_7 rfl ?_
      refine V0_iload_n (pc := 8) dX12_judge_8 rfl ?_
      refine V_callVi (pc := 9) (M' := mX12_isOne) dX12_judge_9 mlX12_142 okX12_isOne rfl c_X12_isOne rfl rfl rfl rfl ⟨Nat.le_of_ble_eq_true rfl, Nat.le_of_ble_eq_true rfl⟩ ⟨Nat.le_refl 0, Nat.le_refl 0⟩ (Nat.le_of_ble_eq_true rfl) ?_
      refine V_ifneb (pc := 12) 17 dX12_judge_12 (by decide) (fun h12 => ?_) (fun h12 => ?_)
      · skip
        exact absurd ⟨h4, h12⟩ z
      · skip
        refine V0_iconst (pc := 15) (-1) dX12_judge_15 (by decide) ?_
        refine V_reti (pc := 16) _ dX12_judge_16 rfl ?_
        exact ⟨by rw [if_neg z] <;> rfl, m_sd_refl, rfl⟩
def m_fits (I : px_I) (J : px_J) (s z m n one q jy : Nat) : Nat → Int32 × Int32
  | 0 => (0, -2)
  | v + 1 => if m_wd (px_up I q jy (nI v)) J s z m n one < 0 then ((m_fits I J s z m n one q jy v).1 + 1, if (m_fits I J s z m n one q jy v).1 = 0 then nI v else (m_fits I J s z m n one q jy v).2) else m_fits I J s z m n one q jy v
theorem lp_X12_dues {l : Launch} {I : px_I} {J : px_J} {m n s z one jy : Nat} {b : Bool} {Q : px_Q} (hk : m_ok I m n) (hs : s < 6) (hz : I 89 s = nI z) (hz60 : z ≤ 60) (ho : one < m) (hjy : jy < 10) (hQ : ∀ X, m_sd m n I X → Q (some (.int (if b = true then (m_fits I J s z m n one 57 jy 100).2 else (m_fits I J s z m n one 57 jy 100).1))) X J) : ∀ (f v : Nat), v + f = 100 → ∀ (X : px_I) (u : Int32), m_sd m n (px_up I 57 jy u) X → V0 l (px_rm 5 0 0) mX12_dues (false, []) 0 0 18 [.ref 54, .int (nI s), .int (nI one), .int (nI jy), .int (b2 b), .int (I 57 jy), .int (m_fits I J s z m n one 57 jy v).1, .int (m_fits I J s z m n one 57 jy v).2, .int (nI v)] [] (px_mk X J) (px_q Q) := by
  have hm7 := hk.2.1
  intro f
  induction f with
  | zero =>
    intro v h1 X u hsd
    obtain rfl : v = 100 := by omega
    have hX : m_sd m n I (px_up X 57 jy (I 57 jy)) := by
      have := hsd.up (q := 57) (k := jy) (x := I 57 jy) (by omega) (by omega) (by omega) (by omega)
      rw [m_up_up, m_up_id] at this
      exact this
    refine V0_iload (pc := 18) dX12_dues_18 rfl ?_
    refine V0_bipush (pc := 20) (99) dX12_dues_20 (by decide) ?_
    refine V0_icmp_gt (pc := 22) 63 dX12_dues_22 (by decide) (fun h22 => ?_) (fun h22 => ?_)
    · skip
      refine V0_aload_n (pc := 63) dX12_dues_63 rfl ?_
      refine V_getr (pc := 64) dX12_dues_64 flX12_16 rfl rfl ?_
      refine V0_iload_n (pc := 67) dX12_dues_67 rfl ?_
      refine V0_iload (pc := 68) dX12_dues_68 rfl ?_
      refine V_iast (pc := 70) (jy) dX12_dues_70 rfl rfl (by omega) ?_
      refine V0_iload (pc := 71) dX12_dues_71 rfl ?_
      refine V_ifeqb (pc := 73) 81 dX12_dues_73 (by decide) (fun h73 => ?_) (fun h73 => ?_)
      · skip
        refine V0_iload (pc := 81) dX12_dues_81 rfl ?_
        refine V_reti (pc := 83) _ dX12_dues_83 rfl ?_
        first | (rw [if_pos h73] at hQ; exact hQ _ hX) | (rw [if_neg (by rw [h73]; decide)] at hQ; exact hQ _ hX)
      · skip
        refine V0_iload (pc := 76) dX12_dues_76 rfl ?_
        refine V0_goto (pc := 78) 83 dX12_dues_78 (by decide) ?_
        refine V_reti (pc := 83) _ dX12_dues_83 rfl ?_
        first | (rw [if_pos h73] at hQ; exact hQ _ hX) | (rw [if_neg (by rw [h73]; decide)] at hQ; exact hQ _ hX)
    · skip
      exact absurd (show (99 : Int32) < nI 100 by decide) h22
  | succ f ih =>
    intro v h1 X u hsd
    have hgt : ¬ (99 : Int32) < nI v := fun q => absurd ((qI_lt (a := 99) (b := v) (by omega) (by omega)).mp q) (by omega)
    have hX : m_sd m n (px_up I 57 jy (nI v)) (px_up X 57 jy (nI v)) := by
      have := hsd.up (q := 57) (k := jy) (x := nI v) (by omega) (by omega) (by omega) (by omega)
      rw [m_up_up] at this
      exact this
    have hk1 : m_ok (px_up I 57 jy (nI v)) m n := m_ok_up hk (by omega) (by omega) (by omega)
    have hkX := hX.ok hk1
    have hzX : px_up X 57 jy (nI v) 89 s = nI z := (congrFun (hX.1 89 (by omega) (by omega) (by omega) (by omega)) s).trans ((congrFun (px_up_row (by omega)) s).trans hz)
    have hwd : m_wd (px_up X 57 jy (nI v)) J s z m n one = m_wd (px_up I 57 jy (nI v)) J s z m n one := by unfold m_wd; rw [hX.lay]
    have hs2 : ∀ i, m_sd m n (px_up I 57 jy (nI v)) (m_days m n (m_lay (px_up X 57 jy (nI v)) m n) i) := fun i => (hX.tr m_sd_lay).tr (m_sd_days i)
    have e1 : m_fits I J s z m n one 57 jy (v + 1) = if m_wd (px_up I 57 jy (nI v)) J s z m n one < 0 then ((m_fits I J s z m n one 57 jy v).1 + 1, if (m_fits I J s z m n one 57 jy v).1 = 0 then nI v else (m_fits I J s z m n one 57 jy v).2) else m_fits I J s z m n one 57 jy v := rfl
    refine V0_iload (pc := 18) dX12_dues_18 rfl ?_
    refine V0_bipush (pc := 20) (99) dX12_dues_20 (by decide) ?_
    refine V0_icmp_gt (pc := 22) 63 dX12_dues_22 (by decide) (fun h22 => ?_) (fun h22 => ?_)
    · skip
      exact absurd h22 hgt
    · skip
      refine V0_aload_n (pc := 25) dX12_dues_25 rfl ?_
      refine V_getr (pc := 26) dX12_dues_26 flX12_16 rfl rfl ?_
      refine V0_iload_n (pc := 29) dX12_dues_29 rfl ?_
      refine V0_iload (pc := 30) dX12_dues_30 rfl ?_
      refine V_iast (pc := 32) (jy) dX12_dues_32 rfl rfl (by omega) ?_
      refine V0_aload_n (pc := 33) dX12_dues_33 rfl ?_
      refine V0_iload_n (pc := 34) dX12_dues_34 rfl ?_
      refine V0_iload_n (pc := 35) dX12_dues_35 rfl ?_
      refine V_callV (pc := 36) (M' := mX12_wrongDay) dX12_dues_36 mlX12_343 okX12_wrongDay rfl (c_X12_wrongDay hkX hs hzX hz60 ho) rfl rfl rfl rfl ⟨Nat.le_of_ble_eq_true rfl, Nat.le_of_ble_eq_true rfl⟩ ⟨Nat.le_refl 0, Nat.le_refl 0⟩ (Nat.le_of_ble_eq_true rfl) ?_
      intro r1 I1 J1 hh
      obtain ⟨e1, ⟨i, e2⟩, e3⟩ := hh
      rw [e1, e2, e3]
      clear e1 e3 J1 r1 e2 I1
      rw [hwd]
      refine V0_if_lt (pc := 39) 45 dX12_dues_39 (by decide) (fun h39 => ?_) (fun h39 => ?_)
      · skip
        refine V0_iload (pc := 45) dX12_dues_45 rfl ?_
        refine V0_if_ne (pc := 47) 54 dX12_dues_47 (by decide) (fun h47 => ?_) (fun h47 => ?_)
        · skip
          have e2 := e1.trans (if_pos h39)
          refine V_ls (ls' := [.ref 54, .int (nI s), .int (nI one), .int (nI jy), .int (b2 b), .int (I 57 jy), .int (m_fits I J s z m n one 57 jy v).1, .int (if (m_fits I J s z m n one 57 jy v).1 = 0 then nI v else (m_fits I J s z m n one 57 jy v).2), .int (nI v)]) (by simp [h47]) ?_
          refine V0_iinc_6 (pc := 54) ((m_fits I J s z m n one 57 jy v).1 + 1) dX12_dues_54 (by decide) rfl rfl ?_
          refine V0_iinc_8 (pc := 57) (nI (v + 1)) dX12_dues_57 (by decide) rfl (nI_1 _) ?_
          refine V0_goto (pc := 60) 18 dX12_dues_60 (by decide) ?_
          exact V_ls (by rw [e2]) (ih (v + 1) (by omega) _ _ (hs2 i))
        · skip
          refine V0_iload (pc := 50) dX12_dues_50 rfl ?_
          refine V0_istore_7 (pc := 52) dX12_dues_52 (by decide) rfl ?_
          have e2 := e1.trans (if_pos h39)
          refine V_ls (ls' := [.ref 54, .int (nI s), .int (nI one), .int (nI jy), .int (b2 b), .int (I 57 jy), .int (m_fits I J s z m n one 57 jy v).1, .int (if (m_fits I J s z m n one 57 jy v).1 = 0 then nI v else (m_fits I J s z m n one 57 jy v).2), .int (nI v)]) (by simp [h47]) ?_
          refine V0_iinc_6 (pc := 54) ((m_fits I J s z m n one 57 jy v).1 + 1) dX12_dues_54 (by decide) rfl rfl ?_
          refine V0_iinc_8 (pc := 57) (nI (v + 1)) dX12_dues_57 (by decide) rfl (nI_1 _) ?_
          refine V0_goto (pc := 60) 18 dX12_dues_60 (by decide) ?_
          exact V_ls (by rw [e2]) (ih (v + 1) (by omega) _ _ (hs2 i))
      · skip
        have e2 := e1.trans (if_neg h39)
        refine V0_goto (pc := 42) 57 dX12_dues_42 (by decide) ?_
        refine V0_iinc_8 (pc := 57) (nI (v + 1)) dX12_dues_57 (by decide) rfl (nI_1 _) ?_
        refine V0_goto (pc := 60) 18 dX12_dues_60 (by decide) ?_
        exact V_ls (by rw [e2]) (ih (v + 1) (by omega) _ _ (hs2 i))
theorem c_X12_dues {l : Launch} {I : px_I} {J : px_J} {m n s z one jy : Nat} {b : Bool} (hk : m_ok I m n) (hs : s < 6) (hz : I 89 s = nI z) (hz60 : z ≤ 60) (ho : one < m) (hjy : jy < 10) : Ct l mX12_dues 5 [.ref 54, .int (nI s), .int (nI one), .int (nI jy), .int (b2 b)] I J (fun r I' J' => r = some (.int (if b = true then (m_fits I J s z m n one 57 jy 100).2 else (m_fits I J s z m n one 57 jy 100).1)) ∧ m_sd m n I I' ∧ J' = J) := by
  refine Ct.of plX12_dues (Nat.le_of_ble_eq_true rfl) [.ref 54, .int (nI s), .int (nI one), .int (nI jy), .int (b2 b), .null, .null, .null, .null] rfl ?_
  refine V0_aload_n (pc := 0) dX12_dues_0 rfl ?_
  refine V_getr (pc := 1) dX12_dues_1 flX12_16 rfl rfl ?_
  refine V0_iload_n (pc := 4) dX12_dues_4 rfl ?_
  refine V_iald (pc := 5) (jy) dX12_dues_5 rfl rfl (by omega) ?_
  refine V0_istore_5 (pc := 6) dX12_dues_6 (by decide) rfl ?_
  refine V0_iconst (pc := 8) (0) dX12_dues_8 (by decide) ?_
  refine V0_istore_6 (pc := 9) dX12_dues_9 (by decide) rfl ?_
  refine V0_bipush (pc := 11) (-2) dX12_dues_11 (by decide) ?_
  refine V0_istore_7 (pc := 13) dX12_dues_13 (by decide) rfl ?_
  refine V0_iconst (pc := 15) (0) dX12_dues_15 (by decide) ?_
  refine V0_istore_8 (pc := 16) dX12_dues_16 (by decide) rfl ?_
  exact lp_X12_dues hk hs hz hz60 ho hjy (fun X hX => ⟨rfl, hX, rfl⟩) 100 0 (by omega) I (I 57 jy) (by rw [m_up_id]; exact m_sd_refl)
theorem lp_X12_lates {l : Launch} {I : px_I} {J : px_J} {m n s z one jy : Nat} {b : Bool} {Q : px_Q} (hk : m_ok I m n) (hs : s < 6) (hz : I 89 s = nI z) (hz60 : z ≤ 60) (ho : one < m) (hjy : jy < 10) (hQ : ∀ X, m_sd m n I X → Q (some (.int (if b = true then (m_fits I J s z m n one 59 jy 41).2 else (m_fits I J s z m n one 59 jy 41).1))) X J) : ∀ (f v : Nat), v + f = 41 → ∀ (X : px_I) (u : Int32), m_sd m n (px_up I 59 jy u) X → V0 l (px_rm 5 0 0) mX12_lates (false, []) 0 0 18 [.ref 54, .int (nI s), .int (nI one), .int (nI jy), .int (b2 b), .int (I 59 jy), .int (m_fits I J s z m n one 59 jy v).1, .int (m_fits I J s z m n one 59 jy v).2, .int (nI v)] [] (px_mk X J) (px_q Q) := by
  have hm7 := hk.2.1
  intro f
  induction f with
  | zero =>
    intro v h1 X u hsd
    obtain rfl : v = 41 := by omega
    have hX : m_sd m n I (px_up X 59 jy (I 59 jy)) := by
      have := hsd.up (q := 59) (k := jy) (x := I 59 jy) (by omega) (by omega) (by omega) (by omega)
      rw [m_up_up, m_up_id] at this
      exact this
    refine V0_iload (pc := 18) dX12_lates_18 rfl ?_
    refine V0_bipush (pc := 20) (40) dX12_lates_20 (by decide) ?_
    refine V0_icmp_gt (pc := 22) 63 dX12_lates_22 (by decide) (fun h22 => ?_) (fun h22 => ?_)
    · skip
      refine V0_aload_n (pc := 63) dX12_lates_63 rfl ?_
      refine V_getr (pc := 64) dX12_lates_64 flX12_22 rfl rfl ?_
      refine V0_iload_n (pc := 67) dX12_lates_67 rfl ?_
      refine V0_iload (pc := 68) dX12_lates_68 rfl ?_
      refine V_iast (pc := 70) (jy) dX12_lates_70 rfl rfl (by omega) ?_
      refine V0_iload (pc := 71) dX12_lates_71 rfl ?_
      refine V_ifeqb (pc := 73) 81 dX12_lates_73 (by decide) (fun h73 => ?_) (fun h73 => ?_)
      · skip
        refine V0_iload (pc := 81) dX12_lates_81 rfl ?_
        refine V_reti (pc := 83) _ dX12_lates_83 rfl ?_
        first | (rw [if_pos h73] at hQ; exact hQ _ hX) | (rw [if_neg (by rw [h73]; decide)] at hQ; exact hQ _ hX)
      · skip
        refine V0_iload (pc := 76) dX12_lates_76 rfl ?_
        refine V0_goto (pc := 78) 83 dX12_lates_78 (by decide) ?_
        refine V_reti (pc := 83) _ dX12_lates_83 rfl ?_
        first | (rw [if_pos h73] at hQ; exact hQ _ hX) | (rw [if_neg (by rw [h73]; decide)] at hQ; exact hQ _ hX)
    · skip
      exact absurd (show (40 : Int32) < nI 41 by decide) h22
  | succ f ih =>
    intro v h1 X u hsd
    have hgt : ¬ (40 : Int32) < nI v := fun q => absurd ((qI_lt (a := 40) (b := v) (by omega) (by omega)).mp q) (by omega)
    have hX : m_sd m n (px_up I 59 jy (nI v)) (px_up X 59 jy (nI v)) := by
      have := hsd.up (q := 59) (k := jy) (x := nI v) (by omega) (by omega) (by omega) (by omega)
      rw [m_up_up] at this
      exact this
    have hk1 : m_ok (px_up I 59 jy (nI v)) m n := m_ok_up hk (by omega) (by omega) (by omega)
    have hkX := hX.ok hk1
    have hzX : px_up X 59 jy (nI v) 89 s = nI z := (congrFun (hX.1 89 (by omega) (by omega) (by omega) (by omega)) s).trans ((congrFun (px_up_row (by omega)) s).trans hz)
    have hwd : m_wd (px_up X 59 jy (nI v)) J s z m n one = m_wd (px_up I 59 jy (nI v)) J s z m n one := by unfold m_wd; rw [hX.lay]
    have hs2 : ∀ i, m_sd m n (px_up I 59 jy (nI v)) (m_days m n (m_lay (px_up X 59 jy (nI v)) m n) i) := fun i => (hX.tr m_sd_lay).tr (m_sd_days i)
    have e1 : m_fits I J s z m n one 59 jy (v + 1) = if m_wd (px_up I 59 jy (nI v)) J s z m n one < 0 then ((m_fits I J s z m n one 59 jy v).1 + 1, if (m_fits I J s z m n one 59 jy v).1 = 0 then nI v else (m_fits I J s z m n one 59 jy v).2) else m_fits I J s z m n one 59 jy v := rfl
    refine V0_iload (pc := 18) dX12_lates_18 rfl ?_
    refine V0_bipush (pc := 20) (40) dX12_lates_20 (by decide) ?_
    refine V0_icmp_gt (pc := 22) 63 dX12_lates_22 (by decide) (fun h22 => ?_) (fun h22 => ?_)
    · skip
      exact absurd h22 hgt
    · skip
      refine V0_aload_n (pc := 25) dX12_lates_25 rfl ?_
      refine V_getr (pc := 26) dX12_lates_26 flX12_22 rfl rfl ?_
      refine V0_iload_n (pc := 29) dX12_lates_29 rfl ?_
      refine V0_iload (pc := 30) dX12_lates_30 rfl ?_
      refine V_iast (pc := 32) (jy) dX12_lates_32 rfl rfl (by omega) ?_
      refine V0_aload_n (pc := 33) dX12_lates_33 rfl ?_
      refine V0_iload_n (pc := 34) dX12_lates_34 rfl ?_
      refine V0_iload_n (pc := 35) dX12_lates_35 rfl ?_
      refine V_callV (pc := 36) (M' := mX12_wrongDay) dX12_lates_36 mlX12_343 okX12_wrongDay rfl (c_X12_wrongDay hkX hs hzX hz60 ho) rfl rfl rfl rfl ⟨Nat.le_of_ble_eq_true rfl, Nat.le_of_ble_eq_true rfl⟩ ⟨Nat.le_refl 0, Nat.le_refl 0⟩ (Nat.le_of_ble_eq_true rfl) ?_
      intro r1 I1 J1 hh
      obtain ⟨e1, ⟨i, e2⟩, e3⟩ := hh
      rw [e1, e2, e3]
      clear e1 e3 J1 r1 e2 I1
      rw [hwd]
      refine V0_if_lt (pc := 39) 45 dX12_lates_39 (by decide) (fun h39 => ?_) (fun h39 => ?_)
      · skip
        refine V0_iload (pc := 45) dX12_lates_45 rfl ?_
        refine V0_if_ne (pc := 47) 54 dX12_lates_47 (by decide) (fun h47 => ?_) (fun h47 => ?_)
        · skip
          have e2 := e1.trans (if_pos h39)
          refine V_ls (ls' := [.ref 54, .int (nI s), .int (nI one), .int (nI jy), .int (b2 b), .int (I 59 jy), .int (m_fits I J s z m n one 59 jy v).1, .int (if (m_fits I J s z m n one 59 jy v).1 = 0 then nI v else (m_fits I J s z m n one 59 jy v).2), .int (nI v)]) (by simp [h47]) ?_
          refine V0_iinc_6 (pc := 54) ((m_fits I J s z m n one 59 jy v).1 + 1) dX12_lates_54 (by decide) rfl rfl ?_
          refine V0_iinc_8 (pc := 57) (nI (v + 1)) dX12_lates_57 (by decide) rfl (nI_1 _) ?_
          refine V0_goto (pc := 60) 18 dX12_lates_60 (by decide) ?_
          exact V_ls (by rw [e2]) (ih (v + 1) (by omega) _ _ (hs2 i))
        · skip
          refine V0_iload (pc := 50) dX12_lates_50 rfl ?_
          refine V0_istore_7 (pc := 52) dX12_lates_52 (by decide) rfl ?_
          have e2 := e1.trans (if_pos h39)
          refine V_ls (ls' := [.ref 54, .int (nI s), .int (nI one), .int (nI jy), .int (b2 b), .int (I 59 jy), .int (m_fits I J s z m n one 59 jy v).1, .int (if (m_fits I J s z m n one 59 jy v).1 = 0 then nI v else (m_fits I J s z m n one 59 jy v).2), .int (nI v)]) (by simp [h47]) ?_
          refine V0_iinc_6 (pc := 54) ((m_fits I J s z m n one 59 jy v).1 + 1) dX12_lates_54 (by decide) rfl rfl ?_
          refine V0_iinc_8 (pc := 57) (nI (v + 1)) dX12_lates_57 (by decide) rfl (nI_1 _) ?_
          refine V0_goto (pc := 60) 18 dX12_lates_60 (by decide) ?_
          exact V_ls (by rw [e2]) (ih (v + 1) (by omega) _ _ (hs2 i))
      · skip
        have e2 := e1.trans (if_neg h39)
        refine V0_goto (pc := 42) 57 dX12_lates_42 (by decide) ?_
        refine V0_iinc_8 (pc := 57) (nI (v + 1)) dX12_lates_57 (by decide) rfl (nI_1 _) ?_
        refine V0_goto (pc := 60) 18 dX12_lates_60 (by decide) ?_
        exact V_ls (by rw [e2]) (ih (v + 1) (by omega) _ _ (hs2 i))
theorem c_X12_lates {l : Launch} {I : px_I} {J : px_J} {m n s z one jy : Nat} {b : Bool} (hk : m_ok I m n) (hs : s < 6) (hz : I 89 s = nI z) (hz60 : z ≤ 60) (ho : one < m) (hjy : jy < 10) : Ct l mX12_lates 5 [.ref 54, .int (nI s), .int (nI one), .int (nI jy), .int (b2 b)] I J (fun r I' J' => r = some (.int (if b = true then (m_fits I J s z m n one 59 jy 41).2 else (m_fits I J s z m n one 59 jy 41).1)) ∧ m_sd m n I I' ∧ J' = J) := by
  refine Ct.of plX12_lates (Nat.le_of_ble_eq_true rfl) [.ref 54, .int (nI s), .int (nI one), .int (nI jy), .int (b2 b), .null, .null, .null, .null] rfl ?_
  refine V0_aload_n (pc := 0) dX12_lates_0 rfl ?_
  refine V_getr (pc := 1) dX12_lates_1 flX12_22 rfl rfl ?_
  refine V0_iload_n (pc := 4) dX12_lates_4 rfl ?_
  refine V_iald (pc := 5) (jy) dX12_lates_5 rfl rfl (by omega) ?_
  refine V0_istore_5 (pc := 6) dX12_lates_6 (by decide) rfl ?_
  refine V0_iconst (pc := 8) (0) dX12_lates_8 (by decide) ?_
  refine V0_istore_6 (pc := 9) dX12_lates_9 (by decide) rfl ?_
  refine V0_bipush (pc := 11) (-2) dX12_lates_11 (by decide) ?_
  refine V0_istore_7 (pc := 13) dX12_lates_13 (by decide) rfl ?_
  refine V0_iconst (pc := 15) (0) dX12_lates_15 (by decide) ?_
  refine V0_istore_8 (pc := 16) dX12_lates_16 (by decide) rfl ?_
  exact lp_X12_lates hk hs hz hz60 ho hjy (fun X hX => ⟨rfl, hX, rfl⟩) 41 0 (by omega) I (I 59 jy) (by rw [m_up_id]; exact m_sd_refl)
theorem W_fits1 {l : Launch} {I : px_I} {J : px_J} {s x w A B : Int32} {m n : Nat} {Q : px_Q} (hd1 : Ct l mX12_dues 5 [.ref 54, .int s, .int (x / 10), .int (px_rem x 10), .int 1] I J (fun r I' J' => r = some (.int A) ∧ m_sd m n I I' ∧ J' = J)) (hd0 : Ct l mX12_dues 5 [.ref 54, .int s, .int (x / 10), .int (px_rem x 10), .int 0] I J (fun r I' J' => r = some (.int B) ∧ m_sd m n I I' ∧ J' = J)) (h1 : w = 1 → ∀ I', m_sd m n I I' → Q (some (.int A)) I' J) (h2 : ¬ w = 1 → ∀ I', m_sd m n I I' → Q (some (.int B)) I' J) : V0 l (px_rm 6 0 0) mX12_fits (false, []) 0 0 63 [.ref 54, .int s, .int x, .int w] [] (px_mk I J) (px_q Q) := by
  by_cases e : w = 1
  · skip
    refine V0_aload_n (pc := 63) dX12_fits_63 rfl ?_
    refine V0_iload_n (pc := 64) dX12_fits_64 rfl ?_
    refine V0_iload_n (pc := 65) dX12_fits_65 rfl ?_
    refine V0_bipush (pc := 66) (10) dX12_fits_66 (by decide) ?_
    refine V0_idiv (pc := 68) dX12_fits_68 (by decide) ?_
    refine V0_iload_n (pc := 69) dX12_fits_69 rfl ?_
    refine V0_bipush (pc := 70) (10) dX12_fits_70 (by decide) ?_
    refine V0_irem (pc := 72) dX12_fits_72 (by decide) ?_
    refine V0_iload_n (pc := 73) dX12_fits_73 rfl ?_
    refine V0_iconst (pc := 74) (1) dX12_fits_74 (by decide) ?_
    refine V0_icmp_ne (pc := 75) 82 dX12_fits_75 (by decide) (fun h75 => ?_) (fun h75 => ?_)
    · skip
      exact absurd e h75
    · skip
      refine V0_iconst (pc := 78) (1) dX12_fits_78 (by decide) ?_
      refine V0_goto (pc := 79) 83 dX12_fits_79 (by decide) ?_
      refine V_callV (pc := 83) (M' := mX12_dues) dX12_fits_83 mlX12_346 okX12_dues rfl hd1 rfl rfl rfl rfl ⟨Nat.le_of_ble_eq_true rfl, Nat.le_of_ble_eq_true rfl⟩ ⟨Nat.le_refl 0, Nat.le_refl 0⟩ (Nat.le_of_ble_eq_true rfl) ?_
      intro r1 I1 J1 hh
      obtain ⟨e1, hsd, e3⟩ := hh
      rw [e1, e3]
      clear e1 e3 J1 r1
      refine V0_goto (pc := 86) 112 dX12_fits_86 (by decide) ?_
      refine V_reti (pc := 112) _ dX12_fits_112 rfl ?_
      exact h1 e _ hsd
  · skip
    refine V0_aload_n (pc := 63) dX12_fits_63 rfl ?_
    refine V0_iload_n (pc := 64) dX12_fits_64 rfl ?_
    refine V0_iload_n (pc := 65) dX12_fits_65 rfl ?_
    refine V0_bipush (pc := 66) (10) dX12_fits_66 (by decide) ?_
    refine V0_idiv (pc := 68) dX12_fits_68 (by decide) ?_
    refine V0_iload_n (pc := 69) dX12_fits_69 rfl ?_
    refine V0_bipush (pc := 70) (10) dX12_fits_70 (by decide) ?_
    refine V0_irem (pc := 72) dX12_fits_72 (by decide) ?_
    refine V0_iload_n (pc := 73) dX12_fits_73 rfl ?_
    refine V0_iconst (pc := 74) (1) dX12_fits_74 (by decide) ?_
    refine V0_icmp_ne (pc := 75) 82 dX12_fits_75 (by decide) (fun h75 => ?_) (fun h75 => ?_)
    · skip
      refine V0_iconst (pc := 82) (0) dX12_fits_82 (by decide) ?_
      refine V_callV (pc := 83) (M' := mX12_dues) dX12_fits_83 mlX12_346 okX12_dues rfl hd0 rfl rfl rfl rfl ⟨Nat.le_of_ble_eq_true rfl, Nat.le_of_ble_eq_true rfl⟩ ⟨Nat.le_refl 0, Nat.le_refl 0⟩ (Nat.le_of_ble_eq_true rfl) ?_
      intro r1 I1 J1 hh
      obtain ⟨e1, hsd, e3⟩ := hh
      rw [e1, e3]
      clear e1 e3 J1 r1
      refine V0_goto (pc := 86) 112 dX12_fits_86 (by decide) ?_
      refine V_reti (pc := 112) _ dX12_fits_112 rfl ?_
      exact h2 e _ hsd
    · skip
      exact absurd h75 e
theorem W_fits2 {l : Launch} {I : px_I} {J : px_J} {s x w A B : Int32} {m n : Nat} {Q : px_Q} (hd1 : Ct l mX12_lates 5 [.ref 54, .int s, .int (x / 10), .int (px_rem x 10), .int 1] I J (fun r I' J' => r = some (.int A) ∧ m_sd m n I I' ∧ J' = J)) (hd0 : Ct l mX12_lates 5 [.ref 54, .int s, .int (x / 10), .int (px_rem x 10), .int 0] I J (fun r I' J' => r = some (.int B) ∧ m_sd m n I I' ∧ J' = J)) (h1 : w = 3 → ∀ I', m_sd m n I I' → Q (some (.int A)) I' J) (h2 : ¬ w = 3 → ∀ I', m_sd m n I I' → Q (some (.int B)) I' J) : V0 l (px_rm 6 0 0) mX12_fits (false, []) 0 0 89 [.ref 54, .int s, .int x, .int w] [] (px_mk I J) (px_q Q) := by
  by_cases e : w = 3
  · skip
    refine V0_aload_n (pc := 89) dX12_fits_89 rfl ?_
    refine V0_iload_n (pc := 90) dX12_fits_90 rfl ?_
    refine V0_iload_n (pc := 91) dX12_fits_91 rfl ?_
    refine V0_bipush (pc := 92) (10) dX12_fits_92 (by decide) ?_
    refine V0_idiv (pc := 94) dX12_fits_94 (by decide) ?_
    refine V0_iload_n (pc := 95) dX12_fits_95 rfl ?_
    refine V0_bipush (pc := 96) (10) dX12_fits_96 (by decide) ?_
    refine V0_irem (pc := 98) dX12_fits_98 (by decide) ?_
    refine V0_iload_n (pc := 99) dX12_fits_99 rfl ?_
    refine V0_iconst (pc := 100) (3) dX12_fits_100 (by decide) ?_
    refine V0_icmp_ne (pc := 101) 108 dX12_fits_101 (by decide) (fun h101 => ?_) (fun h101 => ?_)
    · skip
      exact absurd e h101
    · skip
      refine V0_iconst (pc := 104) (1) dX12_fits_104 (by decide) ?_
      refine V0_goto (pc := 105) 109 dX12_fits_105 (by decide) ?_
      refine V_callV (pc := 109) (M' := mX12_lates) dX12_fits_109 mlX12_350 okX12_lates rfl hd1 rfl rfl rfl rfl ⟨Nat.le_of_ble_eq_true rfl, Nat.le_of_ble_eq_true rfl⟩ ⟨Nat.le_refl 0, Nat.le_refl 0⟩ (Nat.le_of_ble_eq_true rfl) ?_
      intro r1 I1 J1 hh
      obtain ⟨e1, hsd, e3⟩ := hh
      rw [e1, e3]
      clear e1 e3 J1 r1
      refine V_reti (pc := 112) _ dX12_fits_112 rfl ?_
      exact h1 e _ hsd
  · skip
    refine V0_aload_n (pc := 89) dX12_fits_89 rfl ?_
    refine V0_iload_n (pc := 90) dX12_fits_90 rfl ?_
    refine V0_iload_n (pc := 91) dX12_fits_91 rfl ?_
    refine V0_bipush (pc := 92) (10) dX12_fits_92 (by decide) ?_
    refine V0_idiv (pc := 94) dX12_fits_94 (by decide) ?_
    refine V0_iload_n (pc := 95) dX12_fits_95 rfl ?_
    refine V0_bipush (pc := 96) (10) dX12_fits_96 (by decide) ?_
    refine V0_irem (pc := 98) dX12_fits_98 (by decide) ?_
    refine V0_iload_n (pc := 99) dX12_fits_99 rfl ?_
    refine V0_iconst (pc := 100) (3) dX12_fits_100 (by decide) ?_
    refine V0_icmp_ne (pc := 101) 108 dX12_fits_101 (by decide) (fun h101 => ?_) (fun h101 => ?_)
    · skip
      refine V0_iconst (pc := 108) (0) dX12_fits_108 (by decide) ?_
      refine V_callV (pc := 109) (M' := mX12_lates) dX12_fits_109 mlX12_350 okX12_lates rfl hd0 rfl rfl rfl rfl ⟨Nat.le_of_ble_eq_true rfl, Nat.le_of_ble_eq_true rfl⟩ ⟨Nat.le_refl 0, Nat.le_refl 0⟩ (Nat.le_of_ble_eq_true rfl) ?_
      intro r1 I1 J1 hh
      obtain ⟨e1, hsd, e3⟩ := hh
      rw [e1, e3]
      clear e1 e3 J1 r1
      refine V_reti (pc := 112) _ dX12_fits_112 rfl ?_
      exact h2 e _ hsd
    · skip
      exact absurd h101 e
def m_fans (I : px_I) (J : px_J) (s x w : Int32) (m n : Nat) : Int32 := if s_within s 0 5 = true ∧ ¬ x < 0 ∧ m_one I (x / 10) = true ∧ m_joy I (px_rem x 10) = true ∧ s_within w 0 3 = true then (if m_rf I s < 0 then m_rf I s else if w < 2 then (if w = 1 then (m_fits I J (ix s) (m_z I s) m n (ix (x / 10)) 57 (ix (px_rem x 10)) 100).2 else (m_fits I J (ix s) (m_z I s) m n (ix (x / 10)) 57 (ix (px_rem x 10)) 100).1) else (if w = 3 then (m_fits I J (ix s) (m_z I s) m n (ix (x / 10)) 59 (ix (px_rem x 10)) 41).2 else (m_fits I J (ix s) (m_z I s) m n (ix (x / 10)) 59 (ix (px_rem x 10)) 41).1)) else -1
theorem c_X12_fits {l : Launch} {I : px_I} {J : px_J} {s x w : Int32} {m n : Nat} (hk : m_ok I m n) (hz : m_szok I) : Ct l mX12_fits 6 [.ref 54, .int s, .int x, .int w] I J (fun r I' J' => r = some (.int (m_fans I J s x w m n)) ∧ m_sd m n I I' ∧ J' = J) := by
  have hm7 := hk.2.1
  have hn10 := hk.2.2.2.1
  by_cases z : s_within s 0 5 = true ∧ ¬ x < 0 ∧ m_one I (x / 10) = true ∧ m_joy I (px_rem x 10) = true ∧ s_within w 0 3 = true
  · have hs := w_ixc (m := 5) (by omega) rfl z.1
    have ho := m_one_ix hk.1 hk.2.1 z.2.2.1
    have hj := m_joy_ix hk.2.2.1 hn10 z.2.2.2.1
    have hc := c_X12_rowFault (l := l) (I := I) (J := J) (s := ix s) (by omega)
    have hd1 := c_X12_dues (l := l) (I := I) (J := J) (s := ix s) (one := ix (x / 10)) (jy := ix (px_rem x 10)) (b := true) hk (by omega) (hz (ix s) (by omega)).1 (hz (ix s) (by omega)).2 ho.2 (by omega)
    have hd0 := c_X12_dues (l := l) (I := I) (J := J) (s := ix s) (one := ix (x / 10)) (jy := ix (px_rem x 10)) (b := false) hk (by omega) (hz (ix s) (by omega)).1 (hz (ix s) (by omega)).2 ho.2 (by omega)
    have hl1 := c_X12_lates (l := l) (I := I) (J := J) (s := ix s) (one := ix (x / 10)) (jy := ix (px_rem x 10)) (b := true) hk (by omega) (hz (ix s) (by omega)).1 (hz (ix s) (by omega)).2 ho.2 (by omega)
    have hl0 := c_X12_lates (l := l) (I := I) (J := J) (s := ix s) (one := ix (x / 10)) (jy := ix (px_rem x 10)) (b := false) hk (by omega) (hz (ix s) (by omega)).1 (hz (ix s) (by omega)).2 ho.2 (by omega)
    rw [← hs.1] at hc
    rw [← hs.1, ← ho.1, ← hj.1] at hd1 hd0 hl1 hl0
    refine Ct.of plX12_fits (Nat.le_of_ble_eq_true rfl) [.ref 54, .int s, .int x, .int w] rfl ?_
    refine V0_iload_n (pc := 0) dX12_fits_0 rfl ?_
    refine V_callSi (pc := 1) (M' := mX12_isShelf) dX12_fits_1 mlX12_149 okX12_isShelf rfl c_X12_isShelf rfl rfl ⟨Nat.le_of_ble_eq_true rfl, Nat.le_of_ble_eq_true rfl⟩ ⟨Nat.le_refl 0, Nat.le_refl 0⟩ (Nat.le_of_ble_eq_true rfl) ?_
    refine V_ifeqb (pc := 4) 42 dX12_fits_4 (by decide) (fun h4 => ?_) (fun h4 => ?_)
    · skip
      exact absurd (z.1.symm.trans (show s_within s 0 5 = false from h4)) (by decide)
    · skip
      refine V0_iload_n (pc := 7) dX12_fits_7 rfl ?_
      refine V0_if_lt (pc := 8) 42 dX12_fits_8 (by decide) (fun h8 => ?_) (fun h8 => ?_)
      · skip
        exact absurd h8 z.2.1
      · skip
        refine V0_aload_n (pc := 11) dX12_fits_11 rfl ?_
        refine V0_iload_n (pc := 12) dX12_fits_12 rfl ?_
        refine V0_bipush (pc := 13) (10) dX12_fits_13 (by decide) ?_
        refine V0_idiv (pc := 15) dX12_fits_15 (by decide) ?_
        refine V_callVi (pc := 16) (M' := mX12_isOne) dX12_fits_16 mlX12_142 okX12_isOne rfl c_X12_isOne rfl rfl rfl rfl ⟨Nat.le_of_ble_eq_true rfl, Nat.le_of_ble_eq_true rfl⟩ ⟨Nat.le_refl 0, Nat.le_refl 0⟩ (Nat.le_of_ble_eq_true rfl) ?_
        refine V_ifeqb (pc := 19) 42 dX12_fits_19 (by decide) (fun h19 => ?_) (fun h19 => ?_)
        · skip
          exact absurd (z.2.2.1.symm.trans (show m_one I (x / 10) = false from h19)) (by decide)
        · skip
          refine V0_aload_n (pc := 22) dX12_fits_22 rfl ?_
          refine V0_iload_n (pc := 23) dX12_fits_23 rfl ?_
          refine V0_bipush (pc := 24) (10) dX12_fits_24 (by decide) ?_
          refine V0_irem (pc := 26) dX12_fits_26 (by decide) ?_
          refine V_callVi (pc := 27) (M' := mX12_isJoy) dX12_fits_27 mlX12_168 okX12_isJoy rfl c_X12_isJoy rfl rfl rfl rfl ⟨Nat.le_of_ble_eq_true rfl, Nat.le_of_ble_eq_true rfl⟩ ⟨Nat.le_refl 0, Nat.le_refl 0⟩ (Nat.le_of_ble_eq_true rfl) ?_
          refine V_ifeqb (pc := 30) 42 dX12_fits_30 (by decide) (fun h30 => ?_) (fun h30 => ?_)
          · skip
            exact absurd (z.2.2.2.1.symm.trans (show m_joy I (px_rem x 10) = false from h30)) (by decide)
          · skip
            refine V0_iload_n (pc := 33) dX12_fits_33 rfl ?_
            refine V0_iconst (pc := 34) (0) dX12_fits_34 (by decide) ?_
            refine V0_iconst (pc := 35) (3) dX12_fits_35 (by decide) ?_
            refine V_callSi (pc := 36) (M' := mX12_in) dX12_fits_36 mlX12_131 okX12_in rfl c_X12_in rfl rfl ⟨Nat.le_of_ble_eq_true rfl, Nat.le_of_ble_eq_true rfl⟩ ⟨Nat.le_refl 0, Nat.le_refl 0⟩ (Nat.le_of_ble_eq_true rfl) ?_
            refine V_ifneb (pc := 39) 44 dX12_fits_39 (by decide) (fun h39 => ?_) (fun h39 => ?_)
            · skip
              refine V0_aload_n (pc := 44) dX12_fits_44 rfl ?_
              refine V0_iload_n (pc := 45) dX12_fits_45 rfl ?_
              refine V_callVi (pc := 46) (M' := mX12_rowFault) dX12_fits_46 mlX12_340 okX12_rowFault rfl hc rfl rfl rfl rfl ⟨Nat.le_of_ble_eq_true rfl, Nat.le_of_ble_eq_true rfl⟩ ⟨Nat.le_refl 0, Nat.le_refl 0⟩ (Nat.le_of_ble_eq_true rfl) ?_
              refine V1_if_ge (pc := 49) 58 dX12_fits_49 (by decide) (fun h49 => ?_) (fun h49 => ?_)
              · skip
                refine V0_iload_n (pc := 58) dX12_fits_58 rfl ?_
                refine V0_iconst (pc := 59) (2) dX12_fits_59 (by decide) ?_
                refine V1_icmp_ge (pc := 60) 89 dX12_fits_60 (by decide) (fun h60 => ?_) (fun h60 => ?_)
                · skip
                  exact W_fits2 hl1 hl0 (fun e I1 h => ⟨by rw [m_fans, if_pos z, if_neg h49, if_neg h60, if_pos e]; rfl, h, rfl⟩) (fun e I1 h => ⟨by rw [m_fans, if_pos z, if_neg h49, if_neg h60, if_neg e]; rfl, h, rfl⟩)
                · skip
                  exact W_fits1 hd1 hd0 (fun e I1 h => ⟨by rw [m_fans, if_pos z, if_neg h49, if_pos h60, if_pos e]; rfl, h, rfl⟩) (fun e I1 h => ⟨by rw [m_fans, if_pos z, if_neg h49, if_pos h60, if_neg e]; rfl, h, rfl⟩)
              · skip
                refine V0_aload_n (pc := 52) dX12_fits_52 rfl ?_
                refine V0_iload_n (pc := 53) dX12_fits_53 rfl ?_
                refine V_callVi (pc := 54) (M' := mX12_rowFault) dX12_fits_54 mlX12_340 okX12_rowFault rfl hc rfl rfl rfl rfl ⟨Nat.le_of_ble_eq_true rfl, Nat.le_of_ble_eq_true rfl⟩ ⟨Nat.le_refl 0, Nat.le_refl 0⟩ (Nat.le_of_ble_eq_true rfl) ?_
                refine V_reti (pc := 57) _ dX12_fits_57 rfl ?_
                exact ⟨by rw [m_fans, if_pos z, if_pos h49], m_sd_refl, rfl⟩
            · skip
              exact absurd (z.2.2.2.2.symm.trans (show s_within w 0 3 = false from h39)) (by decide)
  · refine Ct.of plX12_fits (Nat.le_of_ble_eq_true rfl) [.ref 54, .int s, .int x, .int w] rfl ?_
    refine V0_iload_n (pc := 0) dX12_fits_0 rfl ?_
    refine V_callSi (pc := 1) (M' := mX12_isShelf) dX12_fits_1 mlX12_149 okX12_isShelf rfl c_X12_isShelf rfl rfl ⟨Nat.le_of_ble_eq_true rfl, Nat.le_of_ble_eq_true rfl⟩ ⟨Nat.le_refl 0, Nat.le_refl 0⟩ (Nat.le_of_ble_eq_true rfl) ?_
    refine V_ifeqb (pc := 4) 42 dX12_fits_4 (by decide) (fun h4 => ?_) (fun h4 => ?_)
    · skip
      refine V0_iconst (pc := 42) (-1) dX12_fits_42 (by decide) ?_
      refine V_reti (pc := 43) _ dX12_fits_43 rfl ?_
      exact ⟨by rw [m_fans, if_neg z] <;> rfl, m_sd_refl, rfl⟩
    · skip
      refine V0_iload_n (pc := 7) dX12_fits_7 rfl ?_
      refine V0_if_lt (pc := 8) 42 dX12_fits_8 (by decide) (fun h8 => ?_) (fun h8 => ?_)
      · skip
        refine V0_iconst (pc := 42) (-1) dX12_fits_42 (by decide) ?_
        refine V_reti (pc := 43) _ dX12_fits_43 rfl ?_
        exact ⟨by rw [m_fans, if_neg z] <;> rfl, m_sd_refl, rfl⟩
      · skip
        refine V0_aload_n (pc := 11) dX12_fits_11 rfl ?_
        refine V0_iload_n (pc := 12) dX12_fits_12 rfl ?_
        refine V0_bipush (pc := 13) (10) dX12_fits_13 (by decide) ?_
        refine V0_idiv (pc := 15) dX12_fits_15 (by decide) ?_
        refine V_callVi (pc := 16) (M' := mX12_isOne) dX12_fits_16 mlX12_142 okX12_isOne rfl c_X12_isOne rfl rfl rfl rfl ⟨Nat.le_of_ble_eq_true rfl, Nat.le_of_ble_eq_true rfl⟩ ⟨Nat.le_refl 0, Nat.le_refl 0⟩ (Nat.le_of_ble_eq_true rfl) ?_
        refine V_ifeqb (pc := 19) 42 dX12_fits_19 (by decide) (fun h19 => ?_) (fun h19 => ?_)
        · skip
          refine V0_iconst (pc := 42) (-1) dX12_fits_42 (by decide) ?_
          refine V_reti (pc := 43) _ dX12_fits_43 rfl ?_
          exact ⟨by rw [m_fans, if_neg z] <;> rfl, m_sd_refl, rfl⟩
        · skip
          refine V0_aload_n (pc := 22) dX12_fits_22 rfl ?_
          refine V0_iload_n (pc := 23) dX12_fits_23 rfl ?_
          refine V0_bipush (pc := 24) (10) dX12_fits_24 (by decide) ?_
          refine V0_irem (pc := 26) dX12_fits_26 (by decide) ?_
          refine V_callVi (pc := 27) (M' := mX12_isJoy) dX12_fits_27 mlX12_168 okX12_isJoy rfl c_X12_isJoy rfl rfl rfl rfl ⟨Nat.le_of_ble_eq_true rfl, Nat.le_of_ble_eq_true rfl⟩ ⟨Nat.le_refl 0, Nat.le_refl 0⟩ (Nat.le_of_ble_eq_true rfl) ?_
          refine V_ifeqb (pc := 30) 42 dX12_fits_30 (by decide) (fun h30 => ?_) (fun h30 => ?_)
          · skip
            refine V0_iconst (pc := 42) (-1) dX12_fits_42 (by decide) ?_
            refine V_reti (pc := 43) _ dX12_fits_43 rfl ?_
            exact ⟨by rw [m_fans, if_neg z] <;> rfl, m_sd_refl, rfl⟩
          · skip
            refine V0_iload_n (pc := 33) dX12_fits_33 rfl ?_
            refine V0_iconst (pc := 34) (0) dX12_fits_34 (by decide) ?_
            refine V0_iconst (pc := 35) (3) dX12_fits_35 (by decide) ?_
            refine V_callSi (pc := 36) (M' := mX12_in) dX12_fits_36 mlX12_131 okX12_in rfl c_X12_in rfl rfl ⟨Nat.le_of_ble_eq_true rfl, Nat.le_of_ble_eq_true rfl⟩ ⟨Nat.le_refl 0, Nat.le_refl 0⟩ (Nat.le_of_ble_eq_true rfl) ?_
            refine V_ifneb (pc := 39) 44 dX12_fits_39 (by decide) (fun h39 => ?_) (fun h39 => ?_)
            · skip
              exact absurd ⟨h4, h8, h19, h30, h39⟩ z
            · skip
              refine V0_iconst (pc := 42) (-1) dX12_fits_42 (by decide) ?_
              refine V_reti (pc := 43) _ dX12_fits_43 rfl ?_
              exact ⟨by rw [m_fans, if_neg z] <;> rfl, m_sd_refl, rfl⟩
/-! who it may have been -/
def m_whom (I : px_I) (J : px_J) (x : Int32) (m n p : Nat) : Bool := decide (m_wd I J (ix x) (m_z I x) m n p < 0)
theorem lp_X12_who {l : Launch} {I : px_I} {J : px_J} {m n : Nat} {x : Int32} {Q : px_Q} (hk : m_ok I m n) (hz : m_szok I) (hx : x = nI (ix x) ∧ ix x < 6) (hQ : ∀ X, m_sd m n I X → Q (some (.int (s_bits (m_whom I J x m n) m))) X J) : ∀ (f p : Nat), p + f = m → ∀ X, m_sd m n I X → V0 l (px_rm 5 0 0) mX12_who (false, []) 0 0 27 [.ref 54, .int x, .int (s_bits (m_whom I J x m n) p), .int (nI p)] [] (px_mk X J) (px_q Q) := by
  have hm7 := hk.2.1
  intro f
  induction f with
  | zero =>
    intro p h1 X hsd
    obtain rfl : p = m := by omega
    have hkX := hsd.ok hk
    refine V0_iload_n (pc := 27) dX12_who_27 rfl ?_
    refine V0_aload_n (pc := 28) dX12_who_28 rfl ?_
    refine V_geti (pc := 29) dX12_who_29 flX12_128 rfl rfl ?_
    rw [hkX.1]
    refine V1_icmp_ge (pc := 32) 56 dX12_who_32 (by decide) (fun h32 => ?_) (fun h32 => ?_)
    · skip
      refine V0_iload_n (pc := 56) dX12_who_56 rfl ?_
      refine V_reti (pc := 57) _ dX12_who_57 rfl ?_
      exact hQ _ hsd
    · skip
      exact absurd ((qI_lt (a := p) (b := p) (by omega) (by omega)).mp h32) (by omega)
  | succ f ih =>
    intro p h1 X hsd
    have hlt : nI p < nI m := (qI_lt (by omega) (by omega)).mpr (by omega)
    have hkX := hsd.ok hk
    have r89 := hsd.1 89 (by omega) (by omega) (by omega) (by omega)
    have hw := c_X12_wrongDay (l := l) (I := X) (J := J) (s := ix x) (z := m_z I x) (one := p) hkX hx.2 (by rw [r89]; exact (hz (ix x) hx.2).1) (hz (ix x) hx.2).2 (by omega)
    rw [← hx.1, m_wd, hsd.lay, ← m_wd] at hw
    have e1 : s_bits (m_whom I J x m n) (p + 1) = if m_whom I J x m n p = true then s_bits (m_whom I J x m n) p ||| ((1 : Int32) <<< (nI p &&& 31)) else s_bits (m_whom I J x m n) p := rfl
    refine V0_iload_n (pc := 27) dX12_who_27 rfl ?_
    refine V0_aload_n (pc := 28) dX12_who_28 rfl ?_
    refine V_geti (pc := 29) dX12_who_29 flX12_128 rfl rfl ?_
    rw [hkX.1]
    refine V1_icmp_ge (pc := 32) 56 dX12_who_32 (by decide) (fun h32 => ?_) (fun h32 => ?_)
    · skip
      exact absurd hlt h32
    · skip
      refine V0_aload_n (pc := 35) dX12_who_35 rfl ?_
      refine V0_iload_n (pc := 36) dX12_who_36 rfl ?_
      refine V0_iload_n (pc := 37) dX12_who_37 rfl ?_
      refine V_callV (pc := 38) (M' := mX12_wrongDay) dX12_who_38 mlX12_343 okX12_wrongDay rfl hw rfl rfl rfl rfl ⟨Nat.le_of_ble_eq_true rfl, Nat.le_of_ble_eq_true rfl⟩ ⟨Nat.le_refl 0, Nat.le_refl 0⟩ (Nat.le_of_ble_eq_true rfl) ?_
      intro r1 I1 J1 hh
      obtain ⟨e1, ⟨i, e2⟩, e3⟩ := hh
      rw [e1, e2, e3]
      clear e1 e3 J1 r1 e2 I1
      refine V1_if_ge (pc := 41) 50 dX12_who_41 (by decide) (fun h41 => ?_) (fun h41 => ?_)
      · skip
        refine V_ls (ls' := [.ref 54, .int x, .int (s_bits (m_whom I J x m n) (p + 1)), .int (nI p)]) (by rw [e1]; simp [m_whom, h41]) ?_
        refine V0_iinc_3 (pc := 50) (nI (p + 1)) dX12_who_50 (by decide) rfl (nI_1 _) ?_
        refine V0_goto (pc := 53) 27 dX12_who_53 (by decide) ?_
        exact ih (p + 1) (by omega) _ (m_sd_lay.tr (m_sd_days i))
      · skip
        refine V0_iload_n (pc := 44) dX12_who_44 rfl ?_
        refine V0_iconst (pc := 45) (1) dX12_who_45 (by decide) ?_
        refine V0_iload_n (pc := 46) dX12_who_46 rfl ?_
        refine V0_ishl (pc := 47) dX12_who_47 ?_
        refine V0_ior (pc := 48) dX12_who_48 ?_
        refine V0_istore_2 (pc := 49) dX12_who_49 (by decide) rfl ?_
        refine V_ls (ls' := [.ref 54, .int x, .int (s_bits (m_whom I J x m n) (p + 1)), .int (nI p)]) (by rw [e1]; simp [m_whom, h41]) ?_
        refine V0_iinc_3 (pc := 50) (nI (p + 1)) dX12_who_50 (by decide) rfl (nI_1 _) ?_
        refine V0_goto (pc := 53) 27 dX12_who_53 (by decide) ?_
        exact ih (p + 1) (by omega) _ (m_sd_lay.tr (m_sd_days i))
theorem c_X12_who {l : Launch} {I : px_I} {J : px_J} {x : Int32} {m n : Nat} (hk : m_ok I m n) (hz : m_szok I) : Ct l mX12_who 5 [.ref 54, .int x] I J (fun r I' J' => r = some (.int (if s_within x 0 5 = true then (if m_rf I x < 0 then m_rf I x else s_bits (m_whom I J x m n) m) else -1)) ∧ m_sd m n I I' ∧ J' = J) := by
  by_cases z : s_within x 0 5 = true
  · have hx := w_ixc (m := 5) (by omega) rfl z
    have hc := c_X12_rowFault (l := l) (I := I) (J := J) (s := ix x) (by omega)
    rw [← hx.1] at hc
    refine Ct.of plX12_who (Nat.le_of_ble_eq_true rfl) [.ref 54, .int x, .null, .null] rfl ?_
    refine V0_iload_n (pc := 0) dX12_who_0 rfl ?_
    refine V_callSi (pc := 1) (M' := mX12_isShelf) dX12_who_1 mlX12_149 okX12_isShelf rfl c_X12_isShelf rfl rfl ⟨Nat.le_of_ble_eq_true rfl, Nat.le_of_ble_eq_true rfl⟩ ⟨Nat.le_refl 0, Nat.le_refl 0⟩ (Nat.le_of_ble_eq_true rfl) ?_
    refine V_ifneb (pc := 4) 9 dX12_who_4 (by decide) (fun h4 => ?_) (fun h4 => ?_)
    · skip
      refine V0_aload_n (pc := 9) dX12_who_9 rfl ?_
      refine V0_iload_n (pc := 10) dX12_who_10 rfl ?_
      refine V_callVi (pc := 11) (M' := mX12_rowFault) dX12_who_11 mlX12_340 okX12_rowFault rfl hc rfl rfl rfl rfl ⟨Nat.le_of_ble_eq_true rfl, Nat.le_of_ble_eq_true rfl⟩ ⟨Nat.le_refl 0, Nat.le_refl 0⟩ (Nat.le_of_ble_eq_true rfl) ?_
      refine V1_if_ge (pc := 14) 23 dX12_who_14 (by decide) (fun h14 => ?_) (fun h14 => ?_)
      · skip
        refine V0_iconst (pc := 23) (0) dX12_who_23 (by decide) ?_
        refine V0_istore_2 (pc := 24) dX12_who_24 (by decide) rfl ?_
        refine V0_iconst (pc := 25) (0) dX12_who_25 (by decide) ?_
        refine V0_istore_3 (pc := 26) dX12_who_26 (by decide) rfl ?_
        exact lp_X12_who hk hz hx (fun X hX => ⟨by rw [if_pos z, if_neg h14], hX, rfl⟩) m 0 (by omega) I m_sd_refl
      · skip
        refine V0_aload_n (pc := 17) dX12_who_17 rfl ?_
        refine V0_iload_n (pc := 18) dX12_who_18 rfl ?_
        refine V_callVi (pc := 19) (M' := mX12_rowFault) dX12_who_19 mlX12_340 okX12_rowFault rfl hc rfl rfl rfl rfl ⟨Nat.le_of_ble_eq_true rfl, Nat.le_of_ble_eq_true rfl⟩ ⟨Nat.le_refl 0, Nat.le_refl 0⟩ (Nat.le_of_ble_eq_true rfl) ?_
        refine V_reti (pc := 22) _ dX12_who_22 rfl ?_
        exact ⟨by rw [if_pos z, if_pos h14], m_sd_refl, rfl⟩
    · skip
      exact absurd (z.symm.trans (show s_within x 0 5 = false from h4)) (by decide)
  · refine Ct.of plX12_who (Nat.le_of_ble_eq_true rfl) [.ref 54, .int x, .null, .null] rfl ?_
    refine V0_iload_n (pc := 0) dX12_who_0 rfl ?_
    refine V_callSi (pc := 1) (M' := mX12_isShelf) dX12_who_1 mlX12_149 okX12_isShelf rfl c_X12_isShelf rfl rfl ⟨Nat.le_of_ble_eq_true rfl, Nat.le_of_ble_eq_true rfl⟩ ⟨Nat.le_refl 0, Nat.le_refl 0⟩ (Nat.le_of_ble_eq_true rfl) ?_
    refine V_ifneb (pc := 4) 9 dX12_who_4 (by decide) (fun h4 => ?_) (fun h4 => ?_)
    · skip
      exact absurd h4 z
    · skip
      refine V0_iconst (pc := 7) (-1) dX12_who_7 (by decide) ?_
      refine V_reti (pc := 8) _ dX12_who_8 rfl ?_
      exact ⟨by rw [if_neg z] <;> rfl, m_sd_refl, rfl⟩
/-! shares -/
theorem lp_X12_share {l : Launch} {S : px_I} {J : px_J} {n : Nat} {x v : Int32} {Q : px_Q} (hn : S 54 3 = nI n) (hn10 : n ≤ 10) (hQ : Q (some (.int (if s_sum (m_had S) (S 60) n = 0 then 0 else v * s_sum (fun j => m_had S j && decide (S 56 j = x)) (S 60) n / s_sum (m_had S) (S 60) n))) S J) : ∀ (f j : Nat), j + f = n → V0 l (px_rm 2 0 0) mX12_share (false, []) 0 0 33 [.ref 54, .int x, .int v, .int (s_sum (m_had S) (S 60) j), .int (s_sum (fun j => m_had S j && decide (S 56 j = x)) (S 60) j), .int (nI j)] [] (px_mk S J) (px_q Q) := by
  intro f
  induction f with
  | zero =>
    intro j h1
    obtain rfl : j = n := by omega
    refine V0_iload (pc := 33) dX12_share_33 rfl ?_
    refine V0_aload_n (pc := 35) dX12_share_35 rfl ?_
    refine V_geti (pc := 36) dX12_share_36 flX12_135 rfl rfl ?_
    rw [hn]
    refine V1_icmp_ge (pc := 39) 93 dX12_share_39 (by decide) (fun h39 => ?_) (fun h39 => ?_)
    · skip
      refine V0_iload_n (pc := 93) dX12_share_93 rfl ?_
      refine V0_if_ne (pc := 94) 101 dX12_share_94 (by decide) (fun h94 => ?_) (fun h94 => ?_)
      · skip
        refine V0_iload_n (pc := 101) dX12_share_101 rfl ?_
        refine V0_iload (pc := 102) dX12_share_102 rfl ?_
        refine V0_imul (pc := 104) dX12_share_104 ?_
        refine V0_iload_n (pc := 105) dX12_share_105 rfl ?_
        refine V0_idiv (pc := 106) dX12_share_106 h94 ?_
        refine V_reti (pc := 107) _ dX12_share_107 rfl ?_
        first | (rw [if_pos h94] at hQ; exact hQ) | (rw [if_neg h94] at hQ; exact hQ)
      · skip
        refine V0_iconst (pc := 97) (0) dX12_share_97 (by decide) ?_
        refine V0_goto (pc := 98) 107 dX12_share_98 (by decide) ?_
        refine V_reti (pc := 107) _ dX12_share_107 rfl ?_
        first | (rw [if_pos h94] at hQ; exact hQ) | (rw [if_neg h94] at hQ; exact hQ)
    · skip
      exact absurd ((qI_lt (a := j) (b := j) (by omega) (by omega)).mp h39) (by omega)
  | succ f ih =>
    intro j h1
    have hlt : nI j < nI n := (qI_lt (by omega) (by omega)).mpr (by omega)
    refine V0_iload (pc := 33) dX12_share_33 rfl ?_
    refine V0_aload_n (pc := 35) dX12_share_35 rfl ?_
    refine V_geti (pc := 36) dX12_share_36 flX12_135 rfl rfl ?_
    rw [hn]
    refine V1_icmp_ge (pc := 39) 93 dX12_share_39 (by decide) (fun h39 => ?_) (fun h39 => ?_)
    · skip
      exact absurd hlt h39
    · skip
      refine V0_aload_n (pc := 42) dX12_share_42 rfl ?_
      refine V0_iload (pc := 43) dX12_share_43 rfl ?_
      refine V_callVi (pc := 45) (M' := mX12_isHad) dX12_share_45 mlX12_289 okX12_isHad rfl (c_X12_isHad (by omega)) rfl rfl rfl rfl ⟨Nat.le_of_ble_eq_true rfl, Nat.le_of_ble_eq_true rfl⟩ ⟨Nat.le_refl 0, Nat.le_refl 0⟩ (Nat.le_of_ble_eq_true rfl) ?_
      refine V_ifneb (pc := 48) 54 dX12_share_48 (by decide) (fun h48 => ?_) (fun h48 => ?_)
      · skip
        refine V0_iload_n (pc := 54) dX12_share_54 rfl ?_
        refine V0_aload_n (pc := 55) dX12_share_55 rfl ?_
        refine V_getr (pc := 56) dX12_share_56 flX12_25 rfl rfl ?_
        refine V0_iload (pc := 59) dX12_share_59 rfl ?_
        refine V_iald (pc := 61) (j) dX12_share_61 rfl rfl (by omega) ?_
        refine V0_iadd (pc := 62) dX12_share_62 ?_
        refine V0_istore_3 (pc := 63) dX12_share_63 (by decide) rfl ?_
        refine V0_aload_n (pc := 64) dX12_share_64 rfl ?_
        refine V_getr (pc := 65) dX12_share_65 flX12_13 rfl rfl ?_
        refine V0_iload (pc := 68) dX12_share_68 rfl ?_
        refine V_iald (pc := 70) (j) dX12_share_70 rfl rfl (by omega) ?_
        refine V0_iload_n (pc := 71) dX12_share_71 rfl ?_
        refine V0_icmp_ne (pc := 72) 87 dX12_share_72 (by decide) (fun h72 => ?_) (fun h72 => ?_)
        · skip
          refine V_ls (ls' := [.ref 54, .int x, .int v, .int (s_sum (m_had S) (S 60) (j + 1)), .int (s_sum (fun j => m_had S j && decide (S 56 j = x)) (S 60) (j + 1)), .int (nI j)]) (by simp [s_sum, *]) ?_
          refine V0_iinc_5 (pc := 87) (nI (j + 1)) dX12_share_87 (by decide) rfl (nI_1 _) ?_
          refine V0_goto (pc := 90) 33 dX12_share_90 (by decide) ?_
          exact ih (j + 1) (by omega)
        · skip
          refine V0_iload (pc := 75) dX12_share_75 rfl ?_
          refine V0_aload_n (pc := 77) dX12_share_77 rfl ?_
          refine V_getr (pc := 78) dX12_share_78 flX12_25 rfl rfl ?_
          refine V0_iload (pc := 81) dX12_share_81 rfl ?_
          refine V_iald (pc := 83) (j) dX12_share_83 rfl rfl (by omega) ?_
          refine V0_iadd (pc := 84) dX12_share_84 ?_
          refine V0_istore_4 (pc := 85) dX12_share_85 (by decide) rfl ?_
          refine V_ls (ls' := [.ref 54, .int x, .int v, .int (s_sum (m_had S) (S 60) (j + 1)), .int (s_sum (fun j => m_had S j && decide (S 56 j = x)) (S 60) (j + 1)), .int (nI j)]) (by simp [s_sum, *]) ?_
          refine V0_iinc_5 (pc := 87) (nI (j + 1)) dX12_share_87 (by decide) rfl (nI_1 _) ?_
          refine V0_goto (pc := 90) 33 dX12_share_90 (by decide) ?_
          exact ih (j + 1) (by omega)
      · skip
        refine V0_goto (pc := 51) 87 dX12_share_51 (by decide) ?_
        refine V_ls (ls' := [.ref 54, .int x, .int v, .int (s_sum (m_had S) (S 60) (j + 1)), .int (s_sum (fun j => m_had S j && decide (S 56 j = x)) (S 60) (j + 1)), .int (nI j)]) (by simp [s_sum, *]) ?_
        refine V0_iinc_5 (pc := 87) (nI (j + 1)) dX12_share_87 (by decide) rfl (nI_1 _) ?_
        refine V0_goto (pc := 90) 33 dX12_share_90 (by decide) ?_
        exact ih (j + 1) (by omega)
theorem c_X12_share {l : Launch} {I : px_I} {J : px_J} {x v : Int32} {m n : Nat} (hk : m_ok I m n) : Ct l mX12_share 2 [.ref 54, .int x, .int v] I J (fun r I' J' => r = some (.int (if m_one I x = true ∧ s_within v 0 9999 = true then (if s_sum (m_had (m_lay I m n)) (I 60) n = 0 then 0 else v * s_sum (fun j => m_had (m_lay I m n) j && decide (I 56 j = x)) (I 60) n / s_sum (m_had (m_lay I m n)) (I 60) n) else -1)) ∧ m_sd m n I I' ∧ J' = J) := by
  have hn10 := hk.2.2.2.1
  have r60 : m_lay I m n 60 = I 60 := m_lay_row (by omega) (by omega)
  have r56 : m_lay I m n 56 = I 56 := m_lay_row (by omega) (by omega)
  by_cases z : m_one I x = true ∧ s_within v 0 9999 = true
  · refine Ct.of plX12_share (Nat.le_of_ble_eq_true rfl) [.ref 54, .int x, .int v, .null, .null, .null] rfl ?_
    refine V0_aload_n (pc := 0) dX12_share_0 rfl ?_
    refine V0_iload_n (pc := 1) dX12_share_1 rfl ?_
    refine V_callVi (pc := 2) (M' := mX12_isOne) dX12_share_2 mlX12_142 okX12_isOne rfl c_X12_isOne rfl rfl rfl rfl ⟨Nat.le_of_ble_eq_true rfl, Nat.le_of_ble_eq_true rfl⟩ ⟨Nat.le_refl 0, Nat.le_refl 0⟩ (Nat.le_of_ble_eq_true rfl) ?_
    refine V_ifeqb (pc := 5) 19 dX12_share_5 (by decide) (fun h5 => ?_) (fun h5 => ?_)
    · skip
      exact absurd (z.1.symm.trans (show m_one I x = false from h5)) (by decide)
    · skip
      refine V0_iload_n (pc := 8) dX12_share_8 rfl ?_
      refine V0_iconst (pc := 9) (0) dX12_share_9 (by decide) ?_
      refine V0_sipush (pc := 10) (9999) dX12_share_10 (by decide) ?_
      refine V_callSi (pc := 13) (M' := mX12_in) dX12_share_13 mlX12_131 okX12_in rfl c_X12_in rfl rfl ⟨Nat.le_of_ble_eq_true rfl, Nat.le_of_ble_eq_true rfl⟩ ⟨Nat.le_refl 0, Nat.le_refl 0⟩ (Nat.le_of_ble_eq_true rfl) ?_
      refine V_ifneb (pc := 16) 21 dX12_share_16 (by decide) (fun h16 => ?_) (fun h16 => ?_)
      · skip
        refine V0_aload_n (pc := 21) dX12_share_21 rfl ?_
        refine V_callV (pc := 22) (M' := mX12_layNow) dX12_share_22 mlX12_304 okX12_layNow rfl (c_X12_layNow hk) rfl rfl rfl rfl ⟨Nat.le_of_ble_eq_true rfl, Nat.le_of_ble_eq_true rfl⟩ ⟨Nat.le_refl 0, Nat.le_refl 0⟩ (Nat.le_of_ble_eq_true rfl) ?_
        intro r1 I1 J1 hh
        obtain ⟨e1, e2, e3⟩ := hh
        rw [e1, e2, e3]
        clear e1 e2 e3 r1 I1 J1
        refine V0_iconst (pc := 25) (0) dX12_share_25 (by decide) ?_
        refine V0_istore_3 (pc := 26) dX12_share_26 (by decide) rfl ?_
        refine V0_iconst (pc := 27) (0) dX12_share_27 (by decide) ?_
        refine V0_istore_4 (pc := 28) dX12_share_28 (by decide) rfl ?_
        refine V0_iconst (pc := 30) (0) dX12_share_30 (by decide) ?_
        refine V0_istore_5 (pc := 31) dX12_share_31 (by decide) rfl ?_
        exact lp_X12_share (n := n) hk.lay.2.2.1 hn10 ⟨by rw [if_pos z, r60, r56], m_sd_lay, rfl⟩ n 0 (by omega)
      · skip
        exact absurd (z.2.symm.trans (show s_within v 0 9999 = false from h16)) (by decide)
  · refine Ct.of plX12_share (Nat.le_of_ble_eq_true rfl) [.ref 54, .int x, .int v, .null, .null, .null] rfl ?_
    refine V0_aload_n (pc := 0) dX12_share_0 rfl ?_
    refine V0_iload_n (pc := 1) dX12_share_1 rfl ?_
    refine V_callVi (pc := 2) (M' := mX12_isOne) dX12_share_2 mlX12_142 okX12_isOne rfl c_X12_isOne rfl rfl rfl rfl ⟨Nat.le_of_ble_eq_true rfl, Nat.le_of_ble_eq_true rfl⟩ ⟨Nat.le_refl 0, Nat.le_refl 0⟩ (Nat.le_of_ble_eq_true rfl) ?_
    refine V_ifeqb (pc := 5) 19 dX12_share_5 (by decide) (fun h5 => ?_) (fun h5 => ?_)
    · skip
      refine V0_iconst (pc := 19) (-1) dX12_share_19 (by decide) ?_
      refine V_reti (pc := 20) _ dX12_share_20 rfl ?_
      exact ⟨by rw [if_neg z] <;> rfl, m_sd_refl, rfl⟩
    · skip
      refine V0_iload_n (pc := 8) dX12_share_8 rfl ?_
      refine V0_iconst (pc := 9) (0) dX12_share_9 (by decide) ?_
      refine V0_sipush (pc := 10) (9999) dX12_share_10 (by decide) ?_
      refine V_callSi (pc := 13) (M' := mX12_in) dX12_share_13 mlX12_131 okX12_in rfl c_X12_in rfl rfl ⟨Nat.le_of_ble_eq_true rfl, Nat.le_of_ble_eq_true rfl⟩ ⟨Nat.le_refl 0, Nat.le_refl 0⟩ (Nat.le_of_ble_eq_true rfl) ?_
      refine V_ifneb (pc := 16) 21 dX12_share_16 (by decide) (fun h16 => ?_) (fun h16 => ?_)
      · skip
        exact absurd ⟨h5, h16⟩ z
      · skip
        refine V0_iconst (pc := 19) (-1) dX12_share_19 (by decide) ?_
        refine V_reti (pc := 20) _ dX12_share_20 rfl ?_
        exact ⟨by rw [if_neg z] <;> rfl, m_sd_refl, rfl⟩

