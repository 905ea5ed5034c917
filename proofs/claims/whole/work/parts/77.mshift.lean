/-! the Model: rows moved; joys from rows -/
theorem m_run_ix {z : Nat} {i n : Int32} (hz : z ≤ 60) (h1 : ¬ i < 0) (h2 : ¬ n < 0) (h3 : ¬ nI z - n < i) : i = nI (ix i) ∧ n = nI (ix n) ∧ ix i + ix n ≤ z := by
  refine ⟨nI_ix h1, nI_ix h2, ?_⟩
  rw [nI_ix h2, nI_ix h1, px_nlt, Int32.le_iff_toInt_le] at h3
  have bi : ix i < 2 ^ 31 := by have := Int32.toInt_lt i; show i.toInt.toNat < _; omega
  have bn : ix n < 2 ^ 31 := by have := Int32.toInt_lt n; show n.toInt.toNat < _; omega
  rw [nI_toInt bi, Int32.toInt_sub, nI_toInt (by omega), nI_toInt bn] at h3
  rw [Int.bmod_eq_of_le (by omega) (by omega)] at h3
  omega
theorem px_cpL_0 {J : px_J} {q sp r dp : Nat} : px_cpL J q sp r dp 0 = J := by
  funext p i
  simp only [px_cpL]
  rw [if_neg (by omega)]
theorem px_cpL_s {J : px_J} {q sp r dp k : Nat} : px_upL (px_cpL J q sp r dp k) r (dp + k) (J q (sp + k)) = px_cpL J q sp r dp (k + 1) := by
  funext p i
  simp only [px_upL, px_cpL]
  by_cases h : p = r ∧ i = dp + k
  · rw [if_pos h, if_pos ⟨h.1, by omega, by omega⟩, h.2, show dp + k - dp = k from by omega]
  · rw [if_neg h]
    by_cases h2 : p = r ∧ dp ≤ i ∧ i < dp + k
    · rw [if_pos h2, if_pos ⟨h2.1, by omega, by omega⟩]
    · rw [if_neg h2, if_neg (fun q => by
        by_cases e : i = dp + k
        · exact h ⟨q.1, e⟩
        · exact h2 ⟨q.1, q.2.1, by omega⟩)]
theorem px_cpL_row {J : px_J} {q sp r dp k p : Nat} (h : p ≠ r) : px_cpL J q sp r dp k p = J p := by
  funext i
  simp only [px_cpL]
  rw [if_neg (fun e => h e.1)]
theorem m_idx {s i k : Nat} : (60 : Int32) * nI s + nI i + nI k = nI (60 * s + i + k) := by rw [show (60 : Int32) = nI 60 from rfl, qI_mul, qI_add, qI_add]
theorem l1_X12_shift {l : Launch} {I : px_I} {J : px_J} {s i n : Nat} {o j : Int32} {Q : px_Q} (hs : s < 6) (hi : i + n ≤ 60) (kk : V0 l (px_rm 2 0 0) mX12_shift (false, []) 0 0 147 [.ref 54, .int (nI s), .int (nI i), .int o, .int j, .int (nI n), .int (nI n)] [] (px_mk I (px_cpL J 90 (60 * s + i) 91 0 n)) (px_q Q)) : ∀ (f k : Nat), k + f = n → V0 l (px_rm 2 0 0) mX12_shift (false, []) 0 0 113 [.ref 54, .int (nI s), .int (nI i), .int o, .int j, .int (nI n), .int (nI k)] [] (px_mk I (px_cpL J 90 (60 * s + i) 91 0 k)) (px_q Q) := by
  intro f
  induction f with
  | zero =>
    intro k h1
    obtain rfl : k = n := by omega
    refine V0_iload (pc := 113) dX12_shift_113 rfl ?_
    refine V0_iload (pc := 115) dX12_shift_115 rfl ?_
    refine V1_icmp_ge (pc := 117) 147 dX12_shift_117 (by decide) (fun h117 => ?_) (fun h117 => ?_)
    · skip
      exact kk
    · skip
      exact absurd ((qI_lt (a := k) (b := k) (by omega) (by omega)).mp h117) (by omega)
  | succ f ih =>
    intro k h1
    have hlt : nI k < nI n := (qI_lt (by omega) (by omega)).mpr (by omega)
    have e1 : px_upL (px_cpL J 90 (60 * s + i) 91 0 k) 91 k (J 90 (60 * s + i + k)) = px_cpL J 90 (60 * s + i) 91 0 (k + 1) := by
      have := px_cpL_s (J := J) (q := 90) (sp := 60 * s + i) (r := 91) (dp := 0) (k := k)
      rw [Nat.zero_add] at this
      exact this
    refine V0_iload (pc := 113) dX12_shift_113 rfl ?_
    refine V0_iload (pc := 115) dX12_shift_115 rfl ?_
    refine V1_icmp_ge (pc := 117) 147 dX12_shift_117 (by decide) (fun h117 => ?_) (fun h117 => ?_)
    · skip
      exact absurd hlt h117
    · skip
      refine V0_aload_n (pc := 120) dX12_shift_120 rfl ?_
      refine V_getr (pc := 121) dX12_shift_121 flX12_121 rfl rfl ?_
      refine V0_iload (pc := 124) dX12_shift_124 rfl ?_
      refine V0_aload_n (pc := 126) dX12_shift_126 rfl ?_
      refine V_getr (pc := 127) dX12_shift_127 flX12_117 rfl rfl ?_
      refine V0_bipush (pc := 130) (60) dX12_shift_130 (by decide) ?_
      refine V0_iload_n (pc := 132) dX12_shift_132 rfl ?_
      refine V0_imul (pc := 133) dX12_shift_133 ?_
      refine V0_iload_n (pc := 134) dX12_shift_134 rfl ?_
      refine V0_iadd (pc := 135) dX12_shift_135 ?_
      refine V0_iload (pc := 136) dX12_shift_136 rfl ?_
      refine V0_iadd (pc := 138) dX12_shift_138 ?_
      rw [m_idx]
      refine V_lald (pc := 139) (60 * s + i + k) dX12_shift_139 rfl rfl (by omega) ?_
      rw [show px_cpL J 90 (60 * s + i) 91 0 k 90 = J 90 from px_cpL_row (by omega)]
      refine V_last (pc := 140) k dX12_shift_140 rfl rfl (by omega) ?_
      refine V0_iinc_6 (pc := 141) (nI (k + 1)) dX12_shift_141 (by decide) rfl (nI_1 _) ?_
      refine V0_goto (pc := 144) 113 dX12_shift_144 (by decide) ?_
      rw [e1]
      exact ih (k + 1) (by omega)
theorem l2_X12_shift {l : Launch} {I : px_I} {J : px_J} {o j n : Nat} {s i : Int32} {Q : px_Q} (ho : o < 6) (hj : j + n ≤ 60) (hQ : Q (some (.int (nI n))) I (px_cpL J 91 0 90 (60 * o + j) n)) : ∀ (f k : Nat), k + f = n → V0 l (px_rm 2 0 0) mX12_shift (false, []) 0 0 150 [.ref 54, .int s, .int i, .int (nI o), .int (nI j), .int (nI n), .int (nI k)] [] (px_mk I (px_cpL J 91 0 90 (60 * o + j) k)) (px_q Q) := by
  intro f
  induction f with
  | zero =>
    intro k h1
    obtain rfl : k = n := by omega
    refine V0_iload (pc := 150) dX12_shift_150 rfl ?_
    refine V0_iload (pc := 152) dX12_shift_152 rfl ?_
    refine V1_icmp_ge (pc := 154) 185 dX12_shift_154 (by decide) (fun h154 => ?_) (fun h154 => ?_)
    · skip
      refine V0_iload (pc := 185) dX12_shift_185 rfl ?_
      refine V_reti (pc := 187) _ dX12_shift_187 rfl ?_
      exact hQ
    · skip
      exact absurd ((qI_lt (a := k) (b := k) (by omega) (by omega)).mp h154) (by omega)
  | succ f ih =>
    intro k h1
    have hlt : nI k < nI n := (qI_lt (by omega) (by omega)).mpr (by omega)
    have e1 : px_upL (px_cpL J 91 0 90 (60 * o + j) k) 90 (60 * o + j + k) (J 91 k) = px_cpL J 91 0 90 (60 * o + j) (k + 1) := by
      have := px_cpL_s (J := J) (q := 91) (sp := 0) (r := 90) (dp := 60 * o + j) (k := k)
      rw [Nat.zero_add] at this
      exact this
    refine V0_iload (pc := 150) dX12_shift_150 rfl ?_
    refine V0_iload (pc := 152) dX12_shift_152 rfl ?_
    refine V1_icmp_ge (pc := 154) 185 dX12_shift_154 (by decide) (fun h154 => ?_) (fun h154 => ?_)
    · skip
      exact absurd hlt h154
    · skip
      refine V0_aload_n (pc := 157) dX12_shift_157 rfl ?_
      refine V_getr (pc := 158) dX12_shift_158 flX12_117 rfl rfl ?_
      refine V0_bipush (pc := 161) (60) dX12_shift_161 (by decide) ?_
      refine V0_iload_n (pc := 163) dX12_shift_163 rfl ?_
      refine V0_imul (pc := 164) dX12_shift_164 ?_
      refine V0_iload (pc := 165) dX12_shift_165 rfl ?_
      refine V0_iadd (pc := 167) dX12_shift_167 ?_
      refine V0_iload (pc := 168) dX12_shift_168 rfl ?_
      refine V0_iadd (pc := 170) dX12_shift_170 ?_
      rw [m_idx]
      refine V0_aload_n (pc := 171) dX12_shift_171 rfl ?_
      refine V_getr (pc := 172) dX12_shift_172 flX12_121 rfl rfl ?_
      refine V0_iload (pc := 175) dX12_shift_175 rfl ?_
      refine V_lald (pc := 177) k dX12_shift_177 rfl rfl (by omega) ?_
      rw [show px_cpL J 91 0 90 (60 * o + j) k 91 = J 91 from px_cpL_row (by omega)]
      refine V_last (pc := 178) (60 * o + j + k) dX12_shift_178 rfl rfl (by omega) ?_
      refine V0_iinc_6 (pc := 179) (nI (k + 1)) dX12_shift_179 (by decide) rfl (nI_1 _) ?_
      refine V0_goto (pc := 182) 150 dX12_shift_182 (by decide) ?_
      rw [e1]
      exact ih (k + 1) (by omega)
theorem q2_X12_shift {l : Launch} {I : px_I} {J : px_J} {o j n : Nat} {s i v6 : Int32} {Q : px_Q} (ho : o < 6) (hj : j + n ≤ 60) (hQ : Q (some (.int (nI n))) I (px_cpL J 91 0 90 (60 * o + j) n)) : V0 l (px_rm 2 0 0) mX12_shift (false, []) 0 0 147 [.ref 54, .int s, .int i, .int (nI o), .int (nI j), .int (nI n), .int v6] [] (px_mk I J) (px_q Q) := by
  have h := l2_X12_shift (l := l) (I := I) (J := J) (s := s) (i := i) ho hj hQ n 0 (by omega)
  rw [px_cpL_0] at h
  refine V0_iconst (pc := 147) (0) dX12_shift_147 (by decide) ?_
  refine V0_istore_6 (pc := 148) dX12_shift_148 (by decide) rfl ?_
  exact h
theorem W_shift {l : Launch} {I : px_I} {J : px_J} {s i o j n : Int32} {Q : px_Q} (hs : ix s < 6) (ho : ix o < 6) (es : s = nI (ix s)) (ei : i = nI (ix i)) (eo : o = nI (ix o)) (ej : j = nI (ix j)) (en : n = nI (ix n)) (hi : ix i + ix n ≤ 60) (hj : ix j + ix n ≤ 60) (hQ : Q (some (.int n)) I (px_cpL (px_cpL J 90 (60 * ix s + ix i) 91 0 (ix n)) 91 0 90 (60 * ix o + ix j) (ix n))) : V0 l (px_rm 2 0 0) mX12_shift (false, []) 0 0 110 [.ref 54, .int s, .int i, .int o, .int j, .int n, .null] [] (px_mk I J) (px_q Q) := by
  rw [en] at hQ
  rw [ix_nI (show ix n < 2 ^ 31 from by omega)] at hQ
  have h2 := q2_X12_shift (l := l) (I := I) (s := nI (ix s)) (i := nI (ix i)) (v6 := nI (ix n)) ho hj hQ
  have h1 := l1_X12_shift (l := l) (I := I) (J := J) (o := nI (ix o)) (j := nI (ix j)) hs hi h2 (ix n) 0 (by omega)
  rw [px_cpL_0, ← es, ← ei, ← eo, ← ej, ← en] at h1
  refine V0_iconst (pc := 110) (0) dX12_shift_110 (by decide) ?_
  refine V0_istore_6 (pc := 111) dX12_shift_111 (by decide) rfl ?_
  exact h1
def m_sg (I : px_I) (s i o j n : Int32) : Prop := ¬ n < 0 ∧ ¬ i < 0 ∧ ¬ j < 0 ∧ ¬ (I 89 (ix s) - n < i) ∧ ¬ (I 89 (ix o) - n < j)
theorem c_X12_shift {l : Launch} {I : px_I} {J : px_J} {s i o j n : Int32} (hz : m_szok I) : Ct l mX12_shift 2 [.ref 54, .int s, .int i, .int o, .int j, .int n] I J (fun r I' J' => I' = I ∧ (((s_within s 0 5 = true ∧ s_within o 0 5 = true) ∧ ((I 88 (ix s) = -1 ∨ I 88 (ix o) = -1) ∧ r = some (.int (-11)) ∧ J' = J ∨ ¬ (I 88 (ix s) = -1 ∨ I 88 (ix o) = -1) ∧ ((I 88 (ix s) < 0 ∧ I 88 (ix s) = I 88 (ix o)) ∧ (m_sg I s i o j n ∧ r = some (.int n) ∧ J' = px_cpL (px_cpL J 90 (60 * ix s + ix i) 91 0 (ix n)) 91 0 90 (60 * ix o + ix j) (ix n) ∨ ¬ m_sg I s i o j n ∧ r = some (.int (-13)) ∧ J' = J) ∨ ¬ (I 88 (ix s) < 0 ∧ I 88 (ix s) = I 88 (ix o)) ∧ r = some (.int (-12)) ∧ J' = J))) ∨ (¬ (s_within s 0 5 = true ∧ s_within o 0 5 = true) ∧ r = some (.int (-1)) ∧ J' = J))) := by
  by_cases z : s_within s 0 5 = true ∧ s_within o 0 5 = true
  · have hs := w_ixc (m := 5) (by omega) rfl z.1
    have ho := w_ixc (m := 5) (by omega) rfl z.2
    have hs6 : ix s < 6 := hs.2
    have ho6 : ix o < 6 := ho.2
    have zs := hz (ix s) hs6
    have zo := hz (ix o) ho6
    by_cases g : m_sg I s i o j n
    · have r1 := m_run_ix (z := ix (I 89 (ix s))) zs.2 g.2.1 g.1 (by rw [← zs.1]; exact g.2.2.2.1)
      have r2 := m_run_ix (z := ix (I 89 (ix o))) zo.2 g.2.2.1 g.1 (by rw [← zo.1]; exact g.2.2.2.2)
      refine Ct.of plX12_shift (Nat.le_of_ble_eq_true rfl) [.ref 54, .int s, .int i, .int o, .int j, .int n, .null] rfl ?_
      refine V0_iload_n (pc := 0) dX12_shift_0 rfl ?_
      refine V_callSi (pc := 1) (M' := mX12_isShelf) dX12_shift_1 mlX12_149 okX12_isShelf rfl c_X12_isShelf rfl rfl ⟨Nat.le_of_ble_eq_true rfl, Nat.le_of_ble_eq_true rfl⟩ ⟨Nat.le_refl 0, Nat.le_refl 0⟩ (Nat.le_of_ble_eq_true rfl) ?_
      refine V_ifeqb (pc := 4) 14 dX12_shift_4 (by decide) (fun h4 => ?_) (fun h4 => ?_)
      · skip
        exact absurd (z.1.symm.trans (show s_within s 0 5 = false from h4)) (by decide)
      · skip
        refine V0_iload_n (pc := 7) dX12_shift_7 rfl ?_
        refine V_callSi (pc := 8) (M' := mX12_isShelf) dX12_shift_8 mlX12_149 okX12_isShelf rfl c_X12_isShelf rfl rfl ⟨Nat.le_of_ble_eq_true rfl, Nat.le_of_ble_eq_true rfl⟩ ⟨Nat.le_refl 0, Nat.le_refl 0⟩ (Nat.le_of_ble_eq_true rfl) ?_
        refine V_ifneb (pc := 11) 16 dX12_shift_11 (by decide) (fun h11 => ?_) (fun h11 => ?_)
        · skip
          refine V0_aload_n (pc := 16) dX12_shift_16 rfl ?_
          refine V_getr (pc := 17) dX12_shift_17 flX12_111 rfl rfl ?_
          refine V0_iload_n (pc := 20) dX12_shift_20 rfl ?_
          refine V_iald (pc := 21) (ix s) dX12_shift_21 rfl hs.1 hs6 ?_
          refine V0_iconst (pc := 22) (-1) dX12_shift_22 (by decide) ?_
          refine V0_icmp_eq (pc := 23) 36 dX12_shift_23 (by decide) (fun h23 => ?_) (fun h23 => ?_)
          · skip
            refine V0_bipush (pc := 36) (-11) dX12_shift_36 (by decide) ?_
            refine V_reti (pc := 38) _ dX12_shift_38 rfl ?_
            first | exact ⟨rfl, Or.inl ⟨z, Or.inl ⟨Or.inl h23, rfl, rfl⟩⟩⟩ | exact ⟨rfl, Or.inl ⟨z, Or.inl ⟨Or.inr h33, rfl, rfl⟩⟩⟩
          · skip
            refine V0_aload_n (pc := 26) dX12_shift_26 rfl ?_
            refine V_getr (pc := 27) dX12_shift_27 flX12_111 rfl rfl ?_
            refine V0_iload_n (pc := 30) dX12_shift_30 rfl ?_
            refine V_iald (pc := 31) (ix o) dX12_shift_31 rfl ho.1 ho6 ?_
            refine V0_iconst (pc := 32) (-1) dX12_shift_32 (by decide) ?_
            refine V0_icmp_ne (pc := 33) 39 dX12_shift_33 (by decide) (fun h33 => ?_) (fun h33 => ?_)
            · skip
              refine V0_aload_n (pc := 39) dX12_shift_39 rfl ?_
              refine V_getr (pc := 40) dX12_shift_40 flX12_111 rfl rfl ?_
              refine V0_iload_n (pc := 43) dX12_shift_43 rfl ?_
              refine V_iald (pc := 44) (ix s) dX12_shift_44 rfl hs.1 hs6 ?_
              refine V1_if_ge (pc := 45) 63 dX12_shift_45 (by decide) (fun h45 => ?_) (fun h45 => ?_)
              · skip
                refine V0_bipush (pc := 63) (-12) dX12_shift_63 (by decide) ?_
                refine V_reti (pc := 65) _ dX12_shift_65 rfl ?_
                first | exact ⟨rfl, Or.inl ⟨z, Or.inr ⟨not_or.mpr ⟨h23, h33⟩, Or.inr ⟨not_and_of_not_left _ h45, rfl, rfl⟩⟩⟩⟩ | exact ⟨rfl, Or.inl ⟨z, Or.inr ⟨not_or.mpr ⟨h23, h33⟩, Or.inr ⟨not_and_of_not_right _ h60, rfl, rfl⟩⟩⟩⟩
              · skip
                refine V0_aload_n (pc := 48) dX12_shift_48 rfl ?_
                refine V_getr (pc := 49) dX12_shift_49 flX12_111 rfl rfl ?_
                refine V0_iload_n (pc := 52) dX12_shift_52 rfl ?_
                refine V_iald (pc := 53) (ix s) dX12_shift_53 rfl hs.1 hs6 ?_
                refine V0_aload_n (pc := 54) dX12_shift_54 rfl ?_
                refine V_getr (pc := 55) dX12_shift_55 flX12_111 rfl rfl ?_
                refine V0_iload_n (pc := 58) dX12_shift_58 rfl ?_
                refine V_iald (pc := 59) (ix o) dX12_shift_59 rfl ho.1 ho6 ?_
                refine V0_icmp_eq (pc := 60) 66 dX12_shift_60 (by decide) (fun h60 => ?_) (fun h60 => ?_)
                · skip
                  refine V0_iload (pc := 66) dX12_shift_66 rfl ?_
                  refine V0_if_lt (pc := 68) 107 dX12_shift_68 (by decide) (fun h68 => ?_) (fun h68 => ?_)
                  · skip
                    exact absurd h68 g.1
                  · skip
                    refine V0_iload_n (pc := 71) dX12_shift_71 rfl ?_
                    refine V0_if_lt (pc := 72) 107 dX12_shift_72 (by decide) (fun h72 => ?_) (fun h72 => ?_)
                    · skip
                      exact absurd h72 g.2.1
                    · skip
                      refine V0_iload (pc := 75) dX12_shift_75 rfl ?_
                      refine V0_if_lt (pc := 77) 107 dX12_shift_77 (by decide) (fun h77 => ?_) (fun h77 => ?_)
                      · skip
                        exact absurd h77 g.2.2.1
                      · skip
                        refine V0_iload_n (pc := 80) dX12_shift_80 rfl ?_
                        refine V0_aload_n (pc := 81) dX12_shift_81 rfl ?_
                        refine V_getr (pc := 82) dX12_shift_82 flX12_114 rfl rfl ?_
                        refine V0_iload_n (pc := 85) dX12_shift_85 rfl ?_
                        refine V_iald (pc := 86) (ix s) dX12_shift_86 rfl hs.1 hs6 ?_
                        refine V0_iload (pc := 87) dX12_shift_87 rfl ?_
                        refine V0_isub (pc := 89) dX12_shift_89 ?_
                        refine V0_icmp_gt (pc := 90) 107 dX12_shift_90 (by decide) (fun h90 => ?_) (fun h90 => ?_)
                        · skip
                          exact absurd h90 g.2.2.2.1
                        · skip
                          refine V0_iload (pc := 93) dX12_shift_93 rfl ?_
                          refine V0_aload_n (pc := 95) dX12_shift_95 rfl ?_
                          refine V_getr (pc := 96) dX12_shift_96 flX12_114 rfl rfl ?_
                          refine V0_iload_n (pc := 99) dX12_shift_99 rfl ?_
                          refine V_iald (pc := 100) (ix o) dX12_shift_100 rfl ho.1 ho6 ?_
                          refine V0_iload (pc := 101) dX12_shift_101 rfl ?_
                          refine V0_isub (pc := 103) dX12_shift_103 ?_
                          refine V1_icmp_le (pc := 104) 110 dX12_shift_104 (by decide) (fun h104 => ?_) (fun h104 => ?_)
                          · skip
                            exact W_shift hs6 ho6 hs.1 r1.1 ho.1 r2.1 r1.2.1 (by omega) (by omega) ⟨rfl, Or.inl ⟨z, Or.inr ⟨not_or.mpr ⟨h23, h33⟩, Or.inl ⟨⟨h45, h60⟩, Or.inl ⟨g, rfl, rfl⟩⟩⟩⟩⟩
                          · skip
                            exact absurd h104 g.2.2.2.2
                · skip
                  refine V0_bipush (pc := 63) (-12) dX12_shift_63 (by decide) ?_
                  refine V_reti (pc := 65) _ dX12_shift_65 rfl ?_
                  first | exact ⟨rfl, Or.inl ⟨z, Or.inr ⟨not_or.mpr ⟨h23, h33⟩, Or.inr ⟨not_and_of_not_left _ h45, rfl, rfl⟩⟩⟩⟩ | exact ⟨rfl, Or.inl ⟨z, Or.inr ⟨not_or.mpr ⟨h23, h33⟩, Or.inr ⟨not_and_of_not_right _ h60, rfl, rfl⟩⟩⟩⟩
            · skip
              refine V0_bipush (pc := 36) (-11) dX12_shift_36 (by decide) ?_
              refine V_reti (pc := 38) _ dX12_shift_38 rfl ?_
              first | exact ⟨rfl, Or.inl ⟨z, Or.inl ⟨Or.inl h23, rfl, rfl⟩⟩⟩ | exact ⟨rfl, Or.inl ⟨z, Or.inl ⟨Or.inr h33, rfl, rfl⟩⟩⟩
        · skip
          exact absurd (z.2.symm.trans (show s_within o 0 5 = false from h11)) (by decide)
    · have gg : ∀ (r : Option Value), r = some (.int (-13)) → ¬ (I 88 (ix s) = -1 ∨ I 88 (ix o) = -1) → (I 88 (ix s) < 0 ∧ I 88 (ix s) = I 88 (ix o)) → I = I ∧ (((s_within s 0 5 = true ∧ s_within o 0 5 = true) ∧ ((I 88 (ix s) = -1 ∨ I 88 (ix o) = -1) ∧ r = some (.int (-11)) ∧ J = J ∨ ¬ (I 88 (ix s) = -1 ∨ I 88 (ix o) = -1) ∧ ((I 88 (ix s) < 0 ∧ I 88 (ix s) = I 88 (ix o)) ∧ (m_sg I s i o j n ∧ r = some (.int n) ∧ J = px_cpL (px_cpL J 90 (60 * ix s + ix i) 91 0 (ix n)) 91 0 90 (60 * ix o + ix j) (ix n) ∨ ¬ m_sg I s i o j n ∧ r = some (.int (-13)) ∧ J = J) ∨ ¬ (I 88 (ix s) < 0 ∧ I 88 (ix s) = I 88 (ix o)) ∧ r = some (.int (-12)) ∧ J = J))) ∨ (¬ (s_within s 0 5 = true ∧ s_within o 0 5 = true) ∧ r = some (.int (-1)) ∧ J = J)) := fun r e a b => ⟨rfl, Or.inl ⟨z, Or.inr ⟨a, Or.inl ⟨b, Or.inr ⟨g, e, rfl⟩⟩⟩⟩⟩
      refine Ct.of plX12_shift (Nat.le_of_ble_eq_true rfl) [.ref 54, .int s, .int i, .int o, .int j, .int n, .null] rfl ?_
      refine V0_iload_n (pc := 0) dX12_shift_0 rfl ?_
      refine V_callSi (pc := 1) (M' := mX12_isShelf) dX12_shift_1 mlX12_149 okX12_isShelf rfl c_X12_isShelf rfl rfl ⟨Nat.le_of_ble_eq_true rfl, Nat.le_of_ble_eq_true rfl⟩ ⟨Nat.le_refl 0, Nat.le_refl 0⟩ (Nat.le_of_ble_eq_true rfl) ?_
      refine V_ifeqb (pc := 4) 14 dX12_shift_4 (by decide) (fun h4 => ?_) (fun h4 => ?_)
      · skip
        exact absurd (z.1.symm.trans (show s_within s 0 5 = false from h4)) (by decide)
      · skip
        refine V0_iload_n (pc := 7) dX12_shift_7 rfl ?_
        refine V_callSi (pc := 8) (M' := mX12_isShelf) dX12_shift_8 mlX12_149 okX12_isShelf rfl c_X12_isShelf rfl rfl ⟨Nat.le_of_ble_eq_true rfl, Nat.le_of_ble_eq_true rfl⟩ ⟨Nat.le_refl 0, Nat.le_refl 0⟩ (Nat.le_of_ble_eq_true rfl) ?_
        refine V_ifneb (pc := 11) 16 dX12_shift_11 (by decide) (fun h11 => ?_) (fun h11 => ?_)
        · skip
          refine V0_aload_n (pc := 16) dX12_shift_16 rfl ?_
          refine V_getr (pc := 17) dX12_shift_17 flX12_111 rfl rfl ?_
          refine V0_iload_n (pc := 20) dX12_shift_20 rfl ?_
          refine V_iald (pc := 21) (ix s) dX12_shift_21 rfl hs.1 hs6 ?_
          refine V0_iconst (pc := 22) (-1) dX12_shift_22 (by decide) ?_
          refine V0_icmp_eq (pc := 23) 36 dX12_shift_23 (by decide) (fun h23 => ?_) (fun h23 => ?_)
          · skip
            refine V0_bipush (pc := 36) (-11) dX12_shift_36 (by decide) ?_
            refine V_reti (pc := 38) _ dX12_shift_38 rfl ?_
            first | exact ⟨rfl, Or.inl ⟨z, Or.inl ⟨Or.inl h23, rfl, rfl⟩⟩⟩ | exact ⟨rfl, Or.inl ⟨z, Or.inl ⟨Or.inr h33, rfl, rfl⟩⟩⟩
          · skip
            refine V0_aload_n (pc := 26) dX12_shift_26 rfl ?_
            refine V_getr (pc := 27) dX12_shift_27 flX12_111 rfl rfl ?_
            refine V0_iload_n (pc := 30) dX12_shift_30 rfl ?_
            refine V_iald (pc := 31) (ix o) dX12_shift_31 rfl ho.1 ho6 ?_
            refine V0_iconst (pc := 32) (-1) dX12_shift_32 (by decide) ?_
            refine V0_icmp_ne (pc := 33) 39 dX12_shift_33 (by decide) (fun h33 => ?_) (fun h33 => ?_)
            · skip
              refine V0_aload_n (pc := 39) dX12_shift_39 rfl ?_
              refine V_getr (pc := 40) dX12_shift_40 flX12_111 rfl rfl ?_
              refine V0_iload_n (pc := 43) dX12_shift_43 rfl ?_
              refine V_iald (pc := 44) (ix s) dX12_shift_44 rfl hs.1 hs6 ?_
              refine V1_if_ge (pc := 45) 63 dX12_shift_45 (by decide) (fun h45 => ?_) (fun h45 => ?_)
              · skip
                refine V0_bipush (pc := 63) (-12) dX12_shift_63 (by decide) ?_
                refine V_reti (pc := 65) _ dX12_shift_65 rfl ?_
                first | exact ⟨rfl, Or.inl ⟨z, Or.inr ⟨not_or.mpr ⟨h23, h33⟩, Or.inr ⟨not_and_of_not_left _ h45, rfl, rfl⟩⟩⟩⟩ | exact ⟨rfl, Or.inl ⟨z, Or.inr ⟨not_or.mpr ⟨h23, h33⟩, Or.inr ⟨not_and_of_not_right _ h60, rfl, rfl⟩⟩⟩⟩
              · skip
                refine V0_aload_n (pc := 48) dX12_shift_48 rfl ?_
                refine V_getr (pc := 49) dX12_shift_49 flX12_111 rfl rfl ?_
                refine V0_iload_n (pc := 52) dX12_shift_52 rfl ?_
                refine V_iald (pc := 53) (ix s) dX12_shift_53 rfl hs.1 hs6 ?_
                refine V0_aload_n (pc := 54) dX12_shift_54 rfl ?_
                refine V_getr (pc := 55) dX12_shift_55 flX12_111 rfl rfl ?_
                refine V0_iload_n (pc := 58) dX12_shift_58 rfl ?_
                refine V_iald (pc := 59) (ix o) dX12_shift_59 rfl ho.1 ho6 ?_
                refine V0_icmp_eq (pc := 60) 66 dX12_shift_60 (by decide) (fun h60 => ?_) (fun h60 => ?_)
                · skip
                  refine V0_iload (pc := 66) dX12_shift_66 rfl ?_
                  refine V0_if_lt (pc := 68) 107 dX12_shift_68 (by decide) (fun h68 => ?_) (fun h68 => ?_)
                  · skip
                    refine V0_bipush (pc := 107) (-13) dX12_shift_107 (by decide) ?_
                    refine V_reti (pc := 109) _ dX12_shift_109 rfl ?_
                    exact gg _ rfl (not_or.mpr ⟨h23, h33⟩) ⟨h45, h60⟩
                  · skip
                    refine V0_iload_n (pc := 71) dX12_shift_71 rfl ?_
                    refine V0_if_lt (pc := 72) 107 dX12_shift_72 (by decide) (fun h72 => ?_) (fun h72 => ?_)
                    · skip
                      refine V0_bipush (pc := 107) (-13) dX12_shift_107 (by decide) ?_
                      refine V_reti (pc := 109) _ dX12_shift_109 rfl ?_
                      exact gg _ rfl (not_or.mpr ⟨h23, h33⟩) ⟨h45, h60⟩
                    · skip
                      refine V0_iload (pc := 75) dX12_shift_75 rfl ?_
                      refine V0_if_lt (pc := 77) 107 dX12_shift_77 (by decide) (fun h77 => ?_) (fun h77 => ?_)
                      · skip
                        refine V0_bipush (pc := 107) (-13) dX12_shift_107 (by decide) ?_
                        refine V_reti (pc := 109) _ dX12_shift_109 rfl ?_
                        exact gg _ rfl (not_or.mpr ⟨h23, h33⟩) ⟨h45, h60⟩
                      · skip
                        refine V0_iload_n (pc := 80) dX12_shift_80 rfl ?_
                        refine V0_aload_n (pc := 81) dX12_shift_81 rfl ?_
                        refine V_getr (pc := 82) dX12_shift_82 flX12_114 rfl rfl ?_
                        refine V0_iload_n (pc := 85) dX12_shift_85 rfl ?_
                        refine V_iald (pc := 86) (ix s) dX12_shift_86 rfl hs.1 hs6 ?_
                        refine V0_iload (pc := 87) dX12_shift_87 rfl ?_
                        refine V0_isub (pc := 89) dX12_shift_89 ?_
                        refine V0_icmp_gt (pc := 90) 107 dX12_shift_90 (by decide) (fun h90 => ?_) (fun h90 => ?_)
                        · skip
                          refine V0_bipush (pc := 107) (-13) dX12_shift_107 (by decide) ?_
                          refine V_reti (pc := 109) _ dX12_shift_109 rfl ?_
                          exact gg _ rfl (not_or.mpr ⟨h23, h33⟩) ⟨h45, h60⟩
                        · skip
                          refine V0_iload (pc := 93) dX12_shift_93 rfl ?_
                          refine V0_aload_n (pc := 95) dX12_shift_95 rfl ?_
                          refine V_getr (pc := 96) dX12_shift_96 flX12_114 rfl rfl ?_
                          refine V0_iload_n (pc := 99) dX12_shift_99 rfl ?_
                          refine V_iald (pc := 100) (ix o) dX12_shift_100 rfl ho.1 ho6 ?_
                          refine V0_iload (pc := 101) dX12_shift_101 rfl ?_
                          refine V0_isub (pc := 103) dX12_shift_103 ?_
                          refine V1_icmp_le (pc := 104) 110 dX12_shift_104 (by decide) (fun h104 => ?_) (fun h104 => ?_)
                          · skip
                            exact absurd ⟨h68, h72, h77, h90, h104⟩ g
                          · skip
                            refine V0_bipush (pc := 107) (-13) dX12_shift_107 (by decide) ?_
                            refine V_reti (pc := 109) _ dX12_shift_109 rfl ?_
                            exact gg _ rfl (not_or.mpr ⟨h23, h33⟩) ⟨h45, h60⟩
                · skip
                  refine V0_bipush (pc := 63) (-12) dX12_shift_63 (by decide) ?_
                  refine V_reti (pc := 65) _ dX12_shift_65 rfl ?_
                  first | exact ⟨rfl, Or.inl ⟨z, Or.inr ⟨not_or.mpr ⟨h23, h33⟩, Or.inr ⟨not_and_of_not_left _ h45, rfl, rfl⟩⟩⟩⟩ | exact ⟨rfl, Or.inl ⟨z, Or.inr ⟨not_or.mpr ⟨h23, h33⟩, Or.inr ⟨not_and_of_not_right _ h60, rfl, rfl⟩⟩⟩⟩
            · skip
              refine V0_bipush (pc := 36) (-11) dX12_shift_36 (by decide) ?_
              refine V_reti (pc := 38) _ dX12_shift_38 rfl ?_
              first | exact ⟨rfl, Or.inl ⟨z, Or.inl ⟨Or.inl h23, rfl, rfl⟩⟩⟩ | exact ⟨rfl, Or.inl ⟨z, Or.inl ⟨Or.inr h33, rfl, rfl⟩⟩⟩
        · skip
          exact absurd (z.2.symm.trans (show s_within o 0 5 = false from h11)) (by decide)
  · refine Ct.of plX12_shift (Nat.le_of_ble_eq_true rfl) [.ref 54, .int s, .int i, .int o, .int j, .int n, .null] rfl ?_
    refine V0_iload_n (pc := 0) dX12_shift_0 rfl ?_
    refine V_callSi (pc := 1) (M' := mX12_isShelf) dX12_shift_1 mlX12_149 okX12_isShelf rfl c_X12_isShelf rfl rfl ⟨Nat.le_of_ble_eq_true rfl, Nat.le_of_ble_eq_true rfl⟩ ⟨Nat.le_refl 0, Nat.le_refl 0⟩ (Nat.le_of_ble_eq_true rfl) ?_
    refine V_ifeqb (pc := 4) 14 dX12_shift_4 (by decide) (fun h4 => ?_) (fun h4 => ?_)
    · skip
      refine V0_iconst (pc := 14) (-1) dX12_shift_14 (by decide) ?_
      refine V_reti (pc := 15) _ dX12_shift_15 rfl ?_
      exact ⟨rfl, Or.inr ⟨z, rfl, rfl⟩⟩
    · skip
      refine V0_iload_n (pc := 7) dX12_shift_7 rfl ?_
      refine V_callSi (pc := 8) (M' := mX12_isShelf) dX12_shift_8 mlX12_149 okX12_isShelf rfl c_X12_isShelf rfl rfl ⟨Nat.le_of_ble_eq_true rfl, Nat.le_of_ble_eq_true rfl⟩ ⟨Nat.le_refl 0, Nat.le_refl 0⟩ (Nat.le_of_ble_eq_true rfl) ?_
      refine V_ifneb (pc := 11) 16 dX12_shift_11 (by decide) (fun h11 => ?_) (fun h11 => ?_)
      · skip
        exact absurd ⟨h4, h11⟩ z
      · skip
        refine V0_iconst (pc := 14) (-1) dX12_shift_14 (by decide) ?_
        refine V_reti (pc := 15) _ dX12_shift_15 rfl ?_
        exact ⟨rfl, Or.inr ⟨z, rfl, rfl⟩⟩

