/-! the Model: joys from rows -/
theorem lg_neg {x y : Int64} : lg_cmp x y < 0 ↔ x.toInt < y.toInt := by
  unfold lg_cmp
  by_cases h : x > y
  · rw [if_pos h]
    have h' := Int64.lt_iff_toInt_lt.mp h
    exact ⟨fun q => absurd q (by decide), fun q => by omega⟩
  · rw [if_neg h]
    have h' : ¬ y.toInt < x.toInt := fun q => h (Int64.lt_iff_toInt_lt.mpr q)
    by_cases e : x = y
    · rw [if_pos e]
      exact ⟨fun q => absurd q (by decide), fun q => by rw [e] at q; omega⟩
    · rw [if_neg e]
      have e' : ¬ x.toInt = y.toInt := fun q => e (Int64.toInt_inj.mp q)
      exact ⟨fun _ => by omega, fun _ => by decide⟩
theorem jl_at {i : Int32} {k : Nat} (hk : k ≤ 10) : (i.toInt64 + (3 * nI k).toInt64).toInt = i.toInt + 3 * k := by
  have h3 : (3 * nI k : Int32) = nI (3 * k) := qI_mul 3 k
  have h1 := Int32.toInt_lt i
  have h2 := Int32.le_toInt i
  rw [h3, Int64.toInt_add, Int32.toInt_toInt64, Int32.toInt_toInt64, nI_toInt (by omega), Int.bmod_eq_of_le (by omega) (by omega)]
  omega
theorem jl_two {x : Int64} (h1 : 0 ≤ x.toInt) (h2 : x.toInt < 2 ^ 40) : (x + 2).toInt = x.toInt + 2 := by
  rw [Int64.toInt_add]
  have : (2 : Int64).toInt = 2 := by decide
  rw [this, Int.bmod_eq_of_le (by omega) (by omega)]
theorem jl_i {x : Int64} {p : Nat} (h : x.toInt = p) (hp : p < 2 ^ 31) : x.toInt32 = nI p := by
  apply Int32.toInt_inj.mp
  rw [Int64.toInt_toInt32, h, nI_toInt hp, Int.bmod_eq_of_le (by omega) (by omega)]
theorem jl_c1 {i : Int32} {k : Nat} (hk : k ≤ 10) : lg_cmp (i.toInt64 + (3 * nI k).toInt64) 0 < 0 ↔ i.toInt + 3 * k < 0 := by
  rw [lg_neg, jl_at hk]
  exact Iff.rfl
theorem jl_c2 {i : Int32} {k z : Nat} (hk : k ≤ 10) (h0 : 0 ≤ i.toInt + 3 * k) (hz : z ≤ 60) : lg_cmp (i.toInt64 + (3 * nI k).toInt64 + 2) (nI z).toInt64 < 0 ↔ i.toInt + 3 * k + 2 < z := by
  have h1 := Int32.toInt_lt i
  rw [lg_neg, jl_two (by rw [jl_at hk]; exact h0) (by rw [jl_at hk]; omega), jl_at hk, Int32.toInt_toInt64, nI_toInt (by omega)]
def m_jr (z : Nat) (i : Int32) (k n : Nat) : Bool := decide (0 ≤ i.toInt + 3 * k) && decide (i.toInt + 3 * k + 2 < z) && decide (n < 10)
def m_jb (I : px_I) (J : px_J) (s p : Nat) : Bool := m_one I (m_el J s p) && s_within (m_el J s (p + 1)) 0 99 && s_within (m_el J s (p + 2)) 0 9
def m_js (J : px_J) (s z : Nat) (i : Int32) : Nat → Nat → Nat → px_I → Nat × px_I
  | 0, k, _, I => (k, I)
  | f + 1, k, n, I => if m_jr z i k n = true ∧ m_jb I J s (i.toInt + 3 * k).toNat = true then m_js J s z i f (k + 1) (n + 1) (m_addJoy I n (m_el J s (i.toInt + 3 * k).toNat) (m_el J s ((i.toInt + 3 * k).toNat + 1)) (m_el J s ((i.toInt + 3 * k).toNat + 2))) else (k, I)
theorem m_addJoy5_row {I : px_I} {n q : Nat} {o d w : Int32} (h : q < 56 ∨ 60 < q) : px_up (px_up (px_up (px_up (px_up I 56 n o) 57 n d) 58 n 2) 59 n 9) 60 n w q = I q := by rw [px_up_row (by omega), px_up_row (by omega), px_up_row (by omega), px_up_row (by omega), px_up_row (by omega)]
theorem lp_X12_joys {l : Launch} {J : px_J} {m s z N : Nat} {i : Int32} {Q : px_Q} (hN : N ≤ 10) (hs : s < 6) (hz60 : z ≤ 60) (hm7 : m ≤ 7) : ∀ (f k n : Nat) (I : px_I), k + f = N → I 54 1 = nI m → I 54 3 = nI n → n ≤ 10 → I 89 s = nI z → Q (some (.int (nI (m_js J s z i f k n I).1))) (m_js J s z i f k n I).2 J → ∀ (v5 v6 v7 : Value), V0 l (px_rm 2 0 0) mX12_joys (false, []) 0 0 58 [.ref 54, .int (nI s), .int i, .int (nI N), .int (nI k), v5, v6, v7] [] (px_mk I J) (px_q Q) := by
  intro f
  induction f with
  | zero =>
    intro k n I h1 hm hn hn10 hz hQ v5 v6 v7
    obtain rfl : k = N := by omega
    refine V0_iload (pc := 58) dX12_joys_58 rfl ?_
    refine V0_iload_n (pc := 60) dX12_joys_60 rfl ?_
    refine V1_icmp_ge (pc := 61) 215 dX12_joys_61 (by decide) (fun h61 => ?_) (fun h61 => ?_)
    · skip
      refine V0_iload_n (pc := 215) dX12_joys_215 rfl ?_
      refine V_reti (pc := 216) _ dX12_joys_216 rfl ?_
      exact hQ
    · skip
      exact absurd ((qI_lt (a := k) (b := k) (by omega) (by omega)).mp h61) (by omega)
  | succ f ih =>
    intro k n I h1 hm hn hn10 hz hQ v5 v6 v7
    have hlt : nI k < nI N := (qI_lt (by omega) (by omega)).mpr (by omega)
    have hk10 : k ≤ 10 := by omega
    by_cases hr : m_jr z i k n = true
    · have hr' := hr
      simp only [m_jr, Bool.and_eq_true, decide_eq_true_eq] at hr'
      obtain ⟨⟨r0, r1⟩, r2⟩ := hr'
      obtain ⟨p, hp⟩ : ∃ p : Nat, p = (i.toInt + 3 * k).toNat := ⟨_, rfl⟩
      have hp2 : i.toInt + 3 * k = p := by omega
      have hpz : p + 2 < z := by omega
      have ei : (60 : Int32) * nI s + (i.toInt64 + (3 * nI k).toInt64).toInt32 = nI (60 * s + p) := by
        rw [jl_i (p := p) (by rw [jl_at hk10]; exact hp2) (by omega), show (60 : Int32) = nI 60 from rfl, qI_mul, qI_add]
      have ei2 : nI (60 * s + p) + 2 = nI (60 * s + p + 2) := qI_add _ 2
      by_cases hb : m_jb I J s p = true
      · have hb' := hb
        simp only [m_jb, Bool.and_eq_true] at hb'
        obtain ⟨⟨b1, b2q⟩, b3⟩ := hb'
        rw [m_js, ← hp, if_pos ⟨hr, hb⟩] at hQ
        refine V0_iload (pc := 58) dX12_joys_58 rfl ?_
        refine V0_iload_n (pc := 60) dX12_joys_60 rfl ?_
        refine V1_icmp_ge (pc := 61) 215 dX12_joys_61 (by decide) (fun h61 => ?_) (fun h61 => ?_)
        · skip
          exact absurd hlt h61
        · skip
          refine V0_iload_n (pc := 64) dX12_joys_64 rfl ?_
          refine V0_i2l (pc := 65) dX12_joys_65 ?_
          refine V0_iconst (pc := 66) (3) dX12_joys_66 (by decide) ?_
          refine V0_iload (pc := 67) dX12_joys_67 rfl ?_
          refine V0_imul (pc := 69) dX12_joys_69 ?_
          refine V0_i2l (pc := 70) dX12_joys_70 ?_
          refine V0_ladd (pc := 71) dX12_joys_71 ?_
          refine V0_lstore_5 (pc := 72) dX12_joys_72 (by decide) rfl ?_
          refine V0_lload (pc := 74) dX12_joys_74 rfl ?_
          refine V0_lconst (pc := 76) 0 dX12_joys_76 (by decide) ?_
          refine V0_lcmp (pc := 77) dX12_joys_77 ?_
          refine V0_if_lt (pc := 78) 107 dX12_joys_78 (by decide) (fun h78 => ?_) (fun h78 => ?_)
          · skip
            exact absurd ((jl_c1 hk10).mp h78) (by omega)
          · skip
            refine V0_lload (pc := 81) dX12_joys_81 rfl ?_
            refine V0_ldc2 (pc := 83) dX12_joys_83 csX12_152 ?_
            refine V0_ladd (pc := 86) dX12_joys_86 ?_
            refine V0_aload_n (pc := 87) dX12_joys_87 rfl ?_
            refine V_getr (pc := 88) dX12_joys_88 flX12_114 rfl rfl ?_
            refine V0_iload_n (pc := 91) dX12_joys_91 rfl ?_
            refine V_iald (pc := 92) s dX12_joys_92 rfl rfl (by omega) ?_
            rw [hz]
            refine V0_i2l (pc := 93) dX12_joys_93 ?_
            refine V0_lcmp (pc := 94) dX12_joys_94 ?_
            refine V1_if_ge (pc := 95) 107 dX12_joys_95 (by decide) (fun h95 => ?_) (fun h95 => ?_)
            · skip
              exact absurd ((jl_c2 hk10 r0 hz60).mpr r1) h95
            · skip
              refine V0_aload_n (pc := 98) dX12_joys_98 rfl ?_
              refine V_geti (pc := 99) dX12_joys_99 flX12_135 rfl rfl ?_
              rw [hn]
              refine V0_bipush (pc := 102) (10) dX12_joys_102 (by decide) ?_
              refine V0_icmp_ne (pc := 104) 110 dX12_joys_104 (by decide) (fun h104 => ?_) (fun h104 => ?_)
              · skip
                refine V0_bipush (pc := 110) (60) dX12_joys_110 (by decide) ?_
                refine V0_iload_n (pc := 112) dX12_joys_112 rfl ?_
                refine V0_imul (pc := 113) dX12_joys_113 ?_
                refine V0_lload (pc := 114) dX12_joys_114 rfl ?_
                refine V0_l2i (pc := 116) dX12_joys_116 ?_
                refine V0_iadd (pc := 117) dX12_joys_117 ?_
                rw [ei]
                refine V0_istore_7 (pc := 118) dX12_joys_118 (by decide) rfl ?_
                refine V0_aload_n (pc := 120) dX12_joys_120 rfl ?_
                refine V0_aload_n (pc := 121) dX12_joys_121 rfl ?_
                refine V_getr (pc := 122) dX12_joys_122 flX12_117 rfl rfl ?_
                refine V0_iload (pc := 125) dX12_joys_125 rfl ?_
                refine V_lald (pc := 127) (60 * s + p) dX12_joys_127 rfl rfl (by omega) ?_
                refine V0_l2i (pc := 128) dX12_joys_128 ?_
                refine V_callVi (pc := 129) (M' := mX12_isOne) dX12_joys_129 mlX12_142 okX12_isOne rfl c_X12_isOne rfl rfl rfl rfl ⟨Nat.le_of_ble_eq_true rfl, Nat.le_of_ble_eq_true rfl⟩ ⟨Nat.le_refl 0, Nat.le_refl 0⟩ (Nat.le_of_ble_eq_true rfl) ?_
                refine V_ifeqb (pc := 132) 173 dX12_joys_132 (by decide) (fun h132 => ?_) (fun h132 => ?_)
                · skip
                  exact absurd (b1.symm.trans (show m_one I (m_el J s p) = false from h132)) (by decide)
                · skip
                  refine V0_aload_n (pc := 135) dX12_joys_135 rfl ?_
                  refine V_getr (pc := 136) dX12_joys_136 flX12_117 rfl rfl ?_
                  refine V0_iload (pc := 139) dX12_joys_139 rfl ?_
                  refine V0_iconst (pc := 141) (1) dX12_joys_141 (by decide) ?_
                  refine V0_iadd (pc := 142) dX12_joys_142 ?_
                  rw [nI_1]
                  refine V_lald (pc := 143) (60 * s + p + 1) dX12_joys_143 rfl rfl (by omega) ?_
                  refine V0_l2i (pc := 144) dX12_joys_144 ?_
                  refine V0_iconst (pc := 145) (0) dX12_joys_145 (by decide) ?_
                  refine V0_bipush (pc := 146) (99) dX12_joys_146 (by decide) ?_
                  refine V_callSi (pc := 148) (M' := mX12_in) dX12_joys_148 mlX12_131 okX12_in rfl c_X12_in rfl rfl ⟨Nat.le_of_ble_eq_true rfl, Nat.le_of_ble_eq_true rfl⟩ ⟨Nat.le_refl 0, Nat.le_refl 0⟩ (Nat.le_of_ble_eq_true rfl) ?_
                  refine V_ifeqb (pc := 151) 173 dX12_joys_151 (by decide) (fun h151 => ?_) (fun h151 => ?_)
                  · skip
                    exact absurd (b2q.symm.trans (show s_within (m_el J s (p + 1)) 0 99 = false from h151)) (by decide)
                  · skip
                    refine V0_aload_n (pc := 154) dX12_joys_154 rfl ?_
                    refine V_getr (pc := 155) dX12_joys_155 flX12_117 rfl rfl ?_
                    refine V0_iload (pc := 158) dX12_joys_158 rfl ?_
                    refine V0_iconst (pc := 160) (2) dX12_joys_160 (by decide) ?_
                    refine V0_iadd (pc := 161) dX12_joys_161 ?_
                    rw [ei2]
                    refine V_lald (pc := 162) (60 * s + p + 2) dX12_joys_162 rfl rfl (by omega) ?_
                    refine V0_l2i (pc := 163) dX12_joys_163 ?_
                    refine V0_iconst (pc := 164) (0) dX12_joys_164 (by decide) ?_
                    refine V0_bipush (pc := 165) (9) dX12_joys_165 (by decide) ?_
                    refine V_callSi (pc := 167) (M' := mX12_in) dX12_joys_167 mlX12_131 okX12_in rfl c_X12_in rfl rfl ⟨Nat.le_of_ble_eq_true rfl, Nat.le_of_ble_eq_true rfl⟩ ⟨Nat.le_refl 0, Nat.le_refl 0⟩ (Nat.le_of_ble_eq_true rfl) ?_
                    refine V_ifneb (pc := 170) 176 dX12_joys_170 (by decide) (fun h170 => ?_) (fun h170 => ?_)
                    · skip
                      refine V0_aload_n (pc := 176) dX12_joys_176 rfl ?_
                      refine V0_aload_n (pc := 177) dX12_joys_177 rfl ?_
                      refine V_getr (pc := 178) dX12_joys_178 flX12_117 rfl rfl ?_
                      refine V0_iload (pc := 181) dX12_joys_181 rfl ?_
                      refine V_lald (pc := 183) (60 * s + p) dX12_joys_183 rfl rfl (by omega) ?_
                      refine V0_l2i (pc := 184) dX12_joys_184 ?_
                      refine V0_aload_n (pc := 185) dX12_joys_185 rfl ?_
                      refine V_getr (pc := 186) dX12_joys_186 flX12_117 rfl rfl ?_
                      refine V0_iload (pc := 189) dX12_joys_189 rfl ?_
                      refine V0_iconst (pc := 191) (1) dX12_joys_191 (by decide) ?_
                      refine V0_iadd (pc := 192) dX12_joys_192 ?_
                      rw [nI_1]
                      refine V_lald (pc := 193) (60 * s + p + 1) dX12_joys_193 rfl rfl (by omega) ?_
                      refine V0_l2i (pc := 194) dX12_joys_194 ?_
                      refine V0_aload_n (pc := 195) dX12_joys_195 rfl ?_
                      refine V_getr (pc := 196) dX12_joys_196 flX12_117 rfl rfl ?_
                      refine V0_iload (pc := 199) dX12_joys_199 rfl ?_
                      refine V0_iconst (pc := 201) (2) dX12_joys_201 (by decide) ?_
                      refine V0_iadd (pc := 202) dX12_joys_202 ?_
                      rw [ei2]
                      refine V_lald (pc := 203) (60 * s + p + 2) dX12_joys_203 rfl rfl (by omega) ?_
                      refine V0_l2i (pc := 204) dX12_joys_204 ?_
                      refine V_callV (pc := 205) (M' := mX12_addJoy) dX12_joys_205 mlX12_145 okX12_addJoy rfl (c_X12_addJoy hn r2) rfl rfl rfl rfl ⟨Nat.le_of_ble_eq_true rfl, Nat.le_of_ble_eq_true rfl⟩ ⟨Nat.le_refl 0, Nat.le_refl 0⟩ (Nat.le_of_ble_eq_true rfl) ?_
                      intro r1 I1 J1 hh
                      obtain ⟨e1, e2, e3⟩ := hh
                      rw [e1, e2, e3]
                      clear e1 e2 e3 r1 I1 J1
                      refine V0_pop (pc := 208) dX12_joys_208 rfl ?_
                      refine V0_iinc_4 (pc := 209) (nI (k + 1)) dX12_joys_209 (by decide) rfl (nI_1 _) ?_
                      refine V0_goto (pc := 212) 58 dX12_joys_212 (by decide) ?_
                      exact ih (k + 1) (n + 1) _ (by omega) ((px_up_ne (by omega)).trans ((congrFun (m_addJoy5_row (by omega)) 1).trans hm)) px_up_same (by omega) ((congrFun (px_up_row (by omega)) s).trans ((congrFun (m_addJoy5_row (by omega)) s).trans hz)) hQ _ _ _
                    · skip
                      exact absurd (b3.symm.trans (show s_within (m_el J s (p + 2)) 0 9 = false from h170)) (by decide)
              · skip
                exact absurd ((qI_inj (b := 10) (by omega) (by omega)).mp h104) (by omega)
      · rw [m_js, ← hp, if_neg (fun q => hb q.2)] at hQ
        have hbx : ∀ q1 : m_one I (m_el J s p) = true, ∀ q2 : s_within (m_el J s (p + 1)) 0 99 = true, ∀ q3 : s_within (m_el J s (p + 2)) 0 9 = true, False := fun q1 q2 q3 => hb (by rw [m_jb, q1, q2, q3]; rfl)
        refine V0_iload (pc := 58) dX12_joys_58 rfl ?_
        refine V0_iload_n (pc := 60) dX12_joys_60 rfl ?_
        refine V1_icmp_ge (pc := 61) 215 dX12_joys_61 (by decide) (fun h61 => ?_) (fun h61 => ?_)
        · skip
          exact absurd hlt h61
        · skip
          refine V0_iload_n (pc := 64) dX12_joys_64 rfl ?_
          refine V0_i2l (pc := 65) dX12_joys_65 ?_
          refine V0_iconst (pc := 66) (3) dX12_joys_66 (by decide) ?_
          refine V0_iload (pc := 67) dX12_joys_67 rfl ?_
          refine V0_imul (pc := 69) dX12_joys_69 ?_
          refine V0_i2l (pc := 70) dX12_joys_70 ?_
          refine V0_ladd (pc := 71) dX12_joys_71 ?_
          refine V0_lstore_5 (pc := 72) dX12_joys_72 (by decide) rfl ?_
          refine V0_lload (pc := 74) dX12_joys_74 rfl ?_
          refine V0_lconst (pc := 76) 0 dX12_joys_76 (by decide) ?_
          refine V0_lcmp (pc := 77) dX12_joys_77 ?_
          refine V0_if_lt (pc := 78) 107 dX12_joys_78 (by decide) (fun h78 => ?_) (fun h78 => ?_)
          · skip
            exact absurd ((jl_c1 hk10).mp h78) (by omega)
          · skip
            refine V0_lload (pc := 81) dX12_joys_81 rfl ?_
            refine V0_ldc2 (pc := 83) dX12_joys_83 csX12_152 ?_
            refine V0_ladd (pc := 86) dX12_joys_86 ?_
            refine V0_aload_n (pc := 87) dX12_joys_87 rfl ?_
            refine V_getr (pc := 88) dX12_joys_88 flX12_114 rfl rfl ?_
            refine V0_iload_n (pc := 91) dX12_joys_91 rfl ?_
            refine V_iald (pc := 92) s dX12_joys_92 rfl rfl (by omega) ?_
            rw [hz]
            refine V0_i2l (pc := 93) dX12_joys_93 ?_
            refine V0_lcmp (pc := 94) dX12_joys_94 ?_
            refine V1_if_ge (pc := 95) 107 dX12_joys_95 (by decide) (fun h95 => ?_) (fun h95 => ?_)
            · skip
              exact absurd ((jl_c2 hk10 r0 hz60).mpr r1) h95
            · skip
              refine V0_aload_n (pc := 98) dX12_joys_98 rfl ?_
              refine V_geti (pc := 99) dX12_joys_99 flX12_135 rfl rfl ?_
              rw [hn]
              refine V0_bipush (pc := 102) (10) dX12_joys_102 (by decide) ?_
              refine V0_icmp_ne (pc := 104) 110 dX12_joys_104 (by decide) (fun h104 => ?_) (fun h104 => ?_)
              · skip
                refine V0_bipush (pc := 110) (60) dX12_joys_110 (by decide) ?_
                refine V0_iload_n (pc := 112) dX12_joys_112 rfl ?_
                refine V0_imul (pc := 113) dX12_joys_113 ?_
                refine V0_lload (pc := 114) dX12_joys_114 rfl ?_
                refine V0_l2i (pc := 116) dX12_joys_116 ?_
                refine V0_iadd (pc := 117) dX12_joys_117 ?_
                rw [ei]
                refine V0_istore_7 (pc := 118) dX12_joys_118 (by decide) rfl ?_
                refine V0_aload_n (pc := 120) dX12_joys_120 rfl ?_
                refine V0_aload_n (pc := 121) dX12_joys_121 rfl ?_
                refine V_getr (pc := 122) dX12_joys_122 flX12_117 rfl rfl ?_
                refine V0_iload (pc := 125) dX12_joys_125 rfl ?_
                refine V_lald (pc := 127) (60 * s + p) dX12_joys_127 rfl rfl (by omega) ?_
                refine V0_l2i (pc := 128) dX12_joys_128 ?_
                refine V_callVi (pc := 129) (M' := mX12_isOne) dX12_joys_129 mlX12_142 okX12_isOne rfl c_X12_isOne rfl rfl rfl rfl ⟨Nat.le_of_ble_eq_true rfl, Nat.le_of_ble_eq_true rfl⟩ ⟨Nat.le_refl 0, Nat.le_refl 0⟩ (Nat.le_of_ble_eq_true rfl) ?_
                refine V_ifeqb (pc := 132) 173 dX12_joys_132 (by decide) (fun h132 => ?_) (fun h132 => ?_)
                · skip
                  refine V0_iload (pc := 173) dX12_joys_173 rfl ?_
                  refine V_reti (pc := 175) _ dX12_joys_175 rfl ?_
                  exact hQ
                · skip
                  refine V0_aload_n (pc := 135) dX12_joys_135 rfl ?_
                  refine V_getr (pc := 136) dX12_joys_136 flX12_117 rfl rfl ?_
                  refine V0_iload (pc := 139) dX12_joys_139 rfl ?_
                  refine V0_iconst (pc := 141) (1) dX12_joys_141 (by decide) ?_
                  refine V0_iadd (pc := 142) dX12_joys_142 ?_
                  rw [nI_1]
                  refine V_lald (pc := 143) (60 * s + p + 1) dX12_joys_143 rfl rfl (by omega) ?_
                  refine V0_l2i (pc := 144) dX12_joys_144 ?_
                  refine V0_iconst (pc := 145) (0) dX12_joys_145 (by decide) ?_
                  refine V0_bipush (pc := 146) (99) dX12_joys_146 (by decide) ?_
                  refine V_callSi (pc := 148) (M' := mX12_in) dX12_joys_148 mlX12_131 okX12_in rfl c_X12_in rfl rfl ⟨Nat.le_of_ble_eq_true rfl, Nat.le_of_ble_eq_true rfl⟩ ⟨Nat.le_refl 0, Nat.le_refl 0⟩ (Nat.le_of_ble_eq_true rfl) ?_
                  refine V_ifeqb (pc := 151) 173 dX12_joys_151 (by decide) (fun h151 => ?_) (fun h151 => ?_)
                  · skip
                    refine V0_iload (pc := 173) dX12_joys_173 rfl ?_
                    refine V_reti (pc := 175) _ dX12_joys_175 rfl ?_
                    exact hQ
                  · skip
                    refine V0_aload_n (pc := 154) dX12_joys_154 rfl ?_
                    refine V_getr (pc := 155) dX12_joys_155 flX12_117 rfl rfl ?_
                    refine V0_iload (pc := 158) dX12_joys_158 rfl ?_
                    refine V0_iconst (pc := 160) (2) dX12_joys_160 (by decide) ?_
                    refine V0_iadd (pc := 161) dX12_joys_161 ?_
                    rw [ei2]
                    refine V_lald (pc := 162) (60 * s + p + 2) dX12_joys_162 rfl rfl (by omega) ?_
                    refine V0_l2i (pc := 163) dX12_joys_163 ?_
                    refine V0_iconst (pc := 164) (0) dX12_joys_164 (by decide) ?_
                    refine V0_bipush (pc := 165) (9) dX12_joys_165 (by decide) ?_
                    refine V_callSi (pc := 167) (M' := mX12_in) dX12_joys_167 mlX12_131 okX12_in rfl c_X12_in rfl rfl ⟨Nat.le_of_ble_eq_true rfl, Nat.le_of_ble_eq_true rfl⟩ ⟨Nat.le_refl 0, Nat.le_refl 0⟩ (Nat.le_of_ble_eq_true rfl) ?_
                    refine V_ifneb (pc := 170) 176 dX12_joys_170 (by decide) (fun h170 => ?_) (fun h170 => ?_)
                    · skip
                      exact (hbx h132 h151 h170).elim
                    · skip
                      refine V0_iload (pc := 173) dX12_joys_173 rfl ?_
                      refine V_reti (pc := 175) _ dX12_joys_175 rfl ?_
                      exact hQ
              · skip
                exact absurd ((qI_inj (b := 10) (by omega) (by omega)).mp h104) (by omega)
    · rw [m_js, if_neg (fun q => hr q.1)] at hQ
      have hrx : ∀ q1 : ¬ i.toInt + 3 * k < 0, ∀ q2 : i.toInt + 3 * k + 2 < z, ∀ q3 : n < 10, False := fun q1 q2 q3 => hr (by rw [m_jr, decide_eq_true (show 0 ≤ i.toInt + 3 * k from by omega), decide_eq_true q2, decide_eq_true q3]; rfl)
      refine V0_iload (pc := 58) dX12_joys_58 rfl ?_
      refine V0_iload_n (pc := 60) dX12_joys_60 rfl ?_
      refine V1_icmp_ge (pc := 61) 215 dX12_joys_61 (by decide) (fun h61 => ?_) (fun h61 => ?_)
      · skip
        exact absurd hlt h61
      · skip
        refine V0_iload_n (pc := 64) dX12_joys_64 rfl ?_
        refine V0_i2l (pc := 65) dX12_joys_65 ?_
        refine V0_iconst (pc := 66) (3) dX12_joys_66 (by decide) ?_
        refine V0_iload (pc := 67) dX12_joys_67 rfl ?_
        refine V0_imul (pc := 69) dX12_joys_69 ?_
        refine V0_i2l (pc := 70) dX12_joys_70 ?_
        refine V0_ladd (pc := 71) dX12_joys_71 ?_
        refine V0_lstore_5 (pc := 72) dX12_joys_72 (by decide) rfl ?_
        refine V0_lload (pc := 74) dX12_joys_74 rfl ?_
        refine V0_lconst (pc := 76) 0 dX12_joys_76 (by decide) ?_
        refine V0_lcmp (pc := 77) dX12_joys_77 ?_
        refine V0_if_lt (pc := 78) 107 dX12_joys_78 (by decide) (fun h78 => ?_) (fun h78 => ?_)
        · skip
          refine V0_iload (pc := 107) dX12_joys_107 rfl ?_
          refine V_reti (pc := 109) _ dX12_joys_109 rfl ?_
          exact hQ
        · skip
          refine V0_lload (pc := 81) dX12_joys_81 rfl ?_
          refine V0_ldc2 (pc := 83) dX12_joys_83 csX12_152 ?_
          refine V0_ladd (pc := 86) dX12_joys_86 ?_
          refine V0_aload_n (pc := 87) dX12_joys_87 rfl ?_
          refine V_getr (pc := 88) dX12_joys_88 flX12_114 rfl rfl ?_
          refine V0_iload_n (pc := 91) dX12_joys_91 rfl ?_
          refine V_iald (pc := 92) s dX12_joys_92 rfl rfl (by omega) ?_
          rw [hz]
          refine V0_i2l (pc := 93) dX12_joys_93 ?_
          refine V0_lcmp (pc := 94) dX12_joys_94 ?_
          refine V1_if_ge (pc := 95) 107 dX12_joys_95 (by decide) (fun h95 => ?_) (fun h95 => ?_)
          · skip
            refine V0_iload (pc := 107) dX12_joys_107 rfl ?_
            refine V_reti (pc := 109) _ dX12_joys_109 rfl ?_
            exact hQ
          · skip
            refine V0_aload_n (pc := 98) dX12_joys_98 rfl ?_
            refine V_geti (pc := 99) dX12_joys_99 flX12_135 rfl rfl ?_
            rw [hn]
            refine V0_bipush (pc := 102) (10) dX12_joys_102 (by decide) ?_
            refine V0_icmp_ne (pc := 104) 110 dX12_joys_104 (by decide) (fun h104 => ?_) (fun h104 => ?_)
            · skip
              exact (hrx (fun q => h78 ((jl_c1 hk10).mpr q)) ((jl_c2 hk10 (Int.not_lt.mp (fun q => h78 ((jl_c1 hk10).mpr q))) hz60).mp h95) (Nat.lt_of_le_of_ne hn10 (fun e => h104 (by rw [e]; rfl)))).elim
            · skip
              refine V0_iload (pc := 107) dX12_joys_107 rfl ?_
              refine V_reti (pc := 109) _ dX12_joys_109 rfl ?_
              exact hQ
theorem c_X12_joys {l : Launch} {I : px_I} {J : px_J} {s i x : Int32} {m n : Nat} (hm : I 54 1 = nI m) (hm7 : m ≤ 7) (hn : I 54 3 = nI n) (hn10 : n ≤ 10) (hz : m_szok I) : Ct l mX12_joys 2 [.ref 54, .int s, .int i, .int x] I J (px_qi (if s_within s 0 5 = true ∧ s_within x 1 10 = true then (if I 88 (ix s) = -1 then 0 else if I 88 (ix s) = -2 then nI (m_js J (ix s) (m_z I s) i (ix x) 0 n I).1 else -12) else -1) (if (s_within s 0 5 = true ∧ s_within x 1 10 = true) ∧ ¬ I 88 (ix s) = -1 ∧ I 88 (ix s) = -2 then (m_js J (ix s) (m_z I s) i (ix x) 0 n I).2 else I) J) := by
  by_cases z : s_within s 0 5 = true ∧ s_within x 1 10 = true
  · have hs := w_ixc (m := 5) (by omega) rfl z.1
    have hx := w_1ix (c := 10) (by omega) rfl z.2
    have hs6 : ix s < 6 := hs.2
    have hzz := hz (ix s) hs6
    have h0 := lp_X12_joys (l := l) (J := J) (m := m) (s := ix s) (z := m_z I s) (N := ix x) (i := i) (Q := px_qi (if s_within s 0 5 = true ∧ s_within x 1 10 = true then (if I 88 (ix s) = -1 then 0 else if I 88 (ix s) = -2 then nI (m_js J (ix s) (m_z I s) i (ix x) 0 n I).1 else -12) else -1) (if (s_within s 0 5 = true ∧ s_within x 1 10 = true) ∧ ¬ I 88 (ix s) = -1 ∧ I 88 (ix s) = -2 then (m_js J (ix s) (m_z I s) i (ix x) 0 n I).2 else I) J) hx.2 hs6 hzz.2 hm7 (ix x) 0 n I (by omega) hm hn hn10 hzz.1
    have JJ : ¬ I 88 (ix s) = -1 → I 88 (ix s) = -2 → V0 l (px_rm 2 0 0) mX12_joys (false, []) 0 0 58 [.ref 54, .int s, .int i, .int x, .int (nI 0), .null, .null, .null] [] (px_mk I J) (px_q (px_qi (if s_within s 0 5 = true ∧ s_within x 1 10 = true then (if I 88 (ix s) = -1 then 0 else if I 88 (ix s) = -2 then nI (m_js J (ix s) (m_z I s) i (ix x) 0 n I).1 else -12) else -1) (if (s_within s 0 5 = true ∧ s_within x 1 10 = true) ∧ ¬ I 88 (ix s) = -1 ∧ I 88 (ix s) = -2 then (m_js J (ix s) (m_z I s) i (ix x) 0 n I).2 else I) J)) := by
      intro a b
      have h1 := h0 ⟨by rw [if_pos z, if_neg a, if_pos b], by rw [if_pos ⟨z, a, b⟩], rfl⟩ .null .null .null
      rw [← hs.1, ← hx.1] at h1
      exact h1
    refine Ct.of plX12_joys (Nat.le_of_ble_eq_true rfl) [.ref 54, .int s, .int i, .int x, .null, .null, .null, .null] rfl ?_
    refine V0_iload_n (pc := 0) dX12_joys_0 rfl ?_
    refine V_callSi (pc := 1) (M' := mX12_isShelf) dX12_joys_1 mlX12_149 okX12_isShelf rfl c_X12_isShelf rfl rfl ⟨Nat.le_of_ble_eq_true rfl, Nat.le_of_ble_eq_true rfl⟩ ⟨Nat.le_refl 0, Nat.le_refl 0⟩ (Nat.le_of_ble_eq_true rfl) ?_
    refine V_ifeqb (pc := 4) 17 dX12_joys_4 (by decide) (fun h4 => ?_) (fun h4 => ?_)
    · skip
      exact absurd (z.1.symm.trans (show s_within s 0 5 = false from h4)) (by decide)
    · skip
      refine V0_iload_n (pc := 7) dX12_joys_7 rfl ?_
      refine V0_iconst (pc := 8) (1) dX12_joys_8 (by decide) ?_
      refine V0_bipush (pc := 9) (10) dX12_joys_9 (by decide) ?_
      refine V_callSi (pc := 11) (M' := mX12_in) dX12_joys_11 mlX12_131 okX12_in rfl c_X12_in rfl rfl ⟨Nat.le_of_ble_eq_true rfl, Nat.le_of_ble_eq_true rfl⟩ ⟨Nat.le_refl 0, Nat.le_refl 0⟩ (Nat.le_of_ble_eq_true rfl) ?_
      refine V_ifneb (pc := 14) 19 dX12_joys_14 (by decide) (fun h14 => ?_) (fun h14 => ?_)
      · skip
        refine V0_aload_n (pc := 19) dX12_joys_19 rfl ?_
        refine V_getr (pc := 20) dX12_joys_20 flX12_111 rfl rfl ?_
        refine V0_iload_n (pc := 23) dX12_joys_23 rfl ?_
        refine V_iald (pc := 24) (ix s) dX12_joys_24 rfl hs.1 hs6 ?_
        refine V0_iconst (pc := 25) (-1) dX12_joys_25 (by decide) ?_
        refine V0_icmp_eq (pc := 26) 43 dX12_joys_26 (by decide) (fun h26 => ?_) (fun h26 => ?_)
        · skip
          refine V0_aload_n (pc := 43) dX12_joys_43 rfl ?_
          refine V_getr (pc := 44) dX12_joys_44 flX12_111 rfl rfl ?_
          refine V0_iload_n (pc := 47) dX12_joys_47 rfl ?_
          refine V_iald (pc := 48) (ix s) dX12_joys_48 rfl hs.1 hs6 ?_
          refine V0_iconst (pc := 49) (-1) dX12_joys_49 (by decide) ?_
          refine V0_icmp_ne (pc := 50) 55 dX12_joys_50 (by decide) (fun h50 => ?_) (fun h50 => ?_)
          · skip
            refine V0_iconst (pc := 55) (0) dX12_joys_55 (by decide) ?_
            refine V0_istore_4 (pc := 56) dX12_joys_56 (by decide) rfl ?_
            first | exact absurd h26 h50 | exact JJ h50 h37
          · skip
            refine V0_iconst (pc := 53) (0) dX12_joys_53 (by decide) ?_
            refine V_reti (pc := 54) _ dX12_joys_54 rfl ?_
            exact ⟨by rw [if_pos z, if_pos h50] <;> rfl, by rw [if_neg (fun q => q.2.1 h50)], rfl⟩
        · skip
          refine V0_aload_n (pc := 29) dX12_joys_29 rfl ?_
          refine V_getr (pc := 30) dX12_joys_30 flX12_111 rfl rfl ?_
          refine V0_iload_n (pc := 33) dX12_joys_33 rfl ?_
          refine V_iald (pc := 34) (ix s) dX12_joys_34 rfl hs.1 hs6 ?_
          refine V0_bipush (pc := 35) (-2) dX12_joys_35 (by decide) ?_
          refine V0_icmp_eq (pc := 37) 43 dX12_joys_37 (by decide) (fun h37 => ?_) (fun h37 => ?_)
          · skip
            refine V0_aload_n (pc := 43) dX12_joys_43 rfl ?_
            refine V_getr (pc := 44) dX12_joys_44 flX12_111 rfl rfl ?_
            refine V0_iload_n (pc := 47) dX12_joys_47 rfl ?_
            refine V_iald (pc := 48) (ix s) dX12_joys_48 rfl hs.1 hs6 ?_
            refine V0_iconst (pc := 49) (-1) dX12_joys_49 (by decide) ?_
            refine V0_icmp_ne (pc := 50) 55 dX12_joys_50 (by decide) (fun h50 => ?_) (fun h50 => ?_)
            · skip
              refine V0_iconst (pc := 55) (0) dX12_joys_55 (by decide) ?_
              refine V0_istore_4 (pc := 56) dX12_joys_56 (by decide) rfl ?_
              first | exact absurd h26 h50 | exact JJ h50 h37
            · skip
              refine V0_iconst (pc := 53) (0) dX12_joys_53 (by decide) ?_
              refine V_reti (pc := 54) _ dX12_joys_54 rfl ?_
              exact ⟨by rw [if_pos z, if_pos h50] <;> rfl, by rw [if_neg (fun q => q.2.1 h50)], rfl⟩
          · skip
            refine V0_bipush (pc := 40) (-12) dX12_joys_40 (by decide) ?_
            refine V_reti (pc := 42) _ dX12_joys_42 rfl ?_
            exact ⟨by rw [if_pos z, if_neg h26, if_neg h37] <;> rfl, by rw [if_neg (fun q => h37 q.2.2)], rfl⟩
      · skip
        exact absurd (z.2.symm.trans (show s_within x 1 10 = false from h14)) (by decide)
  · refine Ct.of plX12_joys (Nat.le_of_ble_eq_true rfl) [.ref 54, .int s, .int i, .int x, .null, .null, .null, .null] rfl ?_
    refine V0_iload_n (pc := 0) dX12_joys_0 rfl ?_
    refine V_callSi (pc := 1) (M' := mX12_isShelf) dX12_joys_1 mlX12_149 okX12_isShelf rfl c_X12_isShelf rfl rfl ⟨Nat.le_of_ble_eq_true rfl, Nat.le_of_ble_eq_true rfl⟩ ⟨Nat.le_refl 0, Nat.le_refl 0⟩ (Nat.le_of_ble_eq_true rfl) ?_
    refine V_ifeqb (pc := 4) 17 dX12_joys_4 (by decide) (fun h4 => ?_) (fun h4 => ?_)
    · skip
      refine V0_iconst (pc := 17) (-1) dX12_joys_17 (by decide) ?_
      refine V_reti (pc := 18) _ dX12_joys_18 rfl ?_
      exact ⟨by rw [if_neg z] <;> rfl, by rw [if_neg (fun q => z q.1)], rfl⟩
    · skip
      refine V0_iload_n (pc := 7) dX12_joys_7 rfl ?_
      refine V0_iconst (pc := 8) (1) dX12_joys_8 (by decide) ?_
      refine V0_bipush (pc := 9) (10) dX12_joys_9 (by decide) ?_
      refine V_callSi (pc := 11) (M' := mX12_in) dX12_joys_11 mlX12_131 okX12_in rfl c_X12_in rfl rfl ⟨Nat.le_of_ble_eq_true rfl, Nat.le_of_ble_eq_true rfl⟩ ⟨Nat.le_refl 0, Nat.le_refl 0⟩ (Nat.le_of_ble_eq_true rfl) ?_
      refine V_ifneb (pc := 14) 19 dX12_joys_14 (by decide) (fun h14 => ?_) (fun h14 => ?_)
      · skip
        exact absurd ⟨h4, h14⟩ z
      · skip
        refine V0_iconst (pc := 17) (-1) dX12_joys_17 (by decide) ?_
        refine V_reti (pc := 18) _ dX12_joys_18 rfl ?_
        exact ⟨by rw [if_neg z] <;> rfl, by rw [if_neg (fun q => z q.1)], rfl⟩

