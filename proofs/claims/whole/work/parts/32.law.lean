/-! the law works out: one step at a time -/
def w_hd (l : Launch) (p : Nat) (X : px_I) (J : px_J) (i t : Nat) (Q : px_Q) : Prop := ∀ v3 : Value, V0 l (px_rm 2 0 0) mX3_workOut (false, []) 0 0 4 [.ref p, .int (nI t), .int (nI i), v3] [] (px_mk X J) (px_q Q)
section WO
variable {l : Launch} {p : Nat} {X : px_I} {J : px_J} {i t n : Nat} {Q : px_Q}
theorem w_out (hp : px_lw p) (hn : X p 4 = nI n) (hn8 : n ≤ 128) (hi : i = n) (hQ : Q (some (.int 0)) X J) : w_hd l p X J i t Q := by
  subst hi
  intro v3
  have hir : ¬ nI i < nI i := fun q => by rw [Int32.lt_iff_toInt_lt] at q; omega
  refine V0_iload_n (pc := 4) dX3_workOut_4 rfl ?_
  refine V0_aload_n (pc := 5) dX3_workOut_5 rfl ?_
  refine V_geti (pc := 6) dX3_workOut_6 flX3_22 hp.1 rfl ?_
  rw [hn]
  refine V1_icmp_ge (pc := 9) 228 dX3_workOut_9 (by decide) (fun h9 => ?_) (fun h9 => ?_)
  · skip
    refine V0_iconst (pc := 228) (0) dX3_workOut_228 (by decide) ?_
    refine V_reti (pc := 229) _ dX3_workOut_229 rfl ?_
    exact hQ
  · skip
    exact absurd h9 hir
theorem w_num {v : Int32} (hp : px_lw p) (hn : X p 4 = nI n) (hn8 : n ≤ 128) (hi : i < n) (ht : t < 128) (hs : X (p + 2) i = 35) (hv : X (p + 3) i = v) (kk : w_hd l p (px_up X (p + 4) t v) J (i + 1) (t + 1) Q) : w_hd l p X J i t Q := by
  intro v3
  have hlt := (qI_lt (a := i) (b := n) (by omega) (by omega)).mpr hi
  have ht8 : nI t < 128 := (qI_lt (a := t) (b := 128) (by omega) (by omega)).mpr ht
  refine V0_iload_n (pc := 4) dX3_workOut_4 rfl ?_
  refine V0_aload_n (pc := 5) dX3_workOut_5 rfl ?_
  refine V_geti (pc := 6) dX3_workOut_6 flX3_22 hp.1 rfl ?_
  rw [hn]
  refine V1_icmp_ge (pc := 9) 228 dX3_workOut_9 (by decide) (fun h9 => ?_) (fun h9 => ?_)
  · skip
    exact absurd hlt h9
  · skip
    refine V0_aload_n (pc := 12) dX3_workOut_12 rfl ?_
    refine V_getr (pc := 13) dX3_workOut_13 flX3_13 hp.1 rfl ?_
    refine V0_iload_n (pc := 16) dX3_workOut_16 rfl ?_
    refine V_iald (pc := 17) (i) dX3_workOut_17 hp.2.2.1 rfl (by omega) ?_
    rw [hs]
    refine V0_istore_3 (pc := 18) dX3_workOut_18 (by decide) rfl ?_
    refine V0_iload_n (pc := 19) dX3_workOut_19 rfl ?_
    refine V0_bipush (pc := 20) (35) dX3_workOut_20 (by decide) ?_
    refine V0_icmp_eq (pc := 22) 31 dX3_workOut_22 (by decide) (fun h22 => ?_) (fun h22 => ?_)
    · skip
      refine V0_iload_n (pc := 31) dX3_workOut_31 rfl ?_
      refine V0_sipush (pc := 32) (128) dX3_workOut_32 (by decide) ?_
      refine V1_icmp_ge (pc := 35) 222 dX3_workOut_35 (by decide) (fun h35 => ?_) (fun h35 => ?_)
      · skip
        exact absurd ht8 h35
      · skip
        refine V0_aload_n (pc := 38) dX3_workOut_38 rfl ?_
        refine V_getr (pc := 39) dX3_workOut_39 flX3_19 hp.1 rfl ?_
        refine V0_iload_n (pc := 42) dX3_workOut_42 rfl ?_
        refine V0_iinc_1 (pc := 43) (nI (t + 1)) dX3_workOut_43 (by decide) rfl (nI_1 _) ?_
        refine V0_iload_n (pc := 46) dX3_workOut_46 rfl ?_
        refine V0_bipush (pc := 47) (35) dX3_workOut_47 (by decide) ?_
        refine V0_icmp_ne (pc := 49) 61 dX3_workOut_49 (by decide) (fun h49 => ?_) (fun h49 => ?_)
        · skip
          exact absurd h49 (by decide)
        · skip
          refine V0_aload_n (pc := 52) dX3_workOut_52 rfl ?_
          refine V_getr (pc := 53) dX3_workOut_53 flX3_16 hp.1 rfl ?_
          refine V0_iload_n (pc := 56) dX3_workOut_56 rfl ?_
          refine V_iald (pc := 57) (i) dX3_workOut_57 hp.2.2.2.1 rfl (by omega) ?_
          refine V0_goto (pc := 58) 71 dX3_workOut_58 (by decide) ?_
          rw [hv]
          refine V_iast (pc := 71) (t) dX3_workOut_71 hp.2.2.2.2.1 rfl (by omega) ?_
          refine V0_goto (pc := 72) 222 dX3_workOut_72 (by decide) ?_
          refine V0_iinc_2 (pc := 222) (nI (i + 1)) dX3_workOut_222 (by decide) rfl (nI_1 _) ?_
          refine V0_goto (pc := 225) 4 dX3_workOut_225 (by decide) ?_
          exact kk _
    · skip
      exact absurd h22 (by decide)
theorem w_name {v : Int32} (hp : px_lw p) (hn : X p 4 = nI n) (hn8 : n ≤ 128) (hi : i < n) (ht : t < 128) (hs : X (p + 2) i = 36) (hv : X (p + 3) i = v) (kk : w_hd l p (px_up X (p + 4) t (g_valueOf X p v)) J (i + 1) (t + 1) Q) : w_hd l p X J i t Q := by
  intro v3
  have hlt := (qI_lt (a := i) (b := n) (by omega) (by omega)).mpr hi
  have ht8 : nI t < 128 := (qI_lt (a := t) (b := 128) (by omega) (by omega)).mpr ht
  refine V0_iload_n (pc := 4) dX3_workOut_4 rfl ?_
  refine V0_aload_n (pc := 5) dX3_workOut_5 rfl ?_
  refine V_geti (pc := 6) dX3_workOut_6 flX3_22 hp.1 rfl ?_
  rw [hn]
  refine V1_icmp_ge (pc := 9) 228 dX3_workOut_9 (by decide) (fun h9 => ?_) (fun h9 => ?_)
  · skip
    exact absurd hlt h9
  · skip
    refine V0_aload_n (pc := 12) dX3_workOut_12 rfl ?_
    refine V_getr (pc := 13) dX3_workOut_13 flX3_13 hp.1 rfl ?_
    refine V0_iload_n (pc := 16) dX3_workOut_16 rfl ?_
    refine V_iald (pc := 17) (i) dX3_workOut_17 hp.2.2.1 rfl (by omega) ?_
    rw [hs]
    refine V0_istore_3 (pc := 18) dX3_workOut_18 (by decide) rfl ?_
    refine V0_iload_n (pc := 19) dX3_workOut_19 rfl ?_
    refine V0_bipush (pc := 20) (35) dX3_workOut_20 (by decide) ?_
    refine V0_icmp_eq (pc := 22) 31 dX3_workOut_22 (by decide) (fun h22 => ?_) (fun h22 => ?_)
    · skip
      exact absurd h22 (by decide)
    · skip
      refine V0_iload_n (pc := 25) dX3_workOut_25 rfl ?_
      refine V0_bipush (pc := 26) (36) dX3_workOut_26 (by decide) ?_
      refine V0_icmp_ne (pc := 28) 75 dX3_workOut_28 (by decide) (fun h28 => ?_) (fun h28 => ?_)
      · skip
        exact absurd h28 (by decide)
      · skip
        refine V0_iload_n (pc := 31) dX3_workOut_31 rfl ?_
        refine V0_sipush (pc := 32) (128) dX3_workOut_32 (by decide) ?_
        refine V1_icmp_ge (pc := 35) 222 dX3_workOut_35 (by decide) (fun h35 => ?_) (fun h35 => ?_)
        · skip
          exact absurd ht8 h35
        · skip
          refine V0_aload_n (pc := 38) dX3_workOut_38 rfl ?_
          refine V_getr (pc := 39) dX3_workOut_39 flX3_19 hp.1 rfl ?_
          refine V0_iload_n (pc := 42) dX3_workOut_42 rfl ?_
          refine V0_iinc_1 (pc := 43) (nI (t + 1)) dX3_workOut_43 (by decide) rfl (nI_1 _) ?_
          refine V0_iload_n (pc := 46) dX3_workOut_46 rfl ?_
          refine V0_bipush (pc := 47) (35) dX3_workOut_47 (by decide) ?_
          refine V0_icmp_ne (pc := 49) 61 dX3_workOut_49 (by decide) (fun h49 => ?_) (fun h49 => ?_)
          · skip
            refine V0_aload_n (pc := 61) dX3_workOut_61 rfl ?_
            refine V0_aload_n (pc := 62) dX3_workOut_62 rfl ?_
            refine V_getr (pc := 63) dX3_workOut_63 flX3_16 hp.1 rfl ?_
            refine V0_iload_n (pc := 66) dX3_workOut_66 rfl ?_
            refine V_iald (pc := 67) (i) dX3_workOut_67 hp.2.2.2.1 rfl (by omega) ?_
            rw [hv]
            refine V_callVi (pc := 68) (M' := mX3_valueOf) dX3_workOut_68 mlX3_32 okX3_valueOf rfl (c_X3_valueOf hp) rfl rfl hp.1 rfl ⟨Nat.le_of_ble_eq_true rfl, Nat.le_of_ble_eq_true rfl⟩ ⟨Nat.le_refl 0, Nat.le_refl 0⟩ (Nat.le_of_ble_eq_true rfl) ?_
            refine V_iast (pc := 71) (t) dX3_workOut_71 hp.2.2.2.2.1 rfl (by omega) ?_
            refine V0_goto (pc := 72) 222 dX3_workOut_72 (by decide) ?_
            refine V0_iinc_2 (pc := 222) (nI (i + 1)) dX3_workOut_222 (by decide) rfl (nI_1 _) ?_
            refine V0_goto (pc := 225) 4 dX3_workOut_225 (by decide) ?_
            exact kk _
          · skip
            exact absurd h49 (by decide)
theorem w_not {a : Int32} (hp : px_lw p) (hn : X p 4 = nI n) (hn8 : n ≤ 128) (hi : i < n) (ht : t < 128) (hs : X (p + 2) i = 33) (ha : X (p + 4) t = a) (kk : w_hd l p (px_up X (p + 4) t (if a = 0 then 1 else 0)) J (i + 1) (t + 1) Q) : w_hd l p X J i (t + 1) Q := by
  intro v3
  have hlt := (qI_lt (a := i) (b := n) (by omega) (by omega)).mpr hi
  have ht1 : ¬ nI (t + 1) < 1 := fun q => absurd ((qI_lt (a := t + 1) (b := 1) (by omega) (by omega)).mp q) (by omega)
  refine V0_iload_n (pc := 4) dX3_workOut_4 rfl ?_
  refine V0_aload_n (pc := 5) dX3_workOut_5 rfl ?_
  refine V_geti (pc := 6) dX3_workOut_6 flX3_22 hp.1 rfl ?_
  rw [hn]
  refine V1_icmp_ge (pc := 9) 228 dX3_workOut_9 (by decide) (fun h9 => ?_) (fun h9 => ?_)
  · skip
    exact absurd hlt h9
  · skip
    refine V0_aload_n (pc := 12) dX3_workOut_12 rfl ?_
    refine V_getr (pc := 13) dX3_workOut_13 flX3_13 hp.1 rfl ?_
    refine V0_iload_n (pc := 16) dX3_workOut_16 rfl ?_
    refine V_iald (pc := 17) (i) dX3_workOut_17 hp.2.2.1 rfl (by omega) ?_
    rw [hs]
    refine V0_istore_3 (pc := 18) dX3_workOut_18 (by decide) rfl ?_
    refine V0_iload_n (pc := 19) dX3_workOut_19 rfl ?_
    refine V0_bipush (pc := 20) (35) dX3_workOut_20 (by decide) ?_
    refine V0_icmp_eq (pc := 22) 31 dX3_workOut_22 (by decide) (fun h22 => ?_) (fun h22 => ?_)
    · skip
      exact absurd h22 (by decide)
    · skip
      refine V0_iload_n (pc := 25) dX3_workOut_25 rfl ?_
      refine V0_bipush (pc := 26) (36) dX3_workOut_26 (by decide) ?_
      refine V0_icmp_ne (pc := 28) 75 dX3_workOut_28 (by decide) (fun h28 => ?_) (fun h28 => ?_)
      · skip
        refine V0_iload_n (pc := 75) dX3_workOut_75 rfl ?_
        refine V0_iconst (pc := 76) (1) dX3_workOut_76 (by decide) ?_
        refine V1_icmp_ge (pc := 77) 82 dX3_workOut_77 (by decide) (fun h77 => ?_) (fun h77 => ?_)
        · skip
          refine V0_iload_n (pc := 82) dX3_workOut_82 rfl ?_
          refine V0_bipush (pc := 83) (59) dX3_workOut_83 (by decide) ?_
          refine V0_icmp_ne (pc := 85) 97 dX3_workOut_85 (by decide) (fun h85 => ?_) (fun h85 => ?_)
          · skip
            refine V0_iload_n (pc := 97) dX3_workOut_97 rfl ?_
            refine V0_bipush (pc := 98) (63) dX3_workOut_98 (by decide) ?_
            refine V0_icmp_ne (pc := 100) 129 dX3_workOut_100 (by decide) (fun h100 => ?_) (fun h100 => ?_)
            · skip
              refine V0_iload_n (pc := 129) dX3_workOut_129 rfl ?_
              refine V0_bipush (pc := 130) (33) dX3_workOut_130 (by decide) ?_
              refine V0_icmp_ne (pc := 132) 162 dX3_workOut_132 (by decide) (fun h132 => ?_) (fun h132 => ?_)
              · skip
                exact absurd h132 (by decide)
              · skip
                refine V0_aload_n (pc := 135) dX3_workOut_135 rfl ?_
                refine V_getr (pc := 136) dX3_workOut_136 flX3_19 hp.1 rfl ?_
                refine V0_iload_n (pc := 139) dX3_workOut_139 rfl ?_
                refine V0_iconst (pc := 140) (1) dX3_workOut_140 (by decide) ?_
                refine V0_isub (pc := 141) dX3_workOut_141 ?_
                rw [nI_pred]
                refine V0_aload_n (pc := 142) dX3_workOut_142 rfl ?_
                refine V_getr (pc := 143) dX3_workOut_143 flX3_19 hp.1 rfl ?_
                refine V0_iload_n (pc := 146) dX3_workOut_146 rfl ?_
                refine V0_iconst (pc := 147) (1) dX3_workOut_147 (by decide) ?_
                refine V0_isub (pc := 148) dX3_workOut_148 ?_
                rw [nI_pred]
                refine V_iald (pc := 149) t dX3_workOut_149 hp.2.2.2.2.1 rfl ht ?_
                rw [ha]
                refine V0_if_ne (pc := 150) 157 dX3_workOut_150 (by decide) (fun h150 => ?_) (fun h150 => ?_)
                · skip
                  refine V0_iconst (pc := 157) (0) dX3_workOut_157 (by decide) ?_
                  refine V_iast (pc := 158) t dX3_workOut_158 hp.2.2.2.2.1 rfl ht ?_
                  refine V0_goto (pc := 159) 222 dX3_workOut_159 (by decide) ?_
                  refine V0_iinc_2 (pc := 222) (nI (i + 1)) dX3_workOut_222 (by decide) rfl (nI_1 _) ?_
                  refine V0_goto (pc := 225) 4 dX3_workOut_225 (by decide) ?_
                  have := kk
                  first | (rw [if_pos h150] at this; exact this _) | (rw [if_neg h150] at this; exact this _)
                · skip
                  refine V0_iconst (pc := 153) (1) dX3_workOut_153 (by decide) ?_
                  refine V0_goto (pc := 154) 158 dX3_workOut_154 (by decide) ?_
                  refine V_iast (pc := 158) t dX3_workOut_158 hp.2.2.2.2.1 rfl ht ?_
                  refine V0_goto (pc := 159) 222 dX3_workOut_159 (by decide) ?_
                  refine V0_iinc_2 (pc := 222) (nI (i + 1)) dX3_workOut_222 (by decide) rfl (nI_1 _) ?_
                  refine V0_goto (pc := 225) 4 dX3_workOut_225 (by decide) ?_
                  have := kk
                  first | (rw [if_pos h150] at this; exact this _) | (rw [if_neg h150] at this; exact this _)
            · skip
              exact absurd h100 (by decide)
          · skip
            exact absurd h85 (by decide)
        · skip
          exact absurd h77 ht1
      · skip
        exact absurd h28 (by decide)
theorem w_neg {a : Int32} (hp : px_lw p) (hn : X p 4 = nI n) (hn8 : n ≤ 128) (hi : i < n) (ht : t < 128) (hs : X (p + 2) i = 126) (ha : X (p + 4) t = a) (kk : w_hd l p (px_up X (p + 4) t (-a)) J (i + 1) (t + 1) Q) : w_hd l p X J i (t + 1) Q := by
  intro v3
  have hlt := (qI_lt (a := i) (b := n) (by omega) (by omega)).mpr hi
  have ht1 : ¬ nI (t + 1) < 1 := fun q => absurd ((qI_lt (a := t + 1) (b := 1) (by omega) (by omega)).mp q) (by omega)
  refine V0_iload_n (pc := 4) dX3_workOut_4 rfl ?_
  refine V0_aload_n (pc := 5) dX3_workOut_5 rfl ?_
  refine V_geti (pc := 6) dX3_workOut_6 flX3_22 hp.1 rfl ?_
  rw [hn]
  refine V1_icmp_ge (pc := 9) 228 dX3_workOut_9 (by decide) (fun h9 => ?_) (fun h9 => ?_)
  · skip
    exact absurd hlt h9
  · skip
    refine V0_aload_n (pc := 12) dX3_workOut_12 rfl ?_
    refine V_getr (pc := 13) dX3_workOut_13 flX3_13 hp.1 rfl ?_
    refine V0_iload_n (pc := 16) dX3_workOut_16 rfl ?_
    refine V_iald (pc := 17) (i) dX3_workOut_17 hp.2.2.1 rfl (by omega) ?_
    rw [hs]
    refine V0_istore_3 (pc := 18) dX3_workOut_18 (by decide) rfl ?_
    refine V0_iload_n (pc := 19) dX3_workOut_19 rfl ?_
    refine V0_bipush (pc := 20) (35) dX3_workOut_20 (by decide) ?_
    refine V0_icmp_eq (pc := 22) 31 dX3_workOut_22 (by decide) (fun h22 => ?_) (fun h22 => ?_)
    · skip
      exact absurd h22 (by decide)
    · skip
      refine V0_iload_n (pc := 25) dX3_workOut_25 rfl ?_
      refine V0_bipush (pc := 26) (36) dX3_workOut_26 (by decide) ?_
      refine V0_icmp_ne (pc := 28) 75 dX3_workOut_28 (by decide) (fun h28 => ?_) (fun h28 => ?_)
      · skip
        refine V0_iload_n (pc := 75) dX3_workOut_75 rfl ?_
        refine V0_iconst (pc := 76) (1) dX3_workOut_76 (by decide) ?_
        refine V1_icmp_ge (pc := 77) 82 dX3_workOut_77 (by decide) (fun h77 => ?_) (fun h77 => ?_)
        · skip
          refine V0_iload_n (pc := 82) dX3_workOut_82 rfl ?_
          refine V0_bipush (pc := 83) (59) dX3_workOut_83 (by decide) ?_
          refine V0_icmp_ne (pc := 85) 97 dX3_workOut_85 (by decide) (fun h85 => ?_) (fun h85 => ?_)
          · skip
            refine V0_iload_n (pc := 97) dX3_workOut_97 rfl ?_
            refine V0_bipush (pc := 98) (63) dX3_workOut_98 (by decide) ?_
            refine V0_icmp_ne (pc := 100) 129 dX3_workOut_100 (by decide) (fun h100 => ?_) (fun h100 => ?_)
            · skip
              refine V0_iload_n (pc := 129) dX3_workOut_129 rfl ?_
              refine V0_bipush (pc := 130) (33) dX3_workOut_130 (by decide) ?_
              refine V0_icmp_ne (pc := 132) 162 dX3_workOut_132 (by decide) (fun h132 => ?_) (fun h132 => ?_)
              · skip
                refine V0_iload_n (pc := 162) dX3_workOut_162 rfl ?_
                refine V0_bipush (pc := 163) (126) dX3_workOut_163 (by decide) ?_
                refine V0_icmp_ne (pc := 165) 188 dX3_workOut_165 (by decide) (fun h165 => ?_) (fun h165 => ?_)
                · skip
                  exact absurd h165 (by decide)
                · skip
                  refine V0_aload_n (pc := 168) dX3_workOut_168 rfl ?_
                  refine V_getr (pc := 169) dX3_workOut_169 flX3_19 hp.1 rfl ?_
                  refine V0_iload_n (pc := 172) dX3_workOut_172 rfl ?_
                  refine V0_iconst (pc := 173) (1) dX3_workOut_173 (by decide) ?_
                  refine V0_isub (pc := 174) dX3_workOut_174 ?_
                  rw [nI_pred]
                  refine V0_aload_n (pc := 175) dX3_workOut_175 rfl ?_
                  refine V_getr (pc := 176) dX3_workOut_176 flX3_19 hp.1 rfl ?_
                  refine V0_iload_n (pc := 179) dX3_workOut_179 rfl ?_
                  refine V0_iconst (pc := 180) (1) dX3_workOut_180 (by decide) ?_
                  refine V0_isub (pc := 181) dX3_workOut_181 ?_
                  rw [nI_pred]
                  refine V_iald (pc := 182) t dX3_workOut_182 hp.2.2.2.2.1 rfl ht ?_
                  rw [ha]
                  refine V0_ineg (pc := 183) dX3_workOut_183 ?_
                  refine V_iast (pc := 184) t dX3_workOut_184 hp.2.2.2.2.1 rfl ht ?_
                  refine V0_goto (pc := 185) 222 dX3_workOut_185 (by decide) ?_
                  refine V0_iinc_2 (pc := 222) (nI (i + 1)) dX3_workOut_222 (by decide) rfl (nI_1 _) ?_
                  refine V0_goto (pc := 225) 4 dX3_workOut_225 (by decide) ?_
                  exact kk _
              · skip
                exact absurd h132 (by decide)
            · skip
              exact absurd h100 (by decide)
          · skip
            exact absurd h85 (by decide)
        · skip
          exact absurd h77 ht1
      · skip
        exact absurd h28 (by decide)
theorem w_bin {s a b : Int32} (hp : px_lw p) (hn : X p 4 = nI n) (hn8 : n ≤ 128) (hi : i < n) (ht : t + 1 < 128) (hs : X (p + 2) i = s) (h35 : ¬ s = 35) (h36 : ¬ s = 36) (h59 : ¬ s = 59) (h63 : ¬ s = 63) (h33 : ¬ s = 33) (h126 : ¬ s = 126) (ha : X (p + 4) t = a) (hb : X (p + 4) (t + 1) = b) (kk : w_hd l p (px_up X (p + 4) t (s_join s a b)) J (i + 1) (t + 1) Q) : w_hd l p X J i (t + 2) Q := by
  intro v3
  have hlt := (qI_lt (a := i) (b := n) (by omega) (by omega)).mpr hi
  have ht1 : ¬ nI (t + 2) < 1 := fun q => absurd ((qI_lt (a := t + 2) (b := 1) (by omega) (by omega)).mp q) (by omega)
  have ht2 : (1 : Int32) < nI (t + 2) := (qI_lt (a := 1) (b := t + 2) (by omega) (by omega)).mpr (by omega)
  refine V0_iload_n (pc := 4) dX3_workOut_4 rfl ?_
  refine V0_aload_n (pc := 5) dX3_workOut_5 rfl ?_
  refine V_geti (pc := 6) dX3_workOut_6 flX3_22 hp.1 rfl ?_
  rw [hn]
  refine V1_icmp_ge (pc := 9) 228 dX3_workOut_9 (by decide) (fun h9 => ?_) (fun h9 => ?_)
  · skip
    exact absurd hlt h9
  · skip
    refine V0_aload_n (pc := 12) dX3_workOut_12 rfl ?_
    refine V_getr (pc := 13) dX3_workOut_13 flX3_13 hp.1 rfl ?_
    refine V0_iload_n (pc := 16) dX3_workOut_16 rfl ?_
    refine V_iald (pc := 17) (i) dX3_workOut_17 hp.2.2.1 rfl (by omega) ?_
    rw [hs]
    refine V0_istore_3 (pc := 18) dX3_workOut_18 (by decide) rfl ?_
    refine V0_iload_n (pc := 19) dX3_workOut_19 rfl ?_
    refine V0_bipush (pc := 20) (35) dX3_workOut_20 (by decide) ?_
    refine V0_icmp_eq (pc := 22) 31 dX3_workOut_22 (by decide) (fun h22 => ?_) (fun h22 => ?_)
    · skip
      exact absurd h22 h35
    · skip
      refine V0_iload_n (pc := 25) dX3_workOut_25 rfl ?_
      refine V0_bipush (pc := 26) (36) dX3_workOut_26 (by decide) ?_
      refine V0_icmp_ne (pc := 28) 75 dX3_workOut_28 (by decide) (fun h28 => ?_) (fun h28 => ?_)
      · skip
        refine V0_iload_n (pc := 75) dX3_workOut_75 rfl ?_
        refine V0_iconst (pc := 76) (1) dX3_workOut_76 (by decide) ?_
        refine V1_icmp_ge (pc := 77) 82 dX3_workOut_77 (by decide) (fun h77 => ?_) (fun h77 => ?_)
        · skip
          refine V0_iload_n (pc := 82) dX3_workOut_82 rfl ?_
          refine V0_bipush (pc := 83) (59) dX3_workOut_83 (by decide) ?_
          refine V0_icmp_ne (pc := 85) 97 dX3_workOut_85 (by decide) (fun h85 => ?_) (fun h85 => ?_)
          · skip
            refine V0_iload_n (pc := 97) dX3_workOut_97 rfl ?_
            refine V0_bipush (pc := 98) (63) dX3_workOut_98 (by decide) ?_
            refine V0_icmp_ne (pc := 100) 129 dX3_workOut_100 (by decide) (fun h100 => ?_) (fun h100 => ?_)
            · skip
              refine V0_iload_n (pc := 129) dX3_workOut_129 rfl ?_
              refine V0_bipush (pc := 130) (33) dX3_workOut_130 (by decide) ?_
              refine V0_icmp_ne (pc := 132) 162 dX3_workOut_132 (by decide) (fun h132 => ?_) (fun h132 => ?_)
              · skip
                refine V0_iload_n (pc := 162) dX3_workOut_162 rfl ?_
                refine V0_bipush (pc := 163) (126) dX3_workOut_163 (by decide) ?_
                refine V0_icmp_ne (pc := 165) 188 dX3_workOut_165 (by decide) (fun h165 => ?_) (fun h165 => ?_)
                · skip
                  refine V0_iload_n (pc := 188) dX3_workOut_188 rfl ?_
                  refine V0_iconst (pc := 189) (1) dX3_workOut_189 (by decide) ?_
                  refine V1_icmp_le (pc := 190) 222 dX3_workOut_190 (by decide) (fun h190 => ?_) (fun h190 => ?_)
                  · skip
                    exact absurd ht2 h190
                  · skip
                    refine V0_iinc_1 (pc := 193) (nI (t + 1)) dX3_workOut_193 (by decide) rfl (by rw [px_dc]; exact nI_pred _) ?_
                    refine V0_aload_n (pc := 196) dX3_workOut_196 rfl ?_
                    refine V_getr (pc := 197) dX3_workOut_197 flX3_19 hp.1 rfl ?_
                    refine V0_iload_n (pc := 200) dX3_workOut_200 rfl ?_
                    refine V0_iconst (pc := 201) (1) dX3_workOut_201 (by decide) ?_
                    refine V0_isub (pc := 202) dX3_workOut_202 ?_
                    rw [nI_pred]
                    refine V0_iload_n (pc := 203) dX3_workOut_203 rfl ?_
                    refine V0_aload_n (pc := 204) dX3_workOut_204 rfl ?_
                    refine V_getr (pc := 205) dX3_workOut_205 flX3_19 hp.1 rfl ?_
                    refine V0_iload_n (pc := 208) dX3_workOut_208 rfl ?_
                    refine V0_iconst (pc := 209) (1) dX3_workOut_209 (by decide) ?_
                    refine V0_isub (pc := 210) dX3_workOut_210 ?_
                    rw [nI_pred]
                    refine V_iald (pc := 211) t dX3_workOut_211 hp.2.2.2.2.1 rfl (by omega) ?_
                    rw [ha]
                    refine V0_aload_n (pc := 212) dX3_workOut_212 rfl ?_
                    refine V_getr (pc := 213) dX3_workOut_213 flX3_19 hp.1 rfl ?_
                    refine V0_iload_n (pc := 216) dX3_workOut_216 rfl ?_
                    refine V_iald (pc := 217) (t + 1) dX3_workOut_217 hp.2.2.2.2.1 rfl ht ?_
                    rw [hb]
                    refine V_callSi (pc := 218) (M' := mX3_join) dX3_workOut_218 mlX3_42 okX3_join rfl c_X3_join rfl rfl ⟨Nat.le_of_ble_eq_true rfl, Nat.le_of_ble_eq_true rfl⟩ ⟨Nat.le_refl 0, Nat.le_refl 0⟩ (Nat.le_of_ble_eq_true rfl) ?_
                    refine V_iast (pc := 221) t dX3_workOut_221 hp.2.2.2.2.1 rfl (by omega) ?_
                    refine V0_iinc_2 (pc := 222) (nI (i + 1)) dX3_workOut_222 (by decide) rfl (nI_1 _) ?_
                    refine V0_goto (pc := 225) 4 dX3_workOut_225 (by decide) ?_
                    exact kk _
                · skip
                  exact absurd h165 h126
              · skip
                exact absurd h132 h33
            · skip
              exact absurd h100 h63
          · skip
            exact absurd h85 h59
        · skip
          exact absurd h77 ht1
      · skip
        exact absurd h28 h36
theorem w_end {a : Int32} (hp : px_lw p) (hn : X p 4 = nI n) (hn8 : n ≤ 128) (hi : i < n) (ht : t < 128) (hs : X (p + 2) i = 59) (ha : X (p + 4) t = a) (hQ : Q (some (.int a)) X J) : w_hd l p X J i (t + 1) Q := by
  intro v3
  have hlt := (qI_lt (a := i) (b := n) (by omega) (by omega)).mpr hi
  have ht1 : ¬ nI (t + 1) < 1 := fun q => absurd ((qI_lt (a := t + 1) (b := 1) (by omega) (by omega)).mp q) (by omega)
  refine V0_iload_n (pc := 4) dX3_workOut_4 rfl ?_
  refine V0_aload_n (pc := 5) dX3_workOut_5 rfl ?_
  refine V_geti (pc := 6) dX3_workOut_6 flX3_22 hp.1 rfl ?_
  rw [hn]
  refine V1_icmp_ge (pc := 9) 228 dX3_workOut_9 (by decide) (fun h9 => ?_) (fun h9 => ?_)
  · skip
    exact absurd hlt h9
  · skip
    refine V0_aload_n (pc := 12) dX3_workOut_12 rfl ?_
    refine V_getr (pc := 13) dX3_workOut_13 flX3_13 hp.1 rfl ?_
    refine V0_iload_n (pc := 16) dX3_workOut_16 rfl ?_
    refine V_iald (pc := 17) (i) dX3_workOut_17 hp.2.2.1 rfl (by omega) ?_
    rw [hs]
    refine V0_istore_3 (pc := 18) dX3_workOut_18 (by decide) rfl ?_
    refine V0_iload_n (pc := 19) dX3_workOut_19 rfl ?_
    refine V0_bipush (pc := 20) (35) dX3_workOut_20 (by decide) ?_
    refine V0_icmp_eq (pc := 22) 31 dX3_workOut_22 (by decide) (fun h22 => ?_) (fun h22 => ?_)
    · skip
      exact absurd h22 (by decide)
    · skip
      refine V0_iload_n (pc := 25) dX3_workOut_25 rfl ?_
      refine V0_bipush (pc := 26) (36) dX3_workOut_26 (by decide) ?_
      refine V0_icmp_ne (pc := 28) 75 dX3_workOut_28 (by decide) (fun h28 => ?_) (fun h28 => ?_)
      · skip
        refine V0_iload_n (pc := 75) dX3_workOut_75 rfl ?_
        refine V0_iconst (pc := 76) (1) dX3_workOut_76 (by decide) ?_
        refine V1_icmp_ge (pc := 77) 82 dX3_workOut_77 (by decide) (fun h77 => ?_) (fun h77 => ?_)
        · skip
          refine V0_iload_n (pc := 82) dX3_workOut_82 rfl ?_
          refine V0_bipush (pc := 83) (59) dX3_workOut_83 (by decide) ?_
          refine V0_icmp_ne (pc := 85) 97 dX3_workOut_85 (by decide) (fun h85 => ?_) (fun h85 => ?_)
          · skip
            exact absurd h85 (by decide)
          · skip
            refine V0_aload_n (pc := 88) dX3_workOut_88 rfl ?_
            refine V_getr (pc := 89) dX3_workOut_89 flX3_19 hp.1 rfl ?_
            refine V0_iload_n (pc := 92) dX3_workOut_92 rfl ?_
            refine V0_iconst (pc := 93) (1) dX3_workOut_93 (by decide) ?_
            refine V0_isub (pc := 94) dX3_workOut_94 ?_
            rw [nI_pred]
            refine V_iald (pc := 95) t dX3_workOut_95 hp.2.2.2.2.1 rfl ht ?_
            rw [ha]
            refine V_reti (pc := 96) _ dX3_workOut_96 rfl ?_
            exact hQ
        · skip
          exact absurd h77 ht1
      · skip
        exact absurd h28 (by decide)
theorem w_test1 {a : Int32} (hp : px_lw p) (hn : X p 4 = nI n) (hn8 : n ≤ 128) (hi : i < n) (ht : t < 128) (hs : X (p + 2) i = 63) (ha : X (p + 4) t = a) (h0 : ¬ a = 0) (kk : w_hd l p X J (i + 1) t Q) : w_hd l p X J i (t + 1) Q := by
  intro v3
  have hlt := (qI_lt (a := i) (b := n) (by omega) (by omega)).mpr hi
  have ht1 : ¬ nI (t + 1) < 1 := fun q => absurd ((qI_lt (a := t + 1) (b := 1) (by omega) (by omega)).mp q) (by omega)
  refine V0_iload_n (pc := 4) dX3_workOut_4 rfl ?_
  refine V0_aload_n (pc := 5) dX3_workOut_5 rfl ?_
  refine V_geti (pc := 6) dX3_workOut_6 flX3_22 hp.1 rfl ?_
  rw [hn]
  refine V1_icmp_ge (pc := 9) 228 dX3_workOut_9 (by decide) (fun h9 => ?_) (fun h9 => ?_)
  · skip
    exact absurd hlt h9
  · skip
    refine V0_aload_n (pc := 12) dX3_workOut_12 rfl ?_
    refine V_getr (pc := 13) dX3_workOut_13 flX3_13 hp.1 rfl ?_
    refine V0_iload_n (pc := 16) dX3_workOut_16 rfl ?_
    refine V_iald (pc := 17) (i) dX3_workOut_17 hp.2.2.1 rfl (by omega) ?_
    rw [hs]
    refine V0_istore_3 (pc := 18) dX3_workOut_18 (by decide) rfl ?_
    refine V0_iload_n (pc := 19) dX3_workOut_19 rfl ?_
    refine V0_bipush (pc := 20) (35) dX3_workOut_20 (by decide) ?_
    refine V0_icmp_eq (pc := 22) 31 dX3_workOut_22 (by decide) (fun h22 => ?_) (fun h22 => ?_)
    · skip
      exact absurd h22 (by decide)
    · skip
      refine V0_iload_n (pc := 25) dX3_workOut_25 rfl ?_
      refine V0_bipush (pc := 26) (36) dX3_workOut_26 (by decide) ?_
      refine V0_icmp_ne (pc := 28) 75 dX3_workOut_28 (by decide) (fun h28 => ?_) (fun h28 => ?_)
      · skip
        refine V0_iload_n (pc := 75) dX3_workOut_75 rfl ?_
        refine V0_iconst (pc := 76) (1) dX3_workOut_76 (by decide) ?_
        refine V1_icmp_ge (pc := 77) 82 dX3_workOut_77 (by decide) (fun h77 => ?_) (fun h77 => ?_)
        · skip
          refine V0_iload_n (pc := 82) dX3_workOut_82 rfl ?_
          refine V0_bipush (pc := 83) (59) dX3_workOut_83 (by decide) ?_
          refine V0_icmp_ne (pc := 85) 97 dX3_workOut_85 (by decide) (fun h85 => ?_) (fun h85 => ?_)
          · skip
            refine V0_iload_n (pc := 97) dX3_workOut_97 rfl ?_
            refine V0_bipush (pc := 98) (63) dX3_workOut_98 (by decide) ?_
            refine V0_icmp_ne (pc := 100) 129 dX3_workOut_100 (by decide) (fun h100 => ?_) (fun h100 => ?_)
            · skip
              exact absurd h100 (by decide)
            · skip
              refine V0_iinc_1 (pc := 103) (nI t) dX3_workOut_103 (by decide) rfl (by rw [px_dc]; exact nI_pred _) ?_
              refine V0_aload_n (pc := 106) dX3_workOut_106 rfl ?_
              refine V_getr (pc := 107) dX3_workOut_107 flX3_19 hp.1 rfl ?_
              refine V0_iload_n (pc := 110) dX3_workOut_110 rfl ?_
              refine V_iald (pc := 111) t dX3_workOut_111 hp.2.2.2.2.1 rfl ht ?_
              rw [ha]
              refine V0_if_ne (pc := 112) 222 dX3_workOut_112 (by decide) (fun h112 => ?_) (fun h112 => ?_)
              · skip
                refine V0_iinc_2 (pc := 222) (nI (i + 1)) dX3_workOut_222 (by decide) rfl (nI_1 _) ?_
                refine V0_goto (pc := 225) 4 dX3_workOut_225 (by decide) ?_
                exact kk _
              · skip
                exact absurd h112 h0
          · skip
            exact absurd h85 (by decide)
        · skip
          exact absurd h77 ht1
      · skip
        exact absurd h28 (by decide)
theorem w_test0 {e : Nat} (hp : px_lw p) (hn : X p 4 = nI n) (hn8 : n ≤ 128) (hi : i < n) (ht : t < 128) (hs : X (p + 2) i = 63) (ha : X (p + 4) t = 0) (he : X (p + 3) i = nI e) (hie : i < e) (he8 : e < 128) (kk : w_hd l p X J (e + 1) t Q) : w_hd l p X J i (t + 1) Q := by
  intro v3
  have hlt := (qI_lt (a := i) (b := n) (by omega) (by omega)).mpr hi
  have ht1 : ¬ nI (t + 1) < 1 := fun q => absurd ((qI_lt (a := t + 1) (b := 1) (by omega) (by omega)).mp q) (by omega)
  have hie' := (qI_lt (a := i) (b := e) (by omega) (by omega)).mpr hie
  refine V0_iload_n (pc := 4) dX3_workOut_4 rfl ?_
  refine V0_aload_n (pc := 5) dX3_workOut_5 rfl ?_
  refine V_geti (pc := 6) dX3_workOut_6 flX3_22 hp.1 rfl ?_
  rw [hn]
  refine V1_icmp_ge (pc := 9) 228 dX3_workOut_9 (by decide) (fun h9 => ?_) (fun h9 => ?_)
  · skip
    exact absurd hlt h9
  · skip
    refine V0_aload_n (pc := 12) dX3_workOut_12 rfl ?_
    refine V_getr (pc := 13) dX3_workOut_13 flX3_13 hp.1 rfl ?_
    refine V0_iload_n (pc := 16) dX3_workOut_16 rfl ?_
    refine V_iald (pc := 17) (i) dX3_workOut_17 hp.2.2.1 rfl (by omega) ?_
    rw [hs]
    refine V0_istore_3 (pc := 18) dX3_workOut_18 (by decide) rfl ?_
    refine V0_iload_n (pc := 19) dX3_workOut_19 rfl ?_
    refine V0_bipush (pc := 20) (35) dX3_workOut_20 (by decide) ?_
    refine V0_icmp_eq (pc := 22) 31 dX3_workOut_22 (by decide) (fun h22 => ?_) (fun h22 => ?_)
    · skip
      exact absurd h22 (by decide)
    · skip
      refine V0_iload_n (pc := 25) dX3_workOut_25 rfl ?_
      refine V0_bipush (pc := 26) (36) dX3_workOut_26 (by decide) ?_
      refine V0_icmp_ne (pc := 28) 75 dX3_workOut_28 (by decide) (fun h28 => ?_) (fun h28 => ?_)
      · skip
        refine V0_iload_n (pc := 75) dX3_workOut_75 rfl ?_
        refine V0_iconst (pc := 76) (1) dX3_workOut_76 (by decide) ?_
        refine V1_icmp_ge (pc := 77) 82 dX3_workOut_77 (by decide) (fun h77 => ?_) (fun h77 => ?_)
        · skip
          refine V0_iload_n (pc := 82) dX3_workOut_82 rfl ?_
          refine V0_bipush (pc := 83) (59) dX3_workOut_83 (by decide) ?_
          refine V0_icmp_ne (pc := 85) 97 dX3_workOut_85 (by decide) (fun h85 => ?_) (fun h85 => ?_)
          · skip
            refine V0_iload_n (pc := 97) dX3_workOut_97 rfl ?_
            refine V0_bipush (pc := 98) (63) dX3_workOut_98 (by decide) ?_
            refine V0_icmp_ne (pc := 100) 129 dX3_workOut_100 (by decide) (fun h100 => ?_) (fun h100 => ?_)
            · skip
              exact absurd h100 (by decide)
            · skip
              refine V0_iinc_1 (pc := 103) (nI t) dX3_workOut_103 (by decide) rfl (by rw [px_dc]; exact nI_pred _) ?_
              refine V0_aload_n (pc := 106) dX3_workOut_106 rfl ?_
              refine V_getr (pc := 107) dX3_workOut_107 flX3_19 hp.1 rfl ?_
              refine V0_iload_n (pc := 110) dX3_workOut_110 rfl ?_
              refine V_iald (pc := 111) t dX3_workOut_111 hp.2.2.2.2.1 rfl ht ?_
              rw [ha]
              refine V0_if_ne (pc := 112) 222 dX3_workOut_112 (by decide) (fun h112 => ?_) (fun h112 => ?_)
              · skip
                exact absurd rfl h112
              · skip
                refine V0_iload_n (pc := 115) dX3_workOut_115 rfl ?_
                refine V0_aload_n (pc := 116) dX3_workOut_116 rfl ?_
                refine V_getr (pc := 117) dX3_workOut_117 flX3_16 hp.1 rfl ?_
                refine V0_iload_n (pc := 120) dX3_workOut_120 rfl ?_
                refine V_iald (pc := 121) (i) dX3_workOut_121 hp.2.2.2.1 rfl (by omega) ?_
                rw [he]
                refine V0_max (pc := 122) dX3_workOut_122 mlX3_36 js_max ji_Math jc_max (Nat.le_of_ble_eq_true rfl) (Nat.le_of_ble_eq_true rfl) ?_
                rw [if_pos hie']
                refine V0_istore_2 (pc := 125) dX3_workOut_125 (by decide) rfl ?_
                refine V0_goto (pc := 126) 222 dX3_workOut_126 (by decide) ?_
                refine V0_iinc_2 (pc := 222) (nI (e + 1)) dX3_workOut_222 (by decide) rfl (nI_1 _) ?_
                refine V0_goto (pc := 225) 4 dX3_workOut_225 (by decide) ?_
                exact kk _
          · skip
            exact absurd h85 (by decide)
        · skip
          exact absurd h77 ht1
      · skip
        exact absurd h28 (by decide)
end WO

