/-! fits, drawn -/
theorem s_is_m {x n : Int32} {m c : Nat} (h : s_is x n (nI c) = true) (hn : n = nI m) (hm : m < 2 ^ 31) : ix x < m := by
  simp only [s_is, Bool.and_eq_true, Bool.not_eq_true', decide_eq_false_iff_not, decide_eq_true_eq] at h
  exact ix_lt h.1.1 hm (by rw [← hn]; exact h.1.2)
def g_fits (I : px_I) (J : px_J) (s x w : Int32) (m n : Nat) : Int32 := if (¬ x < 0 ∧ s_within w 0 3 = true) ∧ g_isP I (x / 10) = true ∧ g_isJ I (px_rem x 10) = true then (if g_refBytes I s = 0 then (if w < 2 then (if px_rem w 2 = 0 then (t_fits I J s m n (ix (x / 10)) 3 (ix (px_rem x 10)) 100).1 else (t_fits I J s m n (ix (x / 10)) 3 (ix (px_rem x 10)) 100).2) else (if px_rem w 2 = 0 then (t_fits I J s m n (ix (x / 10)) 5 (ix (px_rem x 10)) 41).1 else (t_fits I J s m n (ix (x / 10)) 5 (ix (px_rem x 10)) 41).2)) else g_refBytes I s) else -1
theorem c_X11_fits {l : Launch} {I : px_I} {J : px_J} {s x w : Int32} {m n : Nat} (hk : px_ok0 I m n) (hr : px_rows I) : Ct l mX11_fits 6 [.ref 0, .int s, .int x, .int w] I J (fun r I' J' => r = some (.int (g_fits I J s x w m n)) ∧ px_sc I I' ∧ J' = J) := by
  refine Ct.of plX11_fits (Nat.le_of_ble_eq_true rfl) [.ref 0, .int s, .int x, .int w, .null, .null, .null] rfl ?_
  refine V0_iload_n (pc := 0) dX11_fits_0 rfl ?_
  refine V0_if_lt (pc := 1) 13 dX11_fits_1 (by decide) (fun h1 => ?_) (fun h1 => ?_)
  · skip
    have z : ¬ ((¬ x < 0 ∧ s_within w 0 3 = true) ∧ g_isP I (x / 10) = true ∧ g_isJ I (px_rem x 10) = true) := by first | exact (fun q => q.1.1 h1) | exact (fun q => absurd (q.1.2.symm.trans (show s_within w 0 3 = false from h10)) (by decide))
    refine V0_iconst (pc := 13) (-1) dX11_fits_13 (by decide) ?_
    refine V_reti (pc := 14) _ dX11_fits_14 rfl ?_
    first | exact ⟨by rw [g_fits, if_neg z] <;> rfl, px_sc.rf, rfl⟩ | exact ⟨by rw [g_fits, if_pos z, if_neg h65], px_sc.rf, rfl⟩ | exact ⟨by rw [g_fits, if_pos z, if_pos h65, if_pos h73, if_pos h124], hsc, rfl⟩ | exact ⟨by rw [g_fits, if_pos z, if_pos h65, if_pos h73, if_neg h124], hsc, rfl⟩ | exact ⟨by rw [g_fits, if_pos z, if_pos h65, if_neg h73, if_pos h124], hsc, rfl⟩ | exact ⟨by rw [g_fits, if_pos z, if_pos h65, if_neg h73, if_neg h124], hsc, rfl⟩
  · skip
    refine V0_iload_n (pc := 4) dX11_fits_4 rfl ?_
    refine V0_iconst (pc := 5) (0) dX11_fits_5 (by decide) ?_
    refine V0_iconst (pc := 6) (3) dX11_fits_6 (by decide) ?_
    refine V_callSi (pc := 7) (M' := mX11_isWithin) dX11_fits_7 mlX11_99 okX11_isWithin rfl c_X11_isWithin rfl rfl ⟨Nat.le_of_ble_eq_true rfl, Nat.le_of_ble_eq_true rfl⟩ ⟨Nat.le_refl 0, Nat.le_refl 0⟩ (Nat.le_of_ble_eq_true rfl) ?_
    refine V_ifneb (pc := 10) 15 dX11_fits_10 (by decide) (fun h10 => ?_) (fun h10 => ?_)
    · skip
      refine V0_iload_n (pc := 15) dX11_fits_15 rfl ?_
      refine V0_bipush (pc := 16) (10) dX11_fits_16 (by decide) ?_
      refine V0_idiv (pc := 18) dX11_fits_18 (by decide) ?_
      refine V0_istore_4 (pc := 19) dX11_fits_19 (by decide) rfl ?_
      refine V0_iload_n (pc := 21) dX11_fits_21 rfl ?_
      refine V0_bipush (pc := 22) (10) dX11_fits_22 (by decide) ?_
      refine V0_irem (pc := 24) dX11_fits_24 (by decide) ?_
      refine V0_istore_5 (pc := 25) dX11_fits_25 (by decide) rfl ?_
      refine V0_aload_n (pc := 27) dX11_fits_27 rfl ?_
      refine V_getr (pc := 28) dX11_fits_28 flX11_26 rfl rfl ?_
      refine V0_iload (pc := 31) dX11_fits_31 rfl ?_
      refine V_callVi (pc := 33) (M' := mX7_isPerson) dX11_fits_33 mlX11_111 okX7_isPerson rfl c_X7_isPerson rfl rfl rfl rfl ⟨Nat.le_of_ble_eq_true rfl, Nat.le_of_ble_eq_true rfl⟩ ⟨Nat.le_refl 0, Nat.le_refl 0⟩ (Nat.le_of_ble_eq_true rfl) ?_
      refine V_ifeqb (pc := 36) 51 dX11_fits_36 (by decide) (fun h36 => ?_) (fun h36 => ?_)
      · skip
        have z : ¬ ((¬ x < 0 ∧ s_within w 0 3 = true) ∧ g_isP I (x / 10) = true ∧ g_isJ I (px_rem x 10) = true) := by first | exact (fun q => absurd (q.2.1.symm.trans (show g_isP I (x / 10) = false from h36)) (by decide)) | exact (fun q => absurd (q.2.2.symm.trans (show g_isJ I (px_rem x 10) = false from h48)) (by decide))
        refine V0_iconst (pc := 51) (-1) dX11_fits_51 (by decide) ?_
        refine V_reti (pc := 52) _ dX11_fits_52 rfl ?_
        first | exact ⟨by rw [g_fits, if_neg z] <;> rfl, px_sc.rf, rfl⟩ | exact ⟨by rw [g_fits, if_pos z, if_neg h65], px_sc.rf, rfl⟩ | exact ⟨by rw [g_fits, if_pos z, if_pos h65, if_pos h73, if_pos h124], hsc, rfl⟩ | exact ⟨by rw [g_fits, if_pos z, if_pos h65, if_pos h73, if_neg h124], hsc, rfl⟩ | exact ⟨by rw [g_fits, if_pos z, if_pos h65, if_neg h73, if_pos h124], hsc, rfl⟩ | exact ⟨by rw [g_fits, if_pos z, if_pos h65, if_neg h73, if_neg h124], hsc, rfl⟩
      · skip
        refine V0_aload_n (pc := 39) dX11_fits_39 rfl ?_
        refine V_getr (pc := 40) dX11_fits_40 flX11_26 rfl rfl ?_
        refine V0_iload (pc := 43) dX11_fits_43 rfl ?_
        refine V_callVi (pc := 45) (M' := mX7_isJoy) dX11_fits_45 mlX11_143 okX7_isJoy rfl c_X7_isJoy rfl rfl rfl rfl ⟨Nat.le_of_ble_eq_true rfl, Nat.le_of_ble_eq_true rfl⟩ ⟨Nat.le_refl 0, Nat.le_refl 0⟩ (Nat.le_of_ble_eq_true rfl) ?_
        refine V_ifneb (pc := 48) 53 dX11_fits_48 (by decide) (fun h48 => ?_) (fun h48 => ?_)
        · skip
          have z : (¬ x < 0 ∧ s_within w 0 3 = true) ∧ g_isP I (x / 10) = true ∧ g_isJ I (px_rem x 10) = true := ⟨⟨h1, h10⟩, h36, h48⟩
          refine V0_aload_n (pc := 53) dX11_fits_53 rfl ?_
          refine V_getr (pc := 54) dX11_fits_54 flX11_95 rfl rfl ?_
          refine V0_iload_n (pc := 57) dX11_fits_57 rfl ?_
          refine V_callVi (pc := 58) (M' := mX5_refuseBytes) dX11_fits_58 mlX11_122 okX5_refuseBytes rfl c_X5_refuseBytes rfl rfl rfl rfl ⟨Nat.le_of_ble_eq_true rfl, Nat.le_of_ble_eq_true rfl⟩ ⟨Nat.le_refl 0, Nat.le_refl 0⟩ (Nat.le_of_ble_eq_true rfl) ?_
          refine V0_istore_6 (pc := 61) dX11_fits_61 (by decide) rfl ?_
          refine V0_iload (pc := 63) dX11_fits_63 rfl ?_
          refine V0_if_eq (pc := 65) 71 dX11_fits_65 (by decide) (fun h65 => ?_) (fun h65 => ?_)
          · skip
            have hx := s_is_ix (c := 7) rfl (by omega) (n := I 1 6) h36
            have hom := s_is_m (c := 7) h36 hk.1 (by have := hk.2.1; omega)
            have hj := s_is_ix (c := 10) rfl (by omega) (n := I 1 7) h48
            refine V0_iload_n (pc := 71) dX11_fits_71 rfl ?_
            refine V0_iconst (pc := 72) (2) dX11_fits_72 (by decide) ?_
            refine V1_icmp_ge (pc := 73) 100 dX11_fits_73 (by decide) (fun h73 => ?_) (fun h73 => ?_)
            · skip
              refine V0_aload_n (pc := 100) dX11_fits_100 rfl ?_
              refine V_getr (pc := 101) dX11_fits_101 flX11_77 rfl rfl ?_
              refine V0_iload_n (pc := 104) dX11_fits_104 rfl ?_
              refine V0_iload (pc := 105) dX11_fits_105 rfl ?_
              refine V0_iload (pc := 107) dX11_fits_107 rfl ?_
              refine V0_aload_n (pc := 109) dX11_fits_109 rfl ?_
              refine V_getr (pc := 110) dX11_fits_110 flX11_26 rfl rfl ?_
              refine V_getr (pc := 113) dX11_fits_113 flX11_252 rfl rfl ?_
              refine V0_bipush (pc := 116) (40) dX11_fits_116 (by decide) ?_
              have hc := c_X9_seekFits (l := l) (J := J) (x := s) (L := 40) (q0 := 5) hk hom hr hj.2 (by omega) rfl (by omega)
              rw [← hx.1, ← hj.1] at hc
              refine V_callV (pc := 118) (M' := mX9_seekFits) dX11_fits_118 mlX11_248 okX9_seekFits rfl hc rfl rfl rfl rfl ⟨Nat.le_of_ble_eq_true rfl, Nat.le_of_ble_eq_true rfl⟩ ⟨Nat.le_refl 0, Nat.le_refl 0⟩ (Nat.le_of_ble_eq_true rfl) ?_
              intro r1 I1 J1 hh
              obtain ⟨e1, hsc, hb1, hb2, e3⟩ := hh
              rw [e1, e3]
              clear e1 e3 r1 J1
              refine V0_iload_n (pc := 121) dX11_fits_121 rfl ?_
              refine V0_iconst (pc := 122) (2) dX11_fits_122 (by decide) ?_
              refine V0_irem (pc := 123) dX11_fits_123 (by decide) ?_
              refine V0_if_ne (pc := 124) 137 dX11_fits_124 (by decide) (fun h124 => ?_) (fun h124 => ?_)
              · skip
                refine V0_aload_n (pc := 137) dX11_fits_137 rfl ?_
                refine V_getr (pc := 138) dX11_fits_138 flX11_77 rfl rfl ?_
                refine V_geti (pc := 141) dX11_fits_141 flX11_232 rfl rfl ?_
                first | rw [hb2] | skip
                refine V_reti (pc := 144) _ dX11_fits_144 rfl ?_
                first | exact ⟨by rw [g_fits, if_neg z] <;> rfl, px_sc.rf, rfl⟩ | exact ⟨by rw [g_fits, if_pos z, if_neg h65], px_sc.rf, rfl⟩ | exact ⟨by rw [g_fits, if_pos z, if_pos h65, if_pos h73, if_pos h124], hsc, rfl⟩ | exact ⟨by rw [g_fits, if_pos z, if_pos h65, if_pos h73, if_neg h124], hsc, rfl⟩ | exact ⟨by rw [g_fits, if_pos z, if_pos h65, if_neg h73, if_pos h124], hsc, rfl⟩ | exact ⟨by rw [g_fits, if_pos z, if_pos h65, if_neg h73, if_neg h124], hsc, rfl⟩
              · skip
                refine V0_aload_n (pc := 127) dX11_fits_127 rfl ?_
                refine V_getr (pc := 128) dX11_fits_128 flX11_77 rfl rfl ?_
                refine V_geti (pc := 131) dX11_fits_131 flX11_229 rfl rfl ?_
                rw [hb1]
                refine V0_goto (pc := 134) 144 dX11_fits_134 (by decide) ?_
                first | rw [hb2] | skip
                refine V_reti (pc := 144) _ dX11_fits_144 rfl ?_
                first | exact ⟨by rw [g_fits, if_neg z] <;> rfl, px_sc.rf, rfl⟩ | exact ⟨by rw [g_fits, if_pos z, if_neg h65], px_sc.rf, rfl⟩ | exact ⟨by rw [g_fits, if_pos z, if_pos h65, if_pos h73, if_pos h124], hsc, rfl⟩ | exact ⟨by rw [g_fits, if_pos z, if_pos h65, if_pos h73, if_neg h124], hsc, rfl⟩ | exact ⟨by rw [g_fits, if_pos z, if_pos h65, if_neg h73, if_pos h124], hsc, rfl⟩ | exact ⟨by rw [g_fits, if_pos z, if_pos h65, if_neg h73, if_neg h124], hsc, rfl⟩
            · skip
              refine V0_aload_n (pc := 76) dX11_fits_76 rfl ?_
              refine V_getr (pc := 77) dX11_fits_77 flX11_77 rfl rfl ?_
              refine V0_iload_n (pc := 80) dX11_fits_80 rfl ?_
              refine V0_iload (pc := 81) dX11_fits_81 rfl ?_
              refine V0_iload (pc := 83) dX11_fits_83 rfl ?_
              refine V0_aload_n (pc := 85) dX11_fits_85 rfl ?_
              refine V_getr (pc := 86) dX11_fits_86 flX11_26 rfl rfl ?_
              refine V_getr (pc := 89) dX11_fits_89 flX11_245 rfl rfl ?_
              refine V0_bipush (pc := 92) (99) dX11_fits_92 (by decide) ?_
              have hc := c_X9_seekFits (l := l) (J := J) (x := s) (L := 99) (q0 := 3) hk hom hr hj.2 (by omega) rfl (by omega)
              rw [← hx.1, ← hj.1] at hc
              refine V_callV (pc := 94) (M' := mX9_seekFits) dX11_fits_94 mlX11_248 okX9_seekFits rfl hc rfl rfl rfl rfl ⟨Nat.le_of_ble_eq_true rfl, Nat.le_of_ble_eq_true rfl⟩ ⟨Nat.le_refl 0, Nat.le_refl 0⟩ (Nat.le_of_ble_eq_true rfl) ?_
              intro r1 I1 J1 hh
              obtain ⟨e1, hsc, hb1, hb2, e3⟩ := hh
              rw [e1, e3]
              clear e1 e3 r1 J1
              refine V0_goto (pc := 97) 121 dX11_fits_97 (by decide) ?_
              refine V0_iload_n (pc := 121) dX11_fits_121 rfl ?_
              refine V0_iconst (pc := 122) (2) dX11_fits_122 (by decide) ?_
              refine V0_irem (pc := 123) dX11_fits_123 (by decide) ?_
              refine V0_if_ne (pc := 124) 137 dX11_fits_124 (by decide) (fun h124 => ?_) (fun h124 => ?_)
              · skip
                refine V0_aload_n (pc := 137) dX11_fits_137 rfl ?_
                refine V_getr (pc := 138) dX11_fits_138 flX11_77 rfl rfl ?_
                refine V_geti (pc := 141) dX11_fits_141 flX11_232 rfl rfl ?_
                first | rw [hb2] | skip
                refine V_reti (pc := 144) _ dX11_fits_144 rfl ?_
                first | exact ⟨by rw [g_fits, if_neg z] <;> rfl, px_sc.rf, rfl⟩ | exact ⟨by rw [g_fits, if_pos z, if_neg h65], px_sc.rf, rfl⟩ | exact ⟨by rw [g_fits, if_pos z, if_pos h65, if_pos h73, if_pos h124], hsc, rfl⟩ | exact ⟨by rw [g_fits, if_pos z, if_pos h65, if_pos h73, if_neg h124], hsc, rfl⟩ | exact ⟨by rw [g_fits, if_pos z, if_pos h65, if_neg h73, if_pos h124], hsc, rfl⟩ | exact ⟨by rw [g_fits, if_pos z, if_pos h65, if_neg h73, if_neg h124], hsc, rfl⟩
              · skip
                refine V0_aload_n (pc := 127) dX11_fits_127 rfl ?_
                refine V_getr (pc := 128) dX11_fits_128 flX11_77 rfl rfl ?_
                refine V_geti (pc := 131) dX11_fits_131 flX11_229 rfl rfl ?_
                rw [hb1]
                refine V0_goto (pc := 134) 144 dX11_fits_134 (by decide) ?_
                first | rw [hb2] | skip
                refine V_reti (pc := 144) _ dX11_fits_144 rfl ?_
                first | exact ⟨by rw [g_fits, if_neg z] <;> rfl, px_sc.rf, rfl⟩ | exact ⟨by rw [g_fits, if_pos z, if_neg h65], px_sc.rf, rfl⟩ | exact ⟨by rw [g_fits, if_pos z, if_pos h65, if_pos h73, if_pos h124], hsc, rfl⟩ | exact ⟨by rw [g_fits, if_pos z, if_pos h65, if_pos h73, if_neg h124], hsc, rfl⟩ | exact ⟨by rw [g_fits, if_pos z, if_pos h65, if_neg h73, if_pos h124], hsc, rfl⟩ | exact ⟨by rw [g_fits, if_pos z, if_pos h65, if_neg h73, if_neg h124], hsc, rfl⟩
          · skip
            refine V0_iload (pc := 68) dX11_fits_68 rfl ?_
            refine V_reti (pc := 70) _ dX11_fits_70 rfl ?_
            first | exact ⟨by rw [g_fits, if_neg z] <;> rfl, px_sc.rf, rfl⟩ | exact ⟨by rw [g_fits, if_pos z, if_neg h65], px_sc.rf, rfl⟩ | exact ⟨by rw [g_fits, if_pos z, if_pos h65, if_pos h73, if_pos h124], hsc, rfl⟩ | exact ⟨by rw [g_fits, if_pos z, if_pos h65, if_pos h73, if_neg h124], hsc, rfl⟩ | exact ⟨by rw [g_fits, if_pos z, if_pos h65, if_neg h73, if_pos h124], hsc, rfl⟩ | exact ⟨by rw [g_fits, if_pos z, if_pos h65, if_neg h73, if_neg h124], hsc, rfl⟩
        · skip
          have z : ¬ ((¬ x < 0 ∧ s_within w 0 3 = true) ∧ g_isP I (x / 10) = true ∧ g_isJ I (px_rem x 10) = true) := by first | exact (fun q => absurd (q.2.1.symm.trans (show g_isP I (x / 10) = false from h36)) (by decide)) | exact (fun q => absurd (q.2.2.symm.trans (show g_isJ I (px_rem x 10) = false from h48)) (by decide))
          refine V0_iconst (pc := 51) (-1) dX11_fits_51 (by decide) ?_
          refine V_reti (pc := 52) _ dX11_fits_52 rfl ?_
          first | exact ⟨by rw [g_fits, if_neg z] <;> rfl, px_sc.rf, rfl⟩ | exact ⟨by rw [g_fits, if_pos z, if_neg h65], px_sc.rf, rfl⟩ | exact ⟨by rw [g_fits, if_pos z, if_pos h65, if_pos h73, if_pos h124], hsc, rfl⟩ | exact ⟨by rw [g_fits, if_pos z, if_pos h65, if_pos h73, if_neg h124], hsc, rfl⟩ | exact ⟨by rw [g_fits, if_pos z, if_pos h65, if_neg h73, if_pos h124], hsc, rfl⟩ | exact ⟨by rw [g_fits, if_pos z, if_pos h65, if_neg h73, if_neg h124], hsc, rfl⟩
    · skip
      have z : ¬ ((¬ x < 0 ∧ s_within w 0 3 = true) ∧ g_isP I (x / 10) = true ∧ g_isJ I (px_rem x 10) = true) := by first | exact (fun q => q.1.1 h1) | exact (fun q => absurd (q.1.2.symm.trans (show s_within w 0 3 = false from h10)) (by decide))
      refine V0_iconst (pc := 13) (-1) dX11_fits_13 (by decide) ?_
      refine V_reti (pc := 14) _ dX11_fits_14 rfl ?_
      first | exact ⟨by rw [g_fits, if_neg z] <;> rfl, px_sc.rf, rfl⟩ | exact ⟨by rw [g_fits, if_pos z, if_neg h65], px_sc.rf, rfl⟩ | exact ⟨by rw [g_fits, if_pos z, if_pos h65, if_pos h73, if_pos h124], hsc, rfl⟩ | exact ⟨by rw [g_fits, if_pos z, if_pos h65, if_pos h73, if_neg h124], hsc, rfl⟩ | exact ⟨by rw [g_fits, if_pos z, if_pos h65, if_neg h73, if_pos h124], hsc, rfl⟩ | exact ⟨by rw [g_fits, if_pos z, if_pos h65, if_neg h73, if_neg h124], hsc, rfl⟩

