/-! drawn, joys from a row -/
theorem c_X11_drawn {l : Launch} {I : px_I} {J : px_J} {sd x y : Int32} {m n : Nat} (hk : px_ok0 I m n) : Ct l mX11_drawn 5 [.ref 0, .int sd, .int x, .int y] I J (fun r I' J' => r = some (.int (if (s_within (x / 10000) 1 30 = true ∧ s_within (px_rem (x / 100) 100) 1 40 = true ∧ s_within (px_rem x 100) 0 12 = true) ∧ (y = -1 ∨ g_isJ I y = true) then (t_out m n (ix (px_rem (x / 100) 100)) (px_rem x 100) y sd I (ix (x / 10000))).2.1 else -1)) ∧ I' = (if (s_within (x / 10000) 1 30 = true ∧ s_within (px_rem (x / 100) 100) 1 40 = true ∧ s_within (px_rem x 100) 0 12 = true) ∧ (y = -1 ∨ g_isJ I y = true) then (t_out m n (ix (px_rem (x / 100) 100)) (px_rem x 100) y sd I (ix (x / 10000))).2.2 else I) ∧ J' = J) := by
  refine Ct.of plX11_drawn (Nat.le_of_ble_eq_true rfl) [.ref 0, .int sd, .int x, .int y, .null, .null, .null] rfl ?_
  refine V0_iload_n (pc := 0) dX11_drawn_0 rfl ?_
  refine V0_sipush (pc := 1) (10000) dX11_drawn_1 (by decide) ?_
  refine V0_idiv (pc := 4) dX11_drawn_4 (by decide) ?_
  refine V0_istore_4 (pc := 5) dX11_drawn_5 (by decide) rfl ?_
  refine V0_iload_n (pc := 7) dX11_drawn_7 rfl ?_
  refine V0_bipush (pc := 8) (100) dX11_drawn_8 (by decide) ?_
  refine V0_idiv (pc := 10) dX11_drawn_10 (by decide) ?_
  refine V0_bipush (pc := 11) (100) dX11_drawn_11 (by decide) ?_
  refine V0_irem (pc := 13) dX11_drawn_13 (by decide) ?_
  refine V0_istore_5 (pc := 14) dX11_drawn_14 (by decide) rfl ?_
  refine V0_iload_n (pc := 16) dX11_drawn_16 rfl ?_
  refine V0_bipush (pc := 17) (100) dX11_drawn_17 (by decide) ?_
  refine V0_irem (pc := 19) dX11_drawn_19 (by decide) ?_
  refine V0_istore_6 (pc := 20) dX11_drawn_20 (by decide) rfl ?_
  refine V0_iload (pc := 22) dX11_drawn_22 rfl ?_
  refine V0_iconst (pc := 24) (1) dX11_drawn_24 (by decide) ?_
  refine V0_bipush (pc := 25) (30) dX11_drawn_25 (by decide) ?_
  refine V_callSi (pc := 27) (M' := mX11_isWithin) dX11_drawn_27 mlX11_99 okX11_isWithin rfl c_X11_isWithin rfl rfl ⟨Nat.le_of_ble_eq_true rfl, Nat.le_of_ble_eq_true rfl⟩ ⟨Nat.le_refl 0, Nat.le_refl 0⟩ (Nat.le_of_ble_eq_true rfl) ?_
  refine V_ifeqb (pc := 30) 55 dX11_drawn_30 (by decide) (fun h30 => ?_) (fun h30 => ?_)
  · skip
    have z : ¬ ((s_within (x / 10000) 1 30 = true ∧ s_within (px_rem (x / 100) 100) 1 40 = true ∧ s_within (px_rem x 100) 0 12 = true) ∧ (y = -1 ∨ g_isJ I y = true)) := by first | exact (fun q => absurd (q.1.1.symm.trans (show s_within (x / 10000) 1 30 = false from h30)) (by decide)) | exact (fun q => absurd (q.1.2.1.symm.trans (show s_within (px_rem (x / 100) 100) 1 40 = false from h41)) (by decide)) | exact (fun q => absurd (q.1.2.2.symm.trans (show s_within (px_rem x 100) 0 12 = false from h52)) (by decide))
    refine V0_iconst (pc := 55) (-1) dX11_drawn_55 (by decide) ?_
    refine V_reti (pc := 56) _ dX11_drawn_56 rfl ?_
    first | exact ⟨by rw [if_neg z] <;> rfl, by rw [if_neg z], rfl⟩ | exact ⟨by rw [if_pos z], by rw [if_pos z], rfl⟩
  · skip
    refine V0_iload (pc := 33) dX11_drawn_33 rfl ?_
    refine V0_iconst (pc := 35) (1) dX11_drawn_35 (by decide) ?_
    refine V0_bipush (pc := 36) (40) dX11_drawn_36 (by decide) ?_
    refine V_callSi (pc := 38) (M' := mX11_isWithin) dX11_drawn_38 mlX11_99 okX11_isWithin rfl c_X11_isWithin rfl rfl ⟨Nat.le_of_ble_eq_true rfl, Nat.le_of_ble_eq_true rfl⟩ ⟨Nat.le_refl 0, Nat.le_refl 0⟩ (Nat.le_of_ble_eq_true rfl) ?_
    refine V_ifeqb (pc := 41) 55 dX11_drawn_41 (by decide) (fun h41 => ?_) (fun h41 => ?_)
    · skip
      have z : ¬ ((s_within (x / 10000) 1 30 = true ∧ s_within (px_rem (x / 100) 100) 1 40 = true ∧ s_within (px_rem x 100) 0 12 = true) ∧ (y = -1 ∨ g_isJ I y = true)) := by first | exact (fun q => absurd (q.1.1.symm.trans (show s_within (x / 10000) 1 30 = false from h30)) (by decide)) | exact (fun q => absurd (q.1.2.1.symm.trans (show s_within (px_rem (x / 100) 100) 1 40 = false from h41)) (by decide)) | exact (fun q => absurd (q.1.2.2.symm.trans (show s_within (px_rem x 100) 0 12 = false from h52)) (by decide))
      refine V0_iconst (pc := 55) (-1) dX11_drawn_55 (by decide) ?_
      refine V_reti (pc := 56) _ dX11_drawn_56 rfl ?_
      first | exact ⟨by rw [if_neg z] <;> rfl, by rw [if_neg z], rfl⟩ | exact ⟨by rw [if_pos z], by rw [if_pos z], rfl⟩
    · skip
      refine V0_iload (pc := 44) dX11_drawn_44 rfl ?_
      refine V0_iconst (pc := 46) (0) dX11_drawn_46 (by decide) ?_
      refine V0_bipush (pc := 47) (12) dX11_drawn_47 (by decide) ?_
      refine V_callSi (pc := 49) (M' := mX11_isWithin) dX11_drawn_49 mlX11_99 okX11_isWithin rfl c_X11_isWithin rfl rfl ⟨Nat.le_of_ble_eq_true rfl, Nat.le_of_ble_eq_true rfl⟩ ⟨Nat.le_refl 0, Nat.le_refl 0⟩ (Nat.le_of_ble_eq_true rfl) ?_
      refine V_ifneb (pc := 52) 57 dX11_drawn_52 (by decide) (fun h52 => ?_) (fun h52 => ?_)
      · skip
        refine V0_iload_n (pc := 57) dX11_drawn_57 rfl ?_
        refine V0_iconst (pc := 58) (-1) dX11_drawn_58 (by decide) ?_
        refine V0_icmp_eq (pc := 59) 75 dX11_drawn_59 (by decide) (fun h59 => ?_) (fun h59 => ?_)
        · skip
          have z : (s_within (x / 10000) 1 30 = true ∧ s_within (px_rem (x / 100) 100) 1 40 = true ∧ s_within (px_rem x 100) 0 12 = true) ∧ (y = -1 ∨ g_isJ I y = true) := by first | exact ⟨⟨h30, h41, h52⟩, Or.inr h70⟩ | exact ⟨⟨h30, h41, h52⟩, Or.inl h59⟩
          have ha := s_win (a := 1) (b := 30) h30 (by omega) (by omega)
          have hb := s_win (a := 1) (b := 40) h41 (by omega) (by omega)
          have hj : ¬ y < 0 → y = nI (ix y) ∧ ix y < 10 := fun q => z.2.elim (fun e => absurd (by rw [e]; decide) q) (fun e => s_is_ix (c := 10) rfl (by omega) (n := I 1 7) e)
          have hc := c_X9_drawLanes (l := l) (J := J) (seed := sd) (mv := (px_rem x 100)) hk ha.2.2 hb.2.2 hj
          rw [← ha.1, ← hb.1] at hc
          refine V0_aload_n (pc := 75) dX11_drawn_75 rfl ?_
          refine V_getr (pc := 76) dX11_drawn_76 flX11_77 rfl rfl ?_
          refine V0_iload_n (pc := 79) dX11_drawn_79 rfl ?_
          refine V0_iload (pc := 80) dX11_drawn_80 rfl ?_
          refine V0_iload (pc := 82) dX11_drawn_82 rfl ?_
          refine V0_iload (pc := 84) dX11_drawn_84 rfl ?_
          refine V0_iload_n (pc := 86) dX11_drawn_86 rfl ?_
          refine V_callV (pc := 87) (M' := mX9_drawLanes) dX11_drawn_87 mlX11_274 okX9_drawLanes rfl hc rfl rfl rfl rfl ⟨Nat.le_of_ble_eq_true rfl, Nat.le_of_ble_eq_true rfl⟩ ⟨Nat.le_refl 0, Nat.le_refl 0⟩ (Nat.le_of_ble_eq_true rfl) ?_
          intro r1 I1 J1 hh
          obtain ⟨e1, e2, e3⟩ := hh
          rw [e1, e2, e3]
          clear e1 e2 e3 r1 I1 J1
          refine V_reti (pc := 90) _ dX11_drawn_90 rfl ?_
          first | exact ⟨by rw [if_neg z] <;> rfl, by rw [if_neg z], rfl⟩ | exact ⟨by rw [if_pos z], by rw [if_pos z], rfl⟩
        · skip
          refine V0_aload_n (pc := 62) dX11_drawn_62 rfl ?_
          refine V_getr (pc := 63) dX11_drawn_63 flX11_26 rfl rfl ?_
          refine V0_iload_n (pc := 66) dX11_drawn_66 rfl ?_
          refine V_callVi (pc := 67) (M' := mX7_isJoy) dX11_drawn_67 mlX11_143 okX7_isJoy rfl c_X7_isJoy rfl rfl rfl rfl ⟨Nat.le_of_ble_eq_true rfl, Nat.le_of_ble_eq_true rfl⟩ ⟨Nat.le_refl 0, Nat.le_refl 0⟩ (Nat.le_of_ble_eq_true rfl) ?_
          refine V_ifneb (pc := 70) 75 dX11_drawn_70 (by decide) (fun h70 => ?_) (fun h70 => ?_)
          · skip
            have z : (s_within (x / 10000) 1 30 = true ∧ s_within (px_rem (x / 100) 100) 1 40 = true ∧ s_within (px_rem x 100) 0 12 = true) ∧ (y = -1 ∨ g_isJ I y = true) := by first | exact ⟨⟨h30, h41, h52⟩, Or.inr h70⟩ | exact ⟨⟨h30, h41, h52⟩, Or.inl h59⟩
            have ha := s_win (a := 1) (b := 30) h30 (by omega) (by omega)
            have hb := s_win (a := 1) (b := 40) h41 (by omega) (by omega)
            have hj : ¬ y < 0 → y = nI (ix y) ∧ ix y < 10 := fun q => z.2.elim (fun e => absurd (by rw [e]; decide) q) (fun e => s_is_ix (c := 10) rfl (by omega) (n := I 1 7) e)
            have hc := c_X9_drawLanes (l := l) (J := J) (seed := sd) (mv := (px_rem x 100)) hk ha.2.2 hb.2.2 hj
            rw [← ha.1, ← hb.1] at hc
            refine V0_aload_n (pc := 75) dX11_drawn_75 rfl ?_
            refine V_getr (pc := 76) dX11_drawn_76 flX11_77 rfl rfl ?_
            refine V0_iload_n (pc := 79) dX11_drawn_79 rfl ?_
            refine V0_iload (pc := 80) dX11_drawn_80 rfl ?_
            refine V0_iload (pc := 82) dX11_drawn_82 rfl ?_
            refine V0_iload (pc := 84) dX11_drawn_84 rfl ?_
            refine V0_iload_n (pc := 86) dX11_drawn_86 rfl ?_
            refine V_callV (pc := 87) (M' := mX9_drawLanes) dX11_drawn_87 mlX11_274 okX9_drawLanes rfl hc rfl rfl rfl rfl ⟨Nat.le_of_ble_eq_true rfl, Nat.le_of_ble_eq_true rfl⟩ ⟨Nat.le_refl 0, Nat.le_refl 0⟩ (Nat.le_of_ble_eq_true rfl) ?_
            intro r1 I1 J1 hh
            obtain ⟨e1, e2, e3⟩ := hh
            rw [e1, e2, e3]
            clear e1 e2 e3 r1 I1 J1
            refine V_reti (pc := 90) _ dX11_drawn_90 rfl ?_
            first | exact ⟨by rw [if_neg z] <;> rfl, by rw [if_neg z], rfl⟩ | exact ⟨by rw [if_pos z], by rw [if_pos z], rfl⟩
          · skip
            have z : ¬ ((s_within (x / 10000) 1 30 = true ∧ s_within (px_rem (x / 100) 100) 1 40 = true ∧ s_within (px_rem x 100) 0 12 = true) ∧ (y = -1 ∨ g_isJ I y = true)) := fun q => q.2.elim h59 (fun e => absurd (e.symm.trans (show g_isJ I y = false from h70)) (by decide))
            refine V0_iconst (pc := 73) (-1) dX11_drawn_73 (by decide) ?_
            refine V_reti (pc := 74) _ dX11_drawn_74 rfl ?_
            first | exact ⟨by rw [if_neg z] <;> rfl, by rw [if_neg z], rfl⟩ | exact ⟨by rw [if_pos z], by rw [if_pos z], rfl⟩
      · skip
        have z : ¬ ((s_within (x / 10000) 1 30 = true ∧ s_within (px_rem (x / 100) 100) 1 40 = true ∧ s_within (px_rem x 100) 0 12 = true) ∧ (y = -1 ∨ g_isJ I y = true)) := by first | exact (fun q => absurd (q.1.1.symm.trans (show s_within (x / 10000) 1 30 = false from h30)) (by decide)) | exact (fun q => absurd (q.1.2.1.symm.trans (show s_within (px_rem (x / 100) 100) 1 40 = false from h41)) (by decide)) | exact (fun q => absurd (q.1.2.2.symm.trans (show s_within (px_rem x 100) 0 12 = false from h52)) (by decide))
        refine V0_iconst (pc := 55) (-1) dX11_drawn_55 (by decide) ?_
        refine V_reti (pc := 56) _ dX11_drawn_56 rfl ?_
        first | exact ⟨by rw [if_neg z] <;> rfl, by rw [if_neg z], rfl⟩ | exact ⟨by rw [if_pos z], by rw [if_pos z], rfl⟩
/-- a joy from a row's place -/
def g_fr (I : px_I) (J : px_J) (n : Nat) (s p : Int32) : Bool × px_I := if ¬ p < 0 ∧ ¬ g_lenOf I s - 3 < p then (let o := (g_cell I J s p).toInt32; let d := (g_cell I J s (p + 1)).toInt32; let v := (g_cell I J s (p + 2)).toInt32; if s_mayBe 4 v = true ∧ g_isP I o = true ∧ s_within d 0 99 = true ∧ n < 10 then (true, px_up (g_addJoy I n o d) 6 n v) else (false, I)) else (false, I)

