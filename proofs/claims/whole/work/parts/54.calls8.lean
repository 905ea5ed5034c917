/-! drawn, joys from a row -/
theorem c_X11_drawn {l : Launch} {I : px_I} {J : px_J} {sd x y : Int32} {m n : Nat} (hk : px_ok0 I m n) : Ct l mX11_drawn 5 [.ref 0, .int sd, .int x, .int y] I J (fun r I' J' => r = some (.int (if (s_within (x / 10000) 1 30 = true ∧ s_within (px_rem (x / 100) 100) 1 40 = true ∧ s_within (px_rem x 100) 0 12 = true) ∧ (y = -1 ∨ g_isJ I y = true) then (t_out m n (ix (px_rem (x / 100) 100)) (px_rem x 100) y sd I (ix (x / 10000))).2.1 else -1)) ∧ I' = (if (s_within (x / 10000) 1 30 = true ∧ s_within (px_rem (x / 100) 100) 1 40 = true ∧ s_within (px_rem x 100) 0 12 = true) ∧ (y = -1 ∨ g_isJ I y = true) then (t_out m n (ix (px_rem (x / 100) 100)) (px_rem x 100) y sd I (ix (x / 10000))).2.2 else I) ∧ J' = J) := by
  refine Ct.of plX11_drawn (Nat.le_of_ble_eq_true rfl) [.ref 0, .int sd, .int x, .int y, .null, .null, .null] rfl ?_
  refine V0_iload_n (pc := 0) dX11_drawn_0 rfl ?_
  refine V0_sipush (pc := 1) (10000) dX11_drawn_1 (by decide) ?_
  refine V0_idiv (pc := 4) dX11_drawn_4 (by decide) ?_
  refine V0_istore_4 (pc := 5) dX11_drawn_5 (by decide) rfl ?_
  refine V0_iload_n (pc := 7) dX11_drawn_7 rfl ?_
  refine V0_bipush (pc := 8) (100) dX11_drawn_8 (by decide) ?_
  refine V0_idiv (pc := 10) dX11_drawn_10 (by decide) ?_
  refine V0_bipush (pc := 11) (100) dX11_drawn_11 (by decide) ?_
  refine V0_irem (pc := 13) dX11_drawn_13 (by decide) ?_
  refine V0_istore_5 (pc := 14) dX11_drawn_14 (by decide) rfl ?_
  refine V0_iload_n (pc := 16) dX11_drawn_16 rfl ?_
  refine V0_bipush (pc := 17) (100) dX11_drawn_17 (by decide) ?_
  refine V0_irem (pc := 19) dX11_drawn_19 (by decide) ?_
  refine V0_istore_6 (pc := 20) dX11_drawn_20 (by decide) rfl ?_
  refine V0_iload (pc := 22) dX11_drawn_22 rfl ?_
  refine V0_iconst (pc := 24) (1) dX11_drawn_24 (by decide) ?_
  refine V0_bipush (pc := 25) (30) dX11_drawn_25 (by decide) ?_
  refine V_callSi (pc := 27) (M' := mX11_isWithin) dX11_drawn_27 mlX11_99 okX11_isWithin rfl c_X11_isWithin rfl rfl ⟨Nat.le_of_ble_eq_true rfl, Nat.le_of_ble_eq_true rfl⟩ ⟨Nat.le_refl 0, Nat.le_refl 0⟩ (Nat.le_of_ble_eq_true rfl) ?_
  refine V_ifeqb (pc := 30) 55 dX11_drawn_30 (by decide) (fun h30 => ?_) (fun h30 => ?_)
  · skip
    have z : ¬ ((s_within (x / 10000) 1 30 = true ∧ s_within (px_rem (x / 100) 100) 1 40 = true ∧ s_within (px_rem x 100) 0 12 = true) ∧ (y = -1 ∨ g_isJ I y = true)) := by first | exact (fun q => absurd (q.1.1.symm.trans (show s_within (x / 10000) 1 30 = false from h30)) (by decide)) | exact (fun q => absurd (q.1.2.1.symm.trans (show s_within (px_rem (x / 100) 100) 1 40 = false from h41)) (by decide)) | exact (fun q => absurd (q.1.2.2.symm.trans (show s_within (px_rem x 100) 0 12 = false from h52)) (by decide))
    refine V0_iconst (pc := 55) (-1) dX11_drawn_55 (by decide) ?_
    refine V_reti (pc := 56) _ dX11_drawn_56 rfl ?_
    first | exact ⟨by rw [if_neg z] <;> rfl, by rw [if_neg z], rfl⟩ | exact ⟨by rw [if_pos z], by rw [if_pos z], rfl⟩
  · skip
    refine V0_iload (pc := 33) dX11_drawn_33 rfl ?_
    refine V0_iconst (pc := 35) (1) dX11_drawn_35 (by decide) ?_
    refine V0_bipush (pc := 36) (40) dX11_drawn_36 (by decide) ?_
    refine V_callSi (pc := 38) (M' := mX11_isWithin) dX11_drawn_38 mlX11_99 okX11_isWithin rfl c_X11_isWithin rfl rfl ⟨Nat.le_of_ble_eq_true rfl, Nat.le_of_ble_eq_true rfl⟩ ⟨Nat.le_refl 0, Nat.le_refl 0⟩ (Nat.le_of_ble_eq_true rfl) ?_
    refine V_ifeqb (pc := 41) 55 dX11_drawn_41 (by decide) (fun h41 => ?_) (fun h41 => ?_)
    · skip
      have z : ¬ ((s_within (x / 10000) 1 30 = true ∧ s_within (px_rem (x / 100) 100) 1 40 = true ∧ s_within (px_rem x 100) 0 12 = true) ∧ (y = -1 ∨ g_isJ I y = true)) := by first | exact (fun q => absurd (q.1.1.symm.trans (show s_within (x / 10000) 1 30 = false from h30)) (by decide)) | exact (fun q => absurd (q.1.2.1.symm.trans (show s_within (px_rem (x / 100) 100) 1 40 = false from h41)) (by decide)) | exact (fun q => absurd (q.1.2.2.symm.trans (show s_within (px_rem x 100) 0 12 = false from h52)) (by decide))
      refine V0_iconst (pc := 55) (-1) dX11_drawn_55 (by decide) ?_
      refine V_reti (pc := 56) _ dX11_drawn_56 rfl ?_
      first | exact ⟨by rw [if_neg z] <;> rfl, by rw [if_neg z], rfl⟩ | exact ⟨by rw [if_pos z], by rw [if_pos z], rfl⟩
    · skip
      refine V0_iload (pc := 44) dX11_drawn_44 rfl ?_
      refine V0_iconst (pc := 46) (0) dX11_drawn_46 (by decide) ?_
      refine V0_bipush (pc := 47) (12) dX11_drawn_47 (by decide) ?_
      refine V_callSi (pc := 49) (M' := mX11_isWithin) dX11_drawn_49 mlX11_99 okX11_isWithin rfl c_X11_isWithin rfl rfl ⟨Nat.le_of_ble_eq_true rfl, Nat.le_of_ble_eq_true rfl⟩ ⟨Nat.le_refl 0, Nat.le_refl 0⟩ (Nat.le_of_ble_eq_true rfl) ?_
      refine V_ifneb (pc := 52) 57 dX11_drawn_52 (by decide) (fun h52 => ?_) (fun h52 => ?_)
      · skip
        refine V0_iload_n (pc := 57) dX11_drawn_57 rfl ?_
        refine V0_iconst (pc := 58) (-1) dX11_drawn_58 (by decide) ?_
        refine V0_icmp_eq (pc := 59) 75 dX11_drawn_59 (by decide) (fun h59 => ?_) (fun h59 => ?_)
        · skip
          have z : (s_within (x / 10000) 1 30 = true ∧ s_within (px_rem (x / 100) 100) 1 40 = true ∧ s_within (px_rem x 100) 0 12 = true) ∧ (y = -1 ∨ g_isJ I y = true) := by first | exact ⟨⟨h30, h41, h52⟩, Or.inr h70⟩ | exact ⟨⟨h30, h41, h52⟩, Or.inl h59⟩
          have ha := s_win (a := 1) (b := 30) h30 (by omega) (by omega)
          have hb := s_win (a := 1) (b := 40) h41 (by omega) (by omega)
          have hj : ¬ y < 0 → y = nI (ix y) ∧ ix y < 10 := fun q => z.2.elim (fun e => absurd (by rw [e]; decide) q) (fun e => s_is_ix (c := 10) rfl (by omega) (n := I 1 7) e)
          have hc := c_X9_drawLanes (l := l) (J := J) (seed := sd) (mv := (px_rem x 100)) hk ha.2.2 hb.2.2 hj
          rw [← ha.1, ← hb.1] at hc
          refine V0_aload_n (pc := 75) dX11_drawn_75 rfl ?_
          refine V_getr (pc := 76) dX11_drawn_76 flX11_77 rfl rfl ?_
          refine V0_iload_n (pc := 79) dX11_drawn_79 rfl ?_
          refine V0_iload (pc := 80) dX11_drawn_80 rfl ?_
          refine V0_iload (pc := 82) dX11_drawn_82 rfl ?_
          refine V0_iload (pc := 84) dX11_drawn_84 rfl ?_
          refine V0_iload_n (pc := 86) dX11_drawn_86 rfl ?_
          refine V_callV (pc := 87) (M' := mX9_drawLanes) dX11_drawn_87 mlX11_274 okX9_drawLanes rfl hc rfl rfl rfl rfl ⟨Nat.le_of_ble_eq_true rfl, Nat.le_of_ble_eq_true rfl⟩ ⟨Nat.le_refl 0, Nat.le_refl 0⟩ (Nat.le_of_ble_eq_true rfl) ?_
          intro r1 I1 J1 hh
          obtain ⟨e1, e2, e3⟩ := hh
          rw [e1, e2, e3]
          clear e1 e2 e3 r1 I1 J1
          refine V_reti (pc := 90) _ dX11_drawn_90 rfl ?_
          first | exact ⟨by rw [if_neg z] <;> rfl, by rw [if_neg z], rfl⟩ | exact ⟨by rw [if_pos z], by rw [if_pos z], rfl⟩
        · skip
          refine V0_aload_n (pc := 62) dX11_drawn_62 rfl ?_
          refine V_getr (pc := 63) dX11_drawn_63 flX11_26 rfl rfl ?_
          refine V0_iload_n (pc := 66) dX11_drawn_66 rfl ?_
          refine V_callVi (pc := 67) (M' := mX7_isJoy) dX11_drawn_67 mlX11_143 okX7_isJoy rfl c_X7_isJoy rfl rfl rfl rfl ⟨Nat.le_of_ble_eq_true rfl, Nat.le_of_ble_eq_true rfl⟩ ⟨Nat.le_refl 0, Nat.le_refl 0⟩ (Nat.le_of_ble_eq_true rfl) ?_
          refine V_ifneb (pc := 70) 75 dX11_drawn_70 (by decide) (fun h70 => ?_) (fun h70 => ?_)
          · skip
            have z : (s_within (x / 10000) 1 30 = true ∧ s_within (px_rem (x / 100) 100) 1 40 = true ∧ s_within (px_rem x 100) 0 12 = true) ∧ (y = -1 ∨ g_isJ I y = true) := by first | exact ⟨⟨h30, h41, h52⟩, Or.inr h70⟩ | exact ⟨⟨h30, h41, h52⟩, Or.inl h59⟩
            have ha := s_win (a := 1) (b := 30) h30 (by omega) (by omega)
            have hb := s_win (a := 1) (b := 40) h41 (by omega) (by omega)
            have hj : ¬ y < 0 → y = nI (ix y) ∧ ix y < 10 := fun q => z.2.elim (fun e => absurd (by rw [e]; decide) q) (fun e => s_is_ix (c := 10) rfl (by omega) (n := I 1 7) e)
            have hc := c_X9_drawLanes (l := l) (J := J) (seed := sd) (mv := (px_rem x 100)) hk ha.2.2 hb.2.2 hj
            rw [← ha.1, ← hb.1] at hc
            refine V0_aload_n (pc := 75) dX11_drawn_75 rfl ?_
            refine V_getr (pc := 76) dX11_drawn_76 flX11_77 rfl rfl ?_
            refine V0_iload_n (pc := 79) dX11_drawn_79 rfl ?_
            refine V0_iload (pc := 80) dX11_drawn_80 rfl ?_
            refine V0_iload (pc := 82) dX11_drawn_82 rfl ?_
            refine V0_iload (pc := 84) dX11_drawn_84 rfl ?_
            refine V0_iload_n (pc := 86) dX11_drawn_86 rfl ?_
            refine V_callV (pc := 87) (M' := mX9_drawLanes) dX11_drawn_87 mlX11_274 okX9_drawLanes rfl hc rfl rfl rfl rfl ⟨Nat.le_of_ble_eq_true rfl, Nat.le_of_ble_eq_true rfl⟩ ⟨Nat.le_refl 0, Nat.le_refl 0⟩ (Nat.le_of_ble_eq_true rfl) ?_
            intro r1 I1 J1 hh
            obtain ⟨e1, e2, e3⟩ := hh
            rw [e1, e2, e3]
            clear e1 e2 e3 r1 I1 J1
            refine V_reti (pc := 90) _ dX11_drawn_90 rfl ?_
            first | exact ⟨by rw [if_neg z] <;> rfl, by rw [if_neg z], rfl⟩ | exact ⟨by rw [if_pos z], by rw [if_pos z], rfl⟩
          · skip
            have z : ¬ ((s_within (x / 10000) 1 30 = true ∧ s_within (px_rem (x / 100) 100) 1 40 = true ∧ s_within (px_rem x 100) 0 12 = true) ∧ (y = -1 ∨ g_isJ I y = true)) := fun q => q.2.elim h59 (fun e => absurd (e.symm.trans (show g_isJ I y = false from h70)) (by decide))
            refine V0_iconst (pc := 73) (-1) dX11_drawn_73 (by decide) ?_
            refine V_reti (pc := 74) _ dX11_drawn_74 rfl ?_
            first | exact ⟨by rw [if_neg z] <;> rfl, by rw [if_neg z], rfl⟩ | exact ⟨by rw [if_pos z], by rw [if_pos z], rfl⟩
      · skip
        have z : ¬ ((s_within (x / 10000) 1 30 = true ∧ s_within (px_rem (x / 100) 100) 1 40 = true ∧ s_within (px_rem x 100) 0 12 = true) ∧ (y = -1 ∨ g_isJ I y = true)) := by first | exact (fun q => absurd (q.1.1.symm.trans (show s_within (x / 10000) 1 30 = false from h30)) (by decide)) | exact (fun q => absurd (q.1.2.1.symm.trans (show s_within (px_rem (x / 100) 100) 1 40 = false from h41)) (by decide)) | exact (fun q => absurd (q.1.2.2.symm.trans (show s_within (px_rem x 100) 0 12 = false from h52)) (by decide))
        refine V0_iconst (pc := 55) (-1) dX11_drawn_55 (by decide) ?_
        refine V_reti (pc := 56) _ dX11_drawn_56 rfl ?_
        first | exact ⟨by rw [if_neg z] <;> rfl, by rw [if_neg z], rfl⟩ | exact ⟨by rw [if_pos z], by rw [if_pos z], rfl⟩
/-- a joy from a row's place -/
def g_fr (I : px_I) (J : px_J) (n : Nat) (s p : Int32) : Bool × px_I := if ¬ p < 0 ∧ ¬ g_lenOf I s - 3 < p then (let o := (g_cell I J s p).toInt32; let d := (g_cell I J s (p + 1)).toInt32; let v := (g_cell I J s (p + 2)).toInt32; if s_mayBe 4 v = true ∧ g_isP I o = true ∧ s_within d 0 99 = true ∧ n < 10 then (true, px_up (g_addJoy I n o d) 6 n v) else (false, I)) else (false, I)
theorem JF_yes {l : Launch} {I : px_I} {J : px_J} {Q : px_Q} {n : Nat} {o d v : Int32} {s p u : Value} (hn : I 1 7 = nI n) (h10 : n < 10) (z : g_isP I o = true ∧ s_within d 0 99 = true) (hQ : Q (some (.int 1)) (px_up (g_addJoy I n o d) 6 n v) J) : V0 l (px_rm 4 0 0) mX11_joyFromRow (false, []) 0 0 70 [.ref 0, s, p, .int o, .int d, .int v, u] [] (px_mk I J) (px_q Q) := by
  have hJ : g_isJ (g_addJoy I n o d) (nI n) = true := by
    have e : g_addJoy I n o d 1 7 = nI (n + 1) := px_up_same
    unfold g_isJ s_is
    rw [e, decide_eq_false (nI_nn (by omega)), decide_eq_true ((qI_lt (by omega) (by omega)).mpr (Nat.lt_succ_self n)), decide_eq_true (p := nI n < (10 : Int32)) ((qI_lt (b := 10) (by omega) (by omega)).mpr h10)]
    rfl
  refine V0_aload_n (pc := 70) dX11_joyFromRow_70 rfl ?_
  refine V0_iload_n (pc := 71) dX11_joyFromRow_71 rfl ?_
  refine V0_iload (pc := 72) dX11_joyFromRow_72 rfl ?_
  refine V_callV (pc := 74) (M' := mX11_joy) dX11_joyFromRow_74 mlX11_140 okX11_joy rfl (c_X11_joy hn (by omega)) rfl rfl rfl rfl ⟨Nat.le_of_ble_eq_true rfl, Nat.le_of_ble_eq_true rfl⟩ ⟨Nat.le_refl 0, Nat.le_refl 0⟩ (Nat.le_of_ble_eq_true rfl) ?_
  intro r1 I1 J1 hh
  obtain ⟨e1, e2, e3⟩ := hh
  rw [e1, e2, e3]
  clear e1 e2 e3 r1 I1 J1
  simp only [if_pos z, if_pos h10]
  refine V0_istore_6 (pc := 77) dX11_joyFromRow_77 (by decide) rfl ?_
  refine V0_aload_n (pc := 79) dX11_joyFromRow_79 rfl ?_
  refine V_getr (pc := 80) dX11_joyFromRow_80 flX11_26 rfl rfl ?_
  refine V0_iload (pc := 83) dX11_joyFromRow_83 rfl ?_
  refine V_callVi (pc := 85) (M' := mX7_isJoy) dX11_joyFromRow_85 mlX11_143 okX7_isJoy rfl c_X7_isJoy rfl rfl rfl rfl ⟨Nat.le_of_ble_eq_true rfl, Nat.le_of_ble_eq_true rfl⟩ ⟨Nat.le_refl 0, Nat.le_refl 0⟩ (Nat.le_of_ble_eq_true rfl) ?_
  refine V_ifneb (pc := 88) 93 dX11_joyFromRow_88 (by decide) (fun h88 => ?_) (fun h88 => ?_)
  · skip
    refine V0_aload_n (pc := 93) dX11_joyFromRow_93 rfl ?_
    refine V_getr (pc := 94) dX11_joyFromRow_94 flX11_26 rfl rfl ?_
    refine V_getr (pc := 97) dX11_joyFromRow_97 flX11_146 rfl rfl ?_
    refine V0_iload (pc := 100) dX11_joyFromRow_100 rfl ?_
    refine V0_iload (pc := 102) dX11_joyFromRow_102 rfl ?_
    refine V_iast (pc := 104) n dX11_joyFromRow_104 rfl rfl (by omega) ?_
    refine V0_iconst (pc := 105) (1) dX11_joyFromRow_105 (by decide) ?_
    refine V_retz (pc := 106) _ dX11_joyFromRow_106 rfl (Or.inr rfl) ?_
    exact hQ
  · skip
    exact absurd (hJ.symm.trans h88) (by decide)
theorem JF_no {l : Launch} {I : px_I} {J : px_J} {Q : px_Q} {n : Nat} {o d v : Int32} {s p u : Value} (hn : I 1 7 = nI n) (hn10 : n ≤ 10) (z : ¬ (g_isP I o = true ∧ s_within d 0 99 = true ∧ n < 10)) (hQ : Q (some (.int 0)) I J) : V0 l (px_rm 4 0 0) mX11_joyFromRow (false, []) 0 0 70 [.ref 0, s, p, .int o, .int d, .int v, u] [] (px_mk I J) (px_q Q) := by
  have hst : (if g_isP I o = true ∧ s_within d 0 99 = true then (if n < 10 then g_addJoy I n o d else I) else I) = I := by
    split
    · rename_i q; exact if_neg (fun e => z ⟨q.1, q.2, e⟩)
    · rfl
  obtain ⟨vv, hvv, hneg⟩ : ∃ vv, (if g_isP I o = true ∧ s_within d 0 99 = true then (if n < 10 then nI n else -3) else -1) = vv ∧ vv < 0 := by
    refine ⟨_, rfl, ?_⟩
    split
    · rename_i q; rw [if_neg (fun e => z ⟨q.1, q.2, e⟩)]; decide
    · decide
  have hJ : g_isJ I vv = false := by
    unfold g_isJ s_is
    rw [decide_eq_true hneg]; rfl
  refine V0_aload_n (pc := 70) dX11_joyFromRow_70 rfl ?_
  refine V0_iload_n (pc := 71) dX11_joyFromRow_71 rfl ?_
  refine V0_iload (pc := 72) dX11_joyFromRow_72 rfl ?_
  refine V_callV (pc := 74) (M' := mX11_joy) dX11_joyFromRow_74 mlX11_140 okX11_joy rfl (c_X11_joy hn (by omega)) rfl rfl rfl rfl ⟨Nat.le_of_ble_eq_true rfl, Nat.le_of_ble_eq_true rfl⟩ ⟨Nat.le_refl 0, Nat.le_refl 0⟩ (Nat.le_of_ble_eq_true rfl) ?_
  intro r1 I1 J1 hh
  obtain ⟨e1, e2, e3⟩ := hh
  rw [e1, e2, e3]
  clear e1 e2 e3 r1 I1 J1
  rw [hst, hvv]
  refine V0_istore_6 (pc := 77) dX11_joyFromRow_77 (by decide) rfl ?_
  refine V0_aload_n (pc := 79) dX11_joyFromRow_79 rfl ?_
  refine V_getr (pc := 80) dX11_joyFromRow_80 flX11_26 rfl rfl ?_
  refine V0_iload (pc := 83) dX11_joyFromRow_83 rfl ?_
  refine V_callVi (pc := 85) (M' := mX7_isJoy) dX11_joyFromRow_85 mlX11_143 okX7_isJoy rfl c_X7_isJoy rfl rfl rfl rfl ⟨Nat.le_of_ble_eq_true rfl, Nat.le_of_ble_eq_true rfl⟩ ⟨Nat.le_refl 0, Nat.le_refl 0⟩ (Nat.le_of_ble_eq_true rfl) ?_
  refine V_ifneb (pc := 88) 93 dX11_joyFromRow_88 (by decide) (fun h88 => ?_) (fun h88 => ?_)
  · skip
    exact absurd (hJ.symm.trans h88) (by decide)
  · skip
    refine V0_iconst (pc := 91) (0) dX11_joyFromRow_91 (by decide) ?_
    refine V_retz (pc := 92) _ dX11_joyFromRow_92 rfl (Or.inl rfl) ?_
    exact hQ
theorem c_X11_joyFromRow {l : Launch} {I : px_I} {J : px_J} {n : Nat} {s p : Int32} (hn : I 1 7 = nI n) (hn10 : n ≤ 10) (hr : px_rows I) : Ct l mX11_joyFromRow 4 [.ref 0, .int s, .int p] I J (px_qi (b2 (g_fr I J n s p).1) (g_fr I J n s p).2 J) := by
  refine Ct.of plX11_joyFromRow (Nat.le_of_ble_eq_true rfl) [.ref 0, .int s, .int p, .null, .null, .null, .null] rfl ?_
  refine V0_iload_n (pc := 0) dX11_joyFromRow_0 rfl ?_
  refine V0_if_lt (pc := 1) 18 dX11_joyFromRow_1 (by decide) (fun h1 => ?_) (fun h1 => ?_)
  · skip
    have z : ¬ (¬ p < 0 ∧ ¬ g_lenOf I s - 3 < p) := by first | exact (fun q => q.1 h1) | exact (fun q => q.2 h15)
    refine V0_iconst (pc := 18) (0) dX11_joyFromRow_18 (by decide) ?_
    refine V_retz (pc := 19) _ dX11_joyFromRow_19 rfl (Or.inl rfl) ?_
    rw [g_fr, if_neg z]
    exact ⟨rfl, rfl, rfl⟩
  · skip
    refine V0_iload_n (pc := 4) dX11_joyFromRow_4 rfl ?_
    refine V0_aload_n (pc := 5) dX11_joyFromRow_5 rfl ?_
    refine V_getr (pc := 6) dX11_joyFromRow_6 flX11_95 rfl rfl ?_
    refine V0_iload_n (pc := 9) dX11_joyFromRow_9 rfl ?_
    refine V_callVi (pc := 10) (M' := mX5_lengthOf) dX11_joyFromRow_10 mlX11_130 okX5_lengthOf rfl c_X5_lengthOf rfl rfl rfl rfl ⟨Nat.le_of_ble_eq_true rfl, Nat.le_of_ble_eq_true rfl⟩ ⟨Nat.le_refl 0, Nat.le_refl 0⟩ (Nat.le_of_ble_eq_true rfl) ?_
    refine V0_iconst (pc := 13) (3) dX11_joyFromRow_13 (by decide) ?_
    refine V0_isub (pc := 14) dX11_joyFromRow_14 ?_
    refine V1_icmp_le (pc := 15) 20 dX11_joyFromRow_15 (by decide) (fun h15 => ?_) (fun h15 => ?_)
    · skip
      have z : ¬ p < 0 ∧ ¬ g_lenOf I s - 3 < p := ⟨h1, h15⟩
      refine V0_aload_n (pc := 20) dX11_joyFromRow_20 rfl ?_
      refine V_getr (pc := 21) dX11_joyFromRow_21 flX11_95 rfl rfl ?_
      refine V0_iload_n (pc := 24) dX11_joyFromRow_24 rfl ?_
      refine V0_iload_n (pc := 25) dX11_joyFromRow_25 rfl ?_
      refine V_callV (pc := 26) (M' := mX5_cell) dX11_joyFromRow_26 mlX11_133 okX5_cell rfl (c_X5_cell hr) rfl rfl rfl rfl ⟨Nat.le_of_ble_eq_true rfl, Nat.le_of_ble_eq_true rfl⟩ ⟨Nat.le_refl 0, Nat.le_refl 0⟩ (Nat.le_of_ble_eq_true rfl) ?_
      intro r1 I1 J1 hh
      obtain ⟨e1, e2, e3⟩ := hh
      rw [e1, e2, e3]
      clear e1 e2 e3 r1 I1 J1
      refine V0_l2i (pc := 29) dX11_joyFromRow_29 ?_
      refine V0_istore_3 (pc := 30) dX11_joyFromRow_30 (by decide) rfl ?_
      refine V0_aload_n (pc := 31) dX11_joyFromRow_31 rfl ?_
      refine V_getr (pc := 32) dX11_joyFromRow_32 flX11_95 rfl rfl ?_
      refine V0_iload_n (pc := 35) dX11_joyFromRow_35 rfl ?_
      refine V0_iload_n (pc := 36) dX11_joyFromRow_36 rfl ?_
      refine V0_iconst (pc := 37) (1) dX11_joyFromRow_37 (by decide) ?_
      refine V0_iadd (pc := 38) dX11_joyFromRow_38 ?_
      refine V_callV (pc := 39) (M' := mX5_cell) dX11_joyFromRow_39 mlX11_133 okX5_cell rfl (c_X5_cell hr) rfl rfl rfl rfl ⟨Nat.le_of_ble_eq_true rfl, Nat.le_of_ble_eq_true rfl⟩ ⟨Nat.le_refl 0, Nat.le_refl 0⟩ (Nat.le_of_ble_eq_true rfl) ?_
      intro r1 I1 J1 hh
      obtain ⟨e1, e2, e3⟩ := hh
      rw [e1, e2, e3]
      clear e1 e2 e3 r1 I1 J1
      refine V0_l2i (pc := 42) dX11_joyFromRow_42 ?_
      refine V0_istore_4 (pc := 43) dX11_joyFromRow_43 (by decide) rfl ?_
      refine V0_aload_n (pc := 45) dX11_joyFromRow_45 rfl ?_
      refine V_getr (pc := 46) dX11_joyFromRow_46 flX11_95 rfl rfl ?_
      refine V0_iload_n (pc := 49) dX11_joyFromRow_49 rfl ?_
      refine V0_iload_n (pc := 50) dX11_joyFromRow_50 rfl ?_
      refine V0_iconst (pc := 51) (2) dX11_joyFromRow_51 (by decide) ?_
      refine V0_iadd (pc := 52) dX11_joyFromRow_52 ?_
      refine V_callV (pc := 53) (M' := mX5_cell) dX11_joyFromRow_53 mlX11_133 okX5_cell rfl (c_X5_cell hr) rfl rfl rfl rfl ⟨Nat.le_of_ble_eq_true rfl, Nat.le_of_ble_eq_true rfl⟩ ⟨Nat.le_refl 0, Nat.le_refl 0⟩ (Nat.le_of_ble_eq_true rfl) ?_
      intro r1 I1 J1 hh
      obtain ⟨e1, e2, e3⟩ := hh
      rw [e1, e2, e3]
      clear e1 e2 e3 r1 I1 J1
      refine V0_l2i (pc := 56) dX11_joyFromRow_56 ?_
      refine V0_istore_5 (pc := 57) dX11_joyFromRow_57 (by decide) rfl ?_
      refine V0_iconst (pc := 59) (4) dX11_joyFromRow_59 (by decide) ?_
      refine V0_iload (pc := 60) dX11_joyFromRow_60 rfl ?_
      refine V_callSi (pc := 62) (M' := mX4_mayBe) dX11_joyFromRow_62 mlX11_137 okX4_mayBe rfl c_X4_mayBe rfl rfl ⟨Nat.le_of_ble_eq_true rfl, Nat.le_of_ble_eq_true rfl⟩ ⟨Nat.le_refl 0, Nat.le_refl 0⟩ (Nat.le_of_ble_eq_true rfl) ?_
      refine V_ifneb (pc := 65) 70 dX11_joyFromRow_65 (by decide) (fun h65 => ?_) (fun h65 => ?_)
      · skip
        by_cases y : g_isP I (g_cell I J s p).toInt32 = true ∧ s_within (g_cell I J s (p + 1)).toInt32 0 99 = true ∧ n < 10
        · refine JF_yes hn y.2.2 ⟨y.1, y.2.1⟩ ?_
          rw [g_fr, if_pos z]
          simp only
          rw [if_pos ⟨h65, y⟩]
          exact ⟨rfl, rfl, rfl⟩
        · refine JF_no hn hn10 y ?_
          rw [g_fr, if_pos z]
          simp only
          rw [if_neg (fun q => y q.2)]
          exact ⟨rfl, rfl, rfl⟩
      · skip
        refine V0_iconst (pc := 68) (0) dX11_joyFromRow_68 (by decide) ?_
        refine V_retz (pc := 69) _ dX11_joyFromRow_69 rfl (Or.inl rfl) ?_
        rw [g_fr, if_pos z]
        simp only
        rw [if_neg (fun q => absurd (q.1.symm.trans (show s_mayBe 4 _ = false from h65)) (by decide))]
        exact ⟨rfl, rfl, rfl⟩
    · skip
      have z : ¬ (¬ p < 0 ∧ ¬ g_lenOf I s - 3 < p) := by first | exact (fun q => q.1 h1) | exact (fun q => q.2 h15)
      refine V0_iconst (pc := 18) (0) dX11_joyFromRow_18 (by decide) ?_
      refine V_retz (pc := 19) _ dX11_joyFromRow_19 rfl (Or.inl rfl) ?_
      rw [g_fr, if_neg z]
      exact ⟨rfl, rfl, rfl⟩
def g_js (J : px_J) (s i : Int32) (N : Nat) : Nat → Nat → Nat → px_I → Nat × px_I
  | 0, k, _, I => (k, I)
  | f + 1, k, n, I => if k < N ∧ (g_fr I J n s (i + 3 * nI k)).1 = true then g_js J s i N f (k + 1) (n + 1) (g_fr I J n s (i + 3 * nI k)).2 else (k, I)
theorem g_fr_ok {I : px_I} {J : px_J} {n : Nat} {s p : Int32} (hr : px_rows I) (h : (g_fr I J n s p).1 = true) : n < 10 ∧ (g_fr I J n s p).2 1 7 = nI (n + 1) ∧ px_rows (g_fr I J n s p).2 := by
  unfold g_fr at h ⊢
  split at h
  · rename_i z
    rw [if_pos z]
    simp only at h ⊢
    split at h
    · rename_i y
      rw [if_pos y]
      have e17 : px_up (g_addJoy I n (g_cell I J s p).toInt32 (g_cell I J s (p + 1)).toInt32) 6 n (g_cell I J s (p + 2)).toInt32 1 7 = nI (n + 1) := by rw [px_up_row (by omega)]; exact px_up_same
      refine ⟨y.2.2.2, e17, ?_⟩
      unfold px_rows
      have e20 : px_up (g_addJoy I n (g_cell I J s p).toInt32 (g_cell I J s (p + 1)).toInt32) 6 n (g_cell I J s (p + 2)).toInt32 20 = I 20 := by unfold g_addJoy; simp only [px_up_row (show (20 : Nat) ≠ 6 by omega), px_up_row (show (20 : Nat) ≠ 1 by omega), px_up_row (show (20 : Nat) ≠ 2 by omega), px_up_row (show (20 : Nat) ≠ 3 by omega), px_up_row (show (20 : Nat) ≠ 4 by omega), px_up_row (show (20 : Nat) ≠ 5 by omega)]
      have e21 : px_up (g_addJoy I n (g_cell I J s p).toInt32 (g_cell I J s (p + 1)).toInt32) 6 n (g_cell I J s (p + 2)).toInt32 21 = I 21 := by unfold g_addJoy; simp only [px_up_row (show (21 : Nat) ≠ 6 by omega), px_up_row (show (21 : Nat) ≠ 1 by omega), px_up_row (show (21 : Nat) ≠ 2 by omega), px_up_row (show (21 : Nat) ≠ 3 by omega), px_up_row (show (21 : Nat) ≠ 4 by omega), px_up_row (show (21 : Nat) ≠ 5 by omega)]
      simp only [e20, e21]
      exact hr
    · cases h
  · cases h
theorem g_fr_no {I : px_I} {J : px_J} {n : Nat} {s p : Int32} (h : (g_fr I J n s p).1 = false) : (g_fr I J n s p).2 = I := by
  unfold g_fr at h ⊢
  split at h
  · rename_i z
    rw [if_pos z]
    simp only at h ⊢
    split at h
    · cases h
    · rename_i y; rw [if_neg y]
  · rename_i z; rw [if_neg z]
theorem lp_X11_joys {l : Launch} {I : px_I} {J : px_J} {Q : px_Q} {s i v : Int32} {N : Nat} (hN : N ≤ 10) : ∀ (f k n : Nat) (S : px_I), N + 1 - k ≤ f → k ≤ N → S 1 7 = nI n → n ≤ 10 → px_rows S → Q (some (.int (nI (g_js J s i N f k n S).1))) (g_js J s i N f k n S).2 J → V0 l (px_rm 5 0 0) mX11_joys (false, []) 0 0 45 [.ref 0, .int s, .int i, .int (nI N), .int v, .int (nI k), .int (nI k)] [] (px_mk S J) (px_q Q) := by
  intro f
  induction f with
  | zero => intro k n S h1 h2; omega
  | succ f ih =>
    intro k n S h1 h2 hn hn10 hr hQ
    refine V0_iload (pc := 45) dX11_joys_45 rfl ?_
    refine V0_iload_n (pc := 47) dX11_joys_47 rfl ?_
    refine V1_icmp_ge (pc := 48) 74 dX11_joys_48 (by decide) (fun h48 => ?_) (fun h48 => ?_)
    · skip
      refine V0_iload (pc := 74) dX11_joys_74 rfl ?_
      refine V_reti (pc := 76) _ dX11_joys_76 rfl ?_
      first | (rw [g_js, if_neg (fun q => h48 ((qI_lt (by omega) (by omega)).mpr q.1))] at hQ; exact hQ) | (rw [g_js, if_neg (fun q => absurd (q.2.symm.trans h62) (by decide))] at hQ; rw [g_fr_no h62]; exact hQ)
    · skip
      have hk := px_lt h48 (by omega) (by omega)
      refine V0_aload_n (pc := 51) dX11_joys_51 rfl ?_
      refine V0_iload_n (pc := 52) dX11_joys_52 rfl ?_
      refine V0_iload_n (pc := 53) dX11_joys_53 rfl ?_
      refine V0_iconst (pc := 54) (3) dX11_joys_54 (by decide) ?_
      refine V0_iload (pc := 55) dX11_joys_55 rfl ?_
      refine V0_imul (pc := 57) dX11_joys_57 ?_
      refine V0_iadd (pc := 58) dX11_joys_58 ?_
      refine V_callV (pc := 59) (M' := mX11_joyFromRow) dX11_joys_59 mlX11_126 okX11_joyFromRow rfl (c_X11_joyFromRow hn hn10 hr) rfl rfl rfl rfl ⟨Nat.le_of_ble_eq_true rfl, Nat.le_of_ble_eq_true rfl⟩ ⟨Nat.le_refl 0, Nat.le_refl 0⟩ (Nat.le_of_ble_eq_true rfl) ?_
      intro r1 I1 J1 hh
      obtain ⟨e1, e2, e3⟩ := hh
      rw [e1, e2, e3]
      clear e1 e2 e3 r1 I1 J1
      refine V_ifeqb (pc := 62) 74 dX11_joys_62 (by decide) (fun h62 => ?_) (fun h62 => ?_)
      · skip
        refine V0_iload (pc := 74) dX11_joys_74 rfl ?_
        refine V_reti (pc := 76) _ dX11_joys_76 rfl ?_
        first | (rw [g_js, if_neg (fun q => h48 ((qI_lt (by omega) (by omega)).mpr q.1))] at hQ; exact hQ) | (rw [g_js, if_neg (fun q => absurd (q.2.symm.trans h62) (by decide))] at hQ; rw [g_fr_no h62]; exact hQ)
      · skip
        refine V0_iinc_5 (pc := 65) (nI (k + 1)) dX11_joys_65 (by decide) rfl (nI_1 _) ?_
        refine V0_iinc_6 (pc := 68) (nI (k + 1)) dX11_joys_68 (by decide) rfl (nI_1 _) ?_
        refine V0_goto (pc := 71) 45 dX11_joys_71 (by decide) ?_
        have ok := g_fr_ok hr h62
        rw [g_js, if_pos ⟨hk, h62⟩] at hQ
        exact ih (k + 1) (n + 1) _ (by omega) (by omega) ok.2.1 (by omega) ok.2.2 hQ
theorem c_X11_joys {l : Launch} {I : px_I} {J : px_J} {s i x : Int32} {n : Nat} (hn : I 1 7 = nI n) (hn10 : n ≤ 10) (hr : px_rows I) : Ct l mX11_joys 5 [.ref 0, .int s, .int i, .int x] I J (px_qi (if s_within x 1 10 = true then (if g_refBytes I s = -11 then 0 else if g_refBytes I s = 0 then nI (g_js J s i (ix x) (ix x + 1) 0 n I).1 else g_refBytes I s) else -1) (if s_within x 1 10 = true ∧ g_refBytes I s = 0 then (g_js J s i (ix x) (ix x + 1) 0 n I).2 else I) J) := by
  refine Ct.of plX11_joys (Nat.le_of_ble_eq_true rfl) [.ref 0, .int s, .int i, .int x, .null, .null, .null] rfl ?_
  refine V0_iload_n (pc := 0) dX11_joys_0 rfl ?_
  refine V0_iconst (pc := 1) (1) dX11_joys_1 (by decide) ?_
  refine V0_bipush (pc := 2) (10) dX11_joys_2 (by decide) ?_
  refine V_callSi (pc := 4) (M' := mX11_isWithin) dX11_joys_4 mlX11_99 okX11_isWithin rfl c_X11_isWithin rfl rfl ⟨Nat.le_of_ble_eq_true rfl, Nat.le_of_ble_eq_true rfl⟩ ⟨Nat.le_refl 0, Nat.le_refl 0⟩ (Nat.le_of_ble_eq_true rfl) ?_
  refine V_ifneb (pc := 7) 12 dX11_joys_7 (by decide) (fun h7 => ?_) (fun h7 => ?_)
  · skip
    refine V0_aload_n (pc := 12) dX11_joys_12 rfl ?_
    refine V_getr (pc := 13) dX11_joys_13 flX11_95 rfl rfl ?_
    refine V0_iload_n (pc := 16) dX11_joys_16 rfl ?_
    refine V_callVi (pc := 17) (M' := mX5_refuseBytes) dX11_joys_17 mlX11_122 okX5_refuseBytes rfl c_X5_refuseBytes rfl rfl rfl rfl ⟨Nat.le_of_ble_eq_true rfl, Nat.le_of_ble_eq_true rfl⟩ ⟨Nat.le_refl 0, Nat.le_refl 0⟩ (Nat.le_of_ble_eq_true rfl) ?_
    refine V0_istore_4 (pc := 20) dX11_joys_20 (by decide) rfl ?_
    refine V0_iload (pc := 22) dX11_joys_22 rfl ?_
    refine V0_bipush (pc := 24) (-11) dX11_joys_24 (by decide) ?_
    refine V0_icmp_ne (pc := 26) 31 dX11_joys_26 (by decide) (fun h26 => ?_) (fun h26 => ?_)
    · skip
      refine V0_iload (pc := 31) dX11_joys_31 rfl ?_
      refine V0_if_eq (pc := 33) 39 dX11_joys_33 (by decide) (fun h33 => ?_) (fun h33 => ?_)
      · skip
        refine V0_iconst (pc := 39) (0) dX11_joys_39 (by decide) ?_
        refine V0_istore_5 (pc := 40) dX11_joys_40 (by decide) rfl ?_
        refine V0_iconst (pc := 42) (0) dX11_joys_42 (by decide) ?_
        refine V0_istore_6 (pc := 43) dX11_joys_43 (by decide) rfl ?_
        have hx := s_win (a := 1) (b := 10) h7 (by omega) (by omega)
        have key := lp_X11_joys (l := l) (I := I) (J := J) (s := s) (i := i) (v := g_refBytes I s) (N := ix x) (Q := px_qi (if s_within x 1 10 = true then (if g_refBytes I s = -11 then 0 else if g_refBytes I s = 0 then nI (g_js J s i (ix x) (ix x + 1) 0 n I).1 else g_refBytes I s) else -1) (if s_within x 1 10 = true ∧ g_refBytes I s = 0 then (g_js J s i (ix x) (ix x + 1) 0 n I).2 else I) J) hx.2.2 (ix x + 1) 0 n I (by omega) (by omega) hn hn10 hr (by rw [if_pos h7, if_neg h26, if_pos h33, if_pos ⟨h7, h33⟩]; exact ⟨rfl, rfl, rfl⟩)
        rw [← hx.1] at key
        exact key
      · skip
        refine V0_iload (pc := 36) dX11_joys_36 rfl ?_
        refine V_reti (pc := 38) _ dX11_joys_38 rfl ?_
        exact ⟨by rw [if_pos h7, if_neg h26, if_neg h33], by rw [if_neg (fun q => h33 q.2)], rfl⟩
    · skip
      refine V0_iconst (pc := 29) (0) dX11_joys_29 (by decide) ?_
      refine V_reti (pc := 30) _ dX11_joys_30 rfl ?_
      exact ⟨by rw [if_pos h7, if_pos h26] <;> rfl, by rw [if_neg (fun q => absurd (h26.symm.trans q.2) (by decide))], rfl⟩
  · skip
    refine V0_iconst (pc := 10) (-1) dX11_joys_10 (by decide) ?_
    refine V_reti (pc := 11) _ dX11_joys_11 rfl ?_
    exact ⟨by rw [if_neg (by rw [show s_within x 1 10 = false from h7]; decide)] <;> rfl, by rw [if_neg (fun q => absurd (q.1.symm.trans (show s_within x 1 10 = false from h7)) (by decide))], rfl⟩

