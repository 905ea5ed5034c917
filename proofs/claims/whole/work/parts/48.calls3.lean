/-! still more calls -/
theorem W_undo {l : Launch} {I : px_I} {J : px_J} {Q : px_Q} {x : Int32} (h1 : x = 0 → Q (some (.int (-5))) I J) (h2 : ¬ x = 0 → Q (some (.int (I 28 5))) I J) : V0 l (px_rm 4 0 0) mX11_undo (false, []) 0 0 7 [.ref 0] [.int x] (px_mk I J) (px_q Q) := by
  refine V0_if_eq (pc := 7) 20 dX11_undo_7 (by decide) (fun h7 => ?_) (fun h7 => ?_)
  · skip
    have hz := h1 h7
    refine V0_bipush (pc := 20) (-5) dX11_undo_20 (by decide) ?_
    refine V_reti (pc := 22) _ dX11_undo_22 rfl ?_
    exact hz
  · skip
    have hz := h2 h7
    refine V0_aload_n (pc := 10) dX11_undo_10 rfl ?_
    refine V_getr (pc := 11) dX11_undo_11 flX11_48 rfl rfl ?_
    refine V_geti (pc := 14) dX11_undo_14 flX11_301 rfl rfl ?_
    refine V0_goto (pc := 17) 22 dX11_undo_17 (by decide) ?_
    refine V_reti (pc := 22) _ dX11_undo_22 rfl ?_
    exact hz
theorem W_redo {l : Launch} {I : px_I} {J : px_J} {Q : px_Q} {x : Int32} (h1 : x = 0 → Q (some (.int (-5))) I J) (h2 : ¬ x = 0 → Q (some (.int (I 28 6 - I 28 5))) I J) : V0 l (px_rm 4 0 0) mX11_redo (false, []) 0 0 7 [.ref 0] [.int x] (px_mk I J) (px_q Q) := by
  refine V0_if_eq (pc := 7) 28 dX11_redo_7 (by decide) (fun h7 => ?_) (fun h7 => ?_)
  · skip
    have hz := h1 h7
    refine V0_bipush (pc := 28) (-5) dX11_redo_28 (by decide) ?_
    refine V_reti (pc := 30) _ dX11_redo_30 rfl ?_
    exact hz
  · skip
    have hz := h2 h7
    refine V0_aload_n (pc := 10) dX11_redo_10 rfl ?_
    refine V_getr (pc := 11) dX11_redo_11 flX11_48 rfl rfl ?_
    refine V_geti (pc := 14) dX11_redo_14 flX11_307 rfl rfl ?_
    refine V0_aload_n (pc := 17) dX11_redo_17 rfl ?_
    refine V_getr (pc := 18) dX11_redo_18 flX11_48 rfl rfl ?_
    refine V_geti (pc := 21) dX11_redo_21 flX11_301 rfl rfl ?_
    refine V0_isub (pc := 24) dX11_redo_24 ?_
    refine V0_goto (pc := 25) 30 dX11_redo_25 (by decide) ?_
    refine V_reti (pc := 30) _ dX11_redo_30 rfl ?_
    exact hz
def g_undo (I : px_I) (d : Nat) : px_I := if d = 0 then I else g_write (px_up I 28 5 (nI (d - 1))) (I 29 (d - 1)) (I 30 (d - 1)) (I 31 (d - 1))
theorem c_X11_undo {l : Launch} {I : px_I} {J : px_J} {d : Nat} (hd : I 28 5 = nI d) (hd40 : d ≤ 40) : Ct l mX11_undo 4 [.ref 0] I J (px_qi (if d = 0 then -5 else g_undo I d 28 5) (g_undo I d) J) := by
  refine Ct.of plX11_undo (Nat.le_of_ble_eq_true rfl) [.ref 0] rfl ?_
  refine V0_aload_n (pc := 0) dX11_undo_0 rfl ?_
  refine V_getr (pc := 1) dX11_undo_1 flX11_48 rfl rfl ?_
  refine V_callV (pc := 4) (M' := mX1_takeBack) dX11_undo_4 mlX11_297 okX1_takeBack rfl (c_X1_takeBack hd hd40) rfl rfl rfl rfl ⟨Nat.le_of_ble_eq_true rfl, Nat.le_of_ble_eq_true rfl⟩ ⟨Nat.le_refl 0, Nat.le_refl 0⟩ (Nat.le_of_ble_eq_true rfl) ?_
  intro r1 I1 J1 hh
  obtain ⟨hh, e3⟩ := hh
  rw [e3]
  clear e3 J1
  by_cases z : d = 0
  · rw [if_pos z] at hh
    rw [hh.1, hh.2]
    exact W_undo (fun _ => ⟨by rw [if_pos z], by rw [g_undo, if_pos z], rfl⟩) (fun q => absurd rfl q)
  · rw [if_neg z] at hh
    rw [hh.1, hh.2]
    exact W_undo (fun q => absurd q (by decide)) (fun _ => ⟨by rw [if_neg z, g_undo, if_neg z], by rw [g_undo, if_neg z], rfl⟩)
def g_redo (I : px_I) (d n : Nat) : px_I := if d < n then px_up (g_write I (I 29 d) (I 30 d) (I 32 d)) 28 5 (nI (d + 1)) else I
theorem c_X11_redo {l : Launch} {I : px_I} {J : px_J} {d n : Nat} (hd : I 28 5 = nI d) (hd40 : d ≤ 40) (hk : I 28 6 = nI n) (hn : n ≤ 40) : Ct l mX11_redo 4 [.ref 0] I J (px_qi (if d < n then g_redo I d n 28 6 - g_redo I d n 28 5 else -5) (g_redo I d n) J) := by
  refine Ct.of plX11_redo (Nat.le_of_ble_eq_true rfl) [.ref 0] rfl ?_
  refine V0_aload_n (pc := 0) dX11_redo_0 rfl ?_
  refine V_getr (pc := 1) dX11_redo_1 flX11_48 rfl rfl ?_
  refine V_callV (pc := 4) (M' := mX1_doAgain) dX11_redo_4 mlX11_304 okX1_doAgain rfl (c_X1_doAgain hd hd40 hk hn) rfl rfl rfl rfl ⟨Nat.le_of_ble_eq_true rfl, Nat.le_of_ble_eq_true rfl⟩ ⟨Nat.le_refl 0, Nat.le_refl 0⟩ (Nat.le_of_ble_eq_true rfl) ?_
  intro r1 I1 J1 hh
  obtain ⟨hh, e3⟩ := hh
  rw [e3]
  clear e3 J1
  by_cases z : d < n
  · rw [if_pos z] at hh
    rw [hh.1, hh.2]
    exact W_redo (fun q => absurd q (by decide)) (fun _ => ⟨by rw [if_pos z, g_redo, if_pos z], by rw [g_redo, if_pos z], rfl⟩)
  · rw [if_neg z] at hh
    rw [hh.1, hh.2]
    exact W_redo (fun _ => ⟨by rw [if_neg z], by rw [g_redo, if_neg z], rfl⟩) (fun q => absurd rfl q)
theorem c_X11_moves {l : Launch} {I : px_I} {J : px_J} {x h : Int32} : Ct l mX11_moves 1 [.ref 0, .int x, .int h] I J (px_qi (if g_isP I x = true ∧ s_within h 0 11 = true then I 9 (ix x) else -1) (if g_isP I x = true ∧ s_within h 0 11 = true then px_up (px_up I 9 (ix x) h) 12 0 (I 12 0 + 1) else I) J) := by
  refine Ct.of plX11_moves (Nat.le_of_ble_eq_true rfl) [.ref 0, .int x, .int h, .null] rfl ?_
  refine V0_aload_n (pc := 0) dX11_moves_0 rfl ?_
  refine V_getr (pc := 1) dX11_moves_1 flX11_26 rfl rfl ?_
  refine V0_iload_n (pc := 4) dX11_moves_4 rfl ?_
  refine V_callVi (pc := 5) (M' := mX7_isPerson) dX11_moves_5 mlX11_111 okX7_isPerson rfl c_X7_isPerson rfl rfl rfl rfl ⟨Nat.le_of_ble_eq_true rfl, Nat.le_of_ble_eq_true rfl⟩ ⟨Nat.le_refl 0, Nat.le_refl 0⟩ (Nat.le_of_ble_eq_true rfl) ?_
  refine V_ifeqb (pc := 8) 21 dX11_moves_8 (by decide) (fun h8 => ?_) (fun h8 => ?_)
  · skip
    have z : ¬ (g_isP I x = true ∧ s_within h 0 11 = true) := by first | exact (fun q => absurd (q.1.symm.trans (show g_isP I x = false from h8)) (by decide)) | exact (fun q => absurd (q.2.symm.trans (show s_within h 0 11 = false from h18)) (by decide))
    refine V0_iconst (pc := 21) (-1) dX11_moves_21 (by decide) ?_
    refine V_reti (pc := 22) _ dX11_moves_22 rfl ?_
    exact ⟨by rw [if_neg z] <;> rfl, by rw [if_neg z], rfl⟩
  · skip
    have hx := s_is_ix (c := 7) rfl (by omega) (n := I 1 6) h8
    refine V0_iload_n (pc := 11) dX11_moves_11 rfl ?_
    refine V0_iconst (pc := 12) (0) dX11_moves_12 (by decide) ?_
    refine V0_bipush (pc := 13) (11) dX11_moves_13 (by decide) ?_
    refine V_callSi (pc := 15) (M' := mX11_isWithin) dX11_moves_15 mlX11_99 okX11_isWithin rfl c_X11_isWithin rfl rfl ⟨Nat.le_of_ble_eq_true rfl, Nat.le_of_ble_eq_true rfl⟩ ⟨Nat.le_refl 0, Nat.le_refl 0⟩ (Nat.le_of_ble_eq_true rfl) ?_
    refine V_ifneb (pc := 18) 23 dX11_moves_18 (by decide) (fun h18 => ?_) (fun h18 => ?_)
    · skip
      have z : g_isP I x = true ∧ s_within h 0 11 = true := ⟨h8, h18⟩
      refine V0_aload_n (pc := 23) dX11_moves_23 rfl ?_
      refine V_getr (pc := 24) dX11_moves_24 flX11_32 rfl rfl ?_
      refine V_getr (pc := 27) dX11_moves_27 flX11_107 rfl rfl ?_
      refine V0_iload_n (pc := 30) dX11_moves_30 rfl ?_
      refine V_iald (pc := 31) (ix x) dX11_moves_31 rfl hx.1 hx.2 ?_
      refine V0_istore_3 (pc := 32) dX11_moves_32 (by decide) rfl ?_
      refine V0_aload_n (pc := 33) dX11_moves_33 rfl ?_
      refine V_getr (pc := 34) dX11_moves_34 flX11_32 rfl rfl ?_
      refine V_getr (pc := 37) dX11_moves_37 flX11_107 rfl rfl ?_
      refine V0_iload_n (pc := 40) dX11_moves_40 rfl ?_
      refine V0_iload_n (pc := 41) dX11_moves_41 rfl ?_
      refine V_iast (pc := 42) (ix x) dX11_moves_42 rfl hx.1 hx.2 ?_
      refine V0_aload_n (pc := 43) dX11_moves_43 rfl ?_
      refine V_getr (pc := 44) dX11_moves_44 flX11_32 rfl rfl ?_
      refine V_getr (pc := 47) dX11_moves_47 flX11_216 rfl rfl ?_
      refine V0_iconst (pc := 50) (0) dX11_moves_50 (by decide) ?_
      refine V0_dup2 (pc := 51) dX11_moves_51 rfl rfl ?_
      refine V_iald (pc := 52) 0 dX11_moves_52 rfl (by decide) (by decide) ?_
      refine V0_iconst (pc := 53) (1) dX11_moves_53 (by decide) ?_
      refine V0_iadd (pc := 54) dX11_moves_54 ?_
      refine V_iast (pc := 55) 0 dX11_moves_55 rfl (by decide) (by decide) ?_
      refine V0_iload_n (pc := 56) dX11_moves_56 rfl ?_
      refine V_reti (pc := 57) _ dX11_moves_57 rfl ?_
      exact ⟨by rw [if_pos z], by rw [if_pos z] <;> rfl, rfl⟩
    · skip
      have z : ¬ (g_isP I x = true ∧ s_within h 0 11 = true) := by first | exact (fun q => absurd (q.1.symm.trans (show g_isP I x = false from h8)) (by decide)) | exact (fun q => absurd (q.2.symm.trans (show s_within h 0 11 = false from h18)) (by decide))
      refine V0_iconst (pc := 21) (-1) dX11_moves_21 (by decide) ?_
      refine V_reti (pc := 22) _ dX11_moves_22 rfl ?_
      exact ⟨by rw [if_neg z] <;> rfl, by rw [if_neg z], rfl⟩
theorem c_X11_day {l : Launch} {I : px_I} {J : px_J} {m n : Nat} (hk : px_ok0 I m n) (h1 : g_pass I 8 m n 1 = I 1) : Ct l mX11_day 4 [.ref 0] I J (px_qi (s_bits (g_glad (g_pass I 8 m n) 8 n) m) (g_pass I 8 m n) J) := by
  refine Ct.of plX11_day (Nat.le_of_ble_eq_true rfl) [.ref 0] rfl ?_
  refine V0_aload_n (pc := 0) dX11_day_0 rfl ?_
  refine V_getr (pc := 1) dX11_day_1 flX11_32 rfl rfl ?_
  refine V_callV (pc := 4) (M' := mX2_pass) dX11_day_4 mlX11_278 okX2_pass rfl (c_X2_pass cs8 hk.1 hk.2.1 hk.2.2.1 hk.2.2.2.1 hk.2.2.2.2.1) rfl rfl rfl rfl ⟨Nat.le_of_ble_eq_true rfl, Nat.le_of_ble_eq_true rfl⟩ ⟨Nat.le_refl 0, Nat.le_refl 0⟩ (Nat.le_of_ble_eq_true rfl) ?_
  intro r1 I1 J1 hh
  obtain ⟨e1, e2, e3⟩ := hh
  rw [e1, e2, e3]
  clear e1 e2 e3 r1 I1 J1
  refine V0_aload_n (pc := 7) dX11_day_7 rfl ?_
  refine V_getr (pc := 8) dX11_day_8 flX11_32 rfl rfl ?_
  refine V_callVi (pc := 11) (M' := mX2_gladPeople) dX11_day_11 mlX11_204 okX2_gladPeople rfl (c_X2_gladPeople cs8 (by rw [h1]; exact hk.2.2.1) hk.2.2.2.1 (by rw [h1]; exact hk.1) hk.2.1) rfl rfl rfl rfl ⟨Nat.le_of_ble_eq_true rfl, Nat.le_of_ble_eq_true rfl⟩ ⟨Nat.le_refl 0, Nat.le_refl 0⟩ (Nat.le_of_ble_eq_true rfl) ?_
  refine V_reti (pc := 14) _ dX11_day_14 rfl ?_
  exact ⟨rfl, rfl, rfl⟩
theorem c_X11_inspect {l : Launch} {I : px_I} {J : px_J} {m n : Nat} {Ls : List l_L} (hk : px_ok0 I m n) (hlaw : px_law I 14 Ls) : Ct l mX11_inspect 7 [.ref 0] I J (fun r I' J' => r = some (.int (h_lived I m n Ls)) ∧ (∃ I1, px_sw I I1 ∧ I' = px_up I1 12 4 (I 12 4 + h_lived I m n Ls)) ∧ J' = J) := by
  refine Ct.of plX11_inspect (Nat.le_of_ble_eq_true rfl) [.ref 0, .null] rfl ?_
  refine V0_aload_n (pc := 0) dX11_inspect_0 rfl ?_
  refine V_getr (pc := 1) dX11_inspect_1 flX11_68 rfl rfl ?_
  refine V_callV (pc := 4) (M' := mX6_smeltWhereLived) dX11_inspect_4 mlX11_281 okX6_smeltWhereLived rfl (c_X6_smeltWhereLived hk hlaw) rfl rfl rfl rfl ⟨Nat.le_of_ble_eq_true rfl, Nat.le_of_ble_eq_true rfl⟩ ⟨Nat.le_refl 0, Nat.le_refl 0⟩ (Nat.le_of_ble_eq_true rfl) ?_
  intro r1 I1 J1 hh
  obtain ⟨e1, hfr, e3⟩ := hh
  rw [e1, e3]
  clear e1 e3 r1 J1
  refine V0_istore_1 (pc := 7) dX11_inspect_7 (by decide) rfl ?_
  refine V0_aload_n (pc := 8) dX11_inspect_8 rfl ?_
  refine V_getr (pc := 9) dX11_inspect_9 flX11_32 rfl rfl ?_
  refine V_getr (pc := 12) dX11_inspect_12 flX11_216 rfl rfl ?_
  refine V0_iconst (pc := 15) (4) dX11_inspect_15 (by decide) ?_
  refine V0_dup2 (pc := 16) dX11_inspect_16 rfl rfl ?_
  refine V_iald (pc := 17) 4 dX11_inspect_17 rfl (by decide) (by decide) ?_
  refine V0_iload_n (pc := 18) dX11_inspect_18 rfl ?_
  refine V0_iadd (pc := 19) dX11_inspect_19 ?_
  refine V_iast (pc := 20) 4 dX11_inspect_20 rfl (by decide) (by decide) ?_
  refine V0_iload_n (pc := 21) dX11_inspect_21 rfl ?_
  refine V_reti (pc := 22) _ dX11_inspect_22 rfl ?_
  exact ⟨rfl, ⟨I1, hfr, by rw [show I1 12 4 = I 12 4 by rw [hfr 12 (by omega) (by omega)]]⟩, rfl⟩
theorem c_X11_smelt {l : Launch} {I : px_I} {J : px_J} {x : Int32} {m n : Nat} {Ls : List l_L} (hk : px_ok0 I m n) (hlaw : px_law I 14 Ls) : Ct l mX11_smelt 6 [.ref 0, .int x] I J (fun r I' J' => r = some (.int (if g_isJ I x = true then h_smelt I n Ls (ix x) else -1)) ∧ px_sw I I' ∧ J' = J) := by
  refine Ct.of plX11_smelt (Nat.le_of_ble_eq_true rfl) [.ref 0, .int x] rfl ?_
  refine V0_aload_n (pc := 0) dX11_smelt_0 rfl ?_
  refine V_getr (pc := 1) dX11_smelt_1 flX11_26 rfl rfl ?_
  refine V0_iload_n (pc := 4) dX11_smelt_4 rfl ?_
  refine V_callVi (pc := 5) (M' := mX7_isJoy) dX11_smelt_5 mlX11_143 okX7_isJoy rfl c_X7_isJoy rfl rfl rfl rfl ⟨Nat.le_of_ble_eq_true rfl, Nat.le_of_ble_eq_true rfl⟩ ⟨Nat.le_refl 0, Nat.le_refl 0⟩ (Nat.le_of_ble_eq_true rfl) ?_
  refine V_ifeqb (pc := 8) 22 dX11_smelt_8 (by decide) (fun h8 => ?_) (fun h8 => ?_)
  · skip
    refine V0_iconst (pc := 22) (-1) dX11_smelt_22 (by decide) ?_
    refine V_reti (pc := 23) _ dX11_smelt_23 rfl ?_
    first | exact ⟨by rw [if_pos h8], hfr, rfl⟩ | exact ⟨by rw [if_neg (by rw [show g_isJ I x = false from h8]; decide)] <;> rfl, px_sw.rf, rfl⟩
  · skip
    refine V0_aload_n (pc := 11) dX11_smelt_11 rfl ?_
    refine V_getr (pc := 12) dX11_smelt_12 flX11_68 rfl rfl ?_
    refine V0_iload_n (pc := 15) dX11_smelt_15 rfl ?_
    have hx := s_is_ix (c := 10) rfl (by omega) (n := I 1 7) h8
    have hc := c_X6_housesSmelling (l := l) (J := J) hk hlaw hx.2
    rw [← hx.1] at hc
    refine V_callV (pc := 16) (M' := mX6_housesSmelling) dX11_smelt_16 mlX11_189 okX6_housesSmelling rfl hc rfl rfl rfl rfl ⟨Nat.le_of_ble_eq_true rfl, Nat.le_of_ble_eq_true rfl⟩ ⟨Nat.le_refl 0, Nat.le_refl 0⟩ (Nat.le_of_ble_eq_true rfl) ?_
    intro r1 I1 J1 hh
    obtain ⟨e1, hfr, e3⟩ := hh
    rw [e1, e3]
    clear e1 e3 r1 J1
    refine V0_goto (pc := 19) 23 dX11_smelt_19 (by decide) ?_
    refine V_reti (pc := 23) _ dX11_smelt_23 rfl ?_
    first | exact ⟨by rw [if_pos h8], hfr, rfl⟩ | exact ⟨by rw [if_neg (by rw [show g_isJ I x = false from h8]; decide)] <;> rfl, px_sw.rf, rfl⟩
theorem c_X11_shut {l : Launch} {I : px_I} {J : px_J} {x : Int32} {m n : Nat} {Ls : List l_L} (hk : px_ok0 I m n) (hlaw : px_law I 14 Ls) : Ct l mX11_shut 7 [.ref 0, .int x] I J (fun r I' J' => r = some (.int (if s_within x 0 1 = true then (if x = 0 then s_bc (h_shut I n Ls) else h_shut I n Ls) else -1)) ∧ px_sx I I' ∧ J' = J) := by
  refine Ct.of plX11_shut (Nat.le_of_ble_eq_true rfl) [.ref 0, .int x, .null] rfl ?_
  refine V0_iload_n (pc := 0) dX11_shut_0 rfl ?_
  refine V0_iconst (pc := 1) (0) dX11_shut_1 (by decide) ?_
  refine V0_iconst (pc := 2) (1) dX11_shut_2 (by decide) ?_
  refine V_callSi (pc := 3) (M' := mX11_isWithin) dX11_shut_3 mlX11_99 okX11_isWithin rfl c_X11_isWithin rfl rfl ⟨Nat.le_of_ble_eq_true rfl, Nat.le_of_ble_eq_true rfl⟩ ⟨Nat.le_refl 0, Nat.le_refl 0⟩ (Nat.le_of_ble_eq_true rfl) ?_
  refine V_ifneb (pc := 6) 11 dX11_shut_6 (by decide) (fun h6 => ?_) (fun h6 => ?_)
  · skip
    refine V0_aload_n (pc := 11) dX11_shut_11 rfl ?_
    refine V_getr (pc := 12) dX11_shut_12 flX11_68 rfl rfl ?_
    refine V_callV (pc := 15) (M' := mX6_fewestShut) dX11_shut_15 mlX11_192 okX6_fewestShut rfl (c_X6_fewestShut hk hlaw) rfl rfl rfl rfl ⟨Nat.le_of_ble_eq_true rfl, Nat.le_of_ble_eq_true rfl⟩ ⟨Nat.le_refl 0, Nat.le_refl 0⟩ (Nat.le_of_ble_eq_true rfl) ?_
    intro r1 I1 J1 hh
    obtain ⟨e1, hfr, e3⟩ := hh
    rw [e1, e3]
    clear e1 e3 r1 J1
    refine V0_istore_2 (pc := 18) dX11_shut_18 (by decide) rfl ?_
    refine V0_iload_n (pc := 19) dX11_shut_19 rfl ?_
    refine V0_if_ne (pc := 20) 30 dX11_shut_20 (by decide) (fun h20 => ?_) (fun h20 => ?_)
    · skip
      refine V0_iload_n (pc := 30) dX11_shut_30 rfl ?_
      refine V_reti (pc := 31) _ dX11_shut_31 rfl ?_
      first | exact ⟨by rw [if_pos h6, if_pos h20], hfr, rfl⟩ | exact ⟨by rw [if_pos h6, if_neg h20], hfr, rfl⟩
    · skip
      refine V0_iload_n (pc := 23) dX11_shut_23 rfl ?_
      refine V_callSi (pc := 24) (M' := mJ6_bitCount_0f7a4) dX11_shut_24 mlX11_195 okJ6_bitCount_0f7a4 rfl c_J6_bitCount_0f7a4 rfl rfl ⟨Nat.le_of_ble_eq_true rfl, Nat.le_of_ble_eq_true rfl⟩ ⟨Nat.le_refl 0, Nat.le_refl 0⟩ (Nat.le_of_ble_eq_true rfl) ?_
      refine V0_goto (pc := 27) 31 dX11_shut_27 (by decide) ?_
      refine V_reti (pc := 31) _ dX11_shut_31 rfl ?_
      first | exact ⟨by rw [if_pos h6, if_pos h20], hfr, rfl⟩ | exact ⟨by rw [if_pos h6, if_neg h20], hfr, rfl⟩
  · skip
    refine V0_iconst (pc := 9) (-1) dX11_shut_9 (by decide) ?_
    refine V_reti (pc := 10) _ dX11_shut_10 rfl ?_
    exact ⟨by rw [if_neg (by rw [show s_within x 0 1 = false from h6]; decide)] <;> rfl, px_sx.rf, rfl⟩
theorem c_X11_share {l : Launch} {I : px_I} {J : px_J} {x v : Int32} {m n : Nat} (hk : px_ok0 I m n) : CtI l mX11_share 2 [.ref 0, .int x, .int v] I J (if g_isP I x = true ∧ s_within v 0 9999 = true then (if 0 < s_sum (g_had I 8) (I 6) n then v * s_sum (g_hadBy I 8 x) (I 6) n / s_sum (g_had I 8) (I 6) n else 0) else -1) := by
  refine Ct.of plX11_share (Nat.le_of_ble_eq_true rfl) [.ref 0, .int x, .int v, .null] rfl ?_
  refine V0_aload_n (pc := 0) dX11_share_0 rfl ?_
  refine V_getr (pc := 1) dX11_share_1 flX11_26 rfl rfl ?_
  refine V0_iload_n (pc := 4) dX11_share_4 rfl ?_
  refine V_callVi (pc := 5) (M' := mX7_isPerson) dX11_share_5 mlX11_111 okX7_isPerson rfl c_X7_isPerson rfl rfl rfl rfl ⟨Nat.le_of_ble_eq_true rfl, Nat.le_of_ble_eq_true rfl⟩ ⟨Nat.le_refl 0, Nat.le_refl 0⟩ (Nat.le_of_ble_eq_true rfl) ?_
  refine V_ifeqb (pc := 8) 22 dX11_share_8 (by decide) (fun h8 => ?_) (fun h8 => ?_)
  · skip
    have z : ¬ (g_isP I x = true ∧ s_within v 0 9999 = true) := by first | exact (fun q => absurd (q.1.symm.trans (show g_isP I x = false from h8)) (by decide)) | exact (fun q => absurd (q.2.symm.trans (show s_within v 0 9999 = false from h19)) (by decide))
    refine V0_iconst (pc := 22) (-1) dX11_share_22 (by decide) ?_
    refine V_reti (pc := 23) _ dX11_share_23 rfl ?_
    refine px_li ?_
    first | (rw [if_neg z] <;> rfl) | (rw [if_pos z, if_pos h33]; done) | (rw [if_pos z, if_neg h33] <;> rfl)
  · skip
    refine V0_iload_n (pc := 11) dX11_share_11 rfl ?_
    refine V0_iconst (pc := 12) (0) dX11_share_12 (by decide) ?_
    refine V0_sipush (pc := 13) (9999) dX11_share_13 (by decide) ?_
    refine V_callSi (pc := 16) (M' := mX11_isWithin) dX11_share_16 mlX11_99 okX11_isWithin rfl c_X11_isWithin rfl rfl ⟨Nat.le_of_ble_eq_true rfl, Nat.le_of_ble_eq_true rfl⟩ ⟨Nat.le_refl 0, Nat.le_refl 0⟩ (Nat.le_of_ble_eq_true rfl) ?_
    refine V_ifneb (pc := 19) 24 dX11_share_19 (by decide) (fun h19 => ?_) (fun h19 => ?_)
    · skip
      have z : g_isP I x = true ∧ s_within v 0 9999 = true := ⟨h8, h19⟩
      refine V0_aload_n (pc := 24) dX11_share_24 rfl ?_
      refine V_getr (pc := 25) dX11_share_25 flX11_32 rfl rfl ?_
      refine V_callVi (pc := 28) (M' := mX2_worthOfHad) dX11_share_28 mlX11_210 okX2_worthOfHad rfl (c_X2_worthOfHad cs8 hk.2.2.1 hk.2.2.2.1) rfl rfl rfl rfl ⟨Nat.le_of_ble_eq_true rfl, Nat.le_of_ble_eq_true rfl⟩ ⟨Nat.le_refl 0, Nat.le_refl 0⟩ (Nat.le_of_ble_eq_true rfl) ?_
      refine V0_istore_3 (pc := 31) dX11_share_31 (by decide) rfl ?_
      refine V0_iload_n (pc := 32) dX11_share_32 rfl ?_
      refine V1_if_le (pc := 33) 51 dX11_share_33 (by decide) (fun h33 => ?_) (fun h33 => ?_)
      · skip
        refine V0_iconst (pc := 51) (0) dX11_share_51 (by decide) ?_
        refine V_reti (pc := 52) _ dX11_share_52 rfl ?_
        refine px_li ?_
        first | (rw [if_neg z] <;> rfl) | (rw [if_pos z, if_pos h33]; done) | (rw [if_pos z, if_neg h33] <;> rfl)
      · skip
        refine V0_iload_n (pc := 36) dX11_share_36 rfl ?_
        refine V0_aload_n (pc := 37) dX11_share_37 rfl ?_
        refine V_getr (pc := 38) dX11_share_38 flX11_32 rfl rfl ?_
        refine V0_iload_n (pc := 41) dX11_share_41 rfl ?_
        refine V_callVi (pc := 42) (M' := mX2_worthOfHadBy) dX11_share_42 mlX11_255 okX2_worthOfHadBy rfl (c_X2_worthOfHadBy cs8 hk.2.2.1 hk.2.2.2.1) rfl rfl rfl rfl ⟨Nat.le_of_ble_eq_true rfl, Nat.le_of_ble_eq_true rfl⟩ ⟨Nat.le_refl 0, Nat.le_refl 0⟩ (Nat.le_of_ble_eq_true rfl) ?_
        refine V0_imul (pc := 45) dX11_share_45 ?_
        refine V0_iload_n (pc := 46) dX11_share_46 rfl ?_
        refine V0_idiv (pc := 47) dX11_share_47 (fun e => by rw [e] at h33; exact absurd h33 (by decide)) ?_
        refine V0_goto (pc := 48) 52 dX11_share_48 (by decide) ?_
        refine V_reti (pc := 52) _ dX11_share_52 rfl ?_
        refine px_li ?_
        first | (rw [if_neg z] <;> rfl) | (rw [if_pos z, if_pos h33]; done) | (rw [if_pos z, if_neg h33] <;> rfl)
    · skip
      have z : ¬ (g_isP I x = true ∧ s_within v 0 9999 = true) := by first | exact (fun q => absurd (q.1.symm.trans (show g_isP I x = false from h8)) (by decide)) | exact (fun q => absurd (q.2.symm.trans (show s_within v 0 9999 = false from h19)) (by decide))
      refine V0_iconst (pc := 22) (-1) dX11_share_22 (by decide) ?_
      refine V_reti (pc := 23) _ dX11_share_23 rfl ?_
      refine px_li ?_
      first | (rw [if_neg z] <;> rfl) | (rw [if_pos z, if_pos h33]; done) | (rw [if_pos z, if_neg h33] <;> rfl)
theorem c_X11_when {l : Launch} {I : px_I} {J : px_J} {x w : Int32} {m n : Nat} (hk : px_ok0 I m n) : Ct l mX11_when 5 [.ref 0, .int x, .int w] I J (fun r I' J' => r = some (.int (if g_isJ I x = true ∧ s_within w 0 1 = true then s_first (fun i => g_in (g_days 43 m n (t_start I m n) i) 43 (if w = 0 then 2 else 3) (ix x)) 61 0 else -1)) ∧ px_sc I I' ∧ J' = J) := by
  refine Ct.of plX11_when (Nat.le_of_ble_eq_true rfl) [.ref 0, .int x, .int w] rfl ?_
  refine V0_aload_n (pc := 0) dX11_when_0 rfl ?_
  refine V_getr (pc := 1) dX11_when_1 flX11_26 rfl rfl ?_
  refine V0_iload_n (pc := 4) dX11_when_4 rfl ?_
  refine V_callVi (pc := 5) (M' := mX7_isJoy) dX11_when_5 mlX11_143 okX7_isJoy rfl c_X7_isJoy rfl rfl rfl rfl ⟨Nat.le_of_ble_eq_true rfl, Nat.le_of_ble_eq_true rfl⟩ ⟨Nat.le_refl 0, Nat.le_refl 0⟩ (Nat.le_of_ble_eq_true rfl) ?_
  refine V_ifeqb (pc := 8) 20 dX11_when_8 (by decide) (fun h8 => ?_) (fun h8 => ?_)
  · skip
    have z : ¬ (g_isJ I x = true ∧ s_within w 0 1 = true) := by first | exact (fun q => absurd (q.1.symm.trans (show g_isJ I x = false from h8)) (by decide)) | exact (fun q => absurd (q.2.symm.trans (show s_within w 0 1 = false from h17)) (by decide))
    refine V0_iconst (pc := 20) (-1) dX11_when_20 (by decide) ?_
    refine V_reti (pc := 21) _ dX11_when_21 rfl ?_
    first | exact ⟨by rw [if_neg z] <;> rfl, px_sc.rf, rfl⟩ | exact ⟨by rw [if_pos z, hw], (px_sc.rf.start).days, rfl⟩
  · skip
    refine V0_iload_n (pc := 11) dX11_when_11 rfl ?_
    refine V0_iconst (pc := 12) (0) dX11_when_12 (by decide) ?_
    refine V0_iconst (pc := 13) (1) dX11_when_13 (by decide) ?_
    refine V_callSi (pc := 14) (M' := mX11_isWithin) dX11_when_14 mlX11_99 okX11_isWithin rfl c_X11_isWithin rfl rfl ⟨Nat.le_of_ble_eq_true rfl, Nat.le_of_ble_eq_true rfl⟩ ⟨Nat.le_refl 0, Nat.le_refl 0⟩ (Nat.le_of_ble_eq_true rfl) ?_
    refine V_ifneb (pc := 17) 22 dX11_when_17 (by decide) (fun h17 => ?_) (fun h17 => ?_)
    · skip
      have z : g_isJ I x = true ∧ s_within w 0 1 = true := ⟨h8, h17⟩
      have hx := s_is_ix (c := 10) rfl (by omega) (n := I 1 7) h8
      refine V0_aload_n (pc := 22) dX11_when_22 rfl ?_
      refine V_getr (pc := 23) dX11_when_23 flX11_77 rfl rfl ?_
      refine V0_iload_n (pc := 26) dX11_when_26 rfl ?_
      refine V0_iload_n (pc := 27) dX11_when_27 rfl ?_
      refine V0_if_ne (pc := 28) 35 dX11_when_28 (by decide) (fun h28 => ?_) (fun h28 => ?_)
      · skip
        refine V0_iconst (pc := 35) (3) dX11_when_35 (by decide) ?_
        first | (have hw : (if w = 0 then (2 : Int32) else 3) = 2 := if_pos h28) | (have hw : (if w = 0 then (2 : Int32) else 3) = 3 := if_neg h28)
        have hc := c_X9_firstDayOf (l := l) (J := J) (s := if w = 0 then 2 else 3) hk hx.2
        rw [← hx.1] at hc
        rw [hw] at hc
        refine V_callV (pc := 36) (M' := mX9_firstDayOf) dX11_when_36 mlX11_222 okX9_firstDayOf rfl hc rfl rfl rfl rfl ⟨Nat.le_of_ble_eq_true rfl, Nat.le_of_ble_eq_true rfl⟩ ⟨Nat.le_refl 0, Nat.le_refl 0⟩ (Nat.le_of_ble_eq_true rfl) ?_
        intro r1 I1 J1 hh
        obtain ⟨e1, ⟨i1, e2⟩, e3⟩ := hh
        rw [e1, e2, e3]
        clear e1 e2 e3 r1 I1 J1
        refine V_reti (pc := 39) _ dX11_when_39 rfl ?_
        first | exact ⟨by rw [if_neg z] <;> rfl, px_sc.rf, rfl⟩ | exact ⟨by rw [if_pos z, hw], (px_sc.rf.start).days, rfl⟩
      · skip
        refine V0_iconst (pc := 31) (2) dX11_when_31 (by decide) ?_
        refine V0_goto (pc := 32) 36 dX11_when_32 (by decide) ?_
        first | (have hw : (if w = 0 then (2 : Int32) else 3) = 2 := if_pos h28) | (have hw : (if w = 0 then (2 : Int32) else 3) = 3 := if_neg h28)
        have hc := c_X9_firstDayOf (l := l) (J := J) (s := if w = 0 then 2 else 3) hk hx.2
        rw [← hx.1] at hc
        rw [hw] at hc
        refine V_callV (pc := 36) (M' := mX9_firstDayOf) dX11_when_36 mlX11_222 okX9_firstDayOf rfl hc rfl rfl rfl rfl ⟨Nat.le_of_ble_eq_true rfl, Nat.le_of_ble_eq_true rfl⟩ ⟨Nat.le_refl 0, Nat.le_refl 0⟩ (Nat.le_of_ble_eq_true rfl) ?_
        intro r1 I1 J1 hh
        obtain ⟨e1, ⟨i1, e2⟩, e3⟩ := hh
        rw [e1, e2, e3]
        clear e1 e2 e3 r1 I1 J1
        refine V_reti (pc := 39) _ dX11_when_39 rfl ?_
        first | exact ⟨by rw [if_neg z] <;> rfl, px_sc.rf, rfl⟩ | exact ⟨by rw [if_pos z, hw], (px_sc.rf.start).days, rfl⟩
    · skip
      have z : ¬ (g_isJ I x = true ∧ s_within w 0 1 = true) := by first | exact (fun q => absurd (q.1.symm.trans (show g_isJ I x = false from h8)) (by decide)) | exact (fun q => absurd (q.2.symm.trans (show s_within w 0 1 = false from h17)) (by decide))
      refine V0_iconst (pc := 20) (-1) dX11_when_20 (by decide) ?_
      refine V_reti (pc := 21) _ dX11_when_21 rfl ?_
      first | exact ⟨by rw [if_neg z] <;> rfl, px_sc.rf, rfl⟩ | exact ⟨by rw [if_pos z, hw], (px_sc.rf.start).days, rfl⟩

