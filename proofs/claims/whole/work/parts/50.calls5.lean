/-! shelves, turns -/
def g_keep (I : px_I) (x b : Int32) : px_I := if s_shelf x = true then (if b = -1 then px_up I 20 (ix x) 6 else if g_isB I b = true then px_up (px_up I 20 (ix x) 5) 21 (ix x) b else I) else I
theorem c_X11_keep {l : Launch} {I : px_I} {J : px_J} {x b : Int32} : Ct l mX11_keep 2 [.ref 0, .int x, .int b] I J (px_qi (if s_shelf x = true ∧ (b = -1 ∨ g_isB I b = true) then 1 else -1) (g_keep I x b) J) := by
  refine Ct.of plX11_keep (Nat.le_of_ble_eq_true rfl) [.ref 0, .int x, .int b] rfl ?_
  refine V0_iload_n (pc := 0) dX11_keep_0 rfl ?_
  refine V_callSi (pc := 1) (M' := mX5_isShelf) dX11_keep_1 mlX11_322 okX5_isShelf rfl c_X5_isShelf rfl rfl ⟨Nat.le_of_ble_eq_true rfl, Nat.le_of_ble_eq_true rfl⟩ ⟨Nat.le_refl 0, Nat.le_refl 0⟩ (Nat.le_of_ble_eq_true rfl) ?_
  refine V_ifneb (pc := 4) 9 dX11_keep_4 (by decide) (fun h4 => ?_) (fun h4 => ?_)
  · skip
    refine V0_iload_n (pc := 9) dX11_keep_9 rfl ?_
    refine V0_iconst (pc := 10) (-1) dX11_keep_10 (by decide) ?_
    refine V0_icmp_ne (pc := 11) 25 dX11_keep_11 (by decide) (fun h11 => ?_) (fun h11 => ?_)
    · skip
      refine V0_aload_n (pc := 25) dX11_keep_25 rfl ?_
      refine V_getr (pc := 26) dX11_keep_26 flX11_91 rfl rfl ?_
      refine V0_iload_n (pc := 29) dX11_keep_29 rfl ?_
      refine V_callVi (pc := 30) (M' := mX0_isBody) dX11_keep_30 mlX11_328 okX0_isBody rfl c_X0_isBody rfl rfl rfl rfl ⟨Nat.le_of_ble_eq_true rfl, Nat.le_of_ble_eq_true rfl⟩ ⟨Nat.le_refl 0, Nat.le_refl 0⟩ (Nat.le_of_ble_eq_true rfl) ?_
      refine V_ifeqb (pc := 33) 48 dX11_keep_33 (by decide) (fun h33 => ?_) (fun h33 => ?_)
      · skip
        refine V0_iconst (pc := 48) (-1) dX11_keep_48 (by decide) ?_
        refine V_reti (pc := 49) _ dX11_keep_49 rfl ?_
        exact ⟨by rw [if_neg (fun q => q.2.elim h11 (fun z => absurd (z.symm.trans (show g_isB I b = false from h33)) (by decide)))] <;> rfl, by rw [g_keep, if_pos h4, if_neg h11, if_neg (by rw [show g_isB I b = false from h33]; decide)], rfl⟩
      · skip
        refine V0_aload_n (pc := 36) dX11_keep_36 rfl ?_
        refine V_getr (pc := 37) dX11_keep_37 flX11_95 rfl rfl ?_
        refine V0_iload_n (pc := 40) dX11_keep_40 rfl ?_
        refine V0_iload_n (pc := 41) dX11_keep_41 rfl ?_
        refine V_callV (pc := 42) (M' := mX5_layBody) dX11_keep_42 mlX11_331 okX5_layBody rfl c_X5_layBody rfl rfl rfl rfl ⟨Nat.le_of_ble_eq_true rfl, Nat.le_of_ble_eq_true rfl⟩ ⟨Nat.le_refl 0, Nat.le_refl 0⟩ (Nat.le_of_ble_eq_true rfl) ?_
        intro r1 I1 J1 hh
        obtain ⟨e1, e2, e3⟩ := hh
        rw [e1, e2, e3]
        clear e1 e2 e3 r1 I1 J1
        refine V0_goto (pc := 45) 50 dX11_keep_45 (by decide) ?_
        simp only [if_pos h4]
        refine V0_iconst (pc := 50) (1) dX11_keep_50 (by decide) ?_
        refine V_reti (pc := 51) _ dX11_keep_51 rfl ?_
        first | exact ⟨by rw [if_pos ⟨h4, Or.inl h11⟩] <;> rfl, by rw [g_keep, if_pos h4, if_pos h11], rfl⟩ | exact ⟨by rw [if_pos ⟨h4, Or.inr h33⟩] <;> rfl, by rw [g_keep, if_pos h4, if_neg h11, if_pos h33], rfl⟩
    · skip
      refine V0_aload_n (pc := 14) dX11_keep_14 rfl ?_
      refine V_getr (pc := 15) dX11_keep_15 flX11_95 rfl rfl ?_
      refine V0_iload_n (pc := 18) dX11_keep_18 rfl ?_
      refine V_callV (pc := 19) (M' := mX5_empty) dX11_keep_19 mlX11_325 okX5_empty rfl c_X5_empty rfl rfl rfl rfl ⟨Nat.le_of_ble_eq_true rfl, Nat.le_of_ble_eq_true rfl⟩ ⟨Nat.le_refl 0, Nat.le_refl 0⟩ (Nat.le_of_ble_eq_true rfl) ?_
      intro r1 I1 J1 hh
      obtain ⟨e1, e2, e3⟩ := hh
      rw [e1, e2, e3]
      clear e1 e2 e3 r1 I1 J1
      refine V0_goto (pc := 22) 50 dX11_keep_22 (by decide) ?_
      simp only [if_pos h4]
      refine V0_iconst (pc := 50) (1) dX11_keep_50 (by decide) ?_
      refine V_reti (pc := 51) _ dX11_keep_51 rfl ?_
      first | exact ⟨by rw [if_pos ⟨h4, Or.inl h11⟩] <;> rfl, by rw [g_keep, if_pos h4, if_pos h11], rfl⟩ | exact ⟨by rw [if_pos ⟨h4, Or.inr h33⟩] <;> rfl, by rw [g_keep, if_pos h4, if_neg h11, if_pos h33], rfl⟩
  · skip
    refine V0_iconst (pc := 7) (-1) dX11_keep_7 (by decide) ?_
    refine V_reti (pc := 8) _ dX11_keep_8 rfl ?_
    exact ⟨by rw [if_neg (fun q => absurd (q.1.symm.trans (show s_shelf x = false from h4)) (by decide))] <;> rfl, by rw [g_keep, if_neg (by rw [show s_shelf x = false from h4]; decide)], rfl⟩
theorem c_X11_row {l : Launch} {I : px_I} {J : px_J} {x t n : Int32} : Ct l mX11_row 2 [.ref 0, .int x, .int t, .int n] I J (fun r I' J' => if s_shelf x = true ∧ s_within t 0 4 = true ∧ ¬ 60 < n then (if n < 0 then r = some (.int (-14)) ∧ I' = I ∧ J' = J else r = some (.int 1) ∧ I' = px_up (px_up I 20 (ix x) t) 21 (ix x) n ∧ J' = g_zero J (ix x) (ix n)) else r = some (.int (-1)) ∧ I' = I ∧ J' = J) := by
  refine Ct.of plX11_row (Nat.le_of_ble_eq_true rfl) [.ref 0, .int x, .int t, .int n] rfl ?_
  refine V0_iload_n (pc := 0) dX11_row_0 rfl ?_
  refine V_callSi (pc := 1) (M' := mX5_isShelf) dX11_row_1 mlX11_322 okX5_isShelf rfl c_X5_isShelf rfl rfl ⟨Nat.le_of_ble_eq_true rfl, Nat.le_of_ble_eq_true rfl⟩ ⟨Nat.le_refl 0, Nat.le_refl 0⟩ (Nat.le_of_ble_eq_true rfl) ?_
  refine V_ifeqb (pc := 4) 22 dX11_row_4 (by decide) (fun h4 => ?_) (fun h4 => ?_)
  · skip
    have z : ¬ (s_shelf x = true ∧ s_within t 0 4 = true ∧ ¬ 60 < n) := by first | exact (fun q => absurd (q.1.symm.trans (show s_shelf x = false from h4)) (by decide)) | exact (fun q => absurd (q.2.1.symm.trans (show s_within t 0 4 = false from h13)) (by decide)) | exact (fun q => q.2.2 h19)
    refine V0_iconst (pc := 22) (-1) dX11_row_22 (by decide) ?_
    refine V_reti (pc := 23) _ dX11_row_23 rfl ?_
    first | (rw [if_neg z]; exact ⟨rfl, rfl, rfl⟩) | (rw [if_pos z, if_pos h25]; exact ⟨rfl, rfl, rfl⟩) | (rw [if_pos z, if_neg h25]; exact ⟨rfl, rfl, rfl⟩)
  · skip
    refine V0_iload_n (pc := 7) dX11_row_7 rfl ?_
    refine V0_iconst (pc := 8) (0) dX11_row_8 (by decide) ?_
    refine V0_iconst (pc := 9) (4) dX11_row_9 (by decide) ?_
    refine V_callSi (pc := 10) (M' := mX11_isWithin) dX11_row_10 mlX11_99 okX11_isWithin rfl c_X11_isWithin rfl rfl ⟨Nat.le_of_ble_eq_true rfl, Nat.le_of_ble_eq_true rfl⟩ ⟨Nat.le_refl 0, Nat.le_refl 0⟩ (Nat.le_of_ble_eq_true rfl) ?_
    refine V_ifeqb (pc := 13) 22 dX11_row_13 (by decide) (fun h13 => ?_) (fun h13 => ?_)
    · skip
      have z : ¬ (s_shelf x = true ∧ s_within t 0 4 = true ∧ ¬ 60 < n) := by first | exact (fun q => absurd (q.1.symm.trans (show s_shelf x = false from h4)) (by decide)) | exact (fun q => absurd (q.2.1.symm.trans (show s_within t 0 4 = false from h13)) (by decide)) | exact (fun q => q.2.2 h19)
      refine V0_iconst (pc := 22) (-1) dX11_row_22 (by decide) ?_
      refine V_reti (pc := 23) _ dX11_row_23 rfl ?_
      first | (rw [if_neg z]; exact ⟨rfl, rfl, rfl⟩) | (rw [if_pos z, if_pos h25]; exact ⟨rfl, rfl, rfl⟩) | (rw [if_pos z, if_neg h25]; exact ⟨rfl, rfl, rfl⟩)
    · skip
      refine V0_iload_n (pc := 16) dX11_row_16 rfl ?_
      refine V0_bipush (pc := 17) (60) dX11_row_17 (by decide) ?_
      refine V1_icmp_le (pc := 19) 24 dX11_row_19 (by decide) (fun h19 => ?_) (fun h19 => ?_)
      · skip
        have z : s_shelf x = true ∧ s_within t 0 4 = true ∧ ¬ 60 < n := ⟨h4, h13, h19⟩
        refine V0_iload_n (pc := 24) dX11_row_24 rfl ?_
        refine V1_if_ge (pc := 25) 31 dX11_row_25 (by decide) (fun h25 => ?_) (fun h25 => ?_)
        · skip
          have hn : n = nI (ix n) := nI_ix h25
          have hx := s_shelf_ix h4
          have hn60 : ix n ≤ 60 := Nat.le_of_not_lt (fun q => h19 (by rw [hn]; exact (qI_lt (a := 60) (by omega) (by show n.toInt.toNat < _; have := Int32.toInt_lt n; omega)).mpr q))
          have hc := c_X5_layRow (l := l) (I := I) (J := J) (x := x) (t := t) hx.1 hx.2 hn60
          rw [← hn] at hc
          refine V0_aload_n (pc := 31) dX11_row_31 rfl ?_
          refine V_getr (pc := 32) dX11_row_32 flX11_95 rfl rfl ?_
          refine V0_iload_n (pc := 35) dX11_row_35 rfl ?_
          refine V0_iload_n (pc := 36) dX11_row_36 rfl ?_
          refine V0_iload_n (pc := 37) dX11_row_37 rfl ?_
          refine V_callV (pc := 38) (M' := mX5_layRow) dX11_row_38 mlX11_334 okX5_layRow rfl hc rfl rfl rfl rfl ⟨Nat.le_of_ble_eq_true rfl, Nat.le_of_ble_eq_true rfl⟩ ⟨Nat.le_refl 0, Nat.le_refl 0⟩ (Nat.le_of_ble_eq_true rfl) ?_
          intro r1 I1 J1 hh
          obtain ⟨e1, e2, e3⟩ := hh
          rw [e1, e2, e3]
          clear e1 e2 e3 r1 I1 J1
          refine V0_iconst (pc := 41) (1) dX11_row_41 (by decide) ?_
          refine V_reti (pc := 42) _ dX11_row_42 rfl ?_
          first | (rw [if_neg z]; exact ⟨rfl, rfl, rfl⟩) | (rw [if_pos z, if_pos h25]; exact ⟨rfl, rfl, rfl⟩) | (rw [if_pos z, if_neg h25]; exact ⟨rfl, rfl, rfl⟩)
        · skip
          refine V0_bipush (pc := 28) (-14) dX11_row_28 (by decide) ?_
          refine V_reti (pc := 30) _ dX11_row_30 rfl ?_
          first | (rw [if_neg z]; exact ⟨rfl, rfl, rfl⟩) | (rw [if_pos z, if_pos h25]; exact ⟨rfl, rfl, rfl⟩) | (rw [if_pos z, if_neg h25]; exact ⟨rfl, rfl, rfl⟩)
      · skip
        have z : ¬ (s_shelf x = true ∧ s_within t 0 4 = true ∧ ¬ 60 < n) := by first | exact (fun q => absurd (q.1.symm.trans (show s_shelf x = false from h4)) (by decide)) | exact (fun q => absurd (q.2.1.symm.trans (show s_within t 0 4 = false from h13)) (by decide)) | exact (fun q => q.2.2 h19)
        refine V0_iconst (pc := 22) (-1) dX11_row_22 (by decide) ?_
        refine V_reti (pc := 23) _ dX11_row_23 rfl ?_
        first | (rw [if_neg z]; exact ⟨rfl, rfl, rfl⟩) | (rw [if_pos z, if_pos h25]; exact ⟨rfl, rfl, rfl⟩) | (rw [if_pos z, if_neg h25]; exact ⟨rfl, rfl, rfl⟩)
theorem c_X11_put {l : Launch} {I : px_I} {J : px_J} {x i : Int32} {v : Int64} (hr : px_rows I) : Ct l mX11_put 4 [.ref 0, .int x, .int i, .long v] I J (px_qi (if g_refPlace I x i = 0 then 1 else g_refPlace I x i) I (if g_refPlace I x i = 0 then g_setCell I J x i v else J)) := by
  refine Ct.of plX11_put (Nat.le_of_ble_eq_true rfl) [.ref 0, .int x, .int i, .long v, .null, .null] rfl ?_
  refine V0_aload_n (pc := 0) dX11_put_0 rfl ?_
  refine V_getr (pc := 1) dX11_put_1 flX11_95 rfl rfl ?_
  refine V0_iload_n (pc := 4) dX11_put_4 rfl ?_
  refine V0_iload_n (pc := 5) dX11_put_5 rfl ?_
  refine V_callVi (pc := 6) (M' := mX5_refusePlace) dX11_put_6 mlX11_337 okX5_refusePlace rfl c_X5_refusePlace rfl rfl rfl rfl ⟨Nat.le_of_ble_eq_true rfl, Nat.le_of_ble_eq_true rfl⟩ ⟨Nat.le_refl 0, Nat.le_refl 0⟩ (Nat.le_of_ble_eq_true rfl) ?_
  refine V0_istore_5 (pc := 9) dX11_put_9 (by decide) rfl ?_
  refine V0_iload (pc := 11) dX11_put_11 rfl ?_
  refine V0_if_eq (pc := 13) 19 dX11_put_13 (by decide) (fun h13 => ?_) (fun h13 => ?_)
  · skip
    refine V0_aload_n (pc := 19) dX11_put_19 rfl ?_
    refine V_getr (pc := 20) dX11_put_20 flX11_95 rfl rfl ?_
    refine V0_iload_n (pc := 23) dX11_put_23 rfl ?_
    refine V0_iload_n (pc := 24) dX11_put_24 rfl ?_
    refine V0_lload_n (pc := 25) dX11_put_25 rfl ?_
    refine V_callV (pc := 26) (M' := mX5_setCell) dX11_put_26 mlX11_340 okX5_setCell rfl (c_X5_setCell hr) rfl rfl rfl rfl ⟨Nat.le_of_ble_eq_true rfl, Nat.le_of_ble_eq_true rfl⟩ ⟨Nat.le_refl 0, Nat.le_refl 0⟩ (Nat.le_of_ble_eq_true rfl) ?_
    intro r1 I1 J1 hh
    obtain ⟨e1, e2, e3⟩ := hh
    rw [e1, e2, e3]
    clear e1 e2 e3 r1 I1 J1
    refine V0_iconst (pc := 29) (1) dX11_put_29 (by decide) ?_
    refine V_reti (pc := 30) _ dX11_put_30 rfl ?_
    first | exact ⟨by rw [if_pos h13] <;> rfl, rfl, by rw [if_pos h13]⟩ | exact ⟨by rw [if_neg h13], rfl, by rw [if_neg h13]⟩
  · skip
    refine V0_iload (pc := 16) dX11_put_16 rfl ?_
    refine V_reti (pc := 18) _ dX11_put_18 rfl ?_
    first | exact ⟨by rw [if_pos h13] <;> rfl, rfl, by rw [if_pos h13]⟩ | exact ⟨by rw [if_neg h13], rfl, by rw [if_neg h13]⟩
theorem c_X11_shift {l : Launch} {I : px_I} {J : px_J} {x i y j n : Int32} (hr : px_rows I) : Ct l mX11_shift 4 [.ref 0, .int x, .int i, .int y, .int j, .int n] I J (px_qi (if g_refPair I x y = 0 then (if g_hasRun I x i n = true ∧ g_hasRun I y j n = true then n else -13) else g_refPair I x y) I (if g_refPair I x y = 0 ∧ g_hasRun I x i n = true ∧ g_hasRun I y j n = true then g_copyRun I J x i y j n else J)) := by
  refine Ct.of plX11_shift (Nat.le_of_ble_eq_true rfl) [.ref 0, .int x, .int i, .int y, .int j, .int n, .null] rfl ?_
  refine V0_aload_n (pc := 0) dX11_shift_0 rfl ?_
  refine V_getr (pc := 1) dX11_shift_1 flX11_95 rfl rfl ?_
  refine V0_iload_n (pc := 4) dX11_shift_4 rfl ?_
  refine V0_iload_n (pc := 5) dX11_shift_5 rfl ?_
  refine V_callVi (pc := 6) (M' := mX5_refusePair) dX11_shift_6 mlX11_348 okX5_refusePair rfl c_X5_refusePair rfl rfl rfl rfl ⟨Nat.le_of_ble_eq_true rfl, Nat.le_of_ble_eq_true rfl⟩ ⟨Nat.le_refl 0, Nat.le_refl 0⟩ (Nat.le_of_ble_eq_true rfl) ?_
  refine V0_istore_6 (pc := 9) dX11_shift_9 (by decide) rfl ?_
  refine V0_iload (pc := 11) dX11_shift_11 rfl ?_
  refine V0_if_eq (pc := 13) 19 dX11_shift_13 (by decide) (fun h13 => ?_) (fun h13 => ?_)
  · skip
    refine V0_aload_n (pc := 19) dX11_shift_19 rfl ?_
    refine V_getr (pc := 20) dX11_shift_20 flX11_95 rfl rfl ?_
    refine V0_iload_n (pc := 23) dX11_shift_23 rfl ?_
    refine V0_iload_n (pc := 24) dX11_shift_24 rfl ?_
    refine V0_iload (pc := 25) dX11_shift_25 rfl ?_
    refine V_callVi (pc := 27) (M' := mX5_hasRun) dX11_shift_27 mlX11_351 okX5_hasRun rfl c_X5_hasRun rfl rfl rfl rfl ⟨Nat.le_of_ble_eq_true rfl, Nat.le_of_ble_eq_true rfl⟩ ⟨Nat.le_refl 0, Nat.le_refl 0⟩ (Nat.le_of_ble_eq_true rfl) ?_
    refine V_ifeqb (pc := 30) 48 dX11_shift_30 (by decide) (fun h30 => ?_) (fun h30 => ?_)
    · skip
      have z : ¬ (g_hasRun I x i n = true ∧ g_hasRun I y j n = true) := by first | exact (fun q => absurd (q.1.symm.trans (show g_hasRun I x i n = false from h30)) (by decide)) | exact (fun q => absurd (q.2.symm.trans (show g_hasRun I y j n = false from h45)) (by decide))
      refine V0_bipush (pc := 48) (-13) dX11_shift_48 (by decide) ?_
      refine V_reti (pc := 50) _ dX11_shift_50 rfl ?_
      exact ⟨by rw [if_pos h13, if_neg z] <;> rfl, rfl, by rw [if_neg (fun q => z q.2)]⟩
    · skip
      refine V0_aload_n (pc := 33) dX11_shift_33 rfl ?_
      refine V_getr (pc := 34) dX11_shift_34 flX11_95 rfl rfl ?_
      refine V0_iload_n (pc := 37) dX11_shift_37 rfl ?_
      refine V0_iload (pc := 38) dX11_shift_38 rfl ?_
      refine V0_iload (pc := 40) dX11_shift_40 rfl ?_
      refine V_callVi (pc := 42) (M' := mX5_hasRun) dX11_shift_42 mlX11_351 okX5_hasRun rfl c_X5_hasRun rfl rfl rfl rfl ⟨Nat.le_of_ble_eq_true rfl, Nat.le_of_ble_eq_true rfl⟩ ⟨Nat.le_refl 0, Nat.le_refl 0⟩ (Nat.le_of_ble_eq_true rfl) ?_
      refine V_ifneb (pc := 45) 51 dX11_shift_45 (by decide) (fun h45 => ?_) (fun h45 => ?_)
      · skip
        have z : g_hasRun I x i n = true ∧ g_hasRun I y j n = true := ⟨h30, h45⟩
        refine V0_aload_n (pc := 51) dX11_shift_51 rfl ?_
        refine V_getr (pc := 52) dX11_shift_52 flX11_95 rfl rfl ?_
        refine V0_iload_n (pc := 55) dX11_shift_55 rfl ?_
        refine V0_iload_n (pc := 56) dX11_shift_56 rfl ?_
        refine V0_iload_n (pc := 57) dX11_shift_57 rfl ?_
        refine V0_iload (pc := 58) dX11_shift_58 rfl ?_
        refine V0_iload (pc := 60) dX11_shift_60 rfl ?_
        refine V_callV (pc := 62) (M' := mX5_copyRun) dX11_shift_62 mlX11_354 okX5_copyRun rfl (c_X5_copyRun hr) rfl rfl rfl rfl ⟨Nat.le_of_ble_eq_true rfl, Nat.le_of_ble_eq_true rfl⟩ ⟨Nat.le_refl 0, Nat.le_refl 0⟩ (Nat.le_of_ble_eq_true rfl) ?_
        intro r1 I1 J1 hh
        obtain ⟨e1, e2, e3⟩ := hh
        rw [e1, e2, e3]
        clear e1 e2 e3 r1 I1 J1
        refine V0_iload (pc := 65) dX11_shift_65 rfl ?_
        refine V_reti (pc := 67) _ dX11_shift_67 rfl ?_
        exact ⟨by rw [if_pos h13, if_pos z], rfl, by rw [if_pos ⟨h13, z⟩]⟩
      · skip
        have z : ¬ (g_hasRun I x i n = true ∧ g_hasRun I y j n = true) := by first | exact (fun q => absurd (q.1.symm.trans (show g_hasRun I x i n = false from h30)) (by decide)) | exact (fun q => absurd (q.2.symm.trans (show g_hasRun I y j n = false from h45)) (by decide))
        refine V0_bipush (pc := 48) (-13) dX11_shift_48 (by decide) ?_
        refine V_reti (pc := 50) _ dX11_shift_50 rfl ?_
        exact ⟨by rw [if_pos h13, if_neg z] <;> rfl, rfl, by rw [if_neg (fun q => z q.2)]⟩
  · skip
    refine V0_iload (pc := 16) dX11_shift_16 rfl ?_
    refine V_reti (pc := 18) _ dX11_shift_18 rfl ?_
    exact ⟨by rw [if_neg h13], rfl, by rw [if_neg (fun q => h13 q.1)]⟩
def g_taken (I : px_I) (x k : Int32) : Int32 := if s_shelf x = true ∧ s_within k 0 7 = true then (if g_empty I x = true then -11 else if g_isB I (g_body I x) = true ∧ s_und k 8 (I 52 (ix (g_body I x))) = true then I 52 (ix (g_body I x)) else -12) else -1
theorem c_X11_taken {l : Launch} {I : px_I} {J : px_J} {x k : Int32} : CtI l mX11_taken 3 [.ref 0, .int x, .int k] I J (g_taken I x k) := by
  refine Ct.of plX11_taken (Nat.le_of_ble_eq_true rfl) [.ref 0, .int x, .int k, .null] rfl ?_
  refine V0_iload_n (pc := 0) dX11_taken_0 rfl ?_
  refine V_callSi (pc := 1) (M' := mX5_isShelf) dX11_taken_1 mlX11_322 okX5_isShelf rfl c_X5_isShelf rfl rfl ⟨Nat.le_of_ble_eq_true rfl, Nat.le_of_ble_eq_true rfl⟩ ⟨Nat.le_refl 0, Nat.le_refl 0⟩ (Nat.le_of_ble_eq_true rfl) ?_
  refine V_ifeqb (pc := 4) 17 dX11_taken_4 (by decide) (fun h4 => ?_) (fun h4 => ?_)
  · skip
    have z : ¬ (s_shelf x = true ∧ s_within k 0 7 = true) := by first | exact (fun q => absurd (q.1.symm.trans (show s_shelf x = false from h4)) (by decide)) | exact (fun q => absurd (q.2.symm.trans (show s_within k 0 7 = false from h14)) (by decide))
    refine V0_iconst (pc := 17) (-1) dX11_taken_17 (by decide) ?_
    refine V_reti (pc := 18) _ dX11_taken_18 rfl ?_
    refine px_li ?_
    first | (rw [g_taken, if_neg z] <;> rfl) | (rw [g_taken, if_pos z, if_pos h27] <;> rfl) | (rw [g_taken, if_pos z, if_neg (by rw [show g_empty I x = false from h27]; decide), if_pos ⟨h50, h66⟩]; done) | (rw [g_taken, if_pos z, if_neg (by rw [show g_empty I x = false from h27]; decide), if_neg y] <;> rfl)
  · skip
    refine V0_iload_n (pc := 7) dX11_taken_7 rfl ?_
    refine V0_iconst (pc := 8) (0) dX11_taken_8 (by decide) ?_
    refine V0_bipush (pc := 9) (7) dX11_taken_9 (by decide) ?_
    refine V_callSi (pc := 11) (M' := mX11_isWithin) dX11_taken_11 mlX11_99 okX11_isWithin rfl c_X11_isWithin rfl rfl ⟨Nat.le_of_ble_eq_true rfl, Nat.le_of_ble_eq_true rfl⟩ ⟨Nat.le_refl 0, Nat.le_refl 0⟩ (Nat.le_of_ble_eq_true rfl) ?_
    refine V_ifneb (pc := 14) 19 dX11_taken_14 (by decide) (fun h14 => ?_) (fun h14 => ?_)
    · skip
      have z : s_shelf x = true ∧ s_within k 0 7 = true := ⟨h4, h14⟩
      refine V0_aload_n (pc := 19) dX11_taken_19 rfl ?_
      refine V_getr (pc := 20) dX11_taken_20 flX11_95 rfl rfl ?_
      refine V0_iload_n (pc := 23) dX11_taken_23 rfl ?_
      refine V_callVi (pc := 24) (M' := mX5_isEmpty) dX11_taken_24 mlX11_358 okX5_isEmpty rfl c_X5_isEmpty rfl rfl rfl rfl ⟨Nat.le_of_ble_eq_true rfl, Nat.le_of_ble_eq_true rfl⟩ ⟨Nat.le_refl 0, Nat.le_refl 0⟩ (Nat.le_of_ble_eq_true rfl) ?_
      refine V_ifeqb (pc := 27) 33 dX11_taken_27 (by decide) (fun h27 => ?_) (fun h27 => ?_)
      · skip
        refine V0_aload_n (pc := 33) dX11_taken_33 rfl ?_
        refine V_getr (pc := 34) dX11_taken_34 flX11_95 rfl rfl ?_
        refine V0_iload_n (pc := 37) dX11_taken_37 rfl ?_
        refine V_callVi (pc := 38) (M' := mX5_bodyOn) dX11_taken_38 mlX11_361 okX5_bodyOn rfl c_X5_bodyOn rfl rfl rfl rfl ⟨Nat.le_of_ble_eq_true rfl, Nat.le_of_ble_eq_true rfl⟩ ⟨Nat.le_refl 0, Nat.le_refl 0⟩ (Nat.le_of_ble_eq_true rfl) ?_
        refine V0_istore_3 (pc := 41) dX11_taken_41 (by decide) rfl ?_
        refine V0_aload_n (pc := 42) dX11_taken_42 rfl ?_
        refine V_getr (pc := 43) dX11_taken_43 flX11_91 rfl rfl ?_
        refine V0_iload_n (pc := 46) dX11_taken_46 rfl ?_
        refine V_callVi (pc := 47) (M' := mX0_isBody) dX11_taken_47 mlX11_328 okX0_isBody rfl c_X0_isBody rfl rfl rfl rfl ⟨Nat.le_of_ble_eq_true rfl, Nat.le_of_ble_eq_true rfl⟩ ⟨Nat.le_refl 0, Nat.le_refl 0⟩ (Nat.le_of_ble_eq_true rfl) ?_
        refine V_ifeqb (pc := 50) 81 dX11_taken_50 (by decide) (fun h50 => ?_) (fun h50 => ?_)
        · skip
          have y : ¬ (g_isB I (g_body I x) = true ∧ s_und k 8 (I 52 (ix (g_body I x))) = true) := by first | exact (fun q => absurd (q.1.symm.trans (show g_isB I (g_body I x) = false from h50)) (by decide)) | exact (fun q => absurd (q.2.symm.trans (show s_und k 8 (I 52 (ix (g_body I x))) = false from h66)) (by decide))
          refine V0_bipush (pc := 81) (-12) dX11_taken_81 (by decide) ?_
          refine V_reti (pc := 83) _ dX11_taken_83 rfl ?_
          refine px_li ?_
          first | (rw [g_taken, if_neg z] <;> rfl) | (rw [g_taken, if_pos z, if_pos h27] <;> rfl) | (rw [g_taken, if_pos z, if_neg (by rw [show g_empty I x = false from h27]; decide), if_pos ⟨h50, h66⟩]; done) | (rw [g_taken, if_pos z, if_neg (by rw [show g_empty I x = false from h27]; decide), if_neg y] <;> rfl)
        · skip
          refine V0_aload_n (pc := 53) dX11_taken_53 rfl ?_
          refine V_getr (pc := 54) dX11_taken_54 flX11_91 rfl rfl ?_
          refine V_getr (pc := 57) dX11_taken_57 flX11_364 rfl rfl ?_
          refine V0_iload_n (pc := 60) dX11_taken_60 rfl ?_
          have hb := s_is_ix (c := 50) rfl (by omega) (n := I 51 2) h50
          refine V_iald (pc := 61) (ix (g_body I x)) dX11_taken_61 rfl hb.1 hb.2 ?_
          refine V0_iload_n (pc := 62) dX11_taken_62 rfl ?_
          refine V_callSi (pc := 63) (M' := mX0_isUnder) dX11_taken_63 mlX11_367 okX0_isUnder rfl c_X0_isUnder rfl rfl ⟨Nat.le_of_ble_eq_true rfl, Nat.le_of_ble_eq_true rfl⟩ ⟨Nat.le_refl 0, Nat.le_refl 0⟩ (Nat.le_of_ble_eq_true rfl) ?_
          refine V_ifeqb (pc := 66) 81 dX11_taken_66 (by decide) (fun h66 => ?_) (fun h66 => ?_)
          · skip
            have y : ¬ (g_isB I (g_body I x) = true ∧ s_und k 8 (I 52 (ix (g_body I x))) = true) := by first | exact (fun q => absurd (q.1.symm.trans (show g_isB I (g_body I x) = false from h50)) (by decide)) | exact (fun q => absurd (q.2.symm.trans (show s_und k 8 (I 52 (ix (g_body I x))) = false from h66)) (by decide))
            refine V0_bipush (pc := 81) (-12) dX11_taken_81 (by decide) ?_
            refine V_reti (pc := 83) _ dX11_taken_83 rfl ?_
            refine px_li ?_
            first | (rw [g_taken, if_neg z] <;> rfl) | (rw [g_taken, if_pos z, if_pos h27] <;> rfl) | (rw [g_taken, if_pos z, if_neg (by rw [show g_empty I x = false from h27]; decide), if_pos ⟨h50, h66⟩]; done) | (rw [g_taken, if_pos z, if_neg (by rw [show g_empty I x = false from h27]; decide), if_neg y] <;> rfl)
          · skip
            refine V0_aload_n (pc := 69) dX11_taken_69 rfl ?_
            refine V_getr (pc := 70) dX11_taken_70 flX11_91 rfl rfl ?_
            refine V_getr (pc := 73) dX11_taken_73 flX11_364 rfl rfl ?_
            refine V0_iload_n (pc := 76) dX11_taken_76 rfl ?_
            refine V_iald (pc := 77) (ix (g_body I x)) dX11_taken_77 rfl hb.1 hb.2 ?_
            refine V0_goto (pc := 78) 83 dX11_taken_78 (by decide) ?_
            refine V_reti (pc := 83) _ dX11_taken_83 rfl ?_
            refine px_li ?_
            first | (rw [g_taken, if_neg z] <;> rfl) | (rw [g_taken, if_pos z, if_pos h27] <;> rfl) | (rw [g_taken, if_pos z, if_neg (by rw [show g_empty I x = false from h27]; decide), if_pos ⟨h50, h66⟩]; done) | (rw [g_taken, if_pos z, if_neg (by rw [show g_empty I x = false from h27]; decide), if_neg y] <;> rfl)
      · skip
        refine V0_bipush (pc := 30) (-11) dX11_taken_30 (by decide) ?_
        refine V_reti (pc := 32) _ dX11_taken_32 rfl ?_
        refine px_li ?_
        first | (rw [g_taken, if_neg z] <;> rfl) | (rw [g_taken, if_pos z, if_pos h27] <;> rfl) | (rw [g_taken, if_pos z, if_neg (by rw [show g_empty I x = false from h27]; decide), if_pos ⟨h50, h66⟩]; done) | (rw [g_taken, if_pos z, if_neg (by rw [show g_empty I x = false from h27]; decide), if_neg y] <;> rfl)
    · skip
      have z : ¬ (s_shelf x = true ∧ s_within k 0 7 = true) := by first | exact (fun q => absurd (q.1.symm.trans (show s_shelf x = false from h4)) (by decide)) | exact (fun q => absurd (q.2.symm.trans (show s_within k 0 7 = false from h14)) (by decide))
      refine V0_iconst (pc := 17) (-1) dX11_taken_17 (by decide) ?_
      refine V_reti (pc := 18) _ dX11_taken_18 rfl ?_
      refine px_li ?_
      first | (rw [g_taken, if_neg z] <;> rfl) | (rw [g_taken, if_pos z, if_pos h27] <;> rfl) | (rw [g_taken, if_pos z, if_neg (by rw [show g_empty I x = false from h27]; decide), if_pos ⟨h50, h66⟩]; done) | (rw [g_taken, if_pos z, if_neg (by rw [show g_empty I x = false from h27]; decide), if_neg y] <;> rfl)

