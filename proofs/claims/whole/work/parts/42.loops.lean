/-! the levels of reading -/
theorem D_X8_readProduct {l : Launch} {B : Nat → Int32} {n d : Nat} {J : px_J} {Q : px_Q} {a k : Nat} {I : px_I} {x w : Int32} {v : Value} (hd1 : 2 ≤ d) (h : pd B n a k I) (hQ : Q none I J) : V0 l (px_rm (d + 1) 0 0) mX8_readProduct (false, []) 0 0 7 [.ref 33, .int x, .int w, v] [] (px_mk I J) (px_q Q) := by
  refine V0_iload_n (pc := 7) dX8_readProduct_7 rfl ?_
  refine V0_bipush (pc := 8) (120) dX8_readProduct_8 (by decide) ?_
  refine V1_icmp_ge (pc := 10) 76 dX8_readProduct_10 (by decide) (fun h10 => ?_) (fun h10 => ?_)
  · skip
    refine V_retv (pc := 76) dX8_readProduct_76 rfl ?_
    exact hQ
  · skip
    refine V0_aload_n (pc := 13) dX8_readProduct_13 rfl ?_
    refine V_callVi (pc := 14) (M' := mX8_next) dX8_readProduct_14 mlX8_41 okX8_next rfl (c_nextD h) rfl rfl rfl rfl (px_hr (by omega) (by decide)) ⟨Nat.le_refl 0, Nat.le_refl 0⟩ (Nat.le_of_ble_eq_true rfl) ?_
    refine V0_bipush (pc := 17) (42) dX8_readProduct_17 (by decide) ?_
    refine V0_icmp_eq (pc := 19) 40 dX8_readProduct_19 (by decide) (fun h19 => ?_) (fun h19 => ?_)
    · skip
      exact absurd h19 (h.ne (by decide) (by decide))
    · skip
      refine V0_aload_n (pc := 22) dX8_readProduct_22 rfl ?_
      refine V_callVi (pc := 23) (M' := mX8_next) dX8_readProduct_23 mlX8_41 okX8_next rfl (c_nextD h) rfl rfl rfl rfl (px_hr (by omega) (by decide)) ⟨Nat.le_refl 0, Nat.le_refl 0⟩ (Nat.le_of_ble_eq_true rfl) ?_
      refine V0_bipush (pc := 26) (47) dX8_readProduct_26 (by decide) ?_
      refine V0_icmp_eq (pc := 28) 40 dX8_readProduct_28 (by decide) (fun h28 => ?_) (fun h28 => ?_)
      · skip
        exact absurd h28 (h.ne (by decide) (by decide))
      · skip
        refine V0_aload_n (pc := 31) dX8_readProduct_31 rfl ?_
        refine V_callVi (pc := 32) (M' := mX8_next) dX8_readProduct_32 mlX8_41 okX8_next rfl (c_nextD h) rfl rfl rfl rfl (px_hr (by omega) (by decide)) ⟨Nat.le_refl 0, Nat.le_refl 0⟩ (Nat.le_of_ble_eq_true rfl) ?_
        refine V0_bipush (pc := 35) (37) dX8_readProduct_35 (by decide) ?_
        refine V0_icmp_ne (pc := 37) 76 dX8_readProduct_37 (by decide) (fun h37 => ?_) (fun h37 => ?_)
        · skip
          refine V_retv (pc := 76) dX8_readProduct_76 rfl ?_
          exact hQ
        · skip
          exact absurd h37 (h.ne (by decide) (by decide))
theorem A_X8_readProduct {l : Launch} {d : Nat} {J : px_J} {Q : px_Q} {k i : Nat} {I : px_I} {x : Int32} {s : Int32} (hd1 : 2 ≤ d) (hk : I 34 4 = nI k) (hk8 : k < 128) (kk : V0 l (px_rm (d + 1) 0 0) mX8_readProduct (false, []) 0 0 7 [.ref 33, .int x, .int (nI (i + 1)), .int s] [] (px_mk (g_lawAdd I 34 k s 0) J) (px_q Q)) : V0 l (px_rm (d + 1) 0 0) mX8_readProduct (false, []) 0 0 60 [.ref 33, .int x, .int (nI i), .int s] [] (px_mk I J) (px_q Q) := by
  have hk9 : k ≤ 128 := by omega
  refine V0_aload_n (pc := 60) dX8_readProduct_60 rfl ?_
  refine V_getr (pc := 61) dX8_readProduct_61 flX8_10 rfl rfl ?_
  refine V0_iload_n (pc := 64) dX8_readProduct_64 rfl ?_
  refine V0_iconst (pc := 65) (0) dX8_readProduct_65 (by decide) ?_
  refine V_callV (pc := 66) (M' := mX3_add) dX8_readProduct_66 mlX8_49 okX3_add rfl (c_X3_add lw34 hk hk9) rfl rfl rfl rfl (px_hr (by omega) (by decide)) ⟨Nat.le_refl 0, Nat.le_refl 0⟩ (Nat.le_of_ble_eq_true rfl) ?_
  intro r1 I1 J1 hh
  obtain ⟨e1, e2, e3⟩ := hh
  rw [e1, e2, e3]
  clear e1 e2 e3 r1 I1 J1
  refine V0_pop (pc := 69) dX8_readProduct_69 rfl ?_
  refine V0_iinc_2 (pc := 70) (nI (i + 1)) dX8_readProduct_70 (by decide) rfl (nI_1 _) ?_
  refine V0_goto (pc := 73) 7 dX8_readProduct_73 (by decide) ?_
  exact kk
theorem H_X8_readProduct {l : Launch} {B : Nat → Int32} {n d r : Nat} {J : px_J} {Q : px_Q} (hd1 : 2 ≤ d) (hg : G_lev l B n 0 mX8_readOperand d r) : ∀ (f b k i : Nat) (Ia : px_I) (v : Value), n - b < f → ps B n b k Ia → k ≤ b → i ≤ b → (∀ I2, oc B n (11 + 0) r b k Ia I2 → Q none I2 J) → V0 l (px_rm (d + 1) 0 0) mX8_readProduct (false, []) 0 0 7 [.ref 33, .int (nI (6 - r)), .int (nI i), v] [] (px_mk Ia J) (px_q Q) := by
  intro f
  induction f with
  | zero => intro b k i Ia v h1; omega
  | succ f ih =>
    intro b k i Ia v h1 hs hkb hib hQ
    have hn120 := hs.2.1
    have hbn0 := hs.2.2.2.1
    refine V0_iload_n (pc := 7) dX8_readProduct_7 rfl ?_
    refine V0_bipush (pc := 8) (120) dX8_readProduct_8 (by decide) ?_
    refine V1_icmp_ge (pc := 10) 76 dX8_readProduct_10 (by decide) (fun h10 => ?_) (fun h10 => ?_)
    · skip
      refine V_retv (pc := 76) dX8_readProduct_76 rfl ?_
      first | exact hQ _ (oc_stop (by decide) (by rw [g_T_end b (by have := px_ge (b := 120) h10 (by omega) (by omega); omega)]; decide) hs) | exact hQ _ (oc_stop (by decide) (by show (decide (g_T B n b = 42) || (decide (g_T B n b = 47) || decide (g_T B n b = 37))) = false; rw [decide_eq_false h19, decide_eq_false h28, decide_eq_false h37]; rfl) hs)
    · skip
      refine V0_aload_n (pc := 13) dX8_readProduct_13 rfl ?_
      refine V_callVi (pc := 14) (M' := mX8_next) dX8_readProduct_14 mlX8_41 okX8_next rfl (c_nextT hs) rfl rfl rfl rfl (px_hr (by omega) (by decide)) ⟨Nat.le_refl 0, Nat.le_refl 0⟩ (Nat.le_of_ble_eq_true rfl) ?_
      refine V0_bipush (pc := 17) (42) dX8_readProduct_17 (by decide) ?_
      refine V0_icmp_eq (pc := 19) 40 dX8_readProduct_19 (by decide) (fun h19 => ?_) (fun h19 => ?_)
      · skip
        have hop : T_op (0 + 1) (g_T B n b) = true := by first | (rw [h19]; decide) | (rw [h28]; decide) | (rw [h37]; decide)
        have hbn := hs.lt (T_op_neg hop)
        have hs2 := hs.adv hbn
        refine V0_aload_n (pc := 40) dX8_readProduct_40 rfl ?_
        refine V_callVi (pc := 41) (M' := mX8_next) dX8_readProduct_41 mlX8_41 okX8_next rfl (c_nextT hs) rfl rfl rfl rfl (px_hr (by omega) (by decide)) ⟨Nat.le_refl 0, Nat.le_refl 0⟩ (Nat.le_of_ble_eq_true rfl) ?_
        refine V0_istore_3 (pc := 44) dX8_readProduct_44 (by decide) rfl ?_
        refine V0_aload_n (pc := 45) dX8_readProduct_45 rfl ?_
        refine V0_dup (pc := 46) dX8_readProduct_46 rfl ?_
        refine V_geti (pc := 47) dX8_readProduct_47 flX8_24 rfl rfl ?_
        refine V0_iconst (pc := 50) (1) dX8_readProduct_50 (by decide) ?_
        refine V0_iadd (pc := 51) dX8_readProduct_51 ?_
        rw [hs.2.2.1, nI_1]
        refine V_puti (pc := 52) dX8_readProduct_52 flX8_24 rfl rfl ?_
        refine V0_aload_n (pc := 55) dX8_readProduct_55 rfl ?_
        refine V0_iload_n (pc := 56) dX8_readProduct_56 rfl ?_
        refine V_callV (pc := 57) (M' := mX8_readOperand) dX8_readProduct_57 mlX8_68 okX8_readOperand rfl (hg _ J (b + 1) k hs2 (by omega)) rfl rfl rfl rfl (px_hr (by omega) (by decide)) ⟨Nat.le_refl 0, Nat.le_refl 0⟩ (Nat.le_of_ble_eq_true rfl) ?_
        intro r1 I1 J1 hh
        obtain ⟨e1, e2, hoc⟩ := hh
        rw [e1, e2]
        clear e1 e2 r1 J1
        obtain ⟨hpf, ⟨bb, c, hp, hs3, hkc⟩ | ⟨bb, k2, hp, hd3, hle⟩⟩ := hoc
        · have fit := hp.fitB
          have q := (fit.2.2 rfl).1
          have q2 := fit.2.1 (by omega)
          refine A_X8_readProduct hd1 hs3.2.2.2.2.2.1 (by omega) ?_
          exact ih bb (k + c.length + 1) (i + 1) _ _ (by omega) (hs3.add (by omega)) (by omega) (by omega) (fun I2 ho => hQ I2 (oc_step (L := 0) (by decide) (by decide) hop hpf hp hkc (by omega) ho))
        · have fit := hp.fitB
          have q2 := fit.2.1 (by omega)
          refine A_X8_readProduct hd1 hd3.2.2.2.2.2.1 (by omega) ?_
          exact D_X8_readProduct hd1 (hd3.add (by omega)) (hQ _ (oc_stepX (L := 0) (by decide) hop hpf hp hd3 hle (by omega)))
      · skip
        refine V0_aload_n (pc := 22) dX8_readProduct_22 rfl ?_
        refine V_callVi (pc := 23) (M' := mX8_next) dX8_readProduct_23 mlX8_41 okX8_next rfl (c_nextT hs) rfl rfl rfl rfl (px_hr (by omega) (by decide)) ⟨Nat.le_refl 0, Nat.le_refl 0⟩ (Nat.le_of_ble_eq_true rfl) ?_
        refine V0_bipush (pc := 26) (47) dX8_readProduct_26 (by decide) ?_
        refine V0_icmp_eq (pc := 28) 40 dX8_readProduct_28 (by decide) (fun h28 => ?_) (fun h28 => ?_)
        · skip
          have hop : T_op (0 + 1) (g_T B n b) = true := by first | (rw [h19]; decide) | (rw [h28]; decide) | (rw [h37]; decide)
          have hbn := hs.lt (T_op_neg hop)
          have hs2 := hs.adv hbn
          refine V0_aload_n (pc := 40) dX8_readProduct_40 rfl ?_
          refine V_callVi (pc := 41) (M' := mX8_next) dX8_readProduct_41 mlX8_41 okX8_next rfl (c_nextT hs) rfl rfl rfl rfl (px_hr (by omega) (by decide)) ⟨Nat.le_refl 0, Nat.le_refl 0⟩ (Nat.le_of_ble_eq_true rfl) ?_
          refine V0_istore_3 (pc := 44) dX8_readProduct_44 (by decide) rfl ?_
          refine V0_aload_n (pc := 45) dX8_readProduct_45 rfl ?_
          refine V0_dup (pc := 46) dX8_readProduct_46 rfl ?_
          refine V_geti (pc := 47) dX8_readProduct_47 flX8_24 rfl rfl ?_
          refine V0_iconst (pc := 50) (1) dX8_readProduct_50 (by decide) ?_
          refine V0_iadd (pc := 51) dX8_readProduct_51 ?_
          rw [hs.2.2.1, nI_1]
          refine V_puti (pc := 52) dX8_readProduct_52 flX8_24 rfl rfl ?_
          refine V0_aload_n (pc := 55) dX8_readProduct_55 rfl ?_
          refine V0_iload_n (pc := 56) dX8_readProduct_56 rfl ?_
          refine V_callV (pc := 57) (M' := mX8_readOperand) dX8_readProduct_57 mlX8_68 okX8_readOperand rfl (hg _ J (b + 1) k hs2 (by omega)) rfl rfl rfl rfl (px_hr (by omega) (by decide)) ⟨Nat.le_refl 0, Nat.le_refl 0⟩ (Nat.le_of_ble_eq_true rfl) ?_
          intro r1 I1 J1 hh
          obtain ⟨e1, e2, hoc⟩ := hh
          rw [e1, e2]
          clear e1 e2 r1 J1
          obtain ⟨hpf, ⟨bb, c, hp, hs3, hkc⟩ | ⟨bb, k2, hp, hd3, hle⟩⟩ := hoc
          · have fit := hp.fitB
            have q := (fit.2.2 rfl).1
            have q2 := fit.2.1 (by omega)
            refine A_X8_readProduct hd1 hs3.2.2.2.2.2.1 (by omega) ?_
            exact ih bb (k + c.length + 1) (i + 1) _ _ (by omega) (hs3.add (by omega)) (by omega) (by omega) (fun I2 ho => hQ I2 (oc_step (L := 0) (by decide) (by decide) hop hpf hp hkc (by omega) ho))
          · have fit := hp.fitB
            have q2 := fit.2.1 (by omega)
            refine A_X8_readProduct hd1 hd3.2.2.2.2.2.1 (by omega) ?_
            exact D_X8_readProduct hd1 (hd3.add (by omega)) (hQ _ (oc_stepX (L := 0) (by decide) hop hpf hp hd3 hle (by omega)))
        · skip
          refine V0_aload_n (pc := 31) dX8_readProduct_31 rfl ?_
          refine V_callVi (pc := 32) (M' := mX8_next) dX8_readProduct_32 mlX8_41 okX8_next rfl (c_nextT hs) rfl rfl rfl rfl (px_hr (by omega) (by decide)) ⟨Nat.le_refl 0, Nat.le_refl 0⟩ (Nat.le_of_ble_eq_true rfl) ?_
          refine V0_bipush (pc := 35) (37) dX8_readProduct_35 (by decide) ?_
          refine V0_icmp_ne (pc := 37) 76 dX8_readProduct_37 (by decide) (fun h37 => ?_) (fun h37 => ?_)
          · skip
            refine V_retv (pc := 76) dX8_readProduct_76 rfl ?_
            first | exact hQ _ (oc_stop (by decide) (by rw [g_T_end b (by have := px_ge (b := 120) h10 (by omega) (by omega); omega)]; decide) hs) | exact hQ _ (oc_stop (by decide) (by show (decide (g_T B n b = 42) || (decide (g_T B n b = 47) || decide (g_T B n b = 37))) = false; rw [decide_eq_false h19, decide_eq_false h28, decide_eq_false h37]; rfl) hs)
          · skip
            have hop : T_op (0 + 1) (g_T B n b) = true := by first | (rw [h19]; decide) | (rw [h28]; decide) | (rw [h37]; decide)
            have hbn := hs.lt (T_op_neg hop)
            have hs2 := hs.adv hbn
            refine V0_aload_n (pc := 40) dX8_readProduct_40 rfl ?_
            refine V_callVi (pc := 41) (M' := mX8_next) dX8_readProduct_41 mlX8_41 okX8_next rfl (c_nextT hs) rfl rfl rfl rfl (px_hr (by omega) (by decide)) ⟨Nat.le_refl 0, Nat.le_refl 0⟩ (Nat.le_of_ble_eq_true rfl) ?_
            refine V0_istore_3 (pc := 44) dX8_readProduct_44 (by decide) rfl ?_
            refine V0_aload_n (pc := 45) dX8_readProduct_45 rfl ?_
            refine V0_dup (pc := 46) dX8_readProduct_46 rfl ?_
            refine V_geti (pc := 47) dX8_readProduct_47 flX8_24 rfl rfl ?_
            refine V0_iconst (pc := 50) (1) dX8_readProduct_50 (by decide) ?_
            refine V0_iadd (pc := 51) dX8_readProduct_51 ?_
            rw [hs.2.2.1, nI_1]
            refine V_puti (pc := 52) dX8_readProduct_52 flX8_24 rfl rfl ?_
            refine V0_aload_n (pc := 55) dX8_readProduct_55 rfl ?_
            refine V0_iload_n (pc := 56) dX8_readProduct_56 rfl ?_
            refine V_callV (pc := 57) (M' := mX8_readOperand) dX8_readProduct_57 mlX8_68 okX8_readOperand rfl (hg _ J (b + 1) k hs2 (by omega)) rfl rfl rfl rfl (px_hr (by omega) (by decide)) ⟨Nat.le_refl 0, Nat.le_refl 0⟩ (Nat.le_of_ble_eq_true rfl) ?_
            intro r1 I1 J1 hh
            obtain ⟨e1, e2, hoc⟩ := hh
            rw [e1, e2]
            clear e1 e2 r1 J1
            obtain ⟨hpf, ⟨bb, c, hp, hs3, hkc⟩ | ⟨bb, k2, hp, hd3, hle⟩⟩ := hoc
            · have fit := hp.fitB
              have q := (fit.2.2 rfl).1
              have q2 := fit.2.1 (by omega)
              refine A_X8_readProduct hd1 hs3.2.2.2.2.2.1 (by omega) ?_
              exact ih bb (k + c.length + 1) (i + 1) _ _ (by omega) (hs3.add (by omega)) (by omega) (by omega) (fun I2 ho => hQ I2 (oc_step (L := 0) (by decide) (by decide) hop hpf hp hkc (by omega) ho))
            · have fit := hp.fitB
              have q2 := fit.2.1 (by omega)
              refine A_X8_readProduct hd1 hd3.2.2.2.2.2.1 (by omega) ?_
              exact D_X8_readProduct hd1 (hd3.add (by omega)) (hQ _ (oc_stepX (L := 0) (by decide) hop hpf hp hd3 hle (by omega)))
theorem g_X8_readProduct {l : Launch} {B : Nat → Int32} {n d r : Nat} (hd1 : 2 ≤ d) (hg : G_lev l B n 0 mX8_readOperand d r) : G_lev l B n 1 mX8_readProduct (d + 1) r := by
  intro I J a k hs hka
  have hn120 := hs.2.1
  have hbn0 := hs.2.2.2.1
  refine Ct.of plX8_readProduct (Nat.le_of_ble_eq_true rfl) [.ref 33, .int (nI (6 - r)), .null, .null] rfl ?_
  refine V0_aload_n (pc := 0) dX8_readProduct_0 rfl ?_
  refine V0_iload_n (pc := 1) dX8_readProduct_1 rfl ?_
  refine V_callV (pc := 2) (M' := mX8_readOperand) dX8_readProduct_2 mlX8_68 okX8_readOperand rfl (hg I J a k hs hka) rfl rfl rfl rfl (px_hr (by omega) (by decide)) ⟨Nat.le_refl 0, Nat.le_refl 0⟩ (Nat.le_of_ble_eq_true rfl) ?_
  intro r1 I1 J1 hh
  obtain ⟨e1, e2, hoc⟩ := hh
  rw [e1, e2]
  clear e1 e2 r1 J1
  refine V0_iconst (pc := 5) (0) dX8_readProduct_5 (by decide) ?_
  refine V0_istore_2 (pc := 6) dX8_readProduct_6 (by decide) rfl ?_
  obtain ⟨hpf, ⟨bb, c, hp, hs3, hkc⟩ | ⟨bb, k2, hp, hd3, hle⟩⟩ := hoc
  · have fit := hp.fitB
    have q := (fit.2.2 rfl).1
    exact H_X8_readProduct hd1 hg (n - bb + 1) bb (k + c.length) 0 I1 _ (by omega) hs3 (by omega) (by omega) (fun I2 ho => ⟨rfl, rfl, oc_lev (L := 0) (by decide) hpf hp hkc ho⟩)
  · exact D_X8_readProduct hd1 hd3 ⟨rfl, rfl, oc_levX (L := 0) (by decide) hpf hp hd3 hle⟩
theorem D_X8_readSum {l : Launch} {B : Nat → Int32} {n d : Nat} {J : px_J} {Q : px_Q} {a k : Nat} {I : px_I} {x w : Int32} {v : Value} (hd1 : 2 ≤ d) (h : pd B n a k I) (hQ : Q none I J) : V0 l (px_rm (d + 1) 0 0) mX8_readSum (false, []) 0 0 7 [.ref 33, .int x, .int w, v] [] (px_mk I J) (px_q Q) := by
  refine V0_iload_n (pc := 7) dX8_readSum_7 rfl ?_
  refine V0_bipush (pc := 8) (120) dX8_readSum_8 (by decide) ?_
  refine V1_icmp_ge (pc := 10) 67 dX8_readSum_10 (by decide) (fun h10 => ?_) (fun h10 => ?_)
  · skip
    refine V_retv (pc := 67) dX8_readSum_67 rfl ?_
    exact hQ
  · skip
    refine V0_aload_n (pc := 13) dX8_readSum_13 rfl ?_
    refine V_callVi (pc := 14) (M' := mX8_next) dX8_readSum_14 mlX8_41 okX8_next rfl (c_nextD h) rfl rfl rfl rfl (px_hr (by omega) (by decide)) ⟨Nat.le_refl 0, Nat.le_refl 0⟩ (Nat.le_of_ble_eq_true rfl) ?_
    refine V0_bipush (pc := 17) (43) dX8_readSum_17 (by decide) ?_
    refine V0_icmp_eq (pc := 19) 31 dX8_readSum_19 (by decide) (fun h19 => ?_) (fun h19 => ?_)
    · skip
      exact absurd h19 (h.ne (by decide) (by decide))
    · skip
      refine V0_aload_n (pc := 22) dX8_readSum_22 rfl ?_
      refine V_callVi (pc := 23) (M' := mX8_next) dX8_readSum_23 mlX8_41 okX8_next rfl (c_nextD h) rfl rfl rfl rfl (px_hr (by omega) (by decide)) ⟨Nat.le_refl 0, Nat.le_refl 0⟩ (Nat.le_of_ble_eq_true rfl) ?_
      refine V0_bipush (pc := 26) (45) dX8_readSum_26 (by decide) ?_
      refine V0_icmp_ne (pc := 28) 67 dX8_readSum_28 (by decide) (fun h28 => ?_) (fun h28 => ?_)
      · skip
        refine V_retv (pc := 67) dX8_readSum_67 rfl ?_
        exact hQ
      · skip
        exact absurd h28 (h.ne (by decide) (by decide))
theorem A_X8_readSum {l : Launch} {d : Nat} {J : px_J} {Q : px_Q} {k i : Nat} {I : px_I} {x : Int32} {s : Int32} (hd1 : 2 ≤ d) (hk : I 34 4 = nI k) (hk8 : k < 128) (kk : V0 l (px_rm (d + 1) 0 0) mX8_readSum (false, []) 0 0 7 [.ref 33, .int x, .int (nI (i + 1)), .int s] [] (px_mk (g_lawAdd I 34 k s 0) J) (px_q Q)) : V0 l (px_rm (d + 1) 0 0) mX8_readSum (false, []) 0 0 51 [.ref 33, .int x, .int (nI i), .int s] [] (px_mk I J) (px_q Q) := by
  have hk9 : k ≤ 128 := by omega
  refine V0_aload_n (pc := 51) dX8_readSum_51 rfl ?_
  refine V_getr (pc := 52) dX8_readSum_52 flX8_10 rfl rfl ?_
  refine V0_iload_n (pc := 55) dX8_readSum_55 rfl ?_
  refine V0_iconst (pc := 56) (0) dX8_readSum_56 (by decide) ?_
  refine V_callV (pc := 57) (M' := mX3_add) dX8_readSum_57 mlX8_49 okX3_add rfl (c_X3_add lw34 hk hk9) rfl rfl rfl rfl (px_hr (by omega) (by decide)) ⟨Nat.le_refl 0, Nat.le_refl 0⟩ (Nat.le_of_ble_eq_true rfl) ?_
  intro r1 I1 J1 hh
  obtain ⟨e1, e2, e3⟩ := hh
  rw [e1, e2, e3]
  clear e1 e2 e3 r1 I1 J1
  refine V0_pop (pc := 60) dX8_readSum_60 rfl ?_
  refine V0_iinc_2 (pc := 61) (nI (i + 1)) dX8_readSum_61 (by decide) rfl (nI_1 _) ?_
  refine V0_goto (pc := 64) 7 dX8_readSum_64 (by decide) ?_
  exact kk
theorem H_X8_readSum {l : Launch} {B : Nat → Int32} {n d r : Nat} {J : px_J} {Q : px_Q} (hd1 : 2 ≤ d) (hg : G_lev l B n 1 mX8_readProduct d r) : ∀ (f b k i : Nat) (Ia : px_I) (v : Value), n - b < f → ps B n b k Ia → k ≤ b → i ≤ b → (∀ I2, oc B n (11 + 1) r b k Ia I2 → Q none I2 J) → V0 l (px_rm (d + 1) 0 0) mX8_readSum (false, []) 0 0 7 [.ref 33, .int (nI (6 - r)), .int (nI i), v] [] (px_mk Ia J) (px_q Q) := by
  intro f
  induction f with
  | zero => intro b k i Ia v h1; omega
  | succ f ih =>
    intro b k i Ia v h1 hs hkb hib hQ
    have hn120 := hs.2.1
    have hbn0 := hs.2.2.2.1
    refine V0_iload_n (pc := 7) dX8_readSum_7 rfl ?_
    refine V0_bipush (pc := 8) (120) dX8_readSum_8 (by decide) ?_
    refine V1_icmp_ge (pc := 10) 67 dX8_readSum_10 (by decide) (fun h10 => ?_) (fun h10 => ?_)
    · skip
      refine V_retv (pc := 67) dX8_readSum_67 rfl ?_
      first | exact hQ _ (oc_stop (by decide) (by rw [g_T_end b (by have := px_ge (b := 120) h10 (by omega) (by omega); omega)]; decide) hs) | exact hQ _ (oc_stop (by decide) (by show (decide (g_T B n b = 43) || decide (g_T B n b = 45)) = false; rw [decide_eq_false h19, decide_eq_false h28]; rfl) hs)
    · skip
      refine V0_aload_n (pc := 13) dX8_readSum_13 rfl ?_
      refine V_callVi (pc := 14) (M' := mX8_next) dX8_readSum_14 mlX8_41 okX8_next rfl (c_nextT hs) rfl rfl rfl rfl (px_hr (by omega) (by decide)) ⟨Nat.le_refl 0, Nat.le_refl 0⟩ (Nat.le_of_ble_eq_true rfl) ?_
      refine V0_bipush (pc := 17) (43) dX8_readSum_17 (by decide) ?_
      refine V0_icmp_eq (pc := 19) 31 dX8_readSum_19 (by decide) (fun h19 => ?_) (fun h19 => ?_)
      · skip
        have hop : T_op (1 + 1) (g_T B n b) = true := by first | (rw [h19]; decide) | (rw [h28]; decide)
        have hbn := hs.lt (T_op_neg hop)
        have hs2 := hs.adv hbn
        refine V0_aload_n (pc := 31) dX8_readSum_31 rfl ?_
        refine V_callVi (pc := 32) (M' := mX8_next) dX8_readSum_32 mlX8_41 okX8_next rfl (c_nextT hs) rfl rfl rfl rfl (px_hr (by omega) (by decide)) ⟨Nat.le_refl 0, Nat.le_refl 0⟩ (Nat.le_of_ble_eq_true rfl) ?_
        refine V0_istore_3 (pc := 35) dX8_readSum_35 (by decide) rfl ?_
        refine V0_aload_n (pc := 36) dX8_readSum_36 rfl ?_
        refine V0_dup (pc := 37) dX8_readSum_37 rfl ?_
        refine V_geti (pc := 38) dX8_readSum_38 flX8_24 rfl rfl ?_
        refine V0_iconst (pc := 41) (1) dX8_readSum_41 (by decide) ?_
        refine V0_iadd (pc := 42) dX8_readSum_42 ?_
        rw [hs.2.2.1, nI_1]
        refine V_puti (pc := 43) dX8_readSum_43 flX8_24 rfl rfl ?_
        refine V0_aload_n (pc := 46) dX8_readSum_46 rfl ?_
        refine V0_iload_n (pc := 47) dX8_readSum_47 rfl ?_
        refine V_callV (pc := 48) (M' := mX8_readProduct) dX8_readSum_48 mlX8_65 okX8_readProduct rfl (hg _ J (b + 1) k hs2 (by omega)) rfl rfl rfl rfl (px_hr (by omega) (by decide)) ⟨Nat.le_refl 0, Nat.le_refl 0⟩ (Nat.le_of_ble_eq_true rfl) ?_
        intro r1 I1 J1 hh
        obtain ⟨e1, e2, hoc⟩ := hh
        rw [e1, e2]
        clear e1 e2 r1 J1
        obtain ⟨hpf, ⟨bb, c, hp, hs3, hkc⟩ | ⟨bb, k2, hp, hd3, hle⟩⟩ := hoc
        · have fit := hp.fitB
          have q := (fit.2.2 rfl).1
          have q2 := fit.2.1 (by omega)
          refine A_X8_readSum hd1 hs3.2.2.2.2.2.1 (by omega) ?_
          exact ih bb (k + c.length + 1) (i + 1) _ _ (by omega) (hs3.add (by omega)) (by omega) (by omega) (fun I2 ho => hQ I2 (oc_step (L := 1) (by decide) (by decide) hop hpf hp hkc (by omega) ho))
        · have fit := hp.fitB
          have q2 := fit.2.1 (by omega)
          refine A_X8_readSum hd1 hd3.2.2.2.2.2.1 (by omega) ?_
          exact D_X8_readSum hd1 (hd3.add (by omega)) (hQ _ (oc_stepX (L := 1) (by decide) hop hpf hp hd3 hle (by omega)))
      · skip
        refine V0_aload_n (pc := 22) dX8_readSum_22 rfl ?_
        refine V_callVi (pc := 23) (M' := mX8_next) dX8_readSum_23 mlX8_41 okX8_next rfl (c_nextT hs) rfl rfl rfl rfl (px_hr (by omega) (by decide)) ⟨Nat.le_refl 0, Nat.le_refl 0⟩ (Nat.le_of_ble_eq_true rfl) ?_
        refine V0_bipush (pc := 26) (45) dX8_readSum_26 (by decide) ?_
        refine V0_icmp_ne (pc := 28) 67 dX8_readSum_28 (by decide) (fun h28 => ?_) (fun h28 => ?_)
        · skip
          refine V_retv (pc := 67) dX8_readSum_67 rfl ?_
          first | exact hQ _ (oc_stop (by decide) (by rw [g_T_end b (by have := px_ge (b := 120) h10 (by omega) (by omega); omega)]; decide) hs) | exact hQ _ (oc_stop (by decide) (by show (decide (g_T B n b = 43) || decide (g_T B n b = 45)) = false; rw [decide_eq_false h19, decide_eq_false h28]; rfl) hs)
        · skip
          have hop : T_op (1 + 1) (g_T B n b) = true := by first | (rw [h19]; decide) | (rw [h28]; decide)
          have hbn := hs.lt (T_op_neg hop)
          have hs2 := hs.adv hbn
          refine V0_aload_n (pc := 31) dX8_readSum_31 rfl ?_
          refine V_callVi (pc := 32) (M' := mX8_next) dX8_readSum_32 mlX8_41 okX8_next rfl (c_nextT hs) rfl rfl rfl rfl (px_hr (by omega) (by decide)) ⟨Nat.le_refl 0, Nat.le_refl 0⟩ (Nat.le_of_ble_eq_true rfl) ?_
          refine V0_istore_3 (pc := 35) dX8_readSum_35 (by decide) rfl ?_
          refine V0_aload_n (pc := 36) dX8_readSum_36 rfl ?_
          refine V0_dup (pc := 37) dX8_readSum_37 rfl ?_
          refine V_geti (pc := 38) dX8_readSum_38 flX8_24 rfl rfl ?_
          refine V0_iconst (pc := 41) (1) dX8_readSum_41 (by decide) ?_
          refine V0_iadd (pc := 42) dX8_readSum_42 ?_
          rw [hs.2.2.1, nI_1]
          refine V_puti (pc := 43) dX8_readSum_43 flX8_24 rfl rfl ?_
          refine V0_aload_n (pc := 46) dX8_readSum_46 rfl ?_
          refine V0_iload_n (pc := 47) dX8_readSum_47 rfl ?_
          refine V_callV (pc := 48) (M' := mX8_readProduct) dX8_readSum_48 mlX8_65 okX8_readProduct rfl (hg _ J (b + 1) k hs2 (by omega)) rfl rfl rfl rfl (px_hr (by omega) (by decide)) ⟨Nat.le_refl 0, Nat.le_refl 0⟩ (Nat.le_of_ble_eq_true rfl) ?_
          intro r1 I1 J1 hh
          obtain ⟨e1, e2, hoc⟩ := hh
          rw [e1, e2]
          clear e1 e2 r1 J1
          obtain ⟨hpf, ⟨bb, c, hp, hs3, hkc⟩ | ⟨bb, k2, hp, hd3, hle⟩⟩ := hoc
          · have fit := hp.fitB
            have q := (fit.2.2 rfl).1
            have q2 := fit.2.1 (by omega)
            refine A_X8_readSum hd1 hs3.2.2.2.2.2.1 (by omega) ?_
            exact ih bb (k + c.length + 1) (i + 1) _ _ (by omega) (hs3.add (by omega)) (by omega) (by omega) (fun I2 ho => hQ I2 (oc_step (L := 1) (by decide) (by decide) hop hpf hp hkc (by omega) ho))
          · have fit := hp.fitB
            have q2 := fit.2.1 (by omega)
            refine A_X8_readSum hd1 hd3.2.2.2.2.2.1 (by omega) ?_
            exact D_X8_readSum hd1 (hd3.add (by omega)) (hQ _ (oc_stepX (L := 1) (by decide) hop hpf hp hd3 hle (by omega)))
theorem g_X8_readSum {l : Launch} {B : Nat → Int32} {n d r : Nat} (hd1 : 2 ≤ d) (hg : G_lev l B n 1 mX8_readProduct d r) : G_lev l B n 2 mX8_readSum (d + 1) r := by
  intro I J a k hs hka
  have hn120 := hs.2.1
  have hbn0 := hs.2.2.2.1
  refine Ct.of plX8_readSum (Nat.le_of_ble_eq_true rfl) [.ref 33, .int (nI (6 - r)), .null, .null] rfl ?_
  refine V0_aload_n (pc := 0) dX8_readSum_0 rfl ?_
  refine V0_iload_n (pc := 1) dX8_readSum_1 rfl ?_
  refine V_callV (pc := 2) (M' := mX8_readProduct) dX8_readSum_2 mlX8_65 okX8_readProduct rfl (hg I J a k hs hka) rfl rfl rfl rfl (px_hr (by omega) (by decide)) ⟨Nat.le_refl 0, Nat.le_refl 0⟩ (Nat.le_of_ble_eq_true rfl) ?_
  intro r1 I1 J1 hh
  obtain ⟨e1, e2, hoc⟩ := hh
  rw [e1, e2]
  clear e1 e2 r1 J1
  refine V0_iconst (pc := 5) (0) dX8_readSum_5 (by decide) ?_
  refine V0_istore_2 (pc := 6) dX8_readSum_6 (by decide) rfl ?_
  obtain ⟨hpf, ⟨bb, c, hp, hs3, hkc⟩ | ⟨bb, k2, hp, hd3, hle⟩⟩ := hoc
  · have fit := hp.fitB
    have q := (fit.2.2 rfl).1
    exact H_X8_readSum hd1 hg (n - bb + 1) bb (k + c.length) 0 I1 _ (by omega) hs3 (by omega) (by omega) (fun I2 ho => ⟨rfl, rfl, oc_lev (L := 1) (by decide) hpf hp hkc ho⟩)
  · exact D_X8_readSum hd1 hd3 ⟨rfl, rfl, oc_levX (L := 1) (by decide) hpf hp hd3 hle⟩
theorem D_X8_readBoth {l : Launch} {B : Nat → Int32} {n d : Nat} {J : px_J} {Q : px_Q} {a k : Nat} {I : px_I} {x w : Int32} (hd1 : 2 ≤ d) (h : pd B n a k I) (hQ : Q none I J) : V0 l (px_rm (d + 1) 0 0) mX8_readBoth (false, []) 0 0 7 [.ref 33, .int x, .int w] [] (px_mk I J) (px_q Q) := by
  refine V0_iload_n (pc := 7) dX8_readBoth_7 rfl ?_
  refine V0_bipush (pc := 8) (120) dX8_readBoth_8 (by decide) ?_
  refine V1_icmp_ge (pc := 10) 44 dX8_readBoth_10 (by decide) (fun h10 => ?_) (fun h10 => ?_)
  · skip
    refine V_retv (pc := 44) dX8_readBoth_44 rfl ?_
    exact hQ
  · skip
    refine V0_aload_n (pc := 13) dX8_readBoth_13 rfl ?_
    refine V0_bipush (pc := 14) (38) dX8_readBoth_14 (by decide) ?_
    refine V_callV (pc := 16) (M' := mX8_takes) dX8_readBoth_16 mlX8_37 okX8_takes rfl (c_takesD h (by decide) (by decide)) rfl rfl rfl rfl (px_hr (by omega) (by decide)) ⟨Nat.le_refl 0, Nat.le_refl 0⟩ (Nat.le_of_ble_eq_true rfl) ?_
    intro r1 I1 J1 hh
    obtain ⟨e1, e2, e3⟩ := hh
    rw [e1, e2, e3]
    clear e1 e2 e3 r1 I1 J1
    refine V_ifeqb (pc := 19) 44 dX8_readBoth_19 (by decide) (fun h19 => ?_) (fun h19 => ?_)
    · skip
      refine V_retv (pc := 44) dX8_readBoth_44 rfl ?_
      exact hQ
    · skip
      exact absurd h19 (by decide)
theorem A_X8_readBoth {l : Launch} {d : Nat} {J : px_J} {Q : px_Q} {k i : Nat} {I : px_I} {x : Int32} (hd1 : 2 ≤ d) (hk : I 34 4 = nI k) (hk8 : k < 128) (kk : V0 l (px_rm (d + 1) 0 0) mX8_readBoth (false, []) 0 0 7 [.ref 33, .int x, .int (nI (i + 1))] [] (px_mk (g_lawAdd I 34 k 38 0) J) (px_q Q)) : V0 l (px_rm (d + 1) 0 0) mX8_readBoth (false, []) 0 0 27 [.ref 33, .int x, .int (nI i)] [] (px_mk I J) (px_q Q) := by
  have hk9 : k ≤ 128 := by omega
  refine V0_aload_n (pc := 27) dX8_readBoth_27 rfl ?_
  refine V_getr (pc := 28) dX8_readBoth_28 flX8_10 rfl rfl ?_
  refine V0_bipush (pc := 31) (38) dX8_readBoth_31 (by decide) ?_
  refine V0_iconst (pc := 33) (0) dX8_readBoth_33 (by decide) ?_
  refine V_callV (pc := 34) (M' := mX3_add) dX8_readBoth_34 mlX8_49 okX3_add rfl (c_X3_add lw34 hk hk9) rfl rfl rfl rfl (px_hr (by omega) (by decide)) ⟨Nat.le_refl 0, Nat.le_refl 0⟩ (Nat.le_of_ble_eq_true rfl) ?_
  intro r1 I1 J1 hh
  obtain ⟨e1, e2, e3⟩ := hh
  rw [e1, e2, e3]
  clear e1 e2 e3 r1 I1 J1
  refine V0_pop (pc := 37) dX8_readBoth_37 rfl ?_
  refine V0_iinc_2 (pc := 38) (nI (i + 1)) dX8_readBoth_38 (by decide) rfl (nI_1 _) ?_
  refine V0_goto (pc := 41) 7 dX8_readBoth_41 (by decide) ?_
  exact kk
theorem H_X8_readBoth {l : Launch} {B : Nat → Int32} {n d r : Nat} {J : px_J} {Q : px_Q} (hd1 : 2 ≤ d) (hg : G_lev l B n 3 mX8_readCompared d r) : ∀ (f b k i : Nat) (Ia : px_I), n - b < f → ps B n b k Ia → k ≤ b → i ≤ b → (∀ I2, oc B n (11 + 3) r b k Ia I2 → Q none I2 J) → V0 l (px_rm (d + 1) 0 0) mX8_readBoth (false, []) 0 0 7 [.ref 33, .int (nI (6 - r)), .int (nI i)] [] (px_mk Ia J) (px_q Q) := by
  intro f
  induction f with
  | zero => intro b k i Ia h1; omega
  | succ f ih =>
    intro b k i Ia h1 hs hkb hib hQ
    have hn120 := hs.2.1
    have hbn0 := hs.2.2.2.1
    refine V0_iload_n (pc := 7) dX8_readBoth_7 rfl ?_
    refine V0_bipush (pc := 8) (120) dX8_readBoth_8 (by decide) ?_
    refine V1_icmp_ge (pc := 10) 44 dX8_readBoth_10 (by decide) (fun h10 => ?_) (fun h10 => ?_)
    · skip
      refine V_retv (pc := 44) dX8_readBoth_44 rfl ?_
      first | (rw [if_neg (of_decide_eq_false h19)]; exact hQ _ (oc_stop (by decide) (show T_op (3 + 1) _ = false from h19) hs)) | exact hQ _ (oc_stop (by decide) (by rw [g_T_end b (by have := px_ge (b := 120) h10 (by omega) (by omega); omega)]; decide) hs)
    · skip
      refine V0_aload_n (pc := 13) dX8_readBoth_13 rfl ?_
      refine V0_bipush (pc := 14) (38) dX8_readBoth_14 (by decide) ?_
      refine V_callV (pc := 16) (M' := mX8_takes) dX8_readBoth_16 mlX8_37 okX8_takes rfl (c_takesT hs) rfl rfl rfl rfl (px_hr (by omega) (by decide)) ⟨Nat.le_refl 0, Nat.le_refl 0⟩ (Nat.le_of_ble_eq_true rfl) ?_
      intro r1 I1 J1 hh
      obtain ⟨e1, e2, e3⟩ := hh
      rw [e1, e2, e3]
      clear e1 e2 e3 r1 I1 J1
      refine V_ifeqb (pc := 19) 44 dX8_readBoth_19 (by decide) (fun h19 => ?_) (fun h19 => ?_)
      · skip
        refine V_retv (pc := 44) dX8_readBoth_44 rfl ?_
        first | (rw [if_neg (of_decide_eq_false h19)]; exact hQ _ (oc_stop (by decide) (show T_op (3 + 1) _ = false from h19) hs)) | exact hQ _ (oc_stop (by decide) (by rw [g_T_end b (by have := px_ge (b := 120) h10 (by omega) (by omega); omega)]; decide) hs)
      · skip
        rw [if_pos (of_decide_eq_true h19)]
        have eT : g_T B n b = 38 := of_decide_eq_true h19
        have hop : T_op (3 + 1) (g_T B n b) = true := by rw [eT]; decide
        have hbn := hs.lt (T_op_neg hop)
        have hs2 := hs.adv hbn
        refine V0_aload_n (pc := 22) dX8_readBoth_22 rfl ?_
        refine V0_iload_n (pc := 23) dX8_readBoth_23 rfl ?_
        refine V_callV (pc := 24) (M' := mX8_readCompared) dX8_readBoth_24 mlX8_59 okX8_readCompared rfl (hg _ J (b + 1) k hs2 (by omega)) rfl rfl rfl rfl (px_hr (by omega) (by decide)) ⟨Nat.le_refl 0, Nat.le_refl 0⟩ (Nat.le_of_ble_eq_true rfl) ?_
        intro r1 I1 J1 hh
        obtain ⟨e1, e2, hoc⟩ := hh
        rw [e1, e2]
        clear e1 e2 r1 J1
        obtain ⟨hpf, ⟨bb, c, hp, hs3, hkc⟩ | ⟨bb, k2, hp, hd3, hle⟩⟩ := hoc
        · have fit := hp.fitB
          have q := (fit.2.2 rfl).1
          have q2 := fit.2.1 (by omega)
          refine A_X8_readBoth hd1 hs3.2.2.2.2.2.1 (by omega) ?_
          exact ih bb (k + c.length + 1) (i + 1) _ (by omega) (hs3.add (by omega)) (by omega) (by omega) (fun I2 ho => hQ I2 (oc_step (L := 3) (by decide) (by decide) hop hpf hp hkc (by omega) (by rw [eT]; exact ho)))
        · have fit := hp.fitB
          have q2 := fit.2.1 (by omega)
          refine A_X8_readBoth hd1 hd3.2.2.2.2.2.1 (by omega) ?_
          exact D_X8_readBoth hd1 (hd3.add (by omega)) (hQ _ (oc_stepX (L := 3) (by decide) hop hpf hp hd3 hle (by omega)))
theorem g_X8_readBoth {l : Launch} {B : Nat → Int32} {n d r : Nat} (hd1 : 2 ≤ d) (hg : G_lev l B n 3 mX8_readCompared d r) : G_lev l B n 4 mX8_readBoth (d + 1) r := by
  intro I J a k hs hka
  have hn120 := hs.2.1
  have hbn0 := hs.2.2.2.1
  refine Ct.of plX8_readBoth (Nat.le_of_ble_eq_true rfl) [.ref 33, .int (nI (6 - r)), .null] rfl ?_
  refine V0_aload_n (pc := 0) dX8_readBoth_0 rfl ?_
  refine V0_iload_n (pc := 1) dX8_readBoth_1 rfl ?_
  refine V_callV (pc := 2) (M' := mX8_readCompared) dX8_readBoth_2 mlX8_59 okX8_readCompared rfl (hg I J a k hs hka) rfl rfl rfl rfl (px_hr (by omega) (by decide)) ⟨Nat.le_refl 0, Nat.le_refl 0⟩ (Nat.le_of_ble_eq_true rfl) ?_
  intro r1 I1 J1 hh
  obtain ⟨e1, e2, hoc⟩ := hh
  rw [e1, e2]
  clear e1 e2 r1 J1
  refine V0_iconst (pc := 5) (0) dX8_readBoth_5 (by decide) ?_
  refine V0_istore_2 (pc := 6) dX8_readBoth_6 (by decide) rfl ?_
  obtain ⟨hpf, ⟨bb, c, hp, hs3, hkc⟩ | ⟨bb, k2, hp, hd3, hle⟩⟩ := hoc
  · have fit := hp.fitB
    have q := (fit.2.2 rfl).1
    exact H_X8_readBoth hd1 hg (n - bb + 1) bb (k + c.length) 0 I1 (by omega) hs3 (by omega) (by omega) (fun I2 ho => ⟨rfl, rfl, oc_lev (L := 3) (by decide) hpf hp hkc ho⟩)
  · exact D_X8_readBoth hd1 hd3 ⟨rfl, rfl, oc_levX (L := 3) (by decide) hpf hp hd3 hle⟩
theorem D_X8_readEither {l : Launch} {B : Nat → Int32} {n d : Nat} {J : px_J} {Q : px_Q} {a k : Nat} {I : px_I} {x w : Int32} (hd1 : 2 ≤ d) (h : pd B n a k I) (hQ : Q none I J) : V0 l (px_rm (d + 1) 0 0) mX8_readEither (false, []) 0 0 7 [.ref 33, .int x, .int w] [] (px_mk I J) (px_q Q) := by
  refine V0_iload_n (pc := 7) dX8_readEither_7 rfl ?_
  refine V0_bipush (pc := 8) (120) dX8_readEither_8 (by decide) ?_
  refine V1_icmp_ge (pc := 10) 44 dX8_readEither_10 (by decide) (fun h10 => ?_) (fun h10 => ?_)
  · skip
    refine V_retv (pc := 44) dX8_readEither_44 rfl ?_
    exact hQ
  · skip
    refine V0_aload_n (pc := 13) dX8_readEither_13 rfl ?_
    refine V0_bipush (pc := 14) (124) dX8_readEither_14 (by decide) ?_
    refine V_callV (pc := 16) (M' := mX8_takes) dX8_readEither_16 mlX8_37 okX8_takes rfl (c_takesD h (by decide) (by decide)) rfl rfl rfl rfl (px_hr (by omega) (by decide)) ⟨Nat.le_refl 0, Nat.le_refl 0⟩ (Nat.le_of_ble_eq_true rfl) ?_
    intro r1 I1 J1 hh
    obtain ⟨e1, e2, e3⟩ := hh
    rw [e1, e2, e3]
    clear e1 e2 e3 r1 I1 J1
    refine V_ifeqb (pc := 19) 44 dX8_readEither_19 (by decide) (fun h19 => ?_) (fun h19 => ?_)
    · skip
      refine V_retv (pc := 44) dX8_readEither_44 rfl ?_
      exact hQ
    · skip
      exact absurd h19 (by decide)
theorem A_X8_readEither {l : Launch} {d : Nat} {J : px_J} {Q : px_Q} {k i : Nat} {I : px_I} {x : Int32} (hd1 : 2 ≤ d) (hk : I 34 4 = nI k) (hk8 : k < 128) (kk : V0 l (px_rm (d + 1) 0 0) mX8_readEither (false, []) 0 0 7 [.ref 33, .int x, .int (nI (i + 1))] [] (px_mk (g_lawAdd I 34 k 124 0) J) (px_q Q)) : V0 l (px_rm (d + 1) 0 0) mX8_readEither (false, []) 0 0 27 [.ref 33, .int x, .int (nI i)] [] (px_mk I J) (px_q Q) := by
  have hk9 : k ≤ 128 := by omega
  refine V0_aload_n (pc := 27) dX8_readEither_27 rfl ?_
  refine V_getr (pc := 28) dX8_readEither_28 flX8_10 rfl rfl ?_
  refine V0_bipush (pc := 31) (124) dX8_readEither_31 (by decide) ?_
  refine V0_iconst (pc := 33) (0) dX8_readEither_33 (by decide) ?_
  refine V_callV (pc := 34) (M' := mX3_add) dX8_readEither_34 mlX8_49 okX3_add rfl (c_X3_add lw34 hk hk9) rfl rfl rfl rfl (px_hr (by omega) (by decide)) ⟨Nat.le_refl 0, Nat.le_refl 0⟩ (Nat.le_of_ble_eq_true rfl) ?_
  intro r1 I1 J1 hh
  obtain ⟨e1, e2, e3⟩ := hh
  rw [e1, e2, e3]
  clear e1 e2 e3 r1 I1 J1
  refine V0_pop (pc := 37) dX8_readEither_37 rfl ?_
  refine V0_iinc_2 (pc := 38) (nI (i + 1)) dX8_readEither_38 (by decide) rfl (nI_1 _) ?_
  refine V0_goto (pc := 41) 7 dX8_readEither_41 (by decide) ?_
  exact kk
theorem H_X8_readEither {l : Launch} {B : Nat → Int32} {n d r : Nat} {J : px_J} {Q : px_Q} (hd1 : 2 ≤ d) (hg : G_lev l B n 4 mX8_readBoth d r) : ∀ (f b k i : Nat) (Ia : px_I), n - b < f → ps B n b k Ia → k ≤ b → i ≤ b → (∀ I2, oc B n (11 + 4) r b k Ia I2 → Q none I2 J) → V0 l (px_rm (d + 1) 0 0) mX8_readEither (false, []) 0 0 7 [.ref 33, .int (nI (6 - r)), .int (nI i)] [] (px_mk Ia J) (px_q Q) := by
  intro f
  induction f with
  | zero => intro b k i Ia h1; omega
  | succ f ih =>
    intro b k i Ia h1 hs hkb hib hQ
    have hn120 := hs.2.1
    have hbn0 := hs.2.2.2.1
    refine V0_iload_n (pc := 7) dX8_readEither_7 rfl ?_
    refine V0_bipush (pc := 8) (120) dX8_readEither_8 (by decide) ?_
    refine V1_icmp_ge (pc := 10) 44 dX8_readEither_10 (by decide) (fun h10 => ?_) (fun h10 => ?_)
    · skip
      refine V_retv (pc := 44) dX8_readEither_44 rfl ?_
      first | (rw [if_neg (of_decide_eq_false h19)]; exact hQ _ (oc_stop (by decide) (show T_op (4 + 1) _ = false from h19) hs)) | exact hQ _ (oc_stop (by decide) (by rw [g_T_end b (by have := px_ge (b := 120) h10 (by omega) (by omega); omega)]; decide) hs)
    · skip
      refine V0_aload_n (pc := 13) dX8_readEither_13 rfl ?_
      refine V0_bipush (pc := 14) (124) dX8_readEither_14 (by decide) ?_
      refine V_callV (pc := 16) (M' := mX8_takes) dX8_readEither_16 mlX8_37 okX8_takes rfl (c_takesT hs) rfl rfl rfl rfl (px_hr (by omega) (by decide)) ⟨Nat.le_refl 0, Nat.le_refl 0⟩ (Nat.le_of_ble_eq_true rfl) ?_
      intro r1 I1 J1 hh
      obtain ⟨e1, e2, e3⟩ := hh
      rw [e1, e2, e3]
      clear e1 e2 e3 r1 I1 J1
      refine V_ifeqb (pc := 19) 44 dX8_readEither_19 (by decide) (fun h19 => ?_) (fun h19 => ?_)
      · skip
        refine V_retv (pc := 44) dX8_readEither_44 rfl ?_
        first | (rw [if_neg (of_decide_eq_false h19)]; exact hQ _ (oc_stop (by decide) (show T_op (4 + 1) _ = false from h19) hs)) | exact hQ _ (oc_stop (by decide) (by rw [g_T_end b (by have := px_ge (b := 120) h10 (by omega) (by omega); omega)]; decide) hs)
      · skip
        rw [if_pos (of_decide_eq_true h19)]
        have eT : g_T B n b = 124 := of_decide_eq_true h19
        have hop : T_op (4 + 1) (g_T B n b) = true := by rw [eT]; decide
        have hbn := hs.lt (T_op_neg hop)
        have hs2 := hs.adv hbn
        refine V0_aload_n (pc := 22) dX8_readEither_22 rfl ?_
        refine V0_iload_n (pc := 23) dX8_readEither_23 rfl ?_
        refine V_callV (pc := 24) (M' := mX8_readBoth) dX8_readEither_24 mlX8_56 okX8_readBoth rfl (hg _ J (b + 1) k hs2 (by omega)) rfl rfl rfl rfl (px_hr (by omega) (by decide)) ⟨Nat.le_refl 0, Nat.le_refl 0⟩ (Nat.le_of_ble_eq_true rfl) ?_
        intro r1 I1 J1 hh
        obtain ⟨e1, e2, hoc⟩ := hh
        rw [e1, e2]
        clear e1 e2 r1 J1
        obtain ⟨hpf, ⟨bb, c, hp, hs3, hkc⟩ | ⟨bb, k2, hp, hd3, hle⟩⟩ := hoc
        · have fit := hp.fitB
          have q := (fit.2.2 rfl).1
          have q2 := fit.2.1 (by omega)
          refine A_X8_readEither hd1 hs3.2.2.2.2.2.1 (by omega) ?_
          exact ih bb (k + c.length + 1) (i + 1) _ (by omega) (hs3.add (by omega)) (by omega) (by omega) (fun I2 ho => hQ I2 (oc_step (L := 4) (by decide) (by decide) hop hpf hp hkc (by omega) (by rw [eT]; exact ho)))
        · have fit := hp.fitB
          have q2 := fit.2.1 (by omega)
          refine A_X8_readEither hd1 hd3.2.2.2.2.2.1 (by omega) ?_
          exact D_X8_readEither hd1 (hd3.add (by omega)) (hQ _ (oc_stepX (L := 4) (by decide) hop hpf hp hd3 hle (by omega)))
theorem g_X8_readEither {l : Launch} {B : Nat → Int32} {n d r : Nat} (hd1 : 2 ≤ d) (hg : G_lev l B n 4 mX8_readBoth d r) : G_lev l B n 5 mX8_readEither (d + 1) r := by
  intro I J a k hs hka
  have hn120 := hs.2.1
  have hbn0 := hs.2.2.2.1
  refine Ct.of plX8_readEither (Nat.le_of_ble_eq_true rfl) [.ref 33, .int (nI (6 - r)), .null] rfl ?_
  refine V0_aload_n (pc := 0) dX8_readEither_0 rfl ?_
  refine V0_iload_n (pc := 1) dX8_readEither_1 rfl ?_
  refine V_callV (pc := 2) (M' := mX8_readBoth) dX8_readEither_2 mlX8_56 okX8_readBoth rfl (hg I J a k hs hka) rfl rfl rfl rfl (px_hr (by omega) (by decide)) ⟨Nat.le_refl 0, Nat.le_refl 0⟩ (Nat.le_of_ble_eq_true rfl) ?_
  intro r1 I1 J1 hh
  obtain ⟨e1, e2, hoc⟩ := hh
  rw [e1, e2]
  clear e1 e2 r1 J1
  refine V0_iconst (pc := 5) (0) dX8_readEither_5 (by decide) ?_
  refine V0_istore_2 (pc := 6) dX8_readEither_6 (by decide) rfl ?_
  obtain ⟨hpf, ⟨bb, c, hp, hs3, hkc⟩ | ⟨bb, k2, hp, hd3, hle⟩⟩ := hoc
  · have fit := hp.fitB
    have q := (fit.2.2 rfl).1
    exact H_X8_readEither hd1 hg (n - bb + 1) bb (k + c.length) 0 I1 (by omega) hs3 (by omega) (by omega) (fun I2 ho => ⟨rfl, rfl, oc_lev (L := 4) (by decide) hpf hp hkc ho⟩)
  · exact D_X8_readEither hd1 hd3 ⟨rfl, rfl, oc_levX (L := 4) (by decide) hpf hp hd3 hle⟩
theorem D_X8_readCompared {l : Launch} {B : Nat → Int32} {n d : Nat} {J : px_J} {Q : px_Q} {a k : Nat} {I : px_I} {x : Int32} {v : Value} (hd1 : 2 ≤ d) (h : pd B n a k I) (hQ : Q none I J) : V0 l (px_rm (d + 1) 0 0) mX8_readCompared (false, []) 0 0 5 [.ref 33, .int x, v] [] (px_mk I J) (px_q Q) := by
  refine V0_aload_n (pc := 5) dX8_readCompared_5 rfl ?_
  refine V_callVi (pc := 6) (M' := mX8_next) dX8_readCompared_6 mlX8_41 okX8_next rfl (c_nextD h) rfl rfl rfl rfl (px_hr (by omega) (by decide)) ⟨Nat.le_refl 0, Nat.le_refl 0⟩ (Nat.le_of_ble_eq_true rfl) ?_
  refine V0_istore_2 (pc := 9) dX8_readCompared_9 (by decide) rfl ?_
  refine V0_iload_n (pc := 10) dX8_readCompared_10 rfl ?_
  refine V0_bipush (pc := 11) (60) dX8_readCompared_11 (by decide) ?_
  refine V0_icmp_eq (pc := 13) 28 dX8_readCompared_13 (by decide) (fun h13 => ?_) (fun h13 => ?_)
  · skip
    exact absurd h13 (h.ne (by decide) (by decide))
  · skip
    refine V0_iload_n (pc := 16) dX8_readCompared_16 rfl ?_
    refine V0_bipush (pc := 17) (61) dX8_readCompared_17 (by decide) ?_
    refine V0_icmp_eq (pc := 19) 28 dX8_readCompared_19 (by decide) (fun h19 => ?_) (fun h19 => ?_)
    · skip
      exact absurd h19 (h.ne (by decide) (by decide))
    · skip
      refine V0_iload_n (pc := 22) dX8_readCompared_22 rfl ?_
      refine V0_bipush (pc := 23) (62) dX8_readCompared_23 (by decide) ?_
      refine V0_icmp_ne (pc := 25) 53 dX8_readCompared_25 (by decide) (fun h25 => ?_) (fun h25 => ?_)
      · skip
        refine V_retv (pc := 53) dX8_readCompared_53 rfl ?_
        exact hQ
      · skip
        exact absurd h25 (h.ne (by decide) (by decide))
theorem A_X8_readCompared {l : Launch} {d : Nat} {J : px_J} {Q : px_Q} {k : Nat} {I : px_I} {x s : Int32} (hd1 : 2 ≤ d) (hk : I 34 4 = nI k) (hk8 : k < 128) (hQ : Q none (g_lawAdd I 34 k s 0) J) : V0 l (px_rm (d + 1) 0 0) mX8_readCompared (false, []) 0 0 43 [.ref 33, .int x, .int s] [] (px_mk I J) (px_q Q) := by
  have hk9 : k ≤ 128 := by omega
  refine V0_aload_n (pc := 43) dX8_readCompared_43 rfl ?_
  refine V_getr (pc := 44) dX8_readCompared_44 flX8_10 rfl rfl ?_
  refine V0_iload_n (pc := 47) dX8_readCompared_47 rfl ?_
  refine V0_iconst (pc := 48) (0) dX8_readCompared_48 (by decide) ?_
  refine V_callV (pc := 49) (M' := mX3_add) dX8_readCompared_49 mlX8_49 okX3_add rfl (c_X3_add lw34 hk hk9) rfl rfl rfl rfl (px_hr (by omega) (by decide)) ⟨Nat.le_refl 0, Nat.le_refl 0⟩ (Nat.le_of_ble_eq_true rfl) ?_
  intro r1 I1 J1 hh
  obtain ⟨e1, e2, e3⟩ := hh
  rw [e1, e2, e3]
  clear e1 e2 e3 r1 I1 J1
  refine V0_pop (pc := 52) dX8_readCompared_52 rfl ?_
  refine V_retv (pc := 53) dX8_readCompared_53 rfl ?_
  exact hQ
theorem H_X8_readCompared {l : Launch} {B : Nat → Int32} {n d r : Nat} {J : px_J} {Q : px_Q} {b k : Nat} {Ia : px_I} {v : Value} (hd1 : 2 ≤ d) (hg : G_lev l B n 2 mX8_readSum d r) (hs : ps B n b k Ia) (hkb : k ≤ b) (hQ : ∀ I2, oc B n (11 + 2) r b k Ia I2 → Q none I2 J) : V0 l (px_rm (d + 1) 0 0) mX8_readCompared (false, []) 0 0 5 [.ref 33, .int (nI (6 - r)), v] [] (px_mk Ia J) (px_q Q) := by
  have hn120 := hs.2.1
  have hbn0 := hs.2.2.2.1
  refine V0_aload_n (pc := 5) dX8_readCompared_5 rfl ?_
  refine V_callVi (pc := 6) (M' := mX8_next) dX8_readCompared_6 mlX8_41 okX8_next rfl (c_nextT hs) rfl rfl rfl rfl (px_hr (by omega) (by decide)) ⟨Nat.le_refl 0, Nat.le_refl 0⟩ (Nat.le_of_ble_eq_true rfl) ?_
  refine V0_istore_2 (pc := 9) dX8_readCompared_9 (by decide) rfl ?_
  refine V0_iload_n (pc := 10) dX8_readCompared_10 rfl ?_
  refine V0_bipush (pc := 11) (60) dX8_readCompared_11 (by decide) ?_
  refine V0_icmp_eq (pc := 13) 28 dX8_readCompared_13 (by decide) (fun h13 => ?_) (fun h13 => ?_)
  · skip
    have hop : T_op (2 + 1) (g_T B n b) = true := by first | (rw [h13]; decide) | (rw [h19]; decide) | (rw [h25]; decide)
    have hbn := hs.lt (T_op_neg hop)
    have hs2 := hs.adv hbn
    refine V0_aload_n (pc := 28) dX8_readCompared_28 rfl ?_
    refine V0_dup (pc := 29) dX8_readCompared_29 rfl ?_
    refine V_geti (pc := 30) dX8_readCompared_30 flX8_24 rfl rfl ?_
    refine V0_iconst (pc := 33) (1) dX8_readCompared_33 (by decide) ?_
    refine V0_iadd (pc := 34) dX8_readCompared_34 ?_
    rw [hs.2.2.1, nI_1]
    refine V_puti (pc := 35) dX8_readCompared_35 flX8_24 rfl rfl ?_
    refine V0_aload_n (pc := 38) dX8_readCompared_38 rfl ?_
    refine V0_iload_n (pc := 39) dX8_readCompared_39 rfl ?_
    refine V_callV (pc := 40) (M' := mX8_readSum) dX8_readCompared_40 mlX8_62 okX8_readSum rfl (hg _ J (b + 1) k hs2 (by omega)) rfl rfl rfl rfl (px_hr (by omega) (by decide)) ⟨Nat.le_refl 0, Nat.le_refl 0⟩ (Nat.le_of_ble_eq_true rfl) ?_
    intro r1 I1 J1 hh
    obtain ⟨e1, e2, hoc⟩ := hh
    rw [e1, e2]
    clear e1 e2 r1 J1
    obtain ⟨hpf, ⟨bb, c, hp, hs3, hkc⟩ | ⟨bb, k2, hp, hd3, hle⟩⟩ := hoc
    · have fit := hp.fitB
      have q := (fit.2.2 rfl).1
      have q2 := fit.2.1 (by omega)
      exact A_X8_readCompared hd1 hs3.2.2.2.2.2.1 (by omega) (hQ _ (oc_once hop hpf hp hkc hs3 (by omega)))
    · have fit := hp.fitB
      have q2 := fit.2.1 (by omega)
      exact A_X8_readCompared hd1 hd3.2.2.2.2.2.1 (by omega) (hQ _ (oc_stepX (L := 2) (by decide) hop hpf hp hd3 hle (by omega)))
  · skip
    refine V0_iload_n (pc := 16) dX8_readCompared_16 rfl ?_
    refine V0_bipush (pc := 17) (61) dX8_readCompared_17 (by decide) ?_
    refine V0_icmp_eq (pc := 19) 28 dX8_readCompared_19 (by decide) (fun h19 => ?_) (fun h19 => ?_)
    · skip
      have hop : T_op (2 + 1) (g_T B n b) = true := by first | (rw [h13]; decide) | (rw [h19]; decide) | (rw [h25]; decide)
      have hbn := hs.lt (T_op_neg hop)
      have hs2 := hs.adv hbn
      refine V0_aload_n (pc := 28) dX8_readCompared_28 rfl ?_
      refine V0_dup (pc := 29) dX8_readCompared_29 rfl ?_
      refine V_geti (pc := 30) dX8_readCompared_30 flX8_24 rfl rfl ?_
      refine V0_iconst (pc := 33) (1) dX8_readCompared_33 (by decide) ?_
      refine V0_iadd (pc := 34) dX8_readCompared_34 ?_
      rw [hs.2.2.1, nI_1]
      refine V_puti (pc := 35) dX8_readCompared_35 flX8_24 rfl rfl ?_
      refine V0_aload_n (pc := 38) dX8_readCompared_38 rfl ?_
      refine V0_iload_n (pc := 39) dX8_readCompared_39 rfl ?_
      refine V_callV (pc := 40) (M' := mX8_readSum) dX8_readCompared_40 mlX8_62 okX8_readSum rfl (hg _ J (b + 1) k hs2 (by omega)) rfl rfl rfl rfl (px_hr (by omega) (by decide)) ⟨Nat.le_refl 0, Nat.le_refl 0⟩ (Nat.le_of_ble_eq_true rfl) ?_
      intro r1 I1 J1 hh
      obtain ⟨e1, e2, hoc⟩ := hh
      rw [e1, e2]
      clear e1 e2 r1 J1
      obtain ⟨hpf, ⟨bb, c, hp, hs3, hkc⟩ | ⟨bb, k2, hp, hd3, hle⟩⟩ := hoc
      · have fit := hp.fitB
        have q := (fit.2.2 rfl).1
        have q2 := fit.2.1 (by omega)
        exact A_X8_readCompared hd1 hs3.2.2.2.2.2.1 (by omega) (hQ _ (oc_once hop hpf hp hkc hs3 (by omega)))
      · have fit := hp.fitB
        have q2 := fit.2.1 (by omega)
        exact A_X8_readCompared hd1 hd3.2.2.2.2.2.1 (by omega) (hQ _ (oc_stepX (L := 2) (by decide) hop hpf hp hd3 hle (by omega)))
    · skip
      refine V0_iload_n (pc := 22) dX8_readCompared_22 rfl ?_
      refine V0_bipush (pc := 23) (62) dX8_readCompared_23 (by decide) ?_
      refine V0_icmp_ne (pc := 25) 53 dX8_readCompared_25 (by decide) (fun h25 => ?_) (fun h25 => ?_)
      · skip
        refine V_retv (pc := 53) dX8_readCompared_53 rfl ?_
        exact hQ _ (oc_stop (L := 2) (by decide) (by show (decide (g_T B n b = 60) || (decide (g_T B n b = 61) || decide (g_T B n b = 62))) = false; rw [decide_eq_false h13, decide_eq_false h19, decide_eq_false h25]; rfl) hs)
      · skip
        have hop : T_op (2 + 1) (g_T B n b) = true := by first | (rw [h13]; decide) | (rw [h19]; decide) | (rw [h25]; decide)
        have hbn := hs.lt (T_op_neg hop)
        have hs2 := hs.adv hbn
        refine V0_aload_n (pc := 28) dX8_readCompared_28 rfl ?_
        refine V0_dup (pc := 29) dX8_readCompared_29 rfl ?_
        refine V_geti (pc := 30) dX8_readCompared_30 flX8_24 rfl rfl ?_
        refine V0_iconst (pc := 33) (1) dX8_readCompared_33 (by decide) ?_
        refine V0_iadd (pc := 34) dX8_readCompared_34 ?_
        rw [hs.2.2.1, nI_1]
        refine V_puti (pc := 35) dX8_readCompared_35 flX8_24 rfl rfl ?_
        refine V0_aload_n (pc := 38) dX8_readCompared_38 rfl ?_
        refine V0_iload_n (pc := 39) dX8_readCompared_39 rfl ?_
        refine V_callV (pc := 40) (M' := mX8_readSum) dX8_readCompared_40 mlX8_62 okX8_readSum rfl (hg _ J (b + 1) k hs2 (by omega)) rfl rfl rfl rfl (px_hr (by omega) (by decide)) ⟨Nat.le_refl 0, Nat.le_refl 0⟩ (Nat.le_of_ble_eq_true rfl) ?_
        intro r1 I1 J1 hh
        obtain ⟨e1, e2, hoc⟩ := hh
        rw [e1, e2]
        clear e1 e2 r1 J1
        obtain ⟨hpf, ⟨bb, c, hp, hs3, hkc⟩ | ⟨bb, k2, hp, hd3, hle⟩⟩ := hoc
        · have fit := hp.fitB
          have q := (fit.2.2 rfl).1
          have q2 := fit.2.1 (by omega)
          exact A_X8_readCompared hd1 hs3.2.2.2.2.2.1 (by omega) (hQ _ (oc_once hop hpf hp hkc hs3 (by omega)))
        · have fit := hp.fitB
          have q2 := fit.2.1 (by omega)
          exact A_X8_readCompared hd1 hd3.2.2.2.2.2.1 (by omega) (hQ _ (oc_stepX (L := 2) (by decide) hop hpf hp hd3 hle (by omega)))
theorem g_X8_readCompared {l : Launch} {B : Nat → Int32} {n d r : Nat} (hd1 : 2 ≤ d) (hg : G_lev l B n 2 mX8_readSum d r) : G_lev l B n 3 mX8_readCompared (d + 1) r := by
  intro I J a k hs hka
  refine Ct.of plX8_readCompared (Nat.le_of_ble_eq_true rfl) [.ref 33, .int (nI (6 - r)), .null] rfl ?_
  refine V0_aload_n (pc := 0) dX8_readCompared_0 rfl ?_
  refine V0_iload_n (pc := 1) dX8_readCompared_1 rfl ?_
  refine V_callV (pc := 2) (M' := mX8_readSum) dX8_readCompared_2 mlX8_62 okX8_readSum rfl (hg I J a k hs hka) rfl rfl rfl rfl (px_hr (by omega) (by decide)) ⟨Nat.le_refl 0, Nat.le_refl 0⟩ (Nat.le_of_ble_eq_true rfl) ?_
  intro r1 I1 J1 hh
  obtain ⟨e1, e2, hoc⟩ := hh
  rw [e1, e2]
  clear e1 e2 r1 J1
  obtain ⟨hpf, ⟨bb, c, hp, hs3, hkc⟩ | ⟨bb, k2, hp, hd3, hle⟩⟩ := hoc
  · have fit := hp.fitB
    have q := (fit.2.2 rfl).1
    exact H_X8_readCompared hd1 hg hs3 (by omega) (fun I2 ho => ⟨rfl, rfl, oc_lev (L := 2) (by decide) hpf hp hkc ho⟩)
  · exact D_X8_readCompared hd1 hd3 ⟨rfl, rfl, oc_levX (L := 2) (by decide) hpf hp hd3 hle⟩

