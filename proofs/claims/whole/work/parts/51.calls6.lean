/-! the last calls -/
theorem c_X11_byTurns {l : Launch} {I : px_I} {J : px_J} {x w : Int32} {m : Nat} (hm : I 1 6 = nI m) (hm7 : m ≤ 7) : Ct l mX11_byTurns 21 [.ref 0, .int x, .int w] I J (fun r I' J' => r = some (.int (if s_within x 1 4 = true ∧ s_within w 0 1 = true then (if w = 0 then (v_tb I m (ix x - 1) m).1 else (v_tb I m (ix x - 1) m).2) else -2000000000)) ∧ (∀ q, q ≠ 48 → q ≠ 49 → I' q = I q) ∧ J' = J) := by
  refine Ct.of plX11_byTurns (Nat.le_of_ble_eq_true rfl) [.ref 0, .int x, .int w] rfl ?_
  refine V0_iload_n (pc := 0) dX11_byTurns_0 rfl ?_
  refine V0_iconst (pc := 1) (1) dX11_byTurns_1 (by decide) ?_
  refine V0_iconst (pc := 2) (4) dX11_byTurns_2 (by decide) ?_
  refine V_callSi (pc := 3) (M' := mX11_isWithin) dX11_byTurns_3 mlX11_99 okX11_isWithin rfl c_X11_isWithin rfl rfl ⟨Nat.le_of_ble_eq_true rfl, Nat.le_of_ble_eq_true rfl⟩ ⟨Nat.le_refl 0, Nat.le_refl 0⟩ (Nat.le_of_ble_eq_true rfl) ?_
  refine V_ifeqb (pc := 6) 18 dX11_byTurns_6 (by decide) (fun h6 => ?_) (fun h6 => ?_)
  · skip
    have z : ¬ (s_within x 1 4 = true ∧ s_within w 0 1 = true) := by first | exact (fun q => absurd (q.1.symm.trans (show s_within x 1 4 = false from h6)) (by decide)) | exact (fun q => absurd (q.2.symm.trans (show s_within w 0 1 = false from h15)) (by decide))
    refine V0_ldcw (pc := 18) dX11_byTurns_18 csX11_264 ?_
    refine V_reti (pc := 21) _ dX11_byTurns_21 rfl ?_
    first | exact ⟨by rw [if_neg z], fun q _ _ => rfl, rfl⟩ | exact ⟨by rw [if_pos z, if_pos h31], hfr, rfl⟩ | exact ⟨by rw [if_pos z, if_neg h31], hfr, rfl⟩
  · skip
    refine V0_iload_n (pc := 9) dX11_byTurns_9 rfl ?_
    refine V0_iconst (pc := 10) (0) dX11_byTurns_10 (by decide) ?_
    refine V0_iconst (pc := 11) (1) dX11_byTurns_11 (by decide) ?_
    refine V_callSi (pc := 12) (M' := mX11_isWithin) dX11_byTurns_12 mlX11_99 okX11_isWithin rfl c_X11_isWithin rfl rfl ⟨Nat.le_of_ble_eq_true rfl, Nat.le_of_ble_eq_true rfl⟩ ⟨Nat.le_refl 0, Nat.le_refl 0⟩ (Nat.le_of_ble_eq_true rfl) ?_
    refine V_ifneb (pc := 15) 22 dX11_byTurns_15 (by decide) (fun h15 => ?_) (fun h15 => ?_)
    · skip
      have z : s_within x 1 4 = true ∧ s_within w 0 1 = true := ⟨h6, h15⟩
      have hx := s_win (a := 1) (b := 4) h6 (by omega) (by omega)
      have hc := c_X10_playTurns (l := l) (J := J) (k := ix x - 1) hm hm7 (by omega)
      rw [show ix x - 1 + 1 = ix x by omega, ← hx.1] at hc
      refine V0_aload_n (pc := 22) dX11_byTurns_22 rfl ?_
      refine V_getr (pc := 23) dX11_byTurns_23 flX11_84 rfl rfl ?_
      refine V0_iload_n (pc := 26) dX11_byTurns_26 rfl ?_
      refine V_callV (pc := 27) (M' := mX10_playTurns) dX11_byTurns_27 mlX11_265 okX10_playTurns rfl hc rfl rfl rfl rfl ⟨Nat.le_of_ble_eq_true rfl, Nat.le_of_ble_eq_true rfl⟩ ⟨Nat.le_refl 0, Nat.le_refl 0⟩ (Nat.le_of_ble_eq_true rfl) ?_
      intro r1 I1 J1 hh
      obtain ⟨e1, hfr, hb1, hb2, e3⟩ := hh
      rw [e1, e3]
      clear e1 e3 r1 J1
      refine V0_iload_n (pc := 30) dX11_byTurns_30 rfl ?_
      refine V0_if_ne (pc := 31) 44 dX11_byTurns_31 (by decide) (fun h31 => ?_) (fun h31 => ?_)
      · skip
        refine V0_aload_n (pc := 44) dX11_byTurns_44 rfl ?_
        refine V_getr (pc := 45) dX11_byTurns_45 flX11_84 rfl rfl ?_
        refine V_geti (pc := 48) dX11_byTurns_48 flX11_271 rfl rfl ?_
        first | rw [hb2] | skip
        refine V_reti (pc := 51) _ dX11_byTurns_51 rfl ?_
        first | exact ⟨by rw [if_neg z], fun q _ _ => rfl, rfl⟩ | exact ⟨by rw [if_pos z, if_pos h31], hfr, rfl⟩ | exact ⟨by rw [if_pos z, if_neg h31], hfr, rfl⟩
      · skip
        refine V0_aload_n (pc := 34) dX11_byTurns_34 rfl ?_
        refine V_getr (pc := 35) dX11_byTurns_35 flX11_84 rfl rfl ?_
        refine V_geti (pc := 38) dX11_byTurns_38 flX11_268 rfl rfl ?_
        rw [hb1]
        refine V0_goto (pc := 41) 51 dX11_byTurns_41 (by decide) ?_
        first | rw [hb2] | skip
        refine V_reti (pc := 51) _ dX11_byTurns_51 rfl ?_
        first | exact ⟨by rw [if_neg z], fun q _ _ => rfl, rfl⟩ | exact ⟨by rw [if_pos z, if_pos h31], hfr, rfl⟩ | exact ⟨by rw [if_pos z, if_neg h31], hfr, rfl⟩
    · skip
      have z : ¬ (s_within x 1 4 = true ∧ s_within w 0 1 = true) := by first | exact (fun q => absurd (q.1.symm.trans (show s_within x 1 4 = false from h6)) (by decide)) | exact (fun q => absurd (q.2.symm.trans (show s_within w 0 1 = false from h15)) (by decide))
      refine V0_ldcw (pc := 18) dX11_byTurns_18 csX11_264 ?_
      refine V_reti (pc := 21) _ dX11_byTurns_21 rfl ?_
      first | exact ⟨by rw [if_neg z], fun q _ _ => rfl, rfl⟩ | exact ⟨by rw [if_pos z, if_pos h31], hfr, rfl⟩ | exact ⟨by rw [if_pos z, if_neg h31], hfr, rfl⟩
def g_who (I : px_I) (J : px_J) (x : Int32) (m n : Nat) : Nat → Int32
  | 0 => 0
  | k + 1 => if t_unl I J x m n k = -2 then g_who I J x m n k ||| ((1 : Int32) <<< (nI k &&& 31)) else g_who I J x m n k
theorem lp_X11_who {l : Launch} {I : px_I} {J : px_J} {x rr : Int32} {m n : Nat} (hk : px_ok0 I m n) (hr : px_rows I) : ∀ (f k : Nat) (S : px_I), m + 1 - k ≤ f → k ≤ m → px_sc I S → V0 l (px_rm 5 0 0) mX11_who (false, []) 0 0 20 [.ref 0, .int x, .int rr, .int (g_who I J x m n k), .int (nI k)] [] (px_mk S J) (px_q (fun r I' J' => r = some (.int (g_who I J x m n m)) ∧ px_sc I I' ∧ J' = J)) := by
  intro f
  induction f with
  | zero => intro k S h1 h2; omega
  | succ f ih =>
    intro k S h1 h2 hs
    have hok : px_ok0 S m n := hk.of (hs 1 (by omega)).symm (hs 2 (by omega)).symm
    have hrr : px_rows S := by unfold px_rows; rw [← hs 20 (by omega), ← hs 21 (by omega)]; exact hr
    have hm := hok.1
    have hm7 := hok.2.1
    refine V0_iload (pc := 20) dX11_who_20 rfl ?_
    refine V0_aload_n (pc := 22) dX11_who_22 rfl ?_
    refine V_getr (pc := 23) dX11_who_23 flX11_26 rfl rfl ?_
    refine V_geti (pc := 26) dX11_who_26 flX11_103 rfl rfl ?_
    rw [hm]
    refine V1_icmp_ge (pc := 29) 60 dX11_who_29 (by decide) (fun h29 => ?_) (fun h29 => ?_)
    · skip
      have hkm : k = m := by have := px_ge h29 (by omega) (by omega); omega
      subst hkm
      refine V0_iload_n (pc := 60) dX11_who_60 rfl ?_
      refine V_reti (pc := 61) _ dX11_who_61 rfl ?_
      exact ⟨rfl, hs, rfl⟩
    · skip
      have hkm := px_lt h29 (by omega) (by omega)
      refine V0_aload_n (pc := 32) dX11_who_32 rfl ?_
      refine V_getr (pc := 33) dX11_who_33 flX11_77 rfl rfl ?_
      refine V0_iload_n (pc := 36) dX11_who_36 rfl ?_
      refine V0_iload (pc := 37) dX11_who_37 rfl ?_
      refine V_callV (pc := 39) (M' := mX9_firstUnlike) dX11_who_39 mlX11_242 okX9_firstUnlike rfl (c_X9_firstUnlike hok (by omega) hrr) rfl rfl rfl rfl ⟨Nat.le_of_ble_eq_true rfl, Nat.le_of_ble_eq_true rfl⟩ ⟨Nat.le_refl 0, Nat.le_refl 0⟩ (Nat.le_of_ble_eq_true rfl) ?_
      intro r1 I1 J1 hh
      obtain ⟨e1, ⟨i1, e2⟩, e3⟩ := hh
      rw [e1, e2, e3]
      clear e1 e2 e3 r1 I1 J1
      rw [← t_unl_congr hk hkm hs]
      refine V0_bipush (pc := 42) (-2) dX11_who_42 (by decide) ?_
      refine V0_icmp_ne (pc := 44) 54 dX11_who_44 (by decide) (fun h44 => ?_) (fun h44 => ?_)
      · skip
        refine V0_iinc_4 (pc := 54) (nI (k + 1)) dX11_who_54 (by decide) rfl (nI_1 _) ?_
        refine V0_goto (pc := 57) 20 dX11_who_57 (by decide) ?_
        first | exact V_ls (by rw [g_who, if_pos h44]) (ih (k + 1) _ (by omega) (by omega) ((hs.start).days)) | exact V_ls (by rw [g_who, if_neg h44]) (ih (k + 1) _ (by omega) (by omega) ((hs.start).days))
      · skip
        refine V0_iload_n (pc := 47) dX11_who_47 rfl ?_
        refine V0_iconst (pc := 48) (1) dX11_who_48 (by decide) ?_
        refine V0_iload (pc := 49) dX11_who_49 rfl ?_
        refine V0_ishl (pc := 51) dX11_who_51 ?_
        refine V0_ior (pc := 52) dX11_who_52 ?_
        refine V0_istore_3 (pc := 53) dX11_who_53 (by decide) rfl ?_
        refine V0_iinc_4 (pc := 54) (nI (k + 1)) dX11_who_54 (by decide) rfl (nI_1 _) ?_
        refine V0_goto (pc := 57) 20 dX11_who_57 (by decide) ?_
        first | exact V_ls (by rw [g_who, if_pos h44]) (ih (k + 1) _ (by omega) (by omega) ((hs.start).days)) | exact V_ls (by rw [g_who, if_neg h44]) (ih (k + 1) _ (by omega) (by omega) ((hs.start).days))
theorem c_X11_who {l : Launch} {I : px_I} {J : px_J} {x : Int32} {m n : Nat} (hk : px_ok0 I m n) (hr : px_rows I) : Ct l mX11_who 5 [.ref 0, .int x] I J (fun r I' J' => r = some (.int (if g_refBytes I x = 0 then g_who I J x m n m else g_refBytes I x)) ∧ px_sc I I' ∧ J' = J) := by
  refine Ct.of plX11_who (Nat.le_of_ble_eq_true rfl) [.ref 0, .int x, .null, .null, .null] rfl ?_
  refine V0_aload_n (pc := 0) dX11_who_0 rfl ?_
  refine V_getr (pc := 1) dX11_who_1 flX11_95 rfl rfl ?_
  refine V0_iload_n (pc := 4) dX11_who_4 rfl ?_
  refine V_callVi (pc := 5) (M' := mX5_refuseBytes) dX11_who_5 mlX11_122 okX5_refuseBytes rfl c_X5_refuseBytes rfl rfl rfl rfl ⟨Nat.le_of_ble_eq_true rfl, Nat.le_of_ble_eq_true rfl⟩ ⟨Nat.le_refl 0, Nat.le_refl 0⟩ (Nat.le_of_ble_eq_true rfl) ?_
  refine V0_istore_2 (pc := 8) dX11_who_8 (by decide) rfl ?_
  refine V0_iload_n (pc := 9) dX11_who_9 rfl ?_
  refine V0_if_eq (pc := 10) 15 dX11_who_10 (by decide) (fun h10 => ?_) (fun h10 => ?_)
  · skip
    refine V0_iconst (pc := 15) (0) dX11_who_15 (by decide) ?_
    refine V0_istore_3 (pc := 16) dX11_who_16 (by decide) rfl ?_
    refine V0_iconst (pc := 17) (0) dX11_who_17 (by decide) ?_
    refine V0_istore_4 (pc := 18) dX11_who_18 (by decide) rfl ?_
    rw [if_pos h10]
    exact lp_X11_who hk hr (m + 1) 0 I (by omega) (by omega) px_sc.rf
  · skip
    refine V0_iload_n (pc := 13) dX11_who_13 rfl ?_
    refine V_reti (pc := 14) _ dX11_who_14 rfl ?_
    exact ⟨by rw [if_neg h10], px_sc.rf, rfl⟩
theorem c_X11_element {l : Launch} {I : px_I} {J : px_J} {x i : Int32} (hr : px_rows I) : CtL l mX11_element 4 [.ref 0, .int x, .int i] I J (if g_refPlace I x i = 0 then g_cell I J x i else -9223372036854775808) := by
  refine Ct.of plX11_element (Nat.le_of_ble_eq_true rfl) [.ref 0, .int x, .int i] rfl ?_
  refine V0_aload_n (pc := 0) dX11_element_0 rfl ?_
  refine V_getr (pc := 1) dX11_element_1 flX11_95 rfl rfl ?_
  refine V0_iload_n (pc := 4) dX11_element_4 rfl ?_
  refine V0_iload_n (pc := 5) dX11_element_5 rfl ?_
  refine V_callVi (pc := 6) (M' := mX5_refusePlace) dX11_element_6 mlX11_337 okX5_refusePlace rfl c_X5_refusePlace rfl rfl rfl rfl ⟨Nat.le_of_ble_eq_true rfl, Nat.le_of_ble_eq_true rfl⟩ ⟨Nat.le_refl 0, Nat.le_refl 0⟩ (Nat.le_of_ble_eq_true rfl) ?_
  refine V0_if_eq (pc := 9) 18 dX11_element_9 (by decide) (fun h9 => ?_) (fun h9 => ?_)
  · skip
    refine V0_aload_n (pc := 18) dX11_element_18 rfl ?_
    refine V_getr (pc := 19) dX11_element_19 flX11_95 rfl rfl ?_
    refine V0_iload_n (pc := 22) dX11_element_22 rfl ?_
    refine V0_iload_n (pc := 23) dX11_element_23 rfl ?_
    refine V_callV (pc := 24) (M' := mX5_cell) dX11_element_24 mlX11_133 okX5_cell rfl (c_X5_cell hr) rfl rfl rfl rfl ⟨Nat.le_of_ble_eq_true rfl, Nat.le_of_ble_eq_true rfl⟩ ⟨Nat.le_refl 0, Nat.le_refl 0⟩ (Nat.le_of_ble_eq_true rfl) ?_
    intro r1 I1 J1 hh
    obtain ⟨e1, e2, e3⟩ := hh
    rw [e1, e2, e3]
    clear e1 e2 e3 r1 I1 J1
    refine V_retl (pc := 27) _ dX11_element_27 rfl ?_
    first | exact ⟨by rw [if_pos h9], rfl, rfl⟩ | exact ⟨by rw [if_neg h9], rfl, rfl⟩
  · skip
    refine V0_ldc2 (pc := 12) dX11_element_12 csX11_346 ?_
    refine V0_goto (pc := 15) 27 dX11_element_15 (by decide) ?_
    refine V_retl (pc := 27) _ dX11_element_27 rfl ?_
    first | exact ⟨by rw [if_pos h9], rfl, rfl⟩ | exact ⟨by rw [if_neg h9], rfl, rfl⟩

