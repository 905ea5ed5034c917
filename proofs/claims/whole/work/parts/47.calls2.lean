/-! more calls -/
theorem c_X11_smell {l : Launch} {I : px_I} {J : px_J} {x h : Int32} {m n : Nat} {Ls : List l_L} (hk : px_ok0 I m n) (hlaw : px_law I 14 Ls) : Ct l mX11_smell 5 [.ref 0, .int x, .int h] I J (fun r I' J' => r = some (.int (if g_isJ I x = true ∧ s_within h 0 11 = true then (if px_rem h 2 = px_rem (g_hoj I 8 (ix x)) 2 then -1 else h_much I n Ls (ix x) h) else -1)) ∧ px_sw I I' ∧ J' = J) := by
  have ho := hk.2.2.2.2.1
  refine Ct.of plX11_smell (Nat.le_of_ble_eq_true rfl) [.ref 0, .int x, .int h] rfl ?_
  refine V0_aload_n (pc := 0) dX11_smell_0 rfl ?_
  refine V_getr (pc := 1) dX11_smell_1 flX11_26 rfl rfl ?_
  refine V0_iload_n (pc := 4) dX11_smell_4 rfl ?_
  refine V_callVi (pc := 5) (M' := mX7_isJoy) dX11_smell_5 mlX11_143 okX7_isJoy rfl c_X7_isJoy rfl rfl rfl rfl ⟨Nat.le_of_ble_eq_true rfl, Nat.le_of_ble_eq_true rfl⟩ ⟨Nat.le_refl 0, Nat.le_refl 0⟩ (Nat.le_of_ble_eq_true rfl) ?_
  refine V_ifeqb (pc := 8) 21 dX11_smell_8 (by decide) (fun h8 => ?_) (fun h8 => ?_)
  · skip
    have z : ¬ (g_isJ I x = true ∧ s_within h 0 11 = true) := by first | exact (fun q => absurd (q.1.symm.trans (show g_isJ I x = false from h8)) (by decide)) | exact (fun q => absurd (q.2.symm.trans (show s_within h 0 11 = false from h18)) (by decide))
    refine V0_iconst (pc := 21) (-1) dX11_smell_21 (by decide) ?_
    refine V_reti (pc := 22) _ dX11_smell_22 rfl ?_
    exact ⟨by rw [if_neg z] <;> rfl, px_sw.rf, rfl⟩
  · skip
    have hx := s_is_ix (c := 10) rfl (by omega) (n := I 1 7) h8
    refine V0_iload_n (pc := 11) dX11_smell_11 rfl ?_
    refine V0_iconst (pc := 12) (0) dX11_smell_12 (by decide) ?_
    refine V0_bipush (pc := 13) (11) dX11_smell_13 (by decide) ?_
    refine V_callSi (pc := 15) (M' := mX11_isWithin) dX11_smell_15 mlX11_99 okX11_isWithin rfl c_X11_isWithin rfl rfl ⟨Nat.le_of_ble_eq_true rfl, Nat.le_of_ble_eq_true rfl⟩ ⟨Nat.le_refl 0, Nat.le_refl 0⟩ (Nat.le_of_ble_eq_true rfl) ?_
    refine V_ifneb (pc := 18) 23 dX11_smell_18 (by decide) (fun h18 => ?_) (fun h18 => ?_)
    · skip
      have z : g_isJ I x = true ∧ s_within h 0 11 = true := ⟨h8, h18⟩
      refine V0_iload_n (pc := 23) dX11_smell_23 rfl ?_
      refine V0_iconst (pc := 24) (2) dX11_smell_24 (by decide) ?_
      refine V0_irem (pc := 25) dX11_smell_25 (by decide) ?_
      refine V0_aload_n (pc := 26) dX11_smell_26 rfl ?_
      refine V_getr (pc := 27) dX11_smell_27 flX11_32 rfl rfl ?_
      refine V0_iload_n (pc := 30) dX11_smell_30 rfl ?_
      have hc := c_X2_sideOfJoy (l := l) (J := J) (I := I) cs8 hx.2 ho
      rw [← hx.1] at hc
      refine V_callVi (pc := 31) (M' := mX2_sideOfJoy) dX11_smell_31 mlX11_183 okX2_sideOfJoy rfl hc rfl rfl rfl rfl ⟨Nat.le_of_ble_eq_true rfl, Nat.le_of_ble_eq_true rfl⟩ ⟨Nat.le_refl 0, Nat.le_refl 0⟩ (Nat.le_of_ble_eq_true rfl) ?_
      refine V0_icmp_ne (pc := 34) 39 dX11_smell_34 (by decide) (fun h34 => ?_) (fun h34 => ?_)
      · skip
        refine V0_aload_n (pc := 39) dX11_smell_39 rfl ?_
        refine V_getr (pc := 40) dX11_smell_40 flX11_68 rfl rfl ?_
        refine V0_iload_n (pc := 43) dX11_smell_43 rfl ?_
        refine V0_iload_n (pc := 44) dX11_smell_44 rfl ?_
        have hc2 := c_X6_howMuch (l := l) (J := J) (house := h) hk hlaw hx.2
        rw [← hx.1] at hc2
        refine V_callV (pc := 45) (M' := mX6_howMuch) dX11_smell_45 mlX11_186 okX6_howMuch rfl hc2 rfl rfl rfl rfl ⟨Nat.le_of_ble_eq_true rfl, Nat.le_of_ble_eq_true rfl⟩ ⟨Nat.le_refl 0, Nat.le_refl 0⟩ (Nat.le_of_ble_eq_true rfl) ?_
        intro r1 I1 J1 hh
        obtain ⟨e1, hfr, e3⟩ := hh
        rw [e1, e3]
        clear e1 e3 r1 J1
        refine V_reti (pc := 48) _ dX11_smell_48 rfl ?_
        exact ⟨by rw [if_pos z, if_neg h34], hfr, rfl⟩
      · skip
        refine V0_iconst (pc := 37) (-1) dX11_smell_37 (by decide) ?_
        refine V_reti (pc := 38) _ dX11_smell_38 rfl ?_
        exact ⟨by rw [if_pos z, if_pos h34] <;> rfl, px_sw.rf, rfl⟩
    · skip
      have z : ¬ (g_isJ I x = true ∧ s_within h 0 11 = true) := by first | exact (fun q => absurd (q.1.symm.trans (show g_isJ I x = false from h8)) (by decide)) | exact (fun q => absurd (q.2.symm.trans (show s_within h 0 11 = false from h18)) (by decide))
      refine V0_iconst (pc := 21) (-1) dX11_smell_21 (by decide) ?_
      refine V_reti (pc := 22) _ dX11_smell_22 rfl ?_
      exact ⟨by rw [if_neg z] <;> rfl, px_sw.rf, rfl⟩
theorem s_win_ix {x b : Int32} {c : Nat} (h : s_within x 0 b = true) (hc : b = nI c - 1) (hc2 : c < 2 ^ 31 ∧ 0 < c) : x = nI (ix x) ∧ ix x < c := by
  simp only [s_within, Bool.and_eq_true, Bool.not_eq_true', decide_eq_false_iff_not] at h
  refine ⟨nI_ix h.1, ?_⟩
  obtain ⟨k, rfl⟩ : ∃ k, c = k + 1 := ⟨c - 1, by omega⟩
  rw [hc, ← nI_1, show nI k + 1 - 1 = nI k from by rw [nI_1, nI_pred], nI_ix h.1] at h
  exact Nat.lt_succ_of_le (Nat.le_of_not_lt (fun q => h.2 ((qI_lt (by omega) (by have : (ix x) < 2 ^ 31 := by show x.toInt.toNat < _; have := Int32.toInt_lt x; omega
                                                                                 exact this)).mpr q)))
theorem lt_of_lt_of_nlt {x y z : Int32} (h : x < y) (g : ¬ z < y) : x < z := by
  rw [Int32.lt_iff_toInt_lt] at *
  omega
theorem lt_ite {x a y : Int32} (h : x < (if a < y then a else y)) : x < a := by
  split at h
  · exact h
  · rename_i z; exact lt_of_lt_of_nlt h z
theorem c_X11_led {l : Launch} {I : px_I} {J : px_J} {x : Int32} : CtI l mX11_led 1 [.ref 0, .int x] I J (if s_within x 0 5 = true then I 12 (ix x) else -1) := by
  refine Ct.of plX11_led (Nat.le_of_ble_eq_true rfl) [.ref 0, .int x] rfl ?_
  refine V0_iload_n (pc := 0) dX11_led_0 rfl ?_
  refine V0_iconst (pc := 1) (0) dX11_led_1 (by decide) ?_
  refine V0_iconst (pc := 2) (5) dX11_led_2 (by decide) ?_
  refine V_callSi (pc := 3) (M' := mX11_isWithin) dX11_led_3 mlX11_99 okX11_isWithin rfl c_X11_isWithin rfl rfl ⟨Nat.le_of_ble_eq_true rfl, Nat.le_of_ble_eq_true rfl⟩ ⟨Nat.le_refl 0, Nat.le_refl 0⟩ (Nat.le_of_ble_eq_true rfl) ?_
  refine V_ifeqb (pc := 6) 21 dX11_led_6 (by decide) (fun h6 => ?_) (fun h6 => ?_)
  · skip
    refine V0_iconst (pc := 21) (-1) dX11_led_21 (by decide) ?_
    refine V_reti (pc := 22) _ dX11_led_22 rfl ?_
    refine px_li ?_
    first | (rw [if_pos h6]; done) | (rw [if_neg (by rw [show s_within x 0 5 = false from h6]; decide)] <;> rfl)
  · skip
    refine V0_aload_n (pc := 9) dX11_led_9 rfl ?_
    refine V_getr (pc := 10) dX11_led_10 flX11_32 rfl rfl ?_
    refine V_getr (pc := 13) dX11_led_13 flX11_216 rfl rfl ?_
    refine V0_iload_n (pc := 16) dX11_led_16 rfl ?_
    have hx := s_win_ix (c := 6) (b := 5) h6 (by decide) (by decide)
    refine V_iald (pc := 17) (ix x) dX11_led_17 rfl hx.1 hx.2 ?_
    refine V0_goto (pc := 18) 22 dX11_led_18 (by decide) ?_
    refine V_reti (pc := 22) _ dX11_led_22 rfl ?_
    refine px_li ?_
    first | (rw [if_pos h6]; done) | (rw [if_neg (by rw [show s_within x 0 5 = false from h6]; decide)] <;> rfl)
def g_image (I : px_I) (m n : Nat) : px_I := g_takes (px_up (px_up (px_up I 0 12 1) 0 13 (nI m)) 0 14 (nI n)) 23 8 m n
theorem c_X11_image {l : Launch} {I : px_I} {J : px_J} {m n : Nat} (hm : I 1 6 = nI m) (hm7 : m ≤ 7) (hn : I 1 7 = nI n) (hn10 : n ≤ 10) : Ct l mX11_image 2 [.ref 0] I J (px_qi (I 12 1) (g_image I m n) J) := by
  refine Ct.of plX11_image (Nat.le_of_ble_eq_true rfl) [.ref 0] rfl ?_
  refine V0_aload_n (pc := 0) dX11_image_0 rfl ?_
  refine V0_iconst (pc := 1) (1) dX11_image_1 (by decide) ?_
  refine V_putz (pc := 2) dX11_image_2 flX11_284 rfl rfl (Or.inr rfl) ?_
  refine V0_aload_n (pc := 5) dX11_image_5 rfl ?_
  refine V0_aload_n (pc := 6) dX11_image_6 rfl ?_
  refine V_getr (pc := 7) dX11_image_7 flX11_26 rfl rfl ?_
  refine V_geti (pc := 10) dX11_image_10 flX11_103 rfl rfl ?_
  rw [show px_up I 0 12 1 1 6 = nI m from hm]
  refine V_puti (pc := 13) dX11_image_13 flX11_288 rfl rfl ?_
  refine V0_aload_n (pc := 16) dX11_image_16 rfl ?_
  refine V0_aload_n (pc := 17) dX11_image_17 rfl ?_
  refine V_getr (pc := 18) dX11_image_18 flX11_26 rfl rfl ?_
  refine V_geti (pc := 21) dX11_image_21 flX11_115 rfl rfl ?_
  rw [show px_up (px_up I 0 12 1) 0 13 (nI m) 1 7 = nI n from hn]
  refine V_puti (pc := 24) dX11_image_24 flX11_291 rfl rfl ?_
  refine V0_aload_n (pc := 27) dX11_image_27 rfl ?_
  refine V_getr (pc := 28) dX11_image_28 flX11_36 rfl rfl ?_
  refine V0_aload_n (pc := 31) dX11_image_31 rfl ?_
  refine V_getr (pc := 32) dX11_image_32 flX11_32 rfl rfl ?_
  refine V0_aload_n (pc := 35) dX11_image_35 rfl ?_
  refine V_geti (pc := 36) dX11_image_36 flX11_288 rfl rfl ?_
  refine V0_aload_n (pc := 39) dX11_image_39 rfl ?_
  refine V_geti (pc := 40) dX11_image_40 flX11_291 rfl rfl ?_
  skip
  refine V_callV (pc := 43) (M' := mX2_take) dX11_image_43 mlX11_294 okX2_take rfl (c_X2_take cs23 cs8 hm7 hn10) rfl rfl rfl rfl ⟨Nat.le_of_ble_eq_true rfl, Nat.le_of_ble_eq_true rfl⟩ ⟨Nat.le_refl 0, Nat.le_refl 0⟩ (Nat.le_of_ble_eq_true rfl) ?_
  intro r1 I1 J1 hh
  obtain ⟨e1, e2, e3⟩ := hh
  rw [e1, e2, e3]
  clear e1 e2 e3 r1 I1 J1
  refine V0_aload_n (pc := 46) dX11_image_46 rfl ?_
  refine V_getr (pc := 47) dX11_image_47 flX11_32 rfl rfl ?_
  refine V_getr (pc := 50) dX11_image_50 flX11_216 rfl rfl ?_
  refine V0_iconst (pc := 53) (1) dX11_image_53 (by decide) ?_
  refine V_iald (pc := 54) 1 dX11_image_54 rfl (by decide) (by decide) ?_
  refine V_reti (pc := 55) _ dX11_image_55 rfl ?_
  exact ⟨by rw [g_takes_row (by omega)]; rfl, rfl, rfl⟩
theorem c_X11_back {l : Launch} {I : px_I} {J : px_J} {m n : Nat} (hm : I 0 13 = nI m) (hm7 : m ≤ 7) (hn : I 0 14 = nI n) (hn10 : n ≤ 10) : Ct l mX11_back 2 [.ref 0] I J (px_qi (if I 0 12 = 0 then -5 else g_takes I 8 23 m n 12 1) (if I 0 12 = 0 then I else g_takes I 8 23 m n) J) := by
  refine Ct.of plX11_back (Nat.le_of_ble_eq_true rfl) [.ref 0] rfl ?_
  refine V0_aload_n (pc := 0) dX11_back_0 rfl ?_
  refine V_geti (pc := 1) dX11_back_1 flX11_284 rfl rfl ?_
  refine V0_if_ne (pc := 4) 10 dX11_back_4 (by decide) (fun h4 => ?_) (fun h4 => ?_)
  · skip
    refine V0_aload_n (pc := 10) dX11_back_10 rfl ?_
    refine V_getr (pc := 11) dX11_back_11 flX11_32 rfl rfl ?_
    refine V0_aload_n (pc := 14) dX11_back_14 rfl ?_
    refine V_getr (pc := 15) dX11_back_15 flX11_36 rfl rfl ?_
    refine V0_aload_n (pc := 18) dX11_back_18 rfl ?_
    refine V_geti (pc := 19) dX11_back_19 flX11_288 rfl rfl ?_
    refine V0_aload_n (pc := 22) dX11_back_22 rfl ?_
    refine V_geti (pc := 23) dX11_back_23 flX11_291 rfl rfl ?_
    rw [hm, hn]
    refine V_callV (pc := 26) (M' := mX2_take) dX11_back_26 mlX11_294 okX2_take rfl (c_X2_take cs8 cs23 hm7 hn10) rfl rfl rfl rfl ⟨Nat.le_of_ble_eq_true rfl, Nat.le_of_ble_eq_true rfl⟩ ⟨Nat.le_refl 0, Nat.le_refl 0⟩ (Nat.le_of_ble_eq_true rfl) ?_
    intro r1 I1 J1 hh
    obtain ⟨e1, e2, e3⟩ := hh
    rw [e1, e2, e3]
    clear e1 e2 e3 r1 I1 J1
    refine V0_aload_n (pc := 29) dX11_back_29 rfl ?_
    refine V_getr (pc := 30) dX11_back_30 flX11_32 rfl rfl ?_
    refine V_getr (pc := 33) dX11_back_33 flX11_216 rfl rfl ?_
    refine V0_iconst (pc := 36) (1) dX11_back_36 (by decide) ?_
    refine V_iald (pc := 37) 1 dX11_back_37 rfl (by decide) (by decide) ?_
    refine V_reti (pc := 38) _ dX11_back_38 rfl ?_
    exact ⟨by rw [if_neg h4] <;> rfl, by rw [if_neg h4], rfl⟩
  · skip
    refine V0_bipush (pc := 7) (-5) dX11_back_7 (by decide) ?_
    refine V_reti (pc := 9) _ dX11_back_9 rfl ?_
    exact ⟨by rw [if_pos h4] <;> rfl, by rw [if_pos h4], rfl⟩
theorem c_X11_body {l : Launch} {I : px_I} {J : px_J} {k : Int32} {n : Nat} (hn : I 51 2 = nI n) (hn50 : n ≤ 50) : Ct l mX11_body 1 [.ref 0, .int k] I J (px_qi (if s_within k 0 7 = true then (if n < 50 then nI n else -3) else -1) (if s_within k 0 7 = true then (if n < 50 then px_up (px_up I 52 n k) 51 2 (nI (n + 1)) else I) else I) J) := by
  refine Ct.of plX11_body (Nat.le_of_ble_eq_true rfl) [.ref 0, .int k] rfl ?_
  refine V0_iload_n (pc := 0) dX11_body_0 rfl ?_
  refine V0_iconst (pc := 1) (0) dX11_body_1 (by decide) ?_
  refine V0_bipush (pc := 2) (7) dX11_body_2 (by decide) ?_
  refine V_callSi (pc := 4) (M' := mX11_isWithin) dX11_body_4 mlX11_99 okX11_isWithin rfl c_X11_isWithin rfl rfl ⟨Nat.le_of_ble_eq_true rfl, Nat.le_of_ble_eq_true rfl⟩ ⟨Nat.le_refl 0, Nat.le_refl 0⟩ (Nat.le_of_ble_eq_true rfl) ?_
  refine V_ifneb (pc := 7) 12 dX11_body_7 (by decide) (fun h7 => ?_) (fun h7 => ?_)
  · skip
    refine V0_aload_n (pc := 12) dX11_body_12 rfl ?_
    refine V_getr (pc := 13) dX11_body_13 flX11_91 rfl rfl ?_
    refine V0_iload_n (pc := 16) dX11_body_16 rfl ?_
    refine V_callV (pc := 17) (M' := mX0_add) dX11_body_17 mlX11_310 okX0_add rfl (c_X0_add hn hn50) rfl rfl rfl rfl ⟨Nat.le_of_ble_eq_true rfl, Nat.le_of_ble_eq_true rfl⟩ ⟨Nat.le_refl 0, Nat.le_refl 0⟩ (Nat.le_of_ble_eq_true rfl) ?_
    intro r1 I1 J1 hh
    obtain ⟨e1, e2, e3⟩ := hh
    rw [e1, e2, e3]
    clear e1 e2 e3 r1 I1 J1
    refine V_reti (pc := 20) _ dX11_body_20 rfl ?_
    exact ⟨by rw [if_pos h7], by rw [if_pos h7], rfl⟩
  · skip
    refine V0_iconst (pc := 10) (-1) dX11_body_10 (by decide) ?_
    refine V_reti (pc := 11) _ dX11_body_11 rfl ?_
    exact ⟨by rw [if_neg (by rw [show s_within k 0 7 = false from h7]; decide)] <;> rfl, by rw [if_neg (by rw [show s_within k 0 7 = false from h7]; decide)], rfl⟩
theorem c_X11_act {l : Launch} {I : px_I} {J : px_J} {b ac x : Int32} (hkinds : a_kinds I) : Ct l mX11_act 84 [.ref 0, .int b, .int ac, .int x] I J (px_qi (if g_isB I b = true ∧ ¬ ac < 0 ∧ ac < 4 then a_vl b (I 52 (ix b)) 40 (I 52 (ix b)) (ix ac) x else 0) (if g_isB I b = true ∧ ¬ ac < 0 ∧ ac < 4 then g_notes (px_up (px_up I 51 3 0) 51 4 b) 0 (a_tr (I 52 (ix b)) 40 (I 52 (ix b)) (ix ac)) else px_up I 51 3 0) J) := by
  refine Ct.of plX11_act (Nat.le_of_ble_eq_true rfl) [.ref 0, .int b, .int ac, .int x] rfl ?_
  refine V0_aload_n (pc := 0) dX11_act_0 rfl ?_
  refine V_getr (pc := 1) dX11_act_1 flX11_91 rfl rfl ?_
  refine V0_iload_n (pc := 4) dX11_act_4 rfl ?_
  refine V0_iload_n (pc := 5) dX11_act_5 rfl ?_
  refine V0_iload_n (pc := 6) dX11_act_6 rfl ?_
  refine V_callV (pc := 7) (M' := mX0_perform) dX11_act_7 mlX11_312 okX0_perform rfl (c_X0_perform hkinds) rfl rfl rfl rfl (px_hr (by omega) (by decide)) ⟨Nat.le_refl 0, Nat.le_refl 0⟩ (Nat.le_of_ble_eq_true rfl) ?_
  intro r1 I1 J1 hh
  obtain ⟨e1, e2, e3⟩ := hh
  rw [e1, e2, e3]
  clear e1 e2 e3 r1 I1 J1
  refine V_reti (pc := 10) _ dX11_act_10 rfl ?_
  exact ⟨rfl, rfl, rfl⟩
theorem c_X11_trace {l : Launch} {I : px_I} {J : px_J} {x : Int32} : CtI l mX11_trace 2 [.ref 0, .int x] I J (if ¬ x < 0 ∧ x < (if 24 < I 51 3 then 24 else I 51 3) then I 53 (ix x) else -1) := by
  refine Ct.of plX11_trace (Nat.le_of_ble_eq_true rfl) [.ref 0, .int x] rfl ?_
  refine V0_iload_n (pc := 0) dX11_trace_0 rfl ?_
  refine V0_if_lt (pc := 1) 27 dX11_trace_1 (by decide) (fun h1 => ?_) (fun h1 => ?_)
  · skip
    refine V0_iconst (pc := 27) (-1) dX11_trace_27 (by decide) ?_
    refine V_reti (pc := 28) _ dX11_trace_28 rfl ?_
    refine px_li ?_
    first | (rw [if_pos ⟨h1, h12⟩]; done) | (rw [if_neg (fun q => q.1 h1)] <;> rfl) | (rw [if_neg (fun q => h12 q.2)] <;> rfl)
  · skip
    refine V0_iload_n (pc := 4) dX11_trace_4 rfl ?_
    refine V0_aload_n (pc := 5) dX11_trace_5 rfl ?_
    refine V_getr (pc := 6) dX11_trace_6 flX11_91 rfl rfl ?_
    refine V_callVi (pc := 9) (M' := mX0_traced) dX11_trace_9 mlX11_316 okX0_traced rfl c_X0_traced rfl rfl rfl rfl ⟨Nat.le_of_ble_eq_true rfl, Nat.le_of_ble_eq_true rfl⟩ ⟨Nat.le_refl 0, Nat.le_refl 0⟩ (Nat.le_of_ble_eq_true rfl) ?_
    refine V1_icmp_ge (pc := 12) 27 dX11_trace_12 (by decide) (fun h12 => ?_) (fun h12 => ?_)
    · skip
      refine V0_iconst (pc := 27) (-1) dX11_trace_27 (by decide) ?_
      refine V_reti (pc := 28) _ dX11_trace_28 rfl ?_
      refine px_li ?_
      first | (rw [if_pos ⟨h1, h12⟩]; done) | (rw [if_neg (fun q => q.1 h1)] <;> rfl) | (rw [if_neg (fun q => h12 q.2)] <;> rfl)
    · skip
      refine V0_aload_n (pc := 15) dX11_trace_15 rfl ?_
      refine V_getr (pc := 16) dX11_trace_16 flX11_91 rfl rfl ?_
      refine V_getr (pc := 19) dX11_trace_19 flX11_319 rfl rfl ?_
      refine V0_iload_n (pc := 22) dX11_trace_22 rfl ?_
      have hx : ix x < 24 := ix_lt h1 (by omega) (lt_ite h12)
      refine V_iald (pc := 23) (ix x) dX11_trace_23 rfl (nI_ix h1) hx ?_
      refine V0_goto (pc := 24) 28 dX11_trace_24 (by decide) ?_
      refine V_reti (pc := 28) _ dX11_trace_28 rfl ?_
      refine px_li ?_
      first | (rw [if_pos ⟨h1, h12⟩]; done) | (rw [if_neg (fun q => q.1 h1)] <;> rfl) | (rw [if_neg (fun q => h12 q.2)] <;> rfl)
theorem c_X11_count {l : Launch} {I : px_I} {J : px_J} {x : Int32} : CtI l mX11_count 0 [.ref 0, .int x] I J (if x = 0 then I 1 6 else if x = 1 then I 1 7 else if x = 2 then I 33 2 else if x = 3 then I 28 5 else if x = 4 then I 51 2 else if x = 5 then I 51 3 else -1) := by
  refine Ct.of plX11_count (Nat.le_of_ble_eq_true rfl) [.ref 0, .int x] rfl ?_
  refine V0_iload_n (pc := 0) dX11_count_0 rfl ?_
  by_cases s1_0 : x = (0)
  · refine V_tabIn (pc := 1) (off := 39) (0) 40 dX11_count_1 s1_0 (by decide) (by decide) (by decide) (by decide) ?_
    refine V0_aload_n (pc := 40) dX11_count_40 rfl ?_
    refine V_getr (pc := 41) dX11_count_41 flX11_26 rfl rfl ?_
    refine V_geti (pc := 44) dX11_count_44 flX11_103 rfl rfl ?_
    refine V_reti (pc := 47) _ dX11_count_47 rfl ?_
    refine px_li ?_
    simp [*]
  by_cases s1_1 : x = (1)
  · refine V_tabIn (pc := 1) (off := 47) (1) 48 dX11_count_1 s1_1 (by decide) (by decide) (by decide) (by decide) ?_
    refine V0_aload_n (pc := 48) dX11_count_48 rfl ?_
    refine V_getr (pc := 49) dX11_count_49 flX11_26 rfl rfl ?_
    refine V_geti (pc := 52) dX11_count_52 flX11_115 rfl rfl ?_
    refine V_reti (pc := 55) _ dX11_count_55 rfl ?_
    refine px_li ?_
    simp [*]
  by_cases s1_2 : x = (2)
  · refine V_tabIn (pc := 1) (off := 55) (2) 56 dX11_count_1 s1_2 (by decide) (by decide) (by decide) (by decide) ?_
    refine V0_aload_n (pc := 56) dX11_count_56 rfl ?_
    refine V_getr (pc := 57) dX11_count_57 flX11_55 rfl rfl ?_
    refine V_geti (pc := 60) dX11_count_60 flX11_169 rfl rfl ?_
    refine V_reti (pc := 63) _ dX11_count_63 rfl ?_
    refine px_li ?_
    simp [*]
  by_cases s1_3 : x = (3)
  · refine V_tabIn (pc := 1) (off := 63) (3) 64 dX11_count_1 s1_3 (by decide) (by decide) (by decide) (by decide) ?_
    refine V0_aload_n (pc := 64) dX11_count_64 rfl ?_
    refine V_getr (pc := 65) dX11_count_65 flX11_48 rfl rfl ?_
    refine V_geti (pc := 68) dX11_count_68 flX11_301 rfl rfl ?_
    refine V_reti (pc := 71) _ dX11_count_71 rfl ?_
    refine px_li ?_
    simp [*]
  by_cases s1_4 : x = (4)
  · refine V_tabIn (pc := 1) (off := 71) (4) 72 dX11_count_1 s1_4 (by decide) (by decide) (by decide) (by decide) ?_
    refine V0_aload_n (pc := 72) dX11_count_72 rfl ?_
    refine V_getr (pc := 73) dX11_count_73 flX11_91 rfl rfl ?_
    refine V_geti (pc := 76) dX11_count_76 flX11_370 rfl rfl ?_
    refine V_reti (pc := 79) _ dX11_count_79 rfl ?_
    refine px_li ?_
    simp [*]
  by_cases s1_5 : x = (5)
  · refine V_tabIn (pc := 1) (off := 79) (5) 80 dX11_count_1 s1_5 (by decide) (by decide) (by decide) (by decide) ?_
    refine V0_aload_n (pc := 80) dX11_count_80 rfl ?_
    refine V_getr (pc := 81) dX11_count_81 flX11_91 rfl rfl ?_
    refine V_geti (pc := 84) dX11_count_84 flX11_373 rfl rfl ?_
    refine V_reti (pc := 87) _ dX11_count_87 rfl ?_
    refine px_li ?_
    simp [*]
  refine V_tabOut (pc := 1) 88 dX11_count_1 (by have g0 := px_ne s1_0 (k := 0) (by decide); have g1 := px_ne s1_1 (k := 1) (by decide); have g2 := px_ne s1_2 (k := 2) (by decide); have g3 := px_ne s1_3 (k := 3) (by decide); have g4 := px_ne s1_4 (k := 4) (by decide); have g5 := px_ne s1_5 (k := 5) (by decide); omega) (by decide) ?_
  refine V0_iconst (pc := 88) (-1) dX11_count_88 (by decide) ?_
  refine V_reti (pc := 89) _ dX11_count_89 rfl ?_
  refine px_li ?_
  simp [*]
theorem c_X11_over {l : Launch} {I : px_I} {J : px_J} {v : Int32} {m : Nat} (hm : I 1 6 = nI m) (hm7 : m ≤ 7) : CtI l mX11_over 2 [.ref 0, .int v] I J (if s_within v 0 1 = true then s_first (v_ok I m v) (v_oth (I 9) v m + 1) 0 else -1) := by
  refine Ct.of plX11_over (Nat.le_of_ble_eq_true rfl) [.ref 0, .int v] rfl ?_
  refine V0_iload_n (pc := 0) dX11_over_0 rfl ?_
  refine V0_iconst (pc := 1) (0) dX11_over_1 (by decide) ?_
  refine V0_iconst (pc := 2) (1) dX11_over_2 (by decide) ?_
  refine V_callSi (pc := 3) (M' := mX11_isWithin) dX11_over_3 mlX11_99 okX11_isWithin rfl c_X11_isWithin rfl rfl ⟨Nat.le_of_ble_eq_true rfl, Nat.le_of_ble_eq_true rfl⟩ ⟨Nat.le_refl 0, Nat.le_refl 0⟩ (Nat.le_of_ble_eq_true rfl) ?_
  refine V_ifeqb (pc := 6) 20 dX11_over_6 (by decide) (fun h6 => ?_) (fun h6 => ?_)
  · skip
    refine V0_iconst (pc := 20) (-1) dX11_over_20 (by decide) ?_
    refine V_reti (pc := 21) _ dX11_over_21 rfl ?_
    refine px_li ?_
    first | (rw [if_pos h6]; done) | (rw [if_neg (by rw [show s_within v 0 1 = false from h6]; decide)] <;> rfl)
  · skip
    refine V0_aload_n (pc := 9) dX11_over_9 rfl ?_
    refine V_getr (pc := 10) dX11_over_10 flX11_84 rfl rfl ?_
    refine V0_iload_n (pc := 13) dX11_over_13 rfl ?_
    refine V_callVi (pc := 14) (M' := mX10_fewestToTurn) dX11_over_14 mlX11_235 okX10_fewestToTurn rfl (c_X10_fewestToTurn hm hm7) rfl rfl rfl rfl ⟨Nat.le_of_ble_eq_true rfl, Nat.le_of_ble_eq_true rfl⟩ ⟨Nat.le_refl 0, Nat.le_refl 0⟩ (Nat.le_of_ble_eq_true rfl) ?_
    refine V0_goto (pc := 17) 21 dX11_over_17 (by decide) ?_
    refine V_reti (pc := 21) _ dX11_over_21 rfl ?_
    refine px_li ?_
    first | (rw [if_pos h6]; done) | (rw [if_neg (by rw [show s_within v 0 1 = false from h6]; decide)] <;> rfl)
theorem c_X11_near {l : Launch} {I : px_I} {J : px_J} {x : Int32} {m : Nat} (hm : I 1 6 = nI m) (hm7 : m ≤ 7) : CtI l mX11_near 3 [.ref 0, .int x] I J (if g_isP I x = true then (if v_near I (ix x) m < 12 then v_near I (ix x) m else -2) else -1) := by
  refine Ct.of plX11_near (Nat.le_of_ble_eq_true rfl) [.ref 0, .int x] rfl ?_
  refine V0_aload_n (pc := 0) dX11_near_0 rfl ?_
  refine V_getr (pc := 1) dX11_near_1 flX11_26 rfl rfl ?_
  refine V0_iload_n (pc := 4) dX11_near_4 rfl ?_
  refine V_callVi (pc := 5) (M' := mX7_isPerson) dX11_near_5 mlX11_111 okX7_isPerson rfl c_X7_isPerson rfl rfl rfl rfl ⟨Nat.le_of_ble_eq_true rfl, Nat.le_of_ble_eq_true rfl⟩ ⟨Nat.le_refl 0, Nat.le_refl 0⟩ (Nat.le_of_ble_eq_true rfl) ?_
  refine V_ifeqb (pc := 8) 22 dX11_near_8 (by decide) (fun h8 => ?_) (fun h8 => ?_)
  · skip
    refine V0_iconst (pc := 22) (-1) dX11_near_22 (by decide) ?_
    refine V_reti (pc := 23) _ dX11_near_23 rfl ?_
    refine px_li ?_
    first | (rw [if_pos h8]; done) | (rw [if_neg (by rw [show g_isP I x = false from h8]; decide)] <;> rfl)
  · skip
    refine V0_aload_n (pc := 11) dX11_near_11 rfl ?_
    refine V_getr (pc := 12) dX11_near_12 flX11_84 rfl rfl ?_
    refine V0_iload_n (pc := 15) dX11_near_15 rfl ?_
    have hx := s_is_ix (c := 7) rfl (by omega) (n := I 1 6) h8
    have hc := c_X10_nearestAcross (l := l) (J := J) (one := ix x) hm hm7 hx.2
    rw [← hx.1] at hc
    refine V_callVi (pc := 16) (M' := mX10_nearestAcross) dX11_near_16 mlX11_258 okX10_nearestAcross rfl hc rfl rfl rfl rfl ⟨Nat.le_of_ble_eq_true rfl, Nat.le_of_ble_eq_true rfl⟩ ⟨Nat.le_refl 0, Nat.le_refl 0⟩ (Nat.le_of_ble_eq_true rfl) ?_
    refine V0_goto (pc := 19) 23 dX11_near_19 (by decide) ?_
    refine V_reti (pc := 23) _ dX11_near_23 rfl ?_
    refine px_li ?_
    first | (rw [if_pos h8]; done) | (rw [if_neg (by rw [show g_isP I x = false from h8]; decide)] <;> rfl)
theorem c_X11_mates {l : Launch} {I : px_I} {J : px_J} {x : Int32} {m : Nat} (hm : I 1 6 = nI m) (hm7 : m ≤ 7) : Ct l mX11_mates 4 [.ref 0, .int x] I J (px_qi (if s_within x 0 5 = true then v_max (v_all x m (v_zero I 128) m) 128 else -1) (if s_within x 0 5 = true then v_all x m (v_zero I 128) m else I) J) := by
  refine Ct.of plX11_mates (Nat.le_of_ble_eq_true rfl) [.ref 0, .int x] rfl ?_
  refine V0_iload_n (pc := 0) dX11_mates_0 rfl ?_
  refine V0_iconst (pc := 1) (0) dX11_mates_1 (by decide) ?_
  refine V0_iconst (pc := 2) (5) dX11_mates_2 (by decide) ?_
  refine V_callSi (pc := 3) (M' := mX11_isWithin) dX11_mates_3 mlX11_99 okX11_isWithin rfl c_X11_isWithin rfl rfl ⟨Nat.le_of_ble_eq_true rfl, Nat.le_of_ble_eq_true rfl⟩ ⟨Nat.le_refl 0, Nat.le_refl 0⟩ (Nat.le_of_ble_eq_true rfl) ?_
  refine V_ifeqb (pc := 6) 20 dX11_mates_6 (by decide) (fun h6 => ?_) (fun h6 => ?_)
  · skip
    refine V0_iconst (pc := 20) (-1) dX11_mates_20 (by decide) ?_
    refine V_reti (pc := 21) _ dX11_mates_21 rfl ?_
    first | exact ⟨by rw [if_pos h6], by rw [if_pos h6], rfl⟩ | exact ⟨by rw [if_neg (by rw [show s_within x 0 5 = false from h6]; decide)] <;> rfl, by rw [if_neg (by rw [show s_within x 0 5 = false from h6]; decide)], rfl⟩
  · skip
    refine V0_aload_n (pc := 9) dX11_mates_9 rfl ?_
    refine V_getr (pc := 10) dX11_mates_10 flX11_84 rfl rfl ?_
    refine V0_iload_n (pc := 13) dX11_mates_13 rfl ?_
    refine V_callV (pc := 14) (M' := mX10_mostPairs) dX11_mates_14 mlX11_261 okX10_mostPairs rfl (c_X10_mostPairs hm hm7) rfl rfl rfl rfl ⟨Nat.le_of_ble_eq_true rfl, Nat.le_of_ble_eq_true rfl⟩ ⟨Nat.le_refl 0, Nat.le_refl 0⟩ (Nat.le_of_ble_eq_true rfl) ?_
    intro r1 I1 J1 hh
    obtain ⟨e1, e2, e3⟩ := hh
    rw [e1, e2, e3]
    clear e1 e2 e3 r1 I1 J1
    refine V0_goto (pc := 17) 21 dX11_mates_17 (by decide) ?_
    refine V_reti (pc := 21) _ dX11_mates_21 rfl ?_
    first | exact ⟨by rw [if_pos h6], by rw [if_pos h6], rfl⟩ | exact ⟨by rw [if_neg (by rw [show s_within x 0 5 = false from h6]; decide)] <;> rfl, by rw [if_neg (by rw [show s_within x 0 5 = false from h6]; decide)], rfl⟩

