/-! numbers of ints that are indices -/
theorem V_topc {l : Launch} {R : Room} {M : px_M} {XT : px_X} {kc ks pc : Nat} {ls st : List Value} {h : px_H} {Q : Option Value → px_H → Prop} {x : Int32} (y : Int32) (e : x = y) (k : V0 l R M XT kc ks pc ls (.int y :: st) h Q) : V0 l R M XT kc ks pc ls (.int x :: st) h Q := by rw [e]; exact k
theorem V_topl {l : Launch} {R : Room} {M : px_M} {XT : px_X} {kc ks pc : Nat} {ls st : List Value} {h : px_H} {Q : Option Value → px_H → Prop} {x : Int64} (y : Int64) (e : x = y) (k : V0 l R M XT kc ks pc ls (.long y :: st) h Q) : V0 l R M XT kc ks pc ls (.long x :: st) h Q := by rw [e]; exact k
theorem px_ltc {a : Nat} {c : Int32} (b : Nat) (hc : c = nI b) (h : nI a < c) (ha : a < 2 ^ 31) (hb : b < 2 ^ 31) : a < b := by subst hc; exact px_lt h ha hb
theorem px_gec {a : Nat} {c : Int32} (b : Nat) (hc : c = nI b) (h : ¬ nI a < c) (ha : a < 2 ^ 31) (hb : b < 2 ^ 31) : b ≤ a := by subst hc; exact px_ge h ha hb
theorem qI_add (a b : Nat) : nI a + nI b = nI (a + b) := (Int32.ofNat_add a b).symm
theorem qI_mul (a b : Nat) : nI a * nI b = nI (a * b) := (Int32.ofNat_mul a b).symm
theorem px_clamp {a b : Nat} {c : Int32} (hc : c = nI b) (h : a ≤ b) (hb : b < 2 ^ 31) : (if (0 : Int32) < (if c < nI a then c else nI a) then (if c < nI a then c else nI a) else 0) = nI a := by
  subst hc
  have h1 : ¬ nI b < nI a := fun q => absurd (px_lt q hb (by omega)) (by omega)
  rw [if_neg h1]
  by_cases h2 : (0 : Int32) < nI a
  · rw [if_pos h2]
  · rw [if_neg h2]
    have : a = 0 := by
      rw [← nI_0] at h2
      have := px_ge h2 (by omega) (by omega)
      omega
    subst this
    exact nI_0.symm
def g_take (I : px_I) (p q a b : Nat) : px_I := px_cp (px_cp (px_cp (px_cp I (q + 1) 0 (p + 1) 0 a) (q + 2) 0 (p + 2) 0 b) (q + 3) 0 (p + 3) 0 b) (q + 4) 0 (p + 4) 0 6
def g_takes (I : px_I) (p q a b : Nat) : px_I := px_up (px_up (g_take I p q a b) p 4 (g_take I p q a b q 4)) p 5 (px_up (g_take I p q a b) p 4 (g_take I p q a b q 4) q 5)
theorem px_cp_row {I : px_I} {q0 sp q1 dp n q : Nat} (h : q ≠ q1) : px_cp I q0 sp q1 dp n q = I q := by funext k; simp [px_cp, h]
theorem px_cp_at {I : px_I} {q0 sp q1 dp n q k : Nat} : px_cp I q0 sp q1 dp n q k = if q = q1 ∧ dp ≤ k ∧ k < dp + n then I q0 (sp + (k - dp)) else I q k := rfl
theorem c_X2_take {l : Launch} {I : px_I} {J : px_J} {p q a b : Nat} (hp : px_cs p) (hq : px_cs q) (ha : a ≤ 7) (hb : b ≤ 10) : Ct l mX2_take 1 [.ref p, .ref q, .int (nI a), .int (nI b)] I J (px_qs (g_takes I p q a b) J) := by
  refine Ct.of plX2_take (Nat.le_of_ble_eq_true rfl) [.ref p, .ref q, .int (nI a), .int (nI b)] rfl ?_
  refine V0_aload_n (pc := 0) dX2_take_0 rfl ?_
  refine V_getr (pc := 1) dX2_take_1 flX2_9 hq.1 rfl ?_
  refine V0_iconst (pc := 4) (0) dX2_take_4 (by decide) ?_
  refine V0_aload_n (pc := 5) dX2_take_5 rfl ?_
  refine V_getr (pc := 6) dX2_take_6 flX2_9 hp.1 rfl ?_
  refine V0_iconst (pc := 9) (0) dX2_take_9 (by decide) ?_
  refine V0_iconst (pc := 10) (0) dX2_take_10 (by decide) ?_
  refine V0_iload_n (pc := 11) dX2_take_11 rfl ?_
  refine V0_bipush (pc := 12) (7) dX2_take_12 (by decide) ?_
  refine V0_min (pc := 14) dX2_take_14 mlX2_28 js_min ji_Math jc_min (Nat.le_of_ble_eq_true rfl) (Nat.le_of_ble_eq_true rfl) ?_
  refine V0_max (pc := 17) dX2_take_17 mlX2_34 js_max ji_Math jc_max (Nat.le_of_ble_eq_true rfl) (Nat.le_of_ble_eq_true rfl) ?_
  refine V_copyi (pc := 20) 0 0 a rfl dX2_take_20 mlX2_37 hq.2.1 hp.2.1 nI_0.symm nI_0.symm (px_clamp (b := 7) rfl ha (by omega)) (by omega) (by omega) (Nat.le_of_ble_eq_true rfl) (Nat.le_of_ble_eq_true rfl) ?_
  refine V0_aload_n (pc := 23) dX2_take_23 rfl ?_
  refine V_getr (pc := 24) dX2_take_24 flX2_15 hq.1 rfl ?_
  refine V0_iconst (pc := 27) (0) dX2_take_27 (by decide) ?_
  refine V0_aload_n (pc := 28) dX2_take_28 rfl ?_
  refine V_getr (pc := 29) dX2_take_29 flX2_15 hp.1 rfl ?_
  refine V0_iconst (pc := 32) (0) dX2_take_32 (by decide) ?_
  refine V0_iconst (pc := 33) (0) dX2_take_33 (by decide) ?_
  refine V0_iload_n (pc := 34) dX2_take_34 rfl ?_
  refine V0_bipush (pc := 35) (10) dX2_take_35 (by decide) ?_
  refine V0_min (pc := 37) dX2_take_37 mlX2_28 js_min ji_Math jc_min (Nat.le_of_ble_eq_true rfl) (Nat.le_of_ble_eq_true rfl) ?_
  refine V0_max (pc := 40) dX2_take_40 mlX2_34 js_max ji_Math jc_max (Nat.le_of_ble_eq_true rfl) (Nat.le_of_ble_eq_true rfl) ?_
  refine V_copyi (pc := 43) 0 0 b rfl dX2_take_43 mlX2_37 hq.2.2.1 hp.2.2.1 nI_0.symm nI_0.symm (px_clamp (b := 10) rfl hb (by omega)) (by omega) (by omega) (Nat.le_of_ble_eq_true rfl) (Nat.le_of_ble_eq_true rfl) ?_
  refine V0_aload_n (pc := 46) dX2_take_46 rfl ?_
  refine V_getr (pc := 47) dX2_take_47 flX2_18 hq.1 rfl ?_
  refine V0_iconst (pc := 50) (0) dX2_take_50 (by decide) ?_
  refine V0_aload_n (pc := 51) dX2_take_51 rfl ?_
  refine V_getr (pc := 52) dX2_take_52 flX2_18 hp.1 rfl ?_
  refine V0_iconst (pc := 55) (0) dX2_take_55 (by decide) ?_
  refine V0_iconst (pc := 56) (0) dX2_take_56 (by decide) ?_
  refine V0_iload_n (pc := 57) dX2_take_57 rfl ?_
  refine V0_bipush (pc := 58) (10) dX2_take_58 (by decide) ?_
  refine V0_min (pc := 60) dX2_take_60 mlX2_28 js_min ji_Math jc_min (Nat.le_of_ble_eq_true rfl) (Nat.le_of_ble_eq_true rfl) ?_
  refine V0_max (pc := 63) dX2_take_63 mlX2_34 js_max ji_Math jc_max (Nat.le_of_ble_eq_true rfl) (Nat.le_of_ble_eq_true rfl) ?_
  refine V_copyi (pc := 66) 0 0 b rfl dX2_take_66 mlX2_37 hq.2.2.2.1 hp.2.2.2.1 nI_0.symm nI_0.symm (px_clamp (b := 10) rfl hb (by omega)) (by omega) (by omega) (Nat.le_of_ble_eq_true rfl) (Nat.le_of_ble_eq_true rfl) ?_
  refine V0_aload_n (pc := 69) dX2_take_69 rfl ?_
  refine V_getr (pc := 70) dX2_take_70 flX2_21 hq.1 rfl ?_
  refine V0_iconst (pc := 73) (0) dX2_take_73 (by decide) ?_
  refine V0_aload_n (pc := 74) dX2_take_74 rfl ?_
  refine V_getr (pc := 75) dX2_take_75 flX2_21 hp.1 rfl ?_
  refine V0_iconst (pc := 78) (0) dX2_take_78 (by decide) ?_
  refine V0_bipush (pc := 79) (6) dX2_take_79 (by decide) ?_
  refine V_copyi (pc := 81) 0 0 6 rfl dX2_take_81 mlX2_37 hq.2.2.2.2.1 hp.2.2.2.2.1 nI_0.symm nI_0.symm rfl (by omega) (by omega) (Nat.le_of_ble_eq_true rfl) (Nat.le_of_ble_eq_true rfl) ?_
  refine V0_aload_n (pc := 84) dX2_take_84 rfl ?_
  refine V0_aload_n (pc := 85) dX2_take_85 rfl ?_
  refine V_geti (pc := 86) dX2_take_86 flX2_43 hq.1 rfl ?_
  refine V_puti (pc := 89) dX2_take_89 flX2_43 hp.1 rfl ?_
  refine V0_aload_n (pc := 92) dX2_take_92 rfl ?_
  refine V0_aload_n (pc := 93) dX2_take_93 rfl ?_
  refine V_geti (pc := 94) dX2_take_94 flX2_47 hq.1 rfl ?_
  refine V_puti (pc := 97) dX2_take_97 flX2_47 hp.1 rfl ?_
  refine V_retv (pc := 100) dX2_take_100 rfl ?_
  exact ⟨rfl, rfl, rfl⟩
/-! the street -/
def s_is (x n c : Int32) : Bool := !decide (x < 0) && decide (x < n) && decide (x < c)
abbrev g_isP (I : px_I) (x : Int32) : Bool := s_is x (I 1 6) 7
abbrev g_isJ (I : px_I) (x : Int32) : Bool := s_is x (I 1 7) 10
theorem c_X7_isPerson {l : Launch} {I : px_I} {J : px_J} {x : Int32} : CtI l mX7_isPerson 0 [.ref 1, .int x] I J (b2 (g_isP I x)) := by
  refine Ct.of plX7_isPerson (Nat.le_of_ble_eq_true rfl) [.ref 1, .int x] rfl ?_
  refine V0_iload_n (pc := 0) dX7_isPerson_0 rfl ?_
  refine V0_if_lt (pc := 1) 22 dX7_isPerson_1 (by decide) (fun h1 => ?_) (fun h1 => ?_)
  · skip
    refine V0_iconst (pc := 22) (0) dX7_isPerson_22 (by decide) ?_
    refine V_retz (pc := 23) _ dX7_isPerson_23 rfl (Or.inl rfl) ?_
    refine px_li ?_
    simp [s_is, b2, *]
  · skip
    refine V0_iload_n (pc := 4) dX7_isPerson_4 rfl ?_
    refine V0_aload_n (pc := 5) dX7_isPerson_5 rfl ?_
    refine V_geti (pc := 6) dX7_isPerson_6 flX7_37 rfl rfl ?_
    refine V1_icmp_ge (pc := 9) 22 dX7_isPerson_9 (by decide) (fun h9 => ?_) (fun h9 => ?_)
    · skip
      refine V0_iconst (pc := 22) (0) dX7_isPerson_22 (by decide) ?_
      refine V_retz (pc := 23) _ dX7_isPerson_23 rfl (Or.inl rfl) ?_
      refine px_li ?_
      simp [s_is, b2, *]
    · skip
      refine V0_iload_n (pc := 12) dX7_isPerson_12 rfl ?_
      refine V0_bipush (pc := 13) (7) dX7_isPerson_13 (by decide) ?_
      refine V1_icmp_ge (pc := 15) 22 dX7_isPerson_15 (by decide) (fun h15 => ?_) (fun h15 => ?_)
      · skip
        refine V0_iconst (pc := 22) (0) dX7_isPerson_22 (by decide) ?_
        refine V_retz (pc := 23) _ dX7_isPerson_23 rfl (Or.inl rfl) ?_
        refine px_li ?_
        simp [s_is, b2, *]
      · skip
        refine V0_iconst (pc := 18) (1) dX7_isPerson_18 (by decide) ?_
        refine V0_goto (pc := 19) 23 dX7_isPerson_19 (by decide) ?_
        refine V_retz (pc := 23) _ dX7_isPerson_23 rfl (Or.inr rfl) ?_
        refine px_li ?_
        simp [s_is, b2, *]
theorem c_X7_isJoy {l : Launch} {I : px_I} {J : px_J} {x : Int32} : CtI l mX7_isJoy 0 [.ref 1, .int x] I J (b2 (g_isJ I x)) := by
  refine Ct.of plX7_isJoy (Nat.le_of_ble_eq_true rfl) [.ref 1, .int x] rfl ?_
  refine V0_iload_n (pc := 0) dX7_isJoy_0 rfl ?_
  refine V0_if_lt (pc := 1) 22 dX7_isJoy_1 (by decide) (fun h1 => ?_) (fun h1 => ?_)
  · skip
    refine V0_iconst (pc := 22) (0) dX7_isJoy_22 (by decide) ?_
    refine V_retz (pc := 23) _ dX7_isJoy_23 rfl (Or.inl rfl) ?_
    refine px_li ?_
    simp [s_is, b2, *]
  · skip
    refine V0_iload_n (pc := 4) dX7_isJoy_4 rfl ?_
    refine V0_aload_n (pc := 5) dX7_isJoy_5 rfl ?_
    refine V_geti (pc := 6) dX7_isJoy_6 flX7_40 rfl rfl ?_
    refine V1_icmp_ge (pc := 9) 22 dX7_isJoy_9 (by decide) (fun h9 => ?_) (fun h9 => ?_)
    · skip
      refine V0_iconst (pc := 22) (0) dX7_isJoy_22 (by decide) ?_
      refine V_retz (pc := 23) _ dX7_isJoy_23 rfl (Or.inl rfl) ?_
      refine px_li ?_
      simp [s_is, b2, *]
    · skip
      refine V0_iload_n (pc := 12) dX7_isJoy_12 rfl ?_
      refine V0_bipush (pc := 13) (10) dX7_isJoy_13 (by decide) ?_
      refine V1_icmp_ge (pc := 15) 22 dX7_isJoy_15 (by decide) (fun h15 => ?_) (fun h15 => ?_)
      · skip
        refine V0_iconst (pc := 22) (0) dX7_isJoy_22 (by decide) ?_
        refine V_retz (pc := 23) _ dX7_isJoy_23 rfl (Or.inl rfl) ?_
        refine px_li ?_
        simp [s_is, b2, *]
      · skip
        refine V0_iconst (pc := 18) (1) dX7_isJoy_18 (by decide) ?_
        refine V0_goto (pc := 19) 23 dX7_isJoy_19 (by decide) ?_
        refine V_retz (pc := 23) _ dX7_isJoy_23 rfl (Or.inr rfl) ?_
        refine px_li ?_
        simp [s_is, b2, *]
def g_addJoy (I : px_I) (n : Nat) (of due : Int32) : px_I := px_up (px_up (px_up (px_up (px_up (px_up I 2 n of) 3 n due) 4 n 2) 5 n 9) 6 n 5) 1 7 (nI (n + 1))
def px_qi (x : Int32) (I1 : px_I) (J1 : px_J) : px_Q := fun r I' J' => r = some (.int x) ∧ I' = I1 ∧ J' = J1
theorem c_X7_addJoy {l : Launch} {I : px_I} {J : px_J} {n : Nat} {of due : Int32} (hn : I 1 7 = nI n) (hn10 : n ≤ 10) : Ct l mX7_addJoy 0 [.ref 1, .int of, .int due] I J (px_qi (if n < 10 then nI n else -3) (if n < 10 then g_addJoy I n of due else I) J) := by
  refine Ct.of plX7_addJoy (Nat.le_of_ble_eq_true rfl) [.ref 1, .int of, .int due] rfl ?_
  refine V0_aload_n (pc := 0) dX7_addJoy_0 rfl ?_
  refine V_geti (pc := 1) dX7_addJoy_1 flX7_40 rfl rfl ?_
  refine V0_bipush (pc := 4) (10) dX7_addJoy_4 (by decide) ?_
  rw [hn]
  refine V0_icmp_lt (pc := 6) 12 dX7_addJoy_6 (by decide) (fun h6 => ?_) (fun h6 => ?_)
  · skip
    have h10 : n < 10 := px_ltc 10 rfl h6 (by omega) (by omega)
    refine V0_aload_n (pc := 12) dX7_addJoy_12 rfl ?_
    refine V_getr (pc := 13) dX7_addJoy_13 flX7_9 rfl rfl ?_
    refine V0_aload_n (pc := 16) dX7_addJoy_16 rfl ?_
    refine V_geti (pc := 17) dX7_addJoy_17 flX7_40 rfl rfl ?_
    refine V0_iload_n (pc := 20) dX7_addJoy_20 rfl ?_
    refine V_iast (pc := 21) n dX7_addJoy_21 rfl hn (by omega) ?_
    refine V0_aload_n (pc := 22) dX7_addJoy_22 rfl ?_
    refine V_getr (pc := 23) dX7_addJoy_23 flX7_15 rfl rfl ?_
    refine V0_aload_n (pc := 26) dX7_addJoy_26 rfl ?_
    refine V_geti (pc := 27) dX7_addJoy_27 flX7_40 rfl rfl ?_
    refine V0_iload_n (pc := 30) dX7_addJoy_30 rfl ?_
    refine V_iast (pc := 31) n dX7_addJoy_31 rfl (by simp [px_up_at, hn]) (by omega) ?_
    refine V0_aload_n (pc := 32) dX7_addJoy_32 rfl ?_
    refine V_getr (pc := 33) dX7_addJoy_33 flX7_18 rfl rfl ?_
    refine V0_aload_n (pc := 36) dX7_addJoy_36 rfl ?_
    refine V_geti (pc := 37) dX7_addJoy_37 flX7_40 rfl rfl ?_
    refine V0_iconst (pc := 40) (2) dX7_addJoy_40 (by decide) ?_
    refine V_iast (pc := 41) n dX7_addJoy_41 rfl (by simp [px_up_at, hn]) (by omega) ?_
    refine V0_aload_n (pc := 42) dX7_addJoy_42 rfl ?_
    refine V_getr (pc := 43) dX7_addJoy_43 flX7_21 rfl rfl ?_
    refine V0_aload_n (pc := 46) dX7_addJoy_46 rfl ?_
    refine V_geti (pc := 47) dX7_addJoy_47 flX7_40 rfl rfl ?_
    refine V0_bipush (pc := 50) (9) dX7_addJoy_50 (by decide) ?_
    refine V_iast (pc := 52) n dX7_addJoy_52 rfl (by simp [px_up_at, hn]) (by omega) ?_
    refine V0_aload_n (pc := 53) dX7_addJoy_53 rfl ?_
    refine V_getr (pc := 54) dX7_addJoy_54 flX7_24 rfl rfl ?_
    refine V0_aload_n (pc := 57) dX7_addJoy_57 rfl ?_
    refine V_geti (pc := 58) dX7_addJoy_58 flX7_40 rfl rfl ?_
    refine V0_iconst (pc := 61) (5) dX7_addJoy_61 (by decide) ?_
    refine V_iast (pc := 62) n dX7_addJoy_62 rfl (by simp [px_up_at, hn]) (by omega) ?_
    refine V0_aload_n (pc := 63) dX7_addJoy_63 rfl ?_
    refine V0_dup (pc := 64) dX7_addJoy_64 rfl ?_
    refine V_geti (pc := 65) dX7_addJoy_65 flX7_40 rfl rfl ?_
    refine V0_dup_x1 (pc := 68) dX7_addJoy_68 rfl rfl ?_
    refine V0_iconst (pc := 69) (1) dX7_addJoy_69 (by decide) ?_
    refine V0_iadd (pc := 70) dX7_addJoy_70 ?_
    refine V_puti (pc := 71) dX7_addJoy_71 flX7_40 rfl rfl ?_
    refine V_reti (pc := 74) _ dX7_addJoy_74 rfl ?_
    exact ⟨by simp [h10, px_up_at, hn], by simp [h10, g_addJoy, px_up_at, hn, nI_1], rfl⟩
  · skip
    have h10 : ¬ n < 10 := by have := px_gec 10 rfl h6 (by omega) (by omega); omega
    refine V0_bipush (pc := 9) (-3) dX7_addJoy_9 (by decide) ?_
    refine V_reti (pc := 11) _ dX7_addJoy_11 rfl ?_
    exact ⟨by simp [h10], by simp [h10], rfl⟩
/-! the numbers -/
abbrev s_least : Nat → Int32 := px_lst [0, 0, 1, 0, 0, 0, 0, 0, 0, 2, 1, 0]
abbrev s_most : Nat → Int32 := px_lst [11, 99, 9, 40, 9, 3, 9, 1, 1, 30, 9, 199]
def s_mayBe (w v : Int32) : Bool := !decide (w < 0) && decide (w < 12) && !decide (v < s_least (ix w)) && !decide (s_most (ix w) < v)
theorem c_X4_mayBe {l : Launch} {I : px_I} {J : px_J} {w v : Int32} : CtI l mX4_mayBe 0 [.int w, .int v] I J (b2 (s_mayBe w v)) := by
  refine Ct.of plX4_mayBe (Nat.le_of_ble_eq_true rfl) [.int w, .int v] rfl ?_
  refine V0_iload_n (pc := 0) dX4_mayBe_0 rfl ?_
  refine V0_if_lt (pc := 1) 42 dX4_mayBe_1 (by decide) (fun h1 => ?_) (fun h1 => ?_)
  · skip
    refine V0_iconst (pc := 42) (0) dX4_mayBe_42 (by decide) ?_
    refine V_retz (pc := 43) _ dX4_mayBe_43 rfl (Or.inl rfl) ?_
    refine px_li ?_
    first | (simp [s_mayBe, b2, *]; done) | exact absurd h9 h17
  · skip
    refine V0_iload_n (pc := 4) dX4_mayBe_4 rfl ?_
    refine V0_gets (pc := 5) 0 dX4_mayBe_5 rfl fsX4_19 ?_
    refine V0_talen (pc := 8) (n := 12) (f := s_least) dX4_mayBe_8 rfl ?_
    refine V_topc (12) rfl ?_
    refine V1_icmp_ge (pc := 9) 42 dX4_mayBe_9 (by decide) (fun h9 => ?_) (fun h9 => ?_)
    · skip
      refine V0_iconst (pc := 42) (0) dX4_mayBe_42 (by decide) ?_
      refine V_retz (pc := 43) _ dX4_mayBe_43 rfl (Or.inl rfl) ?_
      refine px_li ?_
      first | (simp [s_mayBe, b2, *]; done) | exact absurd h9 h17
    · skip
      refine V0_iload_n (pc := 12) dX4_mayBe_12 rfl ?_
      refine V0_gets (pc := 13) 1 dX4_mayBe_13 rfl fsX4_23 ?_
      refine V0_talen (pc := 16) (n := 12) (f := s_most) dX4_mayBe_16 rfl ?_
      refine V_topc (12) rfl ?_
      refine V1_icmp_ge (pc := 17) 42 dX4_mayBe_17 (by decide) (fun h17 => ?_) (fun h17 => ?_)
      · skip
        refine V0_iconst (pc := 42) (0) dX4_mayBe_42 (by decide) ?_
        refine V_retz (pc := 43) _ dX4_mayBe_43 rfl (Or.inl rfl) ?_
        refine px_li ?_
        first | (simp [s_mayBe, b2, *]; done) | exact absurd h9 h17
      · skip
        refine V0_iload_n (pc := 20) dX4_mayBe_20 rfl ?_
        refine V0_gets (pc := 21) 0 dX4_mayBe_21 rfl fsX4_19 ?_
        refine V0_iload_n (pc := 24) dX4_mayBe_24 rfl ?_
        refine V_tald (pc := 25) (n := 12) (f := s_least) (ix w) dX4_mayBe_25 rfl (by decide) (nI_ix h1) (ix_lt (n := 12) h1 (by omega) h9) ?_
        refine V0_icmp_lt (pc := 26) 42 dX4_mayBe_26 (by decide) (fun h26 => ?_) (fun h26 => ?_)
        · skip
          refine V0_iconst (pc := 42) (0) dX4_mayBe_42 (by decide) ?_
          refine V_retz (pc := 43) _ dX4_mayBe_43 rfl (Or.inl rfl) ?_
          refine px_li ?_
          first | (simp [s_mayBe, b2, *]; done) | exact absurd h9 h17
        · skip
          refine V0_iload_n (pc := 29) dX4_mayBe_29 rfl ?_
          refine V0_gets (pc := 30) 1 dX4_mayBe_30 rfl fsX4_23 ?_
          refine V0_iload_n (pc := 33) dX4_mayBe_33 rfl ?_
          refine V_tald (pc := 34) (n := 12) (f := s_most) (ix w) dX4_mayBe_34 rfl (by decide) (nI_ix h1) (ix_lt (n := 12) h1 (by omega) h9) ?_
          refine V0_icmp_gt (pc := 35) 42 dX4_mayBe_35 (by decide) (fun h35 => ?_) (fun h35 => ?_)
          · skip
            refine V0_iconst (pc := 42) (0) dX4_mayBe_42 (by decide) ?_
            refine V_retz (pc := 43) _ dX4_mayBe_43 rfl (Or.inl rfl) ?_
            refine px_li ?_
            first | (simp [s_mayBe, b2, *]; done) | exact absurd h9 h17
          · skip
            refine V0_iconst (pc := 38) (1) dX4_mayBe_38 (by decide) ?_
            refine V0_goto (pc := 39) 43 dX4_mayBe_39 (by decide) ?_
            refine V_retz (pc := 43) _ dX4_mayBe_43 rfl (Or.inr rfl) ?_
            refine px_li ?_
            first | (simp [s_mayBe, b2, *]; done) | exact absurd h9 h17
def g_there (I : px_I) (n w : Int32) : Bool := if w < 0 ∨ 11 < w then false else if w = 0 then g_isP I n else if w < 8 then g_isJ I n else decide (n = 0)
theorem c_X4_isThere {l : Launch} {I : px_I} {J : px_J} {n w : Int32} : CtI l mX4_isThere 1 [.ref 13, .int n, .int w] I J (b2 (g_there I n w)) := by
  refine Ct.of plX4_isThere (Nat.le_of_ble_eq_true rfl) [.ref 13, .int n, .int w] rfl ?_
  refine V0_iload_n (pc := 0) dX4_isThere_0 rfl ?_
  refine V0_if_lt (pc := 1) 10 dX4_isThere_1 (by decide) (fun h1 => ?_) (fun h1 => ?_)
  · skip
    refine V0_iconst (pc := 10) (0) dX4_isThere_10 (by decide) ?_
    refine V_retz (pc := 11) _ dX4_isThere_11 rfl (Or.inl rfl) ?_
    refine px_li ?_
    simp [g_there, b2, *]
  · skip
    refine V0_iload_n (pc := 4) dX4_isThere_4 rfl ?_
    refine V0_bipush (pc := 5) (11) dX4_isThere_5 (by decide) ?_
    refine V1_icmp_le (pc := 7) 12 dX4_isThere_7 (by decide) (fun h7 => ?_) (fun h7 => ?_)
    · skip
      refine V0_iload_n (pc := 12) dX4_isThere_12 rfl ?_
      refine V0_if_ne (pc := 13) 25 dX4_isThere_13 (by decide) (fun h13 => ?_) (fun h13 => ?_)
      · skip
        refine V0_iload_n (pc := 25) dX4_isThere_25 rfl ?_
        refine V0_bipush (pc := 26) (8) dX4_isThere_26 (by decide) ?_
        refine V1_icmp_ge (pc := 28) 42 dX4_isThere_28 (by decide) (fun h28 => ?_) (fun h28 => ?_)
        · skip
          refine V0_iload_n (pc := 42) dX4_isThere_42 rfl ?_
          refine V0_if_ne (pc := 43) 50 dX4_isThere_43 (by decide) (fun h43 => ?_) (fun h43 => ?_)
          · skip
            refine V0_iconst (pc := 50) (0) dX4_isThere_50 (by decide) ?_
            refine V_retz (pc := 51) _ dX4_isThere_51 rfl (Or.inl rfl) ?_
            refine px_li ?_
            simp [g_there, b2, *]
          · skip
            refine V0_iconst (pc := 46) (1) dX4_isThere_46 (by decide) ?_
            refine V0_goto (pc := 47) 51 dX4_isThere_47 (by decide) ?_
            refine V_retz (pc := 51) _ dX4_isThere_51 rfl (Or.inr rfl) ?_
            refine px_li ?_
            simp [g_there, b2, *]
        · skip
          refine V0_aload_n (pc := 31) dX4_isThere_31 rfl ?_
          refine V_getr (pc := 32) dX4_isThere_32 flX4_9 rfl rfl ?_
          refine V0_iload_n (pc := 35) dX4_isThere_35 rfl ?_
          refine V_callVi (pc := 36) (M' := mX7_isJoy) dX4_isThere_36 mlX4_32 okX7_isJoy rfl c_X7_isJoy rfl rfl rfl rfl ⟨Nat.le_of_ble_eq_true rfl, Nat.le_of_ble_eq_true rfl⟩ ⟨Nat.le_refl 0, Nat.le_refl 0⟩ (Nat.le_of_ble_eq_true rfl) ?_
          refine V0_goto (pc := 39) 51 dX4_isThere_39 (by decide) ?_
          refine V_retz (pc := 51) _ dX4_isThere_51 rfl (b2_01 _) ?_
          refine px_li ?_
          simp [g_there, b2, *]
      · skip
        refine V0_aload_n (pc := 16) dX4_isThere_16 rfl ?_
        refine V_getr (pc := 17) dX4_isThere_17 flX4_9 rfl rfl ?_
        refine V0_iload_n (pc := 20) dX4_isThere_20 rfl ?_
        refine V_callVi (pc := 21) (M' := mX7_isPerson) dX4_isThere_21 mlX4_26 okX7_isPerson rfl c_X7_isPerson rfl rfl rfl rfl ⟨Nat.le_of_ble_eq_true rfl, Nat.le_of_ble_eq_true rfl⟩ ⟨Nat.le_refl 0, Nat.le_refl 0⟩ (Nat.le_of_ble_eq_true rfl) ?_
        refine V_retz (pc := 24) _ dX4_isThere_24 rfl (b2_01 _) ?_
        refine px_li ?_
        simp [g_there, b2, *]
    · skip
      refine V0_iconst (pc := 10) (0) dX4_isThere_10 (by decide) ?_
      refine V_retz (pc := 11) _ dX4_isThere_11 rfl (Or.inl rfl) ?_
      refine px_li ?_
      simp [g_there, b2, *]
def g_lst (w : Int32) : Nat := if w = 0 then 9 else if w = 1 then 3 else if w = 2 then 4 else if w = 3 then 5 else if w = 4 then 6 else if w = 5 then 7 else if w = 6 then 10 else 11
def g_len (w : Int32) : Nat := if w = 0 then 7 else 10
theorem g_lst_sh (w : Int32) : px_sh[g_lst w]? = some (.inl (0, g_len w)) := by
  unfold g_lst g_len
  repeat' split
  all_goals first | rfl | simp_all
theorem c_X4_listOf {l : Launch} {I : px_I} {J : px_J} {w : Int32} : Ct l mX4_listOf 0 [.ref 13, .int w] I J (fun r I' J' => r = some (.ref (g_lst w)) ∧ I' = I ∧ J' = J) := by
  refine Ct.of plX4_listOf (Nat.le_of_ble_eq_true rfl) [.ref 13, .int w] rfl ?_
  refine V0_iload_n (pc := 0) dX4_listOf_0 rfl ?_
  by_cases s1_0 : w = (0)
  · refine V_tabIn (pc := 1) (off := 43) (0) 44 dX4_listOf_1 s1_0 (by decide) (by decide) (by decide) (by decide) ?_
    refine V0_aload_n (pc := 44) dX4_listOf_44 rfl ?_
    refine V_getr (pc := 45) dX4_listOf_45 flX4_15 rfl rfl ?_
    refine V_getr (pc := 48) dX4_listOf_48 flX4_58 rfl rfl ?_
    refine V_retr (pc := 51) _ dX4_listOf_51 rfl (Or.inr ⟨_, rfl⟩) ?_
    exact ⟨by simp [g_lst, *], rfl, rfl⟩
  by_cases s1_1 : w = (1)
  · refine V_tabIn (pc := 1) (off := 51) (1) 52 dX4_listOf_1 s1_1 (by decide) (by decide) (by decide) (by decide) ?_
    refine V0_aload_n (pc := 52) dX4_listOf_52 rfl ?_
    refine V_getr (pc := 53) dX4_listOf_53 flX4_9 rfl rfl ?_
    refine V_getr (pc := 56) dX4_listOf_56 flX4_61 rfl rfl ?_
    refine V_retr (pc := 59) _ dX4_listOf_59 rfl (Or.inr ⟨_, rfl⟩) ?_
    exact ⟨by simp [g_lst, *], rfl, rfl⟩
  by_cases s1_2 : w = (2)
  · refine V_tabIn (pc := 1) (off := 59) (2) 60 dX4_listOf_1 s1_2 (by decide) (by decide) (by decide) (by decide) ?_
    refine V0_aload_n (pc := 60) dX4_listOf_60 rfl ?_
    refine V_getr (pc := 61) dX4_listOf_61 flX4_9 rfl rfl ?_
    refine V_getr (pc := 64) dX4_listOf_64 flX4_64 rfl rfl ?_
    refine V_retr (pc := 67) _ dX4_listOf_67 rfl (Or.inr ⟨_, rfl⟩) ?_
    exact ⟨by simp [g_lst, *], rfl, rfl⟩
  by_cases s1_3 : w = (3)
  · refine V_tabIn (pc := 1) (off := 67) (3) 68 dX4_listOf_1 s1_3 (by decide) (by decide) (by decide) (by decide) ?_
    refine V0_aload_n (pc := 68) dX4_listOf_68 rfl ?_
    refine V_getr (pc := 69) dX4_listOf_69 flX4_9 rfl rfl ?_
    refine V_getr (pc := 72) dX4_listOf_72 flX4_67 rfl rfl ?_
    refine V_retr (pc := 75) _ dX4_listOf_75 rfl (Or.inr ⟨_, rfl⟩) ?_
    exact ⟨by simp [g_lst, *], rfl, rfl⟩
  by_cases s1_4 : w = (4)
  · refine V_tabIn (pc := 1) (off := 75) (4) 76 dX4_listOf_1 s1_4 (by decide) (by decide) (by decide) (by decide) ?_
    refine V0_aload_n (pc := 76) dX4_listOf_76 rfl ?_
    refine V_getr (pc := 77) dX4_listOf_77 flX4_9 rfl rfl ?_
    refine V_getr (pc := 80) dX4_listOf_80 flX4_70 rfl rfl ?_
    refine V_retr (pc := 83) _ dX4_listOf_83 rfl (Or.inr ⟨_, rfl⟩) ?_
    exact ⟨by simp [g_lst, *], rfl, rfl⟩
  by_cases s1_5 : w = (5)
  · refine V_tabIn (pc := 1) (off := 83) (5) 84 dX4_listOf_1 s1_5 (by decide) (by decide) (by decide) (by decide) ?_
    refine V0_aload_n (pc := 84) dX4_listOf_84 rfl ?_
    refine V_getr (pc := 85) dX4_listOf_85 flX4_9 rfl rfl ?_
    refine V_getr (pc := 88) dX4_listOf_88 flX4_73 rfl rfl ?_
    refine V_retr (pc := 91) _ dX4_listOf_91 rfl (Or.inr ⟨_, rfl⟩) ?_
    exact ⟨by simp [g_lst, *], rfl, rfl⟩
  by_cases s1_6 : w = (6)
  · refine V_tabIn (pc := 1) (off := 91) (6) 92 dX4_listOf_1 s1_6 (by decide) (by decide) (by decide) (by decide) ?_
    refine V0_aload_n (pc := 92) dX4_listOf_92 rfl ?_
    refine V_getr (pc := 93) dX4_listOf_93 flX4_15 rfl rfl ?_
    refine V_getr (pc := 96) dX4_listOf_96 flX4_76 rfl rfl ?_
    refine V_retr (pc := 99) _ dX4_listOf_99 rfl (Or.inr ⟨_, rfl⟩) ?_
    exact ⟨by simp [g_lst, *], rfl, rfl⟩
  refine V_tabOut (pc := 1) 100 dX4_listOf_1 (by have g0 := px_ne s1_0 (k := 0) (by decide); have g1 := px_ne s1_1 (k := 1) (by decide); have g2 := px_ne s1_2 (k := 2) (by decide); have g3 := px_ne s1_3 (k := 3) (by decide); have g4 := px_ne s1_4 (k := 4) (by decide); have g5 := px_ne s1_5 (k := 5) (by decide); have g6 := px_ne s1_6 (k := 6) (by decide); omega) (by decide) ?_
  refine V0_aload_n (pc := 100) dX4_listOf_100 rfl ?_
  refine V_getr (pc := 101) dX4_listOf_101 flX4_15 rfl rfl ?_
  refine V_getr (pc := 104) dX4_listOf_104 flX4_79 rfl rfl ?_
  refine V_retr (pc := 107) _ dX4_listOf_107 rfl (Or.inr ⟨_, rfl⟩) ?_
  exact ⟨by simp [g_lst, *], rfl, rfl⟩
theorem g_there_ix {I : px_I} {n w : Int32} (h : g_there I n w = true) (h8 : ¬ w = 8) (h9 : ¬ w = 9) (h10 : ¬ w = 10) (h11 : ¬ w = 11) : n = nI (ix n) ∧ ix n < g_len w := by
  unfold g_there at h
  have e8 : ¬ w = 0 → ¬ (w < 0 ∨ 11 < w) → w < 8 := by
    intro e0 e1
    apply px_nle.mp
    intro hle
    have g8 := px_ne h8 (k := 8) (by decide)
    have g9 := px_ne h9 (k := 9) (by decide)
    have g10 := px_ne h10 (k := 10) (by decide)
    have g11 := px_ne h11 (k := 11) (by decide)
    have b1 := Int32.le_iff_toInt_le.mp hle
    have b2' : ¬ 11 < w := fun q => e1 (Or.inr q)
    rw [px_nlt, Int32.le_iff_toInt_le] at b2'
    have c8 : (8 : Int32).toInt = 8 := by decide
    have c11 : (11 : Int32).toInt = 11 := by decide
    omega
  split at h
  · cases h
  · rename_i e1
    split at h
    · rename_i e0
      simp only [g_isP, s_is, Bool.and_eq_true, Bool.not_eq_true', decide_eq_false_iff_not, decide_eq_true_eq] at h
      obtain ⟨⟨a1, a2⟩, a3⟩ := h
      refine ⟨nI_ix a1, ?_⟩
      simp only [g_len, e0, if_true]
      exact ix_lt (n := 7) a1 (by omega) a3
    · rename_i e0
      rw [if_pos (e8 e0 e1)] at h
      simp only [g_isJ, s_is, Bool.and_eq_true, Bool.not_eq_true', decide_eq_false_iff_not, decide_eq_true_eq] at h
      obtain ⟨⟨a1, a2⟩, a3⟩ := h
      refine ⟨nI_ix a1, ?_⟩
      simp only [g_len, e0, if_false]
      exact ix_lt (n := 10) a1 (by omega) a3
def g_read (I : px_I) (n w : Int32) : Int32 := if w = 8 then I 8 4 else if w = 9 then I 1 8 else if w = 10 then I 1 9 else if w = 11 then I 8 5 else if g_there I n w = true then I (g_lst w) (ix n) else 0
theorem c_X4_read {l : Launch} {I : px_I} {J : px_J} {n w : Int32} : CtI l mX4_read 2 [.ref 13, .int n, .int w] I J (g_read I n w) := by
  refine Ct.of plX4_read (Nat.le_of_ble_eq_true rfl) [.ref 13, .int n, .int w] rfl ?_
  refine V0_iload_n (pc := 0) dX4_read_0 rfl ?_
  by_cases s1_0 : w = (8)
  · refine V_tabIn (pc := 1) (off := 31) (8) 32 dX4_read_1 s1_0 (by decide) (by decide) (by decide) (by decide) ?_
    refine V0_aload_n (pc := 32) dX4_read_32 rfl ?_
    refine V_getr (pc := 33) dX4_read_33 flX4_15 rfl rfl ?_
    refine V_geti (pc := 36) dX4_read_36 flX4_35 rfl rfl ?_
    refine V_reti (pc := 39) _ dX4_read_39 rfl ?_
    refine px_li ?_
    simp [g_read, *]
  by_cases s1_1 : w = (9)
  · refine V_tabIn (pc := 1) (off := 39) (9) 40 dX4_read_1 s1_1 (by decide) (by decide) (by decide) (by decide) ?_
    refine V0_aload_n (pc := 40) dX4_read_40 rfl ?_
    refine V_getr (pc := 41) dX4_read_41 flX4_9 rfl rfl ?_
    refine V_geti (pc := 44) dX4_read_44 flX4_41 rfl rfl ?_
    refine V_reti (pc := 47) _ dX4_read_47 rfl ?_
    refine px_li ?_
    simp [g_read, *]
  by_cases s1_2 : w = (10)
  · refine V_tabIn (pc := 1) (off := 47) (10) 48 dX4_read_1 s1_2 (by decide) (by decide) (by decide) (by decide) ?_
    refine V0_aload_n (pc := 48) dX4_read_48 rfl ?_
    refine V_getr (pc := 49) dX4_read_49 flX4_9 rfl rfl ?_
    refine V_geti (pc := 52) dX4_read_52 flX4_44 rfl rfl ?_
    refine V_reti (pc := 55) _ dX4_read_55 rfl ?_
    refine px_li ?_
    simp [g_read, *]
  by_cases s1_3 : w = (11)
  · refine V_tabIn (pc := 1) (off := 55) (11) 56 dX4_read_1 s1_3 (by decide) (by decide) (by decide) (by decide) ?_
    refine V0_aload_n (pc := 56) dX4_read_56 rfl ?_
    refine V_getr (pc := 57) dX4_read_57 flX4_15 rfl rfl ?_
    refine V_geti (pc := 60) dX4_read_60 flX4_47 rfl rfl ?_
    refine V_reti (pc := 63) _ dX4_read_63 rfl ?_
    refine px_li ?_
    simp [g_read, *]
  refine V_tabOut (pc := 1) 64 dX4_read_1 (by have g0 := px_ne s1_0 (k := 8) (by decide); have g1 := px_ne s1_1 (k := 9) (by decide); have g2 := px_ne s1_2 (k := 10) (by decide); have g3 := px_ne s1_3 (k := 11) (by decide); omega) (by decide) ?_
  refine V0_aload_n (pc := 64) dX4_read_64 rfl ?_
  refine V0_iload_n (pc := 65) dX4_read_65 rfl ?_
  refine V0_iload_n (pc := 66) dX4_read_66 rfl ?_
  refine V_callVi (pc := 67) (M' := mX4_isThere) dX4_read_67 mlX4_50 okX4_isThere rfl c_X4_isThere rfl rfl rfl rfl ⟨Nat.le_of_ble_eq_true rfl, Nat.le_of_ble_eq_true rfl⟩ ⟨Nat.le_refl 0, Nat.le_refl 0⟩ (Nat.le_of_ble_eq_true rfl) ?_
  refine V_ifeqb (pc := 70) 83 dX4_read_70 (by decide) (fun h70 => ?_) (fun h70 => ?_)
  · skip
    refine V0_iconst (pc := 83) (0) dX4_read_83 (by decide) ?_
    refine V_reti (pc := 84) _ dX4_read_84 rfl ?_
    refine px_li ?_
    simp [g_read, *]
  · skip
    refine V0_aload_n (pc := 73) dX4_read_73 rfl ?_
    refine V0_iload_n (pc := 74) dX4_read_74 rfl ?_
    refine V_callV (pc := 75) (M' := mX4_listOf) dX4_read_75 mlX4_54 okX4_listOf rfl c_X4_listOf rfl rfl rfl rfl ⟨Nat.le_of_ble_eq_true rfl, Nat.le_of_ble_eq_true rfl⟩ ⟨Nat.le_refl 0, Nat.le_refl 0⟩ (Nat.le_of_ble_eq_true rfl) ?_
    intro r1 I1 J1 hh
    obtain ⟨e1, e2, e3⟩ := hh
    rw [e1, e2, e3]
    clear e1 e2 e3 r1 I1 J1
    refine V0_iload_n (pc := 78) dX4_read_78 rfl ?_
    refine V_iald (pc := 79) (ix n) dX4_read_79 (g_lst_sh w) (g_there_ix h70 s1_0 s1_1 s1_2 s1_3).1 (g_there_ix h70 s1_0 s1_1 s1_2 s1_3).2 ?_
    refine V0_goto (pc := 80) 84 dX4_read_80 (by decide) ?_
    refine V_reti (pc := 84) _ dX4_read_84 rfl ?_
    refine px_li ?_
    simp [g_read, *]
def g_write (I : px_I) (n w v : Int32) : px_I := if w = 8 then px_up I 8 4 v else if w = 9 then px_up I 1 8 v else if w = 10 then px_up I 1 9 v else if w = 11 then px_up I 8 5 v else if g_there I n w = true then px_up I (g_lst w) (ix n) v else I
theorem c_X4_write {l : Launch} {I : px_I} {J : px_J} {n w v : Int32} : Ct l mX4_write 2 [.ref 13, .int n, .int w, .int v] I J (px_qs (g_write I n w v) J) := by
  refine Ct.of plX4_write (Nat.le_of_ble_eq_true rfl) [.ref 13, .int n, .int w, .int v] rfl ?_
  refine V0_iload_n (pc := 0) dX4_write_0 rfl ?_
  by_cases s1_0 : w = (8)
  · refine V_tabIn (pc := 1) (off := 31) (8) 32 dX4_write_1 s1_0 (by decide) (by decide) (by decide) (by decide) ?_
    refine V0_aload_n (pc := 32) dX4_write_32 rfl ?_
    refine V_getr (pc := 33) dX4_write_33 flX4_15 rfl rfl ?_
    refine V0_iload_n (pc := 36) dX4_write_36 rfl ?_
    refine V_puti (pc := 37) dX4_write_37 flX4_35 rfl rfl ?_
    refine V0_goto (pc := 40) 93 dX4_write_40 (by decide) ?_
    refine V_retv (pc := 93) dX4_write_93 rfl ?_
    exact ⟨rfl, by simp [g_write, *], rfl⟩
  by_cases s1_1 : w = (9)
  · refine V_tabIn (pc := 1) (off := 42) (9) 43 dX4_write_1 s1_1 (by decide) (by decide) (by decide) (by decide) ?_
    refine V0_aload_n (pc := 43) dX4_write_43 rfl ?_
    refine V_getr (pc := 44) dX4_write_44 flX4_9 rfl rfl ?_
    refine V0_iload_n (pc := 47) dX4_write_47 rfl ?_
    refine V_puti (pc := 48) dX4_write_48 flX4_41 rfl rfl ?_
    refine V0_goto (pc := 51) 93 dX4_write_51 (by decide) ?_
    refine V_retv (pc := 93) dX4_write_93 rfl ?_
    exact ⟨rfl, by simp [g_write, *], rfl⟩
  by_cases s1_2 : w = (10)
  · refine V_tabIn (pc := 1) (off := 53) (10) 54 dX4_write_1 s1_2 (by decide) (by decide) (by decide) (by decide) ?_
    refine V0_aload_n (pc := 54) dX4_write_54 rfl ?_
    refine V_getr (pc := 55) dX4_write_55 flX4_9 rfl rfl ?_
    refine V0_iload_n (pc := 58) dX4_write_58 rfl ?_
    refine V_puti (pc := 59) dX4_write_59 flX4_44 rfl rfl ?_
    refine V0_goto (pc := 62) 93 dX4_write_62 (by decide) ?_
    refine V_retv (pc := 93) dX4_write_93 rfl ?_
    exact ⟨rfl, by simp [g_write, *], rfl⟩
  by_cases s1_3 : w = (11)
  · refine V_tabIn (pc := 1) (off := 64) (11) 65 dX4_write_1 s1_3 (by decide) (by decide) (by decide) (by decide) ?_
    refine V0_aload_n (pc := 65) dX4_write_65 rfl ?_
    refine V_getr (pc := 66) dX4_write_66 flX4_15 rfl rfl ?_
    refine V0_iload_n (pc := 69) dX4_write_69 rfl ?_
    refine V_puti (pc := 70) dX4_write_70 flX4_47 rfl rfl ?_
    refine V0_goto (pc := 73) 93 dX4_write_73 (by decide) ?_
    refine V_retv (pc := 93) dX4_write_93 rfl ?_
    exact ⟨rfl, by simp [g_write, *], rfl⟩
  refine V_tabOut (pc := 1) 76 dX4_write_1 (by have g0 := px_ne s1_0 (k := 8) (by decide); have g1 := px_ne s1_1 (k := 9) (by decide); have g2 := px_ne s1_2 (k := 10) (by decide); have g3 := px_ne s1_3 (k := 11) (by decide); omega) (by decide) ?_
  refine V0_aload_n (pc := 76) dX4_write_76 rfl ?_
  refine V0_iload_n (pc := 77) dX4_write_77 rfl ?_
  refine V0_iload_n (pc := 78) dX4_write_78 rfl ?_
  refine V_callVi (pc := 79) (M' := mX4_isThere) dX4_write_79 mlX4_50 okX4_isThere rfl c_X4_isThere rfl rfl rfl rfl ⟨Nat.le_of_ble_eq_true rfl, Nat.le_of_ble_eq_true rfl⟩ ⟨Nat.le_refl 0, Nat.le_refl 0⟩ (Nat.le_of_ble_eq_true rfl) ?_
  refine V_ifeqb (pc := 82) 93 dX4_write_82 (by decide) (fun h82 => ?_) (fun h82 => ?_)
  · skip
    refine V_retv (pc := 93) dX4_write_93 rfl ?_
    exact ⟨rfl, by simp [g_write, *], rfl⟩
  · skip
    refine V0_aload_n (pc := 85) dX4_write_85 rfl ?_
    refine V0_iload_n (pc := 86) dX4_write_86 rfl ?_
    refine V_callV (pc := 87) (M' := mX4_listOf) dX4_write_87 mlX4_54 okX4_listOf rfl c_X4_listOf rfl rfl rfl rfl ⟨Nat.le_of_ble_eq_true rfl, Nat.le_of_ble_eq_true rfl⟩ ⟨Nat.le_refl 0, Nat.le_refl 0⟩ (Nat.le_of_ble_eq_true rfl) ?_
    intro r1 I1 J1 hh
    obtain ⟨e1, e2, e3⟩ := hh
    rw [e1, e2, e3]
    clear e1 e2 e3 r1 I1 J1
    refine V0_iload_n (pc := 90) dX4_write_90 rfl ?_
    refine V0_iload_n (pc := 91) dX4_write_91 rfl ?_
    refine V_iast (pc := 92) (ix n) dX4_write_92 (g_lst_sh w) (g_there_ix h82 s1_0 s1_1 s1_2 s1_3).1 (g_there_ix h82 s1_0 s1_1 s1_2 s1_3).2 ?_
    refine V_retv (pc := 93) dX4_write_93 rfl ?_
    exact ⟨rfl, by simp [g_write, *], rfl⟩
/-! the changes -/
def g_forget (I : px_I) : px_I := px_up (px_cp (px_cp (px_cp (px_cp I 29 1 29 0 39) 30 1 30 0 39) 31 1 31 0 39) 32 1 32 0 39) 28 5 39
theorem c_X1_forgetOldest {l : Launch} {I : px_I} {J : px_J} : Ct l mX1_forgetOldest 1 [.ref 28] I J (px_qs (g_forget I) J) := by
  refine Ct.of plX1_forgetOldest (Nat.le_of_ble_eq_true rfl) [.ref 28] rfl ?_
  refine V0_aload_n (pc := 0) dX1_forgetOldest_0 rfl ?_
  refine V_getr (pc := 1) dX1_forgetOldest_1 flX1_9 rfl rfl ?_
  refine V0_iconst (pc := 4) (1) dX1_forgetOldest_4 (by decide) ?_
  refine V0_aload_n (pc := 5) dX1_forgetOldest_5 rfl ?_
  refine V_getr (pc := 6) dX1_forgetOldest_6 flX1_9 rfl rfl ?_
  refine V0_iconst (pc := 9) (0) dX1_forgetOldest_9 (by decide) ?_
  refine V0_bipush (pc := 10) (39) dX1_forgetOldest_10 (by decide) ?_
  refine V_copyi (pc := 12) 1 0 39 rfl dX1_forgetOldest_12 mlX1_36 rfl rfl (by decide) (by decide) (by decide) (by decide) (by decide) (Nat.le_of_ble_eq_true rfl) (Nat.le_of_ble_eq_true rfl) ?_
  refine V0_aload_n (pc := 15) dX1_forgetOldest_15 rfl ?_
  refine V_getr (pc := 16) dX1_forgetOldest_16 flX1_13 rfl rfl ?_
  refine V0_iconst (pc := 19) (1) dX1_forgetOldest_19 (by decide) ?_
  refine V0_aload_n (pc := 20) dX1_forgetOldest_20 rfl ?_
  refine V_getr (pc := 21) dX1_forgetOldest_21 flX1_13 rfl rfl ?_
  refine V0_iconst (pc := 24) (0) dX1_forgetOldest_24 (by decide) ?_
  refine V0_bipush (pc := 25) (39) dX1_forgetOldest_25 (by decide) ?_
  refine V_copyi (pc := 27) 1 0 39 rfl dX1_forgetOldest_27 mlX1_36 rfl rfl (by decide) (by decide) (by decide) (by decide) (by decide) (Nat.le_of_ble_eq_true rfl) (Nat.le_of_ble_eq_true rfl) ?_
  refine V0_aload_n (pc := 30) dX1_forgetOldest_30 rfl ?_
  refine V_getr (pc := 31) dX1_forgetOldest_31 flX1_16 rfl rfl ?_
  refine V0_iconst (pc := 34) (1) dX1_forgetOldest_34 (by decide) ?_
  refine V0_aload_n (pc := 35) dX1_forgetOldest_35 rfl ?_
  refine V_getr (pc := 36) dX1_forgetOldest_36 flX1_16 rfl rfl ?_
  refine V0_iconst (pc := 39) (0) dX1_forgetOldest_39 (by decide) ?_
  refine V0_bipush (pc := 40) (39) dX1_forgetOldest_40 (by decide) ?_
  refine V_copyi (pc := 42) 1 0 39 rfl dX1_forgetOldest_42 mlX1_36 rfl rfl (by decide) (by decide) (by decide) (by decide) (by decide) (Nat.le_of_ble_eq_true rfl) (Nat.le_of_ble_eq_true rfl) ?_
  refine V0_aload_n (pc := 45) dX1_forgetOldest_45 rfl ?_
  refine V_getr (pc := 46) dX1_forgetOldest_46 flX1_19 rfl rfl ?_
  refine V0_iconst (pc := 49) (1) dX1_forgetOldest_49 (by decide) ?_
  refine V0_aload_n (pc := 50) dX1_forgetOldest_50 rfl ?_
  refine V_getr (pc := 51) dX1_forgetOldest_51 flX1_19 rfl rfl ?_
  refine V0_iconst (pc := 54) (0) dX1_forgetOldest_54 (by decide) ?_
  refine V0_bipush (pc := 55) (39) dX1_forgetOldest_55 (by decide) ?_
  refine V_copyi (pc := 57) 1 0 39 rfl dX1_forgetOldest_57 mlX1_36 rfl rfl (by decide) (by decide) (by decide) (by decide) (by decide) (Nat.le_of_ble_eq_true rfl) (Nat.le_of_ble_eq_true rfl) ?_
  refine V0_aload_n (pc := 60) dX1_forgetOldest_60 rfl ?_
  refine V0_bipush (pc := 61) (39) dX1_forgetOldest_61 (by decide) ?_
  refine V_puti (pc := 63) dX1_forgetOldest_63 flX1_26 rfl rfl ?_
  refine V_retv (pc := 66) dX1_forgetOldest_66 rfl ?_
  exact ⟨rfl, rfl, rfl⟩
def g_add1 (I : px_I) (d : Nat) (n w f t : Int32) : px_I := px_up (px_up (px_up (px_up (px_up (px_up I 29 d n) 30 d w) 31 d f) 32 d t) 28 5 (nI (d + 1))) 28 6 (nI (d + 1))
def g_add (I : px_I) (d : Nat) (n w f t : Int32) : px_I := if d < 40 then g_add1 I d n w f t else g_add1 (g_forget I) 39 n w f t
theorem lp_X1_add {l : Launch} {I : px_I} {J : px_J} {d : Nat} {n w f t : Int32} {Q : px_Q} (hd : I 28 5 = nI d) (hd40 : d < 40) (hQ : Q none (g_add1 I d n w f t) J) : V0 l (px_rm 2 0 0) mX1_add (false, []) 0 0 13 [.ref 28, .int n, .int w, .int f, .int t] [] (px_mk I J) (px_q Q) := by
  refine V0_aload_n (pc := 13) dX1_add_13 rfl ?_
  refine V_getr (pc := 14) dX1_add_14 flX1_9 rfl rfl ?_
  refine V0_aload_n (pc := 17) dX1_add_17 rfl ?_
  refine V_geti (pc := 18) dX1_add_18 flX1_26 rfl rfl ?_
  refine V0_iload_n (pc := 21) dX1_add_21 rfl ?_
  refine V_iast (pc := 22) d dX1_add_22 rfl hd (by omega) ?_
  refine V0_aload_n (pc := 23) dX1_add_23 rfl ?_
  refine V_getr (pc := 24) dX1_add_24 flX1_13 rfl rfl ?_
  refine V0_aload_n (pc := 27) dX1_add_27 rfl ?_
  refine V_geti (pc := 28) dX1_add_28 flX1_26 rfl rfl ?_
  refine V0_iload_n (pc := 31) dX1_add_31 rfl ?_
  refine V_iast (pc := 32) d dX1_add_32 rfl (by simp [px_up_at, hd]) (by omega) ?_
  refine V0_aload_n (pc := 33) dX1_add_33 rfl ?_
  refine V_getr (pc := 34) dX1_add_34 flX1_16 rfl rfl ?_
  refine V0_aload_n (pc := 37) dX1_add_37 rfl ?_
  refine V_geti (pc := 38) dX1_add_38 flX1_26 rfl rfl ?_
  refine V0_iload_n (pc := 41) dX1_add_41 rfl ?_
  refine V_iast (pc := 42) d dX1_add_42 rfl (by simp [px_up_at, hd]) (by omega) ?_
  refine V0_aload_n (pc := 43) dX1_add_43 rfl ?_
  refine V_getr (pc := 44) dX1_add_44 flX1_19 rfl rfl ?_
  refine V0_aload_n (pc := 47) dX1_add_47 rfl ?_
  refine V_geti (pc := 48) dX1_add_48 flX1_26 rfl rfl ?_
  refine V0_iload (pc := 51) dX1_add_51 rfl ?_
  refine V_iast (pc := 53) d dX1_add_53 rfl (by simp [px_up_at, hd]) (by omega) ?_
  refine V0_aload_n (pc := 54) dX1_add_54 rfl ?_
  refine V0_dup (pc := 55) dX1_add_55 rfl ?_
  refine V_geti (pc := 56) dX1_add_56 flX1_26 rfl rfl ?_
  refine V0_iconst (pc := 59) (1) dX1_add_59 (by decide) ?_
  refine V0_iadd (pc := 60) dX1_add_60 ?_
  refine V_puti (pc := 61) dX1_add_61 flX1_26 rfl rfl ?_
  refine V0_aload_n (pc := 64) dX1_add_64 rfl ?_
  refine V0_aload_n (pc := 65) dX1_add_65 rfl ?_
  refine V_geti (pc := 66) dX1_add_66 flX1_26 rfl rfl ?_
  refine V_puti (pc := 69) dX1_add_69 flX1_33 rfl rfl ?_
  refine V_retv (pc := 72) dX1_add_72 rfl ?_
  simpa [g_add1, px_up_at, hd, nI_1] using hQ
theorem c_X1_add {l : Launch} {I : px_I} {J : px_J} {d : Nat} {n w f t : Int32} (hd : I 28 5 = nI d) (hd40 : d ≤ 40) : Ct l mX1_add 2 [.ref 28, .int n, .int w, .int f, .int t] I J (px_qs (g_add I d n w f t) J) := by
  refine Ct.of plX1_add (Nat.le_of_ble_eq_true rfl) [.ref 28, .int n, .int w, .int f, .int t] rfl ?_
  refine V0_aload_n (pc := 0) dX1_add_0 rfl ?_
  refine V_geti (pc := 1) dX1_add_1 flX1_26 rfl rfl ?_
  refine V0_bipush (pc := 4) (40) dX1_add_4 (by decide) ?_
  rw [hd]
  refine V0_icmp_lt (pc := 6) 13 dX1_add_6 (by decide) (fun h6 => ?_) (fun h6 => ?_)
  · skip
    have h40 : d < 40 := px_ltc 40 rfl h6 (by omega) (by omega)
    exact lp_X1_add hd h40 ⟨rfl, by simp [g_add, h40], rfl⟩
  · skip
    refine V0_aload_n (pc := 9) dX1_add_9 rfl ?_
    refine V_callV (pc := 10) (M' := mX1_forgetOldest) dX1_add_10 mlX1_30 okX1_forgetOldest rfl c_X1_forgetOldest rfl rfl rfl rfl ⟨Nat.le_of_ble_eq_true rfl, Nat.le_of_ble_eq_true rfl⟩ ⟨Nat.le_refl 0, Nat.le_refl 0⟩ (Nat.le_of_ble_eq_true rfl) ?_
    intro r1 I1 J1 hh
    obtain ⟨e1, e2, e3⟩ := hh
    rw [e1, e2, e3]
    clear e1 e2 e3 r1 I1 J1
    have h40 : ¬ d < 40 := by have := px_gec 40 rfl h6 (by omega) (by omega); omega
    exact lp_X1_add (d := 39) (by simp [g_forget, px_up_at]; rfl) (by omega) ⟨rfl, by simp [g_add, h40], rfl⟩
theorem c_X1_takeBack {l : Launch} {I : px_I} {J : px_J} {d : Nat} (hd : I 28 5 = nI d) (hd40 : d ≤ 40) : Ct l mX1_takeBack 3 [.ref 28] I J (fun r I' J' => (if d = 0 then r = some (.int 0) ∧ I' = I else r = some (.int 1) ∧ I' = g_write (px_up I 28 5 (nI (d - 1))) (I 29 (d - 1)) (I 30 (d - 1)) (I 31 (d - 1))) ∧ J' = J) := by
  refine Ct.of plX1_takeBack (Nat.le_of_ble_eq_true rfl) [.ref 28] rfl ?_
  refine V0_aload_n (pc := 0) dX1_takeBack_0 rfl ?_
  refine V_geti (pc := 1) dX1_takeBack_1 flX1_26 rfl rfl ?_
  rw [hd]
  refine V0_if_gt (pc := 4) 9 dX1_takeBack_4 (by decide) (fun h4 => ?_) (fun h4 => ?_)
  · skip
    have h0 : 0 < d := by
      rw [← nI_0] at h4
      exact px_lt h4 (by omega) (by omega)
    obtain ⟨d, rfl⟩ : ∃ e, d = e + 1 := ⟨d - 1, by omega⟩
    refine V0_aload_n (pc := 9) dX1_takeBack_9 rfl ?_
    refine V0_dup (pc := 10) dX1_takeBack_10 rfl ?_
    refine V_geti (pc := 11) dX1_takeBack_11 flX1_26 rfl rfl ?_
    refine V0_iconst (pc := 14) (1) dX1_takeBack_14 (by decide) ?_
    refine V0_isub (pc := 15) dX1_takeBack_15 ?_
    rw [hd, nI_pred]
    refine V_puti (pc := 16) dX1_takeBack_16 flX1_26 rfl rfl ?_
    refine V0_aload_n (pc := 19) dX1_takeBack_19 rfl ?_
    refine V_getr (pc := 20) dX1_takeBack_20 flX1_22 rfl rfl ?_
    refine V0_aload_n (pc := 23) dX1_takeBack_23 rfl ?_
    refine V_getr (pc := 24) dX1_takeBack_24 flX1_9 rfl rfl ?_
    refine V0_aload_n (pc := 27) dX1_takeBack_27 rfl ?_
    refine V_geti (pc := 28) dX1_takeBack_28 flX1_26 rfl rfl ?_
    refine V_iald (pc := 31) d dX1_takeBack_31 rfl (by simp [px_up_at]) (by omega) ?_
    refine V0_aload_n (pc := 32) dX1_takeBack_32 rfl ?_
    refine V_getr (pc := 33) dX1_takeBack_33 flX1_13 rfl rfl ?_
    refine V0_aload_n (pc := 36) dX1_takeBack_36 rfl ?_
    refine V_geti (pc := 37) dX1_takeBack_37 flX1_26 rfl rfl ?_
    refine V_iald (pc := 40) d dX1_takeBack_40 rfl (by simp [px_up_at]) (by omega) ?_
    refine V0_aload_n (pc := 41) dX1_takeBack_41 rfl ?_
    refine V_getr (pc := 42) dX1_takeBack_42 flX1_16 rfl rfl ?_
    refine V0_aload_n (pc := 45) dX1_takeBack_45 rfl ?_
    refine V_geti (pc := 46) dX1_takeBack_46 flX1_26 rfl rfl ?_
    refine V_iald (pc := 49) d dX1_takeBack_49 rfl (by simp [px_up_at]) (by omega) ?_
    refine V_callV (pc := 50) (M' := mX4_write) dX1_takeBack_50 mlX1_42 okX4_write rfl c_X4_write rfl rfl rfl rfl ⟨Nat.le_of_ble_eq_true rfl, Nat.le_of_ble_eq_true rfl⟩ ⟨Nat.le_refl 0, Nat.le_refl 0⟩ (Nat.le_of_ble_eq_true rfl) ?_
    intro r1 I1 J1 hh
    obtain ⟨e1, e2, e3⟩ := hh
    rw [e1, e2, e3]
    clear e1 e2 e3 r1 I1 J1
    refine V0_iconst (pc := 53) (1) dX1_takeBack_53 (by decide) ?_
    refine V_retz (pc := 54) _ dX1_takeBack_54 rfl (Or.inr rfl) ?_
    exact ⟨by simp [px_up_at], rfl⟩
  · skip
    have h0 : d = 0 := by
      rw [← nI_0] at h4
      have := px_ge h4 (by omega) (by omega)
      omega
    refine V0_iconst (pc := 7) (0) dX1_takeBack_7 (by decide) ?_
    refine V_retz (pc := 8) _ dX1_takeBack_8 rfl (Or.inl rfl) ?_
    exact ⟨by simp [h0], rfl⟩
theorem g_write_28 {I : px_I} {n w v : Int32} : g_write I n w v 28 = I 28 := by
  unfold g_write g_lst
  repeat' split
  all_goals first | rfl | exact px_up_row (by omega)
theorem c_X1_doAgain {l : Launch} {I : px_I} {J : px_J} {d n : Nat} (hd : I 28 5 = nI d) (hd40 : d ≤ 40) (hk : I 28 6 = nI n) (hn : n ≤ 40) : Ct l mX1_doAgain 3 [.ref 28] I J (fun r I' J' => (if d < n then r = some (.int 1) ∧ I' = px_up (g_write I (I 29 d) (I 30 d) (I 32 d)) 28 5 (nI (d + 1)) else r = some (.int 0) ∧ I' = I) ∧ J' = J) := by
  by_cases hdn : d < n
  · have hlt : nI d < nI n := (qI_lt (by omega) (by omega)).mpr hdn
    have h40 : nI d < 40 := (qI_lt (a := d) (b := 40) (by omega) (by omega)).mpr (by omega)
    refine Ct.of plX1_doAgain (Nat.le_of_ble_eq_true rfl) [.ref 28] rfl ?_
    refine V0_aload_n (pc := 0) dX1_doAgain_0 rfl ?_
    refine V_geti (pc := 1) dX1_doAgain_1 flX1_26 rfl rfl ?_
    refine V0_aload_n (pc := 4) dX1_doAgain_4 rfl ?_
    refine V_geti (pc := 5) dX1_doAgain_5 flX1_33 rfl rfl ?_
    rw [hd, hk]
    refine V1_icmp_ge (pc := 8) 20 dX1_doAgain_8 (by decide) (fun h8 => ?_) (fun h8 => ?_)
    · skip
      exact absurd hlt h8
    · skip
      refine V0_aload_n (pc := 11) dX1_doAgain_11 rfl ?_
      refine V_geti (pc := 12) dX1_doAgain_12 flX1_26 rfl rfl ?_
      refine V0_bipush (pc := 15) (40) dX1_doAgain_15 (by decide) ?_
      rw [hd]
      refine V0_icmp_lt (pc := 17) 22 dX1_doAgain_17 (by decide) (fun h17 => ?_) (fun h17 => ?_)
      · skip
        refine V0_aload_n (pc := 22) dX1_doAgain_22 rfl ?_
        refine V_getr (pc := 23) dX1_doAgain_23 flX1_22 rfl rfl ?_
        refine V0_aload_n (pc := 26) dX1_doAgain_26 rfl ?_
        refine V_getr (pc := 27) dX1_doAgain_27 flX1_9 rfl rfl ?_
        refine V0_aload_n (pc := 30) dX1_doAgain_30 rfl ?_
        refine V_geti (pc := 31) dX1_doAgain_31 flX1_26 rfl rfl ?_
        refine V_iald (pc := 34) d dX1_doAgain_34 rfl hd (by omega) ?_
        refine V0_aload_n (pc := 35) dX1_doAgain_35 rfl ?_
        refine V_getr (pc := 36) dX1_doAgain_36 flX1_13 rfl rfl ?_
        refine V0_aload_n (pc := 39) dX1_doAgain_39 rfl ?_
        refine V_geti (pc := 40) dX1_doAgain_40 flX1_26 rfl rfl ?_
        refine V_iald (pc := 43) d dX1_doAgain_43 rfl hd (by omega) ?_
        refine V0_aload_n (pc := 44) dX1_doAgain_44 rfl ?_
        refine V_getr (pc := 45) dX1_doAgain_45 flX1_19 rfl rfl ?_
        refine V0_aload_n (pc := 48) dX1_doAgain_48 rfl ?_
        refine V_geti (pc := 49) dX1_doAgain_49 flX1_26 rfl rfl ?_
        refine V_iald (pc := 52) d dX1_doAgain_52 rfl hd (by omega) ?_
        refine V_callV (pc := 53) (M' := mX4_write) dX1_doAgain_53 mlX1_42 okX4_write rfl c_X4_write rfl rfl rfl rfl ⟨Nat.le_of_ble_eq_true rfl, Nat.le_of_ble_eq_true rfl⟩ ⟨Nat.le_refl 0, Nat.le_refl 0⟩ (Nat.le_of_ble_eq_true rfl) ?_
        intro r1 I1 J1 hh
        obtain ⟨e1, e2, e3⟩ := hh
        rw [e1, e2, e3]
        clear e1 e2 e3 r1 I1 J1
        refine V0_aload_n (pc := 56) dX1_doAgain_56 rfl ?_
        refine V0_dup (pc := 57) dX1_doAgain_57 rfl ?_
        refine V_geti (pc := 58) dX1_doAgain_58 flX1_26 rfl rfl ?_
        refine V0_iconst (pc := 61) (1) dX1_doAgain_61 (by decide) ?_
        refine V0_iadd (pc := 62) dX1_doAgain_62 ?_
        refine V_puti (pc := 63) dX1_doAgain_63 flX1_26 rfl rfl ?_
        refine V0_iconst (pc := 66) (1) dX1_doAgain_66 (by decide) ?_
        refine V_retz (pc := 67) _ dX1_doAgain_67 rfl (Or.inr rfl) ?_
        exact ⟨by simp [hdn, g_write_28, hd, nI_1], rfl⟩
      · skip
        exact absurd h40 h17
  · have hlt : ¬ nI d < nI n := fun q => hdn (px_lt q (by omega) (by omega))
    refine Ct.of plX1_doAgain (Nat.le_of_ble_eq_true rfl) [.ref 28] rfl ?_
    refine V0_aload_n (pc := 0) dX1_doAgain_0 rfl ?_
    refine V_geti (pc := 1) dX1_doAgain_1 flX1_26 rfl rfl ?_
    refine V0_aload_n (pc := 4) dX1_doAgain_4 rfl ?_
    refine V_geti (pc := 5) dX1_doAgain_5 flX1_33 rfl rfl ?_
    rw [hd, hk]
    refine V1_icmp_ge (pc := 8) 20 dX1_doAgain_8 (by decide) (fun h8 => ?_) (fun h8 => ?_)
    · skip
      refine V0_iconst (pc := 20) (0) dX1_doAgain_20 (by decide) ?_
      refine V_retz (pc := 21) _ dX1_doAgain_21 rfl (Or.inl rfl) ?_
      exact ⟨by simp [hdn], rfl⟩
    · skip
      exact absurd h8 hlt

