/-! numbers, operands, the whole depth -/
section OP
variable {B : Nat → Int32} {n r a bb k k2 i : Nat} {c : List l_C} {I I1 : px_I}
theorem oc_num (hs : ps B n (a + i) k I1) (hpf : pf I I1) (hkc : kc I I1 k []) (h1 : 1 ≤ i) (h4 : i ≤ 4) (hd : ∀ j, j < i → T_dg (g_T B n (a + j)) = true) (he : T_dg (g_T B n (a + i)) = false ∨ i = 4) (hk : k < 128) (hka : k ≤ a) : oc B n 0 r a k I (g_lawAdd I1 34 k 35 (T_val (g_T B n) a i)) := by
  refine ⟨hpf.tr pf.add, ?_⟩
  by_cases q : T_dg (g_T B n (a + i)) = true
  · have e : i = 4 := by rcases he with e | e; · rw [e] at q; cases q
                         · exact e
    subst e
    refine Or.inr ⟨a + 4, k + 1, Pr.numX (fun j hj => ?_), (hs.dead q).add hk, by omega⟩
    by_cases z : j = 4
    · subst z; exact q
    · exact hd j (by omega)
  · exact Or.inl ⟨a + i, [(35, T_val (g_T B n) a i)], Pr.num h1 h4 hd (by simpa using q), hs.add hk, kc.tr hkc (kc.add hk)⟩
theorem oc_name (hs : ps B n a k I) (hn : ¬ s_name (g_T B n a) < 0) (ha : a < n) (hk : k < 128) : oc B n 0 r a k I (g_lawAdd (px_up I 33 3 (nI (a + 1))) 34 k 36 (s_name (g_T B n a))) :=
  ⟨pf.up.tr pf.add, Or.inl ⟨a + 1, [(36, s_name (g_T B n a))], Pr.name hn, (hs.adv ha).add hk, kc.up (kc.add hk)⟩⟩
theorem oc_deep (hs : ps B n a k I) (h1 : T_dg (g_T B n a) = false) (h2 : s_name (g_T B n a) < 0) : oc B n 0 0 a k I (px_up I 33 4 1) :=
  ⟨pf.up, Or.inr ⟨a, k, Pr.deep h1 h2, hs.fail, by omega⟩⟩
theorem oc_other (hs : ps B n a k I) (h1 : T_dg (g_T B n a) = false) (h2 : s_name (g_T B n a) < 0) (h3 : ¬ g_T B n a = 33) (h4 : ¬ g_T B n a = 45) (h5 : ¬ g_T B n a = 40) : oc B n 0 (r + 1) a k I (px_up I 33 4 1) :=
  ⟨pf.up, Or.inr ⟨a, k, Pr.other h1 h2 h3 h4 h5, hs.fail, by omega⟩⟩
theorem oc_pre {x s : Int32} (h : g_T B n a = 33 ∧ s = 33 ∨ g_T B n a = 45 ∧ s = 126) (hpf : pf (px_up I 33 3 x) I1) (hp : Pr (g_T B n) 0 r (a + 1) bb true c) (hs : ps B n bb (k + c.length) I1) (hkc : kc (px_up I 33 3 x) I1 k c) (hk : k + c.length < 128) : oc B n 0 (r + 1) a k I (g_lawAdd I1 34 (k + c.length) s 0) := by
  refine ⟨(pf.up.tr hpf).tr pf.add, Or.inl ⟨bb, c ++ [(s, 0)], Pr.pre h hp, ?_, kc.tr (kc.up hkc) (kc.add hk)⟩⟩
  have e : k + (c ++ [(s, (0 : Int32))]).length = k + c.length + 1 := by simp only [List.length_append, List.length_cons, List.length_nil]; omega
  rw [e]; exact hs.add hk
theorem oc_preX {x s : Int32} (h : g_T B n a = 33 ∨ g_T B n a = 45) (hpf : pf (px_up I 33 3 x) I1) (hp : Pr (g_T B n) 0 r (a + 1) bb false []) (hd : pd B n bb k2 I1) (hle : k2 + (a + 1) ≤ k + bb) (hk : k2 < 128) : oc B n 0 (r + 1) a k I (g_lawAdd I1 34 k2 s 0) :=
  ⟨(pf.up.tr hpf).tr pf.add, Or.inr ⟨bb, k2 + 1, Pr.preX h hp, hd.add hk, by omega⟩⟩
theorem oc_par {x : Int32} (h : g_T B n a = 40) (hpf : pf (px_up I 33 3 x) I1) (hp : Pr (g_T B n) 5 r (a + 1) bb true c) (hs : ps B n bb (k + c.length) I1) (hkc : kc (px_up I 33 3 x) I1 k c) (h2 : g_T B n bb = 41) : oc B n 0 (r + 1) a k I (px_up I1 33 3 (nI (bb + 1))) :=
  ⟨(pf.up.tr hpf).tr pf.up, Or.inl ⟨bb + 1, c, Pr.par h hp h2, hs.adv (hs.lt (by rw [h2]; decide)), hkc.1, codeAt_congr (px_up_row (by omega)) (px_up_row (by omega)) c k hkc.2⟩⟩
theorem oc_parY {x : Int32} (h : g_T B n a = 40) (hpf : pf (px_up I 33 3 x) I1) (hp : Pr (g_T B n) 5 r (a + 1) bb true c) (hs : ps B n bb (k + c.length) I1) (h2 : ¬ g_T B n bb = 41) : oc B n 0 (r + 1) a k I (px_up I1 33 4 1) :=
  ⟨(pf.up.tr hpf).tr pf.up, Or.inr ⟨bb, k + c.length, Pr.parY h hp h2, hs.fail, by have := (hp.fitB.2.2 rfl).1; omega⟩⟩
theorem oc_parX {x : Int32} (h : g_T B n a = 40) (hpf : pf (px_up I 33 3 x) I1) (hp : Pr (g_T B n) 5 r (a + 1) bb false []) (hd : pd B n bb k2 I1) (hle : k2 + (a + 1) ≤ k + bb) : oc B n 0 (r + 1) a k I (px_up I1 33 4 1) :=
  ⟨(pf.up.tr hpf).tr pf.up, Or.inr ⟨bb, k2, Pr.parX h hp, hd.fail, by omega⟩⟩
end OP
theorem dig_up {P : Nat → Bool} {i : Nat} (h : ∀ j, j < i → P j = true) (hi : P i = true) : ∀ j, j < i + 1 → P j = true := by
  intro j hj
  by_cases z : j = i
  · subst z; exact hi
  · exact h j (by omega)
theorem H_num {l : Launch} {B : Nat → Int32} {n a k : Nat} {I : px_I} {J : px_J} {Q : px_Q} (hka : k ≤ a) (hd0 : T_dg (g_T B n a) = true) (hQ : ∀ I', (∀ r, oc B n 0 r a k I I') → Q none I' J) : ∀ (f i : Nat) (Ia : px_I), i + f = 4 → ps B n (a + i) k Ia → pf I Ia → kc I Ia k [] → (∀ j, j < i → T_dg (g_T B n (a + j)) = true) → V0 l (px_rm 1 0 0) mX8_readNumber (false, []) 0 0 4 [.ref 33, .int (T_val (g_T B n) a i), .int (nI i)] [] (px_mk Ia J) (px_q Q) := by
  intro f
  induction f with
  | zero =>
    intro i Ia hi hs hpf hkc hd
    obtain rfl : i = 4 := by omega
    have hn120 := hs.2.1
    have hbn0 := hs.2.2.2.1
    have hk := hs.2.2.2.2.2.1
    have hk9 : k ≤ 128 := by omega
    refine V0_iload_n (pc := 4) dX8_readNumber_4 rfl ?_
    refine V0_iconst (pc := 5) (4) dX8_readNumber_5 (by decide) ?_
    refine V1_icmp_ge (pc := 6) 48 dX8_readNumber_6 (by decide) (fun h6 => ?_) (fun h6 => ?_)
    · skip
      refine V0_aload_n (pc := 48) dX8_readNumber_48 rfl ?_
      refine V_getr (pc := 49) dX8_readNumber_49 flX8_10 rfl rfl ?_
      refine V0_bipush (pc := 52) (35) dX8_readNumber_52 (by decide) ?_
      refine V0_iload_n (pc := 54) dX8_readNumber_54 rfl ?_
      refine V_callV (pc := 55) (M' := mX3_add) dX8_readNumber_55 mlX8_49 okX3_add rfl (c_X3_add lw34 hk hk9) rfl rfl rfl rfl ⟨Nat.le_of_ble_eq_true rfl, Nat.le_of_ble_eq_true rfl⟩ ⟨Nat.le_refl 0, Nat.le_refl 0⟩ (Nat.le_of_ble_eq_true rfl) ?_
      intro r1 I1 J1 hh
      obtain ⟨e1, e2, e3⟩ := hh
      rw [e1, e2, e3]
      clear e1 e2 e3 r1 I1 J1
      refine V0_pop (pc := 58) dX8_readNumber_58 rfl ?_
      refine V_retv (pc := 59) dX8_readNumber_59 rfl ?_
      exact hQ _ (fun r => oc_num hs hpf hkc (by omega) (by omega) hd (Or.inr rfl) (by omega) hka)
    · skip
      exact absurd h6 (by decide)
  | succ f ih =>
    intro i Ia hi hs hpf hkc hd
    have hn120 := hs.2.1
    have hbn0 := hs.2.2.2.1
    have hk := hs.2.2.2.2.2.1
    have hk9 : k ≤ 128 := by omega
    refine V0_iload_n (pc := 4) dX8_readNumber_4 rfl ?_
    refine V0_iconst (pc := 5) (4) dX8_readNumber_5 (by decide) ?_
    refine V1_icmp_ge (pc := 6) 48 dX8_readNumber_6 (by decide) (fun h6 => ?_) (fun h6 => ?_)
    · skip
      exact absurd ((qI_lt (b := 4) (by omega) (by omega)).mpr (by omega)) h6
    · skip
      refine V0_aload_n (pc := 9) dX8_readNumber_9 rfl ?_
      refine V_callVi (pc := 10) (M' := mX8_next) dX8_readNumber_10 mlX8_41 okX8_next rfl (c_nextT hs) rfl rfl rfl rfl ⟨Nat.le_of_ble_eq_true rfl, Nat.le_of_ble_eq_true rfl⟩ ⟨Nat.le_refl 0, Nat.le_refl 0⟩ (Nat.le_of_ble_eq_true rfl) ?_
      refine V_callSi (pc := 13) (M' := mX8_isDigit) dX8_readNumber_13 mlX8_75 okX8_isDigit rfl c_X8_isDigit rfl rfl ⟨Nat.le_of_ble_eq_true rfl, Nat.le_of_ble_eq_true rfl⟩ ⟨Nat.le_refl 0, Nat.le_refl 0⟩ (Nat.le_of_ble_eq_true rfl) ?_
      refine V_ifeqb (pc := 16) 48 dX8_readNumber_16 (by decide) (fun h16 => ?_) (fun h16 => ?_)
      · skip
        refine V0_aload_n (pc := 48) dX8_readNumber_48 rfl ?_
        refine V_getr (pc := 49) dX8_readNumber_49 flX8_10 rfl rfl ?_
        refine V0_bipush (pc := 52) (35) dX8_readNumber_52 (by decide) ?_
        refine V0_iload_n (pc := 54) dX8_readNumber_54 rfl ?_
        refine V_callV (pc := 55) (M' := mX3_add) dX8_readNumber_55 mlX8_49 okX3_add rfl (c_X3_add lw34 hk hk9) rfl rfl rfl rfl ⟨Nat.le_of_ble_eq_true rfl, Nat.le_of_ble_eq_true rfl⟩ ⟨Nat.le_refl 0, Nat.le_refl 0⟩ (Nat.le_of_ble_eq_true rfl) ?_
        intro r1 I1 J1 hh
        obtain ⟨e1, e2, e3⟩ := hh
        rw [e1, e2, e3]
        clear e1 e2 e3 r1 I1 J1
        refine V0_pop (pc := 58) dX8_readNumber_58 rfl ?_
        refine V_retv (pc := 59) dX8_readNumber_59 rfl ?_
        exact hQ _ (fun r => oc_num hs hpf hkc (Nat.pos_of_ne_zero (fun e => by subst e; exact absurd (hd0.symm.trans (show T_dg (g_T B n (a + 0)) = false from h16)) (by decide))) (by omega) hd (Or.inl h16) (by omega) hka)
      · skip
        have hdi : T_dg (g_T B n (a + i)) = true := h16
        have hlt := hs.lt (fun e => by rw [e] at hdi; exact absurd hdi (by decide))
        refine V0_iload_n (pc := 19) dX8_readNumber_19 rfl ?_
        refine V0_bipush (pc := 20) (10) dX8_readNumber_20 (by decide) ?_
        refine V0_imul (pc := 22) dX8_readNumber_22 ?_
        refine V0_aload_n (pc := 23) dX8_readNumber_23 rfl ?_
        refine V_callVi (pc := 24) (M' := mX8_next) dX8_readNumber_24 mlX8_41 okX8_next rfl (c_nextT hs) rfl rfl rfl rfl ⟨Nat.le_of_ble_eq_true rfl, Nat.le_of_ble_eq_true rfl⟩ ⟨Nat.le_refl 0, Nat.le_refl 0⟩ (Nat.le_of_ble_eq_true rfl) ?_
        refine V0_iadd (pc := 27) dX8_readNumber_27 ?_
        refine V0_bipush (pc := 28) (48) dX8_readNumber_28 (by decide) ?_
        refine V0_isub (pc := 30) dX8_readNumber_30 ?_
        refine V0_istore_1 (pc := 31) dX8_readNumber_31 (by decide) rfl ?_
        refine V0_aload_n (pc := 32) dX8_readNumber_32 rfl ?_
        refine V0_dup (pc := 33) dX8_readNumber_33 rfl ?_
        refine V_geti (pc := 34) dX8_readNumber_34 flX8_24 rfl rfl ?_
        refine V0_iconst (pc := 37) (1) dX8_readNumber_37 (by decide) ?_
        refine V0_iadd (pc := 38) dX8_readNumber_38 ?_
        rw [hs.2.2.1, nI_1]
        refine V_puti (pc := 39) dX8_readNumber_39 flX8_24 rfl rfl ?_
        refine V0_iinc_2 (pc := 42) (nI (i + 1)) dX8_readNumber_42 (by decide) rfl (nI_1 _) ?_
        refine V0_goto (pc := 45) 4 dX8_readNumber_45 (by decide) ?_
        exact V_ls rfl (ih (i + 1) _ (by omega) (hs.adv hlt) (hpf.tr pf.up) hkc (dig_up (P := fun j => T_dg (g_T B n (a + j))) hd hdi))
theorem c_X8_readNumber {l : Launch} {B : Nat → Int32} {n a k : Nat} {I : px_I} {J : px_J} (hs : ps B n a k I) (hka : k ≤ a) (hd0 : T_dg (g_T B n a) = true) : Ct l mX8_readNumber 1 [.ref 33] I J (fun x I' J' => x = none ∧ J' = J ∧ ∀ r, oc B n 0 r a k I I') := by
  refine Ct.of plX8_readNumber (Nat.le_of_ble_eq_true rfl) [.ref 33, .null, .null] rfl ?_
  refine V0_iconst (pc := 0) (0) dX8_readNumber_0 (by decide) ?_
  refine V0_istore_1 (pc := 1) dX8_readNumber_1 (by decide) rfl ?_
  refine V0_iconst (pc := 2) (0) dX8_readNumber_2 (by decide) ?_
  refine V0_istore_2 (pc := 3) dX8_readNumber_3 (by decide) rfl ?_
  exact H_num hka hd0 (fun I2 h => ⟨rfl, rfl, h⟩) 4 0 I rfl hs pf.rf kc.rf (fun j hj => by omega)
theorem A_op33 {l : Launch} {d k : Nat} {I : px_I} {J : px_J} {Q : px_Q} {x y : Value} (hd1 : 2 ≤ d) (hk : I 34 4 = nI k) (hk8 : k < 128) (hQ : Q none (g_lawAdd I 34 k 33 0) J) : V0 l (px_rm d 0 0) mX8_readOperand (false, []) 0 0 83 [.ref 33, x, y] [] (px_mk I J) (px_q Q) := by
  have hk9 : k ≤ 128 := by omega
  refine V0_aload_n (pc := 83) dX8_readOperand_83 rfl ?_
  refine V_getr (pc := 84) dX8_readOperand_84 flX8_10 rfl rfl ?_
  refine V0_bipush (pc := 87) (33) dX8_readOperand_87 (by decide) ?_
  refine V0_iconst (pc := 89) (0) dX8_readOperand_89 (by decide) ?_
  refine V_callV (pc := 90) (M' := mX3_add) dX8_readOperand_90 mlX8_49 okX3_add rfl (c_X3_add lw34 hk hk9) rfl rfl rfl rfl (px_hr (by omega) (by decide)) ⟨Nat.le_refl 0, Nat.le_refl 0⟩ (Nat.le_of_ble_eq_true rfl) ?_
  intro r1 I1 J1 hh
  obtain ⟨e1, e2, e3⟩ := hh
  rw [e1, e2, e3]
  clear e1 e2 e3 r1 I1 J1
  refine V0_pop (pc := 93) dX8_readOperand_93 rfl ?_
  refine V0_goto (pc := 94) 165 dX8_readOperand_94 (by decide) ?_
  refine V_retv (pc := 165) dX8_readOperand_165 rfl ?_
  exact hQ
theorem A_op126 {l : Launch} {d k : Nat} {I : px_I} {J : px_J} {Q : px_Q} {x y : Value} (hd1 : 2 ≤ d) (hk : I 34 4 = nI k) (hk8 : k < 128) (hQ : Q none (g_lawAdd I 34 k 126 0) J) : V0 l (px_rm d 0 0) mX8_readOperand (false, []) 0 0 113 [.ref 33, x, y] [] (px_mk I J) (px_q Q) := by
  have hk9 : k ≤ 128 := by omega
  refine V0_aload_n (pc := 113) dX8_readOperand_113 rfl ?_
  refine V_getr (pc := 114) dX8_readOperand_114 flX8_10 rfl rfl ?_
  refine V0_bipush (pc := 117) (126) dX8_readOperand_117 (by decide) ?_
  refine V0_iconst (pc := 119) (0) dX8_readOperand_119 (by decide) ?_
  refine V_callV (pc := 120) (M' := mX3_add) dX8_readOperand_120 mlX8_49 okX3_add rfl (c_X3_add lw34 hk hk9) rfl rfl rfl rfl (px_hr (by omega) (by decide)) ⟨Nat.le_refl 0, Nat.le_refl 0⟩ (Nat.le_of_ble_eq_true rfl) ?_
  intro r1 I1 J1 hh
  obtain ⟨e1, e2, e3⟩ := hh
  rw [e1, e2, e3]
  clear e1 e2 e3 r1 I1 J1
  refine V0_pop (pc := 123) dX8_readOperand_123 rfl ?_
  refine V0_goto (pc := 124) 165 dX8_readOperand_124 (by decide) ?_
  refine V_retv (pc := 165) dX8_readOperand_165 rfl ?_
  exact hQ
theorem P_live {l : Launch} {B : Nat → Int32} {n a k d : Nat} {I : px_I} {J : px_J} {Q : px_Q} {x y : Value} (hd1 : 2 ≤ d) (hs : ps B n a k I) (h1 : g_T B n a = 41 → Q none (px_up I 33 3 (nI (a + 1))) J) (h2 : ¬ g_T B n a = 41 → Q none (px_up I 33 4 1) J) : V0 l (px_rm d 0 0) mX8_readOperand (false, []) 0 0 143 [.ref 33, x, y] [] (px_mk I J) (px_q Q) := by
  refine V0_aload_n (pc := 143) dX8_readOperand_143 rfl ?_
  refine V0_bipush (pc := 144) (41) dX8_readOperand_144 (by decide) ?_
  refine V_callV (pc := 146) (M' := mX8_takes) dX8_readOperand_146 mlX8_37 okX8_takes rfl (c_takesT hs) rfl rfl rfl rfl (px_hr (by omega) (by decide)) ⟨Nat.le_refl 0, Nat.le_refl 0⟩ (Nat.le_of_ble_eq_true rfl) ?_
  intro r1 I1 J1 hh
  obtain ⟨e1, e2, e3⟩ := hh
  rw [e1, e2, e3]
  clear e1 e2 e3 r1 I1 J1
  refine V_ifneb (pc := 149) 165 dX8_readOperand_149 (by decide) (fun h149 => ?_) (fun h149 => ?_)
  · skip
    refine V_retv (pc := 165) dX8_readOperand_165 rfl ?_
    first | (rw [if_pos (of_decide_eq_true h149)]; exact h1 (of_decide_eq_true h149)) | exact h2 (of_decide_eq_false h149)
  · skip
    rw [if_neg (of_decide_eq_false h149)]
    refine V0_aload_n (pc := 152) dX8_readOperand_152 rfl ?_
    refine V0_iconst (pc := 153) (1) dX8_readOperand_153 (by decide) ?_
    refine V_putz (pc := 154) dX8_readOperand_154 flX8_27 rfl rfl (Or.inr rfl) ?_
    refine V0_goto (pc := 157) 165 dX8_readOperand_157 (by decide) ?_
    refine V_retv (pc := 165) dX8_readOperand_165 rfl ?_
    first | (rw [if_pos (of_decide_eq_true h149)]; exact h1 (of_decide_eq_true h149)) | exact h2 (of_decide_eq_false h149)
theorem P_dead {l : Launch} {B : Nat → Int32} {n a k d : Nat} {I : px_I} {J : px_J} {Q : px_Q} {x y : Value} (hd1 : 2 ≤ d) (hs : pd B n a k I) (h2 : Q none (px_up I 33 4 1) J) : V0 l (px_rm d 0 0) mX8_readOperand (false, []) 0 0 143 [.ref 33, x, y] [] (px_mk I J) (px_q Q) := by
  refine V0_aload_n (pc := 143) dX8_readOperand_143 rfl ?_
  refine V0_bipush (pc := 144) (41) dX8_readOperand_144 (by decide) ?_
  refine V_callV (pc := 146) (M' := mX8_takes) dX8_readOperand_146 mlX8_37 okX8_takes rfl (c_takesD hs (by decide) (by decide)) rfl rfl rfl rfl (px_hr (by omega) (by decide)) ⟨Nat.le_refl 0, Nat.le_refl 0⟩ (Nat.le_of_ble_eq_true rfl) ?_
  intro r1 I1 J1 hh
  obtain ⟨e1, e2, e3⟩ := hh
  rw [e1, e2, e3]
  clear e1 e2 e3 r1 I1 J1
  refine V_ifneb (pc := 149) 165 dX8_readOperand_149 (by decide) (fun h149 => ?_) (fun h149 => ?_)
  · skip
    exact absurd h149 (by decide)
  · skip
    refine V0_aload_n (pc := 152) dX8_readOperand_152 rfl ?_
    refine V0_iconst (pc := 153) (1) dX8_readOperand_153 (by decide) ?_
    refine V_putz (pc := 154) dX8_readOperand_154 flX8_27 rfl rfl (Or.inr rfl) ?_
    refine V0_goto (pc := 157) 165 dX8_readOperand_157 (by decide) ?_
    refine V_retv (pc := 165) dX8_readOperand_165 rfl ?_
    exact h2
theorem g_op0 {l : Launch} {B : Nat → Int32} {n : Nat} : G_lev l B n 0 mX8_readOperand 2 0 := by
  intro I J a k hs hka
  have hn120 := hs.2.1
  have hbn0 := hs.2.2.2.1
  have hk := hs.2.2.2.2.2.1
  have hk9 : k ≤ 128 := by omega
  refine Ct.of plX8_readOperand (Nat.le_of_ble_eq_true rfl) [.ref 33, .int (nI (6 - 0)), .null] rfl ?_
  refine V0_aload_n (pc := 0) dX8_readOperand_0 rfl ?_
  refine V_callVi (pc := 1) (M' := mX8_next) dX8_readOperand_1 mlX8_41 okX8_next rfl (c_nextT hs) rfl rfl rfl rfl (px_hr (by omega) (by decide)) ⟨Nat.le_refl 0, Nat.le_refl 0⟩ (Nat.le_of_ble_eq_true rfl) ?_
  refine V_callSi (pc := 4) (M' := mX8_nameOf) dX8_readOperand_4 mlX8_71 okX8_nameOf rfl c_X8_nameOf rfl rfl (px_hr (by omega) (by decide)) ⟨Nat.le_refl 0, Nat.le_refl 0⟩ (Nat.le_of_ble_eq_true rfl) ?_
  refine V0_istore_2 (pc := 7) dX8_readOperand_7 (by decide) rfl ?_
  refine V0_aload_n (pc := 8) dX8_readOperand_8 rfl ?_
  refine V_callVi (pc := 9) (M' := mX8_next) dX8_readOperand_9 mlX8_41 okX8_next rfl (c_nextT hs) rfl rfl rfl rfl (px_hr (by omega) (by decide)) ⟨Nat.le_refl 0, Nat.le_refl 0⟩ (Nat.le_of_ble_eq_true rfl) ?_
  refine V_callSi (pc := 12) (M' := mX8_isDigit) dX8_readOperand_12 mlX8_75 okX8_isDigit rfl c_X8_isDigit rfl rfl (px_hr (by omega) (by decide)) ⟨Nat.le_refl 0, Nat.le_refl 0⟩ (Nat.le_of_ble_eq_true rfl) ?_
  refine V_ifeqb (pc := 15) 25 dX8_readOperand_15 (by decide) (fun h15 => ?_) (fun h15 => ?_)
  · skip
    refine V0_iload_n (pc := 25) dX8_readOperand_25 rfl ?_
    refine V0_if_lt (pc := 26) 53 dX8_readOperand_26 (by decide) (fun h26 => ?_) (fun h26 => ?_)
    · skip
      refine V0_iload_n (pc := 53) dX8_readOperand_53 rfl ?_
      refine V0_bipush (pc := 54) (6) dX8_readOperand_54 (by decide) ?_
      refine V0_icmp_lt (pc := 56) 67 dX8_readOperand_56 (by decide) (fun h56 => ?_) (fun h56 => ?_)
      · skip
        exact absurd h56 (by decide)
      · skip
        refine V0_aload_n (pc := 59) dX8_readOperand_59 rfl ?_
        refine V0_iconst (pc := 60) (1) dX8_readOperand_60 (by decide) ?_
        refine V_putz (pc := 61) dX8_readOperand_61 flX8_27 rfl rfl (Or.inr rfl) ?_
        refine V0_goto (pc := 64) 165 dX8_readOperand_64 (by decide) ?_
        refine V_retv (pc := 165) dX8_readOperand_165 rfl ?_
        first | exact ⟨rfl, rfl, hoc _⟩ | exact ⟨rfl, rfl, oc_deep hs h15 h26⟩ | exact ⟨rfl, rfl, oc_name hs h26 hlt (by omega)⟩
    · skip
      have hlt := hs.lt (fun e => h26 (by rw [e]; decide))
      have hk2 : px_up I 33 3 (nI (a + 1)) 34 4 = nI k := hk
      refine V0_aload_n (pc := 29) dX8_readOperand_29 rfl ?_
      refine V0_dup (pc := 30) dX8_readOperand_30 rfl ?_
      refine V_geti (pc := 31) dX8_readOperand_31 flX8_24 rfl rfl ?_
      refine V0_iconst (pc := 34) (1) dX8_readOperand_34 (by decide) ?_
      refine V0_iadd (pc := 35) dX8_readOperand_35 ?_
      rw [hs.2.2.1, nI_1]
      refine V_puti (pc := 36) dX8_readOperand_36 flX8_24 rfl rfl ?_
      refine V0_aload_n (pc := 39) dX8_readOperand_39 rfl ?_
      refine V_getr (pc := 40) dX8_readOperand_40 flX8_10 rfl rfl ?_
      refine V0_bipush (pc := 43) (36) dX8_readOperand_43 (by decide) ?_
      refine V0_iload_n (pc := 45) dX8_readOperand_45 rfl ?_
      refine V_callV (pc := 46) (M' := mX3_add) dX8_readOperand_46 mlX8_49 okX3_add rfl (c_X3_add lw34 hk2 hk9) rfl rfl rfl rfl (px_hr (by omega) (by decide)) ⟨Nat.le_refl 0, Nat.le_refl 0⟩ (Nat.le_of_ble_eq_true rfl) ?_
      intro r1 I1 J1 hh
      obtain ⟨e1, e2, e3⟩ := hh
      rw [e1, e2, e3]
      clear e1 e2 e3 r1 I1 J1
      refine V0_pop (pc := 49) dX8_readOperand_49 rfl ?_
      refine V0_goto (pc := 50) 165 dX8_readOperand_50 (by decide) ?_
      refine V_retv (pc := 165) dX8_readOperand_165 rfl ?_
      first | exact ⟨rfl, rfl, hoc _⟩ | exact ⟨rfl, rfl, oc_deep hs h15 h26⟩ | exact ⟨rfl, rfl, oc_name hs h26 hlt (by omega)⟩
  · skip
    refine V0_aload_n (pc := 18) dX8_readOperand_18 rfl ?_
    refine V_callV (pc := 19) (M' := mX8_readNumber) dX8_readOperand_19 mlX8_78 okX8_readNumber rfl (c_X8_readNumber hs hka h15) rfl rfl rfl rfl (px_hr (by omega) (by decide)) ⟨Nat.le_refl 0, Nat.le_refl 0⟩ (Nat.le_of_ble_eq_true rfl) ?_
    intro r1 I1 J1 hh
    obtain ⟨e1, e2, hoc⟩ := hh
    rw [e1, e2]
    clear e1 e2 r1 J1
    refine V0_goto (pc := 22) 165 dX8_readOperand_22 (by decide) ?_
    refine V_retv (pc := 165) dX8_readOperand_165 rfl ?_
    first | exact ⟨rfl, rfl, hoc _⟩ | exact ⟨rfl, rfl, oc_deep hs h15 h26⟩ | exact ⟨rfl, rfl, oc_name hs h26 hlt (by omega)⟩
theorem g_opS {l : Launch} {B : Nat → Int32} {n d r : Nat} (hd1 : 2 ≤ d) (hr5 : r ≤ 5) (hO : G_lev l B n 0 mX8_readOperand d r) (hE : G_lev l B n 5 mX8_readEither (d + 5) r) : G_lev l B n 0 mX8_readOperand (d + 6) (r + 1) := by
  intro I J a k hs hka
  have hn120 := hs.2.1
  have hbn0 := hs.2.2.2.1
  have hk := hs.2.2.2.2.2.1
  have hk9 : k ≤ 128 := by omega
  have hst : nI (6 - (r + 1)) + 1 = nI (6 - r) := by rw [nI_1]; congr 1; omega
  refine Ct.of plX8_readOperand (Nat.le_of_ble_eq_true rfl) [.ref 33, .int (nI (6 - (r + 1))), .null] rfl ?_
  refine V0_aload_n (pc := 0) dX8_readOperand_0 rfl ?_
  refine V_callVi (pc := 1) (M' := mX8_next) dX8_readOperand_1 mlX8_41 okX8_next rfl (c_nextT hs) rfl rfl rfl rfl (px_hr (by omega) (by decide)) ⟨Nat.le_refl 0, Nat.le_refl 0⟩ (Nat.le_of_ble_eq_true rfl) ?_
  refine V_callSi (pc := 4) (M' := mX8_nameOf) dX8_readOperand_4 mlX8_71 okX8_nameOf rfl c_X8_nameOf rfl rfl (px_hr (by omega) (by decide)) ⟨Nat.le_refl 0, Nat.le_refl 0⟩ (Nat.le_of_ble_eq_true rfl) ?_
  refine V0_istore_2 (pc := 7) dX8_readOperand_7 (by decide) rfl ?_
  refine V0_aload_n (pc := 8) dX8_readOperand_8 rfl ?_
  refine V_callVi (pc := 9) (M' := mX8_next) dX8_readOperand_9 mlX8_41 okX8_next rfl (c_nextT hs) rfl rfl rfl rfl (px_hr (by omega) (by decide)) ⟨Nat.le_refl 0, Nat.le_refl 0⟩ (Nat.le_of_ble_eq_true rfl) ?_
  refine V_callSi (pc := 12) (M' := mX8_isDigit) dX8_readOperand_12 mlX8_75 okX8_isDigit rfl c_X8_isDigit rfl rfl (px_hr (by omega) (by decide)) ⟨Nat.le_refl 0, Nat.le_refl 0⟩ (Nat.le_of_ble_eq_true rfl) ?_
  refine V_ifeqb (pc := 15) 25 dX8_readOperand_15 (by decide) (fun h15 => ?_) (fun h15 => ?_)
  · skip
    refine V0_iload_n (pc := 25) dX8_readOperand_25 rfl ?_
    refine V0_if_lt (pc := 26) 53 dX8_readOperand_26 (by decide) (fun h26 => ?_) (fun h26 => ?_)
    · skip
      refine V0_iload_n (pc := 53) dX8_readOperand_53 rfl ?_
      refine V0_bipush (pc := 54) (6) dX8_readOperand_54 (by decide) ?_
      refine V0_icmp_lt (pc := 56) 67 dX8_readOperand_56 (by decide) (fun h56 => ?_) (fun h56 => ?_)
      · skip
        refine V0_aload_n (pc := 67) dX8_readOperand_67 rfl ?_
        refine V0_bipush (pc := 68) (33) dX8_readOperand_68 (by decide) ?_
        refine V_callV (pc := 70) (M' := mX8_takes) dX8_readOperand_70 mlX8_37 okX8_takes rfl (c_takesT hs) rfl rfl rfl rfl (px_hr (by omega) (by decide)) ⟨Nat.le_refl 0, Nat.le_refl 0⟩ (Nat.le_of_ble_eq_true rfl) ?_
        intro r1 I1 J1 hh
        obtain ⟨e1, e2, e3⟩ := hh
        rw [e1, e2, e3]
        clear e1 e2 e3 r1 I1 J1
        refine V_ifeqb (pc := 73) 97 dX8_readOperand_73 (by decide) (fun h73 => ?_) (fun h73 => ?_)
        · skip
          rw [if_neg (of_decide_eq_false h73)]
          refine V0_aload_n (pc := 97) dX8_readOperand_97 rfl ?_
          refine V0_bipush (pc := 98) (45) dX8_readOperand_98 (by decide) ?_
          refine V_callV (pc := 100) (M' := mX8_takes) dX8_readOperand_100 mlX8_37 okX8_takes rfl (c_takesT hs) rfl rfl rfl rfl (px_hr (by omega) (by decide)) ⟨Nat.le_refl 0, Nat.le_refl 0⟩ (Nat.le_of_ble_eq_true rfl) ?_
          intro r1 I1 J1 hh
          obtain ⟨e1, e2, e3⟩ := hh
          rw [e1, e2, e3]
          clear e1 e2 e3 r1 I1 J1
          refine V_ifeqb (pc := 103) 127 dX8_readOperand_103 (by decide) (fun h103 => ?_) (fun h103 => ?_)
          · skip
            rw [if_neg (of_decide_eq_false h103)]
            refine V0_aload_n (pc := 127) dX8_readOperand_127 rfl ?_
            refine V0_bipush (pc := 128) (40) dX8_readOperand_128 (by decide) ?_
            refine V_callV (pc := 130) (M' := mX8_takes) dX8_readOperand_130 mlX8_37 okX8_takes rfl (c_takesT hs) rfl rfl rfl rfl (px_hr (by omega) (by decide)) ⟨Nat.le_refl 0, Nat.le_refl 0⟩ (Nat.le_of_ble_eq_true rfl) ?_
            intro r1 I1 J1 hh
            obtain ⟨e1, e2, e3⟩ := hh
            rw [e1, e2, e3]
            clear e1 e2 e3 r1 I1 J1
            refine V_ifeqb (pc := 133) 160 dX8_readOperand_133 (by decide) (fun h133 => ?_) (fun h133 => ?_)
            · skip
              rw [if_neg (of_decide_eq_false h133)]
              refine V0_aload_n (pc := 160) dX8_readOperand_160 rfl ?_
              refine V0_iconst (pc := 161) (1) dX8_readOperand_161 (by decide) ?_
              refine V_putz (pc := 162) dX8_readOperand_162 flX8_27 rfl rfl (Or.inr rfl) ?_
              refine V_retv (pc := 165) dX8_readOperand_165 rfl ?_
              first | exact ⟨rfl, rfl, hoc _⟩ | exact ⟨rfl, rfl, oc_name hs h26 hlt (by omega)⟩ | exact ⟨rfl, rfl, oc_other hs h15 h26 (of_decide_eq_false h73) (of_decide_eq_false h103) (of_decide_eq_false h133)⟩
            · skip
              rw [if_pos (of_decide_eq_true h133)]
              have eT : g_T B n a = 40 := of_decide_eq_true h133
              have hlt := hs.lt (by rw [eT]; decide)
              have hs2 := hs.adv hlt
              refine V0_aload_n (pc := 136) dX8_readOperand_136 rfl ?_
              refine V0_iload_n (pc := 137) dX8_readOperand_137 rfl ?_
              refine V0_iconst (pc := 138) (1) dX8_readOperand_138 (by decide) ?_
              refine V0_iadd (pc := 139) dX8_readOperand_139 ?_
              rw [hst]
              refine V_callV (pc := 140) (M' := mX8_readEither) dX8_readOperand_140 mlX8_45 okX8_readEither rfl (hE _ J (a + 1) k hs2 (by omega)) rfl rfl rfl rfl (px_hr (by omega) (by decide)) ⟨Nat.le_refl 0, Nat.le_refl 0⟩ (Nat.le_of_ble_eq_true rfl) ?_
              intro r1 I1 J1 hh
              obtain ⟨e1, e2, hoc⟩ := hh
              rw [e1, e2]
              clear e1 e2 r1 J1
              obtain ⟨hpf, ⟨bb, c, hp, hs3, hkc⟩ | ⟨bb, k2, hp, hd3, hle⟩⟩ := hoc
              · exact P_live (by omega) hs3 (fun e => ⟨rfl, rfl, oc_par eT hpf hp hs3 hkc e⟩) (fun e => ⟨rfl, rfl, oc_parY eT hpf hp hs3 e⟩)
              · exact P_dead (by omega) hd3 ⟨rfl, rfl, oc_parX eT hpf hp hd3 hle⟩
          · skip
            rw [if_pos (of_decide_eq_true h103)]
            have eT : g_T B n a = 45 := of_decide_eq_true h103
            have hlt := hs.lt (by rw [eT]; decide)
            have hs2 := hs.adv hlt
            refine V0_aload_n (pc := 106) dX8_readOperand_106 rfl ?_
            refine V0_iload_n (pc := 107) dX8_readOperand_107 rfl ?_
            refine V0_iconst (pc := 108) (1) dX8_readOperand_108 (by decide) ?_
            refine V0_iadd (pc := 109) dX8_readOperand_109 ?_
            rw [hst]
            refine V_callV (pc := 110) (M' := mX8_readOperand) dX8_readOperand_110 mlX8_68 okX8_readOperand rfl (hO _ J (a + 1) k hs2 (by omega)) rfl rfl rfl rfl (px_hr (by omega) (by decide)) ⟨Nat.le_refl 0, Nat.le_refl 0⟩ (Nat.le_of_ble_eq_true rfl) ?_
            intro r1 I1 J1 hh
            obtain ⟨e1, e2, hoc⟩ := hh
            rw [e1, e2]
            clear e1 e2 r1 J1
            obtain ⟨hpf, ⟨bb, c, hp, hs3, hkc⟩ | ⟨bb, k2, hp, hd3, hle⟩⟩ := hoc
            · have fit := hp.fitB
              have q := (fit.2.2 rfl).1
              have q2 := fit.2.1 (by omega)
              exact A_op126 (by omega) hs3.2.2.2.2.2.1 (by omega) ⟨rfl, rfl, oc_pre (Or.inr ⟨eT, rfl⟩) hpf hp hs3 hkc (by omega)⟩
            · have fit := hp.fitB
              have q2 := fit.2.1 (by omega)
              exact A_op126 (by omega) hd3.2.2.2.2.2.1 (by omega) ⟨rfl, rfl, oc_preX (Or.inr eT) hpf hp hd3 hle (by omega)⟩
        · skip
          rw [if_pos (of_decide_eq_true h73)]
          have eT : g_T B n a = 33 := of_decide_eq_true h73
          have hlt := hs.lt (by rw [eT]; decide)
          have hs2 := hs.adv hlt
          refine V0_aload_n (pc := 76) dX8_readOperand_76 rfl ?_
          refine V0_iload_n (pc := 77) dX8_readOperand_77 rfl ?_
          refine V0_iconst (pc := 78) (1) dX8_readOperand_78 (by decide) ?_
          refine V0_iadd (pc := 79) dX8_readOperand_79 ?_
          rw [hst]
          refine V_callV (pc := 80) (M' := mX8_readOperand) dX8_readOperand_80 mlX8_68 okX8_readOperand rfl (hO _ J (a + 1) k hs2 (by omega)) rfl rfl rfl rfl (px_hr (by omega) (by decide)) ⟨Nat.le_refl 0, Nat.le_refl 0⟩ (Nat.le_of_ble_eq_true rfl) ?_
          intro r1 I1 J1 hh
          obtain ⟨e1, e2, hoc⟩ := hh
          rw [e1, e2]
          clear e1 e2 r1 J1
          obtain ⟨hpf, ⟨bb, c, hp, hs3, hkc⟩ | ⟨bb, k2, hp, hd3, hle⟩⟩ := hoc
          · have fit := hp.fitB
            have q := (fit.2.2 rfl).1
            have q2 := fit.2.1 (by omega)
            exact A_op33 (by omega) hs3.2.2.2.2.2.1 (by omega) ⟨rfl, rfl, oc_pre (Or.inl ⟨eT, rfl⟩) hpf hp hs3 hkc (by omega)⟩
          · have fit := hp.fitB
            have q2 := fit.2.1 (by omega)
            exact A_op33 (by omega) hd3.2.2.2.2.2.1 (by omega) ⟨rfl, rfl, oc_preX (Or.inl eT) hpf hp hd3 hle (by omega)⟩
      · skip
        exact absurd ((qI_lt (b := 6) (by omega) (by omega)).mpr (by omega)) h56
    · skip
      have hlt := hs.lt (fun e => h26 (by rw [e]; decide))
      have hk2 : px_up I 33 3 (nI (a + 1)) 34 4 = nI k := hk
      refine V0_aload_n (pc := 29) dX8_readOperand_29 rfl ?_
      refine V0_dup (pc := 30) dX8_readOperand_30 rfl ?_
      refine V_geti (pc := 31) dX8_readOperand_31 flX8_24 rfl rfl ?_
      refine V0_iconst (pc := 34) (1) dX8_readOperand_34 (by decide) ?_
      refine V0_iadd (pc := 35) dX8_readOperand_35 ?_
      rw [hs.2.2.1, nI_1]
      refine V_puti (pc := 36) dX8_readOperand_36 flX8_24 rfl rfl ?_
      refine V0_aload_n (pc := 39) dX8_readOperand_39 rfl ?_
      refine V_getr (pc := 40) dX8_readOperand_40 flX8_10 rfl rfl ?_
      refine V0_bipush (pc := 43) (36) dX8_readOperand_43 (by decide) ?_
      refine V0_iload_n (pc := 45) dX8_readOperand_45 rfl ?_
      refine V_callV (pc := 46) (M' := mX3_add) dX8_readOperand_46 mlX8_49 okX3_add rfl (c_X3_add lw34 hk2 hk9) rfl rfl rfl rfl (px_hr (by omega) (by decide)) ⟨Nat.le_refl 0, Nat.le_refl 0⟩ (Nat.le_of_ble_eq_true rfl) ?_
      intro r1 I1 J1 hh
      obtain ⟨e1, e2, e3⟩ := hh
      rw [e1, e2, e3]
      clear e1 e2 e3 r1 I1 J1
      refine V0_pop (pc := 49) dX8_readOperand_49 rfl ?_
      refine V0_goto (pc := 50) 165 dX8_readOperand_50 (by decide) ?_
      refine V_retv (pc := 165) dX8_readOperand_165 rfl ?_
      first | exact ⟨rfl, rfl, hoc _⟩ | exact ⟨rfl, rfl, oc_name hs h26 hlt (by omega)⟩ | exact ⟨rfl, rfl, oc_other hs h15 h26 (of_decide_eq_false h73) (of_decide_eq_false h103) (of_decide_eq_false h133)⟩
  · skip
    refine V0_aload_n (pc := 18) dX8_readOperand_18 rfl ?_
    refine V_callV (pc := 19) (M' := mX8_readNumber) dX8_readOperand_19 mlX8_78 okX8_readNumber rfl (c_X8_readNumber hs hka h15) rfl rfl rfl rfl (px_hr (by omega) (by decide)) ⟨Nat.le_refl 0, Nat.le_refl 0⟩ (Nat.le_of_ble_eq_true rfl) ?_
    intro r1 I1 J1 hh
    obtain ⟨e1, e2, hoc⟩ := hh
    rw [e1, e2]
    clear e1 e2 r1 J1
    refine V0_goto (pc := 22) 165 dX8_readOperand_22 (by decide) ?_
    refine V_retv (pc := 165) dX8_readOperand_165 rfl ?_
    first | exact ⟨rfl, rfl, hoc _⟩ | exact ⟨rfl, rfl, oc_name hs h26 hlt (by omega)⟩ | exact ⟨rfl, rfl, oc_other hs h15 h26 (of_decide_eq_false h73) (of_decide_eq_false h103) (of_decide_eq_false h133)⟩
theorem g_all {l : Launch} {B : Nat → Int32} {n : Nat} : ∀ r, r ≤ 6 → G_lev l B n 0 mX8_readOperand (2 + 6 * r) r ∧ G_lev l B n 5 mX8_readEither (2 + 6 * r + 5) r := by
  have up : ∀ d r, 2 ≤ d → G_lev l B n 0 mX8_readOperand d r → G_lev l B n 5 mX8_readEither (d + 5) r := fun d r hd h => g_X8_readEither (by omega) (g_X8_readBoth (by omega) (g_X8_readCompared (by omega) (g_X8_readSum (by omega) (g_X8_readProduct hd h))))
  intro r
  induction r with
  | zero => intro _; exact ⟨g_op0, up 2 0 (by omega) g_op0⟩
  | succ r ih =>
    intro h
    have ⟨i1, i2⟩ := ih (by omega)
    have q := g_opS (by omega) (by omega) i1 i2
    exact ⟨q, up _ _ (by omega) q⟩

