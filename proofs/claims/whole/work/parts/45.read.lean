/-! the whole tape -/
def fin (B : Nat → Int32) (n b k : Nat) (I : px_I) (r : Int32) (I2 : px_I) : Prop := pf I I2 ∧ I2 33 2 = nI n ∧ ((∃ Ls, PTt (g_T B n) Ls b n ∧ r = 1 ∧ I2 34 4 = nI (k + (l_flat k Ls).length) ∧ kc I I2 k (l_flat k Ls) ∧ k + (l_flat k Ls).length ≤ n + 1 ∧ ∀ L, L ∈ Ls → l_good L) ∨ (∃ e m, PTx (g_T B n) n m b e ∧ e ≤ n ∧ r = -100 - nI e))
def lw_ok (B : Nat → Int32) (n : Nat) (Ls : List l_L) : Prop := ∃ L Lr b, Ls = L :: Lr ∧ PLn (g_T B n) 0 b L ∧ PTt (g_T B n) Lr b n
def lw_bad (B : Nat → Int32) (n e : Nat) : Prop := PLx (g_T B n) 0 e ∨ ∃ L b m, PLn (g_T B n) 0 b L ∧ PTx (g_T B n) n m b e
theorem LW_no {B : Nat → Int32} {n b k : Nat} {I : px_I} (h : pd B n b k I) (h1 : I 33 4 = 0) (h2 : ¬ I 33 3 < I 33 2) : False := by
  rcases h.2.2.2.2.1 with q | q
  · exact q h1
  · rw [show g_next I = -1 by unfold g_next; exact if_neg (fun z => h2 z.2.1)] at q
    exact absurd q (by decide)
theorem LW_dead {l : Launch} {B : Nat → Int32} {n b k : Nat} {I : px_I} {J : px_J} {Q : px_Q} {w : Int32} (h : pd B n b k I) (hQ : Q (some (.int (-100 - nI b))) I J) : V0 l (px_rm 45 0 0) mX8_readLaw (false, []) 0 0 23 [.ref 33, .int w] [] (px_mk I J) (px_q Q) := by
  refine V0_iload_n (pc := 23) dX8_readLaw_23 rfl ?_
  refine V0_bipush (pc := 24) (120) dX8_readLaw_24 (by decide) ?_
  refine V1_icmp_ge (pc := 26) 48 dX8_readLaw_26 (by decide) (fun h26 => ?_) (fun h26 => ?_)
  · skip
    refine V0_aload_n (pc := 48) dX8_readLaw_48 rfl ?_
    refine V_geti (pc := 49) dX8_readLaw_49 flX8_27 rfl rfl ?_
    refine V0_if_ne (pc := 52) 66 dX8_readLaw_52 (by decide) (fun h52 => ?_) (fun h52 => ?_)
    · skip
      refine V0_bipush (pc := 66) (-100) dX8_readLaw_66 (by decide) ?_
      refine V0_aload_n (pc := 68) dX8_readLaw_68 rfl ?_
      refine V_geti (pc := 69) dX8_readLaw_69 flX8_24 rfl rfl ?_
      rw [h.2.2.1]
      refine V0_isub (pc := 72) dX8_readLaw_72 ?_
      refine V0_goto (pc := 73) 77 dX8_readLaw_73 (by decide) ?_
      refine V_reti (pc := 77) _ dX8_readLaw_77 rfl ?_
      exact hQ
    · skip
      refine V0_aload_n (pc := 55) dX8_readLaw_55 rfl ?_
      refine V_geti (pc := 56) dX8_readLaw_56 flX8_24 rfl rfl ?_
      refine V0_aload_n (pc := 59) dX8_readLaw_59 rfl ?_
      refine V_geti (pc := 60) dX8_readLaw_60 flX8_20 rfl rfl ?_
      refine V1_icmp_ge (pc := 63) 76 dX8_readLaw_63 (by decide) (fun h63 => ?_) (fun h63 => ?_)
      · skip
        exact (LW_no h h52 h63).elim
      · skip
        refine V0_bipush (pc := 66) (-100) dX8_readLaw_66 (by decide) ?_
        refine V0_aload_n (pc := 68) dX8_readLaw_68 rfl ?_
        refine V_geti (pc := 69) dX8_readLaw_69 flX8_24 rfl rfl ?_
        rw [h.2.2.1]
        refine V0_isub (pc := 72) dX8_readLaw_72 ?_
        refine V0_goto (pc := 73) 77 dX8_readLaw_73 (by decide) ?_
        refine V_reti (pc := 77) _ dX8_readLaw_77 rfl ?_
        exact hQ
  · skip
    refine V0_aload_n (pc := 29) dX8_readLaw_29 rfl ?_
    refine V0_bipush (pc := 30) (59) dX8_readLaw_30 (by decide) ?_
    refine V_callV (pc := 32) (M' := mX8_takes) dX8_readLaw_32 mlX8_37 okX8_takes rfl (c_takesD h (by decide) (by decide)) rfl rfl rfl rfl ⟨Nat.le_of_ble_eq_true rfl, Nat.le_of_ble_eq_true rfl⟩ ⟨Nat.le_refl 0, Nat.le_refl 0⟩ (Nat.le_of_ble_eq_true rfl) ?_
    intro r1 I1 J1 hh
    obtain ⟨e1, e2, e3⟩ := hh
    rw [e1, e2, e3]
    clear e1 e2 e3 r1 I1 J1
    refine V_ifeqb (pc := 35) 48 dX8_readLaw_35 (by decide) (fun h35 => ?_) (fun h35 => ?_)
    · skip
      refine V0_aload_n (pc := 48) dX8_readLaw_48 rfl ?_
      refine V_geti (pc := 49) dX8_readLaw_49 flX8_27 rfl rfl ?_
      refine V0_if_ne (pc := 52) 66 dX8_readLaw_52 (by decide) (fun h52 => ?_) (fun h52 => ?_)
      · skip
        refine V0_bipush (pc := 66) (-100) dX8_readLaw_66 (by decide) ?_
        refine V0_aload_n (pc := 68) dX8_readLaw_68 rfl ?_
        refine V_geti (pc := 69) dX8_readLaw_69 flX8_24 rfl rfl ?_
        rw [h.2.2.1]
        refine V0_isub (pc := 72) dX8_readLaw_72 ?_
        refine V0_goto (pc := 73) 77 dX8_readLaw_73 (by decide) ?_
        refine V_reti (pc := 77) _ dX8_readLaw_77 rfl ?_
        exact hQ
      · skip
        refine V0_aload_n (pc := 55) dX8_readLaw_55 rfl ?_
        refine V_geti (pc := 56) dX8_readLaw_56 flX8_24 rfl rfl ?_
        refine V0_aload_n (pc := 59) dX8_readLaw_59 rfl ?_
        refine V_geti (pc := 60) dX8_readLaw_60 flX8_20 rfl rfl ?_
        refine V1_icmp_ge (pc := 63) 76 dX8_readLaw_63 (by decide) (fun h63 => ?_) (fun h63 => ?_)
        · skip
          exact (LW_no h h52 h63).elim
        · skip
          refine V0_bipush (pc := 66) (-100) dX8_readLaw_66 (by decide) ?_
          refine V0_aload_n (pc := 68) dX8_readLaw_68 rfl ?_
          refine V_geti (pc := 69) dX8_readLaw_69 flX8_24 rfl rfl ?_
          rw [h.2.2.1]
          refine V0_isub (pc := 72) dX8_readLaw_72 ?_
          refine V0_goto (pc := 73) 77 dX8_readLaw_73 (by decide) ?_
          refine V_reti (pc := 77) _ dX8_readLaw_77 rfl ?_
          exact hQ
    · skip
      exact absurd h35 (by decide)
theorem fin_step {B : Nat → Int32} {n b k a' j : Nat} {x r : Int32} {L : l_L} {I I1 I2 : px_I} (hT : g_T B n b = 59) (hL : PLn (g_T B n) (b + 1) a' L) (hpf : pf (px_up I 33 j x) I1) (hkc : kc (px_up I 33 j x) I1 k (l_line k L)) (h : fin B n a' (k + (l_line k L).length) I1 r I2) : fin B n b k I r I2 := by
  obtain ⟨h1, h2, ⟨Ls, q1, q2, q3, q4, q5, q6⟩ | ⟨e, m, q1, q2, q3⟩⟩ := h
  · have el : k + (l_flat k (L :: Ls)).length = k + (l_line k L).length + (l_flat (k + (l_line k L).length) Ls).length := by simp only [l_flat, List.length_append]; omega
    refine ⟨(pf.up.tr hpf).tr h1, h2, Or.inl ⟨L :: Ls, ⟨hT, a', hL, q1⟩, q2, ?_, kc.tr (kc.up hkc) q4, ?_, ?_⟩⟩
    · rw [el]; exact q3
    · rw [el]; exact q5
    · intro M hM
      rcases List.mem_cons.mp hM with e | e
      · rw [e]; exact (hL.fit (k := 0)).2.2.2
      · exact q6 M e
  · exact ⟨(pf.up.tr hpf).tr h1, h2, Or.inr ⟨e, m + 1, ⟨hT, a', L, hL, q1⟩, q2, q3⟩⟩
theorem PLx.fit {B : Nat → Int32} {n a e : Nat} (h : PLx (g_T B n) a e) (ha : a ≤ n) : e ≤ n := by
  rcases h with p | ⟨b, c, p, hb, p2⟩
  · exact p.fitB.2.1 ha
  · have hbn : b < n := Nat.lt_of_not_le (fun q => by rw [g_T_end b q] at hb; exact absurd hb (by decide))
    exact p2.fitB.2.1 (by omega)
theorem LW_exit {l : Launch} {B : Nat → Int32} {n b k : Nat} {I : px_I} {J : px_J} {Q : px_Q} {w : Value} (hs : ps B n b k I) (h1 : b < n → Q (some (.int (-100 - nI b))) I J) (h2 : ¬ b < n → Q (some (.int 1)) I J) : V0 l (px_rm 45 0 0) mX8_readLaw (false, []) 0 0 48 [.ref 33, w] [] (px_mk I J) (px_q Q) := by
  have hn120 := hs.2.1
  have hbn0 := hs.2.2.2.1
  refine V0_aload_n (pc := 48) dX8_readLaw_48 rfl ?_
  refine V_geti (pc := 49) dX8_readLaw_49 flX8_27 rfl rfl ?_
  refine V0_if_ne (pc := 52) 66 dX8_readLaw_52 (by decide) (fun h52 => ?_) (fun h52 => ?_)
  · skip
    exact absurd hs.2.2.2.2.1 h52
  · skip
    refine V0_aload_n (pc := 55) dX8_readLaw_55 rfl ?_
    refine V_geti (pc := 56) dX8_readLaw_56 flX8_24 rfl rfl ?_
    refine V0_aload_n (pc := 59) dX8_readLaw_59 rfl ?_
    refine V_geti (pc := 60) dX8_readLaw_60 flX8_20 rfl rfl ?_
    rw [hs.2.2.1, hs.1]
    refine V1_icmp_ge (pc := 63) 76 dX8_readLaw_63 (by decide) (fun h63 => ?_) (fun h63 => ?_)
    · skip
      have hz := h2 (fun q => h63 ((qI_lt (by omega) (by omega)).mpr q))
      refine V0_iconst (pc := 76) (1) dX8_readLaw_76 (by decide) ?_
      refine V_reti (pc := 77) _ dX8_readLaw_77 rfl ?_
      exact hz
    · skip
      have hz := h1 (px_lt h63 (by omega) (by omega))
      refine V0_bipush (pc := 66) (-100) dX8_readLaw_66 (by decide) ?_
      refine V0_aload_n (pc := 68) dX8_readLaw_68 rfl ?_
      refine V_geti (pc := 69) dX8_readLaw_69 flX8_24 rfl rfl ?_
      rw [hs.2.2.1]
      refine V0_isub (pc := 72) dX8_readLaw_72 ?_
      refine V0_goto (pc := 73) 77 dX8_readLaw_73 (by decide) ?_
      refine V_reti (pc := 77) _ dX8_readLaw_77 rfl ?_
      exact hz
theorem H_law {l : Launch} {B : Nat → Int32} {n : Nat} {J : px_J} {Q : px_Q} : ∀ (f b k i : Nat) (Ia : px_I), n - b < f → ps B n b k Ia → k ≤ b + 1 → i ≤ b → (∀ r I2, fin B n b k Ia r I2 → Q (some (.int r)) I2 J) → V0 l (px_rm 45 0 0) mX8_readLaw (false, []) 0 0 23 [.ref 33, .int (nI i)] [] (px_mk Ia J) (px_q Q) := by
  intro f
  induction f with
  | zero => intro b k i Ia h1; omega
  | succ f ih =>
    intro b k i Ia h1 hs hkb hib hQ
    have hn120 := hs.2.1
    have hbn0 := hs.2.2.2.1
    have hk := hs.2.2.2.2.2.1
    have key : ¬ g_T B n b = 59 → (b < n → Q (some (.int (-100 - nI b))) Ia J) ∧ (¬ b < n → Q (some (.int 1)) Ia J) := by
      intro hT
      refine ⟨fun q => hQ _ _ ⟨pf.rf, hs.1, Or.inr ⟨b, 0, Or.inl ⟨hT, q, rfl⟩, hbn0, rfl⟩⟩, fun q => hQ _ _ ⟨pf.rf, hs.1, Or.inl ⟨[], ⟨by omega, hT⟩, rfl, hk, kc.rf, by simp [l_flat]; omega, fun L hL => by cases hL⟩⟩⟩
    have k10 : ¬ nI i < 120 → ¬ g_T B n b = 59 := fun h => by rw [g_T_end b (by have := px_ge (b := 120) h (by omega) (by omega); omega)]; decide
    refine V0_iload_n (pc := 23) dX8_readLaw_23 rfl ?_
    refine V0_bipush (pc := 24) (120) dX8_readLaw_24 (by decide) ?_
    refine V1_icmp_ge (pc := 26) 48 dX8_readLaw_26 (by decide) (fun h26 => ?_) (fun h26 => ?_)
    · skip
      first | exact LW_exit hs (key (k10 h26)).1 (key (k10 h26)).2 | (rw [if_neg (of_decide_eq_false h35)]; exact LW_exit hs (key (of_decide_eq_false h35)).1 (key (of_decide_eq_false h35)).2)
    · skip
      refine V0_aload_n (pc := 29) dX8_readLaw_29 rfl ?_
      refine V0_bipush (pc := 30) (59) dX8_readLaw_30 (by decide) ?_
      refine V_callV (pc := 32) (M' := mX8_takes) dX8_readLaw_32 mlX8_37 okX8_takes rfl (c_takesT hs) rfl rfl rfl rfl ⟨Nat.le_of_ble_eq_true rfl, Nat.le_of_ble_eq_true rfl⟩ ⟨Nat.le_refl 0, Nat.le_refl 0⟩ (Nat.le_of_ble_eq_true rfl) ?_
      intro r1 I1 J1 hh
      obtain ⟨e1, e2, e3⟩ := hh
      rw [e1, e2, e3]
      clear e1 e2 e3 r1 I1 J1
      refine V_ifeqb (pc := 35) 48 dX8_readLaw_35 (by decide) (fun h35 => ?_) (fun h35 => ?_)
      · skip
        first | exact LW_exit hs (key (k10 h26)).1 (key (k10 h26)).2 | (rw [if_neg (of_decide_eq_false h35)]; exact LW_exit hs (key (of_decide_eq_false h35)).1 (key (of_decide_eq_false h35)).2)
      · skip
        rw [if_pos (of_decide_eq_true h35)]
        have eT : g_T B n b = 59 := of_decide_eq_true h35
        have hlt := hs.lt (by rw [eT]; decide)
        have hs2 := hs.adv hlt
        refine V0_aload_n (pc := 38) dX8_readLaw_38 rfl ?_
        refine V_callV (pc := 39) (M' := mX8_readLine) dX8_readLaw_39 mlX8_34 okX8_readLine rfl (c_X8_readLine hs2 (by omega)) rfl rfl rfl rfl ⟨Nat.le_of_ble_eq_true rfl, Nat.le_of_ble_eq_true rfl⟩ ⟨Nat.le_refl 0, Nat.le_refl 0⟩ (Nat.le_of_ble_eq_true rfl) ?_
        intro r1 I1 J1 hh
        obtain ⟨e1, e2, hlo⟩ := hh
        rw [e1, e2]
        clear e1 e2 r1 J1
        refine V0_iinc_1 (pc := 42) (nI (i + 1)) dX8_readLaw_42 (by decide) rfl (nI_1 _) ?_
        refine V0_goto (pc := 45) 23 dX8_readLaw_45 (by decide) ?_
        obtain ⟨hpf, ⟨bb, L, hL, hs3, hkc⟩ | ⟨bb, k2, hx, hd3, hle⟩⟩ := hlo
        · have ft := hL.fit (k := k)
          exact ih bb (k + (l_line k L).length) (i + 1) I1 (by omega) hs3 (by omega) (by omega) (fun r I2 h => hQ r I2 (fin_step eT hL hpf hkc h))
        · exact LW_dead hd3 (hQ _ _ ⟨pf.up.tr hpf, hd3.1, Or.inr ⟨bb, 0, Or.inr ⟨eT, hx⟩, hd3.2.2.2.1, rfl⟩⟩)
theorem c_X8_readLaw {l : Launch} {B : Nat → Int32} {n : Nat} {I : px_I} {J : px_J} (hn : I 33 2 = nI n) (hn120 : n ≤ 120) (hB : I 39 = B) : Ct l mX8_readLaw 45 [.ref 33] I J (fun x I' J' => J' = J ∧ pf I I' ∧ I' 33 2 = nI n ∧ ((∃ Ls, lw_ok B n Ls ∧ x = some (.int 1) ∧ px_law I' 34 Ls) ∨ (∃ e, lw_bad B n e ∧ e ≤ n ∧ x = some (.int (-100 - nI e))))) := by
  have hs0 : ps B n 0 0 (px_up (px_up (px_up I 33 3 0) 33 4 0) 34 4 0) := ⟨hn, hn120, rfl, by omega, rfl, rfl, hB⟩
  have hp0 : pf I (px_up (px_up (px_up I 33 3 0) 33 4 0) 34 4 0) := fun q a b c d => (px_up_row b).trans ((px_up_row a).trans (px_up_row a))
  refine Ct.of plX8_readLaw (Nat.le_of_ble_eq_true rfl) [.ref 33, .null] rfl ?_
  refine V0_aload_n (pc := 0) dX8_readLaw_0 rfl ?_
  refine V0_iconst (pc := 1) (0) dX8_readLaw_1 (by decide) ?_
  refine V_puti (pc := 2) dX8_readLaw_2 flX8_24 rfl rfl ?_
  refine V0_aload_n (pc := 5) dX8_readLaw_5 rfl ?_
  refine V0_iconst (pc := 6) (0) dX8_readLaw_6 (by decide) ?_
  refine V_putz (pc := 7) dX8_readLaw_7 flX8_27 rfl rfl (Or.inl rfl) ?_
  refine V0_aload_n (pc := 10) dX8_readLaw_10 rfl ?_
  refine V_getr (pc := 11) dX8_readLaw_11 flX8_10 rfl rfl ?_
  refine V_callV (pc := 14) (M' := mX3_clear) dX8_readLaw_14 mlX8_31 okX3_clear rfl (c_X3_clear lw34) rfl rfl rfl rfl ⟨Nat.le_of_ble_eq_true rfl, Nat.le_of_ble_eq_true rfl⟩ ⟨Nat.le_refl 0, Nat.le_refl 0⟩ (Nat.le_of_ble_eq_true rfl) ?_
  intro r1 I1 J1 hh
  obtain ⟨e1, e2, e3⟩ := hh
  rw [e1, e2, e3]
  clear e1 e2 e3 r1 I1 J1
  refine V0_aload_n (pc := 17) dX8_readLaw_17 rfl ?_
  refine V_callV (pc := 18) (M' := mX8_readLine) dX8_readLaw_18 mlX8_34 okX8_readLine rfl (c_X8_readLine hs0 (by omega)) rfl rfl rfl rfl ⟨Nat.le_of_ble_eq_true rfl, Nat.le_of_ble_eq_true rfl⟩ ⟨Nat.le_refl 0, Nat.le_refl 0⟩ (Nat.le_of_ble_eq_true rfl) ?_
  intro r1 I1 J1 hh
  obtain ⟨e1, e2, hlo⟩ := hh
  rw [e1, e2]
  clear e1 e2 r1 J1
  refine V0_iconst (pc := 21) (0) dX8_readLaw_21 (by decide) ?_
  refine V0_istore_1 (pc := 22) dX8_readLaw_22 (by decide) rfl ?_
  obtain ⟨hpf, ⟨bb, L, hL, hs3, hkc⟩ | ⟨bb, k2, hx, hd3, hle⟩⟩ := hlo
  · have ft := hL.fit (k := 0)
    refine H_law (n + 1) bb (0 + (l_line 0 L).length) 0 I1 (by omega) hs3 (by omega) (by omega) (fun r I2 h => ⟨rfl, ?_⟩)
    obtain ⟨h1, h2, ⟨Ls, q1, q2, q3, q4, q5, q6⟩ | ⟨e, m, q1, q2, q3⟩⟩ := h
    · have el : (l_flat 0 (L :: Ls)).length = 0 + (l_line 0 L).length + (l_flat (0 + (l_line 0 L).length) Ls).length := by simp only [l_flat, List.length_append]; omega
      refine ⟨(hp0.tr hpf).tr h1, h2, Or.inl ⟨L :: Ls, ⟨L, Ls, bb, rfl, hL, q1⟩, by rw [q2], ?_, ?_, ?_, ?_⟩⟩
      · exact (kc.tr hkc q4).2
      · rw [el]; exact q3
      · rw [el]; omega
      · intro M hM
        rcases List.mem_cons.mp hM with e | e
        · rw [e]; exact ft.2.2.2
        · exact q6 M e
    · exact ⟨(hp0.tr hpf).tr h1, h2, Or.inr ⟨e, Or.inr ⟨L, bb, m, hL, q1⟩, q2, by rw [q3]⟩⟩
  · exact LW_dead hd3 ⟨rfl, hp0.tr hpf, hd3.1, Or.inr ⟨bb, Or.inl hx, hd3.2.2.2.1, rfl⟩⟩

