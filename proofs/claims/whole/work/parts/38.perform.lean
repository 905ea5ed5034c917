/-! an act performed -/
def a_kinds (I : px_I) : Prop := ∀ j, j < 50 → ∃ k, k < 8 ∧ I 52 j = nI k
theorem a_short : ∀ k, k < 8 → ∀ a, a < 4 → (a_tr (nI k) 40 (nI k) a).length < 1000 := by decide +kernel
theorem c_X0_perform {l : Launch} {I : px_I} {J : px_J} {b ac x : Int32} (hkinds : a_kinds I) : Ct l mX0_perform 83 [.ref 51, .int b, .int ac, .int x] I J (px_qi (if g_isB I b = true ∧ ¬ ac < 0 ∧ ac < 4 then a_vl b (I 52 (ix b)) 40 (I 52 (ix b)) (ix ac) x else 0) (if g_isB I b = true ∧ ¬ ac < 0 ∧ ac < 4 then g_notes (px_up (px_up I 51 3 0) 51 4 b) 0 (a_tr (I 52 (ix b)) 40 (I 52 (ix b)) (ix ac)) else px_up I 51 3 0) J) := by
  refine Ct.of plX0_perform (Nat.le_of_ble_eq_true rfl) [.ref 51, .int b, .int ac, .int x] rfl ?_
  refine V0_aload_n (pc := 0) dX0_perform_0 rfl ?_
  refine V0_iconst (pc := 1) (0) dX0_perform_1 (by decide) ?_
  refine V_puti (pc := 2) dX0_perform_2 flX0_22 rfl rfl ?_
  refine V0_aload_n (pc := 5) dX0_perform_5 rfl ?_
  refine V0_iload_n (pc := 6) dX0_perform_6 rfl ?_
  refine V_callVi (pc := 7) (M' := mX0_isBody) dX0_perform_7 mlX0_34 okX0_isBody rfl c_X0_isBody rfl rfl rfl rfl (px_hr (by omega) (by decide)) ⟨Nat.le_refl 0, Nat.le_refl 0⟩ (Nat.le_of_ble_eq_true rfl) ?_
  refine V_ifeqb (pc := 10) 22 dX0_perform_10 (by decide) (fun h10 => ?_) (fun h10 => ?_)
  · skip
    refine V0_iconst (pc := 22) (0) dX0_perform_22 (by decide) ?_
    refine V_reti (pc := 23) _ dX0_perform_23 rfl ?_
    have q : ¬ (g_isB I b = true ∧ ¬ ac < 0 ∧ ac < 4) := by first | exact (fun q => absurd (q.1.symm.trans (show g_isB I b = false from h10)) (by decide)) | exact (fun q => q.2.1 h14) | exact (fun q => h19 q.2.2)
    rw [if_neg q, if_neg q]
    exact ⟨rfl, rfl, rfl⟩
  · skip
    refine V0_iload_n (pc := 13) dX0_perform_13 rfl ?_
    refine V0_if_lt (pc := 14) 22 dX0_perform_14 (by decide) (fun h14 => ?_) (fun h14 => ?_)
    · skip
      refine V0_iconst (pc := 22) (0) dX0_perform_22 (by decide) ?_
      refine V_reti (pc := 23) _ dX0_perform_23 rfl ?_
      have q : ¬ (g_isB I b = true ∧ ¬ ac < 0 ∧ ac < 4) := by first | exact (fun q => absurd (q.1.symm.trans (show g_isB I b = false from h10)) (by decide)) | exact (fun q => q.2.1 h14) | exact (fun q => h19 q.2.2)
      rw [if_neg q, if_neg q]
      exact ⟨rfl, rfl, rfl⟩
    · skip
      refine V0_iload_n (pc := 17) dX0_perform_17 rfl ?_
      refine V0_iconst (pc := 18) (4) dX0_perform_18 (by decide) ?_
      refine V0_icmp_lt (pc := 19) 24 dX0_perform_19 (by decide) (fun h19 => ?_) (fun h19 => ?_)
      · skip
        have hb := s_is_ix (c := 50) rfl (by omega) (n := I 51 2) h10
        have hac : ac = nI (ix ac) := nI_ix h14
        have ha4 : ix ac < 4 := ix_lt h14 (by omega) h19
        obtain ⟨k, hk, hkk⟩ := hkinds _ hb.2
        refine V0_aload_n (pc := 24) dX0_perform_24 rfl ?_
        refine V0_iload_n (pc := 25) dX0_perform_25 rfl ?_
        refine V_puti (pc := 26) dX0_perform_26 flX0_38 rfl rfl ?_
        refine V0_aload_n (pc := 29) dX0_perform_29 rfl ?_
        refine V0_iload_n (pc := 30) dX0_perform_30 rfl ?_
        refine V0_iload_n (pc := 31) dX0_perform_31 rfl ?_
        refine V0_iconst (pc := 32) (0) dX0_perform_32 (by decide) ?_
        rw [hb.1, hac]
        have hc := c_X0_ask (l := l) (J := J) (x := x) (c_X0_run 40) (I := px_up (px_up I 51 3 0) 51 4 (nI (ix b))) (d := 0) (sf := ix b) (a := ix ac) (r := 0) (by omega) ha4 hb.2 px_up_same rfl (by rw [show px_up (px_up I 51 3 0) 51 4 (nI (ix b)) 52 (ix b) = nI k from hkk]; have := a_short k hk _ ha4; omega)
        refine V_callV (pc := 33) (M' := mX0_ask) dX0_perform_33 mlX0_41 okX0_ask rfl hc rfl rfl rfl rfl (px_hr (by omega) (by decide)) ⟨Nat.le_refl 0, Nat.le_refl 0⟩ (Nat.le_of_ble_eq_true rfl) ?_
        intro r1 I1 J1 hh
        obtain ⟨e1, e2, e3⟩ := hh
        rw [e1, e2, e3]
        clear e1 e2 e3 r1 I1 J1
        refine V_reti (pc := 36) _ dX0_perform_36 rfl ?_
        have q : g_isB I b = true ∧ ¬ ac < 0 ∧ ac < 4 := ⟨h10, h14, h19⟩
        rw [← hac, ← hb.1, if_pos q, if_pos q]
        exact ⟨rfl, rfl, rfl⟩
      · skip
        refine V0_iconst (pc := 22) (0) dX0_perform_22 (by decide) ?_
        refine V_reti (pc := 23) _ dX0_perform_23 rfl ?_
        have q : ¬ (g_isB I b = true ∧ ¬ ac < 0 ∧ ac < 4) := by first | exact (fun q => absurd (q.1.symm.trans (show g_isB I b = false from h10)) (by decide)) | exact (fun q => q.2.1 h14) | exact (fun q => h19 q.2.2)
        rw [if_neg q, if_neg q]
        exact ⟨rfl, rfl, rfl⟩

