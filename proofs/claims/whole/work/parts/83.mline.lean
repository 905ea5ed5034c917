/-! the Model: lines of the tape -/
theorem m_sh16 : ∀ k, k < 200 → vp_nar .short (nI k).toInt16.toInt32 = nI k := by decide +kernel
theorem m_sh15 : ∀ k, k < 200 → vp_nar .short (nI k) = nI k := by decide +kernel
def m_lfr (k q : Nat) (I X : px_I) : Prop := (∀ p, p ≠ 54 → p ≠ 70 → p ≠ 71 → p ≠ 72 → p ≠ 73 → p ≠ 74 → X p = I p) ∧ (∀ i, i < 21 ∨ 24 < i → X 54 i = I 54 i) ∧ (∀ i, i < 130 + k → X 70 i = I 70 i ∧ X 71 i = I 71 i) ∧ X 72 0 = I 72 0 ∧ (∀ i, i < 61 + q → X 73 i = I 73 i ∧ X 74 i = I 74 i)
theorem m_lfr.rf {k q : Nat} {I : px_I} : m_lfr k q I I := ⟨fun _ _ _ _ _ _ _ => rfl, fun _ _ => rfl, fun _ _ => ⟨rfl, rfl⟩, rfl, fun _ _ => ⟨rfl, rfl⟩⟩
theorem m_lfr.tr {k q k' q' : Nat} {I X Y : px_I} (h : m_lfr k q I X) (g : m_lfr k' q' X Y) (hk : k ≤ k') (hq : q ≤ q') : m_lfr k q I Y := ⟨fun p a b c d e f => (g.1 p a b c d e f).trans (h.1 p a b c d e f), fun i a => (g.2.1 i a).trans (h.2.1 i a), fun i a => ⟨((g.2.2.1 i (by omega)).1).trans (h.2.2.1 i a).1, ((g.2.2.1 i (by omega)).2).trans (h.2.2.1 i a).2⟩, g.2.2.2.1.trans h.2.2.2.1, fun i a => ⟨((g.2.2.2.2 i (by omega)).1).trans (h.2.2.2.2 i a).1, ((g.2.2.2.2 i (by omega)).2).trans (h.2.2.2.2 i a).2⟩⟩
theorem m_fr.l {k q : Nat} {I X : px_I} (h : m_fr k I X) : m_lfr k q I X := ⟨fun p a b c _ _ _ => h.1 p a b c, fun i a => h.2.1 i (by omega), h.2.2, congrFun (h.1 72 (by omega) (by omega) (by omega)) 0, fun i _ => ⟨congrFun (h.1 73 (by omega) (by omega) (by omega)) i, congrFun (h.1 74 (by omega) (by omega) (by omega)) i⟩⟩
theorem m_lfr.up73 {k q : Nat} {I X : px_I} {x : Int32} (h : m_lfr k q I X) : m_lfr k q I (px_up X 73 (61 + q) x) := ⟨fun p a b c d e f => (px_up_row e).trans (h.1 p a b c d e f), fun i a => (congrFun (px_up_row (by omega)) i).trans (h.2.1 i a), fun i a => ⟨(congrFun (px_up_row (by omega)) i).trans (h.2.2.1 i a).1, (congrFun (px_up_row (by omega)) i).trans (h.2.2.1 i a).2⟩, (congrFun (px_up_row (by omega)) 0).trans h.2.2.2.1, fun i a => ⟨(px_up_ne (by omega)).trans (h.2.2.2.2 i a).1, (congrFun (px_up_row (by omega)) i).trans (h.2.2.2.2 i a).2⟩⟩
theorem m_lfr.up74 {k q : Nat} {I X : px_I} {x : Int32} (h : m_lfr k q I X) : m_lfr k q I (px_up X 74 (61 + q) x) := ⟨fun p a b c d e f => (px_up_row f).trans (h.1 p a b c d e f), fun i a => (congrFun (px_up_row (by omega)) i).trans (h.2.1 i a), fun i a => ⟨(congrFun (px_up_row (by omega)) i).trans (h.2.2.1 i a).1, (congrFun (px_up_row (by omega)) i).trans (h.2.2.1 i a).2⟩, (congrFun (px_up_row (by omega)) 0).trans h.2.2.2.1, fun i a => ⟨(congrFun (px_up_row (by omega)) i).trans (h.2.2.2.2 i a).1, (px_up_ne (by omega)).trans (h.2.2.2.2 i a).2⟩⟩
theorem m_lfr.up72 {k q : Nat} {I X : px_I} {x : Int32} (h : m_lfr k q I X) : m_lfr k q I (px_up X 72 1 x) := ⟨fun p a b c d e f => (px_up_row d).trans (h.1 p a b c d e f), fun i a => (congrFun (px_up_row (by omega)) i).trans (h.2.1 i a), fun i a => ⟨(congrFun (px_up_row (by omega)) i).trans (h.2.2.1 i a).1, (congrFun (px_up_row (by omega)) i).trans (h.2.2.1 i a).2⟩, (px_up_ne (by omega)).trans h.2.2.2.1, fun i a => ⟨(congrFun (px_up_row (by omega)) i).trans (h.2.2.2.2 i a).1, (congrFun (px_up_row (by omega)) i).trans (h.2.2.2.2 i a).2⟩⟩
theorem m_s.row {t : Nat → Int32} {n a k r p i : Nat} {I : px_I} {x : Int32} (h : m_s t n a k r I) (h1 : p ≠ 54) (h2 : p ≠ 69) : m_s t n a k r (px_up I p i x) := by
  have e : ∀ j, px_up I p i x 54 j = I 54 j := fun j => congrFun (px_up_row (Ne.symm h1)) j
  unfold m_s
  simp only [e]
  rw [px_up_row (Ne.symm h2)]
  exact h
theorem m_d.row {t : Nat → Int32} {n a k p i : Nat} {I : px_I} {x : Int32} (h : m_d t n a k I) (h1 : p ≠ 54) (h2 : p ≠ 69) : m_d t n a k (px_up I p i x) := by
  have e : ∀ j, px_up I p i x 54 j = I 54 j := fun j => congrFun (px_up_row (Ne.symm h1)) j
  unfold m_d
  simp only [e]
  rw [px_up_row (Ne.symm h2)]
  exact h
def m_le (X : px_I) (q kk : Nat) : px_I := px_up (px_up X 74 (61 + q) (nI kk)) 72 1 (nI (q + 1))
theorem W_le {l : Launch} {J : px_J} {X : px_I} {q kk : Nat} {Q : px_Q} (h24 : X 54 24 = nI kk) (hkk : kk < 200) (h72 : X 72 1 = nI q) (hq : q ≤ 60) (hQ : Q none (m_le X q kk) J) : V0 l (px_rm 44 0 0) mX12_line (false, []) 0 0 66 [.ref 54, .int (nI (61 + q))] [] (px_mk X J) (px_q Q) := by
  refine V0_aload_n (pc := 66) dX12_line_66 rfl ?_
  refine V_getr (pc := 67) dX12_line_67 flX12_69 rfl rfl ?_
  refine V0_iload_n (pc := 70) dX12_line_70 rfl ?_
  refine V0_aload_n (pc := 71) dX12_line_71 rfl ?_
  refine V_geti (pc := 72) dX12_line_72 flX12_193 rfl rfl ?_
  rw [h24]
  refine V0_i2s (pc := 75) dX12_line_75 ?_
  refine V_sast (pc := 76) (61 + q) dX12_line_76 rfl rfl (by omega) ?_
  rw [m_sh16 kk hkk]
  refine V0_aload_n (pc := 77) dX12_line_77 rfl ?_
  refine V_getr (pc := 78) dX12_line_78 flX12_62 rfl rfl ?_
  refine V0_iconst (pc := 81) (1) dX12_line_81 (by decide) ?_
  refine V0_dup2 (pc := 82) dX12_line_82 rfl rfl ?_
  refine V_iald (pc := 83) 1 dX12_line_83 rfl rfl (by omega) ?_
  rw [show px_up X 74 (61 + q) (nI kk) 72 1 = nI q from (congrFun (px_up_row (by omega)) 1).trans h72]
  refine V0_iconst (pc := 84) (1) dX12_line_84 (by decide) ?_
  refine V0_iadd (pc := 85) dX12_line_85 ?_
  rw [nI_1]
  refine V_iast (pc := 86) 1 dX12_line_86 rfl rfl (by omega) ?_
  refine V_retv (pc := 87) dX12_line_87 rfl ?_
  exact hQ
def m_li (I : px_I) (q k : Nat) : px_I := px_up I 73 (61 + q) (nI k)
/-- a line's head: its place, its first expression -/
theorem W_lh {l : Launch} {J : px_J} {t : Nat → Int32} {n a k q : Nat} {I : px_I} {R : px_I → Prop} {Q : px_Q} (h : m_s t n a k 6 I) (h72 : I 72 1 = nI q) (hq : q ≤ 60) (hc : m_C l J mX12_either 43 (m_li I q k) R) (kk : ∀ X, R X → V0 l (px_rm 44 0 0) mX12_line (false, []) 0 0 25 [.ref 54, .int (nI (61 + q))] [] (px_mk X J) (px_q Q)) : V0 l (px_rm 44 0 0) mX12_line (false, []) 0 0 0 [.ref 54, .null] [] (px_mk I J) (px_q Q) := by
  have hk := h.2.2.2.2.2.2.1
  have hn120 := h.2.1
  have han := h.2.2.2.1
  refine V0_bipush (pc := 0) (61) dX12_line_0 (by decide) ?_
  refine V0_aload_n (pc := 2) dX12_line_2 rfl ?_
  refine V_getr (pc := 3) dX12_line_3 flX12_62 rfl rfl ?_
  refine V0_iconst (pc := 6) (1) dX12_line_6 (by decide) ?_
  refine V_iald (pc := 7) 1 dX12_line_7 rfl rfl (by omega) ?_
  rw [h72]
  refine V0_iadd (pc := 8) dX12_line_8 ?_
  rw [show (61 : Int32) + nI q = nI (61 + q) from by rw [show (61 : Int32) = nI 61 from rfl, qI_add]]
  refine V0_istore_1 (pc := 9) dX12_line_9 (by decide) rfl ?_
  refine V0_aload_n (pc := 10) dX12_line_10 rfl ?_
  refine V_getr (pc := 11) dX12_line_11 flX12_65 rfl rfl ?_
  refine V0_iload_n (pc := 14) dX12_line_14 rfl ?_
  refine V0_aload_n (pc := 15) dX12_line_15 rfl ?_
  refine V_geti (pc := 16) dX12_line_16 flX12_193 rfl rfl ?_
  rw [hk.1]
  refine V0_i2s (pc := 19) dX12_line_19 ?_
  refine V_sast (pc := 20) (61 + q) dX12_line_20 rfl rfl (by omega) ?_
  rw [m_sh16 k (by omega)]
  refine V0_aload_n (pc := 21) dX12_line_21 rfl ?_
  refine V_callV (pc := 22) (M' := mX12_either) dX12_line_22 mlX12_221 okX12_either rfl hc rfl rfl rfl rfl ⟨Nat.le_of_ble_eq_true rfl, Nat.le_of_ble_eq_true rfl⟩ ⟨Nat.le_refl 0, Nat.le_refl 0⟩ (Nat.le_of_ble_eq_true rfl) ?_
  intro r1 I1 J1 hh
  obtain ⟨e1, e3, ho⟩ := hh
  rw [e1, e3]
  clear e1 e3 r1 J1
  exact kk _ ho
theorem W_l1 {l : Launch} {J : px_J} {t : Nat → Int32} {n a k q : Nat} {X : px_I} {Q : px_Q} (h : m_s t n a k 6 X) (hT : ¬ m_T t n a = 63) (hl : CtI l mX12_look 0 [.ref 54] X J (m_T t n a)) (kk : V0 l (px_rm 44 0 0) mX12_line (false, []) 0 0 66 [.ref 54, .int (nI (61 + q))] [] (px_mk X J) (px_q Q)) : V0 l (px_rm 44 0 0) mX12_line (false, []) 0 0 25 [.ref 54, .int (nI (61 + q))] [] (px_mk X J) (px_q Q) := by
  refine V0_aload_n (pc := 25) dX12_line_25 rfl ?_
  refine V_geti (pc := 26) dX12_line_26 flX12_190 rfl rfl ?_
  rw [h.2.2.2.2.1]
  refine V1_if_ge (pc := 29) 66 dX12_line_29 (by decide) (fun h29 => ?_) (fun h29 => ?_)
  · skip
    exact absurd (by decide) h29
  · skip
    refine V0_aload_n (pc := 32) dX12_line_32 rfl ?_
    refine V_callVi (pc := 33) (M' := mX12_look) dX12_line_33 mlX12_202 okX12_look rfl hl rfl rfl rfl rfl ⟨Nat.le_of_ble_eq_true rfl, Nat.le_of_ble_eq_true rfl⟩ ⟨Nat.le_refl 0, Nat.le_refl 0⟩ (Nat.le_of_ble_eq_true rfl) ?_
    refine V0_bipush (pc := 36) (63) dX12_line_36 (by decide) ?_
    refine V0_icmp_ne (pc := 38) 66 dX12_line_38 (by decide) (fun h38 => ?_) (fun h38 => ?_)
    · skip
      exact kk
    · skip
      exact absurd h38 hT
theorem W_lx {l : Launch} {J : px_J} {t : Nat → Int32} {n a k q : Nat} {X : px_I} {Q : px_Q} (h : m_d t n a k X) (kk : V0 l (px_rm 44 0 0) mX12_line (false, []) 0 0 66 [.ref 54, .int (nI (61 + q))] [] (px_mk X J) (px_q Q)) : V0 l (px_rm 44 0 0) mX12_line (false, []) 0 0 25 [.ref 54, .int (nI (61 + q))] [] (px_mk X J) (px_q Q) := by
  have hn120 := h.2.1
  have han := h.2.2.2.1
  refine V0_aload_n (pc := 25) dX12_line_25 rfl ?_
  refine V_geti (pc := 26) dX12_line_26 flX12_190 rfl rfl ?_
  rw [h.2.2.2.2.1]
  refine V1_if_ge (pc := 29) 66 dX12_line_29 (by decide) (fun h29 => ?_) (fun h29 => ?_)
  · skip
    exact kk
  · skip
    exact absurd h29 (nI_nn (by omega))
theorem W_l2 {l : Launch} {J : px_J} {t : Nat → Int32} {n a k q : Nat} {X : px_I} {R : px_I → Prop} {Q : px_Q} (h : m_s t n a k 6 X) (hT : m_T t n a = 63) (hl : CtI l mX12_look 0 [.ref 54] X J (m_T t n a)) (hq : q ≤ 60) (hc : m_C l J mX12_either 43 (m_li (px_up X 54 21 (nI (a + 1))) q k) R) (kk : ∀ Y, R Y → V0 l (px_rm 44 0 0) mX12_line (false, []) 0 0 66 [.ref 54, .int (nI (61 + q))] [] (px_mk Y J) (px_q Q)) : V0 l (px_rm 44 0 0) mX12_line (false, []) 0 0 25 [.ref 54, .int (nI (61 + q))] [] (px_mk X J) (px_q Q) := by
  have hk := h.2.2.2.2.2.2.1
  have hn120 := h.2.1
  have han := h.2.2.2.1
  refine V0_aload_n (pc := 25) dX12_line_25 rfl ?_
  refine V_geti (pc := 26) dX12_line_26 flX12_190 rfl rfl ?_
  rw [h.2.2.2.2.1]
  refine V1_if_ge (pc := 29) 66 dX12_line_29 (by decide) (fun h29 => ?_) (fun h29 => ?_)
  · skip
    exact absurd (by decide) h29
  · skip
    refine V0_aload_n (pc := 32) dX12_line_32 rfl ?_
    refine V_callVi (pc := 33) (M' := mX12_look) dX12_line_33 mlX12_202 okX12_look rfl hl rfl rfl rfl rfl ⟨Nat.le_of_ble_eq_true rfl, Nat.le_of_ble_eq_true rfl⟩ ⟨Nat.le_refl 0, Nat.le_refl 0⟩ (Nat.le_of_ble_eq_true rfl) ?_
    refine V0_bipush (pc := 36) (63) dX12_line_36 (by decide) ?_
    refine V0_icmp_ne (pc := 38) 66 dX12_line_38 (by decide) (fun h38 => ?_) (fun h38 => ?_)
    · skip
      exact absurd hT h38
    · skip
      refine V0_aload_n (pc := 41) dX12_line_41 rfl ?_
      refine V0_dup (pc := 42) dX12_line_42 rfl ?_
      refine V_geti (pc := 43) dX12_line_43 flX12_187 rfl rfl ?_
      refine V0_iconst (pc := 46) (1) dX12_line_46 (by decide) ?_
      refine V0_iadd (pc := 47) dX12_line_47 ?_
      rw [h.2.2.1, nI_1]
      refine V_puti (pc := 48) dX12_line_48 flX12_187 rfl rfl ?_
      refine V0_aload_n (pc := 51) dX12_line_51 rfl ?_
      refine V_getr (pc := 52) dX12_line_52 flX12_65 rfl rfl ?_
      refine V0_iload_n (pc := 55) dX12_line_55 rfl ?_
      refine V0_aload_n (pc := 56) dX12_line_56 rfl ?_
      refine V_geti (pc := 57) dX12_line_57 flX12_193 rfl rfl ?_
      rw [show px_up X 54 21 (nI (a + 1)) 54 24 = nI k from (px_up_ne (by omega)).trans hk.1]
      refine V0_i2s (pc := 60) dX12_line_60 ?_
      refine V_sast (pc := 61) (61 + q) dX12_line_61 rfl rfl (by omega) ?_
      rw [m_sh16 k (by omega)]
      refine V0_aload_n (pc := 62) dX12_line_62 rfl ?_
      refine V_callV (pc := 63) (M' := mX12_either) dX12_line_63 mlX12_221 okX12_either rfl hc rfl rfl rfl rfl ⟨Nat.le_of_ble_eq_true rfl, Nat.le_of_ble_eq_true rfl⟩ ⟨Nat.le_refl 0, Nat.le_refl 0⟩ (Nat.le_of_ble_eq_true rfl) ?_
      intro r1 I1 J1 hh
      obtain ⟨e1, e3, ho⟩ := hh
      rw [e1, e3]
      clear e1 e3 r1 J1
      exact kk _ ho
theorem c_X12_line1 {l : Launch} {J : px_J} {t : Nat → Int32} {n a a' k q : Nat} {c : List l_C} {I : px_I} (h : m_s t n a k 6 I) (h72 : I 72 1 = nI q) (hq : q ≤ 60) (p : Pr (m_T t n) 5 6 a a' true c) (hT : ¬ m_T t n a' = 63) : m_C l J mX12_line 44 I (fun Y => ∃ X, m_out t n a k 6 a' true c (m_li I q k) X ∧ Y = m_le X q (k + c.length)) := by
  have hc := (m_rd (l := l) (J := J) p).1 (by omega) _ k (h.row (p := 73) (i := 61 + q) (x := nI k) (by omega) (by omega))
  have hw := W_lh (l := l) (J := J) (Q := fun x I' J' => x = none ∧ J' = J ∧ (∃ X, m_out t n a k 6 a' true c (m_li I q k) X ∧ I' = m_le X q (k + c.length))) h h72 hq hc (fun X hX => by
    obtain ⟨s1, c1, b1⟩ := hX.2.1 rfl
    have hl := s1.at (l := l) (J := J)
    have hn120 := s1.2.1
    have han := s1.2.2.2.1
    have hk' := s1.2.2.2.2.2.2.1
    have r72 : X 72 1 = nI q := (congrFun (hX.1.1 72 (by omega) (by omega) (by omega)) 1).trans ((congrFun (px_up_row (by omega)) 1).trans h72)
    exact W_l1 s1 hT hl (W_le hk'.1 (by omega) r72 hq ⟨rfl, rfl, X, hX, rfl⟩))
  unfold m_C
  refine Ct.of plX12_line (Nat.le_of_ble_eq_true rfl) [.ref 54, .null] rfl ?_
  exact hw
theorem c_X12_line2 {l : Launch} {J : px_J} {t : Nat → Int32} {n a b a' k q : Nat} {c c' : List l_C} {ok : Bool} {I : px_I} (h : m_s t n a k 6 I) (h72 : I 72 1 = nI q) (hq : q ≤ 60) (p : Pr (m_T t n) 5 6 a b true c) (hT : m_T t n b = 63) (p2 : Pr (m_T t n) 5 6 (b + 1) a' ok c') : m_C l J mX12_line 44 I (fun Z => ∃ X Y kk, m_out t n a k 6 b true c (m_li I q k) X ∧ m_out t n (b + 1) (k + c.length) 6 a' ok c' (m_li (px_up X 54 21 (nI (b + 1))) q (k + c.length)) Y ∧ Y 54 24 = nI kk ∧ kk < 200 ∧ Z = m_le Y q kk) := by
  have hc := (m_rd (l := l) (J := J) p).1 (by omega) _ k (h.row (p := 73) (i := 61 + q) (x := nI k) (by omega) (by omega))
  have hw := W_lh (l := l) (J := J) (Q := fun x I' J' => x = none ∧ J' = J ∧ (∃ X Y kk, m_out t n a k 6 b true c (m_li I q k) X ∧ m_out t n (b + 1) (k + c.length) 6 a' ok c' (m_li (px_up X 54 21 (nI (b + 1))) q (k + c.length)) Y ∧ Y 54 24 = nI kk ∧ kk < 200 ∧ I' = m_le Y q kk)) h h72 hq hc (fun X hX => by
    obtain ⟨s1, c1, b1⟩ := hX.2.1 rfl
    have hl := s1.at (l := l) (J := J)
    have hlt := m_T_lt (t := t) (n := n) (a := b) (by rw [hT]; decide)
    have r72 : X 72 1 = nI q := (congrFun (hX.1.1 72 (by omega) (by omega) (by omega)) 1).trans ((congrFun (px_up_row (by omega)) 1).trans h72)
    have hc2 := (m_rd (l := l) (J := J) p2).1 (by omega) _ (k + c.length) ((s1.go hlt).row (p := 73) (i := 61 + q) (x := nI (k + c.length)) (by omega) (by omega))
    refine W_l2 s1 hT hl hq hc2 (fun Y hY => ?_)
    obtain ⟨kk, hkk, h24⟩ := add_product Y hY
    have r72' : Y 72 1 = nI q := (congrFun (hY.1.1 72 (by omega) (by omega) (by omega)) 1).trans ((congrFun (px_up_row (by omega)) 1).trans ((congrFun (px_up_row (by omega)) 1).trans r72))
    exact W_le h24 (by omega) r72' hq ⟨rfl, rfl, X, Y, kk, hX, hY, h24, by omega, rfl⟩)
  unfold m_C
  refine Ct.of plX12_line (Nat.le_of_ble_eq_true rfl) [.ref 54, .null] rfl ?_
  exact hw
theorem c_X12_lineX {l : Launch} {J : px_J} {t : Nat → Int32} {n a a' k q : Nat} {I : px_I} (h : m_s t n a k 6 I) (h72 : I 72 1 = nI q) (hq : q ≤ 60) (p : Pr (m_T t n) 5 6 a a' false []) : m_C l J mX12_line 44 I (fun Y => ∃ X kk, m_out t n a k 6 a' false [] (m_li I q k) X ∧ m_d t n a' kk X ∧ Y = m_le X q kk) := by
  have hc := (m_rd (l := l) (J := J) p).1 (by omega) _ k (h.row (p := 73) (i := 61 + q) (x := nI k) (by omega) (by omega))
  have hw := W_lh (l := l) (J := J) (Q := fun x I' J' => x = none ∧ J' = J ∧ (∃ X kk, m_out t n a k 6 a' false [] (m_li I q k) X ∧ m_d t n a' kk X ∧ I' = m_le X q kk)) h h72 hq hc (fun X hX => by
    obtain ⟨k', q1, q2, q3⟩ := hX.2.2 rfl
    have hn120 := q1.2.1
    have han := q1.2.2.2.1
    have hk' := q1.2.2.2.2.2.2.1
    have r72 : X 72 1 = nI q := (congrFun (hX.1.1 72 (by omega) (by omega) (by omega)) 1).trans ((congrFun (px_up_row (by omega)) 1).trans h72)
    exact W_lx q1 (W_le q1.2.2.2.2.2.1 (by omega) r72 hq ⟨rfl, rfl, X, k', hX, q1, rfl⟩))
  unfold m_C
  refine Ct.of plX12_line (Nat.le_of_ble_eq_true rfl) [.ref 54, .null] rfl ?_
  exact hw

