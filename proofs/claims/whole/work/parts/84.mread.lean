/-! the Model: a text read -/
theorem m_C.mono {l : Launch} {J : px_J} {M : px_M} {d : Nat} {I : px_I} {R R' : px_I → Prop} (h : m_C l J M d I R) (g : ∀ X, R X → R' X) : m_C l J M d I R' := Ct0.mono h (fun r h' ⟨I', J', e, a, b, c⟩ => ⟨I', J', e, a, b, g _ c⟩)
def m_lok (t : Nat → Int32) (n a' k q : Nat) (L : l_L) (I Y : px_I) : Prop := m_lfr k q I Y ∧ m_s t n a' (k + L.1.length + L.2.length) 6 Y ∧ m_code Y (130 + k) (L.1 ++ L.2) ∧ Y 73 (61 + q) = nI (k + L.1.length) ∧ Y 74 (61 + q) = nI (k + L.1.length + L.2.length) ∧ Y 72 1 = nI (q + 1)
theorem m_le_lfr {k q kk : Nat} {I X : px_I} (h : m_lfr k q I X) : m_lfr k q I (m_le X q kk) := h.up74.up72
theorem m_le_row {X : px_I} {q kk p : Nat} (h1 : p ≠ 72) (h2 : p ≠ 74) : m_le X q kk p = X p := by unfold m_le; rw [px_up_row h1, px_up_row h2]
theorem m_le_s {t : Nat → Int32} {n a k r q kk : Nat} {X : px_I} (h : m_s t n a k r X) : m_s t n a k r (m_le X q kk) := (h.row (by omega) (by omega)).row (by omega) (by omega)
theorem m_le_d {t : Nat → Int32} {n a k q kk : Nat} {X : px_I} (h : m_d t n a k X) : m_d t n a k (m_le X q kk) := (h.row (by omega) (by omega)).row (by omega) (by omega)
theorem m_le_74 {X : px_I} {q kk : Nat} : m_le X q kk 74 (61 + q) = nI kk := (congrFun (px_up_row (by omega)) _).trans px_up_same
theorem m_le_72 {X : px_I} {q kk : Nat} : m_le X q kk 72 1 = nI (q + 1) := px_up_same
theorem c_line_ok {l : Launch} {J : px_J} {t : Nat → Int32} {n a a' k q : Nat} {L : l_L} {I : px_I} (h : m_s t n a k 6 I) (h72 : I 72 1 = nI q) (hq : q ≤ 60) (p : PLn (m_T t n) a a' L) : m_C l J mX12_line 44 I (m_lok t n a' k q L I) := by
  obtain ⟨t1, c⟩ := L
  rcases p with ⟨e, p, hT⟩ | ⟨b, p, hT, p2⟩
  · obtain rfl : t1 = [] := e
    refine (c_X12_line1 h h72 hq p hT).mono ?_
    rintro Y ⟨X, hX, rfl⟩
    obtain ⟨s1, c1, b1⟩ := hX.2.1 rfl
    refine ⟨m_le_lfr ((m_lfr.rf.up73).tr hX.1.l (Nat.le_refl _) (Nat.le_refl _)), m_le_s s1, m_code_congr (m_le_row (by omega) (by omega)) (m_le_row (by omega) (by omega)) _ _ c1, ?_, m_le_74, m_le_72⟩
    rw [m_le_row (by omega) (by omega), hX.1.1 73 (by omega) (by omega) (by omega)]
    exact px_up_same
  · refine (c_X12_line2 h h72 hq p hT p2).mono ?_
    rintro Z ⟨X, Y, kk, hX, hY, h24, hkk, rfl⟩
    obtain ⟨s1, c1, b1⟩ := hX.2.1 rfl
    obtain ⟨s2, c2, b2'⟩ := hY.2.1 rfl
    have hn120 := s2.2.1
    have han := s2.2.2.2.1
    have e : kk = k + t1.length + c.length := (qI_inj (by omega) (by have q2 : k + t1.length + c.length ≤ a' := s2.2.2.2.2.2.2.1.2; omega)).mp (h24.symm.trans s2.2.2.2.2.2.2.1.1)
    subst e
    have f0 : m_lfr k q I X := (m_lfr.rf.up73).tr hX.1.l (Nat.le_refl _) (Nat.le_refl _)
    have f1 : m_lfr k q X Y := (((m_fr.rf.up54 (k := k) (x := nI (b + 1)) (i := 21) (by omega)).l).up73).tr (hY.1.l) (by omega) (Nat.le_refl _)
    refine ⟨m_le_lfr (f0.tr f1 (Nat.le_refl _) (Nat.le_refl _)), m_le_s s2, m_code_congr (m_le_row (by omega) (by omega)) (m_le_row (by omega) (by omega)) _ _ ?_, ?_, m_le_74, m_le_72⟩
    · refine (m_code_app t1 c (130 + k)).mpr ⟨m_code_rng t1 (130 + k) (130 + (k + t1.length)) (by omega) (fun j hj => ?_) c1, ?_⟩
      · have := hY.1.2.2 j hj
        exact ⟨this.1.trans ((congrFun (px_up_row (by omega)) j).trans (congrFun (px_up_row (by omega)) j)), this.2.trans ((congrFun (px_up_row (by omega)) j).trans (congrFun (px_up_row (by omega)) j))⟩
      · rw [Nat.add_assoc]; exact c2
    · rw [m_le_row (by omega) (by omega), hY.1.1 73 (by omega) (by omega) (by omega)]
      exact px_up_same
def m_lno (t : Nat → Int32) (n a' k q : Nat) (I Y : px_I) : Prop := m_lfr k q I Y ∧ ∃ kk, m_d t n a' kk Y
theorem c_line_no {l : Launch} {J : px_J} {t : Nat → Int32} {n a a' k q : Nat} {I : px_I} (h : m_s t n a k 6 I) (h72 : I 72 1 = nI q) (hq : q ≤ 60) (p : PLx (m_T t n) a a') : m_C l J mX12_line 44 I (m_lno t n a' k q I) := by
  rcases p with p | ⟨b, c, p, hT, p2⟩
  · refine (c_X12_lineX h h72 hq p).mono ?_
    rintro Y ⟨X, kk, hX, hd, rfl⟩
    exact ⟨m_le_lfr ((m_lfr.rf.up73).tr hX.1.l (Nat.le_refl _) (Nat.le_refl _)), kk, m_le_d hd⟩
  · refine (c_X12_line2 h h72 hq p hT p2).mono ?_
    rintro Z ⟨X, Y, kk, hX, hY, h24, hkk, rfl⟩
    obtain ⟨k', q1, q2, q3⟩ := hY.2.2 rfl
    have f0 : m_lfr k q I X := (m_lfr.rf.up73).tr hX.1.l (Nat.le_refl _) (Nat.le_refl _)
    have f1 : m_lfr k q X Y := (((m_fr.rf.up54 (k := k) (x := nI (b + 1)) (i := 21) (by omega)).l).up73).tr (hY.1.l) (by omega) (Nat.le_refl _)
    exact ⟨m_le_lfr (f0.tr f1 (Nat.le_refl _) (Nat.le_refl _)), k', m_le_d q1⟩
/-- the lines of a good text -/
theorem lp_read_ok {l : Launch} {J : px_J} {t : Nat → Int32} {n : Nat} {Q : px_Q} : ∀ (Lr : List l_L) (b k q : Nat) (X : px_I), PTt (m_T t n) Lr b n → m_s t n b k 6 X → X 72 1 = nI q → 2 * q ≤ b + 1 → (∀ Y, m_lfr k q X Y → m_s t n n (k + m_len Lr) 6 Y → m_lns Y 130 (61 + q) k Lr → Y 72 1 = nI (q + Lr.length) → 2 * (q + Lr.length) ≤ n + 1 → (∀ L, L ∈ Lr → l_good L) → V0 l (px_rm 45 0 0) mX12_readText (false, []) 0 0 64 [.ref 54, .int 0, .null] [] (px_mk Y J) (px_q Q)) → V0 l (px_rm 45 0 0) mX12_readText (false, []) 0 0 31 [.ref 54, .int 0, .null] [] (px_mk X J) (px_q Q) := by
  intro Lr
  induction Lr with
  | nil =>
    intro b k q X p h h72 hq kk
    obtain ⟨e, hT⟩ := p
    subst e
    have hl := h.at (l := l) (J := J)
    have k2 := kk X m_lfr.rf h trivial h72 hq (fun L hL => by cases hL)
    refine V0_aload_n (pc := 31) dX12_readText_31 rfl ?_
    refine V_geti (pc := 32) dX12_readText_32 flX12_190 rfl rfl ?_
    rw [h.2.2.2.2.1]
    refine V1_if_ge (pc := 35) 64 dX12_readText_35 (by decide) (fun h35 => ?_) (fun h35 => ?_)
    · skip
      exact absurd (by decide) h35
    · skip
      refine V0_aload_n (pc := 38) dX12_readText_38 rfl ?_
      refine V_callVi (pc := 39) (M' := mX12_look) dX12_readText_39 mlX12_202 okX12_look rfl hl rfl rfl rfl rfl ⟨Nat.le_of_ble_eq_true rfl, Nat.le_of_ble_eq_true rfl⟩ ⟨Nat.le_refl 0, Nat.le_refl 0⟩ (Nat.le_of_ble_eq_true rfl) ?_
      refine V0_bipush (pc := 42) (59) dX12_readText_42 (by decide) ?_
      refine V0_icmp_ne (pc := 44) 64 dX12_readText_44 (by decide) (fun h44 => ?_) (fun h44 => ?_)
      · skip
        exact k2
      · skip
        exact absurd h44 hT
  | cons L Lr ih =>
    intro b k q X p h h72 hq kk
    obtain ⟨hT, b', p1, p2⟩ := p
    have hl := h.at (l := l) (J := J)
    have hlt := m_T_lt (t := t) (n := n) (a := b) (by rw [hT]; decide)
    have hn120 := h.2.1
    have hft := PLn.fit (B := t) (n := n) (k := 0) p1
    have hc := c_line_ok (l := l) (J := J) (h.go hlt) ((congrFun (px_up_row (by omega)) 1).trans h72) (by omega) p1
    refine V0_aload_n (pc := 31) dX12_readText_31 rfl ?_
    refine V_geti (pc := 32) dX12_readText_32 flX12_190 rfl rfl ?_
    rw [h.2.2.2.2.1]
    refine V1_if_ge (pc := 35) 64 dX12_readText_35 (by decide) (fun h35 => ?_) (fun h35 => ?_)
    · skip
      exact absurd (by decide) h35
    · skip
      refine V0_aload_n (pc := 38) dX12_readText_38 rfl ?_
      refine V_callVi (pc := 39) (M' := mX12_look) dX12_readText_39 mlX12_202 okX12_look rfl hl rfl rfl rfl rfl ⟨Nat.le_of_ble_eq_true rfl, Nat.le_of_ble_eq_true rfl⟩ ⟨Nat.le_refl 0, Nat.le_refl 0⟩ (Nat.le_of_ble_eq_true rfl) ?_
      refine V0_bipush (pc := 42) (59) dX12_readText_42 (by decide) ?_
      refine V0_icmp_ne (pc := 44) 64 dX12_readText_44 (by decide) (fun h44 => ?_) (fun h44 => ?_)
      · skip
        exact absurd hT h44
      · skip
        refine V0_aload_n (pc := 47) dX12_readText_47 rfl ?_
        refine V0_dup (pc := 48) dX12_readText_48 rfl ?_
        refine V_geti (pc := 49) dX12_readText_49 flX12_187 rfl rfl ?_
        refine V0_iconst (pc := 52) (1) dX12_readText_52 (by decide) ?_
        refine V0_iadd (pc := 53) dX12_readText_53 ?_
        rw [h.2.2.1, nI_1]
        refine V_puti (pc := 54) dX12_readText_54 flX12_187 rfl rfl ?_
        refine V0_aload_n (pc := 57) dX12_readText_57 rfl ?_
        refine V_callV (pc := 58) (M' := mX12_line) dX12_readText_58 mlX12_239 okX12_line rfl hc rfl rfl rfl rfl ⟨Nat.le_of_ble_eq_true rfl, Nat.le_of_ble_eq_true rfl⟩ ⟨Nat.le_refl 0, Nat.le_refl 0⟩ (Nat.le_of_ble_eq_true rfl) ?_
        intro r1 I1 J1 hh
        obtain ⟨e1, e3, ho⟩ := hh
        rw [e1, e3]
        clear e1 e3 r1 J1
        refine V0_goto (pc := 61) 31 dX12_readText_61 (by decide) ?_
        obtain ⟨f1, s1, c1, r3, r4, r2⟩ := ho
        refine ih b' (k + L.1.length + L.2.length) (q + 1) I1 p2 s1 r2 (by omega) (fun Y g1 g2 g3 g4 g5 g6 => ?_)
        have f2 := ((m_fr.rf.up54 (k := k) (x := nI (b + 1)) (i := 21) (by omega)).l (q := q)).tr f1 (Nat.le_refl _) (Nat.le_refl _)
        refine kk Y (f2.tr g1 (by omega) (by omega)) (by rw [m_len, ← Nat.add_assoc, ← Nat.add_assoc]; exact g2) ⟨(g1.2.2.2.2 _ (by omega)).1.trans r3, (g1.2.2.2.2 _ (by omega)).2.trans r4, m_code_rng _ _ (130 + (k + L.1.length + L.2.length)) (by rw [List.length_append]; omega) g1.2.2.1 c1, g3⟩ (by rw [List.length_cons, show q + (Lr.length + 1) = q + 1 + Lr.length from by omega]; exact g4) (by rw [List.length_cons]; omega) (fun M hM => ?_)
        rcases List.mem_cons.mp hM with e | e
        · rw [e]; exact hft.2.2.2
        · exact g6 M e
theorem W_rx {l : Launch} {J : px_J} {t : Nat → Int32} {n e k : Nat} {X : px_I} {Q : px_Q} (h : m_d t n e k X) (kk : V0 l (px_rm 45 0 0) mX12_readText (false, []) 0 0 86 [.ref 54, .int 0, .null] [] (px_mk X J) (px_q Q)) : V0 l (px_rm 45 0 0) mX12_readText (false, []) 0 0 31 [.ref 54, .int 0, .null] [] (px_mk X J) (px_q Q) := by
  have hn120 := h.2.1
  have han := h.2.2.2.1
  refine V0_aload_n (pc := 31) dX12_readText_31 rfl ?_
  refine V_geti (pc := 32) dX12_readText_32 flX12_190 rfl rfl ?_
  rw [h.2.2.2.2.1]
  refine V1_if_ge (pc := 35) 64 dX12_readText_35 (by decide) (fun h35 => ?_) (fun h35 => ?_)
  · skip
    refine V0_aload_n (pc := 64) dX12_readText_64 rfl ?_
    refine V_geti (pc := 65) dX12_readText_65 flX12_190 rfl rfl ?_
    rw [h.2.2.2.2.1]
    refine V1_if_ge (pc := 68) 86 dX12_readText_68 (by decide) (fun h68 => ?_) (fun h68 => ?_)
    · skip
      exact kk
    · skip
      exact absurd h68 (nI_nn (by omega))
  · skip
    exact absurd h35 (nI_nn (by omega))
/-- a fault behind good lines -/
theorem lp_read_no {l : Launch} {J : px_J} {t : Nat → Int32} {n e : Nat} {Q : px_Q} : ∀ (m b k q : Nat) (X : px_I), PTx (m_T t n) n m b e → m_s t n b k 6 X → X 72 1 = nI q → 2 * q ≤ b + 1 → (∀ Y kk, m_lfr k q X Y → m_d t n e kk Y → V0 l (px_rm 45 0 0) mX12_readText (false, []) 0 0 86 [.ref 54, .int 0, .null] [] (px_mk Y J) (px_q Q)) → V0 l (px_rm 45 0 0) mX12_readText (false, []) 0 0 31 [.ref 54, .int 0, .null] [] (px_mk X J) (px_q Q) := by
  intro m
  induction m with
  | zero =>
    intro b k q X p h h72 hq kk
    have hl := h.at (l := l) (J := J)
    have hn120 := h.2.1
    rcases p with ⟨hT, hbn, rfl⟩ | ⟨hT, p1⟩
    · have k2 := kk (px_up X 54 22 (nI e)) k ((m_fr.rf.up54 (by omega)).l) h.wr
      have hlt : nI e < nI n := (qI_lt (by omega) (by omega)).mpr hbn
      refine V0_aload_n (pc := 31) dX12_readText_31 rfl ?_
      refine V_geti (pc := 32) dX12_readText_32 flX12_190 rfl rfl ?_
      rw [h.2.2.2.2.1]
      refine V1_if_ge (pc := 35) 64 dX12_readText_35 (by decide) (fun h35 => ?_) (fun h35 => ?_)
      · skip
        exact absurd (by decide) h35
      · skip
        refine V0_aload_n (pc := 38) dX12_readText_38 rfl ?_
        refine V_callVi (pc := 39) (M' := mX12_look) dX12_readText_39 mlX12_202 okX12_look rfl hl rfl rfl rfl rfl ⟨Nat.le_of_ble_eq_true rfl, Nat.le_of_ble_eq_true rfl⟩ ⟨Nat.le_refl 0, Nat.le_refl 0⟩ (Nat.le_of_ble_eq_true rfl) ?_
        refine V0_bipush (pc := 42) (59) dX12_readText_42 (by decide) ?_
        refine V0_icmp_ne (pc := 44) 64 dX12_readText_44 (by decide) (fun h44 => ?_) (fun h44 => ?_)
        · skip
          refine V0_aload_n (pc := 64) dX12_readText_64 rfl ?_
          refine V_geti (pc := 65) dX12_readText_65 flX12_190 rfl rfl ?_
          rw [h.2.2.2.2.1]
          refine V1_if_ge (pc := 68) 86 dX12_readText_68 (by decide) (fun h68 => ?_) (fun h68 => ?_)
          · skip
            exact absurd (by decide) h68
          · skip
            refine V0_aload_n (pc := 71) dX12_readText_71 rfl ?_
            refine V_geti (pc := 72) dX12_readText_72 flX12_187 rfl rfl ?_
            refine V0_aload_n (pc := 75) dX12_readText_75 rfl ?_
            refine V_geti (pc := 76) dX12_readText_76 flX12_184 rfl rfl ?_
            rw [h.2.2.1, h.1]
            refine V1_icmp_ge (pc := 79) 86 dX12_readText_79 (by decide) (fun h79 => ?_) (fun h79 => ?_)
            · skip
              exact absurd hlt h79
            · skip
              refine V0_aload_n (pc := 82) dX12_readText_82 rfl ?_
              refine V_callV (pc := 83) (M' := mX12_wrong) dX12_readText_83 mlX12_199 okX12_wrong rfl (c_X12_wrong h.2.2.2.2.1) rfl rfl rfl rfl ⟨Nat.le_of_ble_eq_true rfl, Nat.le_of_ble_eq_true rfl⟩ ⟨Nat.le_refl 0, Nat.le_refl 0⟩ (Nat.le_of_ble_eq_true rfl) ?_
              intro r1 I1 J1 hh
              obtain ⟨e1, e2, e3⟩ := hh
              rw [e1, e2, e3]
              clear e1 e2 e3 r1 I1 J1
              rw [h.2.2.1]
              exact k2
        · skip
          exact absurd h44 hT
    · have hlt := m_T_lt (t := t) (n := n) (a := b) (by rw [hT]; decide)
      have hc := c_line_no (l := l) (J := J) (h.go hlt) ((congrFun (px_up_row (by omega)) 1).trans h72) (by omega) p1
      refine V0_aload_n (pc := 31) dX12_readText_31 rfl ?_
      refine V_geti (pc := 32) dX12_readText_32 flX12_190 rfl rfl ?_
      rw [h.2.2.2.2.1]
      refine V1_if_ge (pc := 35) 64 dX12_readText_35 (by decide) (fun h35 => ?_) (fun h35 => ?_)
      · skip
        exact absurd (by decide) h35
      · skip
        refine V0_aload_n (pc := 38) dX12_readText_38 rfl ?_
        refine V_callVi (pc := 39) (M' := mX12_look) dX12_readText_39 mlX12_202 okX12_look rfl hl rfl rfl rfl rfl ⟨Nat.le_of_ble_eq_true rfl, Nat.le_of_ble_eq_true rfl⟩ ⟨Nat.le_refl 0, Nat.le_refl 0⟩ (Nat.le_of_ble_eq_true rfl) ?_
        refine V0_bipush (pc := 42) (59) dX12_readText_42 (by decide) ?_
        refine V0_icmp_ne (pc := 44) 64 dX12_readText_44 (by decide) (fun h44 => ?_) (fun h44 => ?_)
        · skip
          exact absurd hT h44
        · skip
          refine V0_aload_n (pc := 47) dX12_readText_47 rfl ?_
          refine V0_dup (pc := 48) dX12_readText_48 rfl ?_
          refine V_geti (pc := 49) dX12_readText_49 flX12_187 rfl rfl ?_
          refine V0_iconst (pc := 52) (1) dX12_readText_52 (by decide) ?_
          refine V0_iadd (pc := 53) dX12_readText_53 ?_
          rw [h.2.2.1, nI_1]
          refine V_puti (pc := 54) dX12_readText_54 flX12_187 rfl rfl ?_
          refine V0_aload_n (pc := 57) dX12_readText_57 rfl ?_
          refine V_callV (pc := 58) (M' := mX12_line) dX12_readText_58 mlX12_239 okX12_line rfl hc rfl rfl rfl rfl ⟨Nat.le_of_ble_eq_true rfl, Nat.le_of_ble_eq_true rfl⟩ ⟨Nat.le_refl 0, Nat.le_refl 0⟩ (Nat.le_of_ble_eq_true rfl) ?_
          intro r1 I1 J1 hh
          obtain ⟨e1, e3, ho⟩ := hh
          rw [e1, e3]
          clear e1 e3 r1 J1
          refine V0_goto (pc := 61) 31 dX12_readText_61 (by decide) ?_
          obtain ⟨f1, k1, hd⟩ := ho
          have f2 := ((m_fr.rf.up54 (k := k) (x := nI (b + 1)) (i := 21) (by omega)).l (q := q)).tr f1 (Nat.le_refl _) (Nat.le_refl _)
          exact W_rx hd (kk I1 k1 f2 hd)
  | succ m ih =>
    intro b k q X p h h72 hq kk
    obtain ⟨hT, b', L, p1, p2⟩ := p
    have hl := h.at (l := l) (J := J)
    have hlt := m_T_lt (t := t) (n := n) (a := b) (by rw [hT]; decide)
    have hn120 := h.2.1
    have hft := PLn.fit (B := t) (n := n) (k := 0) p1
    have hc := c_line_ok (l := l) (J := J) (h.go hlt) ((congrFun (px_up_row (by omega)) 1).trans h72) (by omega) p1
    refine V0_aload_n (pc := 31) dX12_readText_31 rfl ?_
    refine V_geti (pc := 32) dX12_readText_32 flX12_190 rfl rfl ?_
    rw [h.2.2.2.2.1]
    refine V1_if_ge (pc := 35) 64 dX12_readText_35 (by decide) (fun h35 => ?_) (fun h35 => ?_)
    · skip
      exact absurd (by decide) h35
    · skip
      refine V0_aload_n (pc := 38) dX12_readText_38 rfl ?_
      refine V_callVi (pc := 39) (M' := mX12_look) dX12_readText_39 mlX12_202 okX12_look rfl hl rfl rfl rfl rfl ⟨Nat.le_of_ble_eq_true rfl, Nat.le_of_ble_eq_true rfl⟩ ⟨Nat.le_refl 0, Nat.le_refl 0⟩ (Nat.le_of_ble_eq_true rfl) ?_
      refine V0_bipush (pc := 42) (59) dX12_readText_42 (by decide) ?_
      refine V0_icmp_ne (pc := 44) 64 dX12_readText_44 (by decide) (fun h44 => ?_) (fun h44 => ?_)
      · skip
        exact absurd hT h44
      · skip
        refine V0_aload_n (pc := 47) dX12_readText_47 rfl ?_
        refine V0_dup (pc := 48) dX12_readText_48 rfl ?_
        refine V_geti (pc := 49) dX12_readText_49 flX12_187 rfl rfl ?_
        refine V0_iconst (pc := 52) (1) dX12_readText_52 (by decide) ?_
        refine V0_iadd (pc := 53) dX12_readText_53 ?_
        rw [h.2.2.1, nI_1]
        refine V_puti (pc := 54) dX12_readText_54 flX12_187 rfl rfl ?_
        refine V0_aload_n (pc := 57) dX12_readText_57 rfl ?_
        refine V_callV (pc := 58) (M' := mX12_line) dX12_readText_58 mlX12_239 okX12_line rfl hc rfl rfl rfl rfl ⟨Nat.le_of_ble_eq_true rfl, Nat.le_of_ble_eq_true rfl⟩ ⟨Nat.le_refl 0, Nat.le_refl 0⟩ (Nat.le_of_ble_eq_true rfl) ?_
        intro r1 I1 J1 hh
        obtain ⟨e1, e3, ho⟩ := hh
        rw [e1, e3]
        clear e1 e3 r1 J1
        refine V0_goto (pc := 61) 31 dX12_readText_61 (by decide) ?_
        obtain ⟨f1, s1, c1, r3, r4, r2⟩ := ho
        refine ih b' (k + L.1.length + L.2.length) (q + 1) I1 p2 s1 r2 (by omega) (fun Y k1 g1 g2 => ?_)
        have f2 := ((m_fr.rf.up54 (k := k) (x := nI (b + 1)) (i := 21) (by omega)).l (q := q)).tr f1 (Nat.le_refl _) (Nat.le_refl _)
        exact kk Y k1 (f2.tr g1 (by omega) (by omega)) g2

