/-! acts -/
abbrev s_above : Nat → Int32 := px_lst [-1, 0, 0, 2, 1, 3, 0, 6]
abbrev s_own : Nat → Int32 := px_lst [1, 10, 11, 2, 20, 0, 0, 0, 0, 30, 0, 0, 0, 41, 40, 0, 0, 0, 0, 50, 0, 0, 60, 61, 70, 0, 0, 0, 81, 80, 0, 0]
def s_k8 (k : Int32) : Bool := !decide (k < 0) && decide (k < 8)
theorem s_k8_ix {k : Int32} (h : s_k8 k = true) : k = nI (ix k) ∧ ix k < 8 := by
  simp only [s_k8, Bool.and_eq_true, Bool.not_eq_true', decide_eq_false_iff_not, decide_eq_true_eq] at h
  exact ⟨nI_ix h.1, ix_lt (n := 8) h.1 (by omega) h.2⟩
theorem s_k8_of {k : Int32} (h0 : ¬ k < 0) (h1 : k < 8) : s_k8 k = true := by simp [s_k8, h0, h1]
theorem s_k8_no {k : Int32} (h : k < 0 ∨ ¬ k < 8) : s_k8 k = false := by
  rcases h with h | h <;> simp [s_k8, h]
def s_hold (a : Nat) : Nat → Int32 → Int32
  | 0, _ => -1
  | f + 1, k => if s_k8 k = true then (if s_own (ix k * 4 + a) = 0 then s_hold a f (s_above (ix k)) else k) else -1
def s_und (w : Int32) : Nat → Int32 → Bool
  | 0, _ => false
  | f + 1, k => if s_k8 k = true then (if k = w then true else s_und w f (s_above (ix k))) else false
abbrev g_isB (I : px_I) (x : Int32) : Bool := s_is x (I 51 2) 50
theorem c_X0_isBody {l : Launch} {I : px_I} {J : px_J} {x : Int32} : CtI l mX0_isBody 0 [.ref 51, .int x] I J (b2 (g_isB I x)) := by
  refine Ct.of plX0_isBody (Nat.le_of_ble_eq_true rfl) [.ref 51, .int x] rfl ?_
  refine V0_iload_n (pc := 0) dX0_isBody_0 rfl ?_
  refine V0_if_lt (pc := 1) 22 dX0_isBody_1 (by decide) (fun h1 => ?_) (fun h1 => ?_)
  · skip
    refine V0_iconst (pc := 22) (0) dX0_isBody_22 (by decide) ?_
    refine V_retz (pc := 23) _ dX0_isBody_23 rfl (Or.inl rfl) ?_
    refine px_li ?_
    simp [s_is, b2, *]
  · skip
    refine V0_iload_n (pc := 4) dX0_isBody_4 rfl ?_
    refine V0_aload_n (pc := 5) dX0_isBody_5 rfl ?_
    refine V_geti (pc := 6) dX0_isBody_6 flX0_18 rfl rfl ?_
    refine V1_icmp_ge (pc := 9) 22 dX0_isBody_9 (by decide) (fun h9 => ?_) (fun h9 => ?_)
    · skip
      refine V0_iconst (pc := 22) (0) dX0_isBody_22 (by decide) ?_
      refine V_retz (pc := 23) _ dX0_isBody_23 rfl (Or.inl rfl) ?_
      refine px_li ?_
      simp [s_is, b2, *]
    · skip
      refine V0_iload_n (pc := 12) dX0_isBody_12 rfl ?_
      refine V0_bipush (pc := 13) (50) dX0_isBody_13 (by decide) ?_
      refine V1_icmp_ge (pc := 15) 22 dX0_isBody_15 (by decide) (fun h15 => ?_) (fun h15 => ?_)
      · skip
        refine V0_iconst (pc := 22) (0) dX0_isBody_22 (by decide) ?_
        refine V_retz (pc := 23) _ dX0_isBody_23 rfl (Or.inl rfl) ?_
        refine px_li ?_
        simp [s_is, b2, *]
      · skip
        refine V0_iconst (pc := 18) (1) dX0_isBody_18 (by decide) ?_
        refine V0_goto (pc := 19) 23 dX0_isBody_19 (by decide) ?_
        refine V_retz (pc := 23) _ dX0_isBody_23 rfl (Or.inr rfl) ?_
        refine px_li ?_
        simp [s_is, b2, *]
theorem c_X0_add {l : Launch} {I : px_I} {J : px_J} {n : Nat} {k : Int32} (hn : I 51 2 = nI n) (hn50 : n ≤ 50) : Ct l mX0_add 0 [.ref 51, .int k] I J (px_qi (if n < 50 then nI n else -3) (if n < 50 then px_up (px_up I 52 n k) 51 2 (nI (n + 1)) else I) J) := by
  refine Ct.of plX0_add (Nat.le_of_ble_eq_true rfl) [.ref 51, .int k] rfl ?_
  refine V0_aload_n (pc := 0) dX0_add_0 rfl ?_
  refine V_geti (pc := 1) dX0_add_1 flX0_18 rfl rfl ?_
  refine V0_bipush (pc := 4) (50) dX0_add_4 (by decide) ?_
  rw [hn]
  refine V0_icmp_lt (pc := 6) 12 dX0_add_6 (by decide) (fun h6 => ?_) (fun h6 => ?_)
  · skip
    have h10 : n < 50 := px_ltc 50 rfl h6 (by omega) (by omega)
    refine V0_aload_n (pc := 12) dX0_add_12 rfl ?_
    refine V_getr (pc := 13) dX0_add_13 flX0_11 rfl rfl ?_
    refine V0_aload_n (pc := 16) dX0_add_16 rfl ?_
    refine V_geti (pc := 17) dX0_add_17 flX0_18 rfl rfl ?_
    refine V0_iload_n (pc := 20) dX0_add_20 rfl ?_
    refine V_iast (pc := 21) n dX0_add_21 rfl hn (by omega) ?_
    refine V0_aload_n (pc := 22) dX0_add_22 rfl ?_
    refine V0_dup (pc := 23) dX0_add_23 rfl ?_
    refine V_geti (pc := 24) dX0_add_24 flX0_18 rfl rfl ?_
    refine V0_dup_x1 (pc := 27) dX0_add_27 rfl rfl ?_
    refine V0_iconst (pc := 28) (1) dX0_add_28 (by decide) ?_
    refine V0_iadd (pc := 29) dX0_add_29 ?_
    refine V_puti (pc := 30) dX0_add_30 flX0_18 rfl rfl ?_
    refine V_reti (pc := 33) _ dX0_add_33 rfl ?_
    exact ⟨by simp [h10, px_up_at, hn], by simp [h10, px_up_at, hn, nI_1], rfl⟩
  · skip
    have h10 : ¬ n < 50 := by have := px_gec 50 rfl h6 (by omega) (by omega); omega
    refine V0_bipush (pc := 9) (-3) dX0_add_9 (by decide) ?_
    refine V_reti (pc := 11) _ dX0_add_11 rfl ?_
    exact ⟨by simp [h10], by simp [h10], rfl⟩
theorem c_X0_traced {l : Launch} {I : px_I} {J : px_J} : CtI l mX0_traced 1 [.ref 51] I J (if 24 < I 51 3 then 24 else I 51 3) := by
  refine Ct.of plX0_traced (Nat.le_of_ble_eq_true rfl) [.ref 51] rfl ?_
  refine V0_aload_n (pc := 0) dX0_traced_0 rfl ?_
  refine V_geti (pc := 1) dX0_traced_1 flX0_22 rfl rfl ?_
  refine V0_bipush (pc := 4) (24) dX0_traced_4 (by decide) ?_
  refine V0_min (pc := 6) dX0_traced_6 mlX0_25 js_min ji_Math jc_min (Nat.le_of_ble_eq_true rfl) (Nat.le_of_ble_eq_true rfl) ?_
  refine V_reti (pc := 9) _ dX0_traced_9 rfl ?_
  refine px_li ?_
  rfl
theorem lp_X0_isUnder {l : Launch} {I : px_I} {J : px_J} {k0 w : Int32} {Q : px_Q} : ∀ (f j : Nat) (k : Int32), j + f = 8 → Q (some (.int (b2 (s_und w f k)))) I J → V0 l (px_rm 0 0 0) mX0_isUnder (false, []) 0 0 4 [.int k0, .int w, .int k, .int (nI j)] [] (px_mk I J) (px_q Q) := by
  intro f
  induction f with
  | zero =>
    intro j k h1 hQ
    obtain rfl : j = 8 := by omega
    refine V0_iload_n (pc := 4) dX0_isUnder_4 rfl ?_
    refine V0_bipush (pc := 5) (8) dX0_isUnder_5 (by decide) ?_
    refine V1_icmp_ge (pc := 7) 39 dX0_isUnder_7 (by decide) (fun h7 => ?_) (fun h7 => ?_)
    · skip
      refine V0_iconst (pc := 39) (0) dX0_isUnder_39 (by decide) ?_
      refine V_retz (pc := 40) _ dX0_isUnder_40 rfl (Or.inl rfl) ?_
      exact hQ
    · skip
      exact absurd h7 (by decide)
  | succ f ih =>
    intro j k h1 hQ
    have hj8 : nI j < 8 := (qI_lt (a := j) (b := 8) (by omega) (by omega)).mpr (by omega)
    refine V0_iload_n (pc := 4) dX0_isUnder_4 rfl ?_
    refine V0_bipush (pc := 5) (8) dX0_isUnder_5 (by decide) ?_
    refine V1_icmp_ge (pc := 7) 39 dX0_isUnder_7 (by decide) (fun h7 => ?_) (fun h7 => ?_)
    · skip
      exact absurd hj8 h7
    · skip
      refine V0_iload_n (pc := 10) dX0_isUnder_10 rfl ?_
      refine V0_if_lt (pc := 11) 39 dX0_isUnder_11 (by decide) (fun h11 => ?_) (fun h11 => ?_)
      · skip
        refine V0_iconst (pc := 39) (0) dX0_isUnder_39 (by decide) ?_
        refine V_retz (pc := 40) _ dX0_isUnder_40 rfl (Or.inl rfl) ?_
        first | (simpa [s_und, s_k8_no (Or.inl h11), b2] using hQ) | (simpa [s_und, s_k8_no (Or.inr h17), b2] using hQ)
      · skip
        refine V0_iload_n (pc := 14) dX0_isUnder_14 rfl ?_
        refine V0_bipush (pc := 15) (8) dX0_isUnder_15 (by decide) ?_
        refine V1_icmp_ge (pc := 17) 39 dX0_isUnder_17 (by decide) (fun h17 => ?_) (fun h17 => ?_)
        · skip
          refine V0_iconst (pc := 39) (0) dX0_isUnder_39 (by decide) ?_
          refine V_retz (pc := 40) _ dX0_isUnder_40 rfl (Or.inl rfl) ?_
          first | (simpa [s_und, s_k8_no (Or.inl h11), b2] using hQ) | (simpa [s_und, s_k8_no (Or.inr h17), b2] using hQ)
        · skip
          refine V0_iload_n (pc := 20) dX0_isUnder_20 rfl ?_
          refine V0_iload_n (pc := 21) dX0_isUnder_21 rfl ?_
          refine V0_icmp_ne (pc := 22) 27 dX0_isUnder_22 (by decide) (fun h22 => ?_) (fun h22 => ?_)
          · skip
            refine V0_gets (pc := 27) 2 dX0_isUnder_27 rfl fsX0_31 ?_
            refine V0_iload_n (pc := 30) dX0_isUnder_30 rfl ?_
            have hk := s_k8_of h11 h17
            refine V_tald (pc := 31) (n := 8) (f := s_above) (ix k) dX0_isUnder_31 rfl (by decide) (nI_ix h11) (ix_lt (n := 8) h11 (by omega) h17) ?_
            refine V0_istore_2 (pc := 32) dX0_isUnder_32 (by decide) rfl ?_
            refine V0_iinc_3 (pc := 33) (nI (j + 1)) dX0_isUnder_33 (by decide) rfl (nI_1 _) ?_
            refine V0_goto (pc := 36) 4 dX0_isUnder_36 (by decide) ?_
            exact ih (j + 1) _ (by omega) (by simpa [s_und, s_k8_of h11 h17, h22] using hQ)
          · skip
            refine V0_iconst (pc := 25) (1) dX0_isUnder_25 (by decide) ?_
            refine V_retz (pc := 26) _ dX0_isUnder_26 rfl (Or.inr rfl) ?_
            rw [show s_und w (f + 1) k = true by rw [s_und, if_pos (s_k8_of h11 h17), if_pos h22]] at hQ
            exact hQ
theorem c_X0_isUnder {l : Launch} {I : px_I} {J : px_J} {k w : Int32} : CtI l mX0_isUnder 0 [.int k, .int w] I J (b2 (s_und w 8 k)) := by
  refine Ct.of plX0_isUnder (Nat.le_of_ble_eq_true rfl) [.int k, .int w, .null, .null] rfl ?_
  refine V0_iload_n (pc := 0) dX0_isUnder_0 rfl ?_
  refine V0_istore_2 (pc := 1) dX0_isUnder_1 (by decide) rfl ?_
  refine V0_iconst (pc := 2) (0) dX0_isUnder_2 (by decide) ?_
  refine V0_istore_3 (pc := 3) dX0_isUnder_3 (by decide) rfl ?_
  exact lp_X0_isUnder 8 0 k rfl ⟨rfl, rfl, rfl⟩
theorem lp_X0_holderFrom {l : Launch} {I : px_I} {J : px_J} {k0 ac : Int32} {a : Nat} {Q : px_Q} (ha : ac = nI a) (ha4 : a < 4) : ∀ (f j : Nat) (k : Int32), j + f = 8 → Q (some (.int (s_hold a f k))) I J → V0 l (px_rm 0 0 0) mX0_holderFrom (false, []) 0 0 4 [.int k0, .int ac, .int k, .int (nI j)] [] (px_mk I J) (px_q Q) := by
  intro f
  induction f with
  | zero =>
    intro j k h1 hQ
    obtain rfl : j = 8 := by omega
    refine V0_iload_n (pc := 4) dX0_holderFrom_4 rfl ?_
    refine V0_bipush (pc := 5) (8) dX0_holderFrom_5 (by decide) ?_
    refine V1_icmp_ge (pc := 7) 46 dX0_holderFrom_7 (by decide) (fun h7 => ?_) (fun h7 => ?_)
    · skip
      refine V0_iconst (pc := 46) (-1) dX0_holderFrom_46 (by decide) ?_
      refine V_reti (pc := 47) _ dX0_holderFrom_47 rfl ?_
      exact hQ
    · skip
      exact absurd h7 (by decide)
  | succ f ih =>
    intro j k h1 hQ
    have hj8 : nI j < 8 := (qI_lt (a := j) (b := 8) (by omega) (by omega)).mpr (by omega)
    refine V0_iload_n (pc := 4) dX0_holderFrom_4 rfl ?_
    refine V0_bipush (pc := 5) (8) dX0_holderFrom_5 (by decide) ?_
    refine V1_icmp_ge (pc := 7) 46 dX0_holderFrom_7 (by decide) (fun h7 => ?_) (fun h7 => ?_)
    · skip
      exact absurd hj8 h7
    · skip
      refine V0_iload_n (pc := 10) dX0_holderFrom_10 rfl ?_
      refine V0_if_lt (pc := 11) 46 dX0_holderFrom_11 (by decide) (fun h11 => ?_) (fun h11 => ?_)
      · skip
        refine V0_iconst (pc := 46) (-1) dX0_holderFrom_46 (by decide) ?_
        refine V_reti (pc := 47) _ dX0_holderFrom_47 rfl ?_
        first | simpa [s_hold, s_k8_no (Or.inl h11)] using hQ | simpa [s_hold, s_k8_no (Or.inr h17)] using hQ
      · skip
        refine V0_iload_n (pc := 14) dX0_holderFrom_14 rfl ?_
        refine V0_bipush (pc := 15) (8) dX0_holderFrom_15 (by decide) ?_
        refine V1_icmp_ge (pc := 17) 46 dX0_holderFrom_17 (by decide) (fun h17 => ?_) (fun h17 => ?_)
        · skip
          refine V0_iconst (pc := 46) (-1) dX0_holderFrom_46 (by decide) ?_
          refine V_reti (pc := 47) _ dX0_holderFrom_47 rfl ?_
          first | simpa [s_hold, s_k8_no (Or.inl h11)] using hQ | simpa [s_hold, s_k8_no (Or.inr h17)] using hQ
        · skip
          refine V0_gets (pc := 20) 3 dX0_holderFrom_20 rfl fsX0_49 ?_
          refine V0_iload_n (pc := 23) dX0_holderFrom_23 rfl ?_
          refine V0_iconst (pc := 24) (4) dX0_holderFrom_24 (by decide) ?_
          refine V0_imul (pc := 25) dX0_holderFrom_25 ?_
          refine V0_iload_n (pc := 26) dX0_holderFrom_26 rfl ?_
          refine V0_iadd (pc := 27) dX0_holderFrom_27 ?_
          have hi := nI_ix h11
          have hl := ix_lt (n := 8) h11 (by omega) h17
          refine V_tald (pc := 28) (n := 32) (f := s_own) (ix k * 4 + a) dX0_holderFrom_28 rfl (by decide) (by rw [ha, ← qI_add, ← qI_mul, ← hi]; rfl) (by omega) ?_
          refine V0_if_eq (pc := 29) 34 dX0_holderFrom_29 (by decide) (fun h29 => ?_) (fun h29 => ?_)
          · skip
            refine V0_gets (pc := 34) 2 dX0_holderFrom_34 rfl fsX0_31 ?_
            refine V0_iload_n (pc := 37) dX0_holderFrom_37 rfl ?_
            refine V_tald (pc := 38) (n := 8) (f := s_above) (ix k) dX0_holderFrom_38 rfl (by decide) hi hl ?_
            refine V0_istore_2 (pc := 39) dX0_holderFrom_39 (by decide) rfl ?_
            refine V0_iinc_3 (pc := 40) (nI (j + 1)) dX0_holderFrom_40 (by decide) rfl (nI_1 _) ?_
            refine V0_goto (pc := 43) 4 dX0_holderFrom_43 (by decide) ?_
            exact ih (j + 1) _ (by omega) (by simpa [s_hold, s_k8_of h11 h17, h29] using hQ)
          · skip
            refine V0_iload_n (pc := 32) dX0_holderFrom_32 rfl ?_
            refine V_reti (pc := 33) _ dX0_holderFrom_33 rfl ?_
            simpa [s_hold, s_k8_of h11 h17, h29] using hQ
theorem c_X0_holderFrom {l : Launch} {I : px_I} {J : px_J} {k ac : Int32} {a : Nat} (ha : ac = nI a) (ha4 : a < 4) : CtI l mX0_holderFrom 0 [.int k, .int ac] I J (s_hold a 8 k) := by
  refine Ct.of plX0_holderFrom (Nat.le_of_ble_eq_true rfl) [.int k, .int ac, .null, .null] rfl ?_
  refine V0_iload_n (pc := 0) dX0_holderFrom_0 rfl ?_
  refine V0_istore_2 (pc := 1) dX0_holderFrom_1 (by decide) rfl ?_
  refine V0_iconst (pc := 2) (0) dX0_holderFrom_2 (by decide) ?_
  refine V0_istore_3 (pc := 3) dX0_holderFrom_3 (by decide) rfl ?_
  exact lp_X0_holderFrom ha ha4 8 0 k rfl ⟨rfl, rfl, rfl⟩
def g_note (I : px_I) (n : Nat) (b : Int32) : px_I := px_up (if n < 24 then px_up I 53 n b else I) 51 3 (nI (n + 1))
theorem c_X0_note {l : Launch} {I : px_I} {J : px_J} {n : Nat} {b : Int32} (hn : I 51 3 = nI n) (hn9 : n < 1000) : Ct l mX0_note 0 [.ref 51, .int b] I J (px_qs (g_note I n b) J) := by
  refine Ct.of plX0_note (Nat.le_of_ble_eq_true rfl) [.ref 51, .int b] rfl ?_
  refine V0_aload_n (pc := 0) dX0_note_0 rfl ?_
  refine V_geti (pc := 1) dX0_note_1 flX0_22 rfl rfl ?_
  refine V0_bipush (pc := 4) (24) dX0_note_4 (by decide) ?_
  rw [hn]
  refine V1_icmp_ge (pc := 6) 19 dX0_note_6 (by decide) (fun h6 => ?_) (fun h6 => ?_)
  · skip
    refine V0_aload_n (pc := 19) dX0_note_19 rfl ?_
    refine V0_dup (pc := 20) dX0_note_20 rfl ?_
    refine V_geti (pc := 21) dX0_note_21 flX0_22 rfl rfl ?_
    refine V0_iconst (pc := 24) (1) dX0_note_24 (by decide) ?_
    refine V0_iadd (pc := 25) dX0_note_25 ?_
    refine V_puti (pc := 26) dX0_note_26 flX0_22 rfl rfl ?_
    refine V_retv (pc := 29) dX0_note_29 rfl ?_
    first | exact ⟨rfl, by have hg : n < 24 := px_ltc 24 rfl h6 (by omega) (by omega); unfold g_note; rw [if_pos hg]; simp [px_up_at, hn, nI_1], rfl⟩ | exact ⟨rfl, by have hg : ¬ n < 24 := (by have := px_gec 24 rfl h6 (by omega) (by omega); omega); unfold g_note; rw [if_neg hg]; simp [px_up_at, hn, nI_1], rfl⟩
  · skip
    refine V0_aload_n (pc := 9) dX0_note_9 rfl ?_
    refine V_getr (pc := 10) dX0_note_10 flX0_15 rfl rfl ?_
    refine V0_aload_n (pc := 13) dX0_note_13 rfl ?_
    refine V_geti (pc := 14) dX0_note_14 flX0_22 rfl rfl ?_
    refine V0_iload_n (pc := 17) dX0_note_17 rfl ?_
    refine V_iast (pc := 18) n dX0_note_18 rfl hn (px_ltc 24 rfl h6 (by omega) (by omega)) ?_
    refine V0_aload_n (pc := 19) dX0_note_19 rfl ?_
    refine V0_dup (pc := 20) dX0_note_20 rfl ?_
    refine V_geti (pc := 21) dX0_note_21 flX0_22 rfl rfl ?_
    refine V0_iconst (pc := 24) (1) dX0_note_24 (by decide) ?_
    refine V0_iadd (pc := 25) dX0_note_25 ?_
    refine V_puti (pc := 26) dX0_note_26 flX0_22 rfl rfl ?_
    refine V_retv (pc := 29) dX0_note_29 rfl ?_
    first | exact ⟨rfl, by have hg : n < 24 := px_ltc 24 rfl h6 (by omega) (by omega); unfold g_note; rw [if_pos hg]; simp [px_up_at, hn, nI_1], rfl⟩ | exact ⟨rfl, by have hg : ¬ n < 24 := (by have := px_gec 24 rfl h6 (by omega) (by omega); omega); unfold g_note; rw [if_neg hg]; simp [px_up_at, hn, nI_1], rfl⟩
/-! the law: its small methods -/
theorem c_X3_clear {l : Launch} {I : px_I} {J : px_J} {p : Nat} (hp : px_lw p) : Ct l mX3_clear 0 [.ref p] I J (px_qs (px_up I p 4 0) J) := by
  refine Ct.of plX3_clear (Nat.le_of_ble_eq_true rfl) [.ref p] rfl ?_
  refine V0_aload_n (pc := 0) dX3_clear_0 rfl ?_
  refine V0_iconst (pc := 1) (0) dX3_clear_1 (by decide) ?_
  refine V_puti (pc := 2) dX3_clear_2 flX3_22 hp.1 rfl ?_
  refine V_retv (pc := 5) dX3_clear_5 rfl ?_
  exact ⟨rfl, rfl, rfl⟩
theorem c_X3_isTold {l : Launch} {I : px_I} {J : px_J} {p : Nat} (hp : px_lw p) : CtI l mX3_isTold 0 [.ref p] I J (b2 (decide (0 < I p 4))) := by
  refine Ct.of plX3_isTold (Nat.le_of_ble_eq_true rfl) [.ref p] rfl ?_
  refine V0_aload_n (pc := 0) dX3_isTold_0 rfl ?_
  refine V_geti (pc := 1) dX3_isTold_1 flX3_22 hp.1 rfl ?_
  refine V1_if_le (pc := 4) 11 dX3_isTold_4 (by decide) (fun h4 => ?_) (fun h4 => ?_)
  · skip
    refine V0_iconst (pc := 11) (0) dX3_isTold_11 (by decide) ?_
    refine V_retz (pc := 12) _ dX3_isTold_12 rfl (Or.inl rfl) ?_
    refine px_li ?_
    simp [b2, *]
  · skip
    refine V0_iconst (pc := 7) (1) dX3_isTold_7 (by decide) ?_
    refine V0_goto (pc := 8) 12 dX3_isTold_8 (by decide) ?_
    refine V_retz (pc := 12) _ dX3_isTold_12 rfl (Or.inr rfl) ?_
    refine px_li ?_
    simp [b2, *]
def g_lawTake (I : px_I) (p q : Nat) : px_I := px_up (px_cp (px_cp I (q + 2) 0 (p + 2) 0 128) (q + 3) 0 (p + 3) 0 128) p 4 (px_cp (px_cp I (q + 2) 0 (p + 2) 0 128) (q + 3) 0 (p + 3) 0 128 q 4)
theorem c_X3_take {l : Launch} {I : px_I} {J : px_J} {p q : Nat} (hp : px_lw p) (hq : px_lw q) : Ct l mX3_take 1 [.ref p, .ref q] I J (px_qs (g_lawTake I p q) J) := by
  refine Ct.of plX3_take (Nat.le_of_ble_eq_true rfl) [.ref p, .ref q] rfl ?_
  refine V0_aload_n (pc := 0) dX3_take_0 rfl ?_
  refine V_getr (pc := 1) dX3_take_1 flX3_13 hq.1 rfl ?_
  refine V0_iconst (pc := 4) (0) dX3_take_4 (by decide) ?_
  refine V0_aload_n (pc := 5) dX3_take_5 rfl ?_
  refine V_getr (pc := 6) dX3_take_6 flX3_13 hp.1 rfl ?_
  refine V0_iconst (pc := 9) (0) dX3_take_9 (by decide) ?_
  refine V0_sipush (pc := 10) (128) dX3_take_10 (by decide) ?_
  refine V_copyi (pc := 13) 0 0 128 rfl dX3_take_13 mlX3_26 hq.2.2.1 hp.2.2.1 nI_0.symm nI_0.symm rfl (by omega) (by omega) (Nat.le_of_ble_eq_true rfl) (Nat.le_of_ble_eq_true rfl) ?_
  refine V0_aload_n (pc := 16) dX3_take_16 rfl ?_
  refine V_getr (pc := 17) dX3_take_17 flX3_16 hq.1 rfl ?_
  refine V0_iconst (pc := 20) (0) dX3_take_20 (by decide) ?_
  refine V0_aload_n (pc := 21) dX3_take_21 rfl ?_
  refine V_getr (pc := 22) dX3_take_22 flX3_16 hp.1 rfl ?_
  refine V0_iconst (pc := 25) (0) dX3_take_25 (by decide) ?_
  refine V0_sipush (pc := 26) (128) dX3_take_26 (by decide) ?_
  refine V_copyi (pc := 29) 0 0 128 rfl dX3_take_29 mlX3_26 hq.2.2.2.1 hp.2.2.2.1 nI_0.symm nI_0.symm rfl (by omega) (by omega) (Nat.le_of_ble_eq_true rfl) (Nat.le_of_ble_eq_true rfl) ?_
  refine V0_aload_n (pc := 32) dX3_take_32 rfl ?_
  refine V0_aload_n (pc := 33) dX3_take_33 rfl ?_
  refine V_geti (pc := 34) dX3_take_34 flX3_22 hq.1 rfl ?_
  refine V_puti (pc := 37) dX3_take_37 flX3_22 hp.1 rfl ?_
  refine V_retv (pc := 40) dX3_take_40 rfl ?_
  exact ⟨rfl, rfl, rfl⟩
def g_lawAdd (I : px_I) (p n : Nat) (s t : Int32) : px_I := if n < 128 then px_up (px_up (px_up I (p + 2) n s) (p + 3) n t) p 4 (nI (n + 1)) else I
theorem c_X3_add {l : Launch} {I : px_I} {J : px_J} {p n : Nat} {s t : Int32} (hp : px_lw p) (hk : I p 4 = nI n) (hk9 : n ≤ 128) : Ct l mX3_add 0 [.ref p, .int s, .int t] I J (px_qi (if n < 128 then nI n else 127) (g_lawAdd I p n s t) J) := by
  have e1 : ¬ p = p + 3 := by omega
  have e2 : ¬ p = p + 2 := by omega
  refine Ct.of plX3_add (Nat.le_of_ble_eq_true rfl) [.ref p, .int s, .int t] rfl ?_
  refine V0_aload_n (pc := 0) dX3_add_0 rfl ?_
  refine V_geti (pc := 1) dX3_add_1 flX3_22 hp.1 rfl ?_
  refine V0_sipush (pc := 4) (128) dX3_add_4 (by decide) ?_
  rw [hk]
  refine V0_icmp_lt (pc := 7) 13 dX3_add_7 (by decide) (fun h7 => ?_) (fun h7 => ?_)
  · skip
    have h10 : n < 128 := px_ltc 128 rfl h7 (by omega) (by omega)
    refine V0_aload_n (pc := 13) dX3_add_13 rfl ?_
    refine V_getr (pc := 14) dX3_add_14 flX3_13 hp.1 rfl ?_
    refine V0_aload_n (pc := 17) dX3_add_17 rfl ?_
    refine V_geti (pc := 18) dX3_add_18 flX3_22 hp.1 rfl ?_
    refine V0_iload_n (pc := 21) dX3_add_21 rfl ?_
    refine V_iast (pc := 22) n dX3_add_22 hp.2.2.1 hk (by omega) ?_
    refine V0_aload_n (pc := 23) dX3_add_23 rfl ?_
    refine V_getr (pc := 24) dX3_add_24 flX3_16 hp.1 rfl ?_
    refine V0_aload_n (pc := 27) dX3_add_27 rfl ?_
    refine V_geti (pc := 28) dX3_add_28 flX3_22 hp.1 rfl ?_
    refine V0_iload_n (pc := 31) dX3_add_31 rfl ?_
    refine V_iast (pc := 32) n dX3_add_32 hp.2.2.2.1 (by simp [px_up_at, hk]) (by omega) ?_
    refine V0_aload_n (pc := 33) dX3_add_33 rfl ?_
    refine V0_dup (pc := 34) dX3_add_34 rfl ?_
    refine V_geti (pc := 35) dX3_add_35 flX3_22 hp.1 rfl ?_
    refine V0_dup_x1 (pc := 38) dX3_add_38 rfl rfl ?_
    refine V0_iconst (pc := 39) (1) dX3_add_39 (by decide) ?_
    refine V0_iadd (pc := 40) dX3_add_40 ?_
    refine V_puti (pc := 41) dX3_add_41 flX3_22 hp.1 rfl ?_
    refine V_reti (pc := 44) _ dX3_add_44 rfl ?_
    exact ⟨by simp [h10, px_up_at, hk], by simp [h10, g_lawAdd, px_up_at, hk, nI_1], rfl⟩
  · skip
    have h10 : ¬ n < 128 := by have := px_gec 128 rfl h7 (by omega) (by omega); omega
    refine V0_bipush (pc := 10) (127) dX3_add_10 (by decide) ?_
    refine V_reti (pc := 12) _ dX3_add_12 rfl ?_
    exact ⟨by simp [h10], by simp [h10, g_lawAdd], rfl⟩
theorem c_X3_aimTest {l : Launch} {I : px_I} {J : px_J} {p n t : Nat} (hp : px_lw p) (hk : I p 4 = nI n) (hk1 : n ≤ 128) (ht : t < 128) : Ct l mX3_aimTest 0 [.ref p, .int (nI t)] I J (px_qs (if t < n then px_up I (p + 3) t (nI (n - 1)) else I) J) := by
  refine Ct.of plX3_aimTest (Nat.le_of_ble_eq_true rfl) [.ref p, .int (nI t)] rfl ?_
  refine V0_iload_n (pc := 0) dX3_aimTest_0 rfl ?_
  refine V0_if_lt (pc := 1) 24 dX3_aimTest_1 (by decide) (fun h1 => ?_) (fun h1 => ?_)
  · skip
    exact absurd h1 (nI_nn (by omega))
  · skip
    refine V0_iload_n (pc := 4) dX3_aimTest_4 rfl ?_
    refine V0_aload_n (pc := 5) dX3_aimTest_5 rfl ?_
    refine V_geti (pc := 6) dX3_aimTest_6 flX3_22 hp.1 rfl ?_
    rw [hk]
    refine V1_icmp_ge (pc := 9) 24 dX3_aimTest_9 (by decide) (fun h9 => ?_) (fun h9 => ?_)
    · skip
      have h3 : ¬ t < n := by have := px_ge h9 (by omega) (by omega); omega
      refine V_retv (pc := 24) dX3_aimTest_24 rfl ?_
      exact ⟨rfl, by simp [h3], rfl⟩
    · skip
      have h3 : t < n := px_lt h9 (by omega) (by omega)
      obtain ⟨n, rfl⟩ : ∃ e, n = e + 1 := ⟨n - 1, by omega⟩
      refine V0_aload_n (pc := 12) dX3_aimTest_12 rfl ?_
      refine V_getr (pc := 13) dX3_aimTest_13 flX3_16 hp.1 rfl ?_
      refine V0_iload_n (pc := 16) dX3_aimTest_16 rfl ?_
      refine V0_aload_n (pc := 17) dX3_aimTest_17 rfl ?_
      refine V_geti (pc := 18) dX3_aimTest_18 flX3_22 hp.1 rfl ?_
      refine V0_iconst (pc := 21) (1) dX3_aimTest_21 (by decide) ?_
      rw [hk]
      refine V0_isub (pc := 22) dX3_aimTest_22 ?_
      rw [nI_pred]
      refine V_iast (pc := 23) (t) dX3_aimTest_23 hp.2.2.2.1 rfl (by omega) ?_
      refine V_retv (pc := 24) dX3_aimTest_24 rfl ?_
      exact ⟨rfl, by simp [h3], rfl⟩
def g_valueOf (I : px_I) (p : Nat) (x : Int32) : Int32 := if ¬ x < 0 ∧ x < 6 then I (p + 1) (ix x) else 0
theorem c_X3_valueOf {l : Launch} {I : px_I} {J : px_J} {p : Nat} {x : Int32} (hp : px_lw p) : CtI l mX3_valueOf 0 [.ref p, .int x] I J (g_valueOf I p x) := by
  refine Ct.of plX3_valueOf (Nat.le_of_ble_eq_true rfl) [.ref p, .int x] rfl ?_
  refine V0_iload_n (pc := 0) dX3_valueOf_0 rfl ?_
  refine V0_if_lt (pc := 1) 19 dX3_valueOf_1 (by decide) (fun h1 => ?_) (fun h1 => ?_)
  · skip
    refine V0_iconst (pc := 19) (0) dX3_valueOf_19 (by decide) ?_
    refine V_reti (pc := 20) _ dX3_valueOf_20 rfl ?_
    refine px_li ?_
    first | (simp [g_valueOf, h1, h7]; done) | (simp [g_valueOf, h1]; done)
  · skip
    refine V0_iload_n (pc := 4) dX3_valueOf_4 rfl ?_
    refine V0_bipush (pc := 5) (6) dX3_valueOf_5 (by decide) ?_
    refine V1_icmp_ge (pc := 7) 19 dX3_valueOf_7 (by decide) (fun h7 => ?_) (fun h7 => ?_)
    · skip
      refine V0_iconst (pc := 19) (0) dX3_valueOf_19 (by decide) ?_
      refine V_reti (pc := 20) _ dX3_valueOf_20 rfl ?_
      refine px_li ?_
      first | (simp [g_valueOf, h1, h7]; done) | (simp [g_valueOf, h1]; done)
    · skip
      refine V0_aload_n (pc := 10) dX3_valueOf_10 rfl ?_
      refine V_getr (pc := 11) dX3_valueOf_11 flX3_9 hp.1 rfl ?_
      refine V0_iload_n (pc := 14) dX3_valueOf_14 rfl ?_
      refine V_iald (pc := 15) (ix x) dX3_valueOf_15 hp.2.1 (nI_ix h1) (ix_lt (n := 6) h1 (by omega) h7) ?_
      refine V0_goto (pc := 16) 20 dX3_valueOf_16 (by decide) ?_
      refine V_reti (pc := 20) _ dX3_valueOf_20 rfl ?_
      refine px_li ?_
      first | (simp [g_valueOf, h1, h7]; done) | (simp [g_valueOf, h1]; done)
def s_join (s a b : Int32) : Int32 := if s = 38 then b2 (!decide (a = 0) && !decide (b = 0)) else if s = 42 then a * b else if s = 43 then a + b else if s = 45 then a - b else if s = 47 then (if b = 0 then 0 else a / b) else if s = 60 then b2 (decide (a < b)) else if s = 61 then b2 (decide (a = b)) else if s = 62 then b2 (decide (b < a)) else if s = 124 then b2 (!decide (a = 0) || !decide (b = 0)) else if b = 0 then 0 else px_rem a b
theorem c_X3_join {l : Launch} {I : px_I} {J : px_J} {s a b : Int32} : CtI l mX3_join 0 [.int s, .int a, .int b] I J (s_join s a b) := by
  refine Ct.of plX3_join (Nat.le_of_ble_eq_true rfl) [.int s, .int a, .int b] rfl ?_
  refine V0_iload_n (pc := 0) dX3_join_0 rfl ?_
  by_cases s1_0 : s = (38)
  · refine V_lookIn (pc := 1) (off := 97) (38) 98 dX3_join_1 s1_0 (by decide) (by decide) (by decide) ?_
    refine V0_iload_n (pc := 98) dX3_join_98 rfl ?_
    refine V0_if_eq (pc := 99) 110 dX3_join_99 (by decide) (fun h99 => ?_) (fun h99 => ?_)
    · skip
      refine V0_iconst (pc := 110) (0) dX3_join_110 (by decide) ?_
      refine V_reti (pc := 111) _ dX3_join_111 rfl ?_
      refine px_li ?_
      first | (simp [s_join, b2, *]; done) | (subst_vars; simp [s_join, b2, *]; done)
    · skip
      refine V0_iload_n (pc := 102) dX3_join_102 rfl ?_
      refine V0_if_eq (pc := 103) 110 dX3_join_103 (by decide) (fun h103 => ?_) (fun h103 => ?_)
      · skip
        refine V0_iconst (pc := 110) (0) dX3_join_110 (by decide) ?_
        refine V_reti (pc := 111) _ dX3_join_111 rfl ?_
        refine px_li ?_
        first | (simp [s_join, b2, *]; done) | (subst_vars; simp [s_join, b2, *]; done)
      · skip
        refine V0_iconst (pc := 106) (1) dX3_join_106 (by decide) ?_
        refine V0_goto (pc := 107) 111 dX3_join_107 (by decide) ?_
        refine V_reti (pc := 111) _ dX3_join_111 rfl ?_
        refine px_li ?_
        first | (simp [s_join, b2, *]; done) | (subst_vars; simp [s_join, b2, *]; done)
  by_cases s1_1 : s = (42)
  · refine V_lookIn (pc := 1) (off := 152) (42) 153 dX3_join_1 s1_1 (by decide) (by decide) (by decide) ?_
    refine V0_iload_n (pc := 153) dX3_join_153 rfl ?_
    refine V0_iload_n (pc := 154) dX3_join_154 rfl ?_
    refine V0_imul (pc := 155) dX3_join_155 ?_
    refine V_reti (pc := 156) _ dX3_join_156 rfl ?_
    refine px_li ?_
    first | (simp [s_join, b2, *]; done) | (subst_vars; simp [s_join, b2, *]; done)
  by_cases s1_2 : s = (43)
  · refine V_lookIn (pc := 1) (off := 144) (43) 145 dX3_join_1 s1_2 (by decide) (by decide) (by decide) ?_
    refine V0_iload_n (pc := 145) dX3_join_145 rfl ?_
    refine V0_iload_n (pc := 146) dX3_join_146 rfl ?_
    refine V0_iadd (pc := 147) dX3_join_147 ?_
    refine V_reti (pc := 148) _ dX3_join_148 rfl ?_
    refine px_li ?_
    first | (simp [s_join, b2, *]; done) | (subst_vars; simp [s_join, b2, *]; done)
  by_cases s1_3 : s = (45)
  · refine V_lookIn (pc := 1) (off := 148) (45) 149 dX3_join_1 s1_3 (by decide) (by decide) (by decide) ?_
    refine V0_iload_n (pc := 149) dX3_join_149 rfl ?_
    refine V0_iload_n (pc := 150) dX3_join_150 rfl ?_
    refine V0_isub (pc := 151) dX3_join_151 ?_
    refine V_reti (pc := 152) _ dX3_join_152 rfl ?_
    refine px_li ?_
    first | (simp [s_join, b2, *]; done) | (subst_vars; simp [s_join, b2, *]; done)
  by_cases s1_4 : s = (47)
  · refine V_lookIn (pc := 1) (off := 156) (47) 157 dX3_join_1 s1_4 (by decide) (by decide) (by decide) ?_
    refine V0_iload_n (pc := 157) dX3_join_157 rfl ?_
    refine V0_if_ne (pc := 158) 165 dX3_join_158 (by decide) (fun h158 => ?_) (fun h158 => ?_)
    · skip
      refine V0_iload_n (pc := 165) dX3_join_165 rfl ?_
      refine V0_iload_n (pc := 166) dX3_join_166 rfl ?_
      refine V0_idiv (pc := 167) dX3_join_167 h158 ?_
      refine V_reti (pc := 168) _ dX3_join_168 rfl ?_
      refine px_li ?_
      first | (simp [s_join, b2, *]; done) | (subst_vars; simp [s_join, b2, *]; done)
    · skip
      refine V0_iconst (pc := 161) (0) dX3_join_161 (by decide) ?_
      refine V0_goto (pc := 162) 168 dX3_join_162 (by decide) ?_
      refine V_reti (pc := 168) _ dX3_join_168 rfl ?_
      refine px_li ?_
      first | (simp [s_join, b2, *]; done) | (subst_vars; simp [s_join, b2, *]; done)
  by_cases s1_5 : s = (60)
  · refine V_lookIn (pc := 1) (off := 111) (60) 112 dX3_join_1 s1_5 (by decide) (by decide) (by decide) ?_
    refine V0_iload_n (pc := 112) dX3_join_112 rfl ?_
    refine V0_iload_n (pc := 113) dX3_join_113 rfl ?_
    refine V1_icmp_ge (pc := 114) 121 dX3_join_114 (by decide) (fun h114 => ?_) (fun h114 => ?_)
    · skip
      refine V0_iconst (pc := 121) (0) dX3_join_121 (by decide) ?_
      refine V_reti (pc := 122) _ dX3_join_122 rfl ?_
      refine px_li ?_
      first | (simp [s_join, b2, *]; done) | (subst_vars; simp [s_join, b2, *]; done)
    · skip
      refine V0_iconst (pc := 117) (1) dX3_join_117 (by decide) ?_
      refine V0_goto (pc := 118) 122 dX3_join_118 (by decide) ?_
      refine V_reti (pc := 122) _ dX3_join_122 rfl ?_
      refine px_li ?_
      first | (simp [s_join, b2, *]; done) | (subst_vars; simp [s_join, b2, *]; done)
  by_cases s1_6 : s = (61)
  · refine V_lookIn (pc := 1) (off := 122) (61) 123 dX3_join_1 s1_6 (by decide) (by decide) (by decide) ?_
    refine V0_iload_n (pc := 123) dX3_join_123 rfl ?_
    refine V0_iload_n (pc := 124) dX3_join_124 rfl ?_
    refine V0_icmp_ne (pc := 125) 132 dX3_join_125 (by decide) (fun h125 => ?_) (fun h125 => ?_)
    · skip
      refine V0_iconst (pc := 132) (0) dX3_join_132 (by decide) ?_
      refine V_reti (pc := 133) _ dX3_join_133 rfl ?_
      refine px_li ?_
      first | (simp [s_join, b2, *]; done) | (subst_vars; simp [s_join, b2, *]; done)
    · skip
      refine V0_iconst (pc := 128) (1) dX3_join_128 (by decide) ?_
      refine V0_goto (pc := 129) 133 dX3_join_129 (by decide) ?_
      refine V_reti (pc := 133) _ dX3_join_133 rfl ?_
      refine px_li ?_
      first | (simp [s_join, b2, *]; done) | (subst_vars; simp [s_join, b2, *]; done)
  by_cases s1_7 : s = (62)
  · refine V_lookIn (pc := 1) (off := 133) (62) 134 dX3_join_1 s1_7 (by decide) (by decide) (by decide) ?_
    refine V0_iload_n (pc := 134) dX3_join_134 rfl ?_
    refine V0_iload_n (pc := 135) dX3_join_135 rfl ?_
    refine V1_icmp_le (pc := 136) 143 dX3_join_136 (by decide) (fun h136 => ?_) (fun h136 => ?_)
    · skip
      refine V0_iconst (pc := 143) (0) dX3_join_143 (by decide) ?_
      refine V_reti (pc := 144) _ dX3_join_144 rfl ?_
      refine px_li ?_
      first | (simp [s_join, b2, *]; done) | (subst_vars; simp [s_join, b2, *]; done)
    · skip
      refine V0_iconst (pc := 139) (1) dX3_join_139 (by decide) ?_
      refine V0_goto (pc := 140) 144 dX3_join_140 (by decide) ?_
      refine V_reti (pc := 144) _ dX3_join_144 rfl ?_
      refine px_li ?_
      first | (simp [s_join, b2, *]; done) | (subst_vars; simp [s_join, b2, *]; done)
  by_cases s1_8 : s = (124)
  · refine V_lookIn (pc := 1) (off := 83) (124) 84 dX3_join_1 s1_8 (by decide) (by decide) (by decide) ?_
    refine V0_iload_n (pc := 84) dX3_join_84 rfl ?_
    refine V0_if_ne (pc := 85) 92 dX3_join_85 (by decide) (fun h85 => ?_) (fun h85 => ?_)
    · skip
      refine V0_iconst (pc := 92) (1) dX3_join_92 (by decide) ?_
      refine V0_goto (pc := 93) 97 dX3_join_93 (by decide) ?_
      refine V_reti (pc := 97) _ dX3_join_97 rfl ?_
      refine px_li ?_
      first | (simp [s_join, b2, *]; done) | (subst_vars; simp [s_join, b2, *]; done)
    · skip
      refine V0_iload_n (pc := 88) dX3_join_88 rfl ?_
      refine V0_if_eq (pc := 89) 96 dX3_join_89 (by decide) (fun h89 => ?_) (fun h89 => ?_)
      · skip
        refine V0_iconst (pc := 96) (0) dX3_join_96 (by decide) ?_
        refine V_reti (pc := 97) _ dX3_join_97 rfl ?_
        refine px_li ?_
        first | (simp [s_join, b2, *]; done) | (subst_vars; simp [s_join, b2, *]; done)
      · skip
        refine V0_iconst (pc := 92) (1) dX3_join_92 (by decide) ?_
        refine V0_goto (pc := 93) 97 dX3_join_93 (by decide) ?_
        refine V_reti (pc := 97) _ dX3_join_97 rfl ?_
        refine px_li ?_
        first | (simp [s_join, b2, *]; done) | (subst_vars; simp [s_join, b2, *]; done)
  refine V0_lookup (pc := 1) (off := 168) 169 dX3_join_1 (by decide) (by show Op.lookupswitch.offset [(38, 97), (42, 152), (43, 144), (45, 148), (47, 156), (60, 111), (61, 122), (62, 133), (124, 83)] (168) (s).toInt = 168; rw [lv_osw (a := 38) s1_0 rfl, lv_osw (a := 42) s1_1 rfl, lv_osw (a := 43) s1_2 rfl, lv_osw (a := 45) s1_3 rfl, lv_osw (a := 47) s1_4 rfl, lv_osw (a := 60) s1_5 rfl, lv_osw (a := 61) s1_6 rfl, lv_osw (a := 62) s1_7 rfl, lv_osw (a := 124) s1_8 rfl]; rfl) (by decide) ?_
  refine V0_iload_n (pc := 169) dX3_join_169 rfl ?_
  refine V0_if_ne (pc := 170) 177 dX3_join_170 (by decide) (fun h170 => ?_) (fun h170 => ?_)
  · skip
    refine V0_iload_n (pc := 177) dX3_join_177 rfl ?_
    refine V0_iload_n (pc := 178) dX3_join_178 rfl ?_
    refine V0_irem (pc := 179) dX3_join_179 h170 ?_
    refine V_reti (pc := 180) _ dX3_join_180 rfl ?_
    refine px_li ?_
    first | (simp [s_join, b2, *]; done) | (subst_vars; simp [s_join, b2, *]; done)
  · skip
    refine V0_iconst (pc := 173) (0) dX3_join_173 (by decide) ?_
    refine V0_goto (pc := 174) 180 dX3_join_174 (by decide) ?_
    refine V_reti (pc := 180) _ dX3_join_180 rfl ?_
    refine px_li ?_
    first | (simp [s_join, b2, *]; done) | (subst_vars; simp [s_join, b2, *]; done)
/-! the tape: its small methods -/
theorem c_X8_append {l : Launch} {I : px_I} {J : px_J} {n : Nat} {x : Int32} (hn : I 33 2 = nI n) (hn120 : n ≤ 120) : Ct l mX8_append 0 [.ref 33, .int x] I J (px_qi (b2 (decide (n < 120))) (if n < 120 then px_up (px_up I 33 2 (nI (n + 1))) 39 n x else I) J) := by
  refine Ct.of plX8_append (Nat.le_of_ble_eq_true rfl) [.ref 33, .int x] rfl ?_
  refine V0_aload_n (pc := 0) dX8_append_0 rfl ?_
  refine V_geti (pc := 1) dX8_append_1 flX8_20 rfl rfl ?_
  refine V0_bipush (pc := 4) (120) dX8_append_4 (by decide) ?_
  rw [hn]
  refine V0_icmp_lt (pc := 6) 11 dX8_append_6 (by decide) (fun h6 => ?_) (fun h6 => ?_)
  · skip
    have h10 : n < 120 := px_ltc 120 rfl h6 (by omega) (by omega)
    refine V0_aload_n (pc := 11) dX8_append_11 rfl ?_
    refine V_getr (pc := 12) dX8_append_12 flX8_16 rfl rfl ?_
    refine V0_aload_n (pc := 15) dX8_append_15 rfl ?_
    refine V0_dup (pc := 16) dX8_append_16 rfl ?_
    refine V_geti (pc := 17) dX8_append_17 flX8_20 rfl rfl ?_
    refine V0_dup_x1 (pc := 20) dX8_append_20 rfl rfl ?_
    refine V0_iconst (pc := 21) (1) dX8_append_21 (by decide) ?_
    refine V0_iadd (pc := 22) dX8_append_22 ?_
    refine V_puti (pc := 23) dX8_append_23 flX8_20 rfl rfl ?_
    refine V0_iload_n (pc := 26) dX8_append_26 rfl ?_
    refine V_iast (pc := 27) n dX8_append_27 rfl hn (by omega) ?_
    refine V0_iconst (pc := 28) (1) dX8_append_28 (by decide) ?_
    refine V_retz (pc := 29) _ dX8_append_29 rfl (Or.inr rfl) ?_
    exact ⟨by simp [h10, b2], by simp [h10, px_up_at, hn, nI_1], rfl⟩
  · skip
    have h10 : ¬ n < 120 := by have := px_gec 120 rfl h6 (by omega) (by omega); omega
    refine V0_iconst (pc := 9) (0) dX8_append_9 (by decide) ?_
    refine V_retz (pc := 10) _ dX8_append_10 rfl (Or.inl rfl) ?_
    exact ⟨by simp [h10, b2], by simp [h10], rfl⟩
def g_next (I : px_I) : Int32 := if I 33 4 = 0 ∧ I 33 3 < I 33 2 ∧ I 33 3 < 120 then I 39 (ix (I 33 3)) else -1
theorem c_X8_next {l : Launch} {I : px_I} {J : px_J} {a : Nat} (ha : I 33 3 = nI a) (hab : a < 2 ^ 31) : CtI l mX8_next 0 [.ref 33] I J (g_next I) := by
  have e : ix (I 33 3) = a := by rw [ha, ix_nI hab]
  refine Ct.of plX8_next (Nat.le_of_ble_eq_true rfl) [.ref 33] rfl ?_
  refine V0_aload_n (pc := 0) dX8_next_0 rfl ?_
  refine V_geti (pc := 1) dX8_next_1 flX8_27 rfl rfl ?_
  refine V0_if_ne (pc := 4) 39 dX8_next_4 (by decide) (fun h4 => ?_) (fun h4 => ?_)
  · skip
    refine V0_iconst (pc := 39) (-1) dX8_next_39 (by decide) ?_
    refine V_reti (pc := 40) _ dX8_next_40 rfl ?_
    refine px_li ?_
    first | (simp [g_next, h4, h15, h24, e]; done) | (simp [g_next, h4, h15]; done) | (simp [g_next, h4]; done)
  · skip
    refine V0_aload_n (pc := 7) dX8_next_7 rfl ?_
    refine V_geti (pc := 8) dX8_next_8 flX8_24 rfl rfl ?_
    refine V0_aload_n (pc := 11) dX8_next_11 rfl ?_
    refine V_geti (pc := 12) dX8_next_12 flX8_20 rfl rfl ?_
    refine V1_icmp_ge (pc := 15) 39 dX8_next_15 (by decide) (fun h15 => ?_) (fun h15 => ?_)
    · skip
      refine V0_iconst (pc := 39) (-1) dX8_next_39 (by decide) ?_
      refine V_reti (pc := 40) _ dX8_next_40 rfl ?_
      refine px_li ?_
      first | (simp [g_next, h4, h15, h24, e]; done) | (simp [g_next, h4, h15]; done) | (simp [g_next, h4]; done)
    · skip
      refine V0_aload_n (pc := 18) dX8_next_18 rfl ?_
      refine V_geti (pc := 19) dX8_next_19 flX8_24 rfl rfl ?_
      refine V0_bipush (pc := 22) (120) dX8_next_22 (by decide) ?_
      refine V1_icmp_ge (pc := 24) 39 dX8_next_24 (by decide) (fun h24 => ?_) (fun h24 => ?_)
      · skip
        refine V0_iconst (pc := 39) (-1) dX8_next_39 (by decide) ?_
        refine V_reti (pc := 40) _ dX8_next_40 rfl ?_
        refine px_li ?_
        first | (simp [g_next, h4, h15, h24, e]; done) | (simp [g_next, h4, h15]; done) | (simp [g_next, h4]; done)
      · skip
        refine V0_aload_n (pc := 27) dX8_next_27 rfl ?_
        refine V_getr (pc := 28) dX8_next_28 flX8_16 rfl rfl ?_
        refine V0_aload_n (pc := 31) dX8_next_31 rfl ?_
        refine V_geti (pc := 32) dX8_next_32 flX8_24 rfl rfl ?_
        refine V_iald (pc := 35) a dX8_next_35 rfl ha (px_ltc 120 rfl (by rw [← ha]; exact h24) hab (by omega)) ?_
        refine V0_goto (pc := 36) 40 dX8_next_36 (by decide) ?_
        refine V_reti (pc := 40) _ dX8_next_40 rfl ?_
        refine px_li ?_
        first | (simp [g_next, h4, h15, h24, e]; done) | (simp [g_next, h4, h15]; done) | (simp [g_next, h4]; done)
theorem c_X8_isDigit {l : Launch} {I : px_I} {J : px_J} {x : Int32} : CtI l mX8_isDigit 0 [.int x] I J (b2 (s_within x 48 57)) := by
  refine Ct.of plX8_isDigit (Nat.le_of_ble_eq_true rfl) [.int x] rfl ?_
  refine V0_iload_n (pc := 0) dX8_isDigit_0 rfl ?_
  refine V0_bipush (pc := 1) (48) dX8_isDigit_1 (by decide) ?_
  refine V0_icmp_lt (pc := 3) 16 dX8_isDigit_3 (by decide) (fun h3 => ?_) (fun h3 => ?_)
  · skip
    refine V0_iconst (pc := 16) (0) dX8_isDigit_16 (by decide) ?_
    refine V_retz (pc := 17) _ dX8_isDigit_17 rfl (Or.inl rfl) ?_
    refine px_li ?_
    simp [s_within, b2, *]
  · skip
    refine V0_iload_n (pc := 6) dX8_isDigit_6 rfl ?_
    refine V0_bipush (pc := 7) (57) dX8_isDigit_7 (by decide) ?_
    refine V0_icmp_gt (pc := 9) 16 dX8_isDigit_9 (by decide) (fun h9 => ?_) (fun h9 => ?_)
    · skip
      refine V0_iconst (pc := 16) (0) dX8_isDigit_16 (by decide) ?_
      refine V_retz (pc := 17) _ dX8_isDigit_17 rfl (Or.inl rfl) ?_
      refine px_li ?_
      simp [s_within, b2, *]
    · skip
      refine V0_iconst (pc := 12) (1) dX8_isDigit_12 (by decide) ?_
      refine V0_goto (pc := 13) 17 dX8_isDigit_13 (by decide) ?_
      refine V_retz (pc := 17) _ dX8_isDigit_17 rfl (Or.inr rfl) ?_
      refine px_li ?_
      simp [s_within, b2, *]
def s_name (x : Int32) : Int32 := if x = 119 then 0 else if x = 103 then 1 else if x = 108 then 2 else if x = 111 then 3 else if x = 107 then 4 else if x = 121 then 5 else -1
theorem c_X8_nameOf {l : Launch} {I : px_I} {J : px_J} {x : Int32} : CtI l mX8_nameOf 0 [.int x] I J (s_name x) := by
  refine Ct.of plX8_nameOf (Nat.le_of_ble_eq_true rfl) [.int x] rfl ?_
  refine V0_iload_n (pc := 0) dX8_nameOf_0 rfl ?_
  by_cases s1_0 : x = (103)
  · refine V_tabIn (pc := 1) (off := 93) (103) 94 dX8_nameOf_1 s1_0 (by decide) (by decide) (by decide) (by decide) ?_
    refine V0_iconst (pc := 94) (1) dX8_nameOf_94 (by decide) ?_
    refine V_reti (pc := 95) _ dX8_nameOf_95 rfl ?_
    refine px_li ?_
    first | (simp [s_name, *]; done) | (subst_vars; decide)
  by_cases s1_1 : x = (104)
  · refine V_tabIn (pc := 1) (off := 103) (104) 104 dX8_nameOf_1 s1_1 (by decide) (by decide) (by decide) (by decide) ?_
    refine V0_iconst (pc := 104) (-1) dX8_nameOf_104 (by decide) ?_
    refine V_reti (pc := 105) _ dX8_nameOf_105 rfl ?_
    refine px_li ?_
    first | (simp [s_name, *]; done) | (subst_vars; decide)
  by_cases s1_2 : x = (105)
  · refine V_tabIn (pc := 1) (off := 103) (105) 104 dX8_nameOf_1 s1_2 (by decide) (by decide) (by decide) (by decide) ?_
    refine V0_iconst (pc := 104) (-1) dX8_nameOf_104 (by decide) ?_
    refine V_reti (pc := 105) _ dX8_nameOf_105 rfl ?_
    refine px_li ?_
    first | (simp [s_name, *]; done) | (subst_vars; decide)
  by_cases s1_3 : x = (106)
  · refine V_tabIn (pc := 1) (off := 103) (106) 104 dX8_nameOf_1 s1_3 (by decide) (by decide) (by decide) (by decide) ?_
    refine V0_iconst (pc := 104) (-1) dX8_nameOf_104 (by decide) ?_
    refine V_reti (pc := 105) _ dX8_nameOf_105 rfl ?_
    refine px_li ?_
    first | (simp [s_name, *]; done) | (subst_vars; decide)
  by_cases s1_4 : x = (107)
  · refine V_tabIn (pc := 1) (off := 99) (107) 100 dX8_nameOf_1 s1_4 (by decide) (by decide) (by decide) (by decide) ?_
    refine V0_iconst (pc := 100) (4) dX8_nameOf_100 (by decide) ?_
    refine V_reti (pc := 101) _ dX8_nameOf_101 rfl ?_
    refine px_li ?_
    first | (simp [s_name, *]; done) | (subst_vars; decide)
  by_cases s1_5 : x = (108)
  · refine V_tabIn (pc := 1) (off := 95) (108) 96 dX8_nameOf_1 s1_5 (by decide) (by decide) (by decide) (by decide) ?_
    refine V0_iconst (pc := 96) (2) dX8_nameOf_96 (by decide) ?_
    refine V_reti (pc := 97) _ dX8_nameOf_97 rfl ?_
    refine px_li ?_
    first | (simp [s_name, *]; done) | (subst_vars; decide)
  by_cases s1_6 : x = (109)
  · refine V_tabIn (pc := 1) (off := 103) (109) 104 dX8_nameOf_1 s1_6 (by decide) (by decide) (by decide) (by decide) ?_
    refine V0_iconst (pc := 104) (-1) dX8_nameOf_104 (by decide) ?_
    refine V_reti (pc := 105) _ dX8_nameOf_105 rfl ?_
    refine px_li ?_
    first | (simp [s_name, *]; done) | (subst_vars; decide)
  by_cases s1_7 : x = (110)
  · refine V_tabIn (pc := 1) (off := 103) (110) 104 dX8_nameOf_1 s1_7 (by decide) (by decide) (by decide) (by decide) ?_
    refine V0_iconst (pc := 104) (-1) dX8_nameOf_104 (by decide) ?_
    refine V_reti (pc := 105) _ dX8_nameOf_105 rfl ?_
    refine px_li ?_
    first | (simp [s_name, *]; done) | (subst_vars; decide)
  by_cases s1_8 : x = (111)
  · refine V_tabIn (pc := 1) (off := 97) (111) 98 dX8_nameOf_1 s1_8 (by decide) (by decide) (by decide) (by decide) ?_
    refine V0_iconst (pc := 98) (3) dX8_nameOf_98 (by decide) ?_
    refine V_reti (pc := 99) _ dX8_nameOf_99 rfl ?_
    refine px_li ?_
    first | (simp [s_name, *]; done) | (subst_vars; decide)
  by_cases s1_9 : x = (112)
  · refine V_tabIn (pc := 1) (off := 103) (112) 104 dX8_nameOf_1 s1_9 (by decide) (by decide) (by decide) (by decide) ?_
    refine V0_iconst (pc := 104) (-1) dX8_nameOf_104 (by decide) ?_
    refine V_reti (pc := 105) _ dX8_nameOf_105 rfl ?_
    refine px_li ?_
    first | (simp [s_name, *]; done) | (subst_vars; decide)
  by_cases s1_10 : x = (113)
  · refine V_tabIn (pc := 1) (off := 103) (113) 104 dX8_nameOf_1 s1_10 (by decide) (by decide) (by decide) (by decide) ?_
    refine V0_iconst (pc := 104) (-1) dX8_nameOf_104 (by decide) ?_
    refine V_reti (pc := 105) _ dX8_nameOf_105 rfl ?_
    refine px_li ?_
    first | (simp [s_name, *]; done) | (subst_vars; decide)
  by_cases s1_11 : x = (114)
  · refine V_tabIn (pc := 1) (off := 103) (114) 104 dX8_nameOf_1 s1_11 (by decide) (by decide) (by decide) (by decide) ?_
    refine V0_iconst (pc := 104) (-1) dX8_nameOf_104 (by decide) ?_
    refine V_reti (pc := 105) _ dX8_nameOf_105 rfl ?_
    refine px_li ?_
    first | (simp [s_name, *]; done) | (subst_vars; decide)
  by_cases s1_12 : x = (115)
  · refine V_tabIn (pc := 1) (off := 103) (115) 104 dX8_nameOf_1 s1_12 (by decide) (by decide) (by decide) (by decide) ?_
    refine V0_iconst (pc := 104) (-1) dX8_nameOf_104 (by decide) ?_
    refine V_reti (pc := 105) _ dX8_nameOf_105 rfl ?_
    refine px_li ?_
    first | (simp [s_name, *]; done) | (subst_vars; decide)
  by_cases s1_13 : x = (116)
  · refine V_tabIn (pc := 1) (off := 103) (116) 104 dX8_nameOf_1 s1_13 (by decide) (by decide) (by decide) (by decide) ?_
    refine V0_iconst (pc := 104) (-1) dX8_nameOf_104 (by decide) ?_
    refine V_reti (pc := 105) _ dX8_nameOf_105 rfl ?_
    refine px_li ?_
    first | (simp [s_name, *]; done) | (subst_vars; decide)
  by_cases s1_14 : x = (117)
  · refine V_tabIn (pc := 1) (off := 103) (117) 104 dX8_nameOf_1 s1_14 (by decide) (by decide) (by decide) (by decide) ?_
    refine V0_iconst (pc := 104) (-1) dX8_nameOf_104 (by decide) ?_
    refine V_reti (pc := 105) _ dX8_nameOf_105 rfl ?_
    refine px_li ?_
    first | (simp [s_name, *]; done) | (subst_vars; decide)
  by_cases s1_15 : x = (118)
  · refine V_tabIn (pc := 1) (off := 103) (118) 104 dX8_nameOf_1 s1_15 (by decide) (by decide) (by decide) (by decide) ?_
    refine V0_iconst (pc := 104) (-1) dX8_nameOf_104 (by decide) ?_
    refine V_reti (pc := 105) _ dX8_nameOf_105 rfl ?_
    refine px_li ?_
    first | (simp [s_name, *]; done) | (subst_vars; decide)
  by_cases s1_16 : x = (119)
  · refine V_tabIn (pc := 1) (off := 91) (119) 92 dX8_nameOf_1 s1_16 (by decide) (by decide) (by decide) (by decide) ?_
    refine V0_iconst (pc := 92) (0) dX8_nameOf_92 (by decide) ?_
    refine V_reti (pc := 93) _ dX8_nameOf_93 rfl ?_
    refine px_li ?_
    first | (simp [s_name, *]; done) | (subst_vars; decide)
  by_cases s1_17 : x = (120)
  · refine V_tabIn (pc := 1) (off := 103) (120) 104 dX8_nameOf_1 s1_17 (by decide) (by decide) (by decide) (by decide) ?_
    refine V0_iconst (pc := 104) (-1) dX8_nameOf_104 (by decide) ?_
    refine V_reti (pc := 105) _ dX8_nameOf_105 rfl ?_
    refine px_li ?_
    first | (simp [s_name, *]; done) | (subst_vars; decide)
  by_cases s1_18 : x = (121)
  · refine V_tabIn (pc := 1) (off := 101) (121) 102 dX8_nameOf_1 s1_18 (by decide) (by decide) (by decide) (by decide) ?_
    refine V0_iconst (pc := 102) (5) dX8_nameOf_102 (by decide) ?_
    refine V_reti (pc := 103) _ dX8_nameOf_103 rfl ?_
    refine px_li ?_
    first | (simp [s_name, *]; done) | (subst_vars; decide)
  refine V_tabOut (pc := 1) 104 dX8_nameOf_1 (by have g0 := px_ne s1_0 (k := 103) (by decide); have g1 := px_ne s1_1 (k := 104) (by decide); have g2 := px_ne s1_2 (k := 105) (by decide); have g3 := px_ne s1_3 (k := 106) (by decide); have g4 := px_ne s1_4 (k := 107) (by decide); have g5 := px_ne s1_5 (k := 108) (by decide); have g6 := px_ne s1_6 (k := 109) (by decide); have g7 := px_ne s1_7 (k := 110) (by decide); have g8 := px_ne s1_8 (k := 111) (by decide); have g9 := px_ne s1_9 (k := 112) (by decide); have g10 := px_ne s1_10 (k := 113) (by decide); have g11 := px_ne s1_11 (k := 114) (by decide); have g12 := px_ne s1_12 (k := 115) (by decide); have g13 := px_ne s1_13 (k := 116) (by decide); have g14 := px_ne s1_14 (k := 117) (by decide); have g15 := px_ne s1_15 (k := 118) (by decide); have g16 := px_ne s1_16 (k := 119) (by decide); have g17 := px_ne s1_17 (k := 120) (by decide); have g18 := px_ne s1_18 (k := 121) (by decide); omega) (by decide) ?_
  refine V0_iconst (pc := 104) (-1) dX8_nameOf_104 (by decide) ?_
  refine V_reti (pc := 105) _ dX8_nameOf_105 rfl ?_
  refine px_li ?_
  first | (simp [s_name, *]; done) | (subst_vars; decide)

