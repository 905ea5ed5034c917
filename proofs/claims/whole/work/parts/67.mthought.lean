/-! the Model: what the lane in thought shows -/
def m_in (I : px_I) (w : Int32) (j : Nat) : Bool := if w = 0 then m_waits I j else if w = 1 then m_runs I j else if w = 2 then m_had I j else decide (I 79 j = 1)
theorem m_in_2 (I : px_I) : m_in I 2 = m_had I := by funext j; rfl
theorem m_in_3 (I : px_I) : m_in I 3 = fun j => decide (I 79 j = 1) := by funext j; rfl
theorem lp_X12_joysBy {l : Launch} {I : px_I} {J : px_J} {n : Nat} {w : Int32} {Q : px_Q} (hn : I 54 3 = nI n) (hn10 : n ≤ 10) (hQ : Q (some (.int (s_bits (m_in I w) n))) I J) : ∀ (k j : Nat), n + 1 - j ≤ k → j ≤ n → V0 l (px_rm 1 0 0) mX12_joysBy (false, []) 0 0 4 [.ref 54, .int w, .int (s_bits (m_in I w) j), .int (nI j)] [] (px_mk I J) (px_q Q) := by
  intro k
  induction k with
  | zero => intro j h1 h2; omega
  | succ k ih =>
    intro j h1 h2
    refine V0_iload_n (pc := 4) dX12_joysBy_4 rfl ?_
    refine V0_aload_n (pc := 5) dX12_joysBy_5 rfl ?_
    refine V_geti (pc := 6) dX12_joysBy_6 flX12_135 rfl rfl ?_
    rw [hn]
    refine V1_icmp_ge (pc := 9) 81 dX12_joysBy_9 (by decide) (fun h9 => ?_) (fun h9 => ?_)
    · skip
      have hj : j = n := by have := px_ge h9 (by omega) (by omega); omega
      subst hj
      refine V0_iload_n (pc := 81) dX12_joysBy_81 rfl ?_
      refine V_reti (pc := 82) _ dX12_joysBy_82 rfl ?_
      exact hQ
    · skip
      have hj := px_lt h9 (by omega) (by omega)
      refine V0_iload_n (pc := 12) dX12_joysBy_12 rfl ?_
      refine V0_if_ne (pc := 13) 27 dX12_joysBy_13 (by decide) (fun h13 => ?_) (fun h13 => ?_)
      · skip
        refine V0_iload_n (pc := 27) dX12_joysBy_27 rfl ?_
        refine V0_iconst (pc := 28) (1) dX12_joysBy_28 (by decide) ?_
        refine V0_icmp_ne (pc := 29) 43 dX12_joysBy_29 (by decide) (fun h29 => ?_) (fun h29 => ?_)
        · skip
          refine V0_iload_n (pc := 43) dX12_joysBy_43 rfl ?_
          refine V0_iconst (pc := 44) (2) dX12_joysBy_44 (by decide) ?_
          refine V0_icmp_ne (pc := 45) 59 dX12_joysBy_45 (by decide) (fun h45 => ?_) (fun h45 => ?_)
          · skip
            refine V0_aload_n (pc := 59) dX12_joysBy_59 rfl ?_
            refine V_getr (pc := 60) dX12_joysBy_60 flX12_84 rfl rfl ?_
            refine V0_iload_n (pc := 63) dX12_joysBy_63 rfl ?_
            refine V_iald (pc := 64) (j) dX12_joysBy_64 rfl rfl (by omega) ?_
            refine V0_iconst (pc := 65) (1) dX12_joysBy_65 (by decide) ?_
            refine V0_icmp_ne (pc := 66) 75 dX12_joysBy_66 (by decide) (fun h66 => ?_) (fun h66 => ?_)
            · skip
              refine V0_iinc_3 (pc := 75) (nI (j + 1)) dX12_joysBy_75 (by decide) rfl (nI_1 _) ?_
              refine V0_goto (pc := 78) 4 dX12_joysBy_78 (by decide) ?_
              first | exact V_ls (by rw [s_bits, if_pos hb]) (ih (j + 1) (by omega) (by omega)) | (have hb : ¬ m_in I w j = true := (by first | (rw [m_in, if_pos h13]; exact (fun q => absurd (q.symm.trans h21) (by decide))) | (rw [m_in, if_neg h13, if_pos h29]; exact (fun q => absurd (q.symm.trans h37) (by decide))) | (rw [m_in, if_neg h13, if_neg h29, if_pos h45]; exact (fun q => absurd (q.symm.trans h53) (by decide))) | (rw [m_in, if_neg h13, if_neg h29, if_neg h45]; exact (fun q => h66 (of_decide_eq_true q)))); exact V_ls (by rw [s_bits, if_neg hb]) (ih (j + 1) (by omega) (by omega)))
            · skip
              have hb : m_in I w j = true := by
                first | (rw [m_in, if_pos h13]; exact h21) | (rw [m_in, if_neg h13, if_pos h29]; exact h37) | (rw [m_in, if_neg h13, if_neg h29, if_pos h45]; exact h53) | (rw [m_in, if_neg h13, if_neg h29, if_neg h45]; exact decide_eq_true h66)
              refine V0_iload_n (pc := 69) dX12_joysBy_69 rfl ?_
              refine V0_iconst (pc := 70) (1) dX12_joysBy_70 (by decide) ?_
              refine V0_iload_n (pc := 71) dX12_joysBy_71 rfl ?_
              refine V0_ishl (pc := 72) dX12_joysBy_72 ?_
              refine V0_ior (pc := 73) dX12_joysBy_73 ?_
              refine V0_istore_2 (pc := 74) dX12_joysBy_74 (by decide) rfl ?_
              refine V0_iinc_3 (pc := 75) (nI (j + 1)) dX12_joysBy_75 (by decide) rfl (nI_1 _) ?_
              refine V0_goto (pc := 78) 4 dX12_joysBy_78 (by decide) ?_
              first | exact V_ls (by rw [s_bits, if_pos hb]) (ih (j + 1) (by omega) (by omega)) | (have hb : ¬ m_in I w j = true := (by first | (rw [m_in, if_pos h13]; exact (fun q => absurd (q.symm.trans h21) (by decide))) | (rw [m_in, if_neg h13, if_pos h29]; exact (fun q => absurd (q.symm.trans h37) (by decide))) | (rw [m_in, if_neg h13, if_neg h29, if_pos h45]; exact (fun q => absurd (q.symm.trans h53) (by decide))) | (rw [m_in, if_neg h13, if_neg h29, if_neg h45]; exact (fun q => h66 (of_decide_eq_true q)))); exact V_ls (by rw [s_bits, if_neg hb]) (ih (j + 1) (by omega) (by omega)))
          · skip
            refine V0_aload_n (pc := 48) dX12_joysBy_48 rfl ?_
            refine V0_iload_n (pc := 49) dX12_joysBy_49 rfl ?_
            refine V_callVi (pc := 50) (M' := mX12_isHad) dX12_joysBy_50 mlX12_289 okX12_isHad rfl (c_X12_isHad (by omega)) rfl rfl rfl rfl ⟨Nat.le_of_ble_eq_true rfl, Nat.le_of_ble_eq_true rfl⟩ ⟨Nat.le_refl 0, Nat.le_refl 0⟩ (Nat.le_of_ble_eq_true rfl) ?_
            refine V_ifeqb (pc := 53) 75 dX12_joysBy_53 (by decide) (fun h53 => ?_) (fun h53 => ?_)
            · skip
              refine V0_iinc_3 (pc := 75) (nI (j + 1)) dX12_joysBy_75 (by decide) rfl (nI_1 _) ?_
              refine V0_goto (pc := 78) 4 dX12_joysBy_78 (by decide) ?_
              first | exact V_ls (by rw [s_bits, if_pos hb]) (ih (j + 1) (by omega) (by omega)) | (have hb : ¬ m_in I w j = true := (by first | (rw [m_in, if_pos h13]; exact (fun q => absurd (q.symm.trans h21) (by decide))) | (rw [m_in, if_neg h13, if_pos h29]; exact (fun q => absurd (q.symm.trans h37) (by decide))) | (rw [m_in, if_neg h13, if_neg h29, if_pos h45]; exact (fun q => absurd (q.symm.trans h53) (by decide))) | (rw [m_in, if_neg h13, if_neg h29, if_neg h45]; exact (fun q => h66 (of_decide_eq_true q)))); exact V_ls (by rw [s_bits, if_neg hb]) (ih (j + 1) (by omega) (by omega)))
            · skip
              refine V0_goto (pc := 56) 69 dX12_joysBy_56 (by decide) ?_
              have hb : m_in I w j = true := by
                first | (rw [m_in, if_pos h13]; exact h21) | (rw [m_in, if_neg h13, if_pos h29]; exact h37) | (rw [m_in, if_neg h13, if_neg h29, if_pos h45]; exact h53) | (rw [m_in, if_neg h13, if_neg h29, if_neg h45]; exact decide_eq_true h66)
              refine V0_iload_n (pc := 69) dX12_joysBy_69 rfl ?_
              refine V0_iconst (pc := 70) (1) dX12_joysBy_70 (by decide) ?_
              refine V0_iload_n (pc := 71) dX12_joysBy_71 rfl ?_
              refine V0_ishl (pc := 72) dX12_joysBy_72 ?_
              refine V0_ior (pc := 73) dX12_joysBy_73 ?_
              refine V0_istore_2 (pc := 74) dX12_joysBy_74 (by decide) rfl ?_
              refine V0_iinc_3 (pc := 75) (nI (j + 1)) dX12_joysBy_75 (by decide) rfl (nI_1 _) ?_
              refine V0_goto (pc := 78) 4 dX12_joysBy_78 (by decide) ?_
              first | exact V_ls (by rw [s_bits, if_pos hb]) (ih (j + 1) (by omega) (by omega)) | (have hb : ¬ m_in I w j = true := (by first | (rw [m_in, if_pos h13]; exact (fun q => absurd (q.symm.trans h21) (by decide))) | (rw [m_in, if_neg h13, if_pos h29]; exact (fun q => absurd (q.symm.trans h37) (by decide))) | (rw [m_in, if_neg h13, if_neg h29, if_pos h45]; exact (fun q => absurd (q.symm.trans h53) (by decide))) | (rw [m_in, if_neg h13, if_neg h29, if_neg h45]; exact (fun q => h66 (of_decide_eq_true q)))); exact V_ls (by rw [s_bits, if_neg hb]) (ih (j + 1) (by omega) (by omega)))
        · skip
          refine V0_aload_n (pc := 32) dX12_joysBy_32 rfl ?_
          refine V0_iload_n (pc := 33) dX12_joysBy_33 rfl ?_
          refine V_callVi (pc := 34) (M' := mX12_runs) dX12_joysBy_34 mlX12_276 okX12_runs rfl (c_X12_runs (by omega)) rfl rfl rfl rfl ⟨Nat.le_of_ble_eq_true rfl, Nat.le_of_ble_eq_true rfl⟩ ⟨Nat.le_refl 0, Nat.le_refl 0⟩ (Nat.le_of_ble_eq_true rfl) ?_
          refine V_ifeqb (pc := 37) 75 dX12_joysBy_37 (by decide) (fun h37 => ?_) (fun h37 => ?_)
          · skip
            refine V0_iinc_3 (pc := 75) (nI (j + 1)) dX12_joysBy_75 (by decide) rfl (nI_1 _) ?_
            refine V0_goto (pc := 78) 4 dX12_joysBy_78 (by decide) ?_
            first | exact V_ls (by rw [s_bits, if_pos hb]) (ih (j + 1) (by omega) (by omega)) | (have hb : ¬ m_in I w j = true := (by first | (rw [m_in, if_pos h13]; exact (fun q => absurd (q.symm.trans h21) (by decide))) | (rw [m_in, if_neg h13, if_pos h29]; exact (fun q => absurd (q.symm.trans h37) (by decide))) | (rw [m_in, if_neg h13, if_neg h29, if_pos h45]; exact (fun q => absurd (q.symm.trans h53) (by decide))) | (rw [m_in, if_neg h13, if_neg h29, if_neg h45]; exact (fun q => h66 (of_decide_eq_true q)))); exact V_ls (by rw [s_bits, if_neg hb]) (ih (j + 1) (by omega) (by omega)))
          · skip
            refine V0_goto (pc := 40) 69 dX12_joysBy_40 (by decide) ?_
            have hb : m_in I w j = true := by
              first | (rw [m_in, if_pos h13]; exact h21) | (rw [m_in, if_neg h13, if_pos h29]; exact h37) | (rw [m_in, if_neg h13, if_neg h29, if_pos h45]; exact h53) | (rw [m_in, if_neg h13, if_neg h29, if_neg h45]; exact decide_eq_true h66)
            refine V0_iload_n (pc := 69) dX12_joysBy_69 rfl ?_
            refine V0_iconst (pc := 70) (1) dX12_joysBy_70 (by decide) ?_
            refine V0_iload_n (pc := 71) dX12_joysBy_71 rfl ?_
            refine V0_ishl (pc := 72) dX12_joysBy_72 ?_
            refine V0_ior (pc := 73) dX12_joysBy_73 ?_
            refine V0_istore_2 (pc := 74) dX12_joysBy_74 (by decide) rfl ?_
            refine V0_iinc_3 (pc := 75) (nI (j + 1)) dX12_joysBy_75 (by decide) rfl (nI_1 _) ?_
            refine V0_goto (pc := 78) 4 dX12_joysBy_78 (by decide) ?_
            first | exact V_ls (by rw [s_bits, if_pos hb]) (ih (j + 1) (by omega) (by omega)) | (have hb : ¬ m_in I w j = true := (by first | (rw [m_in, if_pos h13]; exact (fun q => absurd (q.symm.trans h21) (by decide))) | (rw [m_in, if_neg h13, if_pos h29]; exact (fun q => absurd (q.symm.trans h37) (by decide))) | (rw [m_in, if_neg h13, if_neg h29, if_pos h45]; exact (fun q => absurd (q.symm.trans h53) (by decide))) | (rw [m_in, if_neg h13, if_neg h29, if_neg h45]; exact (fun q => h66 (of_decide_eq_true q)))); exact V_ls (by rw [s_bits, if_neg hb]) (ih (j + 1) (by omega) (by omega)))
      · skip
        refine V0_aload_n (pc := 16) dX12_joysBy_16 rfl ?_
        refine V0_iload_n (pc := 17) dX12_joysBy_17 rfl ?_
        refine V_callVi (pc := 18) (M' := mX12_waits) dX12_joysBy_18 mlX12_279 okX12_waits rfl (c_X12_waits (by omega)) rfl rfl rfl rfl ⟨Nat.le_of_ble_eq_true rfl, Nat.le_of_ble_eq_true rfl⟩ ⟨Nat.le_refl 0, Nat.le_refl 0⟩ (Nat.le_of_ble_eq_true rfl) ?_
        refine V_ifeqb (pc := 21) 75 dX12_joysBy_21 (by decide) (fun h21 => ?_) (fun h21 => ?_)
        · skip
          refine V0_iinc_3 (pc := 75) (nI (j + 1)) dX12_joysBy_75 (by decide) rfl (nI_1 _) ?_
          refine V0_goto (pc := 78) 4 dX12_joysBy_78 (by decide) ?_
          first | exact V_ls (by rw [s_bits, if_pos hb]) (ih (j + 1) (by omega) (by omega)) | (have hb : ¬ m_in I w j = true := (by first | (rw [m_in, if_pos h13]; exact (fun q => absurd (q.symm.trans h21) (by decide))) | (rw [m_in, if_neg h13, if_pos h29]; exact (fun q => absurd (q.symm.trans h37) (by decide))) | (rw [m_in, if_neg h13, if_neg h29, if_pos h45]; exact (fun q => absurd (q.symm.trans h53) (by decide))) | (rw [m_in, if_neg h13, if_neg h29, if_neg h45]; exact (fun q => h66 (of_decide_eq_true q)))); exact V_ls (by rw [s_bits, if_neg hb]) (ih (j + 1) (by omega) (by omega)))
        · skip
          refine V0_goto (pc := 24) 69 dX12_joysBy_24 (by decide) ?_
          have hb : m_in I w j = true := by
            first | (rw [m_in, if_pos h13]; exact h21) | (rw [m_in, if_neg h13, if_pos h29]; exact h37) | (rw [m_in, if_neg h13, if_neg h29, if_pos h45]; exact h53) | (rw [m_in, if_neg h13, if_neg h29, if_neg h45]; exact decide_eq_true h66)
          refine V0_iload_n (pc := 69) dX12_joysBy_69 rfl ?_
          refine V0_iconst (pc := 70) (1) dX12_joysBy_70 (by decide) ?_
          refine V0_iload_n (pc := 71) dX12_joysBy_71 rfl ?_
          refine V0_ishl (pc := 72) dX12_joysBy_72 ?_
          refine V0_ior (pc := 73) dX12_joysBy_73 ?_
          refine V0_istore_2 (pc := 74) dX12_joysBy_74 (by decide) rfl ?_
          refine V0_iinc_3 (pc := 75) (nI (j + 1)) dX12_joysBy_75 (by decide) rfl (nI_1 _) ?_
          refine V0_goto (pc := 78) 4 dX12_joysBy_78 (by decide) ?_
          first | exact V_ls (by rw [s_bits, if_pos hb]) (ih (j + 1) (by omega) (by omega)) | (have hb : ¬ m_in I w j = true := (by first | (rw [m_in, if_pos h13]; exact (fun q => absurd (q.symm.trans h21) (by decide))) | (rw [m_in, if_neg h13, if_pos h29]; exact (fun q => absurd (q.symm.trans h37) (by decide))) | (rw [m_in, if_neg h13, if_neg h29, if_pos h45]; exact (fun q => absurd (q.symm.trans h53) (by decide))) | (rw [m_in, if_neg h13, if_neg h29, if_neg h45]; exact (fun q => h66 (of_decide_eq_true q)))); exact V_ls (by rw [s_bits, if_neg hb]) (ih (j + 1) (by omega) (by omega)))
theorem c_X12_joysBy {l : Launch} {I : px_I} {J : px_J} {n : Nat} {w : Int32} (hn : I 54 3 = nI n) (hn10 : n ≤ 10) : CtI l mX12_joysBy 1 [.ref 54, .int w] I J (s_bits (m_in I w) n) := by
  refine Ct.of plX12_joysBy (Nat.le_of_ble_eq_true rfl) [.ref 54, .int w, .null, .null] rfl ?_
  refine V0_iconst (pc := 0) (0) dX12_joysBy_0 (by decide) ?_
  refine V0_istore_2 (pc := 1) dX12_joysBy_1 (by decide) rfl ?_
  refine V0_iconst (pc := 2) (0) dX12_joysBy_2 (by decide) ?_
  refine V0_istore_3 (pc := 3) dX12_joysBy_3 (by decide) rfl ?_
  exact lp_X12_joysBy hn hn10 ⟨rfl, rfl, rfl⟩ (n + 1) 0 (by omega) (by omega)
abbrev m_gp (I : px_I) (n p : Nat) : Bool := decide (px_rem (I 77 p) 2 = I 54 36) && s_any (fun e => decide (I 56 e = nI p) && m_runs I e) n
theorem s_any_s {f : Nat → Bool} {n : Nat} : s_any f (n + 1) = (s_any f n || f n) := rfl
theorem m_gp_s {I : px_I} {j m : Nat} (hm7 : m ≤ 7) (hq : I 56 j = nI (ix (I 56 j)) ∧ ix (I 56 j) < 7) (hqm : ix (I 56 j) < m) (h1 : m_runs I j = true) (h2 : m_on I j = true) : s_bits (m_gp I j) m ||| ((1 : Int32) <<< (I 56 j &&& 31)) = s_bits (m_gp I (j + 1)) m := by
  rw [hq.1, s_bits_or (by omega) hqm]
  refine s_bits_congr m (fun p hp => ?_)
  show (_ || decide (p = ix (I 56 j))) = m_gp I (j + 1) p
  by_cases e : p = ix (I 56 j)
  · have h2' : px_rem (I 77 p) 2 = I 54 36 := by rw [e]; exact of_decide_eq_true h2
    have h3 : I 56 j = nI p := by rw [e]; exact hq.1
    rw [decide_eq_true e, Bool.or_true]
    unfold m_gp
    rw [s_any_s]
    simp [h2', h3, h1]
  · have h3 : ¬ I 56 j = nI p := fun q => e ((qI_inj (by omega) (by omega)).mp (hq.1.symm.trans q)).symm
    unfold m_gp
    rw [s_any_s]
    simp [h3, e]
theorem m_gp_n {I : px_I} {j m : Nat} (hm7 : m ≤ 7) (hq : I 56 j = nI (ix (I 56 j)) ∧ ix (I 56 j) < 7) (h : m_runs I j = false ∨ m_on I j = false) : s_bits (m_gp I j) m = s_bits (m_gp I (j + 1)) m := by
  refine s_bits_congr m (fun p hp => ?_)
  unfold m_gp
  rw [s_any_s]
  rcases h with h | h
  · simp [h]
  · by_cases e : I 56 j = nI p
    · have e2 : ix (I 56 j) = p := by rw [e]; exact ix_nI (by omega)
      have : ¬ px_rem (I 77 p) 2 = I 54 36 := by rw [← e2]; exact of_decide_eq_false h
      simp [this]
    · simp [e]
theorem lp_X12_gladPeople {l : Launch} {I : px_I} {J : px_J} {m n : Nat} {Q : px_Q} (hk : m_ok I m n) (hQ : Q (some (.int (s_bits (m_gp I n) m))) I J) : ∀ (k j : Nat), n + 1 - j ≤ k → j ≤ n → V0 l (px_rm 2 0 0) mX12_gladPeople (false, []) 0 0 4 [.ref 54, .int (s_bits (m_gp I j) m), .int (nI j)] [] (px_mk I J) (px_q Q) := by
  have hn := hk.2.2.1
  have hn10 := hk.2.2.2.1
  have ho := hk.2.2.2.2.1
  intro k
  induction k with
  | zero => intro j h1 h2; omega
  | succ k ih =>
    intro j h1 h2
    refine V0_iload_n (pc := 4) dX12_gladPeople_4 rfl ?_
    refine V0_aload_n (pc := 5) dX12_gladPeople_5 rfl ?_
    refine V_geti (pc := 6) dX12_gladPeople_6 flX12_135 rfl rfl ?_
    rw [hn]
    refine V1_icmp_ge (pc := 9) 45 dX12_gladPeople_9 (by decide) (fun h9 => ?_) (fun h9 => ?_)
    · skip
      have hj : j = n := by have := px_ge h9 (by omega) (by omega); omega
      subst hj
      refine V0_iload_n (pc := 45) dX12_gladPeople_45 rfl ?_
      refine V_reti (pc := 46) _ dX12_gladPeople_46 rfl ?_
      exact hQ
    · skip
      have hj := px_lt h9 (by omega) (by omega)
      refine V0_aload_n (pc := 12) dX12_gladPeople_12 rfl ?_
      refine V0_iload_n (pc := 13) dX12_gladPeople_13 rfl ?_
      refine V_callVi (pc := 14) (M' := mX12_runs) dX12_gladPeople_14 mlX12_276 okX12_runs rfl (c_X12_runs (by omega)) rfl rfl rfl rfl ⟨Nat.le_of_ble_eq_true rfl, Nat.le_of_ble_eq_true rfl⟩ ⟨Nat.le_refl 0, Nat.le_refl 0⟩ (Nat.le_of_ble_eq_true rfl) ?_
      refine V_ifeqb (pc := 17) 39 dX12_gladPeople_17 (by decide) (fun h17 => ?_) (fun h17 => ?_)
      · skip
        refine V0_iinc_2 (pc := 39) (nI (j + 1)) dX12_gladPeople_39 (by decide) rfl (nI_1 _) ?_
        refine V0_goto (pc := 42) 4 dX12_gladPeople_42 (by decide) ?_
        first | exact V_ls (by rw [m_gp_s hk.2.1 (ho j (by omega)) (hk.2.2.2.2.2.1 j hj) h17 h25]) (ih (j + 1) (by omega) (by omega)) | exact V_ls (by rw [m_gp_n hk.2.1 (ho j (by omega)) (Or.inl h17)]) (ih (j + 1) (by omega) (by omega)) | exact V_ls (by rw [m_gp_n hk.2.1 (ho j (by omega)) (Or.inr h25)]) (ih (j + 1) (by omega) (by omega))
      · skip
        refine V0_aload_n (pc := 20) dX12_gladPeople_20 rfl ?_
        refine V0_iload_n (pc := 21) dX12_gladPeople_21 rfl ?_
        refine V_callVi (pc := 22) (M' := mX12_onGladSide) dX12_gladPeople_22 mlX12_273 okX12_onGladSide rfl (c_X12_onGladSide ho (by omega)) rfl rfl rfl rfl ⟨Nat.le_of_ble_eq_true rfl, Nat.le_of_ble_eq_true rfl⟩ ⟨Nat.le_refl 0, Nat.le_refl 0⟩ (Nat.le_of_ble_eq_true rfl) ?_
        refine V_ifeqb (pc := 25) 39 dX12_gladPeople_25 (by decide) (fun h25 => ?_) (fun h25 => ?_)
        · skip
          refine V0_iinc_2 (pc := 39) (nI (j + 1)) dX12_gladPeople_39 (by decide) rfl (nI_1 _) ?_
          refine V0_goto (pc := 42) 4 dX12_gladPeople_42 (by decide) ?_
          first | exact V_ls (by rw [m_gp_s hk.2.1 (ho j (by omega)) (hk.2.2.2.2.2.1 j hj) h17 h25]) (ih (j + 1) (by omega) (by omega)) | exact V_ls (by rw [m_gp_n hk.2.1 (ho j (by omega)) (Or.inl h17)]) (ih (j + 1) (by omega) (by omega)) | exact V_ls (by rw [m_gp_n hk.2.1 (ho j (by omega)) (Or.inr h25)]) (ih (j + 1) (by omega) (by omega))
        · skip
          refine V0_iload_n (pc := 28) dX12_gladPeople_28 rfl ?_
          refine V0_iconst (pc := 29) (1) dX12_gladPeople_29 (by decide) ?_
          refine V0_aload_n (pc := 30) dX12_gladPeople_30 rfl ?_
          refine V_getr (pc := 31) dX12_gladPeople_31 flX12_13 rfl rfl ?_
          refine V0_iload_n (pc := 34) dX12_gladPeople_34 rfl ?_
          refine V_iald (pc := 35) (j) dX12_gladPeople_35 rfl rfl (by omega) ?_
          refine V0_ishl (pc := 36) dX12_gladPeople_36 ?_
          refine V0_ior (pc := 37) dX12_gladPeople_37 ?_
          refine V0_istore_1 (pc := 38) dX12_gladPeople_38 (by decide) rfl ?_
          refine V0_iinc_2 (pc := 39) (nI (j + 1)) dX12_gladPeople_39 (by decide) rfl (nI_1 _) ?_
          refine V0_goto (pc := 42) 4 dX12_gladPeople_42 (by decide) ?_
          first | exact V_ls (by rw [m_gp_s hk.2.1 (ho j (by omega)) (hk.2.2.2.2.2.1 j hj) h17 h25]) (ih (j + 1) (by omega) (by omega)) | exact V_ls (by rw [m_gp_n hk.2.1 (ho j (by omega)) (Or.inl h17)]) (ih (j + 1) (by omega) (by omega)) | exact V_ls (by rw [m_gp_n hk.2.1 (ho j (by omega)) (Or.inr h25)]) (ih (j + 1) (by omega) (by omega))
theorem s_bits_no {f : Nat → Bool} : ∀ m, (∀ p, p < m → f p = false) → s_bits f m = 0 := by
  intro m
  induction m with
  | zero => intro _; rfl
  | succ m ih => intro h; rw [s_bits, if_neg (by rw [h m (by omega)]; decide)]; exact ih (fun p hp => h p (by omega))
theorem m_gp_0 {I : px_I} {m : Nat} : s_bits (m_gp I 0) m = 0 := s_bits_no m (fun p _ => by unfold m_gp s_any; exact Bool.and_false _)
theorem c_X12_gladPeople {l : Launch} {I : px_I} {J : px_J} {m n : Nat} (hk : m_ok I m n) : CtI l mX12_gladPeople 2 [.ref 54] I J (s_bits (m_gp I n) m) := by
  refine Ct.of plX12_gladPeople (Nat.le_of_ble_eq_true rfl) [.ref 54, .null, .null] rfl ?_
  refine V0_iconst (pc := 0) (0) dX12_gladPeople_0 (by decide) ?_
  refine V0_istore_1 (pc := 1) dX12_gladPeople_1 (by decide) rfl ?_
  refine V0_iconst (pc := 2) (0) dX12_gladPeople_2 (by decide) ?_
  refine V0_istore_2 (pc := 3) dX12_gladPeople_3 (by decide) rfl ?_
  have h := lp_X12_gladPeople (l := l) (J := J) (Q := px_qi (s_bits (m_gp I n) m) I J) hk ⟨rfl, rfl, rfl⟩ (n + 1) 0 (by omega) (by omega)
  rw [m_gp_0] at h
  exact h
theorem lp_X12_worthsOf {l : Launch} {I : px_I} {J : px_J} {n : Nat} {b : Int32} {Q : px_Q} (hn : I 54 3 = nI n) (hn10 : n ≤ 10) (hQ : Q (some (.int (s_sum (fun j => m_has b (nI j)) (I 60) n))) I J) : ∀ (k j : Nat), n + 1 - j ≤ k → j ≤ n → V0 l (px_rm 1 0 0) mX12_worthsOf (false, []) 0 0 4 [.ref 54, .int b, .int (s_sum (fun j => m_has b (nI j)) (I 60) j), .int (nI j)] [] (px_mk I J) (px_q Q) := by
  intro k
  induction k with
  | zero => intro j h1 h2; omega
  | succ k ih =>
    intro j h1 h2
    refine V0_iload_n (pc := 4) dX12_worthsOf_4 rfl ?_
    refine V0_aload_n (pc := 5) dX12_worthsOf_5 rfl ?_
    refine V_geti (pc := 6) dX12_worthsOf_6 flX12_135 rfl rfl ?_
    rw [hn]
    refine V1_icmp_ge (pc := 9) 35 dX12_worthsOf_9 (by decide) (fun h9 => ?_) (fun h9 => ?_)
    · skip
      have hj : j = n := by have := px_ge h9 (by omega) (by omega); omega
      subst hj
      refine V0_iload_n (pc := 35) dX12_worthsOf_35 rfl ?_
      refine V_reti (pc := 36) _ dX12_worthsOf_36 rfl ?_
      exact hQ
    · skip
      have hj := px_lt h9 (by omega) (by omega)
      refine V0_iload_n (pc := 12) dX12_worthsOf_12 rfl ?_
      refine V0_iload_n (pc := 13) dX12_worthsOf_13 rfl ?_
      refine V_callSi (pc := 14) (M' := mX12_has) dX12_worthsOf_14 mlX12_292 okX12_has rfl c_X12_has rfl rfl ⟨Nat.le_of_ble_eq_true rfl, Nat.le_of_ble_eq_true rfl⟩ ⟨Nat.le_refl 0, Nat.le_refl 0⟩ (Nat.le_of_ble_eq_true rfl) ?_
      refine V_ifeqb (pc := 17) 29 dX12_worthsOf_17 (by decide) (fun h17 => ?_) (fun h17 => ?_)
      · skip
        refine V0_iinc_3 (pc := 29) (nI (j + 1)) dX12_worthsOf_29 (by decide) rfl (nI_1 _) ?_
        refine V0_goto (pc := 32) 4 dX12_worthsOf_32 (by decide) ?_
        exact V_ls (by simp [s_sum, h17]) (ih (j + 1) (by omega) (by omega))
      · skip
        refine V0_iload_n (pc := 20) dX12_worthsOf_20 rfl ?_
        refine V0_aload_n (pc := 21) dX12_worthsOf_21 rfl ?_
        refine V_getr (pc := 22) dX12_worthsOf_22 flX12_25 rfl rfl ?_
        refine V0_iload_n (pc := 25) dX12_worthsOf_25 rfl ?_
        refine V_iald (pc := 26) (j) dX12_worthsOf_26 rfl rfl (by omega) ?_
        refine V0_iadd (pc := 27) dX12_worthsOf_27 ?_
        refine V0_istore_2 (pc := 28) dX12_worthsOf_28 (by decide) rfl ?_
        refine V0_iinc_3 (pc := 29) (nI (j + 1)) dX12_worthsOf_29 (by decide) rfl (nI_1 _) ?_
        refine V0_goto (pc := 32) 4 dX12_worthsOf_32 (by decide) ?_
        exact V_ls (by simp [s_sum, h17]) (ih (j + 1) (by omega) (by omega))
theorem c_X12_worthsOf {l : Launch} {I : px_I} {J : px_J} {n : Nat} {b : Int32} (hn : I 54 3 = nI n) (hn10 : n ≤ 10) : CtI l mX12_worthsOf 1 [.ref 54, .int b] I J (s_sum (fun j => m_has b (nI j)) (I 60) n) := by
  refine Ct.of plX12_worthsOf (Nat.le_of_ble_eq_true rfl) [.ref 54, .int b, .null, .null] rfl ?_
  refine V0_iconst (pc := 0) (0) dX12_worthsOf_0 (by decide) ?_
  refine V0_istore_2 (pc := 1) dX12_worthsOf_1 (by decide) rfl ?_
  refine V0_iconst (pc := 2) (0) dX12_worthsOf_2 (by decide) ?_
  refine V0_istore_3 (pc := 3) dX12_worthsOf_3 (by decide) rfl ?_
  exact lp_X12_worthsOf hn hn10 ⟨rfl, rfl, rfl⟩ (n + 1) 0 (by omega) (by omega)
/-! what thought leaves -/
def m_sd (m n : Nat) (I X : px_I) : Prop := (∀ q, q ≠ 54 → q ≠ 77 → q ≠ 78 → q ≠ 79 → X q = I q) ∧ (∀ k, k < 36 ∨ 39 < k → X 54 k = I 54 k) ∧ (∀ k, m ≤ k → X 77 k = I 77 k) ∧ (∀ k, n ≤ k → X 78 k = I 78 k) ∧ ∀ k, n ≤ k → X 79 k = I 79 k
theorem m_sd_refl {m n : Nat} {I : px_I} : m_sd m n I I := ⟨fun _ _ _ _ _ => rfl, fun _ _ => rfl, fun _ _ => rfl, fun _ _ => rfl, fun _ _ => rfl⟩
theorem m_sd.tr {m n : Nat} {I X Y : px_I} (h : m_sd m n I X) (k : m_sd m n X Y) : m_sd m n I Y := ⟨fun q a b c d => (k.1 q a b c d).trans (h.1 q a b c d), fun i a => (k.2.1 i a).trans (h.2.1 i a), fun i a => (k.2.2.1 i a).trans (h.2.2.1 i a), fun i a => (k.2.2.2.1 i a).trans (h.2.2.2.1 i a), fun i a => (k.2.2.2.2 i a).trans (h.2.2.2.2 i a)⟩
theorem m_sd_lay {m n : Nat} {I : px_I} : m_sd m n I (m_lay I m n) := by
  refine ⟨fun q a b c d => ?_, fun k a => ?_, fun k a => ?_, fun k a => ?_, fun k a => ?_⟩
  · unfold m_lay m_cp; rw [px_up_row a, px_up_row a, px_up_row a, px_up_row a, px_cp_row d, px_cp_row c, px_cp_row b]
  · unfold m_lay m_cp; rw [px_up_ne (by omega), px_up_ne (by omega), px_up_ne (by omega), px_up_ne (by omega), px_cp_row (by omega), px_cp_row (by omega), px_cp_row (by omega)]
  · unfold m_lay m_cp; rw [px_up_row (by omega), px_up_row (by omega), px_up_row (by omega), px_up_row (by omega), px_cp_row (by omega), px_cp_row (by omega), px_cp_at, if_neg (by omega)]
  · unfold m_lay m_cp; rw [px_up_row (by omega), px_up_row (by omega), px_up_row (by omega), px_up_row (by omega), px_cp_row (by omega), px_cp_at, if_neg (by omega), px_cp_row (by omega)]
  · unfold m_lay m_cp; rw [px_up_row (by omega), px_up_row (by omega), px_up_row (by omega), px_up_row (by omega), px_cp_at, if_neg (by omega), px_cp_row (by omega), px_cp_row (by omega)]
theorem m_sd_up77 {m n p : Nat} {I : px_I} {x : Int32} (hp : p < m) : m_sd m n I (px_up I 77 p x) := ⟨fun q a b c d => px_up_row b, fun k a => congrFun (px_up_row (by omega)) k, fun k a => px_up_ne (by omega), fun k a => congrFun (px_up_row (by omega)) k, fun k a => congrFun (px_up_row (by omega)) k⟩
theorem m_sd_up78 {m n p : Nat} {I : px_I} {x : Int32} (hp : p < n) : m_sd m n I (px_up I 78 p x) := ⟨fun q a b c d => px_up_row c, fun k a => congrFun (px_up_row (by omega)) k, fun k a => congrFun (px_up_row (by omega)) k, fun k a => px_up_ne (by omega), fun k a => congrFun (px_up_row (by omega)) k⟩
theorem m_sd_up79 {m n p : Nat} {I : px_I} {x : Int32} (hp : p < n) : m_sd m n I (px_up I 79 p x) := ⟨fun q a b c d => px_up_row d, fun k a => congrFun (px_up_row (by omega)) k, fun k a => congrFun (px_up_row (by omega)) k, fun k a => congrFun (px_up_row (by omega)) k, fun k a => px_up_ne (by omega)⟩
theorem m_sd_up54 {m n p : Nat} {I : px_I} {x : Int32} (hp : 36 ≤ p ∧ p ≤ 39) : m_sd m n I (px_up I 54 p x) := ⟨fun q a b c d => px_up_row a, fun k a => px_up_ne (by omega), fun k a => congrFun (px_up_row (by omega)) k, fun k a => congrFun (px_up_row (by omega)) k, fun k a => congrFun (px_up_row (by omega)) k⟩
theorem m_sd_goJoy {m n j : Nat} {I : px_I} (hj : j < n) : m_sd m n I (m_goJoy I j) := by
  unfold m_goJoy
  repeat' split
  all_goals first | exact m_sd_refl | exact m_sd_up78 hj | exact m_sd_up79 hj
theorem m_sd_joys {m n : Nat} {I : px_I} : ∀ k, k ≤ n → m_sd m n I (m_joys I k) := by
  intro k
  induction k with
  | zero => intro _; exact m_sd_refl
  | succ k ih => intro h; exact (ih (by omega)).tr (m_sd_goJoy (by omega))
theorem m_sd_day {m n : Nat} {I : px_I} : m_sd m n I (m_day I m n) := by
  have h1 : m_sd m n I (m_st I m) := by
    unfold m_st
    split
    · unfold m_vote
      split
      · exact (m_sd_up54 (by omega)).tr (m_sd_up54 (by omega))
      · exact ((m_sd_up54 (by omega)).tr (m_sd_up54 (by omega))).tr (m_sd_up54 (by omega))
    · exact m_sd_refl
  have h2 := h1.tr (m_sd_joys (m := m) (n := n) (I := m_st I m) n (Nat.le_refl n))
  unfold m_day m_later
  split
  · exact h2.tr (m_sd_up54 (by omega))
  · exact h2
theorem m_sd_days {m n : Nat} {I : px_I} : ∀ k, m_sd m n I (m_days m n I k) := by
  intro k
  induction k with
  | zero => exact m_sd_refl
  | succ k ih => exact ih.tr m_sd_day
theorem m_sd.ok {m n : Nat} {I X : px_I} (h : m_sd m n I X) (hk : m_ok I m n) : m_ok X m n := hk.of (h.2.1 _ (by omega)) (h.2.1 _ (by omega)) (h.1 _ (by omega) (by omega) (by omega) (by omega)) (h.1 _ (by omega) (by omega) (by omega) (by omega))
/-- laid anew, all is as laid before -/
theorem m_sd.lay {m n : Nat} {I X : px_I} (h : m_sd m n I X) : m_lay X m n = m_lay I m n := by
  have r55 := h.1 55 (by omega) (by omega) (by omega) (by omega)
  have r62 := h.1 62 (by omega) (by omega) (by omega) (by omega)
  have r63 := h.1 63 (by omega) (by omega) (by omega) (by omega)
  have r64 := h.1 64 (by omega) (by omega) (by omega) (by omega)
  funext q k
  unfold m_lay m_cp
  simp only [px_up_at, px_cp_at, r64]
  by_cases h4 : q = 54
  · subst h4
    by_cases c9 : k = 39
    · simp [c9]
    by_cases c8 : k = 38
    · simp [c8]
    by_cases c7 : k = 37
    · simp [c7]
    by_cases c6 : k = 36
    · simp [c6]
    simp [c9, c8, c7, c6]
    exact h.2.1 k (by omega)
  by_cases h9 : q = 79
  · subst h9
    by_cases c : k < n
    · simp [c, r63]
    · simp [c]; exact h.2.2.2.2 k (by omega)
  by_cases h8 : q = 78
  · subst h8
    by_cases c : k < n
    · simp [c, r62]
    · simp [c]; exact h.2.2.2.1 k (by omega)
  by_cases h7 : q = 77
  · subst h7
    by_cases c : k < m
    · simp [c, r55]
    · simp [c]; exact h.2.2.1 k (by omega)
  simp [h4, h9, h8, h7]
  exact congrFun (h.1 q h4 h7 h8 h9) k

