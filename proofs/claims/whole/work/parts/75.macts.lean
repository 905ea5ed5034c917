/-! the Model: acts -/
def m_note (I : px_I) (r : Nat) (b : Int32) : px_I := px_up (if r < 24 then px_up I 87 r b else I) 54 53 (nI (r + 1))
def m_notes (I : px_I) (r : Nat) : List Int32 → px_I
  | [] => I
  | b :: L => m_notes (m_note I r b) (r + 1) L
theorem m_note_53 {I : px_I} {r : Nat} {b : Int32} : m_note I r b 54 53 = nI (r + 1) := px_up_same
theorem m_note_row {I : px_I} {r q : Nat} {b : Int32} (h : q ≠ 54) (h2 : q ≠ 87) : m_note I r b q = I q := by
  unfold m_note
  rw [px_up_row h]
  split
  · exact px_up_row h2
  · rfl
theorem m_notes_row {q : Nat} (h : q ≠ 54) (h2 : q ≠ 87) : ∀ (L : List Int32) (I : px_I) (r : Nat), m_notes I r L q = I q := by
  intro L
  induction L with
  | nil => intro I r; rfl
  | cons b L ih => intro I r; rw [m_notes, ih, m_note_row h h2]
theorem m_notes_53 : ∀ (L : List Int32) (I : px_I) (r : Nat), I 54 53 = nI r → m_notes I r L 54 53 = nI (r + L.length) := by
  intro L
  induction L with
  | nil => intro I r h; exact h
  | cons b L ih => intro I r _; rw [m_notes, ih _ _ m_note_53, List.length_cons]; congr 1; omega
theorem m_notes_app : ∀ (L K : List Int32) (I : px_I) (r : Nat), m_notes I r (L ++ K) = m_notes (m_notes I r L) (r + L.length) K := by
  intro L
  induction L with
  | nil => intro K I r; rfl
  | cons b L ih => intro K I r; rw [List.cons_append, m_notes, ih, m_notes, List.length_cons]; congr 1; omega
theorem c_X12_ran {l : Launch} {I : px_I} {J : px_J} {r : Nat} {b : Int32} (hr : I 54 53 = nI r) (hb : r < 1000) : Ct l mX12_ran 0 [.ref 54, .int b] I J (px_qs (m_note I r b) J) := by
  by_cases q : r < 24
  · have hlt : nI r < (24 : Int32) := (qI_lt (a := r) (b := 24) (by omega) (by omega)).mpr q
    refine Ct.of plX12_ran (Nat.le_of_ble_eq_true rfl) [.ref 54, .int b] rfl ?_
    refine V0_aload_n (pc := 0) dX12_ran_0 rfl ?_
    refine V_geti (pc := 1) dX12_ran_1 flX12_386 rfl rfl ?_
    refine V0_bipush (pc := 4) (24) dX12_ran_4 (by decide) ?_
    rw [hr]
    refine V1_icmp_ge (pc := 6) 19 dX12_ran_6 (by decide) (fun h6 => ?_) (fun h6 => ?_)
    · skip
      exact absurd hlt h6
    · skip
      refine V0_aload_n (pc := 9) dX12_ran_9 rfl ?_
      refine V_getr (pc := 10) dX12_ran_10 flX12_108 rfl rfl ?_
      refine V0_aload_n (pc := 13) dX12_ran_13 rfl ?_
      refine V_geti (pc := 14) dX12_ran_14 flX12_386 rfl rfl ?_
      refine V0_iload_n (pc := 17) dX12_ran_17 rfl ?_
      refine V_iast (pc := 18) r dX12_ran_18 rfl hr q ?_
      refine V0_aload_n (pc := 19) dX12_ran_19 rfl ?_
      refine V0_dup (pc := 20) dX12_ran_20 rfl ?_
      refine V_geti (pc := 21) dX12_ran_21 flX12_386 rfl rfl ?_
      refine V0_iconst (pc := 24) (1) dX12_ran_24 (by decide) ?_
      refine V0_iadd (pc := 25) dX12_ran_25 ?_
      rw [show px_up I 87 r b 54 53 = nI r from hr, nI_1]
      refine V_puti (pc := 26) dX12_ran_26 flX12_386 rfl rfl ?_
      refine V_retv (pc := 29) dX12_ran_29 rfl ?_
      exact ⟨rfl, by rw [m_note, if_pos q], rfl⟩
  · have hlt : ¬ nI r < (24 : Int32) := fun z => q (px_ltc 24 rfl z (by omega) (by omega))
    refine Ct.of plX12_ran (Nat.le_of_ble_eq_true rfl) [.ref 54, .int b] rfl ?_
    refine V0_aload_n (pc := 0) dX12_ran_0 rfl ?_
    refine V_geti (pc := 1) dX12_ran_1 flX12_386 rfl rfl ?_
    refine V0_bipush (pc := 4) (24) dX12_ran_4 (by decide) ?_
    rw [hr]
    refine V1_icmp_ge (pc := 6) 19 dX12_ran_6 (by decide) (fun h6 => ?_) (fun h6 => ?_)
    · skip
      refine V0_aload_n (pc := 19) dX12_ran_19 rfl ?_
      refine V0_dup (pc := 20) dX12_ran_20 rfl ?_
      refine V_geti (pc := 21) dX12_ran_21 flX12_386 rfl rfl ?_
      refine V0_iconst (pc := 24) (1) dX12_ran_24 (by decide) ?_
      refine V0_iadd (pc := 25) dX12_ran_25 ?_
      rw [hr, nI_1]
      refine V_puti (pc := 26) dX12_ran_26 flX12_386 rfl rfl ?_
      refine V_retv (pc := 29) dX12_ran_29 rfl ?_
      exact ⟨rfl, by rw [m_note, if_neg q], rfl⟩
    · skip
      exact absurd h6 hlt
def m_und (k u : Int32) : Bool := decide (u = 0) || decide (k = u) || (decide (u = 1) && decide (k = 4)) || (decide (u = 2) && (decide (k = 3) || decide (k = 5))) || (decide (u = 3) && decide (k = 5)) || (decide (u = 6) && decide (k = 7))
theorem c_X12_isUnder {l : Launch} {I : px_I} {J : px_J} {k u : Int32} : CtI l mX12_isUnder 0 [.int k, .int u] I J (b2 (m_und k u)) := by
  refine Ct.of plX12_isUnder (Nat.le_of_ble_eq_true rfl) [.int k, .int u] rfl ?_
  refine V0_iload_n (pc := 0) dX12_isUnder_0 rfl ?_
  refine V0_if_eq (pc := 1) 56 dX12_isUnder_1 (by decide) (fun h1 => ?_) (fun h1 => ?_)
  · skip
    refine V0_iconst (pc := 56) (1) dX12_isUnder_56 (by decide) ?_
    refine V0_goto (pc := 57) 61 dX12_isUnder_57 (by decide) ?_
    refine V_retz (pc := 61) _ dX12_isUnder_61 rfl (Or.inr rfl) ?_
    refine px_li ?_
    simp [m_und, b2, *] <;> simp_all
  · skip
    refine V0_iload_n (pc := 4) dX12_isUnder_4 rfl ?_
    refine V0_iload_n (pc := 5) dX12_isUnder_5 rfl ?_
    refine V0_icmp_eq (pc := 6) 56 dX12_isUnder_6 (by decide) (fun h6 => ?_) (fun h6 => ?_)
    · skip
      refine V0_iconst (pc := 56) (1) dX12_isUnder_56 (by decide) ?_
      refine V0_goto (pc := 57) 61 dX12_isUnder_57 (by decide) ?_
      refine V_retz (pc := 61) _ dX12_isUnder_61 rfl (Or.inr rfl) ?_
      refine px_li ?_
      simp [m_und, b2, *] <;> simp_all
    · skip
      refine V0_iload_n (pc := 9) dX12_isUnder_9 rfl ?_
      refine V0_iconst (pc := 10) (1) dX12_isUnder_10 (by decide) ?_
      refine V0_icmp_ne (pc := 11) 19 dX12_isUnder_11 (by decide) (fun h11 => ?_) (fun h11 => ?_)
      · skip
        refine V0_iload_n (pc := 19) dX12_isUnder_19 rfl ?_
        refine V0_iconst (pc := 20) (2) dX12_isUnder_20 (by decide) ?_
        refine V0_icmp_ne (pc := 21) 34 dX12_isUnder_21 (by decide) (fun h21 => ?_) (fun h21 => ?_)
        · skip
          refine V0_iload_n (pc := 34) dX12_isUnder_34 rfl ?_
          refine V0_iconst (pc := 35) (3) dX12_isUnder_35 (by decide) ?_
          refine V0_icmp_ne (pc := 36) 44 dX12_isUnder_36 (by decide) (fun h36 => ?_) (fun h36 => ?_)
          · skip
            refine V0_iload_n (pc := 44) dX12_isUnder_44 rfl ?_
            refine V0_bipush (pc := 45) (6) dX12_isUnder_45 (by decide) ?_
            refine V0_icmp_ne (pc := 47) 60 dX12_isUnder_47 (by decide) (fun h47 => ?_) (fun h47 => ?_)
            · skip
              refine V0_iconst (pc := 60) (0) dX12_isUnder_60 (by decide) ?_
              refine V_retz (pc := 61) _ dX12_isUnder_61 rfl (Or.inl rfl) ?_
              refine px_li ?_
              simp [m_und, b2, *] <;> simp_all
            · skip
              refine V0_iload_n (pc := 50) dX12_isUnder_50 rfl ?_
              refine V0_bipush (pc := 51) (7) dX12_isUnder_51 (by decide) ?_
              refine V0_icmp_ne (pc := 53) 60 dX12_isUnder_53 (by decide) (fun h53 => ?_) (fun h53 => ?_)
              · skip
                refine V0_iconst (pc := 60) (0) dX12_isUnder_60 (by decide) ?_
                refine V_retz (pc := 61) _ dX12_isUnder_61 rfl (Or.inl rfl) ?_
                refine px_li ?_
                simp [m_und, b2, *] <;> simp_all
              · skip
                refine V0_iconst (pc := 56) (1) dX12_isUnder_56 (by decide) ?_
                refine V0_goto (pc := 57) 61 dX12_isUnder_57 (by decide) ?_
                refine V_retz (pc := 61) _ dX12_isUnder_61 rfl (Or.inr rfl) ?_
                refine px_li ?_
                simp [m_und, b2, *] <;> simp_all
          · skip
            refine V0_iload_n (pc := 39) dX12_isUnder_39 rfl ?_
            refine V0_iconst (pc := 40) (5) dX12_isUnder_40 (by decide) ?_
            refine V0_icmp_eq (pc := 41) 56 dX12_isUnder_41 (by decide) (fun h41 => ?_) (fun h41 => ?_)
            · skip
              refine V0_iconst (pc := 56) (1) dX12_isUnder_56 (by decide) ?_
              refine V0_goto (pc := 57) 61 dX12_isUnder_57 (by decide) ?_
              refine V_retz (pc := 61) _ dX12_isUnder_61 rfl (Or.inr rfl) ?_
              refine px_li ?_
              simp [m_und, b2, *] <;> simp_all
            · skip
              refine V0_iload_n (pc := 44) dX12_isUnder_44 rfl ?_
              refine V0_bipush (pc := 45) (6) dX12_isUnder_45 (by decide) ?_
              refine V0_icmp_ne (pc := 47) 60 dX12_isUnder_47 (by decide) (fun h47 => ?_) (fun h47 => ?_)
              · skip
                refine V0_iconst (pc := 60) (0) dX12_isUnder_60 (by decide) ?_
                refine V_retz (pc := 61) _ dX12_isUnder_61 rfl (Or.inl rfl) ?_
                refine px_li ?_
                simp [m_und, b2, *] <;> simp_all
              · skip
                refine V0_iload_n (pc := 50) dX12_isUnder_50 rfl ?_
                refine V0_bipush (pc := 51) (7) dX12_isUnder_51 (by decide) ?_
                refine V0_icmp_ne (pc := 53) 60 dX12_isUnder_53 (by decide) (fun h53 => ?_) (fun h53 => ?_)
                · skip
                  refine V0_iconst (pc := 60) (0) dX12_isUnder_60 (by decide) ?_
                  refine V_retz (pc := 61) _ dX12_isUnder_61 rfl (Or.inl rfl) ?_
                  refine px_li ?_
                  simp [m_und, b2, *] <;> simp_all
                · skip
                  refine V0_iconst (pc := 56) (1) dX12_isUnder_56 (by decide) ?_
                  refine V0_goto (pc := 57) 61 dX12_isUnder_57 (by decide) ?_
                  refine V_retz (pc := 61) _ dX12_isUnder_61 rfl (Or.inr rfl) ?_
                  refine px_li ?_
                  simp [m_und, b2, *] <;> simp_all
        · skip
          refine V0_iload_n (pc := 24) dX12_isUnder_24 rfl ?_
          refine V0_iconst (pc := 25) (3) dX12_isUnder_25 (by decide) ?_
          refine V0_icmp_eq (pc := 26) 56 dX12_isUnder_26 (by decide) (fun h26 => ?_) (fun h26 => ?_)
          · skip
            refine V0_iconst (pc := 56) (1) dX12_isUnder_56 (by decide) ?_
            refine V0_goto (pc := 57) 61 dX12_isUnder_57 (by decide) ?_
            refine V_retz (pc := 61) _ dX12_isUnder_61 rfl (Or.inr rfl) ?_
            refine px_li ?_
            simp [m_und, b2, *] <;> simp_all
          · skip
            refine V0_iload_n (pc := 29) dX12_isUnder_29 rfl ?_
            refine V0_iconst (pc := 30) (5) dX12_isUnder_30 (by decide) ?_
            refine V0_icmp_eq (pc := 31) 56 dX12_isUnder_31 (by decide) (fun h31 => ?_) (fun h31 => ?_)
            · skip
              refine V0_iconst (pc := 56) (1) dX12_isUnder_56 (by decide) ?_
              refine V0_goto (pc := 57) 61 dX12_isUnder_57 (by decide) ?_
              refine V_retz (pc := 61) _ dX12_isUnder_61 rfl (Or.inr rfl) ?_
              refine px_li ?_
              simp [m_und, b2, *] <;> simp_all
            · skip
              refine V0_iload_n (pc := 34) dX12_isUnder_34 rfl ?_
              refine V0_iconst (pc := 35) (3) dX12_isUnder_35 (by decide) ?_
              refine V0_icmp_ne (pc := 36) 44 dX12_isUnder_36 (by decide) (fun h36 => ?_) (fun h36 => ?_)
              · skip
                refine V0_iload_n (pc := 44) dX12_isUnder_44 rfl ?_
                refine V0_bipush (pc := 45) (6) dX12_isUnder_45 (by decide) ?_
                refine V0_icmp_ne (pc := 47) 60 dX12_isUnder_47 (by decide) (fun h47 => ?_) (fun h47 => ?_)
                · skip
                  refine V0_iconst (pc := 60) (0) dX12_isUnder_60 (by decide) ?_
                  refine V_retz (pc := 61) _ dX12_isUnder_61 rfl (Or.inl rfl) ?_
                  refine px_li ?_
                  simp [m_und, b2, *] <;> simp_all
                · skip
                  refine V0_iload_n (pc := 50) dX12_isUnder_50 rfl ?_
                  refine V0_bipush (pc := 51) (7) dX12_isUnder_51 (by decide) ?_
                  refine V0_icmp_ne (pc := 53) 60 dX12_isUnder_53 (by decide) (fun h53 => ?_) (fun h53 => ?_)
                  · skip
                    refine V0_iconst (pc := 60) (0) dX12_isUnder_60 (by decide) ?_
                    refine V_retz (pc := 61) _ dX12_isUnder_61 rfl (Or.inl rfl) ?_
                    refine px_li ?_
                    simp [m_und, b2, *] <;> simp_all
                  · skip
                    refine V0_iconst (pc := 56) (1) dX12_isUnder_56 (by decide) ?_
                    refine V0_goto (pc := 57) 61 dX12_isUnder_57 (by decide) ?_
                    refine V_retz (pc := 61) _ dX12_isUnder_61 rfl (Or.inr rfl) ?_
                    refine px_li ?_
                    simp [m_und, b2, *] <;> simp_all
              · skip
                refine V0_iload_n (pc := 39) dX12_isUnder_39 rfl ?_
                refine V0_iconst (pc := 40) (5) dX12_isUnder_40 (by decide) ?_
                refine V0_icmp_eq (pc := 41) 56 dX12_isUnder_41 (by decide) (fun h41 => ?_) (fun h41 => ?_)
                · skip
                  refine V0_iconst (pc := 56) (1) dX12_isUnder_56 (by decide) ?_
                  refine V0_goto (pc := 57) 61 dX12_isUnder_57 (by decide) ?_
                  refine V_retz (pc := 61) _ dX12_isUnder_61 rfl (Or.inr rfl) ?_
                  refine px_li ?_
                  simp [m_und, b2, *] <;> simp_all
                · skip
                  refine V0_iload_n (pc := 44) dX12_isUnder_44 rfl ?_
                  refine V0_bipush (pc := 45) (6) dX12_isUnder_45 (by decide) ?_
                  refine V0_icmp_ne (pc := 47) 60 dX12_isUnder_47 (by decide) (fun h47 => ?_) (fun h47 => ?_)
                  · skip
                    refine V0_iconst (pc := 60) (0) dX12_isUnder_60 (by decide) ?_
                    refine V_retz (pc := 61) _ dX12_isUnder_61 rfl (Or.inl rfl) ?_
                    refine px_li ?_
                    simp [m_und, b2, *] <;> simp_all
                  · skip
                    refine V0_iload_n (pc := 50) dX12_isUnder_50 rfl ?_
                    refine V0_bipush (pc := 51) (7) dX12_isUnder_51 (by decide) ?_
                    refine V0_icmp_ne (pc := 53) 60 dX12_isUnder_53 (by decide) (fun h53 => ?_) (fun h53 => ?_)
                    · skip
                      refine V0_iconst (pc := 60) (0) dX12_isUnder_60 (by decide) ?_
                      refine V_retz (pc := 61) _ dX12_isUnder_61 rfl (Or.inl rfl) ?_
                      refine px_li ?_
                      simp [m_und, b2, *] <;> simp_all
                    · skip
                      refine V0_iconst (pc := 56) (1) dX12_isUnder_56 (by decide) ?_
                      refine V0_goto (pc := 57) 61 dX12_isUnder_57 (by decide) ?_
                      refine V_retz (pc := 61) _ dX12_isUnder_61 rfl (Or.inr rfl) ?_
                      refine px_li ?_
                      simp [m_und, b2, *] <;> simp_all
      · skip
        refine V0_iload_n (pc := 14) dX12_isUnder_14 rfl ?_
        refine V0_iconst (pc := 15) (4) dX12_isUnder_15 (by decide) ?_
        refine V0_icmp_eq (pc := 16) 56 dX12_isUnder_16 (by decide) (fun h16 => ?_) (fun h16 => ?_)
        · skip
          refine V0_iconst (pc := 56) (1) dX12_isUnder_56 (by decide) ?_
          refine V0_goto (pc := 57) 61 dX12_isUnder_57 (by decide) ?_
          refine V_retz (pc := 61) _ dX12_isUnder_61 rfl (Or.inr rfl) ?_
          refine px_li ?_
          simp [m_und, b2, *] <;> simp_all
        · skip
          refine V0_iload_n (pc := 19) dX12_isUnder_19 rfl ?_
          refine V0_iconst (pc := 20) (2) dX12_isUnder_20 (by decide) ?_
          refine V0_icmp_ne (pc := 21) 34 dX12_isUnder_21 (by decide) (fun h21 => ?_) (fun h21 => ?_)
          · skip
            refine V0_iload_n (pc := 34) dX12_isUnder_34 rfl ?_
            refine V0_iconst (pc := 35) (3) dX12_isUnder_35 (by decide) ?_
            refine V0_icmp_ne (pc := 36) 44 dX12_isUnder_36 (by decide) (fun h36 => ?_) (fun h36 => ?_)
            · skip
              refine V0_iload_n (pc := 44) dX12_isUnder_44 rfl ?_
              refine V0_bipush (pc := 45) (6) dX12_isUnder_45 (by decide) ?_
              refine V0_icmp_ne (pc := 47) 60 dX12_isUnder_47 (by decide) (fun h47 => ?_) (fun h47 => ?_)
              · skip
                refine V0_iconst (pc := 60) (0) dX12_isUnder_60 (by decide) ?_
                refine V_retz (pc := 61) _ dX12_isUnder_61 rfl (Or.inl rfl) ?_
                refine px_li ?_
                simp [m_und, b2, *] <;> simp_all
              · skip
                refine V0_iload_n (pc := 50) dX12_isUnder_50 rfl ?_
                refine V0_bipush (pc := 51) (7) dX12_isUnder_51 (by decide) ?_
                refine V0_icmp_ne (pc := 53) 60 dX12_isUnder_53 (by decide) (fun h53 => ?_) (fun h53 => ?_)
                · skip
                  refine V0_iconst (pc := 60) (0) dX12_isUnder_60 (by decide) ?_
                  refine V_retz (pc := 61) _ dX12_isUnder_61 rfl (Or.inl rfl) ?_
                  refine px_li ?_
                  simp [m_und, b2, *] <;> simp_all
                · skip
                  refine V0_iconst (pc := 56) (1) dX12_isUnder_56 (by decide) ?_
                  refine V0_goto (pc := 57) 61 dX12_isUnder_57 (by decide) ?_
                  refine V_retz (pc := 61) _ dX12_isUnder_61 rfl (Or.inr rfl) ?_
                  refine px_li ?_
                  simp [m_und, b2, *] <;> simp_all
            · skip
              refine V0_iload_n (pc := 39) dX12_isUnder_39 rfl ?_
              refine V0_iconst (pc := 40) (5) dX12_isUnder_40 (by decide) ?_
              refine V0_icmp_eq (pc := 41) 56 dX12_isUnder_41 (by decide) (fun h41 => ?_) (fun h41 => ?_)
              · skip
                refine V0_iconst (pc := 56) (1) dX12_isUnder_56 (by decide) ?_
                refine V0_goto (pc := 57) 61 dX12_isUnder_57 (by decide) ?_
                refine V_retz (pc := 61) _ dX12_isUnder_61 rfl (Or.inr rfl) ?_
                refine px_li ?_
                simp [m_und, b2, *] <;> simp_all
              · skip
                refine V0_iload_n (pc := 44) dX12_isUnder_44 rfl ?_
                refine V0_bipush (pc := 45) (6) dX12_isUnder_45 (by decide) ?_
                refine V0_icmp_ne (pc := 47) 60 dX12_isUnder_47 (by decide) (fun h47 => ?_) (fun h47 => ?_)
                · skip
                  refine V0_iconst (pc := 60) (0) dX12_isUnder_60 (by decide) ?_
                  refine V_retz (pc := 61) _ dX12_isUnder_61 rfl (Or.inl rfl) ?_
                  refine px_li ?_
                  simp [m_und, b2, *] <;> simp_all
                · skip
                  refine V0_iload_n (pc := 50) dX12_isUnder_50 rfl ?_
                  refine V0_bipush (pc := 51) (7) dX12_isUnder_51 (by decide) ?_
                  refine V0_icmp_ne (pc := 53) 60 dX12_isUnder_53 (by decide) (fun h53 => ?_) (fun h53 => ?_)
                  · skip
                    refine V0_iconst (pc := 60) (0) dX12_isUnder_60 (by decide) ?_
                    refine V_retz (pc := 61) _ dX12_isUnder_61 rfl (Or.inl rfl) ?_
                    refine px_li ?_
                    simp [m_und, b2, *] <;> simp_all
                  · skip
                    refine V0_iconst (pc := 56) (1) dX12_isUnder_56 (by decide) ?_
                    refine V0_goto (pc := 57) 61 dX12_isUnder_57 (by decide) ?_
                    refine V_retz (pc := 61) _ dX12_isUnder_61 rfl (Or.inr rfl) ?_
                    refine px_li ?_
                    simp [m_und, b2, *] <;> simp_all
          · skip
            refine V0_iload_n (pc := 24) dX12_isUnder_24 rfl ?_
            refine V0_iconst (pc := 25) (3) dX12_isUnder_25 (by decide) ?_
            refine V0_icmp_eq (pc := 26) 56 dX12_isUnder_26 (by decide) (fun h26 => ?_) (fun h26 => ?_)
            · skip
              refine V0_iconst (pc := 56) (1) dX12_isUnder_56 (by decide) ?_
              refine V0_goto (pc := 57) 61 dX12_isUnder_57 (by decide) ?_
              refine V_retz (pc := 61) _ dX12_isUnder_61 rfl (Or.inr rfl) ?_
              refine px_li ?_
              simp [m_und, b2, *] <;> simp_all
            · skip
              refine V0_iload_n (pc := 29) dX12_isUnder_29 rfl ?_
              refine V0_iconst (pc := 30) (5) dX12_isUnder_30 (by decide) ?_
              refine V0_icmp_eq (pc := 31) 56 dX12_isUnder_31 (by decide) (fun h31 => ?_) (fun h31 => ?_)
              · skip
                refine V0_iconst (pc := 56) (1) dX12_isUnder_56 (by decide) ?_
                refine V0_goto (pc := 57) 61 dX12_isUnder_57 (by decide) ?_
                refine V_retz (pc := 61) _ dX12_isUnder_61 rfl (Or.inr rfl) ?_
                refine px_li ?_
                simp [m_und, b2, *] <;> simp_all
              · skip
                refine V0_iload_n (pc := 34) dX12_isUnder_34 rfl ?_
                refine V0_iconst (pc := 35) (3) dX12_isUnder_35 (by decide) ?_
                refine V0_icmp_ne (pc := 36) 44 dX12_isUnder_36 (by decide) (fun h36 => ?_) (fun h36 => ?_)
                · skip
                  refine V0_iload_n (pc := 44) dX12_isUnder_44 rfl ?_
                  refine V0_bipush (pc := 45) (6) dX12_isUnder_45 (by decide) ?_
                  refine V0_icmp_ne (pc := 47) 60 dX12_isUnder_47 (by decide) (fun h47 => ?_) (fun h47 => ?_)
                  · skip
                    refine V0_iconst (pc := 60) (0) dX12_isUnder_60 (by decide) ?_
                    refine V_retz (pc := 61) _ dX12_isUnder_61 rfl (Or.inl rfl) ?_
                    refine px_li ?_
                    simp [m_und, b2, *] <;> simp_all
                  · skip
                    refine V0_iload_n (pc := 50) dX12_isUnder_50 rfl ?_
                    refine V0_bipush (pc := 51) (7) dX12_isUnder_51 (by decide) ?_
                    refine V0_icmp_ne (pc := 53) 60 dX12_isUnder_53 (by decide) (fun h53 => ?_) (fun h53 => ?_)
                    · skip
                      refine V0_iconst (pc := 60) (0) dX12_isUnder_60 (by decide) ?_
                      refine V_retz (pc := 61) _ dX12_isUnder_61 rfl (Or.inl rfl) ?_
                      refine px_li ?_
                      simp [m_und, b2, *] <;> simp_all
                    · skip
                      refine V0_iconst (pc := 56) (1) dX12_isUnder_56 (by decide) ?_
                      refine V0_goto (pc := 57) 61 dX12_isUnder_57 (by decide) ?_
                      refine V_retz (pc := 61) _ dX12_isUnder_61 rfl (Or.inr rfl) ?_
                      refine px_li ?_
                      simp [m_und, b2, *] <;> simp_all
                · skip
                  refine V0_iload_n (pc := 39) dX12_isUnder_39 rfl ?_
                  refine V0_iconst (pc := 40) (5) dX12_isUnder_40 (by decide) ?_
                  refine V0_icmp_eq (pc := 41) 56 dX12_isUnder_41 (by decide) (fun h41 => ?_) (fun h41 => ?_)
                  · skip
                    refine V0_iconst (pc := 56) (1) dX12_isUnder_56 (by decide) ?_
                    refine V0_goto (pc := 57) 61 dX12_isUnder_57 (by decide) ?_
                    refine V_retz (pc := 61) _ dX12_isUnder_61 rfl (Or.inr rfl) ?_
                    refine px_li ?_
                    simp [m_und, b2, *] <;> simp_all
                  · skip
                    refine V0_iload_n (pc := 44) dX12_isUnder_44 rfl ?_
                    refine V0_bipush (pc := 45) (6) dX12_isUnder_45 (by decide) ?_
                    refine V0_icmp_ne (pc := 47) 60 dX12_isUnder_47 (by decide) (fun h47 => ?_) (fun h47 => ?_)
                    · skip
                      refine V0_iconst (pc := 60) (0) dX12_isUnder_60 (by decide) ?_
                      refine V_retz (pc := 61) _ dX12_isUnder_61 rfl (Or.inl rfl) ?_
                      refine px_li ?_
                      simp [m_und, b2, *] <;> simp_all
                    · skip
                      refine V0_iload_n (pc := 50) dX12_isUnder_50 rfl ?_
                      refine V0_bipush (pc := 51) (7) dX12_isUnder_51 (by decide) ?_
                      refine V0_icmp_ne (pc := 53) 60 dX12_isUnder_53 (by decide) (fun h53 => ?_) (fun h53 => ?_)
                      · skip
                        refine V0_iconst (pc := 60) (0) dX12_isUnder_60 (by decide) ?_
                        refine V_retz (pc := 61) _ dX12_isUnder_61 rfl (Or.inl rfl) ?_
                        refine px_li ?_
                        simp [m_und, b2, *] <;> simp_all
                      · skip
                        refine V0_iconst (pc := 56) (1) dX12_isUnder_56 (by decide) ?_
                        refine V0_goto (pc := 57) 61 dX12_isUnder_57 (by decide) ?_
                        refine V_retz (pc := 61) _ dX12_isUnder_61 rfl (Or.inr rfl) ?_
                        refine px_li ?_
                        simp [m_und, b2, *] <;> simp_all
def m_op (k b x : Int32) : Int32 := if m_und k 1 = true then x + b + 3 else if k = 7 then (x + b) * 2 - 1 else if k = 6 then (x + b) * 2 else x + b
def m_ot (k : Int32) : List Int32 := if m_und k 1 = true then [20, 1] else if k = 7 then [81, 70, 1] else if k = 6 then [70, 1] else [1]
def m_vv (k b x : Int32) : Int32 := if k = 5 then (x ^^^ b) * 3 - m_op k b 2 else if k = 3 then (x ^^^ b) * 3 else x ^^^ b
def m_vt (k : Int32) : List Int32 := if k = 5 then 60 :: 40 :: 11 :: m_ot k else if k = 3 then [40, 11] else [11]
def m_sv (k b x : Int32) : Int32 := if m_und k 3 = true then -(m_op k b (x + 1) * 2) else if k = 7 then m_op k b x * 2 + m_vv k b 2 else if k = 2 then -(m_op k b x * 2) else m_op k b x * 2
def m_st2 (k : Int32) : List Int32 := if m_und k 3 = true then 41 :: 30 :: 10 :: m_ot k else if k = 7 then 80 :: 10 :: (m_ot k ++ m_vt k) else if k = 2 then 30 :: 10 :: m_ot k else 10 :: m_ot k
def m_pv (k b x : Int32) : Int32 := m_sv k b x - m_vv k b 1
def m_pt (k : Int32) : List Int32 := 2 :: (m_st2 k ++ m_vt k)
def m_tv (k b x : Int32) : Int32 := if k = 4 then m_pv k b x ^^^ 5 else if k = 5 then m_pv k b x + 1 else m_pv k b x
def m_tt (k : Int32) : List Int32 := if k = 4 then 50 :: m_pt k else if k = 5 then 61 :: m_pt k else m_pt k
theorem m_ot_len (k : Int32) : (m_ot k).length ≤ 3 := by
  unfold m_ot
  by_cases h1 : m_und k 1 = true
  · rw [if_pos h1]; exact Nat.le_of_ble_eq_true rfl
  by_cases h2 : k = 7
  · rw [if_neg h1, if_pos h2]; exact Nat.le_of_ble_eq_true rfl
  by_cases h3 : k = 6
  · rw [if_neg h1, if_neg h2, if_pos h3]; exact Nat.le_of_ble_eq_true rfl
  · rw [if_neg h1, if_neg h2, if_neg h3]; exact Nat.le_of_ble_eq_true rfl
theorem m_vt_len (k : Int32) : (m_vt k).length ≤ 6 := by
  have := m_ot_len k
  unfold m_vt; repeat' split
  all_goals (simp only [List.length_cons, List.length_nil]; omega)
theorem m_st2_len (k : Int32) : (m_st2 k).length ≤ 11 := by
  have := m_ot_len k
  have := m_vt_len k
  unfold m_st2; repeat' split
  all_goals (simp only [List.length_cons, List.length_append]; omega)
theorem s_und_len (k : Int32) : (m_pt k).length ≤ 18 := by
  have := m_st2_len k
  have := m_vt_len k
  unfold m_pt
  simp only [List.length_cons, List.length_append]; omega

theorem c_X12_plainOpens {l : Launch} {I : px_I} {J : px_J} {r bi : Nat} {x : Int32} (hr : I 54 53 = nI r) (hb : r < 900) (hi : bi < 50) : Ct l mX12_plainOpens 1 [.ref 54, .int (nI bi), .int x] I J (px_qi (x + nI bi) (m_notes I r ([1])) J) := by
  have h1 := c_X12_ran (l := l) (J := J) (b := 1) hr (by omega)
  refine Ct.of plX12_plainOpens (Nat.le_of_ble_eq_true rfl) [.ref 54, .int (nI bi), .int x] rfl ?_
  refine V0_aload_n (pc := 0) dX12_plainOpens_0 rfl ?_
  refine V0_iconst (pc := 1) (1) dX12_plainOpens_1 (by decide) ?_
  refine V_callV (pc := 2) (M' := mX12_ran) dX12_plainOpens_2 mlX12_389 okX12_ran rfl h1 rfl rfl rfl rfl ⟨Nat.le_of_ble_eq_true rfl, Nat.le_of_ble_eq_true rfl⟩ ⟨Nat.le_refl 0, Nat.le_refl 0⟩ (Nat.le_of_ble_eq_true rfl) ?_
  intro r1 I1 J1 hh
  obtain ⟨e1, e2, e3⟩ := hh
  rw [e1, e2, e3]
  clear e1 e2 e3 r1 I1 J1
  refine V0_iload_n (pc := 5) dX12_plainOpens_5 rfl ?_
  refine V0_iload_n (pc := 6) dX12_plainOpens_6 rfl ?_
  refine V0_iadd (pc := 7) dX12_plainOpens_7 ?_
  refine V_reti (pc := 8) _ dX12_plainOpens_8 rfl ?_
  exact ⟨rfl, rfl, rfl⟩
theorem c_X12_springOpens {l : Launch} {I : px_I} {J : px_J} {r bi : Nat} {x : Int32} (hr : I 54 53 = nI r) (hb : r < 890) (hi : bi < 50) : Ct l mX12_springOpens 2 [.ref 54, .int (nI bi), .int x] I J (px_qi ((x + nI bi) * 2) (m_notes I r ([70, 1])) J) := by
  have h1 := c_X12_ran (l := l) (J := J) (b := 70) hr (by omega)
  have h2 := c_X12_plainOpens (l := l) (I := (m_note I r 70)) (J := J) (r := r + 1) (bi := bi) (x := x) m_note_53 (by omega) hi
  refine Ct.of plX12_springOpens (Nat.le_of_ble_eq_true rfl) [.ref 54, .int (nI bi), .int x] rfl ?_
  refine V0_aload_n (pc := 0) dX12_springOpens_0 rfl ?_
  refine V0_bipush (pc := 1) (70) dX12_springOpens_1 (by decide) ?_
  refine V_callV (pc := 3) (M' := mX12_ran) dX12_springOpens_3 mlX12_389 okX12_ran rfl h1 rfl rfl rfl rfl ⟨Nat.le_of_ble_eq_true rfl, Nat.le_of_ble_eq_true rfl⟩ ⟨Nat.le_refl 0, Nat.le_refl 0⟩ (Nat.le_of_ble_eq_true rfl) ?_
  intro r1 I1 J1 hh
  obtain ⟨e1, e2, e3⟩ := hh
  rw [e1, e2, e3]
  clear e1 e2 e3 r1 I1 J1
  refine V0_aload_n (pc := 6) dX12_springOpens_6 rfl ?_
  refine V0_iload_n (pc := 7) dX12_springOpens_7 rfl ?_
  refine V0_iload_n (pc := 8) dX12_springOpens_8 rfl ?_
  refine V_callV (pc := 9) (M' := mX12_plainOpens) dX12_springOpens_9 mlX12_392 okX12_plainOpens rfl h2 rfl rfl rfl rfl ⟨Nat.le_of_ble_eq_true rfl, Nat.le_of_ble_eq_true rfl⟩ ⟨Nat.le_refl 0, Nat.le_refl 0⟩ (Nat.le_of_ble_eq_true rfl) ?_
  intro r1 I1 J1 hh
  obtain ⟨e1, e2, e3⟩ := hh
  rw [e1, e2, e3]
  clear e1 e2 e3 r1 I1 J1
  refine V0_iconst (pc := 12) (2) dX12_springOpens_12 (by decide) ?_
  refine V0_imul (pc := 13) dX12_springOpens_13 ?_
  refine V_reti (pc := 14) _ dX12_springOpens_14 rfl ?_
  exact ⟨rfl, rfl, rfl⟩
theorem c_X12_opening {l : Launch} {I : px_I} {J : px_J} {r bi : Nat} {x : Int32} (hr : I 54 53 = nI r) (hb : r < 880) (hi : bi < 50) : Ct l mX12_opening 3 [.ref 54, .int (nI bi), .int x] I J (px_qi (m_op (I 86 bi) (nI bi) x) (m_notes I r (m_ot (I 86 bi))) J) := by
  have r20 := c_X12_ran (l := l) (J := J) (b := 20) hr (by omega)
  have r81 := c_X12_ran (l := l) (J := J) (b := 81) hr (by omega)
  have p20 := c_X12_plainOpens (l := l) (I := (m_note I r 20)) (J := J) (r := r + 1) (bi := bi) (x := x) m_note_53 (by omega) hi
  have s81 := c_X12_springOpens (l := l) (I := (m_note I r 81)) (J := J) (r := r + 1) (bi := bi) (x := x) m_note_53 (by omega) hi
  have s0 := c_X12_springOpens (l := l) (I := I) (J := J) (r := r) (bi := bi) (x := x) hr (by omega) hi
  have p0 := c_X12_plainOpens (l := l) (I := I) (J := J) (r := r) (bi := bi) (x := x) hr (by omega) hi
  refine Ct.of plX12_opening (Nat.le_of_ble_eq_true rfl) [.ref 54, .int (nI bi), .int x] rfl ?_
  refine V0_aload_n (pc := 0) dX12_opening_0 rfl ?_
  refine V_getr (pc := 1) dX12_opening_1 flX12_105 rfl rfl ?_
  refine V0_iload_n (pc := 4) dX12_opening_4 rfl ?_
  refine V_iald (pc := 5) bi dX12_opening_5 rfl rfl (by omega) ?_
  refine V0_iconst (pc := 6) (1) dX12_opening_6 (by decide) ?_
  refine V_callSi (pc := 7) (M' := mX12_isUnder) dX12_opening_7 mlX12_395 okX12_isUnder rfl c_X12_isUnder rfl rfl ⟨Nat.le_of_ble_eq_true rfl, Nat.le_of_ble_eq_true rfl⟩ ⟨Nat.le_refl 0, Nat.le_refl 0⟩ (Nat.le_of_ble_eq_true rfl) ?_
  refine V_ifeqb (pc := 10) 28 dX12_opening_10 (by decide) (fun h10 => ?_) (fun h10 => ?_)
  · skip
    refine V0_aload_n (pc := 28) dX12_opening_28 rfl ?_
    refine V_getr (pc := 29) dX12_opening_29 flX12_105 rfl rfl ?_
    refine V0_iload_n (pc := 32) dX12_opening_32 rfl ?_
    refine V_iald (pc := 33) bi dX12_opening_33 rfl rfl (by omega) ?_
    refine V0_bipush (pc := 34) (7) dX12_opening_34 (by decide) ?_
    refine V0_icmp_ne (pc := 36) 54 dX12_opening_36 (by decide) (fun h36 => ?_) (fun h36 => ?_)
    · skip
      refine V0_aload_n (pc := 54) dX12_opening_54 rfl ?_
      refine V_getr (pc := 55) dX12_opening_55 flX12_105 rfl rfl ?_
      refine V0_iload_n (pc := 58) dX12_opening_58 rfl ?_
      refine V_iald (pc := 59) bi dX12_opening_59 rfl rfl (by omega) ?_
      refine V0_bipush (pc := 60) (6) dX12_opening_60 (by decide) ?_
      refine V0_icmp_ne (pc := 62) 74 dX12_opening_62 (by decide) (fun h62 => ?_) (fun h62 => ?_)
      · skip
        refine V0_aload_n (pc := 74) dX12_opening_74 rfl ?_
        refine V0_iload_n (pc := 75) dX12_opening_75 rfl ?_
        refine V0_iload_n (pc := 76) dX12_opening_76 rfl ?_
        refine V_callV (pc := 77) (M' := mX12_plainOpens) dX12_opening_77 mlX12_392 okX12_plainOpens rfl p0 rfl rfl rfl rfl ⟨Nat.le_of_ble_eq_true rfl, Nat.le_of_ble_eq_true rfl⟩ ⟨Nat.le_refl 0, Nat.le_refl 0⟩ (Nat.le_of_ble_eq_true rfl) ?_
        intro r1 I1 J1 hh
        obtain ⟨e1, e2, e3⟩ := hh
        rw [e1, e2, e3]
        clear e1 e2 e3 r1 I1 J1
        refine V_reti (pc := 80) _ dX12_opening_80 rfl ?_
        first | (have e1 : I 86 bi = 6 := h62; exact ⟨by rw [m_op, if_neg (b_nt h10), if_neg h36, if_pos h62], by rw [m_ot, if_neg (b_nt h10), if_neg h36, if_pos h62], rfl⟩) | exact ⟨by rw [m_op, if_neg (b_nt h10), if_neg h36, if_neg h62], by rw [m_ot, if_neg (b_nt h10), if_neg h36, if_neg h62], rfl⟩
      · skip
        refine V0_aload_n (pc := 65) dX12_opening_65 rfl ?_
        refine V0_iload_n (pc := 66) dX12_opening_66 rfl ?_
        refine V0_iload_n (pc := 67) dX12_opening_67 rfl ?_
        refine V_callV (pc := 68) (M' := mX12_springOpens) dX12_opening_68 mlX12_398 okX12_springOpens rfl s0 rfl rfl rfl rfl ⟨Nat.le_of_ble_eq_true rfl, Nat.le_of_ble_eq_true rfl⟩ ⟨Nat.le_refl 0, Nat.le_refl 0⟩ (Nat.le_of_ble_eq_true rfl) ?_
        intro r1 I1 J1 hh
        obtain ⟨e1, e2, e3⟩ := hh
        rw [e1, e2, e3]
        clear e1 e2 e3 r1 I1 J1
        refine V0_goto (pc := 71) 80 dX12_opening_71 (by decide) ?_
        refine V_reti (pc := 80) _ dX12_opening_80 rfl ?_
        first | (have e1 : I 86 bi = 6 := h62; exact ⟨by rw [m_op, if_neg (b_nt h10), if_neg h36, if_pos h62], by rw [m_ot, if_neg (b_nt h10), if_neg h36, if_pos h62], rfl⟩) | exact ⟨by rw [m_op, if_neg (b_nt h10), if_neg h36, if_neg h62], by rw [m_ot, if_neg (b_nt h10), if_neg h36, if_neg h62], rfl⟩
    · skip
      refine V0_aload_n (pc := 39) dX12_opening_39 rfl ?_
      refine V0_bipush (pc := 40) (81) dX12_opening_40 (by decide) ?_
      refine V_callV (pc := 42) (M' := mX12_ran) dX12_opening_42 mlX12_389 okX12_ran rfl r81 rfl rfl rfl rfl ⟨Nat.le_of_ble_eq_true rfl, Nat.le_of_ble_eq_true rfl⟩ ⟨Nat.le_refl 0, Nat.le_refl 0⟩ (Nat.le_of_ble_eq_true rfl) ?_
      intro r1 I1 J1 hh
      obtain ⟨e1, e2, e3⟩ := hh
      rw [e1, e2, e3]
      clear e1 e2 e3 r1 I1 J1
      refine V0_aload_n (pc := 45) dX12_opening_45 rfl ?_
      refine V0_iload_n (pc := 46) dX12_opening_46 rfl ?_
      refine V0_iload_n (pc := 47) dX12_opening_47 rfl ?_
      refine V_callV (pc := 48) (M' := mX12_springOpens) dX12_opening_48 mlX12_398 okX12_springOpens rfl s81 rfl rfl rfl rfl ⟨Nat.le_of_ble_eq_true rfl, Nat.le_of_ble_eq_true rfl⟩ ⟨Nat.le_refl 0, Nat.le_refl 0⟩ (Nat.le_of_ble_eq_true rfl) ?_
      intro r1 I1 J1 hh
      obtain ⟨e1, e2, e3⟩ := hh
      rw [e1, e2, e3]
      clear e1 e2 e3 r1 I1 J1
      refine V0_iconst (pc := 51) (1) dX12_opening_51 (by decide) ?_
      refine V0_isub (pc := 52) dX12_opening_52 ?_
      refine V_reti (pc := 53) _ dX12_opening_53 rfl ?_
      exact ⟨by rw [m_op, if_neg (b_nt h10), if_pos h36], by rw [m_ot, if_neg (b_nt h10), if_pos h36]; rfl, rfl⟩
  · skip
    refine V0_aload_n (pc := 13) dX12_opening_13 rfl ?_
    refine V0_bipush (pc := 14) (20) dX12_opening_14 (by decide) ?_
    refine V_callV (pc := 16) (M' := mX12_ran) dX12_opening_16 mlX12_389 okX12_ran rfl r20 rfl rfl rfl rfl ⟨Nat.le_of_ble_eq_true rfl, Nat.le_of_ble_eq_true rfl⟩ ⟨Nat.le_refl 0, Nat.le_refl 0⟩ (Nat.le_of_ble_eq_true rfl) ?_
    intro r1 I1 J1 hh
    obtain ⟨e1, e2, e3⟩ := hh
    rw [e1, e2, e3]
    clear e1 e2 e3 r1 I1 J1
    refine V0_aload_n (pc := 19) dX12_opening_19 rfl ?_
    refine V0_iload_n (pc := 20) dX12_opening_20 rfl ?_
    refine V0_iload_n (pc := 21) dX12_opening_21 rfl ?_
    refine V_callV (pc := 22) (M' := mX12_plainOpens) dX12_opening_22 mlX12_392 okX12_plainOpens rfl p20 rfl rfl rfl rfl ⟨Nat.le_of_ble_eq_true rfl, Nat.le_of_ble_eq_true rfl⟩ ⟨Nat.le_refl 0, Nat.le_refl 0⟩ (Nat.le_of_ble_eq_true rfl) ?_
    intro r1 I1 J1 hh
    obtain ⟨e1, e2, e3⟩ := hh
    rw [e1, e2, e3]
    clear e1 e2 e3 r1 I1 J1
    refine V0_iconst (pc := 25) (3) dX12_opening_25 (by decide) ?_
    refine V0_iadd (pc := 26) dX12_opening_26 ?_
    refine V_reti (pc := 27) _ dX12_opening_27 rfl ?_
    exact ⟨by rw [m_op, if_pos h10], by rw [m_ot, if_pos h10]; rfl, rfl⟩
theorem c_X12_plainSmells {l : Launch} {I : px_I} {J : px_J} {r bi : Nat} {x : Int32} (hr : I 54 53 = nI r) (hb : r < 870) (hi : bi < 50) : Ct l mX12_plainSmells 4 [.ref 54, .int (nI bi), .int x] I J (px_qi (m_op (I 86 bi) (nI bi) x * 2) (m_notes I r (10 :: m_ot (I 86 bi))) J) := by
  have h1 := c_X12_ran (l := l) (J := J) (b := 10) hr (by omega)
  have h2 := c_X12_opening (l := l) (I := (m_note I r 10)) (J := J) (r := r + 1) (bi := bi) (x := x) m_note_53 (by omega) hi
  rw [show ∀ b, m_note I r b 86 = I 86 from fun b => m_note_row (by omega) (by omega)] at h2
  refine Ct.of plX12_plainSmells (Nat.le_of_ble_eq_true rfl) [.ref 54, .int (nI bi), .int x] rfl ?_
  refine V0_aload_n (pc := 0) dX12_plainSmells_0 rfl ?_
  refine V0_bipush (pc := 1) (10) dX12_plainSmells_1 (by decide) ?_
  refine V_callV (pc := 3) (M' := mX12_ran) dX12_plainSmells_3 mlX12_389 okX12_ran rfl h1 rfl rfl rfl rfl ⟨Nat.le_of_ble_eq_true rfl, Nat.le_of_ble_eq_true rfl⟩ ⟨Nat.le_refl 0, Nat.le_refl 0⟩ (Nat.le_of_ble_eq_true rfl) ?_
  intro r1 I1 J1 hh
  obtain ⟨e1, e2, e3⟩ := hh
  rw [e1, e2, e3]
  clear e1 e2 e3 r1 I1 J1
  refine V0_aload_n (pc := 6) dX12_plainSmells_6 rfl ?_
  refine V0_iload_n (pc := 7) dX12_plainSmells_7 rfl ?_
  refine V0_iload_n (pc := 8) dX12_plainSmells_8 rfl ?_
  refine V_callV (pc := 9) (M' := mX12_opening) dX12_plainSmells_9 mlX12_401 okX12_opening rfl h2 rfl rfl rfl rfl ⟨Nat.le_of_ble_eq_true rfl, Nat.le_of_ble_eq_true rfl⟩ ⟨Nat.le_refl 0, Nat.le_refl 0⟩ (Nat.le_of_ble_eq_true rfl) ?_
  intro r1 I1 J1 hh
  obtain ⟨e1, e2, e3⟩ := hh
  rw [e1, e2, e3]
  clear e1 e2 e3 r1 I1 J1
  refine V0_iconst (pc := 12) (2) dX12_plainSmells_12 (by decide) ?_
  refine V0_imul (pc := 13) dX12_plainSmells_13 ?_
  refine V_reti (pc := 14) _ dX12_plainSmells_14 rfl ?_
  exact ⟨rfl, rfl, rfl⟩
theorem c_X12_weddingSmells {l : Launch} {I : px_I} {J : px_J} {r bi : Nat} {x : Int32} (hr : I 54 53 = nI r) (hb : r < 860) (hi : bi < 50) : Ct l mX12_weddingSmells 5 [.ref 54, .int (nI bi), .int x] I J (px_qi (-(m_op (I 86 bi) (nI bi) x * 2)) (m_notes I r (30 :: 10 :: m_ot (I 86 bi))) J) := by
  have h1 := c_X12_ran (l := l) (J := J) (b := 30) hr (by omega)
  have h2 := c_X12_plainSmells (l := l) (I := (m_note I r 30)) (J := J) (r := r + 1) (bi := bi) (x := x) m_note_53 (by omega) hi
  rw [show ∀ b, m_note I r b 86 = I 86 from fun b => m_note_row (by omega) (by omega)] at h2
  refine Ct.of plX12_weddingSmells (Nat.le_of_ble_eq_true rfl) [.ref 54, .int (nI bi), .int x] rfl ?_
  refine V0_aload_n (pc := 0) dX12_weddingSmells_0 rfl ?_
  refine V0_bipush (pc := 1) (30) dX12_weddingSmells_1 (by decide) ?_
  refine V_callV (pc := 3) (M' := mX12_ran) dX12_weddingSmells_3 mlX12_389 okX12_ran rfl h1 rfl rfl rfl rfl ⟨Nat.le_of_ble_eq_true rfl, Nat.le_of_ble_eq_true rfl⟩ ⟨Nat.le_refl 0, Nat.le_refl 0⟩ (Nat.le_of_ble_eq_true rfl) ?_
  intro r1 I1 J1 hh
  obtain ⟨e1, e2, e3⟩ := hh
  rw [e1, e2, e3]
  clear e1 e2 e3 r1 I1 J1
  refine V0_aload_n (pc := 6) dX12_weddingSmells_6 rfl ?_
  refine V0_iload_n (pc := 7) dX12_weddingSmells_7 rfl ?_
  refine V0_iload_n (pc := 8) dX12_weddingSmells_8 rfl ?_
  refine V_callV (pc := 9) (M' := mX12_plainSmells) dX12_weddingSmells_9 mlX12_404 okX12_plainSmells rfl h2 rfl rfl rfl rfl ⟨Nat.le_of_ble_eq_true rfl, Nat.le_of_ble_eq_true rfl⟩ ⟨Nat.le_refl 0, Nat.le_refl 0⟩ (Nat.le_of_ble_eq_true rfl) ?_
  intro r1 I1 J1 hh
  obtain ⟨e1, e2, e3⟩ := hh
  rw [e1, e2, e3]
  clear e1 e2 e3 r1 I1 J1
  refine V0_ineg (pc := 12) dX12_weddingSmells_12 ?_
  refine V_reti (pc := 13) _ dX12_weddingSmells_13 rfl ?_
  exact ⟨rfl, rfl, rfl⟩
theorem c_X12_plainVotes {l : Launch} {I : px_I} {J : px_J} {r bi : Nat} {x : Int32} (hr : I 54 53 = nI r) (hb : r < 900) (hi : bi < 50) : Ct l mX12_plainVotes 1 [.ref 54, .int (nI bi), .int x] I J (px_qi (x ^^^ nI bi) (m_notes I r ([11])) J) := by
  have h1 := c_X12_ran (l := l) (J := J) (b := 11) hr (by omega)
  refine Ct.of plX12_plainVotes (Nat.le_of_ble_eq_true rfl) [.ref 54, .int (nI bi), .int x] rfl ?_
  refine V0_aload_n (pc := 0) dX12_plainVotes_0 rfl ?_
  refine V0_bipush (pc := 1) (11) dX12_plainVotes_1 (by decide) ?_
  refine V_callV (pc := 3) (M' := mX12_ran) dX12_plainVotes_3 mlX12_389 okX12_ran rfl h1 rfl rfl rfl rfl ⟨Nat.le_of_ble_eq_true rfl, Nat.le_of_ble_eq_true rfl⟩ ⟨Nat.le_refl 0, Nat.le_refl 0⟩ (Nat.le_of_ble_eq_true rfl) ?_
  intro r1 I1 J1 hh
  obtain ⟨e1, e2, e3⟩ := hh
  rw [e1, e2, e3]
  clear e1 e2 e3 r1 I1 J1
  refine V0_iload_n (pc := 6) dX12_plainVotes_6 rfl ?_
  refine V0_iload_n (pc := 7) dX12_plainVotes_7 rfl ?_
  refine V0_ixor (pc := 8) dX12_plainVotes_8 ?_
  refine V_reti (pc := 9) _ dX12_plainVotes_9 rfl ?_
  exact ⟨rfl, rfl, rfl⟩
theorem c_X12_widowVotes {l : Launch} {I : px_I} {J : px_J} {r bi : Nat} {x : Int32} (hr : I 54 53 = nI r) (hb : r < 890) (hi : bi < 50) : Ct l mX12_widowVotes 2 [.ref 54, .int (nI bi), .int x] I J (px_qi ((x ^^^ nI bi) * 3) (m_notes I r ([40, 11])) J) := by
  have h1 := c_X12_ran (l := l) (J := J) (b := 40) hr (by omega)
  have h2 := c_X12_plainVotes (l := l) (I := (m_note I r 40)) (J := J) (r := r + 1) (bi := bi) (x := x) m_note_53 (by omega) hi
  refine Ct.of plX12_widowVotes (Nat.le_of_ble_eq_true rfl) [.ref 54, .int (nI bi), .int x] rfl ?_
  refine V0_aload_n (pc := 0) dX12_widowVotes_0 rfl ?_
  refine V0_bipush (pc := 1) (40) dX12_widowVotes_1 (by decide) ?_
  refine V_callV (pc := 3) (M' := mX12_ran) dX12_widowVotes_3 mlX12_389 okX12_ran rfl h1 rfl rfl rfl rfl ⟨Nat.le_of_ble_eq_true rfl, Nat.le_of_ble_eq_true rfl⟩ ⟨Nat.le_refl 0, Nat.le_refl 0⟩ (Nat.le_of_ble_eq_true rfl) ?_
  intro r1 I1 J1 hh
  obtain ⟨e1, e2, e3⟩ := hh
  rw [e1, e2, e3]
  clear e1 e2 e3 r1 I1 J1
  refine V0_aload_n (pc := 6) dX12_widowVotes_6 rfl ?_
  refine V0_iload_n (pc := 7) dX12_widowVotes_7 rfl ?_
  refine V0_iload_n (pc := 8) dX12_widowVotes_8 rfl ?_
  refine V_callV (pc := 9) (M' := mX12_plainVotes) dX12_widowVotes_9 mlX12_413 okX12_plainVotes rfl h2 rfl rfl rfl rfl ⟨Nat.le_of_ble_eq_true rfl, Nat.le_of_ble_eq_true rfl⟩ ⟨Nat.le_refl 0, Nat.le_refl 0⟩ (Nat.le_of_ble_eq_true rfl) ?_
  intro r1 I1 J1 hh
  obtain ⟨e1, e2, e3⟩ := hh
  rw [e1, e2, e3]
  clear e1 e2 e3 r1 I1 J1
  refine V0_iconst (pc := 12) (3) dX12_widowVotes_12 (by decide) ?_
  refine V0_imul (pc := 13) dX12_widowVotes_13 ?_
  refine V_reti (pc := 14) _ dX12_widowVotes_14 rfl ?_
  exact ⟨rfl, rfl, rfl⟩
theorem c_X12_voting {l : Launch} {I : px_I} {J : px_J} {r bi : Nat} {x : Int32} (hr : I 54 53 = nI r) (hb : r < 860) (hi : bi < 50) : Ct l mX12_voting 4 [.ref 54, .int (nI bi), .int x] I J (px_qi (m_vv (I 86 bi) (nI bi) x) (m_notes I r (m_vt (I 86 bi))) J) := by
  have r60 := c_X12_ran (l := l) (J := J) (b := 60) hr (by omega)
  have w60 := c_X12_widowVotes (l := l) (I := (m_note I r 60)) (J := J) (r := r + 1) (bi := bi) (x := x) m_note_53 (by omega) hi
  have o60 := c_X12_opening (l := l) (I := m_notes (m_note I r 60) (r + 1) [40, 11]) (J := J) (r := r + 1 + 1 + 1) (bi := bi) (x := 2) (m_notes_53 [40, 11] _ _ m_note_53) (by omega) hi
  rw [show m_notes (m_note I r 60) (r + 1) [40, 11] 86 = I 86 from (m_notes_row (by omega) (by omega) _ _ _).trans (m_note_row (by omega) (by omega))] at o60
  have w0 := c_X12_widowVotes (l := l) (I := I) (J := J) (r := r) (bi := bi) (x := x) hr (by omega) hi
  have p0 := c_X12_plainVotes (l := l) (I := I) (J := J) (r := r) (bi := bi) (x := x) hr (by omega) hi
  refine Ct.of plX12_voting (Nat.le_of_ble_eq_true rfl) [.ref 54, .int (nI bi), .int x, .null] rfl ?_
  refine V0_aload_n (pc := 0) dX12_voting_0 rfl ?_
  refine V_getr (pc := 1) dX12_voting_1 flX12_105 rfl rfl ?_
  refine V0_iload_n (pc := 4) dX12_voting_4 rfl ?_
  refine V_iald (pc := 5) bi dX12_voting_5 rfl rfl (by omega) ?_
  refine V0_iconst (pc := 6) (5) dX12_voting_6 (by decide) ?_
  refine V0_icmp_ne (pc := 7) 32 dX12_voting_7 (by decide) (fun h7 => ?_) (fun h7 => ?_)
  · skip
    refine V0_aload_n (pc := 32) dX12_voting_32 rfl ?_
    refine V_getr (pc := 33) dX12_voting_33 flX12_105 rfl rfl ?_
    refine V0_iload_n (pc := 36) dX12_voting_36 rfl ?_
    refine V_iald (pc := 37) bi dX12_voting_37 rfl rfl (by omega) ?_
    refine V0_iconst (pc := 38) (3) dX12_voting_38 (by decide) ?_
    refine V0_icmp_ne (pc := 39) 51 dX12_voting_39 (by decide) (fun h39 => ?_) (fun h39 => ?_)
    · skip
      refine V0_aload_n (pc := 51) dX12_voting_51 rfl ?_
      refine V0_iload_n (pc := 52) dX12_voting_52 rfl ?_
      refine V0_iload_n (pc := 53) dX12_voting_53 rfl ?_
      refine V_callV (pc := 54) (M' := mX12_plainVotes) dX12_voting_54 mlX12_413 okX12_plainVotes rfl p0 rfl rfl rfl rfl ⟨Nat.le_of_ble_eq_true rfl, Nat.le_of_ble_eq_true rfl⟩ ⟨Nat.le_refl 0, Nat.le_refl 0⟩ (Nat.le_of_ble_eq_true rfl) ?_
      intro r1 I1 J1 hh
      obtain ⟨e1, e2, e3⟩ := hh
      rw [e1, e2, e3]
      clear e1 e2 e3 r1 I1 J1
      refine V_reti (pc := 57) _ dX12_voting_57 rfl ?_
      first | (have e1 : I 86 bi = 3 := h39; exact ⟨by rw [m_vv, if_neg h7, if_pos h39], by rw [m_vt, if_neg h7, if_pos h39], rfl⟩) | exact ⟨by rw [m_vv, if_neg h7, if_neg h39], by rw [m_vt, if_neg h7, if_neg h39], rfl⟩
    · skip
      refine V0_aload_n (pc := 42) dX12_voting_42 rfl ?_
      refine V0_iload_n (pc := 43) dX12_voting_43 rfl ?_
      refine V0_iload_n (pc := 44) dX12_voting_44 rfl ?_
      refine V_callV (pc := 45) (M' := mX12_widowVotes) dX12_voting_45 mlX12_416 okX12_widowVotes rfl w0 rfl rfl rfl rfl ⟨Nat.le_of_ble_eq_true rfl, Nat.le_of_ble_eq_true rfl⟩ ⟨Nat.le_refl 0, Nat.le_refl 0⟩ (Nat.le_of_ble_eq_true rfl) ?_
      intro r1 I1 J1 hh
      obtain ⟨e1, e2, e3⟩ := hh
      rw [e1, e2, e3]
      clear e1 e2 e3 r1 I1 J1
      refine V0_goto (pc := 48) 57 dX12_voting_48 (by decide) ?_
      refine V_reti (pc := 57) _ dX12_voting_57 rfl ?_
      first | (have e1 : I 86 bi = 3 := h39; exact ⟨by rw [m_vv, if_neg h7, if_pos h39], by rw [m_vt, if_neg h7, if_pos h39], rfl⟩) | exact ⟨by rw [m_vv, if_neg h7, if_neg h39], by rw [m_vt, if_neg h7, if_neg h39], rfl⟩
  · skip
    refine V0_aload_n (pc := 10) dX12_voting_10 rfl ?_
    refine V0_bipush (pc := 11) (60) dX12_voting_11 (by decide) ?_
    refine V_callV (pc := 13) (M' := mX12_ran) dX12_voting_13 mlX12_389 okX12_ran rfl r60 rfl rfl rfl rfl ⟨Nat.le_of_ble_eq_true rfl, Nat.le_of_ble_eq_true rfl⟩ ⟨Nat.le_refl 0, Nat.le_refl 0⟩ (Nat.le_of_ble_eq_true rfl) ?_
    intro r1 I1 J1 hh
    obtain ⟨e1, e2, e3⟩ := hh
    rw [e1, e2, e3]
    clear e1 e2 e3 r1 I1 J1
    refine V0_aload_n (pc := 16) dX12_voting_16 rfl ?_
    refine V0_iload_n (pc := 17) dX12_voting_17 rfl ?_
    refine V0_iload_n (pc := 18) dX12_voting_18 rfl ?_
    refine V_callV (pc := 19) (M' := mX12_widowVotes) dX12_voting_19 mlX12_416 okX12_widowVotes rfl w60 rfl rfl rfl rfl ⟨Nat.le_of_ble_eq_true rfl, Nat.le_of_ble_eq_true rfl⟩ ⟨Nat.le_refl 0, Nat.le_refl 0⟩ (Nat.le_of_ble_eq_true rfl) ?_
    intro r1 I1 J1 hh
    obtain ⟨e1, e2, e3⟩ := hh
    rw [e1, e2, e3]
    clear e1 e2 e3 r1 I1 J1
    refine V0_istore_3 (pc := 22) dX12_voting_22 (by decide) rfl ?_
    refine V0_iload_n (pc := 23) dX12_voting_23 rfl ?_
    refine V0_aload_n (pc := 24) dX12_voting_24 rfl ?_
    refine V0_iload_n (pc := 25) dX12_voting_25 rfl ?_
    refine V0_iconst (pc := 26) (2) dX12_voting_26 (by decide) ?_
    refine V_callV (pc := 27) (M' := mX12_opening) dX12_voting_27 mlX12_401 okX12_opening rfl o60 rfl rfl rfl rfl ⟨Nat.le_of_ble_eq_true rfl, Nat.le_of_ble_eq_true rfl⟩ ⟨Nat.le_refl 0, Nat.le_refl 0⟩ (Nat.le_of_ble_eq_true rfl) ?_
    intro r1 I1 J1 hh
    obtain ⟨e1, e2, e3⟩ := hh
    rw [e1, e2, e3]
    clear e1 e2 e3 r1 I1 J1
    refine V0_isub (pc := 30) dX12_voting_30 ?_
    refine V_reti (pc := 31) _ dX12_voting_31 rfl ?_
    exact ⟨by rw [m_vv, if_pos h7], by rw [m_vt, if_pos h7]; rfl, rfl⟩
theorem c_X12_smelling {l : Launch} {I : px_I} {J : px_J} {r bi : Nat} {x : Int32} (hr : I 54 53 = nI r) (hb : r < 840) (hi : bi < 50) : Ct l mX12_smelling 6 [.ref 54, .int (nI bi), .int x] I J (px_qi (m_sv (I 86 bi) (nI bi) x) (m_notes I r (m_st2 (I 86 bi))) J) := by
  have r41 := c_X12_ran (l := l) (J := J) (b := 41) hr (by omega)
  have r80 := c_X12_ran (l := l) (J := J) (b := 80) hr (by omega)
  have w41 := c_X12_weddingSmells (l := l) (I := (m_note I r 41)) (J := J) (r := r + 1) (bi := bi) (x := x + 1) m_note_53 (by omega) hi
  rw [show ∀ b, m_note I r b 86 = I 86 from fun b => m_note_row (by omega) (by omega)] at w41
  have p80 := c_X12_plainSmells (l := l) (I := (m_note I r 80)) (J := J) (r := r + 1) (bi := bi) (x := x) m_note_53 (by omega) hi
  rw [show ∀ b, m_note I r b 86 = I 86 from fun b => m_note_row (by omega) (by omega)] at p80
  have hl := m_ot_len (I 86 bi)
  have v80 := c_X12_voting (l := l) (I := m_notes (m_note I r 80) (r + 1) (10 :: m_ot (I 86 bi))) (J := J) (r := r + 1 + (10 :: m_ot (I 86 bi)).length) (bi := bi) (x := 2) (m_notes_53 _ _ _ m_note_53) (by simp only [List.length_cons]; omega) hi
  rw [show m_notes (m_note I r 80) (r + 1) (10 :: m_ot (I 86 bi)) 86 = I 86 from (m_notes_row (by omega) (by omega) _ _ _).trans (m_note_row (by omega) (by omega))] at v80
  have w0 := c_X12_weddingSmells (l := l) (I := I) (J := J) (r := r) (bi := bi) (x := x) hr (by omega) hi
  have p0 := c_X12_plainSmells (l := l) (I := I) (J := J) (r := r) (bi := bi) (x := x) hr (by omega) hi
  refine Ct.of plX12_smelling (Nat.le_of_ble_eq_true rfl) [.ref 54, .int (nI bi), .int x, .null] rfl ?_
  refine V0_aload_n (pc := 0) dX12_smelling_0 rfl ?_
  refine V_getr (pc := 1) dX12_smelling_1 flX12_105 rfl rfl ?_
  refine V0_iload_n (pc := 4) dX12_smelling_4 rfl ?_
  refine V_iald (pc := 5) bi dX12_smelling_5 rfl rfl (by omega) ?_
  refine V0_iconst (pc := 6) (3) dX12_smelling_6 (by decide) ?_
  refine V_callSi (pc := 7) (M' := mX12_isUnder) dX12_smelling_7 mlX12_395 okX12_isUnder rfl c_X12_isUnder rfl rfl ⟨Nat.le_of_ble_eq_true rfl, Nat.le_of_ble_eq_true rfl⟩ ⟨Nat.le_refl 0, Nat.le_refl 0⟩ (Nat.le_of_ble_eq_true rfl) ?_
  refine V_ifeqb (pc := 10) 28 dX12_smelling_10 (by decide) (fun h10 => ?_) (fun h10 => ?_)
  · skip
    refine V0_aload_n (pc := 28) dX12_smelling_28 rfl ?_
    refine V_getr (pc := 29) dX12_smelling_29 flX12_105 rfl rfl ?_
    refine V0_iload_n (pc := 32) dX12_smelling_32 rfl ?_
    refine V_iald (pc := 33) bi dX12_smelling_33 rfl rfl (by omega) ?_
    refine V0_bipush (pc := 34) (7) dX12_smelling_34 (by decide) ?_
    refine V0_icmp_ne (pc := 36) 61 dX12_smelling_36 (by decide) (fun h36 => ?_) (fun h36 => ?_)
    · skip
      refine V0_aload_n (pc := 61) dX12_smelling_61 rfl ?_
      refine V_getr (pc := 62) dX12_smelling_62 flX12_105 rfl rfl ?_
      refine V0_iload_n (pc := 65) dX12_smelling_65 rfl ?_
      refine V_iald (pc := 66) bi dX12_smelling_66 rfl rfl (by omega) ?_
      refine V0_iconst (pc := 67) (2) dX12_smelling_67 (by decide) ?_
      refine V0_icmp_ne (pc := 68) 80 dX12_smelling_68 (by decide) (fun h68 => ?_) (fun h68 => ?_)
      · skip
        refine V0_aload_n (pc := 80) dX12_smelling_80 rfl ?_
        refine V0_iload_n (pc := 81) dX12_smelling_81 rfl ?_
        refine V0_iload_n (pc := 82) dX12_smelling_82 rfl ?_
        refine V_callV (pc := 83) (M' := mX12_plainSmells) dX12_smelling_83 mlX12_404 okX12_plainSmells rfl p0 rfl rfl rfl rfl ⟨Nat.le_of_ble_eq_true rfl, Nat.le_of_ble_eq_true rfl⟩ ⟨Nat.le_refl 0, Nat.le_refl 0⟩ (Nat.le_of_ble_eq_true rfl) ?_
        intro r1 I1 J1 hh
        obtain ⟨e1, e2, e3⟩ := hh
        rw [e1, e2, e3]
        clear e1 e2 e3 r1 I1 J1
        refine V_reti (pc := 86) _ dX12_smelling_86 rfl ?_
        first | (have e1 : I 86 bi = 2 := h68; exact ⟨by rw [m_sv, if_neg (b_nt h10), if_neg h36, if_pos h68], by rw [m_st2, if_neg (b_nt h10), if_neg h36, if_pos h68], rfl⟩) | exact ⟨by rw [m_sv, if_neg (b_nt h10), if_neg h36, if_neg h68], by rw [m_st2, if_neg (b_nt h10), if_neg h36, if_neg h68], rfl⟩
      · skip
        refine V0_aload_n (pc := 71) dX12_smelling_71 rfl ?_
        refine V0_iload_n (pc := 72) dX12_smelling_72 rfl ?_
        refine V0_iload_n (pc := 73) dX12_smelling_73 rfl ?_
        refine V_callV (pc := 74) (M' := mX12_weddingSmells) dX12_smelling_74 mlX12_407 okX12_weddingSmells rfl w0 rfl rfl rfl rfl ⟨Nat.le_of_ble_eq_true rfl, Nat.le_of_ble_eq_true rfl⟩ ⟨Nat.le_refl 0, Nat.le_refl 0⟩ (Nat.le_of_ble_eq_true rfl) ?_
        intro r1 I1 J1 hh
        obtain ⟨e1, e2, e3⟩ := hh
        rw [e1, e2, e3]
        clear e1 e2 e3 r1 I1 J1
        refine V0_goto (pc := 77) 86 dX12_smelling_77 (by decide) ?_
        refine V_reti (pc := 86) _ dX12_smelling_86 rfl ?_
        first | (have e1 : I 86 bi = 2 := h68; exact ⟨by rw [m_sv, if_neg (b_nt h10), if_neg h36, if_pos h68], by rw [m_st2, if_neg (b_nt h10), if_neg h36, if_pos h68], rfl⟩) | exact ⟨by rw [m_sv, if_neg (b_nt h10), if_neg h36, if_neg h68], by rw [m_st2, if_neg (b_nt h10), if_neg h36, if_neg h68], rfl⟩
    · skip
      refine V0_aload_n (pc := 39) dX12_smelling_39 rfl ?_
      refine V0_bipush (pc := 40) (80) dX12_smelling_40 (by decide) ?_
      refine V_callV (pc := 42) (M' := mX12_ran) dX12_smelling_42 mlX12_389 okX12_ran rfl r80 rfl rfl rfl rfl ⟨Nat.le_of_ble_eq_true rfl, Nat.le_of_ble_eq_true rfl⟩ ⟨Nat.le_refl 0, Nat.le_refl 0⟩ (Nat.le_of_ble_eq_true rfl) ?_
      intro r1 I1 J1 hh
      obtain ⟨e1, e2, e3⟩ := hh
      rw [e1, e2, e3]
      clear e1 e2 e3 r1 I1 J1
      refine V0_aload_n (pc := 45) dX12_smelling_45 rfl ?_
      refine V0_iload_n (pc := 46) dX12_smelling_46 rfl ?_
      refine V0_iload_n (pc := 47) dX12_smelling_47 rfl ?_
      refine V_callV (pc := 48) (M' := mX12_plainSmells) dX12_smelling_48 mlX12_404 okX12_plainSmells rfl p80 rfl rfl rfl rfl ⟨Nat.le_of_ble_eq_true rfl, Nat.le_of_ble_eq_true rfl⟩ ⟨Nat.le_refl 0, Nat.le_refl 0⟩ (Nat.le_of_ble_eq_true rfl) ?_
      intro r1 I1 J1 hh
      obtain ⟨e1, e2, e3⟩ := hh
      rw [e1, e2, e3]
      clear e1 e2 e3 r1 I1 J1
      refine V0_istore_3 (pc := 51) dX12_smelling_51 (by decide) rfl ?_
      refine V0_iload_n (pc := 52) dX12_smelling_52 rfl ?_
      refine V0_aload_n (pc := 53) dX12_smelling_53 rfl ?_
      refine V0_iload_n (pc := 54) dX12_smelling_54 rfl ?_
      refine V0_iconst (pc := 55) (2) dX12_smelling_55 (by decide) ?_
      refine V_callV (pc := 56) (M' := mX12_voting) dX12_smelling_56 mlX12_410 okX12_voting rfl v80 rfl rfl rfl rfl ⟨Nat.le_of_ble_eq_true rfl, Nat.le_of_ble_eq_true rfl⟩ ⟨Nat.le_refl 0, Nat.le_refl 0⟩ (Nat.le_of_ble_eq_true rfl) ?_
      intro r1 I1 J1 hh
      obtain ⟨e1, e2, e3⟩ := hh
      rw [e1, e2, e3]
      clear e1 e2 e3 r1 I1 J1
      refine V0_iadd (pc := 59) dX12_smelling_59 ?_
      refine V_reti (pc := 60) _ dX12_smelling_60 rfl ?_
      exact ⟨by rw [m_sv, if_neg (b_nt h10), if_pos h36], by rw [m_st2, if_neg (b_nt h10), if_pos h36, ← m_notes_app]; rfl, rfl⟩
  · skip
    refine V0_aload_n (pc := 13) dX12_smelling_13 rfl ?_
    refine V0_bipush (pc := 14) (41) dX12_smelling_14 (by decide) ?_
    refine V_callV (pc := 16) (M' := mX12_ran) dX12_smelling_16 mlX12_389 okX12_ran rfl r41 rfl rfl rfl rfl ⟨Nat.le_of_ble_eq_true rfl, Nat.le_of_ble_eq_true rfl⟩ ⟨Nat.le_refl 0, Nat.le_refl 0⟩ (Nat.le_of_ble_eq_true rfl) ?_
    intro r1 I1 J1 hh
    obtain ⟨e1, e2, e3⟩ := hh
    rw [e1, e2, e3]
    clear e1 e2 e3 r1 I1 J1
    refine V0_aload_n (pc := 19) dX12_smelling_19 rfl ?_
    refine V0_iload_n (pc := 20) dX12_smelling_20 rfl ?_
    refine V0_iload_n (pc := 21) dX12_smelling_21 rfl ?_
    refine V0_iconst (pc := 22) (1) dX12_smelling_22 (by decide) ?_
    refine V0_iadd (pc := 23) dX12_smelling_23 ?_
    refine V_callV (pc := 24) (M' := mX12_weddingSmells) dX12_smelling_24 mlX12_407 okX12_weddingSmells rfl w41 rfl rfl rfl rfl ⟨Nat.le_of_ble_eq_true rfl, Nat.le_of_ble_eq_true rfl⟩ ⟨Nat.le_refl 0, Nat.le_refl 0⟩ (Nat.le_of_ble_eq_true rfl) ?_
    intro r1 I1 J1 hh
    obtain ⟨e1, e2, e3⟩ := hh
    rw [e1, e2, e3]
    clear e1 e2 e3 r1 I1 J1
    refine V_reti (pc := 27) _ dX12_smelling_27 rfl ?_
    exact ⟨by rw [m_sv, if_pos h10], by rw [m_st2, if_pos h10]; rfl, rfl⟩
theorem c_X12_plainTells {l : Launch} {I : px_I} {J : px_J} {r bi : Nat} {x : Int32} (hr : I 54 53 = nI r) (hb : r < 820) (hi : bi < 50) : Ct l mX12_plainTells 7 [.ref 54, .int (nI bi), .int x] I J (px_qi (m_pv (I 86 bi) (nI bi) x) (m_notes I r (m_pt (I 86 bi))) J) := by
  have h1 := c_X12_ran (l := l) (J := J) (b := 2) hr (by omega)
  have h2 := c_X12_smelling (l := l) (I := (m_note I r 2)) (J := J) (r := r + 1) (bi := bi) (x := x) m_note_53 (by omega) hi
  rw [show ∀ b, m_note I r b 86 = I 86 from fun b => m_note_row (by omega) (by omega)] at h2
  have hl := m_st2_len (I 86 bi)
  have h3 := c_X12_voting (l := l) (I := m_notes (m_note I r 2) (r + 1) (m_st2 (I 86 bi))) (J := J) (r := r + 1 + (m_st2 (I 86 bi)).length) (bi := bi) (x := 1) (m_notes_53 _ _ _ m_note_53) (by omega) hi
  rw [show m_notes (m_note I r 2) (r + 1) (m_st2 (I 86 bi)) 86 = I 86 from (m_notes_row (by omega) (by omega) _ _ _).trans (m_note_row (by omega) (by omega))] at h3
  refine Ct.of plX12_plainTells (Nat.le_of_ble_eq_true rfl) [.ref 54, .int (nI bi), .int x, .null] rfl ?_
  refine V0_aload_n (pc := 0) dX12_plainTells_0 rfl ?_
  refine V0_iconst (pc := 1) (2) dX12_plainTells_1 (by decide) ?_
  refine V_callV (pc := 2) (M' := mX12_ran) dX12_plainTells_2 mlX12_389 okX12_ran rfl h1 rfl rfl rfl rfl ⟨Nat.le_of_ble_eq_true rfl, Nat.le_of_ble_eq_true rfl⟩ ⟨Nat.le_refl 0, Nat.le_refl 0⟩ (Nat.le_of_ble_eq_true rfl) ?_
  intro r1 I1 J1 hh
  obtain ⟨e1, e2, e3⟩ := hh
  rw [e1, e2, e3]
  clear e1 e2 e3 r1 I1 J1
  refine V0_aload_n (pc := 5) dX12_plainTells_5 rfl ?_
  refine V0_iload_n (pc := 6) dX12_plainTells_6 rfl ?_
  refine V0_iload_n (pc := 7) dX12_plainTells_7 rfl ?_
  refine V_callV (pc := 8) (M' := mX12_smelling) dX12_plainTells_8 mlX12_419 okX12_smelling rfl h2 rfl rfl rfl rfl ⟨Nat.le_of_ble_eq_true rfl, Nat.le_of_ble_eq_true rfl⟩ ⟨Nat.le_refl 0, Nat.le_refl 0⟩ (Nat.le_of_ble_eq_true rfl) ?_
  intro r1 I1 J1 hh
  obtain ⟨e1, e2, e3⟩ := hh
  rw [e1, e2, e3]
  clear e1 e2 e3 r1 I1 J1
  refine V0_istore_3 (pc := 11) dX12_plainTells_11 (by decide) rfl ?_
  refine V0_iload_n (pc := 12) dX12_plainTells_12 rfl ?_
  refine V0_aload_n (pc := 13) dX12_plainTells_13 rfl ?_
  refine V0_iload_n (pc := 14) dX12_plainTells_14 rfl ?_
  refine V0_iconst (pc := 15) (1) dX12_plainTells_15 (by decide) ?_
  refine V_callV (pc := 16) (M' := mX12_voting) dX12_plainTells_16 mlX12_410 okX12_voting rfl h3 rfl rfl rfl rfl ⟨Nat.le_of_ble_eq_true rfl, Nat.le_of_ble_eq_true rfl⟩ ⟨Nat.le_refl 0, Nat.le_refl 0⟩ (Nat.le_of_ble_eq_true rfl) ?_
  intro r1 I1 J1 hh
  obtain ⟨e1, e2, e3⟩ := hh
  rw [e1, e2, e3]
  clear e1 e2 e3 r1 I1 J1
  refine V0_isub (pc := 19) dX12_plainTells_19 ?_
  refine V_reti (pc := 20) _ dX12_plainTells_20 rfl ?_
  exact ⟨rfl, by rw [← m_notes_app]; rfl, rfl⟩
theorem c_X12_telling {l : Launch} {I : px_I} {J : px_J} {r bi : Nat} {x : Int32} (hr : I 54 53 = nI r) (hb : r < 810) (hi : bi < 50) : Ct l mX12_telling 8 [.ref 54, .int (nI bi), .int x] I J (px_qi (m_tv (I 86 bi) (nI bi) x) (m_notes I r (m_tt (I 86 bi))) J) := by
  have r50 := c_X12_ran (l := l) (J := J) (b := 50) hr (by omega)
  have r61 := c_X12_ran (l := l) (J := J) (b := 61) hr (by omega)
  have p50 := c_X12_plainTells (l := l) (I := (m_note I r 50)) (J := J) (r := r + 1) (bi := bi) (x := x) m_note_53 (by omega) hi
  rw [show ∀ b, m_note I r b 86 = I 86 from fun b => m_note_row (by omega) (by omega)] at p50
  have p61 := c_X12_plainTells (l := l) (I := (m_note I r 61)) (J := J) (r := r + 1) (bi := bi) (x := x) m_note_53 (by omega) hi
  rw [show ∀ b, m_note I r b 86 = I 86 from fun b => m_note_row (by omega) (by omega)] at p61
  have p0 := c_X12_plainTells (l := l) (I := I) (J := J) (r := r) (bi := bi) (x := x) hr (by omega) hi
  refine Ct.of plX12_telling (Nat.le_of_ble_eq_true rfl) [.ref 54, .int (nI bi), .int x] rfl ?_
  refine V0_aload_n (pc := 0) dX12_telling_0 rfl ?_
  refine V_getr (pc := 1) dX12_telling_1 flX12_105 rfl rfl ?_
  refine V0_iload_n (pc := 4) dX12_telling_4 rfl ?_
  refine V_iald (pc := 5) bi dX12_telling_5 rfl rfl (by omega) ?_
  refine V0_iconst (pc := 6) (4) dX12_telling_6 (by decide) ?_
  refine V0_icmp_ne (pc := 7) 25 dX12_telling_7 (by decide) (fun h7 => ?_) (fun h7 => ?_)
  · skip
    refine V0_aload_n (pc := 25) dX12_telling_25 rfl ?_
    refine V_getr (pc := 26) dX12_telling_26 flX12_105 rfl rfl ?_
    refine V0_iload_n (pc := 29) dX12_telling_29 rfl ?_
    refine V_iald (pc := 30) bi dX12_telling_30 rfl rfl (by omega) ?_
    refine V0_iconst (pc := 31) (5) dX12_telling_31 (by decide) ?_
    refine V0_icmp_ne (pc := 32) 50 dX12_telling_32 (by decide) (fun h32 => ?_) (fun h32 => ?_)
    · skip
      refine V0_aload_n (pc := 50) dX12_telling_50 rfl ?_
      refine V0_iload_n (pc := 51) dX12_telling_51 rfl ?_
      refine V0_iload_n (pc := 52) dX12_telling_52 rfl ?_
      refine V_callV (pc := 53) (M' := mX12_plainTells) dX12_telling_53 mlX12_422 okX12_plainTells rfl p0 rfl rfl rfl rfl ⟨Nat.le_of_ble_eq_true rfl, Nat.le_of_ble_eq_true rfl⟩ ⟨Nat.le_refl 0, Nat.le_refl 0⟩ (Nat.le_of_ble_eq_true rfl) ?_
      intro r1 I1 J1 hh
      obtain ⟨e1, e2, e3⟩ := hh
      rw [e1, e2, e3]
      clear e1 e2 e3 r1 I1 J1
      refine V_reti (pc := 56) _ dX12_telling_56 rfl ?_
      exact ⟨by rw [m_tv, if_neg h7, if_neg h32], by rw [m_tt, if_neg h7, if_neg h32], rfl⟩
    · skip
      refine V0_aload_n (pc := 35) dX12_telling_35 rfl ?_
      refine V0_bipush (pc := 36) (61) dX12_telling_36 (by decide) ?_
      refine V_callV (pc := 38) (M' := mX12_ran) dX12_telling_38 mlX12_389 okX12_ran rfl r61 rfl rfl rfl rfl ⟨Nat.le_of_ble_eq_true rfl, Nat.le_of_ble_eq_true rfl⟩ ⟨Nat.le_refl 0, Nat.le_refl 0⟩ (Nat.le_of_ble_eq_true rfl) ?_
      intro r1 I1 J1 hh
      obtain ⟨e1, e2, e3⟩ := hh
      rw [e1, e2, e3]
      clear e1 e2 e3 r1 I1 J1
      refine V0_aload_n (pc := 41) dX12_telling_41 rfl ?_
      refine V0_iload_n (pc := 42) dX12_telling_42 rfl ?_
      refine V0_iload_n (pc := 43) dX12_telling_43 rfl ?_
      refine V_callV (pc := 44) (M' := mX12_plainTells) dX12_telling_44 mlX12_422 okX12_plainTells rfl p61 rfl rfl rfl rfl ⟨Nat.le_of_ble_eq_true rfl, Nat.le_of_ble_eq_true rfl⟩ ⟨Nat.le_refl 0, Nat.le_refl 0⟩ (Nat.le_of_ble_eq_true rfl) ?_
      intro r1 I1 J1 hh
      obtain ⟨e1, e2, e3⟩ := hh
      rw [e1, e2, e3]
      clear e1 e2 e3 r1 I1 J1
      refine V0_iconst (pc := 47) (1) dX12_telling_47 (by decide) ?_
      refine V0_iadd (pc := 48) dX12_telling_48 ?_
      refine V_reti (pc := 49) _ dX12_telling_49 rfl ?_
      exact ⟨by rw [m_tv, if_neg h7, if_pos h32], by rw [m_tt, if_neg h7, if_pos h32]; rfl, rfl⟩
  · skip
    refine V0_aload_n (pc := 10) dX12_telling_10 rfl ?_
    refine V0_bipush (pc := 11) (50) dX12_telling_11 (by decide) ?_
    refine V_callV (pc := 13) (M' := mX12_ran) dX12_telling_13 mlX12_389 okX12_ran rfl r50 rfl rfl rfl rfl ⟨Nat.le_of_ble_eq_true rfl, Nat.le_of_ble_eq_true rfl⟩ ⟨Nat.le_refl 0, Nat.le_refl 0⟩ (Nat.le_of_ble_eq_true rfl) ?_
    intro r1 I1 J1 hh
    obtain ⟨e1, e2, e3⟩ := hh
    rw [e1, e2, e3]
    clear e1 e2 e3 r1 I1 J1
    refine V0_aload_n (pc := 16) dX12_telling_16 rfl ?_
    refine V0_iload_n (pc := 17) dX12_telling_17 rfl ?_
    refine V0_iload_n (pc := 18) dX12_telling_18 rfl ?_
    refine V_callV (pc := 19) (M' := mX12_plainTells) dX12_telling_19 mlX12_422 okX12_plainTells rfl p50 rfl rfl rfl rfl ⟨Nat.le_of_ble_eq_true rfl, Nat.le_of_ble_eq_true rfl⟩ ⟨Nat.le_refl 0, Nat.le_refl 0⟩ (Nat.le_of_ble_eq_true rfl) ?_
    intro r1 I1 J1 hh
    obtain ⟨e1, e2, e3⟩ := hh
    rw [e1, e2, e3]
    clear e1 e2 e3 r1 I1 J1
    refine V0_iconst (pc := 22) (5) dX12_telling_22 (by decide) ?_
    refine V0_ixor (pc := 23) dX12_telling_23 ?_
    refine V_reti (pc := 24) _ dX12_telling_24 rfl ?_
    exact ⟨by rw [m_tv, if_pos h7], by rw [m_tt, if_pos h7]; rfl, rfl⟩
def m_av (k b a x : Int32) : Int32 := if a = 0 then m_op k b x else if a = 1 then m_sv k b x else if a = 2 then m_vv k b x else m_tv k b x
def m_atr (k a : Int32) : List Int32 := if a = 0 then m_ot k else if a = 1 then m_st2 k else if a = 2 then m_vt k else m_tt k
def m_body (I : px_I) (x : Int32) : Bool := s_within x 0 (I 54 51 - 1)
theorem c_X12_act {l : Launch} {I : px_I} {J : px_J} {b a x : Int32} {nb : Nat} (hn : I 54 51 = nI nb) (hn50 : nb ≤ 50) : Ct l mX12_act 9 [.ref 54, .int b, .int a, .int x] I J (px_qi (if m_body I b = true ∧ s_within a 0 3 = true then m_av (I 86 (ix b)) b a x else 0) (if m_body I b = true ∧ s_within a 0 3 = true then m_notes (px_up I 54 53 0) 0 (m_atr (I 86 (ix b)) a) else px_up I 54 53 0) J) := by
  have hS : ∀ h : m_body I b = true, b = nI (ix b) ∧ ix b < 50 := by
    intro h
    unfold m_body at h
    rw [hn] at h
    have := w_ix (by omega) h
    exact ⟨this.1, by omega⟩
  have e51 : px_up I 54 53 0 54 51 = I 54 51 := px_up_ne (by omega)
  have e86 : px_up I 54 53 0 86 = I 86 := px_up_row (by omega)
  by_cases z : m_body I b = true ∧ s_within a 0 3 = true
  · have hb := hS z.1
    have h0 : px_up I 54 53 0 54 53 = nI 0 := by rw [px_up_same, nI_0]
    have o1 := c_X12_opening (l := l) (J := J) (x := x) h0 (by omega) hb.2
    have o2 := c_X12_smelling (l := l) (J := J) (x := x) h0 (by omega) hb.2
    have o3 := c_X12_voting (l := l) (J := J) (x := x) h0 (by omega) hb.2
    have o4 := c_X12_telling (l := l) (J := J) (x := x) h0 (by omega) hb.2
    rw [← hb.1, e86] at o1 o2 o3 o4
    refine Ct.of plX12_act (Nat.le_of_ble_eq_true rfl) [.ref 54, .int b, .int a, .int x] rfl ?_
    refine V0_aload_n (pc := 0) dX12_act_0 rfl ?_
    refine V0_iconst (pc := 1) (0) dX12_act_1 (by decide) ?_
    refine V_puti (pc := 2) dX12_act_2 flX12_386 rfl rfl ?_
    refine V0_aload_n (pc := 5) dX12_act_5 rfl ?_
    refine V0_iload_n (pc := 6) dX12_act_6 rfl ?_
    refine V_callVi (pc := 7) (M' := mX12_isBody) dX12_act_7 mlX12_425 okX12_isBody rfl c_X12_isBody rfl rfl rfl rfl ⟨Nat.le_of_ble_eq_true rfl, Nat.le_of_ble_eq_true rfl⟩ ⟨Nat.le_refl 0, Nat.le_refl 0⟩ (Nat.le_of_ble_eq_true rfl) ?_
    refine V_ifeqb (pc := 10) 22 dX12_act_10 (by decide) (fun h10 => ?_) (fun h10 => ?_)
    · skip
      exact absurd (z.1.symm.trans (show m_body I b = false from h10)) (by decide)
    · skip
      refine V0_iload_n (pc := 13) dX12_act_13 rfl ?_
      refine V0_iconst (pc := 14) (0) dX12_act_14 (by decide) ?_
      refine V0_iconst (pc := 15) (3) dX12_act_15 (by decide) ?_
      refine V_callSi (pc := 16) (M' := mX12_in) dX12_act_16 mlX12_131 okX12_in rfl c_X12_in rfl rfl ⟨Nat.le_of_ble_eq_true rfl, Nat.le_of_ble_eq_true rfl⟩ ⟨Nat.le_refl 0, Nat.le_refl 0⟩ (Nat.le_of_ble_eq_true rfl) ?_
      refine V_ifneb (pc := 19) 24 dX12_act_19 (by decide) (fun h19 => ?_) (fun h19 => ?_)
      · skip
        refine V0_iload_n (pc := 24) dX12_act_24 rfl ?_
        refine V0_if_ne (pc := 25) 37 dX12_act_25 (by decide) (fun h25 => ?_) (fun h25 => ?_)
        · skip
          refine V0_iload_n (pc := 37) dX12_act_37 rfl ?_
          refine V0_iconst (pc := 38) (1) dX12_act_38 (by decide) ?_
          refine V0_icmp_ne (pc := 39) 51 dX12_act_39 (by decide) (fun h39 => ?_) (fun h39 => ?_)
          · skip
            refine V0_iload_n (pc := 51) dX12_act_51 rfl ?_
            refine V0_iconst (pc := 52) (2) dX12_act_52 (by decide) ?_
            refine V0_icmp_ne (pc := 53) 65 dX12_act_53 (by decide) (fun h53 => ?_) (fun h53 => ?_)
            · skip
              refine V0_aload_n (pc := 65) dX12_act_65 rfl ?_
              refine V0_iload_n (pc := 66) dX12_act_66 rfl ?_
              refine V0_iload_n (pc := 67) dX12_act_67 rfl ?_
              refine V_callV (pc := 68) (M' := mX12_telling) dX12_act_68 mlX12_428 okX12_telling rfl o4 rfl rfl rfl rfl ⟨Nat.le_of_ble_eq_true rfl, Nat.le_of_ble_eq_true rfl⟩ ⟨Nat.le_refl 0, Nat.le_refl 0⟩ (Nat.le_of_ble_eq_true rfl) ?_
              intro r1 I1 J1 hh
              obtain ⟨e1, e2, e3⟩ := hh
              rw [e1, e2, e3]
              clear e1 e2 e3 r1 I1 J1
              refine V_reti (pc := 71) _ dX12_act_71 rfl ?_
              rw [if_pos z, if_pos z, m_av, m_atr]
              first | rw [if_pos h25, if_pos h25] | rw [if_neg h25, if_neg h25, if_pos h39, if_pos h39] | rw [if_neg h25, if_neg h25, if_neg h39, if_neg h39, if_pos h53, if_pos h53] | rw [if_neg h25, if_neg h25, if_neg h39, if_neg h39, if_neg h53, if_neg h53]
              exact ⟨rfl, rfl, rfl⟩
            · skip
              refine V0_aload_n (pc := 56) dX12_act_56 rfl ?_
              refine V0_iload_n (pc := 57) dX12_act_57 rfl ?_
              refine V0_iload_n (pc := 58) dX12_act_58 rfl ?_
              refine V_callV (pc := 59) (M' := mX12_voting) dX12_act_59 mlX12_410 okX12_voting rfl o3 rfl rfl rfl rfl ⟨Nat.le_of_ble_eq_true rfl, Nat.le_of_ble_eq_true rfl⟩ ⟨Nat.le_refl 0, Nat.le_refl 0⟩ (Nat.le_of_ble_eq_true rfl) ?_
              intro r1 I1 J1 hh
              obtain ⟨e1, e2, e3⟩ := hh
              rw [e1, e2, e3]
              clear e1 e2 e3 r1 I1 J1
              refine V0_goto (pc := 62) 71 dX12_act_62 (by decide) ?_
              refine V_reti (pc := 71) _ dX12_act_71 rfl ?_
              rw [if_pos z, if_pos z, m_av, m_atr]
              first | rw [if_pos h25, if_pos h25] | rw [if_neg h25, if_neg h25, if_pos h39, if_pos h39] | rw [if_neg h25, if_neg h25, if_neg h39, if_neg h39, if_pos h53, if_pos h53] | rw [if_neg h25, if_neg h25, if_neg h39, if_neg h39, if_neg h53, if_neg h53]
              exact ⟨rfl, rfl, rfl⟩
          · skip
            refine V0_aload_n (pc := 42) dX12_act_42 rfl ?_
            refine V0_iload_n (pc := 43) dX12_act_43 rfl ?_
            refine V0_iload_n (pc := 44) dX12_act_44 rfl ?_
            refine V_callV (pc := 45) (M' := mX12_smelling) dX12_act_45 mlX12_419 okX12_smelling rfl o2 rfl rfl rfl rfl ⟨Nat.le_of_ble_eq_true rfl, Nat.le_of_ble_eq_true rfl⟩ ⟨Nat.le_refl 0, Nat.le_refl 0⟩ (Nat.le_of_ble_eq_true rfl) ?_
            intro r1 I1 J1 hh
            obtain ⟨e1, e2, e3⟩ := hh
            rw [e1, e2, e3]
            clear e1 e2 e3 r1 I1 J1
            refine V0_goto (pc := 48) 71 dX12_act_48 (by decide) ?_
            refine V_reti (pc := 71) _ dX12_act_71 rfl ?_
            rw [if_pos z, if_pos z, m_av, m_atr]
            first | rw [if_pos h25, if_pos h25] | rw [if_neg h25, if_neg h25, if_pos h39, if_pos h39] | rw [if_neg h25, if_neg h25, if_neg h39, if_neg h39, if_pos h53, if_pos h53] | rw [if_neg h25, if_neg h25, if_neg h39, if_neg h39, if_neg h53, if_neg h53]
            exact ⟨rfl, rfl, rfl⟩
        · skip
          refine V0_aload_n (pc := 28) dX12_act_28 rfl ?_
          refine V0_iload_n (pc := 29) dX12_act_29 rfl ?_
          refine V0_iload_n (pc := 30) dX12_act_30 rfl ?_
          refine V_callV (pc := 31) (M' := mX12_opening) dX12_act_31 mlX12_401 okX12_opening rfl o1 rfl rfl rfl rfl ⟨Nat.le_of_ble_eq_true rfl, Nat.le_of_ble_eq_true rfl⟩ ⟨Nat.le_refl 0, Nat.le_refl 0⟩ (Nat.le_of_ble_eq_true rfl) ?_
          intro r1 I1 J1 hh
          obtain ⟨e1, e2, e3⟩ := hh
          rw [e1, e2, e3]
          clear e1 e2 e3 r1 I1 J1
          refine V0_goto (pc := 34) 71 dX12_act_34 (by decide) ?_
          refine V_reti (pc := 71) _ dX12_act_71 rfl ?_
          rw [if_pos z, if_pos z, m_av, m_atr]
          first | rw [if_pos h25, if_pos h25] | rw [if_neg h25, if_neg h25, if_pos h39, if_pos h39] | rw [if_neg h25, if_neg h25, if_neg h39, if_neg h39, if_pos h53, if_pos h53] | rw [if_neg h25, if_neg h25, if_neg h39, if_neg h39, if_neg h53, if_neg h53]
          exact ⟨rfl, rfl, rfl⟩
      · skip
        exact absurd (z.2.symm.trans (show s_within a 0 3 = false from h19)) (by decide)
  · refine Ct.of plX12_act (Nat.le_of_ble_eq_true rfl) [.ref 54, .int b, .int a, .int x] rfl ?_
    refine V0_aload_n (pc := 0) dX12_act_0 rfl ?_
    refine V0_iconst (pc := 1) (0) dX12_act_1 (by decide) ?_
    refine V_puti (pc := 2) dX12_act_2 flX12_386 rfl rfl ?_
    refine V0_aload_n (pc := 5) dX12_act_5 rfl ?_
    refine V0_iload_n (pc := 6) dX12_act_6 rfl ?_
    refine V_callVi (pc := 7) (M' := mX12_isBody) dX12_act_7 mlX12_425 okX12_isBody rfl c_X12_isBody rfl rfl rfl rfl ⟨Nat.le_of_ble_eq_true rfl, Nat.le_of_ble_eq_true rfl⟩ ⟨Nat.le_refl 0, Nat.le_refl 0⟩ (Nat.le_of_ble_eq_true rfl) ?_
    refine V_ifeqb (pc := 10) 22 dX12_act_10 (by decide) (fun h10 => ?_) (fun h10 => ?_)
    · skip
      refine V0_iconst (pc := 22) (0) dX12_act_22 (by decide) ?_
      refine V_reti (pc := 23) _ dX12_act_23 rfl ?_
      exact ⟨by rw [if_neg z] <;> rfl, by rw [if_neg z], rfl⟩
    · skip
      refine V0_iload_n (pc := 13) dX12_act_13 rfl ?_
      refine V0_iconst (pc := 14) (0) dX12_act_14 (by decide) ?_
      refine V0_iconst (pc := 15) (3) dX12_act_15 (by decide) ?_
      refine V_callSi (pc := 16) (M' := mX12_in) dX12_act_16 mlX12_131 okX12_in rfl c_X12_in rfl rfl ⟨Nat.le_of_ble_eq_true rfl, Nat.le_of_ble_eq_true rfl⟩ ⟨Nat.le_refl 0, Nat.le_refl 0⟩ (Nat.le_of_ble_eq_true rfl) ?_
      refine V_ifneb (pc := 19) 24 dX12_act_19 (by decide) (fun h19 => ?_) (fun h19 => ?_)
      · skip
        exact absurd ⟨(show m_body I b = true from h10), h19⟩ z
      · skip
        refine V0_iconst (pc := 22) (0) dX12_act_22 (by decide) ?_
        refine V_reti (pc := 23) _ dX12_act_23 rfl ?_
        exact ⟨by rw [if_neg z] <;> rfl, by rw [if_neg z], rfl⟩

