/-! the Model: smells -/
def m_oth (I : px_I) (j e : Nat) : Bool := !decide (e = j) && m_runs I e && decide (m_hoj I e = m_hoj I j)
theorem m_oth_1 {I : px_I} {j e : Nat} (h : nI e = nI j) (he : e < 10) (hj : j < 10) : m_oth I j e = false := by unfold m_oth; rw [decide_eq_true ((qI_inj (by omega) (by omega)).mp h)]; rfl
theorem m_oth_2 {I : px_I} {j e : Nat} (h : m_runs I e = false) : m_oth I j e = false := by unfold m_oth; rw [show m_runs I e = false from h]; simp
theorem m_oth_3 {I : px_I} {j e : Nat} (h : ¬ m_hoj I e = m_hoj I j) : m_oth I j e = false := by unfold m_oth; rw [decide_eq_false h]; simp
theorem m_oth_4 {I : px_I} {j e : Nat} (h1 : ¬ nI e = nI j) (h2 : m_runs I e = true) (h3 : m_hoj I e = m_hoj I j) : m_oth I j e = true := by unfold m_oth; rw [decide_eq_false (fun q => h1 (by rw [q])), h2, decide_eq_true h3]; rfl
theorem lp_X12_others {l : Launch} {I : px_I} {J : px_J} {m n jy : Nat} {Q : px_Q} (hk : m_ok I m n) (hjy : jy < 10) (hQ : Q (some (.int (s_cnt (m_oth I jy) n))) I J) : ∀ (f j : Nat), j + f = n → V0 l (px_rm 1 0 0) mX12_othersRun (false, []) 0 0 4 [.ref 54, .int (nI jy), .int (s_cnt (m_oth I jy) j), .int (nI j)] [] (px_mk I J) (px_q Q) := by
  have hn := hk.2.2.1
  have hn10 := hk.2.2.2.1
  have ho := hk.2.2.2.2.1
  intro f
  induction f with
  | zero =>
    intro j h1
    obtain rfl : j = n := by omega
    refine V0_iload_n (pc := 4) dX12_othersRun_4 rfl ?_
    refine V0_aload_n (pc := 5) dX12_othersRun_5 rfl ?_
    refine V_geti (pc := 6) dX12_othersRun_6 flX12_135 rfl rfl ?_
    rw [hn]
    refine V1_icmp_ge (pc := 9) 47 dX12_othersRun_9 (by decide) (fun h9 => ?_) (fun h9 => ?_)
    · skip
      refine V0_iload_n (pc := 47) dX12_othersRun_47 rfl ?_
      refine V_reti (pc := 48) _ dX12_othersRun_48 rfl ?_
      exact hQ
    · skip
      exact absurd ((qI_lt (a := j) (b := j) (by omega) (by omega)).mp h9) (by omega)
  | succ f ih =>
    intro j h1
    have hlt : nI j < nI n := (qI_lt (by omega) (by omega)).mpr (by omega)
    refine V0_iload_n (pc := 4) dX12_othersRun_4 rfl ?_
    refine V0_aload_n (pc := 5) dX12_othersRun_5 rfl ?_
    refine V_geti (pc := 6) dX12_othersRun_6 flX12_135 rfl rfl ?_
    rw [hn]
    refine V1_icmp_ge (pc := 9) 47 dX12_othersRun_9 (by decide) (fun h9 => ?_) (fun h9 => ?_)
    · skip
      exact absurd hlt h9
    · skip
      refine V0_iload_n (pc := 12) dX12_othersRun_12 rfl ?_
      refine V0_iload_n (pc := 13) dX12_othersRun_13 rfl ?_
      refine V0_icmp_eq (pc := 14) 41 dX12_othersRun_14 (by decide) (fun h14 => ?_) (fun h14 => ?_)
      · skip
        first | have e3 := e2 | have e2 := m_oth_1 (I := I) h14 (by omega) hjy | have e2 := m_oth_2 (j := jy) h22 | have e2 := m_oth_3 h35
        refine V0_iinc_3 (pc := 41) (nI (j + 1)) dX12_othersRun_41 (by decide) rfl (nI_1 _) ?_
        refine V0_goto (pc := 44) 4 dX12_othersRun_44 (by decide) ?_
        exact V_ls (by rw [s_cnt, e2]; rfl) (ih (j + 1) (by omega))
      · skip
        refine V0_aload_n (pc := 17) dX12_othersRun_17 rfl ?_
        refine V0_iload_n (pc := 18) dX12_othersRun_18 rfl ?_
        refine V_callVi (pc := 19) (M' := mX12_runs) dX12_othersRun_19 mlX12_276 okX12_runs rfl (c_X12_runs (by omega)) rfl rfl rfl rfl ⟨Nat.le_of_ble_eq_true rfl, Nat.le_of_ble_eq_true rfl⟩ ⟨Nat.le_refl 0, Nat.le_refl 0⟩ (Nat.le_of_ble_eq_true rfl) ?_
        refine V_ifeqb (pc := 22) 41 dX12_othersRun_22 (by decide) (fun h22 => ?_) (fun h22 => ?_)
        · skip
          first | have e3 := e2 | have e2 := m_oth_1 (I := I) h14 (by omega) hjy | have e2 := m_oth_2 (j := jy) h22 | have e2 := m_oth_3 h35
          refine V0_iinc_3 (pc := 41) (nI (j + 1)) dX12_othersRun_41 (by decide) rfl (nI_1 _) ?_
          refine V0_goto (pc := 44) 4 dX12_othersRun_44 (by decide) ?_
          exact V_ls (by rw [s_cnt, e2]; rfl) (ih (j + 1) (by omega))
        · skip
          refine V0_aload_n (pc := 25) dX12_othersRun_25 rfl ?_
          refine V0_iload_n (pc := 26) dX12_othersRun_26 rfl ?_
          refine V_callVi (pc := 27) (M' := mX12_houseOfJoy) dX12_othersRun_27 mlX12_267 okX12_houseOfJoy rfl (c_X12_houseOfJoy ho (by omega)) rfl rfl rfl rfl ⟨Nat.le_of_ble_eq_true rfl, Nat.le_of_ble_eq_true rfl⟩ ⟨Nat.le_refl 0, Nat.le_refl 0⟩ (Nat.le_of_ble_eq_true rfl) ?_
          refine V0_aload_n (pc := 30) dX12_othersRun_30 rfl ?_
          refine V0_iload_n (pc := 31) dX12_othersRun_31 rfl ?_
          refine V_callVi (pc := 32) (M' := mX12_houseOfJoy) dX12_othersRun_32 mlX12_267 okX12_houseOfJoy rfl (c_X12_houseOfJoy ho (by omega)) rfl rfl rfl rfl ⟨Nat.le_of_ble_eq_true rfl, Nat.le_of_ble_eq_true rfl⟩ ⟨Nat.le_refl 0, Nat.le_refl 0⟩ (Nat.le_of_ble_eq_true rfl) ?_
          refine V0_icmp_ne (pc := 35) 41 dX12_othersRun_35 (by decide) (fun h35 => ?_) (fun h35 => ?_)
          · skip
            first | have e3 := e2 | have e2 := m_oth_1 (I := I) h14 (by omega) hjy | have e2 := m_oth_2 (j := jy) h22 | have e2 := m_oth_3 h35
            refine V0_iinc_3 (pc := 41) (nI (j + 1)) dX12_othersRun_41 (by decide) rfl (nI_1 _) ?_
            refine V0_goto (pc := 44) 4 dX12_othersRun_44 (by decide) ?_
            exact V_ls (by rw [s_cnt, e2]; rfl) (ih (j + 1) (by omega))
          · skip
            have e2 := m_oth_4 h14 h22 h35
            refine V0_iinc_2 (pc := 38) (s_cnt (m_oth I jy) j + 1) dX12_othersRun_38 (by decide) rfl rfl ?_
            first | have e3 := e2 | have e2 := m_oth_1 (I := I) h14 (by omega) hjy | have e2 := m_oth_2 (j := jy) h22 | have e2 := m_oth_3 h35
            refine V0_iinc_3 (pc := 41) (nI (j + 1)) dX12_othersRun_41 (by decide) rfl (nI_1 _) ?_
            refine V0_goto (pc := 44) 4 dX12_othersRun_44 (by decide) ?_
            exact V_ls (by rw [s_cnt, e2]; rfl) (ih (j + 1) (by omega))
theorem c_X12_othersRun {l : Launch} {I : px_I} {J : px_J} {m n jy : Nat} (hk : m_ok I m n) (hj : jy < 10) : CtI l mX12_othersRun 1 [.ref 54, .int (nI jy)] I J (s_cnt (m_oth I jy) n) := by
  refine Ct.of plX12_othersRun (Nat.le_of_ble_eq_true rfl) [.ref 54, .int (nI jy), .null, .null] rfl ?_
  refine V0_iconst (pc := 0) (0) dX12_othersRun_0 (by decide) ?_
  refine V0_istore_2 (pc := 1) dX12_othersRun_1 (by decide) rfl ?_
  refine V0_iconst (pc := 2) (0) dX12_othersRun_2 (by decide) ?_
  refine V0_istore_3 (pc := 3) dX12_othersRun_3 (by decide) rfl ?_
  exact lp_X12_others hk hj ⟨rfl, rfl, rfl⟩ n 0 (by omega)
def m_nm (I : px_I) (j : Nat) (far oth : Int32) : Int32 → Int32 := fun x => if ¬ x < 0 ∧ x < 6 then (if ix x = 0 then I 60 j else if ix x = 1 then far else if ix x = 2 then I 58 j else if ix x = 3 then oth else if ix x = 4 then I 61 j else I 54 37) else 0
def m_names (I : px_I) (j : Nat) (far oth : Int32) : px_I := px_up (px_up (px_up (px_up (px_up (px_up I 75 0 (I 60 j)) 75 1 far) 75 2 (I 58 j)) 75 3 oth) 75 4 (I 61 j)) 75 5 (I 54 37)
theorem m_names_row {I : px_I} {j q : Nat} {a o : Int32} (h : q ≠ 75) : m_names I j a o q = I q := by
  unfold m_names; rw [px_up_row h, px_up_row h, px_up_row h, px_up_row h, px_up_row h, px_up_row h]
theorem m_nm_eq {I : px_I} {j : Nat} {a o : Int32} : ∀ k, k < 6 → m_names I j a o 75 k = m_nm I j a o (nI k) := by
  intro k h
  unfold m_nm
  rw [if_pos ⟨nI_nn (by omega), (qI_lt (a := k) (b := 6) (by omega) (by omega)).mpr h⟩, ix_nI (by omega)]
  match k, h with
  | 0, _ => rfl
  | 1, _ => rfl
  | 2, _ => rfl
  | 3, _ => rfl
  | 4, _ => rfl
  | 5, _ => rfl
theorem m_law.of {X Y : px_I} {Ls : List l_L} (h : m_law X Ls) (hq : ∀ q, 70 ≤ q → q ≤ 74 → Y q = X q) (h5 : Y 54 32 = X 54 32) : m_law Y Ls := ⟨m_lns_congr (hq 70 (by omega) (by omega)) (hq 71 (by omega) (by omega)) (hq 73 (by omega) (by omega)) (hq 74 (by omega) (by omega)) _ _ _ h.1, by rw [hq 72 (by omega) (by omega)]; exact h.2.1, h.2.2.1, h.2.2.2.1, h.2.2.2.2.1, h5.trans h.2.2.2.2.2⟩
def m_cl (x : Int32) : Int32 := if x < 0 then 0 else if 9 < x then 9 else x
def m_much (I : px_I) (n : Nat) (Ls : List l_L) (j : Nat) (house : Int32) : Int32 := m_cl (if Ls.isEmpty = true then I 60 j + s_cnt (m_oth I j) n - 2 * m_ap (m_hoj I j) house else e_lines (m_nm I j (m_ap (m_hoj I j) house) (s_cnt (m_oth I j) n)) Ls)
/-- scratch of the law -/
def m_sw (I X : px_I) : Prop := ∀ q, q ≠ 75 → q ≠ 76 → X q = I q
theorem m_sw.tr {I I' I2 : px_I} (h : m_sw I I') (g : m_sw I' I2) : m_sw I I2 := fun q a b => (g q a b).trans (h q a b)
theorem m_sw.rf {I : px_I} : m_sw I I := fun _ _ _ => rfl
theorem m_sw.ok {I I' : px_I} {m n : Nat} (h : m_sw I I') (hk : m_ok I m n) : m_ok I' m n := hk.of (by rw [h _ (by omega) (by omega)]) (by rw [h _ (by omega) (by omega)]) (h _ (by omega) (by omega)) (h _ (by omega) (by omega))
theorem m_sw.law {I I' : px_I} {Ls : List l_L} (h : m_sw I I') (hk : m_law I Ls) : m_law I' Ls := hk.of (fun q a b => h q (by omega) (by omega)) (by rw [h _ (by omega) (by omega)])
theorem m_oth_congr {I I' : px_I} {j : Nat} (h : m_sw I I') : m_oth I' j = m_oth I j := by
  funext e
  simp only [m_oth, m_runs, m_hoj, h 56 (by omega) (by omega), h 58 (by omega) (by omega), h 77 (by omega) (by omega), h 78 (by omega) (by omega), h 79 (by omega) (by omega)]
theorem m_nm_congr {I I' : px_I} {j : Nat} {a o : Int32} (h : m_sw I I') : m_nm I' j a o = m_nm I j a o := by
  funext e
  simp only [m_nm, h 54 (by omega) (by omega), h 58 (by omega) (by omega), h 60 (by omega) (by omega), h 61 (by omega) (by omega)]
theorem m_much_congr {I I' : px_I} {n j : Nat} {Ls : List l_L} {house : Int32} (h : m_sw I I') : m_much I' n Ls j house = m_much I n Ls j house := by
  unfold m_much
  rw [m_oth_congr h, m_nm_congr h]
  simp only [m_hoj, h 56 (by omega) (by omega), h 60 (by omega) (by omega), h 77 (by omega) (by omega)]
theorem W_over {l : Launch} {I : px_I} {J : px_J} {j : Nat} {h3 : Int32} {house v : Int32} {Q : px_Q} (hQ : Q (some (.int (m_cl v))) I J) : V0 l (px_rm 3 0 0) mX12_overBy (false, []) 0 0 106 [.ref 54, .int (nI j), .int house, .int h3, .int v] [] (px_mk I J) (px_q Q) := by
  refine V0_iload (pc := 106) dX12_overBy_106 rfl ?_
  refine V1_if_ge (pc := 108) 115 dX12_overBy_108 (by decide) (fun h108 => ?_) (fun h108 => ?_)
  · skip
    refine V0_iload (pc := 115) dX12_overBy_115 rfl ?_
    refine V0_bipush (pc := 117) (9) dX12_overBy_117 (by decide) ?_
    refine V1_icmp_le (pc := 119) 127 dX12_overBy_119 (by decide) (fun h119 => ?_) (fun h119 => ?_)
    · skip
      refine V0_iload (pc := 127) dX12_overBy_127 rfl ?_
      refine V_reti (pc := 129) _ dX12_overBy_129 rfl ?_
      first | (rw [m_cl, if_pos h108] at hQ; exact hQ) | (rw [m_cl, if_neg h108, if_pos h119] at hQ; exact hQ) | (rw [m_cl, if_neg h108, if_neg h119] at hQ; exact hQ)
    · skip
      refine V0_bipush (pc := 122) (9) dX12_overBy_122 (by decide) ?_
      refine V0_goto (pc := 124) 129 dX12_overBy_124 (by decide) ?_
      refine V_reti (pc := 129) _ dX12_overBy_129 rfl ?_
      first | (rw [m_cl, if_pos h108] at hQ; exact hQ) | (rw [m_cl, if_neg h108, if_pos h119] at hQ; exact hQ) | (rw [m_cl, if_neg h108, if_neg h119] at hQ; exact hQ)
  · skip
    refine V0_iconst (pc := 111) (0) dX12_overBy_111 (by decide) ?_
    refine V0_goto (pc := 112) 129 dX12_overBy_112 (by decide) ?_
    refine V_reti (pc := 129) _ dX12_overBy_129 rfl ?_
    first | (rw [m_cl, if_pos h108] at hQ; exact hQ) | (rw [m_cl, if_neg h108, if_pos h119] at hQ; exact hQ) | (rw [m_cl, if_neg h108, if_neg h119] at hQ; exact hQ)
theorem m_emp {Ls : List l_L} (h : b2 (!Ls.isEmpty) = 0) : Ls.isEmpty = true := by
  cases hE : Ls.isEmpty with
  | true => rfl
  | false => rw [hE] at h; exact absurd h (by decide)
theorem m_much_n {I : px_I} {n j : Nat} {house : Int32} {Ls : List l_L} (h : ¬ Ls.isEmpty = true) : m_much I n Ls j house = m_cl (e_lines (m_nm I j (m_ap (m_hoj I j) house) (s_cnt (m_oth I j) n)) Ls) := by rw [m_much, if_neg h]
theorem m_much_p {I : px_I} {n j : Nat} {house : Int32} {Ls : List l_L} (h : Ls.isEmpty = true) : m_much I n Ls j house = m_cl (I 60 j + s_cnt (m_oth I j) n - 2 * m_ap (m_hoj I j) house) := by rw [m_much, if_pos h]
theorem c_X12_overBy {l : Launch} {I : px_I} {J : px_J} {m n j : Nat} {house : Int32} {Ls : List l_L} (hk : m_ok I m n) (hlaw : m_law I Ls) (hj : j < 10) : Ct l mX12_overBy 3 [.ref 54, .int (nI j), .int house] I J (fun r I' J' => r = some (.int (m_much I n Ls j house)) ∧ m_sw I I' ∧ J' = J) := by
  have ho := hk.2.2.2.2.1
  have hL := hlaw.2.2.2.2.2
  have hN : m_law (m_names I j (m_ap (m_hoj I j) house) (s_cnt (m_oth I j) n)) Ls := hlaw.of (fun q a b => m_names_row (by omega)) (by rw [m_names_row (by omega)])
  have hc := c_X12_gives (l := l) (J := J) hN (nm := m_nm I j (m_ap (m_hoj I j) house) (s_cnt (m_oth I j) n)) m_nm_eq
  have hs3 : m_sw I (px_up (px_up (px_up I 75 0 (I 60 j)) 75 1 (m_ap (m_hoj I j) house)) 75 2 (I 58 j)) := fun q a b => by rw [px_up_row a, px_up_row a, px_up_row a]
  have ho3 := c_X12_othersRun (l := l) (J := J) (jy := j) (hs3.ok hk) hj
  rw [m_oth_congr hs3] at ho3
  refine Ct.of plX12_overBy (Nat.le_of_ble_eq_true rfl) [.ref 54, .int (nI j), .int house, .null, .null] rfl ?_
  refine V0_aload_n (pc := 0) dX12_overBy_0 rfl ?_
  refine V0_iload_n (pc := 1) dX12_overBy_1 rfl ?_
  refine V_callVi (pc := 2) (M' := mX12_houseOfJoy) dX12_overBy_2 mlX12_267 okX12_houseOfJoy rfl (c_X12_houseOfJoy ho hj) rfl rfl rfl rfl ⟨Nat.le_of_ble_eq_true rfl, Nat.le_of_ble_eq_true rfl⟩ ⟨Nat.le_refl 0, Nat.le_refl 0⟩ (Nat.le_of_ble_eq_true rfl) ?_
  refine V0_iload_n (pc := 5) dX12_overBy_5 rfl ?_
  refine V_callSi (pc := 6) (M' := mX12_apartBy) dX12_overBy_6 mlX12_295 okX12_apartBy rfl c_X12_apartBy rfl rfl ⟨Nat.le_of_ble_eq_true rfl, Nat.le_of_ble_eq_true rfl⟩ ⟨Nat.le_refl 0, Nat.le_refl 0⟩ (Nat.le_of_ble_eq_true rfl) ?_
  refine V0_istore_3 (pc := 9) dX12_overBy_9 (by decide) rfl ?_
  refine V0_aload_n (pc := 10) dX12_overBy_10 rfl ?_
  refine V_getr (pc := 11) dX12_overBy_11 flX12_25 rfl rfl ?_
  refine V0_iload_n (pc := 14) dX12_overBy_14 rfl ?_
  refine V_iald (pc := 15) (j) dX12_overBy_15 rfl rfl (by omega) ?_
  refine V0_aload_n (pc := 16) dX12_overBy_16 rfl ?_
  refine V0_iload_n (pc := 17) dX12_overBy_17 rfl ?_
  refine V_callVi (pc := 18) (M' := mX12_othersRun) dX12_overBy_18 mlX12_298 okX12_othersRun rfl (c_X12_othersRun hk hj) rfl rfl rfl rfl ⟨Nat.le_of_ble_eq_true rfl, Nat.le_of_ble_eq_true rfl⟩ ⟨Nat.le_refl 0, Nat.le_refl 0⟩ (Nat.le_of_ble_eq_true rfl) ?_
  refine V0_iadd (pc := 21) dX12_overBy_21 ?_
  refine V0_iconst (pc := 22) (2) dX12_overBy_22 (by decide) ?_
  refine V0_iload_n (pc := 23) dX12_overBy_23 rfl ?_
  refine V0_imul (pc := 24) dX12_overBy_24 ?_
  refine V0_isub (pc := 25) dX12_overBy_25 ?_
  refine V0_istore_4 (pc := 26) dX12_overBy_26 (by decide) rfl ?_
  refine V0_aload_n (pc := 28) dX12_overBy_28 rfl ?_
  refine V_geti (pc := 29) dX12_overBy_29 flX12_251 rfl rfl ?_
  rw [hL]
  refine V0_if_eq (pc := 32) 106 dX12_overBy_32 (by decide) (fun h32 => ?_) (fun h32 => ?_)
  · skip
    first | (have hz := m_much_n (I := I) (n := n) (j := j) (house := house) hb; exact W_over ⟨by rw [hz], fun q a b => (hfr q b).trans (m_names_row a), rfl⟩) | (have hz := m_much_p (I := I) (n := n) (j := j) (house := house) (m_emp h32); exact W_over ⟨by rw [hz], m_sw.rf, rfl⟩)
  · skip
    have hb : ¬ Ls.isEmpty = true := fun q => h32 (by rw [q]; rfl)
    refine V0_aload_n (pc := 35) dX12_overBy_35 rfl ?_
    refine V_getr (pc := 36) dX12_overBy_36 flX12_72 rfl rfl ?_
    refine V0_iconst (pc := 39) (0) dX12_overBy_39 (by decide) ?_
    refine V0_aload_n (pc := 40) dX12_overBy_40 rfl ?_
    refine V_getr (pc := 41) dX12_overBy_41 flX12_25 rfl rfl ?_
    refine V0_iload_n (pc := 44) dX12_overBy_44 rfl ?_
    refine V_iald (pc := 45) (j) dX12_overBy_45 rfl rfl (by omega) ?_
    refine V_iast (pc := 46) 0 dX12_overBy_46 rfl rfl (by omega) ?_
    refine V0_aload_n (pc := 47) dX12_overBy_47 rfl ?_
    refine V_getr (pc := 48) dX12_overBy_48 flX12_72 rfl rfl ?_
    refine V0_iconst (pc := 51) (1) dX12_overBy_51 (by decide) ?_
    refine V0_iload_n (pc := 52) dX12_overBy_52 rfl ?_
    refine V_iast (pc := 53) 1 dX12_overBy_53 rfl rfl (by omega) ?_
    refine V0_aload_n (pc := 54) dX12_overBy_54 rfl ?_
    refine V_getr (pc := 55) dX12_overBy_55 flX12_72 rfl rfl ?_
    refine V0_iconst (pc := 58) (2) dX12_overBy_58 (by decide) ?_
    refine V0_aload_n (pc := 59) dX12_overBy_59 rfl ?_
    refine V_getr (pc := 60) dX12_overBy_60 flX12_19 rfl rfl ?_
    refine V0_iload_n (pc := 63) dX12_overBy_63 rfl ?_
    refine V_iald (pc := 64) (j) dX12_overBy_64 rfl rfl (by omega) ?_
    refine V_iast (pc := 65) 2 dX12_overBy_65 rfl rfl (by omega) ?_
    refine V0_aload_n (pc := 66) dX12_overBy_66 rfl ?_
    refine V_getr (pc := 67) dX12_overBy_67 flX12_72 rfl rfl ?_
    refine V0_iconst (pc := 70) (3) dX12_overBy_70 (by decide) ?_
    refine V0_aload_n (pc := 71) dX12_overBy_71 rfl ?_
    refine V0_iload_n (pc := 72) dX12_overBy_72 rfl ?_
    refine V_callVi (pc := 73) (M' := mX12_othersRun) dX12_overBy_73 mlX12_298 okX12_othersRun rfl ho3 rfl rfl rfl rfl ⟨Nat.le_of_ble_eq_true rfl, Nat.le_of_ble_eq_true rfl⟩ ⟨Nat.le_refl 0, Nat.le_refl 0⟩ (Nat.le_of_ble_eq_true rfl) ?_
    refine V_iast (pc := 76) 3 dX12_overBy_76 rfl rfl (by omega) ?_
    refine V0_aload_n (pc := 77) dX12_overBy_77 rfl ?_
    refine V_getr (pc := 78) dX12_overBy_78 flX12_72 rfl rfl ?_
    refine V0_iconst (pc := 81) (4) dX12_overBy_81 (by decide) ?_
    refine V0_aload_n (pc := 82) dX12_overBy_82 rfl ?_
    refine V_getr (pc := 83) dX12_overBy_83 flX12_28 rfl rfl ?_
    refine V0_iload_n (pc := 86) dX12_overBy_86 rfl ?_
    refine V_iald (pc := 87) (j) dX12_overBy_87 rfl rfl (by omega) ?_
    refine V_iast (pc := 88) 4 dX12_overBy_88 rfl rfl (by omega) ?_
    refine V0_aload_n (pc := 89) dX12_overBy_89 rfl ?_
    refine V_getr (pc := 90) dX12_overBy_90 flX12_72 rfl rfl ?_
    refine V0_iconst (pc := 93) (5) dX12_overBy_93 (by decide) ?_
    refine V0_aload_n (pc := 94) dX12_overBy_94 rfl ?_
    refine V_geti (pc := 95) dX12_overBy_95 flX12_258 rfl rfl ?_
    refine V_iast (pc := 98) 5 dX12_overBy_98 rfl rfl (by omega) ?_
    refine V0_aload_n (pc := 99) dX12_overBy_99 rfl ?_
    refine V0_iconst (pc := 100) (0) dX12_overBy_100 (by decide) ?_
    refine V_callV (pc := 101) (M' := mX12_gives) dX12_overBy_101 mlX12_301 okX12_gives rfl hc rfl rfl rfl rfl ⟨Nat.le_of_ble_eq_true rfl, Nat.le_of_ble_eq_true rfl⟩ ⟨Nat.le_refl 0, Nat.le_refl 0⟩ (Nat.le_of_ble_eq_true rfl) ?_
    intro r1 I1 J1 hh
    obtain ⟨e1, hfr, e3⟩ := hh
    rw [e1, e3]
    clear e1 e3 r1 J1
    refine V0_istore_4 (pc := 104) dX12_overBy_104 (by decide) rfl ?_
    first | (have hz := m_much_n (I := I) (n := n) (j := j) (house := house) hb; exact W_over ⟨by rw [hz], fun q a b => (hfr q b).trans (m_names_row a), rfl⟩) | (have hz := m_much_p (I := I) (n := n) (j := j) (house := house) (m_emp h32); exact W_over ⟨by rw [hz], m_sw.rf, rfl⟩)
def m_sl (m n : Nat) (I X : px_I) : Prop := ∃ Y, m_sd m n I Y ∧ ∀ q, q ≠ 75 → q ≠ 76 → q ≠ 80 → X q = Y q
theorem m_law.lay {I X : px_I} {m n : Nat} {Ls : List l_L} (h : m_law I Ls) (hs : m_sd m n I X) : m_law X Ls := h.of (fun q a b => hs.1 q (by omega) (by omega) (by omega) (by omega)) (hs.2.1 _ (by omega))
theorem c_X12_smell {l : Launch} {I : px_I} {J : px_J} {x h : Int32} {m n : Nat} {Ls : List l_L} (hk : m_ok I m n) (hlaw : m_law I Ls) : Ct l mX12_smell 4 [.ref 54, .int x, .int h] I J (fun r I' J' => r = some (.int (if m_joy I x = true ∧ s_within h 0 11 = true then (if px_rem (m_hoj (m_lay I m n) (ix x)) 2 = px_rem h 2 then -1 else m_much (m_lay I m n) n Ls (ix x) h) else -1)) ∧ m_sl m n I I' ∧ J' = J) := by
  have hn10 := hk.2.2.2.1
  have hk2 := hk.lay
  by_cases z : m_joy I x = true ∧ s_within h 0 11 = true
  · have hx := m_joy_ix hk.2.2.1 hn10 z.1
    have hc := c_X12_houseOfJoy (l := l) (J := J) (j := ix x) hk2.2.2.2.2.1 (by omega)
    have hm := c_X12_overBy (l := l) (J := J) (j := ix x) (house := h) hk2 (hlaw.lay m_sd_lay) (by omega)
    rw [← hx.1] at hc hm
    refine Ct.of plX12_smell (Nat.le_of_ble_eq_true rfl) [.ref 54, .int x, .int h] rfl ?_
    refine V0_aload_n (pc := 0) dX12_smell_0 rfl ?_
    refine V0_iload_n (pc := 1) dX12_smell_1 rfl ?_
    refine V_callVi (pc := 2) (M' := mX12_isJoy) dX12_smell_2 mlX12_168 okX12_isJoy rfl c_X12_isJoy rfl rfl rfl rfl ⟨Nat.le_of_ble_eq_true rfl, Nat.le_of_ble_eq_true rfl⟩ ⟨Nat.le_refl 0, Nat.le_refl 0⟩ (Nat.le_of_ble_eq_true rfl) ?_
    refine V_ifeqb (pc := 5) 15 dX12_smell_5 (by decide) (fun h5 => ?_) (fun h5 => ?_)
    · skip
      exact absurd (z.1.symm.trans (show m_joy I x = false from h5)) (by decide)
    · skip
      refine V0_iload_n (pc := 8) dX12_smell_8 rfl ?_
      refine V_callSi (pc := 9) (M' := mX12_isHouse) dX12_smell_9 mlX12_138 okX12_isHouse rfl c_X12_isHouse rfl rfl ⟨Nat.le_of_ble_eq_true rfl, Nat.le_of_ble_eq_true rfl⟩ ⟨Nat.le_refl 0, Nat.le_refl 0⟩ (Nat.le_of_ble_eq_true rfl) ?_
      refine V_ifneb (pc := 12) 17 dX12_smell_12 (by decide) (fun h12 => ?_) (fun h12 => ?_)
      · skip
        refine V0_aload_n (pc := 17) dX12_smell_17 rfl ?_
        refine V_callV (pc := 18) (M' := mX12_layNow) dX12_smell_18 mlX12_304 okX12_layNow rfl (c_X12_layNow hk) rfl rfl rfl rfl ⟨Nat.le_of_ble_eq_true rfl, Nat.le_of_ble_eq_true rfl⟩ ⟨Nat.le_refl 0, Nat.le_refl 0⟩ (Nat.le_of_ble_eq_true rfl) ?_
        intro r1 I1 J1 hh
        obtain ⟨e1, e2, e3⟩ := hh
        rw [e1, e2, e3]
        clear e1 e2 e3 r1 I1 J1
        refine V0_aload_n (pc := 21) dX12_smell_21 rfl ?_
        refine V0_iload_n (pc := 22) dX12_smell_22 rfl ?_
        refine V_callVi (pc := 23) (M' := mX12_houseOfJoy) dX12_smell_23 mlX12_267 okX12_houseOfJoy rfl hc rfl rfl rfl rfl ⟨Nat.le_of_ble_eq_true rfl, Nat.le_of_ble_eq_true rfl⟩ ⟨Nat.le_refl 0, Nat.le_refl 0⟩ (Nat.le_of_ble_eq_true rfl) ?_
        refine V0_iconst (pc := 26) (2) dX12_smell_26 (by decide) ?_
        refine V0_irem (pc := 27) dX12_smell_27 (by decide) ?_
        refine V0_iload_n (pc := 28) dX12_smell_28 rfl ?_
        refine V0_iconst (pc := 29) (2) dX12_smell_29 (by decide) ?_
        refine V0_irem (pc := 30) dX12_smell_30 (by decide) ?_
        refine V0_icmp_ne (pc := 31) 38 dX12_smell_31 (by decide) (fun h31 => ?_) (fun h31 => ?_)
        · skip
          refine V0_aload_n (pc := 38) dX12_smell_38 rfl ?_
          refine V0_iload_n (pc := 39) dX12_smell_39 rfl ?_
          refine V0_iload_n (pc := 40) dX12_smell_40 rfl ?_
          refine V_callV (pc := 41) (M' := mX12_overBy) dX12_smell_41 mlX12_307 okX12_overBy rfl hm rfl rfl rfl rfl ⟨Nat.le_of_ble_eq_true rfl, Nat.le_of_ble_eq_true rfl⟩ ⟨Nat.le_refl 0, Nat.le_refl 0⟩ (Nat.le_of_ble_eq_true rfl) ?_
          intro r1 I1 J1 hh
          obtain ⟨e1, hfr, e3⟩ := hh
          rw [e1, e3]
          clear e1 e3 r1 J1
          refine V_reti (pc := 44) _ dX12_smell_44 rfl ?_
          first | exact ⟨by rw [if_pos z, if_neg h31], ⟨m_lay I m n, m_sd_lay, fun q a b c => hfr q a b⟩, rfl⟩ | exact ⟨by rw [if_pos z, if_pos h31] <;> rfl, ⟨m_lay I m n, m_sd_lay, fun q a b c => rfl⟩, rfl⟩
        · skip
          refine V0_iconst (pc := 34) (-1) dX12_smell_34 (by decide) ?_
          refine V0_goto (pc := 35) 44 dX12_smell_35 (by decide) ?_
          refine V_reti (pc := 44) _ dX12_smell_44 rfl ?_
          first | exact ⟨by rw [if_pos z, if_neg h31], ⟨m_lay I m n, m_sd_lay, fun q a b c => hfr q a b⟩, rfl⟩ | exact ⟨by rw [if_pos z, if_pos h31] <;> rfl, ⟨m_lay I m n, m_sd_lay, fun q a b c => rfl⟩, rfl⟩
      · skip
        exact absurd (z.2.symm.trans (show s_within h 0 11 = false from h12)) (by decide)
  · refine Ct.of plX12_smell (Nat.le_of_ble_eq_true rfl) [.ref 54, .int x, .int h] rfl ?_
    refine V0_aload_n (pc := 0) dX12_smell_0 rfl ?_
    refine V0_iload_n (pc := 1) dX12_smell_1 rfl ?_
    refine V_callVi (pc := 2) (M' := mX12_isJoy) dX12_smell_2 mlX12_168 okX12_isJoy rfl c_X12_isJoy rfl rfl rfl rfl ⟨Nat.le_of_ble_eq_true rfl, Nat.le_of_ble_eq_true rfl⟩ ⟨Nat.le_refl 0, Nat.le_refl 0⟩ (Nat.le_of_ble_eq_true rfl) ?_
    refine V_ifeqb (pc := 5) 15 dX12_smell_5 (by decide) (fun h5 => ?_) (fun h5 => ?_)
    · skip
      refine V0_iconst (pc := 15) (-1) dX12_smell_15 (by decide) ?_
      refine V_reti (pc := 16) _ dX12_smell_16 rfl ?_
      exact ⟨by rw [if_neg z] <;> rfl, ⟨I, m_sd_refl, fun q a b c => rfl⟩, rfl⟩
    · skip
      refine V0_iload_n (pc := 8) dX12_smell_8 rfl ?_
      refine V_callSi (pc := 9) (M' := mX12_isHouse) dX12_smell_9 mlX12_138 okX12_isHouse rfl c_X12_isHouse rfl rfl ⟨Nat.le_of_ble_eq_true rfl, Nat.le_of_ble_eq_true rfl⟩ ⟨Nat.le_refl 0, Nat.le_refl 0⟩ (Nat.le_of_ble_eq_true rfl) ?_
      refine V_ifneb (pc := 12) 17 dX12_smell_12 (by decide) (fun h12 => ?_) (fun h12 => ?_)
      · skip
        exact absurd ⟨h5, h12⟩ z
      · skip
        refine V0_iconst (pc := 15) (-1) dX12_smell_15 (by decide) ?_
        refine V_reti (pc := 16) _ dX12_smell_16 rfl ?_
        exact ⟨by rw [if_neg z] <;> rfl, ⟨I, m_sd_refl, fun q a b c => rfl⟩, rfl⟩
def m_smh (I : px_I) (n : Nat) (Ls : List l_L) (j h : Nat) : Bool := !decide (px_rem (nI h) 2 = px_rem (m_hoj I j) 2) && !decide (m_much I n Ls j (nI h) < I 64 2)
def m_smelt (I : px_I) (n : Nat) (Ls : List l_L) (j : Nat) : Int32 := if m_runs I j = true then s_bits (m_smh I n Ls j) 12 else 0
theorem m_smh_1 {I : px_I} {n j h : Nat} {Ls : List l_L} (q : px_rem (nI h) 2 = px_rem (m_hoj I j) 2) : m_smh I n Ls j h = false := by rw [m_smh, decide_eq_true q]; rfl
theorem m_smh_2 {I : px_I} {n j h : Nat} {Ls : List l_L} (q : m_much I n Ls j (nI h) < I 64 2) : m_smh I n Ls j h = false := by rw [m_smh, decide_eq_true q]; simp
theorem m_smh_3 {I : px_I} {n j h : Nat} {Ls : List l_L} (q : ¬ px_rem (nI h) 2 = px_rem (m_hoj I j) 2) (r : ¬ m_much I n Ls j (nI h) < I 64 2) : m_smh I n Ls j h = true := by rw [m_smh, decide_eq_false q, decide_eq_false r]; rfl
theorem s_bits_t {f : Nat → Bool} {n : Nat} (h : f n = true) : s_bits f (n + 1) = s_bits f n ||| ((1 : Int32) <<< (nI n &&& 31)) := by rw [s_bits, if_pos h]
theorem s_bits_f {f : Nat → Bool} {n : Nat} (h : f n = false) : s_bits f (n + 1) = s_bits f n := by rw [s_bits, if_neg (by rw [h]; decide)]
theorem m_smelt_congr {I I' : px_I} {n j : Nat} {Ls : List l_L} (h : m_sw I I') : m_smelt I' n Ls j = m_smelt I n Ls j := by
  have e : m_smh I' n Ls j = m_smh I n Ls j := by
    funext k
    simp only [m_smh, m_much_congr h, m_hoj, h 56 (by omega) (by omega), h 77 (by omega) (by omega), h 64 (by omega) (by omega)]
  unfold m_smelt
  rw [e]
  simp only [m_runs, h 58 (by omega) (by omega), h 78 (by omega) (by omega), h 79 (by omega) (by omega)]
theorem lp_X12_smeltBy {l : Launch} {I : px_I} {J : px_J} {m n j : Nat} {Ls : List l_L} {Q : px_Q} (hk : m_ok I m n) (hlaw : m_law I Ls) (hj : j < 10) (hQ : ∀ X, m_sw I X → Q (some (.int (s_bits (m_smh I n Ls j) 12))) X J) : ∀ (f h : Nat), h + f = 12 → ∀ X, m_sw I X → V0 l (px_rm 4 0 0) mX12_smeltBy (false, []) 0 0 14 [.ref 54, .int (nI j), .int (s_bits (m_smh I n Ls j) h), .int (nI h)] [] (px_mk X J) (px_q Q) := by
  have ho := hk.2.2.2.2.1
  intro f
  induction f with
  | zero =>
    intro h h1 X hsw
    obtain rfl : h = 12 := by omega
    refine V0_iload_n (pc := 14) dX12_smeltBy_14 rfl ?_
    refine V0_bipush (pc := 15) (12) dX12_smeltBy_15 (by decide) ?_
    refine V1_icmp_ge (pc := 17) 60 dX12_smeltBy_17 (by decide) (fun h17 => ?_) (fun h17 => ?_)
    · skip
      refine V0_iload_n (pc := 60) dX12_smeltBy_60 rfl ?_
      refine V_reti (pc := 61) _ dX12_smeltBy_61 rfl ?_
      exact hQ _ hsw
    · skip
      exact absurd (show nI 12 < (12 : Int32) from h17) (by decide)
  | succ f ih =>
    intro h h1 X hsw
    have hlt : nI h < (12 : Int32) := (qI_lt (a := h) (b := 12) (by omega) (by omega)).mpr (by omega)
    have hkX := hsw.ok hk
    have hhj : m_hoj X j = m_hoj I j := by simp only [m_hoj, hsw 56 (by omega) (by omega), hsw 77 (by omega) (by omega)]
    refine V0_iload_n (pc := 14) dX12_smeltBy_14 rfl ?_
    refine V0_bipush (pc := 15) (12) dX12_smeltBy_15 (by decide) ?_
    refine V1_icmp_ge (pc := 17) 60 dX12_smeltBy_17 (by decide) (fun h17 => ?_) (fun h17 => ?_)
    · skip
      exact absurd hlt h17
    · skip
      refine V0_iload_n (pc := 20) dX12_smeltBy_20 rfl ?_
      refine V0_iconst (pc := 21) (2) dX12_smeltBy_21 (by decide) ?_
      refine V0_irem (pc := 22) dX12_smeltBy_22 (by decide) ?_
      refine V0_aload_n (pc := 23) dX12_smeltBy_23 rfl ?_
      refine V0_iload_n (pc := 24) dX12_smeltBy_24 rfl ?_
      refine V_callVi (pc := 25) (M' := mX12_houseOfJoy) dX12_smeltBy_25 mlX12_267 okX12_houseOfJoy rfl (c_X12_houseOfJoy hkX.2.2.2.2.1 hj) rfl rfl rfl rfl ⟨Nat.le_of_ble_eq_true rfl, Nat.le_of_ble_eq_true rfl⟩ ⟨Nat.le_refl 0, Nat.le_refl 0⟩ (Nat.le_of_ble_eq_true rfl) ?_
      refine V0_iconst (pc := 28) (2) dX12_smeltBy_28 (by decide) ?_
      refine V0_irem (pc := 29) dX12_smeltBy_29 (by decide) ?_
      rw [hhj]
      refine V0_icmp_eq (pc := 30) 54 dX12_smeltBy_30 (by decide) (fun h30 => ?_) (fun h30 => ?_)
      · skip
        refine V0_iinc_3 (pc := 54) (nI (h + 1)) dX12_smeltBy_54 (by decide) rfl (nI_1 _) ?_
        refine V0_goto (pc := 57) 14 dX12_smeltBy_57 (by decide) ?_
        first | (have e3 := e2; exact V_ls (by rw [e2]) (ih (h + 1) (by omega) _ hsw)) | (have e2 := s_bits_f (m_smh_1 (n := n) (Ls := Ls) h30); exact V_ls (by rw [e2]) (ih (h + 1) (by omega) _ hsw)) | (have e2 := s_bits_f (m_smh_2 h45); exact V_ls (by rw [e2]) (ih (h + 1) (by omega) _ (hsw.tr hfr)))
      · skip
        refine V0_aload_n (pc := 33) dX12_smeltBy_33 rfl ?_
        refine V0_iload_n (pc := 34) dX12_smeltBy_34 rfl ?_
        refine V0_iload_n (pc := 35) dX12_smeltBy_35 rfl ?_
        refine V_callV (pc := 36) (M' := mX12_overBy) dX12_smeltBy_36 mlX12_307 okX12_overBy rfl (c_X12_overBy hkX (hsw.law hlaw) hj) rfl rfl rfl rfl ⟨Nat.le_of_ble_eq_true rfl, Nat.le_of_ble_eq_true rfl⟩ ⟨Nat.le_refl 0, Nat.le_refl 0⟩ (Nat.le_of_ble_eq_true rfl) ?_
        intro r1 I1 J1 hh
        obtain ⟨e1, hfr, e3⟩ := hh
        rw [e1, e3]
        clear e1 e3 r1 J1
        rw [m_much_congr hsw]
        refine V0_aload_n (pc := 39) dX12_smeltBy_39 rfl ?_
        refine V_getr (pc := 40) dX12_smeltBy_40 flX12_37 rfl rfl ?_
        refine V0_iconst (pc := 43) (2) dX12_smeltBy_43 (by decide) ?_
        refine V_iald (pc := 44) 2 dX12_smeltBy_44 rfl rfl (by omega) ?_
        rw [show I1 64 = I 64 from (hsw.tr hfr) 64 (by omega) (by omega)]
        refine V0_icmp_lt (pc := 45) 54 dX12_smeltBy_45 (by decide) (fun h45 => ?_) (fun h45 => ?_)
        · skip
          refine V0_iinc_3 (pc := 54) (nI (h + 1)) dX12_smeltBy_54 (by decide) rfl (nI_1 _) ?_
          refine V0_goto (pc := 57) 14 dX12_smeltBy_57 (by decide) ?_
          first | (have e3 := e2; exact V_ls (by rw [e2]) (ih (h + 1) (by omega) _ hsw)) | (have e2 := s_bits_f (m_smh_1 (n := n) (Ls := Ls) h30); exact V_ls (by rw [e2]) (ih (h + 1) (by omega) _ hsw)) | (have e2 := s_bits_f (m_smh_2 h45); exact V_ls (by rw [e2]) (ih (h + 1) (by omega) _ (hsw.tr hfr)))
        · skip
          have e2 := s_bits_t (m_smh_3 h30 h45)
          have hsw := hsw.tr hfr
          refine V0_iload_n (pc := 48) dX12_smeltBy_48 rfl ?_
          refine V0_iconst (pc := 49) (1) dX12_smeltBy_49 (by decide) ?_
          refine V0_iload_n (pc := 50) dX12_smeltBy_50 rfl ?_
          refine V0_ishl (pc := 51) dX12_smeltBy_51 ?_
          refine V0_ior (pc := 52) dX12_smeltBy_52 ?_
          refine V0_istore_2 (pc := 53) dX12_smeltBy_53 (by decide) rfl ?_
          refine V0_iinc_3 (pc := 54) (nI (h + 1)) dX12_smeltBy_54 (by decide) rfl (nI_1 _) ?_
          refine V0_goto (pc := 57) 14 dX12_smeltBy_57 (by decide) ?_
          first | (have e3 := e2; exact V_ls (by rw [e2]) (ih (h + 1) (by omega) _ hsw)) | (have e2 := s_bits_f (m_smh_1 (n := n) (Ls := Ls) h30); exact V_ls (by rw [e2]) (ih (h + 1) (by omega) _ hsw)) | (have e2 := s_bits_f (m_smh_2 h45); exact V_ls (by rw [e2]) (ih (h + 1) (by omega) _ (hsw.tr hfr)))
theorem c_X12_smeltBy {l : Launch} {I : px_I} {J : px_J} {m n j : Nat} {Ls : List l_L} (hk : m_ok I m n) (hlaw : m_law I Ls) (hj : j < 10) : Ct l mX12_smeltBy 4 [.ref 54, .int (nI j)] I J (fun r I' J' => r = some (.int (m_smelt I n Ls j)) ∧ m_sw I I' ∧ J' = J) := by
  refine Ct.of plX12_smeltBy (Nat.le_of_ble_eq_true rfl) [.ref 54, .int (nI j), .null, .null] rfl ?_
  refine V0_iconst (pc := 0) (0) dX12_smeltBy_0 (by decide) ?_
  refine V0_istore_2 (pc := 1) dX12_smeltBy_1 (by decide) rfl ?_
  refine V0_aload_n (pc := 2) dX12_smeltBy_2 rfl ?_
  refine V0_iload_n (pc := 3) dX12_smeltBy_3 rfl ?_
  refine V_callVi (pc := 4) (M' := mX12_runs) dX12_smeltBy_4 mlX12_276 okX12_runs rfl (c_X12_runs (by omega)) rfl rfl rfl rfl ⟨Nat.le_of_ble_eq_true rfl, Nat.le_of_ble_eq_true rfl⟩ ⟨Nat.le_refl 0, Nat.le_refl 0⟩ (Nat.le_of_ble_eq_true rfl) ?_
  refine V_ifneb (pc := 7) 12 dX12_smeltBy_7 (by decide) (fun h7 => ?_) (fun h7 => ?_)
  · skip
    refine V0_iconst (pc := 12) (0) dX12_smeltBy_12 (by decide) ?_
    refine V0_istore_3 (pc := 13) dX12_smeltBy_13 (by decide) rfl ?_
    exact lp_X12_smeltBy hk hlaw hj (fun X hX => ⟨by rw [m_smelt, if_pos h7], hX, rfl⟩) 12 0 rfl I m_sw.rf
  · skip
    refine V0_iconst (pc := 10) (0) dX12_smeltBy_10 (by decide) ?_
    refine V_reti (pc := 11) _ dX12_smeltBy_11 rfl ?_
    exact ⟨by rw [m_smelt, if_neg (by rw [show m_runs I j = false from h7]; decide)], m_sw.rf, rfl⟩
theorem c_X12_smelt {l : Launch} {I : px_I} {J : px_J} {x : Int32} {m n : Nat} {Ls : List l_L} (hk : m_ok I m n) (hlaw : m_law I Ls) : Ct l mX12_smelt 5 [.ref 54, .int x] I J (fun r I' J' => r = some (.int (if m_joy I x = true then m_smelt (m_lay I m n) n Ls (ix x) else -1)) ∧ m_sl m n I I' ∧ J' = J) := by
  have hn10 := hk.2.2.2.1
  by_cases z : m_joy I x = true
  · have hx := m_joy_ix hk.2.2.1 hn10 z
    have hm := c_X12_smeltBy (l := l) (J := J) (j := ix x) hk.lay (hlaw.lay m_sd_lay) (by omega)
    rw [← hx.1] at hm
    refine Ct.of plX12_smelt (Nat.le_of_ble_eq_true rfl) [.ref 54, .int x] rfl ?_
    refine V0_aload_n (pc := 0) dX12_smelt_0 rfl ?_
    refine V0_iload_n (pc := 1) dX12_smelt_1 rfl ?_
    refine V_callVi (pc := 2) (M' := mX12_isJoy) dX12_smelt_2 mlX12_168 okX12_isJoy rfl c_X12_isJoy rfl rfl rfl rfl ⟨Nat.le_of_ble_eq_true rfl, Nat.le_of_ble_eq_true rfl⟩ ⟨Nat.le_refl 0, Nat.le_refl 0⟩ (Nat.le_of_ble_eq_true rfl) ?_
    refine V_ifneb (pc := 5) 10 dX12_smelt_5 (by decide) (fun h5 => ?_) (fun h5 => ?_)
    · skip
      refine V0_aload_n (pc := 10) dX12_smelt_10 rfl ?_
      refine V_callV (pc := 11) (M' := mX12_layNow) dX12_smelt_11 mlX12_304 okX12_layNow rfl (c_X12_layNow hk) rfl rfl rfl rfl ⟨Nat.le_of_ble_eq_true rfl, Nat.le_of_ble_eq_true rfl⟩ ⟨Nat.le_refl 0, Nat.le_refl 0⟩ (Nat.le_of_ble_eq_true rfl) ?_
      intro r1 I1 J1 hh
      obtain ⟨e1, e2, e3⟩ := hh
      rw [e1, e2, e3]
      clear e1 e2 e3 r1 I1 J1
      refine V0_aload_n (pc := 14) dX12_smelt_14 rfl ?_
      refine V0_iload_n (pc := 15) dX12_smelt_15 rfl ?_
      refine V_callV (pc := 16) (M' := mX12_smeltBy) dX12_smelt_16 mlX12_310 okX12_smeltBy rfl hm rfl rfl rfl rfl ⟨Nat.le_of_ble_eq_true rfl, Nat.le_of_ble_eq_true rfl⟩ ⟨Nat.le_refl 0, Nat.le_refl 0⟩ (Nat.le_of_ble_eq_true rfl) ?_
      intro r1 I1 J1 hh
      obtain ⟨e1, hfr, e3⟩ := hh
      rw [e1, e3]
      clear e1 e3 r1 J1
      refine V_reti (pc := 19) _ dX12_smelt_19 rfl ?_
      exact ⟨by rw [if_pos z], ⟨m_lay I m n, m_sd_lay, fun q a b c => hfr q a b⟩, rfl⟩
    · skip
      exact absurd (z.symm.trans (show m_joy I x = false from h5)) (by decide)
  · refine Ct.of plX12_smelt (Nat.le_of_ble_eq_true rfl) [.ref 54, .int x] rfl ?_
    refine V0_aload_n (pc := 0) dX12_smelt_0 rfl ?_
    refine V0_iload_n (pc := 1) dX12_smelt_1 rfl ?_
    refine V_callVi (pc := 2) (M' := mX12_isJoy) dX12_smelt_2 mlX12_168 okX12_isJoy rfl c_X12_isJoy rfl rfl rfl rfl ⟨Nat.le_of_ble_eq_true rfl, Nat.le_of_ble_eq_true rfl⟩ ⟨Nat.le_refl 0, Nat.le_refl 0⟩ (Nat.le_of_ble_eq_true rfl) ?_
    refine V_ifneb (pc := 5) 10 dX12_smelt_5 (by decide) (fun h5 => ?_) (fun h5 => ?_)
    · skip
      exact absurd h5 z
    · skip
      refine V0_iconst (pc := 8) (-1) dX12_smelt_8 (by decide) ?_
      refine V_reti (pc := 9) _ dX12_smelt_9 rfl ?_
      exact ⟨by rw [if_neg z] <;> rfl, ⟨I, m_sd_refl, fun q a b c => rfl⟩, rfl⟩
/-! windows -/
def m_br1 (S : px_I) (g : Nat → Int32) (w : Int32) (j : Nat) : Bool := !decide (g j = 0) && !(m_has w (m_hoj S j)) && !decide ((g j &&& (w ^^^ (-1))) = 0)
def m_none (S : px_I) (g : Nat → Int32) (n : Nat) (w : Int32) : Bool := !s_any (m_br1 S g w) n
theorem s_any_f {f : Nat → Bool} {n : Nat} (h : s_any f n = false) (h2 : f n = false) : s_any f (n + 1) = false := by rw [s_any_s, h, h2]; rfl
theorem m_br1_1 {S : px_I} {g : Nat → Int32} {w : Int32} {j : Nat} (h : g j = 0) : m_br1 S g w j = false := by rw [m_br1, decide_eq_true h]; rfl
theorem m_br1_2 {S : px_I} {g : Nat → Int32} {w : Int32} {j : Nat} (h : m_has w (m_hoj S j) = true) : m_br1 S g w j = false := by rw [m_br1, h]; simp
theorem m_br1_3 {S : px_I} {g : Nat → Int32} {w : Int32} {j : Nat} (h : (g j &&& (w ^^^ (-1))) = 0) : m_br1 S g w j = false := by rw [m_br1, decide_eq_true h]; simp
theorem m_br1_4 {S : px_I} {g : Nat → Int32} {w : Int32} {j : Nat} (h1 : ¬ g j = 0) (h2 : m_has w (m_hoj S j) = false) (h3 : ¬ (g j &&& (w ^^^ (-1))) = 0) : m_br1 S g w j = true := by rw [m_br1, decide_eq_false h1, h2, decide_eq_false h3]; rfl
theorem lp_X12_noneSmelt {l : Launch} {I : px_I} {J : px_J} {m n : Nat} {w : Int32} {Q : px_Q} (hk : m_ok I m n) (hQ : Q (some (.int (b2 (m_none I (I 80) n w)))) I J) : ∀ (f j : Nat), j + f = n → s_any (m_br1 I (I 80) w) j = false → V0 l (px_rm 1 0 0) mX12_noneSmelt (false, []) 0 0 2 [.ref 54, .int w, .int (nI j)] [] (px_mk I J) (px_q Q) := by
  have hn := hk.2.2.1
  have hn10 := hk.2.2.2.1
  have ho := hk.2.2.2.2.1
  intro f
  induction f with
  | zero =>
    intro j h1 h2
    obtain rfl : j = n := by omega
    refine V0_iload_n (pc := 2) dX12_noneSmelt_2 rfl ?_
    refine V0_aload_n (pc := 3) dX12_noneSmelt_3 rfl ?_
    refine V_geti (pc := 4) dX12_noneSmelt_4 flX12_135 rfl rfl ?_
    rw [hn]
    refine V1_icmp_ge (pc := 7) 52 dX12_noneSmelt_7 (by decide) (fun h7 => ?_) (fun h7 => ?_)
    · skip
      refine V0_iconst (pc := 52) (1) dX12_noneSmelt_52 (by decide) ?_
      refine V_retz (pc := 53) _ dX12_noneSmelt_53 rfl (Or.inr rfl) ?_
      rw [m_none, h2] at hQ
      exact hQ
    · skip
      exact absurd ((qI_lt (a := j) (b := j) (by omega) (by omega)).mp h7) (by omega)
  | succ f ih =>
    intro j h1 h2
    have hlt : nI j < nI n := (qI_lt (by omega) (by omega)).mpr (by omega)
    refine V0_iload_n (pc := 2) dX12_noneSmelt_2 rfl ?_
    refine V0_aload_n (pc := 3) dX12_noneSmelt_3 rfl ?_
    refine V_geti (pc := 4) dX12_noneSmelt_4 flX12_135 rfl rfl ?_
    rw [hn]
    refine V1_icmp_ge (pc := 7) 52 dX12_noneSmelt_7 (by decide) (fun h7 => ?_) (fun h7 => ?_)
    · skip
      exact absurd hlt h7
    · skip
      refine V0_aload_n (pc := 10) dX12_noneSmelt_10 rfl ?_
      refine V_getr (pc := 11) dX12_noneSmelt_11 flX12_87 rfl rfl ?_
      refine V0_iload_n (pc := 14) dX12_noneSmelt_14 rfl ?_
      refine V_iald (pc := 15) j dX12_noneSmelt_15 rfl rfl (by omega) ?_
      refine V0_if_eq (pc := 16) 46 dX12_noneSmelt_16 (by decide) (fun h16 => ?_) (fun h16 => ?_)
      · skip
        first | have e2 := m_br1_1 (S := I) (w := w) h16 | have e2 := m_br1_2 (g := I 80) h28 | have e2 := m_br1_3 (S := I) h41
        refine V0_iinc_2 (pc := 46) (nI (j + 1)) dX12_noneSmelt_46 (by decide) rfl (nI_1 _) ?_
        refine V0_goto (pc := 49) 2 dX12_noneSmelt_49 (by decide) ?_
        exact ih (j + 1) (by omega) (s_any_f h2 e2)
      · skip
        refine V0_iload_n (pc := 19) dX12_noneSmelt_19 rfl ?_
        refine V0_aload_n (pc := 20) dX12_noneSmelt_20 rfl ?_
        refine V0_iload_n (pc := 21) dX12_noneSmelt_21 rfl ?_
        refine V_callVi (pc := 22) (M' := mX12_houseOfJoy) dX12_noneSmelt_22 mlX12_267 okX12_houseOfJoy rfl (c_X12_houseOfJoy ho (by omega)) rfl rfl rfl rfl ⟨Nat.le_of_ble_eq_true rfl, Nat.le_of_ble_eq_true rfl⟩ ⟨Nat.le_refl 0, Nat.le_refl 0⟩ (Nat.le_of_ble_eq_true rfl) ?_
        refine V_callSi (pc := 25) (M' := mX12_has) dX12_noneSmelt_25 mlX12_292 okX12_has rfl c_X12_has rfl rfl ⟨Nat.le_of_ble_eq_true rfl, Nat.le_of_ble_eq_true rfl⟩ ⟨Nat.le_refl 0, Nat.le_refl 0⟩ (Nat.le_of_ble_eq_true rfl) ?_
        refine V_ifneb (pc := 28) 46 dX12_noneSmelt_28 (by decide) (fun h28 => ?_) (fun h28 => ?_)
        · skip
          first | have e2 := m_br1_1 (S := I) (w := w) h16 | have e2 := m_br1_2 (g := I 80) h28 | have e2 := m_br1_3 (S := I) h41
          refine V0_iinc_2 (pc := 46) (nI (j + 1)) dX12_noneSmelt_46 (by decide) rfl (nI_1 _) ?_
          refine V0_goto (pc := 49) 2 dX12_noneSmelt_49 (by decide) ?_
          exact ih (j + 1) (by omega) (s_any_f h2 e2)
        · skip
          refine V0_aload_n (pc := 31) dX12_noneSmelt_31 rfl ?_
          refine V_getr (pc := 32) dX12_noneSmelt_32 flX12_87 rfl rfl ?_
          refine V0_iload_n (pc := 35) dX12_noneSmelt_35 rfl ?_
          refine V_iald (pc := 36) j dX12_noneSmelt_36 rfl rfl (by omega) ?_
          refine V0_iload_n (pc := 37) dX12_noneSmelt_37 rfl ?_
          refine V0_iconst (pc := 38) (-1) dX12_noneSmelt_38 (by decide) ?_
          refine V0_ixor (pc := 39) dX12_noneSmelt_39 ?_
          refine V0_iand (pc := 40) dX12_noneSmelt_40 ?_
          refine V0_if_eq (pc := 41) 46 dX12_noneSmelt_41 (by decide) (fun h41 => ?_) (fun h41 => ?_)
          · skip
            first | have e2 := m_br1_1 (S := I) (w := w) h16 | have e2 := m_br1_2 (g := I 80) h28 | have e2 := m_br1_3 (S := I) h41
            refine V0_iinc_2 (pc := 46) (nI (j + 1)) dX12_noneSmelt_46 (by decide) rfl (nI_1 _) ?_
            refine V0_goto (pc := 49) 2 dX12_noneSmelt_49 (by decide) ?_
            exact ih (j + 1) (by omega) (s_any_f h2 e2)
          · skip
            refine V0_iconst (pc := 44) (0) dX12_noneSmelt_44 (by decide) ?_
            refine V_retz (pc := 45) _ dX12_noneSmelt_45 rfl (Or.inl rfl) ?_
            rw [m_none, s_any_of (j := j) (by omega) (m_br1_4 h16 h28 h41)] at hQ
            exact hQ
theorem c_X12_noneSmelt {l : Launch} {I : px_I} {J : px_J} {m n : Nat} {w : Int32} (hk : m_ok I m n) : CtI l mX12_noneSmelt 1 [.ref 54, .int w] I J (b2 (m_none I (I 80) n w)) := by
  refine Ct.of plX12_noneSmelt (Nat.le_of_ble_eq_true rfl) [.ref 54, .int w, .null] rfl ?_
  refine V0_iconst (pc := 0) (0) dX12_noneSmelt_0 (by decide) ?_
  refine V0_istore_2 (pc := 1) dX12_noneSmelt_1 (by decide) rfl ?_
  exact lp_X12_noneSmelt hk ⟨rfl, rfl, rfl⟩ n 0 (by omega) rfl

