/-! the Model: which windows; a day in deed -/
def m_sx (I X : px_I) : Prop := ∀ q, q ≠ 75 → q ≠ 76 → q ≠ 80 → X q = I q
theorem m_sx.rf {I : px_I} : m_sx I I := fun _ _ _ _ => rfl
theorem m_sx.tr {I X Y : px_I} (h : m_sx I X) (g : m_sx X Y) : m_sx I Y := fun q a b c => (g q a b c).trans (h q a b c)
theorem m_sx.up {I X : px_I} {k : Nat} {x : Int32} (h : m_sx I X) : m_sx I (px_up X 80 k x) := fun q a b c => (px_up_row c).trans (h q a b c)
theorem m_sw.sx {I X : px_I} (h : m_sw I X) : m_sx I X := fun q a b _ => h q a b
theorem m_sx.ok {I I' : px_I} {m n : Nat} (h : m_sx I I') (hk : m_ok I m n) : m_ok I' m n := hk.of (by rw [h _ (by omega) (by omega) (by omega)]) (by rw [h _ (by omega) (by omega) (by omega)]) (h _ (by omega) (by omega) (by omega)) (h _ (by omega) (by omega) (by omega))
theorem m_sx.law {I I' : px_I} {Ls : List l_L} (h : m_sx I I') (hk : m_law I Ls) : m_law I' Ls := hk.of (fun q a b => h q (by omega) (by omega) (by omega)) (by rw [h _ (by omega) (by omega) (by omega)])
theorem m_smelt_sx {I I' : px_I} {n j : Nat} {Ls : List l_L} (h : m_sx I I') : m_smelt I' n Ls j = m_smelt I n Ls j := by
  have h56 := h 56 (by omega) (by omega) (by omega)
  have h58 := h 58 (by omega) (by omega) (by omega)
  have h54 := h 54 (by omega) (by omega) (by omega)
  have h60 := h 60 (by omega) (by omega) (by omega)
  have h61 := h 61 (by omega) (by omega) (by omega)
  have h64 := h 64 (by omega) (by omega) (by omega)
  have h77 := h 77 (by omega) (by omega) (by omega)
  have h78 := h 78 (by omega) (by omega) (by omega)
  have h79 := h 79 (by omega) (by omega) (by omega)
  have e1 : ∀ j, m_oth I' j = m_oth I j := by
    intro j
    funext e
    simp only [m_oth, m_runs, m_hoj, h56, h58, h77, h78, h79]
  have e2 : ∀ j a o, m_nm I' j a o = m_nm I j a o := by
    intro j a o
    funext e
    simp only [m_nm, h54, h58, h60, h61]
  have e3 : ∀ house, m_much I' n Ls j house = m_much I n Ls j house := by
    intro house
    unfold m_much
    rw [e1, e2]
    simp only [m_hoj, h56, h60, h77]
  have e : m_smh I' n Ls j = m_smh I n Ls j := by
    funext k
    simp only [m_smh, e3, m_hoj, h56, h77, h64]
  unfold m_smelt
  rw [e]
  simp only [m_runs, h58, h78, h79]
theorem l1_X12_shut {l : Launch} {S : px_I} {J : px_J} {m n : Nat} {w : Int32} {Ls : List l_L} {Q : px_Q} (hk : m_ok S m n) (hlaw : m_law S Ls) (kk : ∀ X v2, m_sx S X → (∀ i, i < n → X 80 i = m_smelt S n Ls i) → V0 l (px_rm 5 0 0) mX12_shut (false, []) 0 0 42 [.ref 54, .int w, v2, .null] [] (px_mk X J) (px_q Q)) : ∀ (f j : Nat), j + f = n → ∀ X, m_sx S X → (∀ i, i < j → X 80 i = m_smelt S n Ls i) → V0 l (px_rm 5 0 0) mX12_shut (false, []) 0 0 17 [.ref 54, .int w, .int (nI j), .null] [] (px_mk X J) (px_q Q) := by
  have hn := hk.2.2.1
  have hn10 := hk.2.2.2.1
  intro f
  induction f with
  | zero =>
    intro j h1 X hsx hr
    obtain rfl : j = n := by omega
    have hkX := hsx.ok hk
    refine V0_iload_n (pc := 17) dX12_shut_17 rfl ?_
    refine V0_aload_n (pc := 18) dX12_shut_18 rfl ?_
    refine V_geti (pc := 19) dX12_shut_19 flX12_135 rfl rfl ?_
    rw [hkX.2.2.1]
    refine V1_icmp_ge (pc := 22) 42 dX12_shut_22 (by decide) (fun h22 => ?_) (fun h22 => ?_)
    · skip
      exact kk X _ hsx hr
    · skip
      exact absurd ((qI_lt (a := j) (b := j) (by omega) (by omega)).mp h22) (by omega)
  | succ f ih =>
    intro j h1 X hsx hr
    have hlt : nI j < nI n := (qI_lt (by omega) (by omega)).mpr (by omega)
    have hkX := hsx.ok hk
    refine V0_iload_n (pc := 17) dX12_shut_17 rfl ?_
    refine V0_aload_n (pc := 18) dX12_shut_18 rfl ?_
    refine V_geti (pc := 19) dX12_shut_19 flX12_135 rfl rfl ?_
    rw [hkX.2.2.1]
    refine V1_icmp_ge (pc := 22) 42 dX12_shut_22 (by decide) (fun h22 => ?_) (fun h22 => ?_)
    · skip
      exact absurd hlt h22
    · skip
      refine V0_aload_n (pc := 25) dX12_shut_25 rfl ?_
      refine V_getr (pc := 26) dX12_shut_26 flX12_87 rfl rfl ?_
      refine V0_iload_n (pc := 29) dX12_shut_29 rfl ?_
      refine V0_aload_n (pc := 30) dX12_shut_30 rfl ?_
      refine V0_iload_n (pc := 31) dX12_shut_31 rfl ?_
      refine V_callV (pc := 32) (M' := mX12_smeltBy) dX12_shut_32 mlX12_310 okX12_smeltBy rfl (c_X12_smeltBy hkX (hsx.law hlaw) (by omega)) rfl rfl rfl rfl ⟨Nat.le_of_ble_eq_true rfl, Nat.le_of_ble_eq_true rfl⟩ ⟨Nat.le_refl 0, Nat.le_refl 0⟩ (Nat.le_of_ble_eq_true rfl) ?_
      intro r1 I1 J1 hh
      obtain ⟨e1, hfr, e3⟩ := hh
      rw [e1, e3]
      clear e1 e3 r1 J1
      rw [m_smelt_sx hsx]
      refine V_iast (pc := 35) j dX12_shut_35 rfl rfl (by omega) ?_
      refine V0_iinc_2 (pc := 36) (nI (j + 1)) dX12_shut_36 (by decide) rfl (nI_1 _) ?_
      refine V0_goto (pc := 39) 17 dX12_shut_39 (by decide) ?_
      refine ih (j + 1) (by omega) _ ((hsx.tr hfr.sx).up) (fun i hi => ?_)
      by_cases e : i = j
      · subst e; exact px_up_same
      · rw [px_up_ne (by omega), hfr 80 (by omega) (by omega)]; exact hr i (by omega)
theorem n_and_l {a b : Prop} (h : a) : ¬ (¬ a ∧ b) := fun q => q.1 h
theorem n_and_r {a b : Prop} (h : b) : ¬ (a ∧ ¬ b) := fun q => q.2 h
theorem b_nt {b : Bool} (h : b = false) : ¬ b = true := by rw [h]; decide
def m_sh (t : Nat → Bool) : Nat → Int32
  | 0 => -2
  | w + 1 => if ¬ m_sh t w < 0 ∧ ¬ s_bc (nI w) < s_bc (m_sh t w) then m_sh t w else if t w = true then nI w else m_sh t w
theorem m_sh_or {t : Nat → Bool} : ∀ w, m_sh t w = -2 ∨ ∃ b, b < w ∧ m_sh t w = nI b := by
  intro w
  induction w with
  | zero => exact Or.inl rfl
  | succ w ih =>
    have ih' : m_sh t w = -2 ∨ ∃ b, b < w + 1 ∧ m_sh t w = nI b := ih.elim Or.inl (fun ⟨b, h1, h2⟩ => Or.inr ⟨b, by omega, h2⟩)
    unfold m_sh
    split
    · exact ih'
    · split
      · exact Or.inr ⟨w, by omega, rfl⟩
      · exact ih'
theorem m_sh_ge {t : Nat → Bool} {w : Nat} (hw : w ≤ 4096) (h : ¬ m_sh t w < 0) : m_sh t w = nI (ix (m_sh t w)) ∧ ix (m_sh t w) < 4096 := by
  rcases m_sh_or (t := t) w with e | ⟨b, h1, e⟩
  · rw [e] at h; exact absurd (by decide) h
  · rw [e, ix_nI (by omega)]; exact ⟨rfl, by omega⟩
theorem l2_X12_shut {l : Launch} {X : px_I} {J : px_J} {m n : Nat} {w : Int32} {Q : px_Q} (hk : m_ok X m n) (kk : V0 l (px_rm 5 0 0) mX12_shut (false, []) 0 0 88 [.ref 54, .int w, .int (m_sh (fun s => m_none X (X 80) n (nI s)) 4096), .int (nI 4096)] [] (px_mk X J) (px_q Q)) : ∀ (f s : Nat), s + f = 4096 → V0 l (px_rm 5 0 0) mX12_shut (false, []) 0 0 47 [.ref 54, .int w, .int (m_sh (fun s => m_none X (X 80) n (nI s)) s), .int (nI s)] [] (px_mk X J) (px_q Q) := by
  intro f
  induction f with
  | zero =>
    intro s h1
    obtain rfl : s = 4096 := by omega
    refine V0_iload_n (pc := 47) dX12_shut_47 rfl ?_
    refine V0_sipush (pc := 48) (4096) dX12_shut_48 (by decide) ?_
    refine V1_icmp_ge (pc := 51) 88 dX12_shut_51 (by decide) (fun h51 => ?_) (fun h51 => ?_)
    · skip
      exact kk
    · skip
      exact absurd (show nI 4096 < (4096 : Int32) from h51) (by decide)
  | succ f ih =>
    intro s h1
    have hlt : nI s < (4096 : Int32) := (qI_lt (a := s) (b := 4096) (by omega) (by omega)).mpr (by omega)
    have e1 : m_sh (fun s => m_none X (X 80) n (nI s)) (s + 1) = if ¬ m_sh (fun s => m_none X (X 80) n (nI s)) s < 0 ∧ ¬ s_bc (nI s) < s_bc (m_sh (fun s => m_none X (X 80) n (nI s)) s) then m_sh (fun s => m_none X (X 80) n (nI s)) s else if m_none X (X 80) n (nI s) = true then nI s else m_sh (fun s => m_none X (X 80) n (nI s)) s := rfl
    have hge : ¬ m_sh (fun s => m_none X (X 80) n (nI s)) s < 0 → CtI l mX12_bitsOf 0 [.int (m_sh (fun s => m_none X (X 80) n (nI s)) s)] X J (s_bc (m_sh (fun s => m_none X (X 80) n (nI s)) s)) := by
      intro q
      have hb := m_sh_ge (t := fun s => m_none X (X 80) n (nI s)) (w := s) (by omega) q
      have hc := c_X12_bitsOf (l := l) (I := X) (J := J) hb.2
      rw [← hb.1] at hc
      exact hc
    refine V0_iload_n (pc := 47) dX12_shut_47 rfl ?_
    refine V0_sipush (pc := 48) (4096) dX12_shut_48 (by decide) ?_
    refine V1_icmp_ge (pc := 51) 88 dX12_shut_51 (by decide) (fun h51 => ?_) (fun h51 => ?_)
    · skip
      exact absurd hlt h51
    · skip
      refine V0_iload_n (pc := 54) dX12_shut_54 rfl ?_
      refine V0_if_lt (pc := 55) 72 dX12_shut_55 (by decide) (fun h55 => ?_) (fun h55 => ?_)
      · skip
        first | have e2 := e1.trans (if_neg (n_and_l h55)) | have e2 := e1.trans (if_neg (n_and_r h66))
        refine V0_aload_n (pc := 72) dX12_shut_72 rfl ?_
        refine V0_iload_n (pc := 73) dX12_shut_73 rfl ?_
        refine V_callVi (pc := 74) (M' := mX12_noneSmelt) dX12_shut_74 mlX12_316 okX12_noneSmelt rfl (c_X12_noneSmelt hk) rfl rfl rfl rfl ⟨Nat.le_of_ble_eq_true rfl, Nat.le_of_ble_eq_true rfl⟩ ⟨Nat.le_refl 0, Nat.le_refl 0⟩ (Nat.le_of_ble_eq_true rfl) ?_
        refine V_ifeqb (pc := 77) 82 dX12_shut_77 (by decide) (fun h77 => ?_) (fun h77 => ?_)
        · skip
          first | have e4 := e3 | have e3 := e2.trans (if_neg (b_nt h77)) | have e3 := e2
          refine V0_iinc_3 (pc := 82) (nI (s + 1)) dX12_shut_82 (by decide) rfl (nI_1 _) ?_
          refine V0_goto (pc := 85) 47 dX12_shut_85 (by decide) ?_
          exact V_ls (by rw [e3]) (ih (s + 1) (by omega))
        · skip
          have e3 := e2.trans (if_pos h77)
          refine V0_iload_n (pc := 80) dX12_shut_80 rfl ?_
          refine V0_istore_2 (pc := 81) dX12_shut_81 (by decide) rfl ?_
          first | have e4 := e3 | have e3 := e2.trans (if_neg (b_nt h77)) | have e3 := e2
          refine V0_iinc_3 (pc := 82) (nI (s + 1)) dX12_shut_82 (by decide) rfl (nI_1 _) ?_
          refine V0_goto (pc := 85) 47 dX12_shut_85 (by decide) ?_
          exact V_ls (by rw [e3]) (ih (s + 1) (by omega))
      · skip
        have hbb := hge h55
        refine V0_iload_n (pc := 58) dX12_shut_58 rfl ?_
        refine V_callSi (pc := 59) (M' := mX12_bitsOf) dX12_shut_59 mlX12_313 okX12_bitsOf rfl (c_X12_bitsOf (by omega)) rfl rfl ⟨Nat.le_of_ble_eq_true rfl, Nat.le_of_ble_eq_true rfl⟩ ⟨Nat.le_refl 0, Nat.le_refl 0⟩ (Nat.le_of_ble_eq_true rfl) ?_
        refine V0_iload_n (pc := 62) dX12_shut_62 rfl ?_
        refine V_callSi (pc := 63) (M' := mX12_bitsOf) dX12_shut_63 mlX12_313 okX12_bitsOf rfl hbb rfl rfl ⟨Nat.le_of_ble_eq_true rfl, Nat.le_of_ble_eq_true rfl⟩ ⟨Nat.le_refl 0, Nat.le_refl 0⟩ (Nat.le_of_ble_eq_true rfl) ?_
        refine V0_icmp_lt (pc := 66) 72 dX12_shut_66 (by decide) (fun h66 => ?_) (fun h66 => ?_)
        · skip
          first | have e2 := e1.trans (if_neg (n_and_l h55)) | have e2 := e1.trans (if_neg (n_and_r h66))
          refine V0_aload_n (pc := 72) dX12_shut_72 rfl ?_
          refine V0_iload_n (pc := 73) dX12_shut_73 rfl ?_
          refine V_callVi (pc := 74) (M' := mX12_noneSmelt) dX12_shut_74 mlX12_316 okX12_noneSmelt rfl (c_X12_noneSmelt hk) rfl rfl rfl rfl ⟨Nat.le_of_ble_eq_true rfl, Nat.le_of_ble_eq_true rfl⟩ ⟨Nat.le_refl 0, Nat.le_refl 0⟩ (Nat.le_of_ble_eq_true rfl) ?_
          refine V_ifeqb (pc := 77) 82 dX12_shut_77 (by decide) (fun h77 => ?_) (fun h77 => ?_)
          · skip
            first | have e4 := e3 | have e3 := e2.trans (if_neg (b_nt h77)) | have e3 := e2
            refine V0_iinc_3 (pc := 82) (nI (s + 1)) dX12_shut_82 (by decide) rfl (nI_1 _) ?_
            refine V0_goto (pc := 85) 47 dX12_shut_85 (by decide) ?_
            exact V_ls (by rw [e3]) (ih (s + 1) (by omega))
          · skip
            have e3 := e2.trans (if_pos h77)
            refine V0_iload_n (pc := 80) dX12_shut_80 rfl ?_
            refine V0_istore_2 (pc := 81) dX12_shut_81 (by decide) rfl ?_
            first | have e4 := e3 | have e3 := e2.trans (if_neg (b_nt h77)) | have e3 := e2
            refine V0_iinc_3 (pc := 82) (nI (s + 1)) dX12_shut_82 (by decide) rfl (nI_1 _) ?_
            refine V0_goto (pc := 85) 47 dX12_shut_85 (by decide) ?_
            exact V_ls (by rw [e3]) (ih (s + 1) (by omega))
        · skip
          have e2 := e1.trans (if_pos ⟨h55, h66⟩)
          refine V0_goto (pc := 69) 82 dX12_shut_69 (by decide) ?_
          first | have e4 := e3 | have e3 := e2.trans (if_neg (b_nt h77)) | have e3 := e2
          refine V0_iinc_3 (pc := 82) (nI (s + 1)) dX12_shut_82 (by decide) rfl (nI_1 _) ?_
          refine V0_goto (pc := 85) 47 dX12_shut_85 (by decide) ?_
          exact V_ls (by rw [e3]) (ih (s + 1) (by omega))
theorem m_sh_found {t : Nat → Bool} {w0 : Nat} (h : t w0 = true) : ∀ w, w0 < w → ¬ m_sh t w < 0 ∨ 4096 < w := by
  intro w
  induction w with
  | zero => intro q; omega
  | succ w ih =>
    intro q
    by_cases hw : 4096 < w + 1
    · exact Or.inr hw
    refine Or.inl ?_
    rcases m_sh_or (t := t) w with e | ⟨b, h1, e⟩
    · have e0 : m_sh t w < 0 := by rw [e]; decide
      have e1 : w = w0 := by
        by_cases hq : w0 < w
        · rcases ih hq with z | z
          · exact absurd e0 z
          · omega
        · omega
      subst e1
      unfold m_sh
      rw [if_neg (n_and_l e0), if_pos h]
      exact nI_nn (by omega)
    · have e0 : ¬ m_sh t w < 0 := by rw [e]; exact nI_nn (by omega)
      unfold m_sh
      split
      · exact e0
      · split
        · exact nI_nn (by omega)
        · exact e0
theorem m_4095 : ∀ i, i < 12 → bt (nI 4095 ^^^ (-1)) i = false := by decide +kernel
theorem m_none_full {X S : px_I} {n : Nat} {Ls : List l_L} (hr : ∀ i, i < n → X 80 i = m_smelt S n Ls i) : m_none X (X 80) n (nI 4095) = true := by
  unfold m_none
  rw [Bool.not_eq_true', Bool.eq_false_iff]
  intro h
  have all : ∀ k, k ≤ n → s_any (m_br1 X (X 80) (nI 4095)) k = false := by
    intro k
    induction k with
    | zero => intro _; rfl
    | succ k ih =>
      intro hk
      refine s_any_f (ih (by omega)) (m_br1_3 ?_)
      rw [hr k (by omega)]
      unfold m_smelt
      split
      · apply bt_ext
        intro i hi
        rw [bt_and, bt_bits 12 (by omega) i hi, bt_0]
        by_cases hc : i < 12
        · rw [m_4095 i hc, Bool.and_false]
        · rw [decide_eq_false hc, Bool.false_and, Bool.false_and]
      · apply bt_ext
        intro i hi
        rw [bt_and, bt_0, Bool.false_and]
  rw [all n (Nat.le_refl n)] at h
  exact absurd h (by decide)
def m_shut (S : px_I) (n : Nat) (Ls : List l_L) : Int32 := m_sh (fun s => m_none S (m_smelt S n Ls) n (nI s)) 4096
theorem s_any_congr2 {c c' : Nat → Bool} {k : Nat} (h : ∀ j, j < k → c j = c' j) : s_any c k = s_any c' k := s_any_congr k h
theorem m_shut_eq {X S : px_I} {n : Nat} {Ls : List l_L} (hs : m_sx S X) (hr : ∀ i, i < n → X 80 i = m_smelt S n Ls i) : m_sh (fun s => m_none X (X 80) n (nI s)) 4096 = m_shut S n Ls := by
  unfold m_shut
  congr 1
  funext s
  unfold m_none
  congr 1
  refine s_any_congr n (fun j hj => ?_)
  simp only [m_br1, hr j hj, m_hoj, hs 56 (by omega) (by omega) (by omega), hs 77 (by omega) (by omega) (by omega)]
theorem c_X12_shut {l : Launch} {I : px_I} {J : px_J} {w : Int32} {m n : Nat} {Ls : List l_L} (hk : m_ok I m n) (hlaw : m_law I Ls) : Ct l mX12_shut 5 [.ref 54, .int w] I J (fun r I' J' => r = some (.int (if s_within w 0 1 = true then (if w = 0 then s_bc (m_shut (m_lay I m n) n Ls) else m_shut (m_lay I m n) n Ls) else -1)) ∧ m_sl m n I I' ∧ J' = J) := by
  have hl := hk.lay
  by_cases z : s_within w 0 1 = true
  · have kk : ∀ (X : px_I) (v2 : Value), m_sx (m_lay I m n) X → (∀ i, i < n → X 80 i = m_smelt (m_lay I m n) n Ls i) → V0 l (px_rm 5 0 0) mX12_shut (false, []) 0 0 42 [.ref 54, .int w, v2, .null] [] (px_mk X J) (px_q (fun r I' J' => r = some (.int (if s_within w 0 1 = true then (if w = 0 then s_bc (m_shut (m_lay I m n) n Ls) else m_shut (m_lay I m n) n Ls) else -1)) ∧ m_sl m n I I' ∧ J' = J)) := by
      intro X v2 hX hr
      have hkX := hX.ok hl
      have es := m_shut_eq hX hr
      have hfd := (m_sh_found (t := fun s => m_none X (X 80) n (nI s)) (m_none_full hr) 4096 (by omega)).resolve_right (by omega)
      have hge := m_sh_ge (by omega) hfd
      have hc := c_X12_bitsOf (l := l) (I := X) (J := J) hge.2
      rw [← hge.1] at hc
      rw [es] at hc
      have hsl : m_sl m n I X := ⟨m_lay I m n, m_sd_lay, hX⟩
      have k8 : V0 l (px_rm 5 0 0) mX12_shut (false, []) 0 0 88 [.ref 54, .int w, .int (m_sh (fun s => m_none X (X 80) n (nI s)) 4096), .int (nI 4096)] [] (px_mk X J) (px_q (fun r I' J' => r = some (.int (if s_within w 0 1 = true then (if w = 0 then s_bc (m_shut (m_lay I m n) n Ls) else m_shut (m_lay I m n) n Ls) else -1)) ∧ m_sl m n I I' ∧ J' = J)) := by
        rw [es]
        refine V0_iload_n (pc := 88) dX12_shut_88 rfl ?_
        refine V0_if_ne (pc := 89) 99 dX12_shut_89 (by decide) (fun h89 => ?_) (fun h89 => ?_)
        · skip
          refine V0_iload_n (pc := 99) dX12_shut_99 rfl ?_
          refine V_reti (pc := 100) _ dX12_shut_100 rfl ?_
          first | exact ⟨by rw [if_pos z, if_pos h89], hsl, rfl⟩ | exact ⟨by rw [if_pos z, if_neg h89], hsl, rfl⟩
        · skip
          refine V0_iload_n (pc := 92) dX12_shut_92 rfl ?_
          refine V_callSi (pc := 93) (M' := mX12_bitsOf) dX12_shut_93 mlX12_313 okX12_bitsOf rfl hc rfl rfl ⟨Nat.le_of_ble_eq_true rfl, Nat.le_of_ble_eq_true rfl⟩ ⟨Nat.le_refl 0, Nat.le_refl 0⟩ (Nat.le_of_ble_eq_true rfl) ?_
          refine V0_goto (pc := 96) 100 dX12_shut_96 (by decide) ?_
          refine V_reti (pc := 100) _ dX12_shut_100 rfl ?_
          first | exact ⟨by rw [if_pos z, if_pos h89], hsl, rfl⟩ | exact ⟨by rw [if_pos z, if_neg h89], hsl, rfl⟩
      have h2 := l2_X12_shut (l := l) (X := X) (J := J) (w := w) hkX k8 4096 0 (by omega)
      refine V0_bipush (pc := 42) (-2) dX12_shut_42 (by decide) ?_
      refine V0_istore_2 (pc := 44) dX12_shut_44 (by decide) rfl ?_
      refine V0_iconst (pc := 45) (0) dX12_shut_45 (by decide) ?_
      refine V0_istore_3 (pc := 46) dX12_shut_46 (by decide) rfl ?_
      exact h2
    have h1 := l1_X12_shut (l := l) (S := m_lay I m n) (J := J) (w := w) (Ls := Ls) (Q := (fun r I' J' => r = some (.int (if s_within w 0 1 = true then (if w = 0 then s_bc (m_shut (m_lay I m n) n Ls) else m_shut (m_lay I m n) n Ls) else -1)) ∧ m_sl m n I I' ∧ J' = J)) hl (hlaw.lay m_sd_lay) kk n 0 (by omega) (m_lay I m n) m_sx.rf (fun i hi => absurd hi (Nat.not_lt_zero i))
    refine Ct.of plX12_shut (Nat.le_of_ble_eq_true rfl) [.ref 54, .int w, .null, .null] rfl ?_
    refine V0_iload_n (pc := 0) dX12_shut_0 rfl ?_
    refine V0_iconst (pc := 1) (0) dX12_shut_1 (by decide) ?_
    refine V0_iconst (pc := 2) (1) dX12_shut_2 (by decide) ?_
    refine V_callSi (pc := 3) (M' := mX12_in) dX12_shut_3 mlX12_131 okX12_in rfl c_X12_in rfl rfl ⟨Nat.le_of_ble_eq_true rfl, Nat.le_of_ble_eq_true rfl⟩ ⟨Nat.le_refl 0, Nat.le_refl 0⟩ (Nat.le_of_ble_eq_true rfl) ?_
    refine V_ifneb (pc := 6) 11 dX12_shut_6 (by decide) (fun h6 => ?_) (fun h6 => ?_)
    · skip
      refine V0_aload_n (pc := 11) dX12_shut_11 rfl ?_
      refine V_callV (pc := 12) (M' := mX12_layNow) dX12_shut_12 mlX12_304 okX12_layNow rfl (c_X12_layNow hk) rfl rfl rfl rfl ⟨Nat.le_of_ble_eq_true rfl, Nat.le_of_ble_eq_true rfl⟩ ⟨Nat.le_refl 0, Nat.le_refl 0⟩ (Nat.le_of_ble_eq_true rfl) ?_
      intro r1 I1 J1 hh
      obtain ⟨e1, e2, e3⟩ := hh
      rw [e1, e2, e3]
      clear e1 e2 e3 r1 I1 J1
      refine V0_iconst (pc := 15) (0) dX12_shut_15 (by decide) ?_
      refine V0_istore_2 (pc := 16) dX12_shut_16 (by decide) rfl ?_
      exact h1
    · skip
      exact absurd (z.symm.trans (show s_within w 0 1 = false from h6)) (by decide)
  · refine Ct.of plX12_shut (Nat.le_of_ble_eq_true rfl) [.ref 54, .int w, .null, .null] rfl ?_
    refine V0_iload_n (pc := 0) dX12_shut_0 rfl ?_
    refine V0_iconst (pc := 1) (0) dX12_shut_1 (by decide) ?_
    refine V0_iconst (pc := 2) (1) dX12_shut_2 (by decide) ?_
    refine V_callSi (pc := 3) (M' := mX12_in) dX12_shut_3 mlX12_131 okX12_in rfl c_X12_in rfl rfl ⟨Nat.le_of_ble_eq_true rfl, Nat.le_of_ble_eq_true rfl⟩ ⟨Nat.le_refl 0, Nat.le_refl 0⟩ (Nat.le_of_ble_eq_true rfl) ?_
    refine V_ifneb (pc := 6) 11 dX12_shut_6 (by decide) (fun h6 => ?_) (fun h6 => ?_)
    · skip
      exact absurd h6 z
    · skip
      refine V0_iconst (pc := 9) (-1) dX12_shut_9 (by decide) ?_
      refine V_reti (pc := 10) _ dX12_shut_10 rfl ?_
      exact ⟨by rw [if_neg z] <;> rfl, ⟨I, m_sd_refl, fun q a b c => rfl⟩, rfl⟩
/-! inspections -/
theorem lp_X12_livedIn {l : Launch} {I : px_I} {J : px_J} {m : Nat} {Q : px_Q} (hm : I 54 1 = nI m) (hm7 : m ≤ 7) (hQ : Q (some (.int (s_live (I 77) m))) I J) : ∀ (f p : Nat), p + f = m → V0 l (px_rm 0 0 0) mX12_livedIn (false, []) 0 0 4 [.ref 54, .int (s_live (I 77) p), .int (nI p)] [] (px_mk I J) (px_q Q) := by
  intro f
  induction f with
  | zero =>
    intro p h1
    obtain rfl : p = m := by omega
    refine V0_iload_n (pc := 4) dX12_livedIn_4 rfl ?_
    refine V0_aload_n (pc := 5) dX12_livedIn_5 rfl ?_
    refine V_geti (pc := 6) dX12_livedIn_6 flX12_128 rfl rfl ?_
    rw [hm]
    refine V1_icmp_ge (pc := 9) 29 dX12_livedIn_9 (by decide) (fun h9 => ?_) (fun h9 => ?_)
    · skip
      refine V0_iload_n (pc := 29) dX12_livedIn_29 rfl ?_
      refine V_reti (pc := 30) _ dX12_livedIn_30 rfl ?_
      exact hQ
    · skip
      exact absurd ((qI_lt (a := p) (b := p) (by omega) (by omega)).mp h9) (by omega)
  | succ f ih =>
    intro p h1
    have hlt : nI p < nI m := (qI_lt (by omega) (by omega)).mpr (by omega)
    refine V0_iload_n (pc := 4) dX12_livedIn_4 rfl ?_
    refine V0_aload_n (pc := 5) dX12_livedIn_5 rfl ?_
    refine V_geti (pc := 6) dX12_livedIn_6 flX12_128 rfl rfl ?_
    rw [hm]
    refine V1_icmp_ge (pc := 9) 29 dX12_livedIn_9 (by decide) (fun h9 => ?_) (fun h9 => ?_)
    · skip
      exact absurd hlt h9
    · skip
      refine V0_iload_n (pc := 12) dX12_livedIn_12 rfl ?_
      refine V0_iconst (pc := 13) (1) dX12_livedIn_13 (by decide) ?_
      refine V0_aload_n (pc := 14) dX12_livedIn_14 rfl ?_
      refine V_getr (pc := 15) dX12_livedIn_15 flX12_78 rfl rfl ?_
      refine V0_iload_n (pc := 18) dX12_livedIn_18 rfl ?_
      refine V_iald (pc := 19) p dX12_livedIn_19 rfl rfl (by omega) ?_
      refine V0_ishl (pc := 20) dX12_livedIn_20 ?_
      refine V0_ior (pc := 21) dX12_livedIn_21 ?_
      refine V0_istore_1 (pc := 22) dX12_livedIn_22 (by decide) rfl ?_
      refine V0_iinc_2 (pc := 23) (nI (p + 1)) dX12_livedIn_23 (by decide) rfl (nI_1 _) ?_
      refine V0_goto (pc := 26) 4 dX12_livedIn_26 (by decide) ?_
      exact ih (p + 1) (by omega)
theorem c_X12_livedIn {l : Launch} {I : px_I} {J : px_J} {m : Nat} (hm : I 54 1 = nI m) (hm7 : m ≤ 7) : CtI l mX12_livedIn 0 [.ref 54] I J (s_live (I 77) m) := by
  refine Ct.of plX12_livedIn (Nat.le_of_ble_eq_true rfl) [.ref 54, .null, .null] rfl ?_
  refine V0_iconst (pc := 0) (0) dX12_livedIn_0 (by decide) ?_
  refine V0_istore_1 (pc := 1) dX12_livedIn_1 (by decide) rfl ?_
  refine V0_iconst (pc := 2) (0) dX12_livedIn_2 (by decide) ?_
  refine V0_istore_2 (pc := 3) dX12_livedIn_3 (by decide) rfl ?_
  exact lp_X12_livedIn hm hm7 ⟨rfl, rfl, rfl⟩ m 0 (by omega)
def m_fin (S : px_I) (m n : Nat) (Ls : List l_L) (j : Nat) : Bool := !decide ((m_smelt S n Ls j &&& s_live (S 77) m) = 0)
theorem m_fin_0 {S : px_I} {m n j : Nat} {Ls : List l_L} (h : (m_smelt S n Ls j &&& s_live (S 77) m) = 0) : m_fin S m n Ls j = false := by rw [m_fin, decide_eq_true h]; rfl
theorem m_cnt_f {f : Nat → Bool} {n : Nat} (h : f n = false) : s_cnt f (n + 1) = s_cnt f n := by rw [s_cnt, if_neg (by rw [h]; decide)]
theorem lp_X12_inspect {l : Launch} {S : px_I} {J : px_J} {m n : Nat} {Ls : List l_L} {Q : px_Q} (hk : m_ok S m n) (hlaw : m_law S Ls) (hQ : ∀ X, m_sx S X → Q (some (.int (s_cnt (m_fin S m n Ls) n))) (px_up X 81 4 (S 81 4 + s_cnt (m_fin S m n Ls) n)) J) : ∀ (f j : Nat), j + f = n → ∀ X, m_sx S X → V0 l (px_rm 5 0 0) mX12_inspect (false, []) 0 0 8 [.ref 54, .int (s_cnt (m_fin S m n Ls) j), .int (nI j)] [] (px_mk X J) (px_q Q) := by
  have hn := hk.2.2.1
  have hn10 := hk.2.2.2.1
  intro f
  induction f with
  | zero =>
    intro j h1 X hsx
    obtain rfl : j = n := by omega
    have hkX := hsx.ok hk
    refine V0_iload_n (pc := 8) dX12_inspect_8 rfl ?_
    refine V0_aload_n (pc := 9) dX12_inspect_9 rfl ?_
    refine V_geti (pc := 10) dX12_inspect_10 flX12_135 rfl rfl ?_
    rw [hkX.2.2.1]
    refine V1_icmp_ge (pc := 13) 38 dX12_inspect_13 (by decide) (fun h13 => ?_) (fun h13 => ?_)
    · skip
      refine V0_aload_n (pc := 38) dX12_inspect_38 rfl ?_
      refine V_getr (pc := 39) dX12_inspect_39 flX12_90 rfl rfl ?_
      refine V0_iconst (pc := 42) (4) dX12_inspect_42 (by decide) ?_
      refine V0_dup2 (pc := 43) dX12_inspect_43 rfl rfl ?_
      refine V_iald (pc := 44) 4 dX12_inspect_44 rfl rfl (by omega) ?_
      rw [show X 81 = S 81 from hsx 81 (by omega) (by omega) (by omega)]
      refine V0_iload_n (pc := 45) dX12_inspect_45 rfl ?_
      refine V0_iadd (pc := 46) dX12_inspect_46 ?_
      refine V_iast (pc := 47) 4 dX12_inspect_47 rfl rfl (by omega) ?_
      refine V0_iload_n (pc := 48) dX12_inspect_48 rfl ?_
      refine V_reti (pc := 49) _ dX12_inspect_49 rfl ?_
      exact hQ _ hsx
    · skip
      exact absurd ((qI_lt (a := j) (b := j) (by omega) (by omega)).mp h13) (by omega)
  | succ f ih =>
    intro j h1 X hsx
    have hlt : nI j < nI n := (qI_lt (by omega) (by omega)).mpr (by omega)
    have hkX := hsx.ok hk
    refine V0_iload_n (pc := 8) dX12_inspect_8 rfl ?_
    refine V0_aload_n (pc := 9) dX12_inspect_9 rfl ?_
    refine V_geti (pc := 10) dX12_inspect_10 flX12_135 rfl rfl ?_
    rw [hkX.2.2.1]
    refine V1_icmp_ge (pc := 13) 38 dX12_inspect_13 (by decide) (fun h13 => ?_) (fun h13 => ?_)
    · skip
      exact absurd hlt h13
    · skip
      refine V0_aload_n (pc := 16) dX12_inspect_16 rfl ?_
      refine V0_iload_n (pc := 17) dX12_inspect_17 rfl ?_
      refine V_callV (pc := 18) (M' := mX12_smeltBy) dX12_inspect_18 mlX12_310 okX12_smeltBy rfl (c_X12_smeltBy hkX (hsx.law hlaw) (by omega)) rfl rfl rfl rfl ⟨Nat.le_of_ble_eq_true rfl, Nat.le_of_ble_eq_true rfl⟩ ⟨Nat.le_refl 0, Nat.le_refl 0⟩ (Nat.le_of_ble_eq_true rfl) ?_
      intro r1 I1 J1 hh
      obtain ⟨e1, hfr, e3⟩ := hh
      rw [e1, e3]
      clear e1 e3 r1 J1
      rw [m_smelt_sx hsx]
      have hsx1 := hsx.tr hfr.sx
      refine V0_aload_n (pc := 21) dX12_inspect_21 rfl ?_
      refine V_callVi (pc := 22) (M' := mX12_livedIn) dX12_inspect_22 mlX12_365 okX12_livedIn rfl (c_X12_livedIn (hsx1.ok hk).1 (hsx1.ok hk).2.1) rfl rfl rfl rfl ⟨Nat.le_of_ble_eq_true rfl, Nat.le_of_ble_eq_true rfl⟩ ⟨Nat.le_refl 0, Nat.le_refl 0⟩ (Nat.le_of_ble_eq_true rfl) ?_
      rw [show I1 77 = S 77 from hsx1 77 (by omega) (by omega) (by omega)]
      refine V0_iand (pc := 25) dX12_inspect_25 ?_
      refine V0_if_eq (pc := 26) 32 dX12_inspect_26 (by decide) (fun h26 => ?_) (fun h26 => ?_)
      · skip
        first | have e3 := e2 | have e2 := m_cnt_f (m_fin_0 h26)
        refine V0_iinc_2 (pc := 32) (nI (j + 1)) dX12_inspect_32 (by decide) rfl (nI_1 _) ?_
        refine V0_goto (pc := 35) 8 dX12_inspect_35 (by decide) ?_
        exact V_ls (by rw [e2]) (ih (j + 1) (by omega) _ hsx1)
      · skip
        have e2 : s_cnt (m_fin S m n Ls) (j + 1) = s_cnt (m_fin S m n Ls) j + 1 := by rw [s_cnt, if_pos (by rw [m_fin, decide_eq_false h26]; rfl)]
        refine V0_iinc_1 (pc := 29) (s_cnt (m_fin S m n Ls) j + 1) dX12_inspect_29 (by decide) rfl rfl ?_
        first | have e3 := e2 | have e2 := m_cnt_f (m_fin_0 h26)
        refine V0_iinc_2 (pc := 32) (nI (j + 1)) dX12_inspect_32 (by decide) rfl (nI_1 _) ?_
        refine V0_goto (pc := 35) 8 dX12_inspect_35 (by decide) ?_
        exact V_ls (by rw [e2]) (ih (j + 1) (by omega) _ hsx1)
theorem c_X12_inspect {l : Launch} {I : px_I} {J : px_J} {m n : Nat} {Ls : List l_L} (hk : m_ok I m n) (hlaw : m_law I Ls) : Ct l mX12_inspect 5 [.ref 54] I J (fun r I' J' => r = some (.int (s_cnt (m_fin (m_lay I m n) m n Ls) n)) ∧ (∃ X, m_sl m n I X ∧ I' = px_up X 81 4 (I 81 4 + s_cnt (m_fin (m_lay I m n) m n Ls) n)) ∧ J' = J) := by
  have r81 : m_lay I m n 81 = I 81 := m_lay_row (by omega) (by omega)
  refine Ct.of plX12_inspect (Nat.le_of_ble_eq_true rfl) [.ref 54, .null, .null] rfl ?_
  refine V0_aload_n (pc := 0) dX12_inspect_0 rfl ?_
  refine V_callV (pc := 1) (M' := mX12_layNow) dX12_inspect_1 mlX12_304 okX12_layNow rfl (c_X12_layNow hk) rfl rfl rfl rfl ⟨Nat.le_of_ble_eq_true rfl, Nat.le_of_ble_eq_true rfl⟩ ⟨Nat.le_refl 0, Nat.le_refl 0⟩ (Nat.le_of_ble_eq_true rfl) ?_
  intro r1 I1 J1 hh
  obtain ⟨e1, e2, e3⟩ := hh
  rw [e1, e2, e3]
  clear e1 e2 e3 r1 I1 J1
  refine V0_iconst (pc := 4) (0) dX12_inspect_4 (by decide) ?_
  refine V0_istore_1 (pc := 5) dX12_inspect_5 (by decide) rfl ?_
  refine V0_iconst (pc := 6) (0) dX12_inspect_6 (by decide) ?_
  refine V0_istore_2 (pc := 7) dX12_inspect_7 (by decide) rfl ?_
  exact lp_X12_inspect hk.lay (hlaw.lay m_sd_lay) (fun X hX => ⟨rfl, ⟨X, ⟨m_lay I m n, m_sd_lay, hX⟩, by rw [r81]⟩, rfl⟩) n 0 (by omega) _ m_sx.rf
/-! a day in deed -/
theorem bt_small {x : Int32} {k : Nat} (hk : k ≤ 32) (h : ∀ i, k ≤ i → i < 32 → bt x i = false) : ∃ w, w < 2 ^ k ∧ x = nI w := by
  refine ⟨x.toBitVec.toNat, ?_, Int32.toBitVec_inj.mp (by show _ = BitVec.ofNat 32 _; simp)⟩
  apply Nat.lt_pow_two_of_testBit
  intro i hi
  by_cases h32 : i < 32
  · exact h i hi h32
  · exact bt_big (x := x) (by omega)
theorem s_bits_new {f g : Nat → Bool} {n : Nat} (hn : n ≤ 31) : s_bits f n &&& (s_bits g n ^^^ (-1)) = s_bits (fun j => f j && !g j) n := by
  apply bt_ext
  intro i hi
  rw [bt_and, bt_xor, bt_bits n hn i hi, bt_bits n hn i hi, bt_bits n hn i hi, bt_m1 i hi]
  by_cases h : i < n <;> simp [h]
theorem s_bits_nI {f : Nat → Bool} {n : Nat} (hn : n ≤ 12) : ∃ w, w < 4096 ∧ s_bits f n = nI w := by
  obtain ⟨w, h1, h2⟩ := bt_small (x := s_bits f n) (k := 12) (by omega) (fun i a b => by rw [bt_bits n (by omega) i b, decide_eq_false (by omega), Bool.false_and])
  exact ⟨w, h1, h2⟩
def m_d0 (D : px_I) (n : Nat) : px_I := px_cp (px_cp D 78 0 62 0 n) 79 0 63 0 n
def m_newly (I D : px_I) (n : Nat) : Int32 := s_bc (s_bits (fun j => m_had D j && !m_had I j) n)
def m_d1 (D : px_I) (n : Nat) : px_I := px_up (px_up (m_d0 D n) 64 0 (D 54 36)) 64 3 (D 54 37)
def m_dd (D : px_I) (n : Nat) (h : Int32) : px_I := px_up (px_up (px_up (px_up (m_d1 D n) 81 1 (D 81 1 + 1)) 81 2 (D 81 2 + D 54 39)) 81 3 (D 81 3 + D 54 38)) 81 5 (D 81 5 + h)
theorem m_d0_row {D : px_I} {n q : Nat} (h : q ≠ 62) (h2 : q ≠ 63) : m_d0 D n q = D q := by unfold m_d0; rw [px_cp_row h2, px_cp_row h]
theorem m_d1_row {D : px_I} {n q : Nat} (h : q ≠ 62) (h2 : q ≠ 63) (h3 : q ≠ 64) : m_d1 D n q = D q := by unfold m_d1; rw [px_up_row h3, px_up_row h3, m_d0_row h h2]
theorem W_day {l : Launch} {D : px_I} {J : px_J} {m n : Nat} {b v2 : Int32} {Q : px_Q} (hk : m_ok D m n) (hy : ¬ (m_dd D n (s_bc (s_bits (m_had D) n &&& (b ^^^ (-1))))) 64 1 = 0) (hw : ∃ w, w < 4096 ∧ s_bits (m_had D) n &&& (b ^^^ (-1)) = nI w) (hQ : Q (some (.int (s_bits (m_gp D n) m))) (m_dd D n (s_bc (s_bits (m_had D) n &&& (b ^^^ (-1))))) J) : V0 l (px_rm 5 0 0) mX12_day (false, []) 0 0 54 [.ref 54, .int b, .int v2] [] (px_mk (m_d0 D n) J) (px_q Q) := by
  have hn10 := hk.2.2.2.1
  obtain ⟨w, hw1, hw2⟩ := hw
  obtain ⟨T, hT⟩ : ∃ T, T = px_up (px_up (px_up (m_d1 D n) 81 1 (D 81 1 + 1)) 81 2 (D 81 2 + D 54 39)) 81 3 (D 81 3 + D 54 38) := ⟨_, rfl⟩
  have rT : ∀ q, q ≠ 62 → q ≠ 63 → q ≠ 64 → q ≠ 81 → T q = D q := fun q a b c d => by rw [hT, px_up_row d, px_up_row d, px_up_row d, m_d1_row a b c]
  have hj := c_X12_joysBy (l := l) (I := T) (J := J) (n := n) (w := 2) (by rw [rT _ (by omega) (by omega) (by omega) (by omega)]; exact hk.2.2.1) hn10
  rw [m_in_2, show m_had T = m_had D from by funext j; simp only [m_had, rT 58 (by omega) (by omega) (by omega) (by omega), rT 78 (by omega) (by omega) (by omega) (by omega), rT 79 (by omega) (by omega) (by omega) (by omega)]] at hj
  have hb := c_X12_bitsOf (l := l) (I := T) (J := J) hw1
  rw [← hw2] at hb
  have h5 : T 81 5 = D 81 5 := by rw [hT, px_up_ne (by omega), px_up_ne (by omega), px_up_ne (by omega), m_d1_row (by omega) (by omega) (by omega)]
  have rE : ∀ q, q ≠ 62 → q ≠ 63 → q ≠ 64 → q ≠ 81 → m_dd D n (s_bc (s_bits (m_had D) n &&& (b ^^^ (-1)))) q = D q := fun q a b c d => by unfold m_dd; rw [px_up_row d, ← hT, rT q a b c d]
  have hkE : m_ok (m_dd D n (s_bc (s_bits (m_had D) n &&& (b ^^^ (-1))))) m n := by
    refine ⟨by rw [rE _ (by omega) (by omega) (by omega) (by omega)]; exact hk.1, hk.2.1, by rw [rE _ (by omega) (by omega) (by omega) (by omega)]; exact hk.2.2.1, hn10, by rw [rE _ (by omega) (by omega) (by omega) (by omega)]; exact hk.2.2.2.2.1, by rw [rE _ (by omega) (by omega) (by omega) (by omega)]; exact hk.2.2.2.2.2.1, hy⟩
  have hg := c_X12_gladPeople (l := l) (J := J) hkE
  rw [show m_gp (m_dd D n (s_bc (s_bits (m_had D) n &&& (b ^^^ (-1))))) n = m_gp D n from by funext p; simp only [m_gp, m_runs, rE 77 (by omega) (by omega) (by omega) (by omega), rE 54 (by omega) (by omega) (by omega) (by omega), rE 56 (by omega) (by omega) (by omega) (by omega), rE 58 (by omega) (by omega) (by omega) (by omega), rE 78 (by omega) (by omega) (by omega) (by omega), rE 79 (by omega) (by omega) (by omega) (by omega)]] at hg
  refine V0_aload_n (pc := 54) dX12_day_54 rfl ?_
  refine V_getr (pc := 55) dX12_day_55 flX12_37 rfl rfl ?_
  refine V0_iconst (pc := 58) (0) dX12_day_58 (by decide) ?_
  refine V0_aload_n (pc := 59) dX12_day_59 rfl ?_
  refine V_geti (pc := 60) dX12_day_60 flX12_255 rfl rfl ?_
  rw [show m_d0 D n 54 = D 54 from m_d0_row (by omega) (by omega)]
  refine V_iast (pc := 63) 0 dX12_day_63 rfl rfl (by omega) ?_
  refine V0_aload_n (pc := 64) dX12_day_64 rfl ?_
  refine V_getr (pc := 65) dX12_day_65 flX12_37 rfl rfl ?_
  refine V0_iconst (pc := 68) (3) dX12_day_68 (by decide) ?_
  refine V0_aload_n (pc := 69) dX12_day_69 rfl ?_
  refine V_geti (pc := 70) dX12_day_70 flX12_258 rfl rfl ?_
  rw [show px_up (m_d0 D n) 64 0 (D 54 36) 54 = D 54 from (px_up_row (by omega)).trans (m_d0_row (by omega) (by omega))]
  refine V_st (I' := px_up (m_d0 D n) 64 0 (D 54 36)) rfl rfl ?_
  refine V_iast (pc := 73) 3 dX12_day_73 rfl rfl (by omega) ?_
  refine V_st (I' := m_d1 D n) rfl rfl ?_
  refine V0_aload_n (pc := 74) dX12_day_74 rfl ?_
  refine V_getr (pc := 75) dX12_day_75 flX12_90 rfl rfl ?_
  refine V0_iconst (pc := 78) (1) dX12_day_78 (by decide) ?_
  refine V0_dup2 (pc := 79) dX12_day_79 rfl rfl ?_
  refine V_iald (pc := 80) 1 dX12_day_80 rfl rfl (by omega) ?_
  rw [show m_d1 D n 81 = D 81 from m_d1_row (by omega) (by omega) (by omega)]
  refine V0_iconst (pc := 81) (1) dX12_day_81 (by decide) ?_
  refine V0_iadd (pc := 82) dX12_day_82 ?_
  refine V_iast (pc := 83) 1 dX12_day_83 rfl rfl (by omega) ?_
  refine V0_aload_n (pc := 84) dX12_day_84 rfl ?_
  refine V_getr (pc := 85) dX12_day_85 flX12_90 rfl rfl ?_
  refine V0_iconst (pc := 88) (2) dX12_day_88 (by decide) ?_
  refine V0_dup2 (pc := 89) dX12_day_89 rfl rfl ?_
  refine V_iald (pc := 90) 2 dX12_day_90 rfl rfl (by omega) ?_
  rw [show px_up (m_d1 D n) 81 1 (D 81 1 + 1) 81 2 = D 81 2 from (px_up_ne (by omega)).trans (congrFun (m_d1_row (by omega) (by omega) (by omega)) 2)]
  refine V0_aload_n (pc := 91) dX12_day_91 rfl ?_
  refine V_geti (pc := 92) dX12_day_92 flX12_264 rfl rfl ?_
  rw [show px_up (m_d1 D n) 81 1 (D 81 1 + 1) 54 = D 54 from (px_up_row (by omega)).trans (m_d1_row (by omega) (by omega) (by omega))]
  refine V0_iadd (pc := 95) dX12_day_95 ?_
  refine V_iast (pc := 96) 2 dX12_day_96 rfl rfl (by omega) ?_
  refine V0_aload_n (pc := 97) dX12_day_97 rfl ?_
  refine V_getr (pc := 98) dX12_day_98 flX12_90 rfl rfl ?_
  refine V0_iconst (pc := 101) (3) dX12_day_101 (by decide) ?_
  refine V0_dup2 (pc := 102) dX12_day_102 rfl rfl ?_
  refine V_iald (pc := 103) 3 dX12_day_103 rfl rfl (by omega) ?_
  rw [show px_up (px_up (m_d1 D n) 81 1 (D 81 1 + 1)) 81 2 (D 81 2 + D 54 39) 81 3 = D 81 3 from (px_up_ne (by omega)).trans ((px_up_ne (by omega)).trans (congrFun (m_d1_row (by omega) (by omega) (by omega)) 3))]
  refine V0_aload_n (pc := 104) dX12_day_104 rfl ?_
  refine V_geti (pc := 105) dX12_day_105 flX12_261 rfl rfl ?_
  rw [show px_up (px_up (m_d1 D n) 81 1 (D 81 1 + 1)) 81 2 (D 81 2 + D 54 39) 54 = D 54 from (px_up_row (by omega)).trans ((px_up_row (by omega)).trans (m_d1_row (by omega) (by omega) (by omega)))]
  refine V0_iadd (pc := 108) dX12_day_108 ?_
  refine V_iast (pc := 109) 3 dX12_day_109 rfl rfl (by omega) ?_
  rw [← hT]
  refine V0_aload_n (pc := 110) dX12_day_110 rfl ?_
  refine V_getr (pc := 111) dX12_day_111 flX12_90 rfl rfl ?_
  refine V0_iconst (pc := 114) (5) dX12_day_114 (by decide) ?_
  refine V0_dup2 (pc := 115) dX12_day_115 rfl rfl ?_
  refine V_iald (pc := 116) 5 dX12_day_116 rfl rfl (by omega) ?_
  rw [h5]
  refine V0_aload_n (pc := 117) dX12_day_117 rfl ?_
  refine V0_iconst (pc := 118) (2) dX12_day_118 (by decide) ?_
  refine V_callVi (pc := 119) (M' := mX12_joysBy) dX12_day_119 mlX12_328 okX12_joysBy rfl hj rfl rfl rfl rfl ⟨Nat.le_of_ble_eq_true rfl, Nat.le_of_ble_eq_true rfl⟩ ⟨Nat.le_refl 0, Nat.le_refl 0⟩ (Nat.le_of_ble_eq_true rfl) ?_
  refine V0_iload_n (pc := 122) dX12_day_122 rfl ?_
  refine V0_iconst (pc := 123) (-1) dX12_day_123 (by decide) ?_
  refine V0_ixor (pc := 124) dX12_day_124 ?_
  refine V0_iand (pc := 125) dX12_day_125 ?_
  refine V_callSi (pc := 126) (M' := mX12_bitsOf) dX12_day_126 mlX12_313 okX12_bitsOf rfl hb rfl rfl ⟨Nat.le_of_ble_eq_true rfl, Nat.le_of_ble_eq_true rfl⟩ ⟨Nat.le_refl 0, Nat.le_refl 0⟩ (Nat.le_of_ble_eq_true rfl) ?_
  refine V0_iadd (pc := 129) dX12_day_129 ?_
  refine V_iast (pc := 130) 5 dX12_day_130 rfl rfl (by omega) ?_
  rw [hT]
  refine V_st (I' := m_dd D n (s_bc (s_bits (m_had D) n &&& (b ^^^ (-1))))) rfl rfl ?_
  refine V0_aload_n (pc := 131) dX12_day_131 rfl ?_
  refine V_callVi (pc := 132) (M' := mX12_gladPeople) dX12_day_132 mlX12_325 okX12_gladPeople rfl hg rfl rfl rfl rfl ⟨Nat.le_of_ble_eq_true rfl, Nat.le_of_ble_eq_true rfl⟩ ⟨Nat.le_refl 0, Nat.le_refl 0⟩ (Nat.le_of_ble_eq_true rfl) ?_
  refine V_reti (pc := 135) _ dX12_day_135 rfl ?_
  exact hQ
theorem c_X12_day {l : Launch} {I : px_I} {J : px_J} {m n : Nat} (hk : m_ok I m n) : Ct l mX12_day 5 [.ref 54] I J (px_qi (s_bits (m_gp (m_day (m_lay I m n) m n) n) m) (m_dd (m_day (m_lay I m n) m n) n (m_newly (m_lay I m n) (m_day (m_lay I m n) m n) n)) J) := by
  have hl := hk.lay
  have hD : m_ok (m_day (m_lay I m n) m n) m n := m_ok_day hl
  have hn10 := hk.2.2.2.1
  have hnew := s_bits_new (f := m_had (m_day (m_lay I m n) m n)) (g := m_had (m_lay I m n)) (n := n) (by omega)
  have hy : ¬ (m_dd (m_day (m_lay I m n) m n) n (s_bc (s_bits (m_had (m_day (m_lay I m n) m n)) n &&& (s_bits (m_had (m_lay I m n)) n ^^^ (-1))))) 64 1 = 0 := by
    unfold m_dd m_d1
    rw [px_up_row (by omega), px_up_row (by omega), px_up_row (by omega), px_up_row (by omega), px_up_ne (by omega), px_up_ne (by omega), m_d0_row (by omega) (by omega)]
    exact hD.2.2.2.2.2.2
  have hf := W_day (l := l) (J := J) (v2 := nI n) (b := s_bits (m_had (m_lay I m n)) n) (Q := px_qi (s_bits (m_gp (m_day (m_lay I m n) m n) n) m) (m_dd (m_day (m_lay I m n) m n) n (m_newly (m_lay I m n) (m_day (m_lay I m n) m n) n)) J) hD hy (by rw [hnew]; exact s_bits_nI (by omega)) ⟨rfl, by rw [hnew]; rfl, rfl⟩
  have h := l1_X12_day (l := l) (S := m_day (m_lay I m n) m n) (J := J) (d := 5) (n := n) (v1 := s_bits (m_had (m_lay I m n)) n) (Q := px_qi (s_bits (m_gp (m_day (m_lay I m n) m n) n) m) (m_dd (m_day (m_lay I m n) m n) n (m_newly (m_lay I m n) (m_day (m_lay I m n) m n) n)) J) hD.2.2.1 hn10 hf n 0 (by omega)
  simp only [px_cp_0] at h
  refine Ct.of plX12_day (Nat.le_of_ble_eq_true rfl) [.ref 54, .null, .null] rfl ?_
  refine V0_aload_n (pc := 0) dX12_day_0 rfl ?_
  refine V_callV (pc := 1) (M' := mX12_layNow) dX12_day_1 mlX12_304 okX12_layNow rfl (c_X12_layNow hk) rfl rfl rfl rfl ⟨Nat.le_of_ble_eq_true rfl, Nat.le_of_ble_eq_true rfl⟩ ⟨Nat.le_refl 0, Nat.le_refl 0⟩ (Nat.le_of_ble_eq_true rfl) ?_
  intro r1 I1 J1 hh
  obtain ⟨e1, e2, e3⟩ := hh
  rw [e1, e2, e3]
  clear e1 e2 e3 r1 I1 J1
  refine V0_aload_n (pc := 4) dX12_day_4 rfl ?_
  refine V0_iconst (pc := 5) (2) dX12_day_5 (by decide) ?_
  refine V_callVi (pc := 6) (M' := mX12_joysBy) dX12_day_6 mlX12_328 okX12_joysBy rfl (c_X12_joysBy hl.2.2.1 hn10) rfl rfl rfl rfl ⟨Nat.le_of_ble_eq_true rfl, Nat.le_of_ble_eq_true rfl⟩ ⟨Nat.le_refl 0, Nat.le_refl 0⟩ (Nat.le_of_ble_eq_true rfl) ?_
  rw [m_in_2]
  refine V0_istore_1 (pc := 9) dX12_day_9 (by decide) rfl ?_
  refine V0_aload_n (pc := 10) dX12_day_10 rfl ?_
  refine V_callV (pc := 11) (M' := mX12_goDay) dX12_day_11 mlX12_319 okX12_goDay rfl (c_X12_goDay hl) rfl rfl rfl rfl ⟨Nat.le_of_ble_eq_true rfl, Nat.le_of_ble_eq_true rfl⟩ ⟨Nat.le_refl 0, Nat.le_refl 0⟩ (Nat.le_of_ble_eq_true rfl) ?_
  intro r1 I1 J1 hh
  obtain ⟨e1, e2, e3⟩ := hh
  rw [e1, e2, e3]
  clear e1 e2 e3 r1 I1 J1
  refine V0_iconst (pc := 14) (0) dX12_day_14 (by decide) ?_
  refine V0_istore_2 (pc := 15) dX12_day_15 (by decide) rfl ?_
  exact h

