/-! smells -/
def s_cnt (f : Nat → Bool) : Nat → Int32
  | 0 => 0
  | n + 1 => if f n = true then s_cnt f n + 1 else s_cnt f n
def h_oth (I : px_I) (j e : Nat) : Bool := !decide (e = j) && g_runs I 8 e && decide (g_hoj I 8 e = g_hoj I 8 j)
theorem lp_X6_others {l : Launch} {I : px_I} {J : px_J} {m n jy : Nat} {Q : px_Q} (hk : px_ok0 I m n) (hjy : jy < 10) (hQ : Q (some (.int (s_cnt (h_oth I jy) n))) I J) : ∀ (f j : Nat), n + 1 - j ≤ f → j ≤ n → V0 l (px_rm 2 0 0) mX6_othersRunning (false, []) 0 0 4 [.ref 40, .int (nI jy), .int (s_cnt (h_oth I jy) j), .int (nI j)] [] (px_mk I J) (px_q Q) := by
  have hn := hk.2.2.1
  have hn10 := hk.2.2.2.1
  have ho := hk.2.2.2.2.1
  intro f
  induction f with
  | zero => intro j h1 h2; omega
  | succ f ih =>
    intro j h1 h2
    refine V0_iload_n (pc := 4) dX6_othersRunning_4 rfl ?_
    refine V0_aload_n (pc := 5) dX6_othersRunning_5 rfl ?_
    refine V_getr (pc := 6) dX6_othersRunning_6 flX6_15 rfl rfl ?_
    refine V_geti (pc := 9) dX6_othersRunning_9 flX6_80 rfl rfl ?_
    rw [hn]
    refine V1_icmp_ge (pc := 12) 59 dX6_othersRunning_12 (by decide) (fun h12 => ?_) (fun h12 => ?_)
    · skip
      have hj : j = n := by have := px_ge h12 (by omega) (by omega); omega
      subst hj
      refine V0_iload_n (pc := 59) dX6_othersRunning_59 rfl ?_
      refine V_reti (pc := 60) _ dX6_othersRunning_60 rfl ?_
      exact hQ
    · skip
      have hj := px_lt h12 (by omega) (by omega)
      refine V0_iload_n (pc := 15) dX6_othersRunning_15 rfl ?_
      refine V0_iload_n (pc := 16) dX6_othersRunning_16 rfl ?_
      refine V0_icmp_eq (pc := 17) 53 dX6_othersRunning_17 (by decide) (fun h17 => ?_) (fun h17 => ?_)
      · skip
        refine V0_iinc_3 (pc := 53) (nI (j + 1)) dX6_othersRunning_53 (by decide) rfl (nI_1 _) ?_
        refine V0_goto (pc := 56) 4 dX6_othersRunning_56 (by decide) ?_
        first | (have e : h_oth I jy j = false := (by unfold h_oth; rw [decide_eq_true ((qI_inj (by omega) (by omega)).mp h17)]; rfl); exact V_ls (by rw [s_cnt, e]; rfl) (ih (j + 1) (by omega) (by omega))) | (have e : h_oth I jy j = false := (by unfold h_oth; rw [show g_runs I 8 j = false from h28]; simp); exact V_ls (by rw [s_cnt, e]; rfl) (ih (j + 1) (by omega) (by omega))) | (have e : h_oth I jy j = false := (by unfold h_oth; rw [decide_eq_false h47]; simp); exact V_ls (by rw [s_cnt, e]; rfl) (ih (j + 1) (by omega) (by omega))) | (have e : h_oth I jy j = true := (by unfold h_oth; rw [decide_eq_false (fun q => h17 ((qI_inj (by omega) (by omega)).mpr q)), h28, decide_eq_true h47]; rfl); exact V_ls (by rw [s_cnt, e]; rfl) (ih (j + 1) (by omega) (by omega)))
      · skip
        refine V0_aload_n (pc := 20) dX6_othersRunning_20 rfl ?_
        refine V_getr (pc := 21) dX6_othersRunning_21 flX6_19 rfl rfl ?_
        refine V0_iload_n (pc := 24) dX6_othersRunning_24 rfl ?_
        refine V_callVi (pc := 25) (M' := mX2_runs) dX6_othersRunning_25 mlX6_83 okX2_runs rfl (c_X2_runs cs8 (by omega)) rfl rfl rfl rfl ⟨Nat.le_of_ble_eq_true rfl, Nat.le_of_ble_eq_true rfl⟩ ⟨Nat.le_refl 0, Nat.le_refl 0⟩ (Nat.le_of_ble_eq_true rfl) ?_
        refine V_ifeqb (pc := 28) 53 dX6_othersRunning_28 (by decide) (fun h28 => ?_) (fun h28 => ?_)
        · skip
          refine V0_iinc_3 (pc := 53) (nI (j + 1)) dX6_othersRunning_53 (by decide) rfl (nI_1 _) ?_
          refine V0_goto (pc := 56) 4 dX6_othersRunning_56 (by decide) ?_
          first | (have e : h_oth I jy j = false := (by unfold h_oth; rw [decide_eq_true ((qI_inj (by omega) (by omega)).mp h17)]; rfl); exact V_ls (by rw [s_cnt, e]; rfl) (ih (j + 1) (by omega) (by omega))) | (have e : h_oth I jy j = false := (by unfold h_oth; rw [show g_runs I 8 j = false from h28]; simp); exact V_ls (by rw [s_cnt, e]; rfl) (ih (j + 1) (by omega) (by omega))) | (have e : h_oth I jy j = false := (by unfold h_oth; rw [decide_eq_false h47]; simp); exact V_ls (by rw [s_cnt, e]; rfl) (ih (j + 1) (by omega) (by omega))) | (have e : h_oth I jy j = true := (by unfold h_oth; rw [decide_eq_false (fun q => h17 ((qI_inj (by omega) (by omega)).mpr q)), h28, decide_eq_true h47]; rfl); exact V_ls (by rw [s_cnt, e]; rfl) (ih (j + 1) (by omega) (by omega)))
        · skip
          refine V0_aload_n (pc := 31) dX6_othersRunning_31 rfl ?_
          refine V_getr (pc := 32) dX6_othersRunning_32 flX6_19 rfl rfl ?_
          refine V0_iload_n (pc := 35) dX6_othersRunning_35 rfl ?_
          refine V_callVi (pc := 36) (M' := mX2_houseOfJoy) dX6_othersRunning_36 mlX6_27 okX2_houseOfJoy rfl (c_X2_houseOfJoy cs8 (by omega) ho) rfl rfl rfl rfl ⟨Nat.le_of_ble_eq_true rfl, Nat.le_of_ble_eq_true rfl⟩ ⟨Nat.le_refl 0, Nat.le_refl 0⟩ (Nat.le_of_ble_eq_true rfl) ?_
          refine V0_aload_n (pc := 39) dX6_othersRunning_39 rfl ?_
          refine V_getr (pc := 40) dX6_othersRunning_40 flX6_19 rfl rfl ?_
          refine V0_iload_n (pc := 43) dX6_othersRunning_43 rfl ?_
          refine V_callVi (pc := 44) (M' := mX2_houseOfJoy) dX6_othersRunning_44 mlX6_27 okX2_houseOfJoy rfl (c_X2_houseOfJoy cs8 (by omega) ho) rfl rfl rfl rfl ⟨Nat.le_of_ble_eq_true rfl, Nat.le_of_ble_eq_true rfl⟩ ⟨Nat.le_refl 0, Nat.le_refl 0⟩ (Nat.le_of_ble_eq_true rfl) ?_
          refine V0_icmp_ne (pc := 47) 53 dX6_othersRunning_47 (by decide) (fun h47 => ?_) (fun h47 => ?_)
          · skip
            refine V0_iinc_3 (pc := 53) (nI (j + 1)) dX6_othersRunning_53 (by decide) rfl (nI_1 _) ?_
            refine V0_goto (pc := 56) 4 dX6_othersRunning_56 (by decide) ?_
            first | (have e : h_oth I jy j = false := (by unfold h_oth; rw [decide_eq_true ((qI_inj (by omega) (by omega)).mp h17)]; rfl); exact V_ls (by rw [s_cnt, e]; rfl) (ih (j + 1) (by omega) (by omega))) | (have e : h_oth I jy j = false := (by unfold h_oth; rw [show g_runs I 8 j = false from h28]; simp); exact V_ls (by rw [s_cnt, e]; rfl) (ih (j + 1) (by omega) (by omega))) | (have e : h_oth I jy j = false := (by unfold h_oth; rw [decide_eq_false h47]; simp); exact V_ls (by rw [s_cnt, e]; rfl) (ih (j + 1) (by omega) (by omega))) | (have e : h_oth I jy j = true := (by unfold h_oth; rw [decide_eq_false (fun q => h17 ((qI_inj (by omega) (by omega)).mpr q)), h28, decide_eq_true h47]; rfl); exact V_ls (by rw [s_cnt, e]; rfl) (ih (j + 1) (by omega) (by omega)))
          · skip
            refine V0_iinc_2 (pc := 50) _ dX6_othersRunning_50 (by decide) rfl rfl ?_
            refine V0_iinc_3 (pc := 53) (nI (j + 1)) dX6_othersRunning_53 (by decide) rfl (nI_1 _) ?_
            refine V0_goto (pc := 56) 4 dX6_othersRunning_56 (by decide) ?_
            first | (have e : h_oth I jy j = false := (by unfold h_oth; rw [decide_eq_true ((qI_inj (by omega) (by omega)).mp h17)]; rfl); exact V_ls (by rw [s_cnt, e]; rfl) (ih (j + 1) (by omega) (by omega))) | (have e : h_oth I jy j = false := (by unfold h_oth; rw [show g_runs I 8 j = false from h28]; simp); exact V_ls (by rw [s_cnt, e]; rfl) (ih (j + 1) (by omega) (by omega))) | (have e : h_oth I jy j = false := (by unfold h_oth; rw [decide_eq_false h47]; simp); exact V_ls (by rw [s_cnt, e]; rfl) (ih (j + 1) (by omega) (by omega))) | (have e : h_oth I jy j = true := (by unfold h_oth; rw [decide_eq_false (fun q => h17 ((qI_inj (by omega) (by omega)).mpr q)), h28, decide_eq_true h47]; rfl); exact V_ls (by rw [s_cnt, e]; rfl) (ih (j + 1) (by omega) (by omega)))
theorem c_X6_othersRunning {l : Launch} {I : px_I} {J : px_J} {m n jy : Nat} (hk : px_ok0 I m n) (hj : jy < 10) : CtI l mX6_othersRunning 2 [.ref 40, .int (nI jy)] I J (s_cnt (h_oth I jy) n) := by
  refine Ct.of plX6_othersRunning (Nat.le_of_ble_eq_true rfl) [.ref 40, .int (nI jy), .null, .null] rfl ?_
  refine V0_iconst (pc := 0) (0) dX6_othersRunning_0 (by decide) ?_
  refine V0_istore_2 (pc := 1) dX6_othersRunning_1 (by decide) rfl ?_
  refine V0_iconst (pc := 2) (0) dX6_othersRunning_2 (by decide) ?_
  refine V0_istore_3 (pc := 3) dX6_othersRunning_3 (by decide) rfl ?_
  exact lp_X6_others hk hj ⟨rfl, rfl, rfl⟩ (n + 1) 0 (by omega) (by omega)
/-- the law's names -/
def h_nm (I : px_I) (j : Nat) (apart others : Int32) : Int32 → Int32 := fun x => if ¬ x < 0 ∧ x < 6 then (if ix x = 0 then I 6 j else if ix x = 1 then apart else if ix x = 2 then I 4 j else if ix x = 3 then others else if ix x = 4 then I 7 j else I 8 5) else 0
def px_names (I : px_I) (j : Nat) (apart others : Int32) : px_I := px_up (px_up (px_up (px_up (px_up (px_up I 15 0 (I 6 j)) 15 1 apart) 15 2 (I 4 j)) 15 3 others) 15 4 (I 7 j)) 15 5 (I 8 5)
theorem px_names_row {I : px_I} {j q : Nat} {a o : Int32} (h : q ≠ 15) : px_names I j a o q = I q := by
  unfold px_names; rw [px_up_row h, px_up_row h, px_up_row h, px_up_row h, px_up_row h, px_up_row h]
theorem h_nm_eq {I : px_I} {j : Nat} {a o : Int32} : g_valueOf (px_names I j a o) 14 = h_nm I j a o := by
  funext x
  unfold g_valueOf h_nm
  by_cases hx : ¬ x < 0 ∧ x < 6
  · rw [if_pos hx, if_pos hx]
    have h6 := ix_lt (n := 6) hx.1 (by omega) hx.2
    generalize ix x = k at h6
    match k, h6 with
    | 0, _ => rfl
    | 1, _ => rfl
    | 2, _ => rfl
    | 3, _ => rfl
    | 4, _ => rfl
    | 5, _ => rfl
  · rw [if_neg hx, if_neg hx]
theorem px_law.of {X Y : px_I} {p : Nat} {Ls : List l_L} (h : px_law X p Ls) (h2 : Y (p + 2) = X (p + 2)) (h3 : Y (p + 3) = X (p + 3)) (h4 : Y p 4 = X p 4) : px_law Y p Ls := ⟨codeAt_congr h2 h3 _ _ h.1, h4.trans h.2.1, h.2.2⟩
theorem c_X6_byText {l : Launch} {I : px_I} {J : px_J} {j : Nat} {apart others : Int32} {Ls : List l_L} (hlaw : px_law I 14 Ls) (hj : j < 10) : Ct l mX6_byText 3 [.ref 40, .int (nI j), .int apart, .int others] I J (fun r I' J' => r = some (.int (e_lines (h_nm I j apart others) Ls)) ∧ (∀ q, q ≠ 15 → q ≠ 18 → I' q = I q) ∧ J' = J) := by
  have hl2 : px_law (px_names I j apart others) 14 Ls := hlaw.of (px_names_row (by omega)) (px_names_row (by omega)) (by rw [px_names_row (by omega)])
  have hc := c_X3_workOut (l := l) (J := J) lw14 hl2
  rw [h_nm_eq] at hc
  refine Ct.of plX6_byText (Nat.le_of_ble_eq_true rfl) [.ref 40, .int (nI j), .int apart, .int others, .null] rfl ?_
  refine V0_aload_n (pc := 0) dX6_byText_0 rfl ?_
  refine V_getr (pc := 1) dX6_byText_1 flX6_23 rfl rfl ?_
  refine V_getr (pc := 4) dX6_byText_4 flX6_63 rfl rfl ?_
  refine V0_astore_4 (pc := 7) dX6_byText_7 (by decide) rfl ?_
  refine V0_aload (pc := 9) dX6_byText_9 rfl ?_
  refine V_alen (pc := 11) (6) dX6_byText_11 rfl (by decide) (by decide) ?_
  refine V0_bipush (pc := 12) (6) dX6_byText_12 (by decide) ?_
  refine V1_icmp_ge (pc := 14) 19 dX6_byText_14 (by decide) (fun h14 => ?_) (fun h14 => ?_)
  · skip
    refine V0_aload (pc := 19) dX6_byText_19 rfl ?_
    refine V0_iconst (pc := 21) (0) dX6_byText_21 (by decide) ?_
    refine V0_aload_n (pc := 22) dX6_byText_22 rfl ?_
    refine V_getr (pc := 23) dX6_byText_23 flX6_15 rfl rfl ?_
    refine V_getr (pc := 26) dX6_byText_26 flX6_50 rfl rfl ?_
    refine V0_iload_n (pc := 29) dX6_byText_29 rfl ?_
    refine V_iald (pc := 30) (j) dX6_byText_30 rfl rfl (by omega) ?_
    refine V_iast (pc := 31) 0 dX6_byText_31 rfl (by decide) (by decide) ?_
    refine V0_aload (pc := 32) dX6_byText_32 rfl ?_
    refine V0_iconst (pc := 34) (1) dX6_byText_34 (by decide) ?_
    refine V0_iload_n (pc := 35) dX6_byText_35 rfl ?_
    refine V_iast (pc := 36) 1 dX6_byText_36 rfl (by decide) (by decide) ?_
    refine V0_aload (pc := 37) dX6_byText_37 rfl ?_
    refine V0_iconst (pc := 39) (2) dX6_byText_39 (by decide) ?_
    refine V0_aload_n (pc := 40) dX6_byText_40 rfl ?_
    refine V_getr (pc := 41) dX6_byText_41 flX6_15 rfl rfl ?_
    refine V_getr (pc := 44) dX6_byText_44 flX6_66 rfl rfl ?_
    refine V0_iload_n (pc := 47) dX6_byText_47 rfl ?_
    refine V_iald (pc := 48) (j) dX6_byText_48 rfl rfl (by omega) ?_
    refine V_iast (pc := 49) 2 dX6_byText_49 rfl (by decide) (by decide) ?_
    refine V0_aload (pc := 50) dX6_byText_50 rfl ?_
    refine V0_iconst (pc := 52) (3) dX6_byText_52 (by decide) ?_
    refine V0_iload_n (pc := 53) dX6_byText_53 rfl ?_
    refine V_iast (pc := 54) 3 dX6_byText_54 rfl (by decide) (by decide) ?_
    refine V0_aload (pc := 55) dX6_byText_55 rfl ?_
    refine V0_iconst (pc := 57) (4) dX6_byText_57 (by decide) ?_
    refine V0_aload_n (pc := 58) dX6_byText_58 rfl ?_
    refine V_getr (pc := 59) dX6_byText_59 flX6_15 rfl rfl ?_
    refine V_getr (pc := 62) dX6_byText_62 flX6_69 rfl rfl ?_
    refine V0_iload_n (pc := 65) dX6_byText_65 rfl ?_
    refine V_iald (pc := 66) (j) dX6_byText_66 rfl rfl (by omega) ?_
    refine V_iast (pc := 67) 4 dX6_byText_67 rfl (by decide) (by decide) ?_
    refine V0_aload (pc := 68) dX6_byText_68 rfl ?_
    refine V0_iconst (pc := 70) (5) dX6_byText_70 (by decide) ?_
    refine V0_aload_n (pc := 71) dX6_byText_71 rfl ?_
    refine V_getr (pc := 72) dX6_byText_72 flX6_19 rfl rfl ?_
    refine V_geti (pc := 75) dX6_byText_75 flX6_72 rfl rfl ?_
    refine V_iast (pc := 78) 5 dX6_byText_78 rfl (by decide) (by decide) ?_
    refine V0_aload_n (pc := 79) dX6_byText_79 rfl ?_
    refine V_getr (pc := 80) dX6_byText_80 flX6_23 rfl rfl ?_
    refine V_callV (pc := 83) (M' := mX3_workOut) dX6_byText_83 mlX6_76 okX3_workOut rfl hc rfl rfl rfl rfl ⟨Nat.le_of_ble_eq_true rfl, Nat.le_of_ble_eq_true rfl⟩ ⟨Nat.le_refl 0, Nat.le_refl 0⟩ (Nat.le_of_ble_eq_true rfl) ?_
    intro r1 I1 J1 hh
    obtain ⟨e1, hfr, e3⟩ := hh
    rw [e1, e3]
    clear e1 e3 r1 J1
    refine V_reti (pc := 86) _ dX6_byText_86 rfl ?_
    exact ⟨rfl, fun q a b => (hfr q b).trans (px_names_row a), rfl⟩
  · skip
    exact absurd h14 (by decide)
def h_clamp (x : Int32) : Int32 := if (0 : Int32) < (if x < 9 then x else 9) then (if x < 9 then x else 9) else 0
def h_much (I : px_I) (n : Nat) (Ls : List l_L) (j : Nat) (house : Int32) : Int32 := h_clamp (if Ls.isEmpty = true then I 6 j + s_cnt (h_oth I j) n - 2 * s_apart (g_hoj I 8 j) house else e_lines (h_nm I j (s_apart (g_hoj I 8 j) house) (s_cnt (h_oth I j) n)) Ls)
/-- scratch of the law: its names, its stack -/
def px_sw (I I' : px_I) : Prop := ∀ q, q ≠ 15 → q ≠ 18 → I' q = I q
theorem px_sw.tr {I I' I2 : px_I} (h : px_sw I I') (g : px_sw I' I2) : px_sw I I2 := fun q a b => (g q a b).trans (h q a b)
theorem px_sw.rf {I : px_I} : px_sw I I := fun _ _ _ => rfl
theorem px_sw.ok {I I' : px_I} {m n : Nat} (h : px_sw I I') (hk : px_ok0 I m n) : px_ok0 I' m n := hk.of (h 1 (by omega) (by omega)) (h 2 (by omega) (by omega))
theorem px_sw.law {I I' : px_I} {Ls : List l_L} (h : px_sw I I') (hk : px_law I 14 Ls) : px_law I' 14 Ls := hk.of (h _ (by omega) (by omega)) (h _ (by omega) (by omega)) (by rw [h _ (by omega) (by omega)])
theorem h_oth_congr {I I' : px_I} {j : Nat} (h : px_sw I I') : h_oth I' j = h_oth I j := by
  funext e
  simp only [h_oth, g_runs, g_hoj, h 4 (by omega) (by omega), h (8 + 2) (by omega) (by omega), h (8 + 3) (by omega) (by omega), h (8 + 1) (by omega) (by omega), h 2 (by omega) (by omega)]
theorem h_nm_congr {I I' : px_I} {j : Nat} {a o : Int32} (h : px_sw I I') : h_nm I' j a o = h_nm I j a o := by
  funext e
  simp only [h_nm, h 4 (by omega) (by omega), h 6 (by omega) (by omega), h 7 (by omega) (by omega), h 8 (by omega) (by omega)]
theorem h_much_congr {I I' : px_I} {n j : Nat} {Ls : List l_L} {house : Int32} (h : px_sw I I') : h_much I' n Ls j house = h_much I n Ls j house := by
  unfold h_much
  rw [h_oth_congr h, h_nm_congr h]
  simp only [g_hoj, h 6 (by omega) (by omega), h (8 + 1) (by omega) (by omega), h 2 (by omega) (by omega)]
theorem c_X6_howMuch {l : Launch} {I : px_I} {J : px_J} {m n j : Nat} {house : Int32} {Ls : List l_L} (hk : px_ok0 I m n) (hlaw : px_law I 14 Ls) (hj : j < 10) : Ct l mX6_howMuch 4 [.ref 40, .int (nI j), .int house] I J (fun r I' J' => r = some (.int (h_much I n Ls j house)) ∧ px_sw I I' ∧ J' = J) := by
  have ho := hk.2.2.2.2.1
  have ht := px_law_told hlaw
  refine Ct.of plX6_howMuch (Nat.le_of_ble_eq_true rfl) [.ref 40, .int (nI j), .int house, .null, .null, .null] rfl ?_
  refine V0_aload_n (pc := 0) dX6_howMuch_0 rfl ?_
  refine V_getr (pc := 1) dX6_howMuch_1 flX6_19 rfl rfl ?_
  refine V0_iload_n (pc := 4) dX6_howMuch_4 rfl ?_
  refine V_callVi (pc := 5) (M' := mX2_houseOfJoy) dX6_howMuch_5 mlX6_27 okX2_houseOfJoy rfl (c_X2_houseOfJoy cs8 (by omega) ho) rfl rfl rfl rfl ⟨Nat.le_of_ble_eq_true rfl, Nat.le_of_ble_eq_true rfl⟩ ⟨Nat.le_refl 0, Nat.le_refl 0⟩ (Nat.le_of_ble_eq_true rfl) ?_
  refine V0_iload_n (pc := 8) dX6_howMuch_8 rfl ?_
  refine V_callNi (pc := 9) (M' := mX11_placesApart) (host := RX11) dX6_howMuch_9 (by decide +kernel) okX11_placesApart rfl c_X11_placesApart rfl rfl ⟨Nat.le_of_ble_eq_true rfl, Nat.le_of_ble_eq_true rfl⟩ ⟨Nat.le_refl 0, Nat.le_refl 0⟩ (Nat.le_of_ble_eq_true rfl) ?_
  refine V0_istore_3 (pc := 12) dX6_howMuch_12 (by decide) rfl ?_
  refine V0_aload_n (pc := 13) dX6_howMuch_13 rfl ?_
  refine V0_iload_n (pc := 14) dX6_howMuch_14 rfl ?_
  refine V_callVi (pc := 15) (M' := mX6_othersRunning) dX6_howMuch_15 mlX6_37 okX6_othersRunning rfl (c_X6_othersRunning hk hj) rfl rfl rfl rfl ⟨Nat.le_of_ble_eq_true rfl, Nat.le_of_ble_eq_true rfl⟩ ⟨Nat.le_refl 0, Nat.le_refl 0⟩ (Nat.le_of_ble_eq_true rfl) ?_
  refine V0_istore_4 (pc := 18) dX6_howMuch_18 (by decide) rfl ?_
  refine V0_aload_n (pc := 20) dX6_howMuch_20 rfl ?_
  refine V_getr (pc := 21) dX6_howMuch_21 flX6_23 rfl rfl ?_
  refine V_callVi (pc := 24) (M' := mX3_isTold) dX6_howMuch_24 mlX6_40 okX3_isTold rfl (c_X3_isTold lw14) rfl rfl rfl rfl ⟨Nat.le_of_ble_eq_true rfl, Nat.le_of_ble_eq_true rfl⟩ ⟨Nat.le_refl 0, Nat.le_refl 0⟩ (Nat.le_of_ble_eq_true rfl) ?_
  rw [ht]
  refine V_ifeqb (pc := 27) 41 dX6_howMuch_27 (by decide) (fun h27 => ?_) (fun h27 => ?_)
  · skip
    refine V0_aload_n (pc := 41) dX6_howMuch_41 rfl ?_
    refine V_getr (pc := 42) dX6_howMuch_42 flX6_15 rfl rfl ?_
    refine V_getr (pc := 45) dX6_howMuch_45 flX6_50 rfl rfl ?_
    refine V0_iload_n (pc := 48) dX6_howMuch_48 rfl ?_
    refine V_iald (pc := 49) (j) dX6_howMuch_49 rfl rfl (by omega) ?_
    refine V0_iload (pc := 50) dX6_howMuch_50 rfl ?_
    refine V0_iadd (pc := 52) dX6_howMuch_52 ?_
    refine V0_iconst (pc := 53) (2) dX6_howMuch_53 (by decide) ?_
    refine V0_iload_n (pc := 54) dX6_howMuch_54 rfl ?_
    refine V0_imul (pc := 55) dX6_howMuch_55 ?_
    refine V0_isub (pc := 56) dX6_howMuch_56 ?_
    refine V0_istore_5 (pc := 57) dX6_howMuch_57 (by decide) rfl ?_
    refine V0_iconst (pc := 59) (0) dX6_howMuch_59 (by decide) ?_
    refine V0_bipush (pc := 60) (9) dX6_howMuch_60 (by decide) ?_
    refine V0_iload (pc := 62) dX6_howMuch_62 rfl ?_
    refine V0_min (pc := 64) dX6_howMuch_64 mlX6_55 js_min ji_Math jc_min (Nat.le_of_ble_eq_true rfl) (Nat.le_of_ble_eq_true rfl) ?_
    refine V0_max (pc := 67) dX6_howMuch_67 mlX6_60 js_max ji_Math jc_max (Nat.le_of_ble_eq_true rfl) (Nat.le_of_ble_eq_true rfl) ?_
    refine V_reti (pc := 70) _ dX6_howMuch_70 rfl ?_
    first | exact ⟨by unfold h_much h_clamp; rw [if_neg (show ¬ Ls.isEmpty = true by simpa using h27)], fun q a b => hfr q a b, rfl⟩ | exact ⟨by unfold h_much h_clamp; rw [if_pos (show Ls.isEmpty = true by simpa using h27)], px_sw.rf, rfl⟩
  · skip
    refine V0_aload_n (pc := 30) dX6_howMuch_30 rfl ?_
    refine V0_iload_n (pc := 31) dX6_howMuch_31 rfl ?_
    refine V0_iload_n (pc := 32) dX6_howMuch_32 rfl ?_
    refine V0_iload (pc := 33) dX6_howMuch_33 rfl ?_
    refine V_callV (pc := 35) (M' := mX6_byText) dX6_howMuch_35 mlX6_46 okX6_byText rfl (c_X6_byText hlaw (by omega)) rfl rfl rfl rfl ⟨Nat.le_of_ble_eq_true rfl, Nat.le_of_ble_eq_true rfl⟩ ⟨Nat.le_refl 0, Nat.le_refl 0⟩ (Nat.le_of_ble_eq_true rfl) ?_
    intro r1 I1 J1 hh
    obtain ⟨e1, hfr, e3⟩ := hh
    rw [e1, e3]
    clear e1 e3 r1 J1
    refine V0_goto (pc := 38) 57 dX6_howMuch_38 (by decide) ?_
    refine V0_istore_5 (pc := 57) dX6_howMuch_57 (by decide) rfl ?_
    refine V0_iconst (pc := 59) (0) dX6_howMuch_59 (by decide) ?_
    refine V0_bipush (pc := 60) (9) dX6_howMuch_60 (by decide) ?_
    refine V0_iload (pc := 62) dX6_howMuch_62 rfl ?_
    refine V0_min (pc := 64) dX6_howMuch_64 mlX6_55 js_min ji_Math jc_min (Nat.le_of_ble_eq_true rfl) (Nat.le_of_ble_eq_true rfl) ?_
    refine V0_max (pc := 67) dX6_howMuch_67 mlX6_60 js_max ji_Math jc_max (Nat.le_of_ble_eq_true rfl) (Nat.le_of_ble_eq_true rfl) ?_
    refine V_reti (pc := 70) _ dX6_howMuch_70 rfl ?_
    first | exact ⟨by unfold h_much h_clamp; rw [if_neg (show ¬ Ls.isEmpty = true by simpa using h27)], fun q a b => hfr q a b, rfl⟩ | exact ⟨by unfold h_much h_clamp; rw [if_pos (show Ls.isEmpty = true by simpa using h27)], px_sw.rf, rfl⟩

