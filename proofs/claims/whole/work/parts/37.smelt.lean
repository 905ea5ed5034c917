/-! who smells what -/
theorem px_rem2 (x : Int32) : px_rem x 2 = -1 ∨ px_rem x 2 = 0 ∨ px_rem x 2 = 1 := by
  have h1 : x.toInt < 2 ^ 31 := Int32.toInt_lt x
  have h2 : -2 ^ 31 ≤ x.toInt := Int32.le_toInt x
  have hd : (x / 2).toInt = x.toInt.tdiv 2 := by
    rw [Int32.toInt_div]
    show Int.bmod (x.toInt.tdiv 2) (2 ^ 32) = _
    rw [Int.tdiv_eq_ediv, show Int.sign 2 = 1 from rfl]
    split <;> (rw [Int.bmod_def]; split <;> omega)
  have ht : (px_rem x 2).toInt = x.toInt - x.toInt.tdiv 2 * 2 := by
    unfold px_rem
    rw [Int32.toInt_sub, Int32.toInt_mul, hd, Int.tdiv_eq_ediv, show Int.sign 2 = 1 from rfl]
    show Int.bmod (x.toInt - Int.bmod (_ * 2) (2 ^ 32)) (2 ^ 32) = _
    split <;> (simp only [Int.bmod_def]; repeat' split) <;> omega
  rw [Int.tdiv_eq_ediv] at ht
  rw [← Int32.toInt_inj, ← Int32.toInt_inj, ← Int32.toInt_inj]
  show (px_rem x 2).toInt = -1 ∨ (px_rem x 2).toInt = 0 ∨ (px_rem x 2).toInt = 1
  split at ht
  · rename_i q
    rcases q with q | q
    · omega
    · omega
  · simp only [Int.sign] at ht
    omega
def h_side (I : px_I) (j : Nat) : Nat := ix (1 - px_rem (g_hoj I 8 j) 2)
theorem h_side_eq (I : px_I) (j : Nat) : 1 - px_rem (g_hoj I 8 j) 2 = nI (h_side I j) ∧ h_side I j ≤ 2 := by
  unfold h_side
  rcases px_rem2 (g_hoj I 8 j) with h | h | h <;> rw [h]
  · exact ⟨by decide, by decide⟩
  · exact ⟨by decide, by decide⟩
  · exact ⟨by decide, by decide⟩
def h_bits (g : Int32 → Int32) (nose : Int32) : Nat → Nat → Int32 → Int32
  | 0, _, b => b
  | f + 1, a, b => if a < 12 then h_bits g nose f (a + 2) (if g (nI a) < nose then b else b ||| ((1 : Int32) <<< (nI a &&& 31))) else b
def h_smelt (I : px_I) (n : Nat) (Ls : List l_L) (j : Nat) : Int32 := if g_runs I 8 j = true then h_bits (h_much I n Ls j) (I 1 9) 6 (h_side I j) 0 else 0
theorem lp_X6_hs {l : Launch} {I : px_I} {J : px_J} {m n j : Nat} {Ls : List l_L} {Q : px_Q} (hk : px_ok0 I m n) (hlaw : px_law I 14 Ls) (hj : j < 10) : ∀ (f a : Nat) (b : Int32) (I' : px_I), 12 ≤ a + 2 * f → a ≤ 13 → px_sw I I' → (∀ I2, px_sw I I2 → Q (some (.int (h_bits (h_much I n Ls j) (I 1 9) f a b))) I2 J) → V0 l (px_rm 5 0 0) mX6_housesSmelling (false, []) 0 0 26 [.ref 40, .int (nI j), .int b, .int (nI a)] [] (px_mk I' J) (px_q Q) := by
  intro f
  induction f with
  | zero =>
    intro a b I' h1 h2 hsw hQ
    refine V0_iload_n (pc := 26) dX6_housesSmelling_26 rfl ?_
    refine V0_bipush (pc := 27) (12) dX6_housesSmelling_27 (by decide) ?_
    refine V1_icmp_ge (pc := 29) 60 dX6_housesSmelling_29 (by decide) (fun h29 => ?_) (fun h29 => ?_)
    · skip
      refine V0_iload_n (pc := 60) dX6_housesSmelling_60 rfl ?_
      refine V_reti (pc := 61) _ dX6_housesSmelling_61 rfl ?_
      exact hQ _ hsw
    · skip
      exact absurd (px_lt (b := 12) h29 (by omega) (by omega)) (by omega)
  | succ f ih =>
    intro a b I' h1 h2 hsw hQ
    have hok := hsw.ok hk
    have hlw := hsw.law hlaw
    refine V0_iload_n (pc := 26) dX6_housesSmelling_26 rfl ?_
    refine V0_bipush (pc := 27) (12) dX6_housesSmelling_27 (by decide) ?_
    refine V1_icmp_ge (pc := 29) 60 dX6_housesSmelling_29 (by decide) (fun h29 => ?_) (fun h29 => ?_)
    · skip
      refine V0_iload_n (pc := 60) dX6_housesSmelling_60 rfl ?_
      refine V_reti (pc := 61) _ dX6_housesSmelling_61 rfl ?_
      have := hQ _ hsw
      rw [h_bits, if_neg (fun q => h29 ((qI_lt (b := 12) (by omega) (by omega)).mpr q))] at this
      exact this
    · skip
      have ha := px_lt (b := 12) h29 (by omega) (by omega)
      refine V0_aload_n (pc := 32) dX6_housesSmelling_32 rfl ?_
      refine V0_iload_n (pc := 33) dX6_housesSmelling_33 rfl ?_
      refine V0_iload_n (pc := 34) dX6_housesSmelling_34 rfl ?_
      refine V_callV (pc := 35) (M' := mX6_howMuch) dX6_housesSmelling_35 mlX6_90 okX6_howMuch rfl (c_X6_howMuch hok hlw (by omega)) rfl rfl rfl rfl ⟨Nat.le_of_ble_eq_true rfl, Nat.le_of_ble_eq_true rfl⟩ ⟨Nat.le_refl 0, Nat.le_refl 0⟩ (Nat.le_of_ble_eq_true rfl) ?_
      intro r1 I1 J1 hh
      obtain ⟨e1, hfr, e3⟩ := hh
      rw [e1, e3]
      clear e1 e3 r1 J1
      rw [h_much_congr hsw]
      refine V0_aload_n (pc := 38) dX6_housesSmelling_38 rfl ?_
      refine V_getr (pc := 39) dX6_housesSmelling_39 flX6_15 rfl rfl ?_
      refine V_geti (pc := 42) dX6_housesSmelling_42 flX6_93 rfl rfl ?_
      rw [(hsw.tr hfr) 1 (by omega) (by omega)]
      refine V0_icmp_lt (pc := 45) 54 dX6_housesSmelling_45 (by decide) (fun h45 => ?_) (fun h45 => ?_)
      · skip
        refine V0_iinc_3 (pc := 54) (nI (a + 2)) dX6_housesSmelling_54 (by decide) rfl (qI_add a 2) ?_
        refine V0_goto (pc := 57) 26 dX6_housesSmelling_57 (by decide) ?_
        first | exact ih (a + 2) _ I1 (by omega) (by omega) (hsw.tr hfr) (fun I2 h => by have := hQ I2 h; rw [h_bits, if_pos ha, if_pos h45] at this; exact this) | exact ih (a + 2) _ I1 (by omega) (by omega) (hsw.tr hfr) (fun I2 h => by have := hQ I2 h; rw [h_bits, if_pos ha, if_neg h45] at this; exact this)
      · skip
        refine V0_iload_n (pc := 48) dX6_housesSmelling_48 rfl ?_
        refine V0_iconst (pc := 49) (1) dX6_housesSmelling_49 (by decide) ?_
        refine V0_iload_n (pc := 50) dX6_housesSmelling_50 rfl ?_
        refine V0_ishl (pc := 51) dX6_housesSmelling_51 ?_
        refine V0_ior (pc := 52) dX6_housesSmelling_52 ?_
        refine V0_istore_2 (pc := 53) dX6_housesSmelling_53 (by decide) rfl ?_
        refine V0_iinc_3 (pc := 54) (nI (a + 2)) dX6_housesSmelling_54 (by decide) rfl (qI_add a 2) ?_
        refine V0_goto (pc := 57) 26 dX6_housesSmelling_57 (by decide) ?_
        first | exact ih (a + 2) _ I1 (by omega) (by omega) (hsw.tr hfr) (fun I2 h => by have := hQ I2 h; rw [h_bits, if_pos ha, if_pos h45] at this; exact this) | exact ih (a + 2) _ I1 (by omega) (by omega) (hsw.tr hfr) (fun I2 h => by have := hQ I2 h; rw [h_bits, if_pos ha, if_neg h45] at this; exact this)
theorem c_X6_housesSmelling {l : Launch} {I : px_I} {J : px_J} {m n j : Nat} {Ls : List l_L} (hk : px_ok0 I m n) (hlaw : px_law I 14 Ls) (hj : j < 10) : Ct l mX6_housesSmelling 5 [.ref 40, .int (nI j)] I J (fun r I' J' => r = some (.int (h_smelt I n Ls j)) ∧ px_sw I I' ∧ J' = J) := by
  have ho := hk.2.2.2.2.1
  refine Ct.of plX6_housesSmelling (Nat.le_of_ble_eq_true rfl) [.ref 40, .int (nI j), .null, .null] rfl ?_
  refine V0_aload_n (pc := 0) dX6_housesSmelling_0 rfl ?_
  refine V_getr (pc := 1) dX6_housesSmelling_1 flX6_19 rfl rfl ?_
  refine V0_iload_n (pc := 4) dX6_housesSmelling_4 rfl ?_
  refine V_callVi (pc := 5) (M' := mX2_runs) dX6_housesSmelling_5 mlX6_83 okX2_runs rfl (c_X2_runs cs8 (by omega)) rfl rfl rfl rfl ⟨Nat.le_of_ble_eq_true rfl, Nat.le_of_ble_eq_true rfl⟩ ⟨Nat.le_refl 0, Nat.le_refl 0⟩ (Nat.le_of_ble_eq_true rfl) ?_
  refine V_ifneb (pc := 8) 13 dX6_housesSmelling_8 (by decide) (fun h8 => ?_) (fun h8 => ?_)
  · skip
    refine V0_iconst (pc := 13) (0) dX6_housesSmelling_13 (by decide) ?_
    refine V0_istore_2 (pc := 14) dX6_housesSmelling_14 (by decide) rfl ?_
    refine V0_iconst (pc := 15) (1) dX6_housesSmelling_15 (by decide) ?_
    refine V0_aload_n (pc := 16) dX6_housesSmelling_16 rfl ?_
    refine V_getr (pc := 17) dX6_housesSmelling_17 flX6_19 rfl rfl ?_
    refine V0_iload_n (pc := 20) dX6_housesSmelling_20 rfl ?_
    refine V_callVi (pc := 21) (M' := mX2_sideOfJoy) dX6_housesSmelling_21 mlX6_87 okX2_sideOfJoy rfl (c_X2_sideOfJoy cs8 (by omega) ho) rfl rfl rfl rfl ⟨Nat.le_of_ble_eq_true rfl, Nat.le_of_ble_eq_true rfl⟩ ⟨Nat.le_refl 0, Nat.le_refl 0⟩ (Nat.le_of_ble_eq_true rfl) ?_
    refine V0_isub (pc := 24) dX6_housesSmelling_24 ?_
    rw [(h_side_eq I j).1]
    refine V0_istore_3 (pc := 25) dX6_housesSmelling_25 (by decide) rfl ?_
    exact lp_X6_hs hk hlaw hj 6 (h_side I j) 0 I (by omega) (by have := (h_side_eq I j).2; omega) px_sw.rf (fun I2 h => ⟨by rw [h_smelt, if_pos h8], h, rfl⟩)
  · skip
    refine V0_iconst (pc := 11) (0) dX6_housesSmelling_11 (by decide) ?_
    refine V_reti (pc := 12) _ dX6_housesSmelling_12 rfl ?_
    exact ⟨by rw [h_smelt, if_neg (by rw [show g_runs I 8 j = false from h8]; decide)], px_sw.rf, rfl⟩
def h_holds (I : px_I) (n : Nat) (w : Int32) : Bool := !s_any (fun j => decide (((w >>> (g_hoj I 8 j &&& 31)) &&& 1) = 0) && !decide ((I 41 j &&& (w ^^^ (-1))) = 0)) n
theorem lp_X6_holdsIn {l : Launch} {I : px_I} {J : px_J} {m n : Nat} {w : Int32} {Q : px_Q} (hk : px_ok0 I m n) (hQ : Q (some (.int (b2 (h_holds I n w)))) I J) : ∀ (f j : Nat) (v : Value), n + 1 - j ≤ f → j ≤ n → s_any (fun j => decide (((w >>> (g_hoj I 8 j &&& 31)) &&& 1) = 0) && !decide ((I 41 j &&& (w ^^^ (-1))) = 0)) j = false → V0 l (px_rm 1 0 0) mX6_holdsIn (false, []) 0 0 2 [.ref 40, .int w, .int (nI j), v] [] (px_mk I J) (px_q Q) := by
  have hn := hk.2.2.1
  have hn10 := hk.2.2.2.1
  have ho := hk.2.2.2.2.1
  intro f
  induction f with
  | zero => intro j v h1 h2; omega
  | succ f ih =>
    intro j v h1 h2 hs
    refine V0_iload_n (pc := 2) dX6_holdsIn_2 rfl ?_
    refine V0_aload_n (pc := 3) dX6_holdsIn_3 rfl ?_
    refine V_getr (pc := 4) dX6_holdsIn_4 flX6_15 rfl rfl ?_
    refine V_geti (pc := 7) dX6_holdsIn_7 flX6_80 rfl rfl ?_
    rw [hn]
    refine V1_icmp_ge (pc := 10) 59 dX6_holdsIn_10 (by decide) (fun h10 => ?_) (fun h10 => ?_)
    · skip
      have hj : j = n := by have := px_ge h10 (by omega) (by omega); omega
      subst hj
      refine V0_iconst (pc := 59) (1) dX6_holdsIn_59 (by decide) ?_
      refine V_retz (pc := 60) _ dX6_holdsIn_60 rfl (Or.inr rfl) ?_
      have : Q (some (.int (b2 true))) I J := by have q := hQ; rw [h_holds, hs] at q; exact q
      exact this
    · skip
      have hj := px_lt h10 (by omega) (by omega)
      refine V0_iload_n (pc := 13) dX6_holdsIn_13 rfl ?_
      refine V0_aload_n (pc := 14) dX6_holdsIn_14 rfl ?_
      refine V_getr (pc := 15) dX6_holdsIn_15 flX6_19 rfl rfl ?_
      refine V0_iload_n (pc := 18) dX6_holdsIn_18 rfl ?_
      refine V_callVi (pc := 19) (M' := mX2_houseOfJoy) dX6_holdsIn_19 mlX6_27 okX2_houseOfJoy rfl (c_X2_houseOfJoy cs8 (by omega) ho) rfl rfl rfl rfl ⟨Nat.le_of_ble_eq_true rfl, Nat.le_of_ble_eq_true rfl⟩ ⟨Nat.le_refl 0, Nat.le_refl 0⟩ (Nat.le_of_ble_eq_true rfl) ?_
      refine V0_ishr (pc := 22) dX6_holdsIn_22 ?_
      refine V0_iconst (pc := 23) (1) dX6_holdsIn_23 (by decide) ?_
      refine V0_iand (pc := 24) dX6_holdsIn_24 ?_
      refine V0_if_eq (pc := 25) 32 dX6_holdsIn_25 (by decide) (fun h25 => ?_) (fun h25 => ?_)
      · skip
        refine V0_iconst (pc := 32) (0) dX6_holdsIn_32 (by decide) ?_
        refine V0_istore_3 (pc := 33) dX6_holdsIn_33 (by decide) rfl ?_
        refine V0_iload_n (pc := 34) dX6_holdsIn_34 rfl ?_
        refine V0_if_ne (pc := 35) 53 dX6_holdsIn_35 (by decide) (fun h35 => ?_) (fun h35 => ?_)
        · skip
          exact absurd h35 (by decide)
        · skip
          refine V0_aload_n (pc := 38) dX6_holdsIn_38 rfl ?_
          refine V_getr (pc := 39) dX6_holdsIn_39 flX6_9 rfl rfl ?_
          refine V0_iload_n (pc := 42) dX6_holdsIn_42 rfl ?_
          refine V_iald (pc := 43) (j) dX6_holdsIn_43 rfl rfl (by omega) ?_
          refine V0_iload_n (pc := 44) dX6_holdsIn_44 rfl ?_
          refine V0_iconst (pc := 45) (-1) dX6_holdsIn_45 (by decide) ?_
          refine V0_ixor (pc := 46) dX6_holdsIn_46 ?_
          refine V0_iand (pc := 47) dX6_holdsIn_47 ?_
          refine V0_if_eq (pc := 48) 53 dX6_holdsIn_48 (by decide) (fun h48 => ?_) (fun h48 => ?_)
          · skip
            refine V0_iinc_2 (pc := 53) (nI (j + 1)) dX6_holdsIn_53 (by decide) rfl (nI_1 _) ?_
            refine V0_goto (pc := 56) 2 dX6_holdsIn_56 (by decide) ?_
            first | exact ih (j + 1) _ (by omega) (by omega) (by rw [s_any, hs, decide_eq_false h25]; rfl) | exact ih (j + 1) _ (by omega) (by omega) (by rw [s_any, hs, decide_eq_true h48, Bool.not_true, Bool.and_false]; rfl)
          · skip
            refine V0_iconst (pc := 51) (0) dX6_holdsIn_51 (by decide) ?_
            refine V_retz (pc := 52) _ dX6_holdsIn_52 rfl (Or.inl rfl) ?_
            have : Q (some (.int (b2 false))) I J := by have q := hQ; rw [h_holds, s_any_of (j := j) hj (by rw [decide_eq_true h25, decide_eq_false h48]; rfl)] at q; exact q
            exact this
      · skip
        refine V0_iconst (pc := 28) (1) dX6_holdsIn_28 (by decide) ?_
        refine V0_goto (pc := 29) 33 dX6_holdsIn_29 (by decide) ?_
        refine V0_istore_3 (pc := 33) dX6_holdsIn_33 (by decide) rfl ?_
        refine V0_iload_n (pc := 34) dX6_holdsIn_34 rfl ?_
        refine V0_if_ne (pc := 35) 53 dX6_holdsIn_35 (by decide) (fun h35 => ?_) (fun h35 => ?_)
        · skip
          refine V0_iinc_2 (pc := 53) (nI (j + 1)) dX6_holdsIn_53 (by decide) rfl (nI_1 _) ?_
          refine V0_goto (pc := 56) 2 dX6_holdsIn_56 (by decide) ?_
          first | exact ih (j + 1) _ (by omega) (by omega) (by rw [s_any, hs, decide_eq_false h25]; rfl) | exact ih (j + 1) _ (by omega) (by omega) (by rw [s_any, hs, decide_eq_true h48, Bool.not_true, Bool.and_false]; rfl)
        · skip
          exact absurd h35 (by decide)
theorem c_X6_holdsIn {l : Launch} {I : px_I} {J : px_J} {m n : Nat} {w : Int32} (hk : px_ok0 I m n) : CtI l mX6_holdsIn 1 [.ref 40, .int w] I J (b2 (h_holds I n w)) := by
  refine Ct.of plX6_holdsIn (Nat.le_of_ble_eq_true rfl) [.ref 40, .int w, .null, .null] rfl ?_
  refine V0_iconst (pc := 0) (0) dX6_holdsIn_0 (by decide) ?_
  refine V0_istore_2 (pc := 1) dX6_holdsIn_1 (by decide) rfl ?_
  exact lp_X6_holdsIn hk ⟨rfl, rfl, rfl⟩ (n + 1) 0 _ (by omega) (by omega) rfl
def h_row (g : Nat → Int32) (r : Nat → Int32) (n : Nat) : Nat → Int32 := fun k => if k < n then g k else r k
/-- scratch, and what is smelt -/
def px_sx (I I' : px_I) : Prop := ∀ q, q ≠ 15 → q ≠ 18 → q ≠ 41 → I' q = I q
theorem px_sw.sx {I I' : px_I} (h : px_sw I I') : px_sx I I' := fun q a b _ => h q a b
theorem h_smelt_congr {I I' : px_I} {n j : Nat} {Ls : List l_L} (h : px_sx I I') : h_smelt I' n Ls j = h_smelt I n Ls j := by
  have e1 : I' 4 = I 4 := h 4 (by omega) (by omega) (by omega)
  have e2 : I' 10 = I 10 := h 10 (by omega) (by omega) (by omega)
  have e3 : I' 11 = I 11 := h 11 (by omega) (by omega) (by omega)
  have e4 : I' 9 = I 9 := h 9 (by omega) (by omega) (by omega)
  have e5 : I' 2 = I 2 := h 2 (by omega) (by omega) (by omega)
  have e6 : I' 6 = I 6 := h 6 (by omega) (by omega) (by omega)
  have e7 : I' 7 = I 7 := h 7 (by omega) (by omega) (by omega)
  have e8 : I' 8 = I 8 := h 8 (by omega) (by omega) (by omega)
  have e9 : I' 1 = I 1 := h 1 (by omega) (by omega) (by omega)
  have e : h_much I' n Ls j = h_much I n Ls j := by
    funext house
    unfold h_much
    have o : h_oth I' j = h_oth I j := by
      funext e
      simp only [h_oth, g_runs, g_hoj, e1, e2, e3, e4, e5]
    have o2 : h_nm I' j = h_nm I j := by
      funext a b x
      simp only [h_nm, e1, e6, e7, e8]
    rw [o, o2]
    simp only [g_hoj, e4, e5, e6]
  unfold h_smelt h_side
  rw [e, e9]
  simp only [g_runs, g_hoj, e1, e2, e3, e4, e5]
theorem px_sx.tr {I I' I2 : px_I} (h : px_sx I I') (g : px_sx I' I2) : px_sx I I2 := fun q a b c => (g q a b c).trans (h q a b c)
theorem px_sx.rf {I : px_I} : px_sx I I := fun _ _ _ _ => rfl
theorem px_sx.ok {I I' : px_I} {m n : Nat} (h : px_sx I I') (hk : px_ok0 I m n) : px_ok0 I' m n := hk.of (h 1 (by omega) (by omega) (by omega)) (h 2 (by omega) (by omega) (by omega))
theorem px_sx.law {I I' : px_I} {Ls : List l_L} (h : px_sx I I') (hk : px_law I 14 Ls) : px_law I' 14 Ls := hk.of (h _ (by omega) (by omega) (by omega)) (h _ (by omega) (by omega) (by omega)) (by rw [h _ (by omega) (by omega) (by omega)])
theorem px_sx.up {I I' : px_I} {k : Nat} {x : Int32} (h : px_sx I I') : px_sx I (px_up I' 41 k x) := fun q a b c => (px_up_row c).trans (h q a b c)
def h_few (t : Nat → Bool) : Nat → Int32
  | 0 => nI 4095
  | w + 1 => if s_bc (nI w) < s_bc (h_few t w) ∧ t w = true then nI w else h_few t w
def h_tight (I : px_I) (n : Nat) (Ls : List l_L) (w : Int32) : Bool := !s_any (fun j => decide (((w >>> (g_hoj I 8 j &&& 31)) &&& 1) = 0) && !decide ((h_smelt I n Ls j &&& (w ^^^ (-1))) = 0)) n
def h_shut (I : px_I) (n : Nat) (Ls : List l_L) : Int32 := h_few (fun w => h_tight I n Ls (nI w)) 4096
theorem h_holds_eq {I I' : px_I} {n : Nat} {Ls : List l_L} {w : Int32} (h : px_sx I I') (h3 : ∀ j, j < n → I' 41 j = h_smelt I n Ls j) : h_holds I' n w = h_tight I n Ls w := by
  unfold h_holds h_tight
  rw [s_any_congr n (fun j hj => ?_)]
  simp only [g_hoj, h3 j hj, h (8 + 1) (by omega) (by omega) (by omega), h 2 (by omega) (by omega) (by omega)]
theorem px_up_le {I : px_I} {p j : Nat} {g : Nat → Int32} (h : ∀ i, i < j → I p i = g i) : ∀ i, i < j + 1 → px_up I p j (g j) p i = g i := by
  intro i hi
  by_cases e : i = j
  · subst e; exact px_up_same
  · rw [px_up_ne (fun q => e q.2)]; exact h i (by omega)
theorem lp_X6_shut2 {l : Launch} {I I' : px_I} {J : px_J} {m n : Nat} {Ls : List l_L} {Q : px_Q} (hk : px_ok0 I' m n) (hQ : Q (some (.int (h_few (fun w => h_holds I' n (nI w)) 4096))) I' J) : ∀ (f w : Nat), 4097 - w ≤ f → w ≤ 4096 → V0 l (px_rm 6 0 0) mX6_fewestShut (false, []) 0 0 36 [.ref 40, .int (h_few (fun w => h_holds I' n (nI w)) w), .int (nI w)] [] (px_mk I' J) (px_q Q) := by
  intro f
  induction f with
  | zero => intro w h1 h2; omega
  | succ f ih =>
    intro w h1 h2
    refine V0_iload_n (pc := 36) dX6_fewestShut_36 rfl ?_
    refine V0_sipush (pc := 37) (4096) dX6_fewestShut_37 (by decide) ?_
    refine V1_icmp_ge (pc := 40) 70 dX6_fewestShut_40 (by decide) (fun h40 => ?_) (fun h40 => ?_)
    · skip
      have hw : w = 4096 := by have := px_ge (b := 4096) h40 (by omega) (by omega); omega
      subst hw
      refine V0_iload_n (pc := 70) dX6_fewestShut_70 rfl ?_
      refine V_reti (pc := 71) _ dX6_fewestShut_71 rfl ?_
      exact hQ
    · skip
      have hw := px_lt (b := 4096) h40 (by omega) (by omega)
      refine V0_iload_n (pc := 43) dX6_fewestShut_43 rfl ?_
      refine V_callSi (pc := 44) (M' := mJ6_bitCount_0f7a4) dX6_fewestShut_44 mlX6_99 okJ6_bitCount_0f7a4 rfl c_J6_bitCount_0f7a4 rfl rfl ⟨Nat.le_of_ble_eq_true rfl, Nat.le_of_ble_eq_true rfl⟩ ⟨Nat.le_refl 0, Nat.le_refl 0⟩ (Nat.le_of_ble_eq_true rfl) ?_
      refine V0_iload_n (pc := 47) dX6_fewestShut_47 rfl ?_
      refine V_callSi (pc := 48) (M' := mJ6_bitCount_0f7a4) dX6_fewestShut_48 mlX6_99 okJ6_bitCount_0f7a4 rfl c_J6_bitCount_0f7a4 rfl rfl ⟨Nat.le_of_ble_eq_true rfl, Nat.le_of_ble_eq_true rfl⟩ ⟨Nat.le_refl 0, Nat.le_refl 0⟩ (Nat.le_of_ble_eq_true rfl) ?_
      refine V1_icmp_ge (pc := 51) 64 dX6_fewestShut_51 (by decide) (fun h51 => ?_) (fun h51 => ?_)
      · skip
        refine V0_iinc_2 (pc := 64) (nI (w + 1)) dX6_fewestShut_64 (by decide) rfl (nI_1 _) ?_
        refine V0_goto (pc := 67) 36 dX6_fewestShut_67 (by decide) ?_
        first | exact V_ls (by rw [h_few, if_neg (fun q => h51 q.1)]) (ih (w + 1) (by omega) (by omega)) | exact V_ls (by rw [h_few, if_neg (fun q => by rw [show h_holds I' n (nI w) = false from h59] at q; exact absurd q.2 (by decide))]) (ih (w + 1) (by omega) (by omega)) | exact V_ls (by rw [h_few, if_pos ⟨h51, h59⟩]) (ih (w + 1) (by omega) (by omega))
      · skip
        refine V0_aload_n (pc := 54) dX6_fewestShut_54 rfl ?_
        refine V0_iload_n (pc := 55) dX6_fewestShut_55 rfl ?_
        refine V_callVi (pc := 56) (M' := mX6_holdsIn) dX6_fewestShut_56 mlX6_104 okX6_holdsIn rfl (c_X6_holdsIn hk) rfl rfl rfl rfl ⟨Nat.le_of_ble_eq_true rfl, Nat.le_of_ble_eq_true rfl⟩ ⟨Nat.le_refl 0, Nat.le_refl 0⟩ (Nat.le_of_ble_eq_true rfl) ?_
        refine V_ifeqb (pc := 59) 64 dX6_fewestShut_59 (by decide) (fun h59 => ?_) (fun h59 => ?_)
        · skip
          refine V0_iinc_2 (pc := 64) (nI (w + 1)) dX6_fewestShut_64 (by decide) rfl (nI_1 _) ?_
          refine V0_goto (pc := 67) 36 dX6_fewestShut_67 (by decide) ?_
          first | exact V_ls (by rw [h_few, if_neg (fun q => h51 q.1)]) (ih (w + 1) (by omega) (by omega)) | exact V_ls (by rw [h_few, if_neg (fun q => by rw [show h_holds I' n (nI w) = false from h59] at q; exact absurd q.2 (by decide))]) (ih (w + 1) (by omega) (by omega)) | exact V_ls (by rw [h_few, if_pos ⟨h51, h59⟩]) (ih (w + 1) (by omega) (by omega))
        · skip
          refine V0_iload_n (pc := 62) dX6_fewestShut_62 rfl ?_
          refine V0_istore_1 (pc := 63) dX6_fewestShut_63 (by decide) rfl ?_
          refine V0_iinc_2 (pc := 64) (nI (w + 1)) dX6_fewestShut_64 (by decide) rfl (nI_1 _) ?_
          refine V0_goto (pc := 67) 36 dX6_fewestShut_67 (by decide) ?_
          first | exact V_ls (by rw [h_few, if_neg (fun q => h51 q.1)]) (ih (w + 1) (by omega) (by omega)) | exact V_ls (by rw [h_few, if_neg (fun q => by rw [show h_holds I' n (nI w) = false from h59] at q; exact absurd q.2 (by decide))]) (ih (w + 1) (by omega) (by omega)) | exact V_ls (by rw [h_few, if_pos ⟨h51, h59⟩]) (ih (w + 1) (by omega) (by omega))
theorem lp_X6_shut {l : Launch} {I : px_I} {J : px_J} {m n : Nat} {Ls : List l_L} (hk : px_ok0 I m n) (hlaw : px_law I 14 Ls) : ∀ (f j : Nat) (I' : px_I) (v : Value), n + 1 - j ≤ f → j ≤ n → px_sx I I' → (∀ i, i < j → I' 41 i = h_smelt I n Ls i) → V0 l (px_rm 6 0 0) mX6_fewestShut (false, []) 0 0 2 [.ref 40, .int (nI j), v] [] (px_mk I' J) (px_q (fun r I' J' => r = some (.int (h_shut I n Ls)) ∧ px_sx I I' ∧ J' = J)) := by
  intro f
  induction f with
  | zero => intro j I' v h1 h2; omega
  | succ f ih =>
    intro j I' v h1 h2 hs hrow
    have hok := hs.ok hk
    have hlw := hs.law hlaw
    have hn := hok.2.2.1
    have hn10 := hok.2.2.2.1
    refine V0_iload_n (pc := 2) dX6_fewestShut_2 rfl ?_
    refine V0_aload_n (pc := 3) dX6_fewestShut_3 rfl ?_
    refine V_getr (pc := 4) dX6_fewestShut_4 flX6_15 rfl rfl ?_
    refine V_geti (pc := 7) dX6_fewestShut_7 flX6_80 rfl rfl ?_
    rw [hn]
    refine V1_icmp_ge (pc := 10) 30 dX6_fewestShut_10 (by decide) (fun h10 => ?_) (fun h10 => ?_)
    · skip
      have hj : j = n := by have := px_ge h10 (by omega) (by omega); omega
      subst hj
      refine V0_sipush (pc := 30) (4095) dX6_fewestShut_30 (by decide) ?_
      refine V0_istore_1 (pc := 33) dX6_fewestShut_33 (by decide) rfl ?_
      refine V0_iconst (pc := 34) (0) dX6_fewestShut_34 (by decide) ?_
      refine V0_istore_2 (pc := 35) dX6_fewestShut_35 (by decide) rfl ?_
      have e : (fun w => h_holds I' j (nI w)) = fun w => h_tight I j Ls (nI w) := by funext w; exact h_holds_eq hs hrow
      exact lp_X6_shut2 (I := I) (Ls := Ls) hok ⟨by rw [e, h_shut], hs, rfl⟩ 4097 0 (by omega) (by omega)
    · skip
      have hj := px_lt h10 (by omega) (by omega)
      refine V0_aload_n (pc := 13) dX6_fewestShut_13 rfl ?_
      refine V_getr (pc := 14) dX6_fewestShut_14 flX6_9 rfl rfl ?_
      refine V0_iload_n (pc := 17) dX6_fewestShut_17 rfl ?_
      refine V0_aload_n (pc := 18) dX6_fewestShut_18 rfl ?_
      refine V0_iload_n (pc := 19) dX6_fewestShut_19 rfl ?_
      refine V_callV (pc := 20) (M' := mX6_housesSmelling) dX6_fewestShut_20 mlX6_96 okX6_housesSmelling rfl (c_X6_housesSmelling hok hlw (by omega)) rfl rfl rfl rfl ⟨Nat.le_of_ble_eq_true rfl, Nat.le_of_ble_eq_true rfl⟩ ⟨Nat.le_refl 0, Nat.le_refl 0⟩ (Nat.le_of_ble_eq_true rfl) ?_
      intro r1 I1 J1 hh
      obtain ⟨e1, hfr, e3⟩ := hh
      rw [e1, e3]
      clear e1 e3 r1 J1
      rw [h_smelt_congr hs]
      refine V_iast (pc := 23) (j) dX6_fewestShut_23 rfl rfl (by omega) ?_
      refine V0_iinc_1 (pc := 24) (nI (j + 1)) dX6_fewestShut_24 (by decide) rfl (nI_1 _) ?_
      refine V0_goto (pc := 27) 2 dX6_fewestShut_27 (by decide) ?_
      exact ih (j + 1) _ v (by omega) (by omega) ((hs.tr hfr.sx).up) (fun i hi => px_up_le (fun i hi => by rw [hfr 41 (by omega) (by omega)]; exact hrow i hi) i hi)
theorem c_X6_fewestShut {l : Launch} {I : px_I} {J : px_J} {m n : Nat} {Ls : List l_L} (hk : px_ok0 I m n) (hlaw : px_law I 14 Ls) : Ct l mX6_fewestShut 6 [.ref 40] I J (fun r I' J' => r = some (.int (h_shut I n Ls)) ∧ px_sx I I' ∧ J' = J) := by
  refine Ct.of plX6_fewestShut (Nat.le_of_ble_eq_true rfl) [.ref 40, .null, .null] rfl ?_
  refine V0_iconst (pc := 0) (0) dX6_fewestShut_0 (by decide) ?_
  refine V0_istore_1 (pc := 1) dX6_fewestShut_1 (by decide) rfl ?_
  exact lp_X6_shut hk hlaw (n + 1) 0 I _ (by omega) (by omega) px_sx.rf (fun i hi => by omega)
def s_live (house : Nat → Int32) : Nat → Int32
  | 0 => 0
  | k + 1 => s_live house k ||| ((1 : Int32) <<< (house k &&& 31))
def h_lived (I : px_I) (m n : Nat) (Ls : List l_L) : Int32 := s_cnt (fun j => !decide ((h_smelt I n Ls j &&& s_live (I 9) m) = 0)) n
theorem lp_X6_lived2 {l : Launch} {I : px_I} {J : px_J} {m n : Nat} {Ls : List l_L} {Q : px_Q} (hk : px_ok0 I m n) (hlaw : px_law I 14 Ls) (hQ : ∀ I', px_sw I I' → Q (some (.int (h_lived I m n Ls))) I' J) : ∀ (f j : Nat) (I' : px_I), n + 1 - j ≤ f → j ≤ n → px_sw I I' → V0 l (px_rm 6 0 0) mX6_smeltWhereLived (false, []) 0 0 39 [.ref 40, .int (s_live (I 9) m), .int (s_cnt (fun j => !decide ((h_smelt I n Ls j &&& s_live (I 9) m) = 0)) j), .int (nI j)] [] (px_mk I' J) (px_q Q) := by
  intro f
  induction f with
  | zero => intro j I' h1 h2; omega
  | succ f ih =>
    intro j I' h1 h2 hs
    have hok := hs.ok hk
    have hlw := hs.law hlaw
    have hn := hok.2.2.1
    have hn10 := hok.2.2.2.1
    refine V0_iload_n (pc := 39) dX6_smeltWhereLived_39 rfl ?_
    refine V0_aload_n (pc := 40) dX6_smeltWhereLived_40 rfl ?_
    refine V_getr (pc := 41) dX6_smeltWhereLived_41 flX6_15 rfl rfl ?_
    refine V_geti (pc := 44) dX6_smeltWhereLived_44 flX6_80 rfl rfl ?_
    rw [hn]
    refine V1_icmp_ge (pc := 47) 69 dX6_smeltWhereLived_47 (by decide) (fun h47 => ?_) (fun h47 => ?_)
    · skip
      have hj : j = n := by have := px_ge h47 (by omega) (by omega); omega
      subst hj
      refine V0_iload_n (pc := 69) dX6_smeltWhereLived_69 rfl ?_
      refine V_reti (pc := 70) _ dX6_smeltWhereLived_70 rfl ?_
      exact hQ _ hs
    · skip
      have hj := px_lt h47 (by omega) (by omega)
      refine V0_aload_n (pc := 50) dX6_smeltWhereLived_50 rfl ?_
      refine V0_iload_n (pc := 51) dX6_smeltWhereLived_51 rfl ?_
      refine V_callV (pc := 52) (M' := mX6_housesSmelling) dX6_smeltWhereLived_52 mlX6_96 okX6_housesSmelling rfl (c_X6_housesSmelling hok hlw (by omega)) rfl rfl rfl rfl ⟨Nat.le_of_ble_eq_true rfl, Nat.le_of_ble_eq_true rfl⟩ ⟨Nat.le_refl 0, Nat.le_refl 0⟩ (Nat.le_of_ble_eq_true rfl) ?_
      intro r1 I1 J1 hh
      obtain ⟨e1, hfr, e3⟩ := hh
      rw [e1, e3]
      clear e1 e3 r1 J1
      rw [h_smelt_congr hs.sx]
      refine V0_iload_n (pc := 55) dX6_smeltWhereLived_55 rfl ?_
      refine V0_iand (pc := 56) dX6_smeltWhereLived_56 ?_
      refine V0_if_eq (pc := 57) 63 dX6_smeltWhereLived_57 (by decide) (fun h57 => ?_) (fun h57 => ?_)
      · skip
        refine V0_iinc_3 (pc := 63) (nI (j + 1)) dX6_smeltWhereLived_63 (by decide) rfl (nI_1 _) ?_
        refine V0_goto (pc := 66) 39 dX6_smeltWhereLived_66 (by decide) ?_
        first | exact V_ls (by rw [s_cnt, if_neg (by rw [decide_eq_true h57]; decide)]) (ih (j + 1) I1 (by omega) (by omega) (hs.tr hfr)) | exact V_ls (by rw [s_cnt, if_pos (by rw [decide_eq_false h57]; rfl)]; rfl) (ih (j + 1) I1 (by omega) (by omega) (hs.tr hfr))
      · skip
        refine V0_iinc_2 (pc := 60) _ dX6_smeltWhereLived_60 (by decide) rfl rfl ?_
        refine V0_iinc_3 (pc := 63) (nI (j + 1)) dX6_smeltWhereLived_63 (by decide) rfl (nI_1 _) ?_
        refine V0_goto (pc := 66) 39 dX6_smeltWhereLived_66 (by decide) ?_
        first | exact V_ls (by rw [s_cnt, if_neg (by rw [decide_eq_true h57]; decide)]) (ih (j + 1) I1 (by omega) (by omega) (hs.tr hfr)) | exact V_ls (by rw [s_cnt, if_pos (by rw [decide_eq_false h57]; rfl)]; rfl) (ih (j + 1) I1 (by omega) (by omega) (hs.tr hfr))
theorem lp_X6_lived {l : Launch} {I : px_I} {J : px_J} {m n : Nat} {Ls : List l_L} {v : Value} (hk : px_ok0 I m n) (hlaw : px_law I 14 Ls) : ∀ (f j : Nat), m + 1 - j ≤ f → j ≤ m → V0 l (px_rm 6 0 0) mX6_smeltWhereLived (false, []) 0 0 4 [.ref 40, .int (s_live (I 9) j), .int (nI j), v] [] (px_mk I J) (px_q (fun r I' J' => r = some (.int (h_lived I m n Ls)) ∧ px_sw I I' ∧ J' = J)) := by
  have hm := hk.1
  have hm7 := hk.2.1
  intro f
  induction f with
  | zero => intro j h1 h2; omega
  | succ f ih =>
    intro j h1 h2
    refine V0_iload_n (pc := 4) dX6_smeltWhereLived_4 rfl ?_
    refine V0_aload_n (pc := 5) dX6_smeltWhereLived_5 rfl ?_
    refine V_getr (pc := 6) dX6_smeltWhereLived_6 flX6_15 rfl rfl ?_
    refine V_geti (pc := 9) dX6_smeltWhereLived_9 flX6_107 rfl rfl ?_
    rw [hm]
    refine V1_icmp_ge (pc := 12) 35 dX6_smeltWhereLived_12 (by decide) (fun h12 => ?_) (fun h12 => ?_)
    · skip
      have hj : j = m := by have := px_ge h12 (by omega) (by omega); omega
      subst hj
      refine V0_iconst (pc := 35) (0) dX6_smeltWhereLived_35 (by decide) ?_
      refine V0_istore_2 (pc := 36) dX6_smeltWhereLived_36 (by decide) rfl ?_
      refine V0_iconst (pc := 37) (0) dX6_smeltWhereLived_37 (by decide) ?_
      refine V0_istore_3 (pc := 38) dX6_smeltWhereLived_38 (by decide) rfl ?_
      exact lp_X6_lived2 hk hlaw (fun I2 h => ⟨rfl, h, rfl⟩) (n + 1) 0 I (by omega) (by omega) px_sw.rf
    · skip
      have hj := px_lt h12 (by omega) (by omega)
      refine V0_iload_n (pc := 15) dX6_smeltWhereLived_15 rfl ?_
      refine V0_iconst (pc := 16) (1) dX6_smeltWhereLived_16 (by decide) ?_
      refine V0_aload_n (pc := 17) dX6_smeltWhereLived_17 rfl ?_
      refine V_getr (pc := 18) dX6_smeltWhereLived_18 flX6_19 rfl rfl ?_
      refine V_getr (pc := 21) dX6_smeltWhereLived_21 flX6_110 rfl rfl ?_
      refine V0_iload_n (pc := 24) dX6_smeltWhereLived_24 rfl ?_
      refine V_iald (pc := 25) (j) dX6_smeltWhereLived_25 rfl rfl (by omega) ?_
      refine V0_ishl (pc := 26) dX6_smeltWhereLived_26 ?_
      refine V0_ior (pc := 27) dX6_smeltWhereLived_27 ?_
      refine V0_istore_1 (pc := 28) dX6_smeltWhereLived_28 (by decide) rfl ?_
      refine V0_iinc_2 (pc := 29) (nI (j + 1)) dX6_smeltWhereLived_29 (by decide) rfl (nI_1 _) ?_
      refine V0_goto (pc := 32) 4 dX6_smeltWhereLived_32 (by decide) ?_
      exact ih (j + 1) (by omega) (by omega)
theorem c_X6_smeltWhereLived {l : Launch} {I : px_I} {J : px_J} {m n : Nat} {Ls : List l_L} (hk : px_ok0 I m n) (hlaw : px_law I 14 Ls) : Ct l mX6_smeltWhereLived 6 [.ref 40] I J (fun r I' J' => r = some (.int (h_lived I m n Ls)) ∧ px_sw I I' ∧ J' = J) := by
  refine Ct.of plX6_smeltWhereLived (Nat.le_of_ble_eq_true rfl) [.ref 40, .null, .null, .null] rfl ?_
  refine V0_iconst (pc := 0) (0) dX6_smeltWhereLived_0 (by decide) ?_
  refine V0_istore_1 (pc := 1) dX6_smeltWhereLived_1 (by decide) rfl ?_
  refine V0_iconst (pc := 2) (0) dX6_smeltWhereLived_2 (by decide) ?_
  refine V0_istore_2 (pc := 3) dX6_smeltWhereLived_3 (by decide) rfl ?_
  exact lp_X6_lived hk hlaw (m + 1) 0 (by omega) (by omega)

