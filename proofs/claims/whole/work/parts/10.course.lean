/-! the course: what its methods answer -/
theorem px_up_at {I : px_I} {p k p' k' : Nat} {x : Int32} : px_up I p k x p' k' = if p' = p ∧ k' = k then x else I p' k' := rfl
def px_ofs (of : Nat → Int32) : Prop := ∀ j, j < 10 → of j = nI (ix (of j)) ∧ ix (of j) < 7
def s_runs (lasts ran lost : Nat → Int32) (j : Nat) : Bool := decide (lost j = 0) && decide (0 < ran j) && decide (ran j < lasts j)
def s_waits (due ran lost : Nat → Int32) (today : Int32) (j : Nat) : Bool := decide (lost j = 0) && decide (ran j = 0) && !decide (today < due j)
def s_had (lasts ran lost : Nat → Int32) (j : Nat) : Bool := decide (lost j = 0) && !decide (ran j < lasts j)
def s_in (due lasts ran lost : Nat → Int32) (today : Int32) (s : Int32) (j : Nat) : Bool := if s = 0 then s_waits due ran lost today j else if s = 1 then s_runs lasts ran lost j else if s = 2 then s_had lasts ran lost j else !decide (lost j = 0)
def s_bits (f : Nat → Bool) : Nat → Int32
  | 0 => 0
  | n + 1 => if f n = true then s_bits f n ||| ((1 : Int32) <<< (nI n &&& 31)) else s_bits f n
def s_any (f : Nat → Bool) : Nat → Bool
  | 0 => false
  | n + 1 => s_any f n || f n
def s_sum (c : Nat → Bool) (w : Nat → Int32) : Nat → Int32
  | 0 => 0
  | n + 1 => if c n = true then s_sum c w n + w n else s_sum c w n
def s_lead (house : Nat → Int32) : Nat → Int32
  | 0 => 0
  | n + 1 => s_lead house n + (if px_rem (house n) 2 = 0 then 1 else -1)
theorem s_any_of {f : Nat → Bool} {j n : Nat} (h : j < n) (hf : f j = true) : s_any f n = true := by
  induction n with
  | zero => omega
  | succ n ih =>
    unfold s_any
    by_cases hj : j = n
    · subst hj; simp [hf]
    · simp [ih (by omega)]
theorem V_ls {l : Launch} {R : Room} {M : px_M} {XT : px_X} {kc ks pc : Nat} {ls ls' st : List Value} {h : px_H} {Q : Option Value → px_H → Prop} (e : ls = ls') (k : V0 l R M XT kc ks pc ls' st h Q) : V0 l R M XT kc ks pc ls st h Q := by rw [e]; exact k
theorem V_st {l : Launch} {R : Room} {M : px_M} {XT : px_X} {kc ks pc : Nat} {ls ls' st : List Value} {I I' : px_I} {J : px_J} {Q : px_Q} (e : ls = ls') (e2 : I = I') (k : V0 l R M XT kc ks pc ls' st (px_mk I' J) (px_q Q)) : V0 l R M XT kc ks pc ls st (px_mk I J) (px_q Q) := by rw [e, e2]; exact k
theorem px_lt {a b : Nat} (h : nI a < nI b) (ha : a < 2 ^ 31) (hb : b < 2 ^ 31) : a < b := (qI_lt ha hb).mp h
theorem px_ge {a b : Nat} (h : ¬ nI a < nI b) (ha : a < 2 ^ 31) (hb : b < 2 ^ 31) : b ≤ a := Nat.le_of_not_lt (fun q => h ((qI_lt ha hb).mpr q))
abbrev g_runs (I : px_I) (p j : Nat) : Bool := s_runs (I 4) (I (p + 2)) (I (p + 3)) j
abbrev g_waits (I : px_I) (p j : Nat) : Bool := s_waits (I 3) (I (p + 2)) (I (p + 3)) (I p 5) j
abbrev g_had (I : px_I) (p j : Nat) : Bool := s_had (I 4) (I (p + 2)) (I (p + 3)) j
abbrev g_in (I : px_I) (p : Nat) (s : Int32) (j : Nat) : Bool := s_in (I 3) (I 4) (I (p + 2)) (I (p + 3)) (I p 5) s j
abbrev g_hoj (I : px_I) (p j : Nat) : Int32 := I (p + 1) (ix (I 2 j))
abbrev g_glad (I : px_I) (p n one : Nat) : Bool := decide (px_rem (I (p + 1) one) 2 = I p 4) && s_any (fun j => decide (I 2 j = nI one) && g_runs I p j) n
theorem c_X2_houseOfJoy {l : Launch} {I : px_I} {J : px_J} {p j : Nat} (hp : px_cs p) (hj : j < 10) (ho : px_ofs (I 2)) : CtI l mX2_houseOfJoy 0 [.ref p, .int (nI j)] I J (g_hoj I p j) := by
  obtain ⟨h1, h2⟩ := ho j hj
  refine Ct.of plX2_houseOfJoy (Nat.le_of_ble_eq_true rfl) [.ref p, .int (nI j), .null] rfl ?_
  refine V0_aload_n (pc := 0) dX2_houseOfJoy_0 rfl ?_
  refine V_getr (pc := 1) dX2_houseOfJoy_1 flX2_24 hp.1 rfl ?_
  refine V_getr (pc := 4) dX2_houseOfJoy_4 flX2_50 rfl rfl ?_
  refine V0_iload_n (pc := 7) dX2_houseOfJoy_7 rfl ?_
  refine V_iald (pc := 8) (j) dX2_houseOfJoy_8 rfl rfl (by omega) ?_
  refine V0_istore_2 (pc := 9) dX2_houseOfJoy_9 (by decide) rfl ?_
  refine V0_iload_n (pc := 10) dX2_houseOfJoy_10 rfl ?_
  refine V0_if_lt (pc := 11) 29 dX2_houseOfJoy_11 (by decide) (fun h11 => ?_) (fun h11 => ?_)
  · skip
    rw [h1] at h11; exact absurd h11 (nI_nn (by omega))
  · skip
    refine V0_iload_n (pc := 14) dX2_houseOfJoy_14 rfl ?_
    refine V0_bipush (pc := 15) (7) dX2_houseOfJoy_15 (by decide) ?_
    refine V1_icmp_ge (pc := 17) 29 dX2_houseOfJoy_17 (by decide) (fun h17 => ?_) (fun h17 => ?_)
    · skip
      rw [h1] at h17; exact absurd ((qI_lt (by omega) (by omega)).mpr h2) h17
    · skip
      refine V0_aload_n (pc := 20) dX2_houseOfJoy_20 rfl ?_
      refine V_getr (pc := 21) dX2_houseOfJoy_21 flX2_9 hp.1 rfl ?_
      refine V0_iload_n (pc := 24) dX2_houseOfJoy_24 rfl ?_
      refine V_iald (pc := 25) (ix (I 2 j)) dX2_houseOfJoy_25 hp.2.1 h1 h2 ?_
      refine V0_goto (pc := 26) 30 dX2_houseOfJoy_26 (by decide) ?_
      refine V_reti (pc := 30) _ dX2_houseOfJoy_30 rfl ?_
      refine px_li ?_
      rfl
theorem c_X2_sideOfJoy {l : Launch} {I : px_I} {J : px_J} {p j : Nat} (hp : px_cs p) (hj : j < 10) (ho : px_ofs (I 2)) : CtI l mX2_sideOfJoy 1 [.ref p, .int (nI j)] I J (px_rem (g_hoj I p j) 2) := by
  refine Ct.of plX2_sideOfJoy (Nat.le_of_ble_eq_true rfl) [.ref p, .int (nI j)] rfl ?_
  refine V0_aload_n (pc := 0) dX2_sideOfJoy_0 rfl ?_
  refine V0_iload_n (pc := 1) dX2_sideOfJoy_1 rfl ?_
  refine V_callVi (pc := 2) (M' := mX2_houseOfJoy) dX2_sideOfJoy_2 mlX2_55 okX2_houseOfJoy rfl (c_X2_houseOfJoy hp (by omega) ho) rfl rfl hp.1 rfl ⟨Nat.le_of_ble_eq_true rfl, Nat.le_of_ble_eq_true rfl⟩ ⟨Nat.le_refl 0, Nat.le_refl 0⟩ (Nat.le_of_ble_eq_true rfl) ?_
  refine V0_iconst (pc := 5) (2) dX2_sideOfJoy_5 (by decide) ?_
  refine V0_irem (pc := 6) dX2_sideOfJoy_6 (by decide) ?_
  refine V_reti (pc := 7) _ dX2_sideOfJoy_7 rfl ?_
  refine px_li ?_
  rfl
theorem c_X2_runs {l : Launch} {I : px_I} {J : px_J} {p j : Nat} (hp : px_cs p) (hj : j < 10) : CtI l mX2_runs 0 [.ref p, .int (nI j)] I J (b2 (g_runs I p j)) := by
  refine Ct.of plX2_runs (Nat.le_of_ble_eq_true rfl) [.ref p, .int (nI j)] rfl ?_
  refine V0_aload_n (pc := 0) dX2_runs_0 rfl ?_
  refine V_getr (pc := 1) dX2_runs_1 flX2_18 hp.1 rfl ?_
  refine V0_iload_n (pc := 4) dX2_runs_4 rfl ?_
  refine V_iald (pc := 5) (j) dX2_runs_5 hp.2.2.2.1 rfl (by omega) ?_
  refine V0_if_ne (pc := 6) 40 dX2_runs_6 (by decide) (fun h6 => ?_) (fun h6 => ?_)
  · skip
    refine V0_iconst (pc := 40) (0) dX2_runs_40 (by decide) ?_
    refine V_retz (pc := 41) _ dX2_runs_41 rfl (Or.inl rfl) ?_
    refine px_li ?_
    simp [s_runs, b2, *]
  · skip
    refine V0_aload_n (pc := 9) dX2_runs_9 rfl ?_
    refine V_getr (pc := 10) dX2_runs_10 flX2_15 hp.1 rfl ?_
    refine V0_iload_n (pc := 13) dX2_runs_13 rfl ?_
    refine V_iald (pc := 14) (j) dX2_runs_14 hp.2.2.1 rfl (by omega) ?_
    refine V1_if_le (pc := 15) 40 dX2_runs_15 (by decide) (fun h15 => ?_) (fun h15 => ?_)
    · skip
      refine V0_iconst (pc := 40) (0) dX2_runs_40 (by decide) ?_
      refine V_retz (pc := 41) _ dX2_runs_41 rfl (Or.inl rfl) ?_
      refine px_li ?_
      simp [s_runs, b2, *]
    · skip
      refine V0_aload_n (pc := 18) dX2_runs_18 rfl ?_
      refine V_getr (pc := 19) dX2_runs_19 flX2_15 hp.1 rfl ?_
      refine V0_iload_n (pc := 22) dX2_runs_22 rfl ?_
      refine V_iald (pc := 23) (j) dX2_runs_23 hp.2.2.1 rfl (by omega) ?_
      refine V0_aload_n (pc := 24) dX2_runs_24 rfl ?_
      refine V_getr (pc := 25) dX2_runs_25 flX2_24 hp.1 rfl ?_
      refine V_getr (pc := 28) dX2_runs_28 flX2_59 rfl rfl ?_
      refine V0_iload_n (pc := 31) dX2_runs_31 rfl ?_
      refine V_iald (pc := 32) (j) dX2_runs_32 rfl rfl (by omega) ?_
      refine V1_icmp_ge (pc := 33) 40 dX2_runs_33 (by decide) (fun h33 => ?_) (fun h33 => ?_)
      · skip
        refine V0_iconst (pc := 40) (0) dX2_runs_40 (by decide) ?_
        refine V_retz (pc := 41) _ dX2_runs_41 rfl (Or.inl rfl) ?_
        refine px_li ?_
        simp [s_runs, b2, *]
      · skip
        refine V0_iconst (pc := 36) (1) dX2_runs_36 (by decide) ?_
        refine V0_goto (pc := 37) 41 dX2_runs_37 (by decide) ?_
        refine V_retz (pc := 41) _ dX2_runs_41 rfl (Or.inr rfl) ?_
        refine px_li ?_
        simp [s_runs, b2, *]
theorem c_X2_waits {l : Launch} {I : px_I} {J : px_J} {p j : Nat} (hp : px_cs p) (hj : j < 10) : CtI l mX2_waits 0 [.ref p, .int (nI j)] I J (b2 (g_waits I p j)) := by
  refine Ct.of plX2_waits (Nat.le_of_ble_eq_true rfl) [.ref p, .int (nI j)] rfl ?_
  refine V0_aload_n (pc := 0) dX2_waits_0 rfl ?_
  refine V_getr (pc := 1) dX2_waits_1 flX2_18 hp.1 rfl ?_
  refine V0_iload_n (pc := 4) dX2_waits_4 rfl ?_
  refine V_iald (pc := 5) (j) dX2_waits_5 hp.2.2.2.1 rfl (by omega) ?_
  refine V0_if_ne (pc := 6) 38 dX2_waits_6 (by decide) (fun h6 => ?_) (fun h6 => ?_)
  · skip
    refine V0_iconst (pc := 38) (0) dX2_waits_38 (by decide) ?_
    refine V_retz (pc := 39) _ dX2_waits_39 rfl (Or.inl rfl) ?_
    refine px_li ?_
    simp [s_waits, b2, *]
  · skip
    refine V0_aload_n (pc := 9) dX2_waits_9 rfl ?_
    refine V_getr (pc := 10) dX2_waits_10 flX2_15 hp.1 rfl ?_
    refine V0_iload_n (pc := 13) dX2_waits_13 rfl ?_
    refine V_iald (pc := 14) (j) dX2_waits_14 hp.2.2.1 rfl (by omega) ?_
    refine V0_if_ne (pc := 15) 38 dX2_waits_15 (by decide) (fun h15 => ?_) (fun h15 => ?_)
    · skip
      refine V0_iconst (pc := 38) (0) dX2_waits_38 (by decide) ?_
      refine V_retz (pc := 39) _ dX2_waits_39 rfl (Or.inl rfl) ?_
      refine px_li ?_
      simp [s_waits, b2, *]
    · skip
      refine V0_aload_n (pc := 18) dX2_waits_18 rfl ?_
      refine V_geti (pc := 19) dX2_waits_19 flX2_47 hp.1 rfl ?_
      refine V0_aload_n (pc := 22) dX2_waits_22 rfl ?_
      refine V_getr (pc := 23) dX2_waits_23 flX2_24 hp.1 rfl ?_
      refine V_getr (pc := 26) dX2_waits_26 flX2_62 rfl rfl ?_
      refine V0_iload_n (pc := 29) dX2_waits_29 rfl ?_
      refine V_iald (pc := 30) (j) dX2_waits_30 rfl rfl (by omega) ?_
      refine V0_icmp_lt (pc := 31) 38 dX2_waits_31 (by decide) (fun h31 => ?_) (fun h31 => ?_)
      · skip
        refine V0_iconst (pc := 38) (0) dX2_waits_38 (by decide) ?_
        refine V_retz (pc := 39) _ dX2_waits_39 rfl (Or.inl rfl) ?_
        refine px_li ?_
        simp [s_waits, b2, *]
      · skip
        refine V0_iconst (pc := 34) (1) dX2_waits_34 (by decide) ?_
        refine V0_goto (pc := 35) 39 dX2_waits_35 (by decide) ?_
        refine V_retz (pc := 39) _ dX2_waits_39 rfl (Or.inr rfl) ?_
        refine px_li ?_
        simp [s_waits, b2, *]
theorem c_X2_had {l : Launch} {I : px_I} {J : px_J} {p j : Nat} (hp : px_cs p) (hj : j < 10) : CtI l mX2_had 0 [.ref p, .int (nI j)] I J (b2 (g_had I p j)) := by
  refine Ct.of plX2_had (Nat.le_of_ble_eq_true rfl) [.ref p, .int (nI j)] rfl ?_
  refine V0_aload_n (pc := 0) dX2_had_0 rfl ?_
  refine V_getr (pc := 1) dX2_had_1 flX2_18 hp.1 rfl ?_
  refine V0_iload_n (pc := 4) dX2_had_4 rfl ?_
  refine V_iald (pc := 5) (j) dX2_had_5 hp.2.2.2.1 rfl (by omega) ?_
  refine V0_if_ne (pc := 6) 31 dX2_had_6 (by decide) (fun h6 => ?_) (fun h6 => ?_)
  · skip
    refine V0_iconst (pc := 31) (0) dX2_had_31 (by decide) ?_
    refine V_retz (pc := 32) _ dX2_had_32 rfl (Or.inl rfl) ?_
    refine px_li ?_
    simp [s_had, b2, *]
  · skip
    refine V0_aload_n (pc := 9) dX2_had_9 rfl ?_
    refine V_getr (pc := 10) dX2_had_10 flX2_15 hp.1 rfl ?_
    refine V0_iload_n (pc := 13) dX2_had_13 rfl ?_
    refine V_iald (pc := 14) (j) dX2_had_14 hp.2.2.1 rfl (by omega) ?_
    refine V0_aload_n (pc := 15) dX2_had_15 rfl ?_
    refine V_getr (pc := 16) dX2_had_16 flX2_24 hp.1 rfl ?_
    refine V_getr (pc := 19) dX2_had_19 flX2_59 rfl rfl ?_
    refine V0_iload_n (pc := 22) dX2_had_22 rfl ?_
    refine V_iald (pc := 23) (j) dX2_had_23 rfl rfl (by omega) ?_
    refine V0_icmp_lt (pc := 24) 31 dX2_had_24 (by decide) (fun h24 => ?_) (fun h24 => ?_)
    · skip
      refine V0_iconst (pc := 31) (0) dX2_had_31 (by decide) ?_
      refine V_retz (pc := 32) _ dX2_had_32 rfl (Or.inl rfl) ?_
      refine px_li ?_
      simp [s_had, b2, *]
    · skip
      refine V0_iconst (pc := 27) (1) dX2_had_27 (by decide) ?_
      refine V0_goto (pc := 28) 32 dX2_had_28 (by decide) ?_
      refine V_retz (pc := 32) _ dX2_had_32 rfl (Or.inr rfl) ?_
      refine px_li ?_
      simp [s_had, b2, *]
theorem c_X2_isIn {l : Launch} {I : px_I} {J : px_J} {p j : Nat} {s : Int32} (hp : px_cs p) (hj : j < 10) : CtI l mX2_isIn 1 [.ref p, .int (nI j), .int s] I J (b2 (g_in I p s j)) := by
  refine Ct.of plX2_isIn (Nat.le_of_ble_eq_true rfl) [.ref p, .int (nI j), .int s] rfl ?_
  refine V0_iload_n (pc := 0) dX2_isIn_0 rfl ?_
  by_cases s1_0 : s = (0)
  · refine V_tabIn (pc := 1) (off := 27) (0) 28 dX2_isIn_1 s1_0 (by decide) (by decide) (by decide) (by decide) ?_
    refine V0_aload_n (pc := 28) dX2_isIn_28 rfl ?_
    refine V0_iload_n (pc := 29) dX2_isIn_29 rfl ?_
    refine V_callVi (pc := 30) (M' := mX2_waits) dX2_isIn_30 mlX2_65 okX2_waits rfl (c_X2_waits hp (by omega)) rfl rfl hp.1 rfl ⟨Nat.le_of_ble_eq_true rfl, Nat.le_of_ble_eq_true rfl⟩ ⟨Nat.le_refl 0, Nat.le_refl 0⟩ (Nat.le_of_ble_eq_true rfl) ?_
    refine V_retz (pc := 33) _ dX2_isIn_33 rfl (b2_01 _) ?_
    refine px_li ?_
    simp [s_in, b2, *]
  by_cases s1_1 : s = (1)
  · refine V_tabIn (pc := 1) (off := 33) (1) 34 dX2_isIn_1 s1_1 (by decide) (by decide) (by decide) (by decide) ?_
    refine V0_aload_n (pc := 34) dX2_isIn_34 rfl ?_
    refine V0_iload_n (pc := 35) dX2_isIn_35 rfl ?_
    refine V_callVi (pc := 36) (M' := mX2_runs) dX2_isIn_36 mlX2_69 okX2_runs rfl (c_X2_runs hp (by omega)) rfl rfl hp.1 rfl ⟨Nat.le_of_ble_eq_true rfl, Nat.le_of_ble_eq_true rfl⟩ ⟨Nat.le_refl 0, Nat.le_refl 0⟩ (Nat.le_of_ble_eq_true rfl) ?_
    refine V_retz (pc := 39) _ dX2_isIn_39 rfl (b2_01 _) ?_
    refine px_li ?_
    simp [s_in, b2, *]
  by_cases s1_2 : s = (2)
  · refine V_tabIn (pc := 1) (off := 39) (2) 40 dX2_isIn_1 s1_2 (by decide) (by decide) (by decide) (by decide) ?_
    refine V0_aload_n (pc := 40) dX2_isIn_40 rfl ?_
    refine V0_iload_n (pc := 41) dX2_isIn_41 rfl ?_
    refine V_callVi (pc := 42) (M' := mX2_had) dX2_isIn_42 mlX2_72 okX2_had rfl (c_X2_had hp (by omega)) rfl rfl hp.1 rfl ⟨Nat.le_of_ble_eq_true rfl, Nat.le_of_ble_eq_true rfl⟩ ⟨Nat.le_refl 0, Nat.le_refl 0⟩ (Nat.le_of_ble_eq_true rfl) ?_
    refine V_retz (pc := 45) _ dX2_isIn_45 rfl (b2_01 _) ?_
    refine px_li ?_
    simp [s_in, b2, *]
  refine V_tabOut (pc := 1) 46 dX2_isIn_1 (by have g0 := px_ne s1_0 (k := 0) (by decide); have g1 := px_ne s1_1 (k := 1) (by decide); have g2 := px_ne s1_2 (k := 2) (by decide); omega) (by decide) ?_
  refine V0_aload_n (pc := 46) dX2_isIn_46 rfl ?_
  refine V_getr (pc := 47) dX2_isIn_47 flX2_18 hp.1 rfl ?_
  refine V0_iload_n (pc := 50) dX2_isIn_50 rfl ?_
  refine V_iald (pc := 51) (j) dX2_isIn_51 hp.2.2.2.1 rfl (by omega) ?_
  refine V0_if_eq (pc := 52) 59 dX2_isIn_52 (by decide) (fun h52 => ?_) (fun h52 => ?_)
  · skip
    refine V0_iconst (pc := 59) (0) dX2_isIn_59 (by decide) ?_
    refine V_retz (pc := 60) _ dX2_isIn_60 rfl (Or.inl rfl) ?_
    refine px_li ?_
    simp [s_in, b2, *]
  · skip
    refine V0_iconst (pc := 55) (1) dX2_isIn_55 (by decide) ?_
    refine V0_goto (pc := 56) 60 dX2_isIn_56 (by decide) ?_
    refine V_retz (pc := 60) _ dX2_isIn_60 rfl (Or.inr rfl) ?_
    refine px_li ?_
    simp [s_in, b2, *]
theorem lp_X2_joysThat {l : Launch} {I : px_I} {J : px_J} {p n : Nat} {s : Int32} {Q : px_Q} (hp : px_cs p) (hn : I 1 7 = nI n) (hn10 : n ≤ 10) (hQ : Q (some (.int (s_bits (g_in I p s) n))) I J) : ∀ (k j : Nat), n + 1 - j ≤ k → j ≤ n → V0 l (px_rm 2 0 0) mX2_joysThat (false, []) 0 0 4 [.ref p, .int s, .int (s_bits (g_in I p s) j), .int (nI j)] [] (px_mk I J) (px_q Q) := by
  intro k
  induction k with
  | zero => intro j h1 h2; omega
  | succ k ih =>
    intro j h1 h2
    refine V0_iload_n (pc := 4) dX2_joysThat_4 rfl ?_
    refine V0_aload_n (pc := 5) dX2_joysThat_5 rfl ?_
    refine V_getr (pc := 6) dX2_joysThat_6 flX2_24 hp.1 rfl ?_
    refine V_geti (pc := 9) dX2_joysThat_9 flX2_75 rfl rfl ?_
    rw [hn]
    refine V1_icmp_ge (pc := 12) 36 dX2_joysThat_12 (by decide) (fun h12 => ?_) (fun h12 => ?_)
    · skip
      have hj : j = n := by have := px_ge h12 (by omega) (by omega); omega
      subst hj
      refine V0_iload_n (pc := 36) dX2_joysThat_36 rfl ?_
      refine V_reti (pc := 37) _ dX2_joysThat_37 rfl ?_
      exact hQ
    · skip
      have hj := px_lt h12 (by omega) (by omega)
      refine V0_aload_n (pc := 15) dX2_joysThat_15 rfl ?_
      refine V0_iload_n (pc := 16) dX2_joysThat_16 rfl ?_
      refine V0_iload_n (pc := 17) dX2_joysThat_17 rfl ?_
      refine V_callVi (pc := 18) (M' := mX2_isIn) dX2_joysThat_18 mlX2_78 okX2_isIn rfl (c_X2_isIn hp (by omega)) rfl rfl hp.1 rfl ⟨Nat.le_of_ble_eq_true rfl, Nat.le_of_ble_eq_true rfl⟩ ⟨Nat.le_refl 0, Nat.le_refl 0⟩ (Nat.le_of_ble_eq_true rfl) ?_
      refine V_ifeqb (pc := 21) 30 dX2_joysThat_21 (by decide) (fun h21 => ?_) (fun h21 => ?_)
      · skip
        refine V0_iinc_3 (pc := 30) (nI (j + 1)) dX2_joysThat_30 (by decide) rfl (nI_1 _) ?_
        refine V0_goto (pc := 33) 4 dX2_joysThat_33 (by decide) ?_
        exact V_ls (by simp [s_bits, h21]) (ih (j + 1) (by omega) (by omega))
      · skip
        refine V0_iload_n (pc := 24) dX2_joysThat_24 rfl ?_
        refine V0_iconst (pc := 25) (1) dX2_joysThat_25 (by decide) ?_
        refine V0_iload_n (pc := 26) dX2_joysThat_26 rfl ?_
        refine V0_ishl (pc := 27) dX2_joysThat_27 ?_
        refine V0_ior (pc := 28) dX2_joysThat_28 ?_
        refine V0_istore_2 (pc := 29) dX2_joysThat_29 (by decide) rfl ?_
        refine V0_iinc_3 (pc := 30) (nI (j + 1)) dX2_joysThat_30 (by decide) rfl (nI_1 _) ?_
        refine V0_goto (pc := 33) 4 dX2_joysThat_33 (by decide) ?_
        exact V_ls (by simp [s_bits, h21]) (ih (j + 1) (by omega) (by omega))
theorem c_X2_joysThat {l : Launch} {I : px_I} {J : px_J} {p n : Nat} {s : Int32} (hp : px_cs p) (hn : I 1 7 = nI n) (hn10 : n ≤ 10) : CtI l mX2_joysThat 2 [.ref p, .int s] I J (s_bits (g_in I p s) n) := by
  refine Ct.of plX2_joysThat (Nat.le_of_ble_eq_true rfl) [.ref p, .int s, .null, .null] rfl ?_
  refine V0_iconst (pc := 0) (0) dX2_joysThat_0 (by decide) ?_
  refine V0_istore_2 (pc := 1) dX2_joysThat_1 (by decide) rfl ?_
  refine V0_iconst (pc := 2) (0) dX2_joysThat_2 (by decide) ?_
  refine V0_istore_3 (pc := 3) dX2_joysThat_3 (by decide) rfl ?_
  exact lp_X2_joysThat hp hn hn10 ⟨rfl, rfl, rfl⟩ (n + 1) 0 (by omega) (by omega)
theorem lp_X2_isGlad {l : Launch} {I : px_I} {J : px_J} {p n one : Nat} {Q : px_Q} (hp : px_cs p) (hn : I 1 7 = nI n) (hn10 : n ≤ 10) (hQ : Q (some (.int (b2 (s_any (fun j => decide (I 2 j = nI one) && g_runs I p j) n)))) I J) : ∀ (k j : Nat), n + 1 - j ≤ k → j ≤ n → s_any (fun j => decide (I 2 j = nI one) && g_runs I p j) j = false → V0 l (px_rm 1 0 0) mX2_isGlad (false, []) 0 0 19 [.ref p, .int (nI one), .int (nI j)] [] (px_mk I J) (px_q Q) := by
  intro k
  induction k with
  | zero => intro j h1 h2; omega
  | succ k ih =>
    intro j h1 h2 h3
    refine V0_iload_n (pc := 19) dX2_isGlad_19 rfl ?_
    refine V0_aload_n (pc := 20) dX2_isGlad_20 rfl ?_
    refine V_getr (pc := 21) dX2_isGlad_21 flX2_24 hp.1 rfl ?_
    refine V_geti (pc := 24) dX2_isGlad_24 flX2_75 rfl rfl ?_
    rw [hn]
    refine V1_icmp_ge (pc := 27) 59 dX2_isGlad_27 (by decide) (fun h27 => ?_) (fun h27 => ?_)
    · skip
      have hj : j = n := by have := px_ge h27 (by omega) (by omega); omega
      subst hj
      refine V0_iconst (pc := 59) (0) dX2_isGlad_59 (by decide) ?_
      refine V_retz (pc := 60) _ dX2_isGlad_60 rfl (Or.inl rfl) ?_
      rw [h3] at hQ; exact hQ
    · skip
      have hj := px_lt h27 (by omega) (by omega)
      refine V0_aload_n (pc := 30) dX2_isGlad_30 rfl ?_
      refine V_getr (pc := 31) dX2_isGlad_31 flX2_24 hp.1 rfl ?_
      refine V_getr (pc := 34) dX2_isGlad_34 flX2_50 rfl rfl ?_
      refine V0_iload_n (pc := 37) dX2_isGlad_37 rfl ?_
      refine V_iald (pc := 38) (j) dX2_isGlad_38 rfl rfl (by omega) ?_
      refine V0_iload_n (pc := 39) dX2_isGlad_39 rfl ?_
      refine V0_icmp_ne (pc := 40) 53 dX2_isGlad_40 (by decide) (fun h40 => ?_) (fun h40 => ?_)
      · skip
        refine V0_iinc_2 (pc := 53) (nI (j + 1)) dX2_isGlad_53 (by decide) rfl (nI_1 _) ?_
        refine V0_goto (pc := 56) 19 dX2_isGlad_56 (by decide) ?_
        exact ih (j + 1) (by omega) (by omega) (by simp [s_any, *])
      · skip
        refine V0_aload_n (pc := 43) dX2_isGlad_43 rfl ?_
        refine V0_iload_n (pc := 44) dX2_isGlad_44 rfl ?_
        refine V_callVi (pc := 45) (M' := mX2_runs) dX2_isGlad_45 mlX2_69 okX2_runs rfl (c_X2_runs hp (by omega)) rfl rfl hp.1 rfl ⟨Nat.le_of_ble_eq_true rfl, Nat.le_of_ble_eq_true rfl⟩ ⟨Nat.le_refl 0, Nat.le_refl 0⟩ (Nat.le_of_ble_eq_true rfl) ?_
        refine V_ifeqb (pc := 48) 53 dX2_isGlad_48 (by decide) (fun h48 => ?_) (fun h48 => ?_)
        · skip
          refine V0_iinc_2 (pc := 53) (nI (j + 1)) dX2_isGlad_53 (by decide) rfl (nI_1 _) ?_
          refine V0_goto (pc := 56) 19 dX2_isGlad_56 (by decide) ?_
          exact ih (j + 1) (by omega) (by omega) (by simp [s_any, *])
        · skip
          refine V0_iconst (pc := 51) (1) dX2_isGlad_51 (by decide) ?_
          refine V_retz (pc := 52) _ dX2_isGlad_52 rfl (Or.inr rfl) ?_
          rw [s_any_of hj (by simp [*])] at hQ; exact hQ
theorem c_X2_isGlad {l : Launch} {I : px_I} {J : px_J} {p n one : Nat} (hp : px_cs p) (hn : I 1 7 = nI n) (hn10 : n ≤ 10) (h7 : one < 7) : CtI l mX2_isGlad 1 [.ref p, .int (nI one)] I J (b2 (g_glad I p n one)) := by
  refine Ct.of plX2_isGlad (Nat.le_of_ble_eq_true rfl) [.ref p, .int (nI one), .null] rfl ?_
  refine V0_aload_n (pc := 0) dX2_isGlad_0 rfl ?_
  refine V_getr (pc := 1) dX2_isGlad_1 flX2_9 hp.1 rfl ?_
  refine V0_iload_n (pc := 4) dX2_isGlad_4 rfl ?_
  refine V_iald (pc := 5) (one) dX2_isGlad_5 hp.2.1 rfl (by omega) ?_
  refine V0_iconst (pc := 6) (2) dX2_isGlad_6 (by decide) ?_
  refine V0_irem (pc := 7) dX2_isGlad_7 (by decide) ?_
  refine V0_aload_n (pc := 8) dX2_isGlad_8 rfl ?_
  refine V_geti (pc := 9) dX2_isGlad_9 flX2_43 hp.1 rfl ?_
  refine V0_icmp_eq (pc := 12) 17 dX2_isGlad_12 (by decide) (fun h12 => ?_) (fun h12 => ?_)
  · skip
    refine V0_iconst (pc := 17) (0) dX2_isGlad_17 (by decide) ?_
    refine V0_istore_2 (pc := 18) dX2_isGlad_18 (by decide) rfl ?_
    refine lp_X2_isGlad hp hn hn10 ?_ (n + 1) 0 (by omega) (by omega) rfl
    refine px_li ?_
    simp [g_glad, h12]
  · skip
    refine V0_iconst (pc := 15) (0) dX2_isGlad_15 (by decide) ?_
    refine V_retz (pc := 16) _ dX2_isGlad_16 rfl (Or.inl rfl) ?_
    refine px_li ?_
    simp [b2, *]
theorem lp_X2_gladPeople {l : Launch} {I : px_I} {J : px_J} {p n m : Nat} {Q : px_Q} (hp : px_cs p) (hn : I 1 7 = nI n) (hn10 : n ≤ 10) (hm : I 1 6 = nI m) (hm7 : m ≤ 7) (hQ : Q (some (.int (s_bits (g_glad I p n) m))) I J) : ∀ (k j : Nat), m + 1 - j ≤ k → j ≤ m → V0 l (px_rm 2 0 0) mX2_gladPeople (false, []) 0 0 4 [.ref p, .int (s_bits (g_glad I p n) j), .int (nI j)] [] (px_mk I J) (px_q Q) := by
  intro k
  induction k with
  | zero => intro j h1 h2; omega
  | succ k ih =>
    intro j h1 h2
    refine V0_iload_n (pc := 4) dX2_gladPeople_4 rfl ?_
    refine V0_aload_n (pc := 5) dX2_gladPeople_5 rfl ?_
    refine V_getr (pc := 6) dX2_gladPeople_6 flX2_24 hp.1 rfl ?_
    refine V_geti (pc := 9) dX2_gladPeople_9 flX2_82 rfl rfl ?_
    rw [hm]
    refine V1_icmp_ge (pc := 12) 35 dX2_gladPeople_12 (by decide) (fun h12 => ?_) (fun h12 => ?_)
    · skip
      have hj : j = m := by have := px_ge h12 (by omega) (by omega); omega
      subst hj
      refine V0_iload_n (pc := 35) dX2_gladPeople_35 rfl ?_
      refine V_reti (pc := 36) _ dX2_gladPeople_36 rfl ?_
      exact hQ
    · skip
      have hj := px_lt h12 (by omega) (by omega)
      refine V0_aload_n (pc := 15) dX2_gladPeople_15 rfl ?_
      refine V0_iload_n (pc := 16) dX2_gladPeople_16 rfl ?_
      refine V_callVi (pc := 17) (M' := mX2_isGlad) dX2_gladPeople_17 mlX2_85 okX2_isGlad rfl (c_X2_isGlad hp hn hn10 (by omega)) rfl rfl hp.1 rfl ⟨Nat.le_of_ble_eq_true rfl, Nat.le_of_ble_eq_true rfl⟩ ⟨Nat.le_refl 0, Nat.le_refl 0⟩ (Nat.le_of_ble_eq_true rfl) ?_
      refine V_ifeqb (pc := 20) 29 dX2_gladPeople_20 (by decide) (fun h20 => ?_) (fun h20 => ?_)
      · skip
        refine V0_iinc_2 (pc := 29) (nI (j + 1)) dX2_gladPeople_29 (by decide) rfl (nI_1 _) ?_
        refine V0_goto (pc := 32) 4 dX2_gladPeople_32 (by decide) ?_
        exact V_ls (by simp only [s_bits, h20]; simp) (ih (j + 1) (by omega) (by omega))
      · skip
        refine V0_iload_n (pc := 23) dX2_gladPeople_23 rfl ?_
        refine V0_iconst (pc := 24) (1) dX2_gladPeople_24 (by decide) ?_
        refine V0_iload_n (pc := 25) dX2_gladPeople_25 rfl ?_
        refine V0_ishl (pc := 26) dX2_gladPeople_26 ?_
        refine V0_ior (pc := 27) dX2_gladPeople_27 ?_
        refine V0_istore_1 (pc := 28) dX2_gladPeople_28 (by decide) rfl ?_
        refine V0_iinc_2 (pc := 29) (nI (j + 1)) dX2_gladPeople_29 (by decide) rfl (nI_1 _) ?_
        refine V0_goto (pc := 32) 4 dX2_gladPeople_32 (by decide) ?_
        exact V_ls (by simp only [s_bits, h20]; simp) (ih (j + 1) (by omega) (by omega))
theorem c_X2_gladPeople {l : Launch} {I : px_I} {J : px_J} {p n m : Nat} (hp : px_cs p) (hn : I 1 7 = nI n) (hn10 : n ≤ 10) (hm : I 1 6 = nI m) (hm7 : m ≤ 7) : CtI l mX2_gladPeople 2 [.ref p] I J (s_bits (g_glad I p n) m) := by
  refine Ct.of plX2_gladPeople (Nat.le_of_ble_eq_true rfl) [.ref p, .null, .null] rfl ?_
  refine V0_iconst (pc := 0) (0) dX2_gladPeople_0 (by decide) ?_
  refine V0_istore_1 (pc := 1) dX2_gladPeople_1 (by decide) rfl ?_
  refine V0_iconst (pc := 2) (0) dX2_gladPeople_2 (by decide) ?_
  refine V0_istore_2 (pc := 3) dX2_gladPeople_3 (by decide) rfl ?_
  exact lp_X2_gladPeople hp hn hn10 hm hm7 ⟨rfl, rfl, rfl⟩ (m + 1) 0 (by omega) (by omega)
theorem lp_X2_worthOfHad {l : Launch} {I : px_I} {J : px_J} {p n : Nat} {Q : px_Q} (hp : px_cs p) (hn : I 1 7 = nI n) (hn10 : n ≤ 10) (hQ : Q (some (.int (s_sum (g_had I p) (I 6) n))) I J) : ∀ (k j : Nat), n + 1 - j ≤ k → j ≤ n → V0 l (px_rm 1 0 0) mX2_worthOfHad (false, []) 0 0 4 [.ref p, .int (s_sum (g_had I p) (I 6) j), .int (nI j)] [] (px_mk I J) (px_q Q) := by
  intro k
  induction k with
  | zero => intro j h1 h2; omega
  | succ k ih =>
    intro j h1 h2
    refine V0_iload_n (pc := 4) dX2_worthOfHad_4 rfl ?_
    refine V0_aload_n (pc := 5) dX2_worthOfHad_5 rfl ?_
    refine V_getr (pc := 6) dX2_worthOfHad_6 flX2_24 hp.1 rfl ?_
    refine V_geti (pc := 9) dX2_worthOfHad_9 flX2_75 rfl rfl ?_
    rw [hn]
    refine V1_icmp_ge (pc := 12) 41 dX2_worthOfHad_12 (by decide) (fun h12 => ?_) (fun h12 => ?_)
    · skip
      have hj : j = n := by have := px_ge h12 (by omega) (by omega); omega
      subst hj
      refine V0_iload_n (pc := 41) dX2_worthOfHad_41 rfl ?_
      refine V_reti (pc := 42) _ dX2_worthOfHad_42 rfl ?_
      exact hQ
    · skip
      have hj := px_lt h12 (by omega) (by omega)
      refine V0_aload_n (pc := 15) dX2_worthOfHad_15 rfl ?_
      refine V0_iload_n (pc := 16) dX2_worthOfHad_16 rfl ?_
      refine V_callVi (pc := 17) (M' := mX2_had) dX2_worthOfHad_17 mlX2_72 okX2_had rfl (c_X2_had hp (by omega)) rfl rfl hp.1 rfl ⟨Nat.le_of_ble_eq_true rfl, Nat.le_of_ble_eq_true rfl⟩ ⟨Nat.le_refl 0, Nat.le_refl 0⟩ (Nat.le_of_ble_eq_true rfl) ?_
      refine V_ifeqb (pc := 20) 35 dX2_worthOfHad_20 (by decide) (fun h20 => ?_) (fun h20 => ?_)
      · skip
        refine V0_iinc_2 (pc := 35) (nI (j + 1)) dX2_worthOfHad_35 (by decide) rfl (nI_1 _) ?_
        refine V0_goto (pc := 38) 4 dX2_worthOfHad_38 (by decide) ?_
        exact V_ls (by simp only [s_sum, h20]; simp) (ih (j + 1) (by omega) (by omega))
      · skip
        refine V0_iload_n (pc := 23) dX2_worthOfHad_23 rfl ?_
        refine V0_aload_n (pc := 24) dX2_worthOfHad_24 rfl ?_
        refine V_getr (pc := 25) dX2_worthOfHad_25 flX2_24 hp.1 rfl ?_
        refine V_getr (pc := 28) dX2_worthOfHad_28 flX2_88 rfl rfl ?_
        refine V0_iload_n (pc := 31) dX2_worthOfHad_31 rfl ?_
        refine V_iald (pc := 32) (j) dX2_worthOfHad_32 rfl rfl (by omega) ?_
        refine V0_iadd (pc := 33) dX2_worthOfHad_33 ?_
        refine V0_istore_1 (pc := 34) dX2_worthOfHad_34 (by decide) rfl ?_
        refine V0_iinc_2 (pc := 35) (nI (j + 1)) dX2_worthOfHad_35 (by decide) rfl (nI_1 _) ?_
        refine V0_goto (pc := 38) 4 dX2_worthOfHad_38 (by decide) ?_
        exact V_ls (by simp only [s_sum, h20]; simp) (ih (j + 1) (by omega) (by omega))
theorem c_X2_worthOfHad {l : Launch} {I : px_I} {J : px_J} {p n : Nat} (hp : px_cs p) (hn : I 1 7 = nI n) (hn10 : n ≤ 10) : CtI l mX2_worthOfHad 1 [.ref p] I J (s_sum (g_had I p) (I 6) n) := by
  refine Ct.of plX2_worthOfHad (Nat.le_of_ble_eq_true rfl) [.ref p, .null, .null] rfl ?_
  refine V0_iconst (pc := 0) (0) dX2_worthOfHad_0 (by decide) ?_
  refine V0_istore_1 (pc := 1) dX2_worthOfHad_1 (by decide) rfl ?_
  refine V0_iconst (pc := 2) (0) dX2_worthOfHad_2 (by decide) ?_
  refine V0_istore_2 (pc := 3) dX2_worthOfHad_3 (by decide) rfl ?_
  exact lp_X2_worthOfHad hp hn hn10 ⟨rfl, rfl, rfl⟩ (n + 1) 0 (by omega) (by omega)
abbrev g_hadBy (I : px_I) (p : Nat) (one : Int32) (j : Nat) : Bool := decide (I 2 j = one) && g_had I p j
theorem lp_X2_worthOfHadBy {l : Launch} {I : px_I} {J : px_J} {p n : Nat} {one : Int32} {Q : px_Q} (hp : px_cs p) (hn : I 1 7 = nI n) (hn10 : n ≤ 10) (hQ : Q (some (.int (s_sum (g_hadBy I p one) (I 6) n))) I J) : ∀ (k j : Nat), n + 1 - j ≤ k → j ≤ n → V0 l (px_rm 1 0 0) mX2_worthOfHadBy (false, []) 0 0 4 [.ref p, .int one, .int (s_sum (g_hadBy I p one) (I 6) j), .int (nI j)] [] (px_mk I J) (px_q Q) := by
  intro k
  induction k with
  | zero => intro j h1 h2; omega
  | succ k ih =>
    intro j h1 h2
    refine V0_iload_n (pc := 4) dX2_worthOfHadBy_4 rfl ?_
    refine V0_aload_n (pc := 5) dX2_worthOfHadBy_5 rfl ?_
    refine V_getr (pc := 6) dX2_worthOfHadBy_6 flX2_24 hp.1 rfl ?_
    refine V_geti (pc := 9) dX2_worthOfHadBy_9 flX2_75 rfl rfl ?_
    rw [hn]
    refine V1_icmp_ge (pc := 12) 54 dX2_worthOfHadBy_12 (by decide) (fun h12 => ?_) (fun h12 => ?_)
    · skip
      have hj : j = n := by have := px_ge h12 (by omega) (by omega); omega
      subst hj
      refine V0_iload_n (pc := 54) dX2_worthOfHadBy_54 rfl ?_
      refine V_reti (pc := 55) _ dX2_worthOfHadBy_55 rfl ?_
      exact hQ
    · skip
      have hj := px_lt h12 (by omega) (by omega)
      refine V0_aload_n (pc := 15) dX2_worthOfHadBy_15 rfl ?_
      refine V_getr (pc := 16) dX2_worthOfHadBy_16 flX2_24 hp.1 rfl ?_
      refine V_getr (pc := 19) dX2_worthOfHadBy_19 flX2_50 rfl rfl ?_
      refine V0_iload_n (pc := 22) dX2_worthOfHadBy_22 rfl ?_
      refine V_iald (pc := 23) (j) dX2_worthOfHadBy_23 rfl rfl (by omega) ?_
      refine V0_iload_n (pc := 24) dX2_worthOfHadBy_24 rfl ?_
      refine V0_icmp_ne (pc := 25) 48 dX2_worthOfHadBy_25 (by decide) (fun h25 => ?_) (fun h25 => ?_)
      · skip
        refine V0_iinc_3 (pc := 48) (nI (j + 1)) dX2_worthOfHadBy_48 (by decide) rfl (nI_1 _) ?_
        refine V0_goto (pc := 51) 4 dX2_worthOfHadBy_51 (by decide) ?_
        exact V_ls (by simp [s_sum, *]) (ih (j + 1) (by omega) (by omega))
      · skip
        refine V0_aload_n (pc := 28) dX2_worthOfHadBy_28 rfl ?_
        refine V0_iload_n (pc := 29) dX2_worthOfHadBy_29 rfl ?_
        refine V_callVi (pc := 30) (M' := mX2_had) dX2_worthOfHadBy_30 mlX2_72 okX2_had rfl (c_X2_had hp (by omega)) rfl rfl hp.1 rfl ⟨Nat.le_of_ble_eq_true rfl, Nat.le_of_ble_eq_true rfl⟩ ⟨Nat.le_refl 0, Nat.le_refl 0⟩ (Nat.le_of_ble_eq_true rfl) ?_
        refine V_ifeqb (pc := 33) 48 dX2_worthOfHadBy_33 (by decide) (fun h33 => ?_) (fun h33 => ?_)
        · skip
          refine V0_iinc_3 (pc := 48) (nI (j + 1)) dX2_worthOfHadBy_48 (by decide) rfl (nI_1 _) ?_
          refine V0_goto (pc := 51) 4 dX2_worthOfHadBy_51 (by decide) ?_
          exact V_ls (by simp [s_sum, *]) (ih (j + 1) (by omega) (by omega))
        · skip
          refine V0_iload_n (pc := 36) dX2_worthOfHadBy_36 rfl ?_
          refine V0_aload_n (pc := 37) dX2_worthOfHadBy_37 rfl ?_
          refine V_getr (pc := 38) dX2_worthOfHadBy_38 flX2_24 hp.1 rfl ?_
          refine V_getr (pc := 41) dX2_worthOfHadBy_41 flX2_88 rfl rfl ?_
          refine V0_iload_n (pc := 44) dX2_worthOfHadBy_44 rfl ?_
          refine V_iald (pc := 45) (j) dX2_worthOfHadBy_45 rfl rfl (by omega) ?_
          refine V0_iadd (pc := 46) dX2_worthOfHadBy_46 ?_
          refine V0_istore_2 (pc := 47) dX2_worthOfHadBy_47 (by decide) rfl ?_
          refine V0_iinc_3 (pc := 48) (nI (j + 1)) dX2_worthOfHadBy_48 (by decide) rfl (nI_1 _) ?_
          refine V0_goto (pc := 51) 4 dX2_worthOfHadBy_51 (by decide) ?_
          exact V_ls (by simp [s_sum, *]) (ih (j + 1) (by omega) (by omega))
theorem c_X2_worthOfHadBy {l : Launch} {I : px_I} {J : px_J} {p n : Nat} {one : Int32} (hp : px_cs p) (hn : I 1 7 = nI n) (hn10 : n ≤ 10) : CtI l mX2_worthOfHadBy 1 [.ref p, .int one] I J (s_sum (g_hadBy I p one) (I 6) n) := by
  refine Ct.of plX2_worthOfHadBy (Nat.le_of_ble_eq_true rfl) [.ref p, .int one, .null, .null] rfl ?_
  refine V0_iconst (pc := 0) (0) dX2_worthOfHadBy_0 (by decide) ?_
  refine V0_istore_2 (pc := 1) dX2_worthOfHadBy_1 (by decide) rfl ?_
  refine V0_iconst (pc := 2) (0) dX2_worthOfHadBy_2 (by decide) ?_
  refine V0_istore_3 (pc := 3) dX2_worthOfHadBy_3 (by decide) rfl ?_
  exact lp_X2_worthOfHadBy hp hn hn10 ⟨rfl, rfl, rfl⟩ (n + 1) 0 (by omega) (by omega)
abbrev g_lost (I : px_I) (p j : Nat) : Bool := !decide (I (p + 3) j = 0)
theorem lp_X2_worthOfLost {l : Launch} {I : px_I} {J : px_J} {p n : Nat} {Q : px_Q} (hp : px_cs p) (hn : I 1 7 = nI n) (hn10 : n ≤ 10) (hQ : Q (some (.int (s_sum (g_lost I p) (I 6) n))) I J) : ∀ (k j : Nat), n + 1 - j ≤ k → j ≤ n → V0 l (px_rm 0 0 0) mX2_worthOfLost (false, []) 0 0 4 [.ref p, .int (s_sum (g_lost I p) (I 6) j), .int (nI j)] [] (px_mk I J) (px_q Q) := by
  intro k
  induction k with
  | zero => intro j h1 h2; omega
  | succ k ih =>
    intro j h1 h2
    refine V0_iload_n (pc := 4) dX2_worthOfLost_4 rfl ?_
    refine V0_aload_n (pc := 5) dX2_worthOfLost_5 rfl ?_
    refine V_getr (pc := 6) dX2_worthOfLost_6 flX2_24 hp.1 rfl ?_
    refine V_geti (pc := 9) dX2_worthOfLost_9 flX2_75 rfl rfl ?_
    rw [hn]
    refine V1_icmp_ge (pc := 12) 42 dX2_worthOfLost_12 (by decide) (fun h12 => ?_) (fun h12 => ?_)
    · skip
      have hj : j = n := by have := px_ge h12 (by omega) (by omega); omega
      subst hj
      refine V0_iload_n (pc := 42) dX2_worthOfLost_42 rfl ?_
      refine V_reti (pc := 43) _ dX2_worthOfLost_43 rfl ?_
      exact hQ
    · skip
      have hj := px_lt h12 (by omega) (by omega)
      refine V0_aload_n (pc := 15) dX2_worthOfLost_15 rfl ?_
      refine V_getr (pc := 16) dX2_worthOfLost_16 flX2_18 hp.1 rfl ?_
      refine V0_iload_n (pc := 19) dX2_worthOfLost_19 rfl ?_
      refine V_iald (pc := 20) (j) dX2_worthOfLost_20 hp.2.2.2.1 rfl (by omega) ?_
      refine V0_if_eq (pc := 21) 36 dX2_worthOfLost_21 (by decide) (fun h21 => ?_) (fun h21 => ?_)
      · skip
        refine V0_iinc_2 (pc := 36) (nI (j + 1)) dX2_worthOfLost_36 (by decide) rfl (nI_1 _) ?_
        refine V0_goto (pc := 39) 4 dX2_worthOfLost_39 (by decide) ?_
        exact V_ls (by simp [s_sum, *]) (ih (j + 1) (by omega) (by omega))
      · skip
        refine V0_iload_n (pc := 24) dX2_worthOfLost_24 rfl ?_
        refine V0_aload_n (pc := 25) dX2_worthOfLost_25 rfl ?_
        refine V_getr (pc := 26) dX2_worthOfLost_26 flX2_24 hp.1 rfl ?_
        refine V_getr (pc := 29) dX2_worthOfLost_29 flX2_88 rfl rfl ?_
        refine V0_iload_n (pc := 32) dX2_worthOfLost_32 rfl ?_
        refine V_iald (pc := 33) (j) dX2_worthOfLost_33 rfl rfl (by omega) ?_
        refine V0_iadd (pc := 34) dX2_worthOfLost_34 ?_
        refine V0_istore_1 (pc := 35) dX2_worthOfLost_35 (by decide) rfl ?_
        refine V0_iinc_2 (pc := 36) (nI (j + 1)) dX2_worthOfLost_36 (by decide) rfl (nI_1 _) ?_
        refine V0_goto (pc := 39) 4 dX2_worthOfLost_39 (by decide) ?_
        exact V_ls (by simp [s_sum, *]) (ih (j + 1) (by omega) (by omega))
theorem c_X2_worthOfLost {l : Launch} {I : px_I} {J : px_J} {p n : Nat} (hp : px_cs p) (hn : I 1 7 = nI n) (hn10 : n ≤ 10) : CtI l mX2_worthOfLost 0 [.ref p] I J (s_sum (g_lost I p) (I 6) n) := by
  refine Ct.of plX2_worthOfLost (Nat.le_of_ble_eq_true rfl) [.ref p, .null, .null] rfl ?_
  refine V0_iconst (pc := 0) (0) dX2_worthOfLost_0 (by decide) ?_
  refine V0_istore_1 (pc := 1) dX2_worthOfLost_1 (by decide) rfl ?_
  refine V0_iconst (pc := 2) (0) dX2_worthOfLost_2 (by decide) ?_
  refine V0_istore_2 (pc := 3) dX2_worthOfLost_3 (by decide) rfl ?_
  exact lp_X2_worthOfLost hp hn hn10 ⟨rfl, rfl, rfl⟩ (n + 1) 0 (by omega) (by omega)
theorem lp_X2_leadOfSide0 {l : Launch} {I : px_I} {J : px_J} {p m : Nat} {Q : px_Q} (hp : px_cs p) (hm : I 1 6 = nI m) (hm7 : m ≤ 7) (hQ : Q (some (.int (s_lead (I (p + 1)) m))) I J) : ∀ (k j : Nat), m + 1 - j ≤ k → j ≤ m → V0 l (px_rm 0 0 0) mX2_leadOfSide0 (false, []) 0 0 4 [.ref p, .int (s_lead (I (p + 1)) j), .int (nI j)] [] (px_mk I J) (px_q Q) := by
  intro k
  induction k with
  | zero => intro j h1 h2; omega
  | succ k ih =>
    intro j h1 h2
    refine V0_iload_n (pc := 4) dX2_leadOfSide0_4 rfl ?_
    refine V0_aload_n (pc := 5) dX2_leadOfSide0_5 rfl ?_
    refine V_getr (pc := 6) dX2_leadOfSide0_6 flX2_24 hp.1 rfl ?_
    refine V_geti (pc := 9) dX2_leadOfSide0_9 flX2_82 rfl rfl ?_
    rw [hm]
    refine V1_icmp_ge (pc := 12) 40 dX2_leadOfSide0_12 (by decide) (fun h12 => ?_) (fun h12 => ?_)
    · skip
      have hj : j = m := by have := px_ge h12 (by omega) (by omega); omega
      subst hj
      refine V0_iload_n (pc := 40) dX2_leadOfSide0_40 rfl ?_
      refine V_reti (pc := 41) _ dX2_leadOfSide0_41 rfl ?_
      exact hQ
    · skip
      have hj := px_lt h12 (by omega) (by omega)
      refine V0_iload_n (pc := 15) dX2_leadOfSide0_15 rfl ?_
      refine V0_aload_n (pc := 16) dX2_leadOfSide0_16 rfl ?_
      refine V_getr (pc := 17) dX2_leadOfSide0_17 flX2_9 hp.1 rfl ?_
      refine V0_iload_n (pc := 20) dX2_leadOfSide0_20 rfl ?_
      refine V_iald (pc := 21) (j) dX2_leadOfSide0_21 hp.2.1 rfl (by omega) ?_
      refine V0_iconst (pc := 22) (2) dX2_leadOfSide0_22 (by decide) ?_
      refine V0_irem (pc := 23) dX2_leadOfSide0_23 (by decide) ?_
      refine V0_if_ne (pc := 24) 31 dX2_leadOfSide0_24 (by decide) (fun h24 => ?_) (fun h24 => ?_)
      · skip
        refine V0_iconst (pc := 31) (-1) dX2_leadOfSide0_31 (by decide) ?_
        refine V0_iadd (pc := 32) dX2_leadOfSide0_32 ?_
        refine V0_istore_1 (pc := 33) dX2_leadOfSide0_33 (by decide) rfl ?_
        refine V0_iinc_2 (pc := 34) (nI (j + 1)) dX2_leadOfSide0_34 (by decide) rfl (nI_1 _) ?_
        refine V0_goto (pc := 37) 4 dX2_leadOfSide0_37 (by decide) ?_
        exact V_ls (by simp [s_lead, *]) (ih (j + 1) (by omega) (by omega))
      · skip
        refine V0_iconst (pc := 27) (1) dX2_leadOfSide0_27 (by decide) ?_
        refine V0_goto (pc := 28) 32 dX2_leadOfSide0_28 (by decide) ?_
        refine V0_iadd (pc := 32) dX2_leadOfSide0_32 ?_
        refine V0_istore_1 (pc := 33) dX2_leadOfSide0_33 (by decide) rfl ?_
        refine V0_iinc_2 (pc := 34) (nI (j + 1)) dX2_leadOfSide0_34 (by decide) rfl (nI_1 _) ?_
        refine V0_goto (pc := 37) 4 dX2_leadOfSide0_37 (by decide) ?_
        exact V_ls (by simp [s_lead, *]) (ih (j + 1) (by omega) (by omega))
theorem c_X2_leadOfSide0 {l : Launch} {I : px_I} {J : px_J} {p m : Nat} (hp : px_cs p) (hm : I 1 6 = nI m) (hm7 : m ≤ 7) : CtI l mX2_leadOfSide0 0 [.ref p] I J (s_lead (I (p + 1)) m) := by
  refine Ct.of plX2_leadOfSide0 (Nat.le_of_ble_eq_true rfl) [.ref p, .null, .null] rfl ?_
  refine V0_iconst (pc := 0) (0) dX2_leadOfSide0_0 (by decide) ?_
  refine V0_istore_1 (pc := 1) dX2_leadOfSide0_1 (by decide) rfl ?_
  refine V0_iconst (pc := 2) (0) dX2_leadOfSide0_2 (by decide) ?_
  refine V0_istore_2 (pc := 3) dX2_leadOfSide0_3 (by decide) rfl ?_
  exact lp_X2_leadOfSide0 hp hm hm7 ⟨rfl, rfl, rfl⟩ (m + 1) 0 (by omega) (by omega)
/-! days pass -/
abbrev g_on (I : px_I) (p j : Nat) : Bool := decide (px_rem (g_hoj I p j) 2 = I p 4)
def g_runOn (I : px_I) (p j : Nat) : px_I :=
  if g_had (px_up I (p + 2) j (I (p + 2) j + 1)) p j = true then px_up (px_up I (p + 2) j (I (p + 2) j + 1)) (p + 4) 5 (I (p + 4) 5 + 1) else px_up I (p + 2) j (I (p + 2) j + 1)
def g_passFor (I : px_I) (p j : Nat) : px_I :=
  if g_runs I p j = true then (if g_on I p j = true then g_runOn I p j else I)
  else if g_waits I p j = true then (if g_on I p j = true then g_runOn I p j else if I p 5 < I 3 j + I 5 j then I else px_up I (p + 3) j 1) else I
def g_joys (I : px_I) (p : Nat) : Nat → px_I
  | 0 => I
  | n + 1 => g_passFor (g_joys I p n) p n
def g_chosen (I : px_I) (p m : Nat) : Int32 := if s_lead (I (p + 1)) m = 0 then I p 4 else if 0 < s_lead (I (p + 1)) m then 0 else 1
def g_turn (I : px_I) (p m : Nat) : px_I := if g_chosen I p m = I p 4 then I else px_up I (p + 4) 3 (I (p + 4) 3 + 1)
def g_vote (I : px_I) (p m : Nat) : px_I := px_up (px_up (g_turn I p m) p 4 (g_chosen I p m)) (p + 4) 2 (g_turn I p m (p + 4) 2 + 1)
def g_start (I : px_I) (p m : Nat) : px_I := if 0 < I p 5 ∧ 0 < I 1 8 ∧ px_rem (I p 5) (I 1 8) = 0 then g_vote I p m else I
def g_later (I : px_I) (p : Nat) : px_I := if I p 5 < 199 then px_up I p 5 (I p 5 + 1) else I
def g_pass (I : px_I) (p m n : Nat) : px_I := px_up (g_later (g_joys (g_start I p m) p n) p) (p + 4) 1 (g_later (g_joys (g_start I p m) p n) p (p + 4) 1 + 1)
theorem px_up_ne {I : px_I} {p p' k k' : Nat} {x : Int32} (h : ¬ (p' = p ∧ k' = k)) : px_up I p k x p' k' = I p' k' := by simp [px_up, h]
theorem g_runOn_row {I : px_I} {p j q : Nat} (h2 : q ≠ p + 2) (h4 : q ≠ p + 4) : g_runOn I p j q = I q := by
  unfold g_runOn; split <;> simp [px_up_row, h2, h4]
theorem g_passFor_row {I : px_I} {p j q : Nat} (h2 : q ≠ p + 2) (h3 : q ≠ p + 3) (h4 : q ≠ p + 4) : g_passFor I p j q = I q := by
  unfold g_passFor
  split
  · split <;> simp [g_runOn_row h2 h4]
  · split
    · split
      · exact g_runOn_row h2 h4
      · split <;> simp [px_up_row, h3]
    · rfl
theorem g_joys_row {I : px_I} {p n q : Nat} (h2 : q ≠ p + 2) (h3 : q ≠ p + 3) (h4 : q ≠ p + 4) : g_joys I p n q = I q := by
  induction n with
  | zero => rfl
  | succ n ih => rw [g_joys, g_passFor_row h2 h3 h4, ih]
theorem g_start_row {I : px_I} {p m q : Nat} (h0 : q ≠ p) (h4 : q ≠ p + 4) : g_start I p m q = I q := by
  unfold g_start g_vote g_turn
  split
  · rw [px_up_row h4, px_up_row h0]; split <;> simp [px_up_row, h4]
  · rfl
theorem g_later_row {I : px_I} {p q : Nat} (h0 : q ≠ p) : g_later I p q = I q := by
  unfold g_later; split <;> simp [px_up_row, h0]
theorem g_pass_row {I : px_I} {p m n q : Nat} (h0 : q ≠ p) (h2 : q ≠ p + 2) (h3 : q ≠ p + 3) (h4 : q ≠ p + 4) : g_pass I p m n q = I q := by
  unfold g_pass
  rw [px_up_row h4, g_later_row h0, g_joys_row h2 h3 h4, g_start_row h0 h4]
def px_qs (I1 : px_I) (J1 : px_J) : px_Q := fun r I' J' => r = none ∧ I' = I1 ∧ J' = J1
theorem c_X2_runOn {l : Launch} {I : px_I} {J : px_J} {p j : Nat} (hp : px_cs p) (hj : j < 10) : Ct l mX2_runOn 1 [.ref p, .int (nI j)] I J (px_qs (g_runOn I p j) J) := by
  have h8 := hp.2.2.2.2.2
  refine Ct.of plX2_runOn (Nat.le_of_ble_eq_true rfl) [.ref p, .int (nI j)] rfl ?_
  refine V0_aload_n (pc := 0) dX2_runOn_0 rfl ?_
  refine V_getr (pc := 1) dX2_runOn_1 flX2_15 hp.1 rfl ?_
  refine V0_iload_n (pc := 4) dX2_runOn_4 rfl ?_
  refine V0_dup2 (pc := 5) dX2_runOn_5 rfl rfl ?_
  refine V_iald (pc := 6) (j) dX2_runOn_6 hp.2.2.1 rfl (by omega) ?_
  refine V0_iconst (pc := 7) (1) dX2_runOn_7 (by decide) ?_
  refine V0_iadd (pc := 8) dX2_runOn_8 ?_
  refine V_iast (pc := 9) (j) dX2_runOn_9 hp.2.2.1 rfl (by omega) ?_
  refine V0_aload_n (pc := 10) dX2_runOn_10 rfl ?_
  refine V0_iload_n (pc := 11) dX2_runOn_11 rfl ?_
  refine V_callVi (pc := 12) (M' := mX2_had) dX2_runOn_12 mlX2_72 okX2_had rfl (c_X2_had hp (by omega)) rfl rfl hp.1 rfl ⟨Nat.le_of_ble_eq_true rfl, Nat.le_of_ble_eq_true rfl⟩ ⟨Nat.le_refl 0, Nat.le_refl 0⟩ (Nat.le_of_ble_eq_true rfl) ?_
  refine V_ifeqb (pc := 15) 28 dX2_runOn_15 (by decide) (fun h15 => ?_) (fun h15 => ?_)
  · skip
    refine V_retv (pc := 28) dX2_runOn_28 rfl ?_
    exact ⟨rfl, by simp [g_runOn, h15, px_up], rfl⟩
  · skip
    refine V0_aload_n (pc := 18) dX2_runOn_18 rfl ?_
    refine V_getr (pc := 19) dX2_runOn_19 flX2_21 hp.1 rfl ?_
    refine V0_iconst (pc := 22) (5) dX2_runOn_22 (by decide) ?_
    refine V0_dup2 (pc := 23) dX2_runOn_23 rfl rfl ?_
    refine V_iald (pc := 24) 5 dX2_runOn_24 hp.2.2.2.2.1 (by decide) (by decide) ?_
    refine V0_iconst (pc := 25) (1) dX2_runOn_25 (by decide) ?_
    refine V0_iadd (pc := 26) dX2_runOn_26 ?_
    refine V_iast (pc := 27) 5 dX2_runOn_27 hp.2.2.2.2.1 (by decide) (by decide) ?_
    refine V_retv (pc := 28) dX2_runOn_28 rfl ?_
    exact ⟨rfl, by simp [g_runOn, h15, px_up], rfl⟩
theorem c_X2_passFor {l : Launch} {I : px_I} {J : px_J} {p j : Nat} (hp : px_cs p) (hj : j < 10) (ho : px_ofs (I 2)) : Ct l mX2_passFor 2 [.ref p, .int (nI j)] I J (px_qs (g_passFor I p j) J) := by
  refine Ct.of plX2_passFor (Nat.le_of_ble_eq_true rfl) [.ref p, .int (nI j), .null] rfl ?_
  refine V0_aload_n (pc := 0) dX2_passFor_0 rfl ?_
  refine V0_iload_n (pc := 1) dX2_passFor_1 rfl ?_
  refine V_callVi (pc := 2) (M' := mX2_sideOfJoy) dX2_passFor_2 mlX2_105 okX2_sideOfJoy rfl (c_X2_sideOfJoy hp (by omega) ho) rfl rfl hp.1 rfl ⟨Nat.le_of_ble_eq_true rfl, Nat.le_of_ble_eq_true rfl⟩ ⟨Nat.le_refl 0, Nat.le_refl 0⟩ (Nat.le_of_ble_eq_true rfl) ?_
  refine V0_aload_n (pc := 5) dX2_passFor_5 rfl ?_
  refine V_geti (pc := 6) dX2_passFor_6 flX2_43 hp.1 rfl ?_
  refine V0_icmp_ne (pc := 9) 16 dX2_passFor_9 (by decide) (fun h9 => ?_) (fun h9 => ?_)
  · skip
    refine V0_iconst (pc := 16) (0) dX2_passFor_16 (by decide) ?_
    refine V0_istore_2 (pc := 17) dX2_passFor_17 (by decide) rfl ?_
    refine V0_aload_n (pc := 18) dX2_passFor_18 rfl ?_
    refine V0_iload_n (pc := 19) dX2_passFor_19 rfl ?_
    refine V_callVi (pc := 20) (M' := mX2_runs) dX2_passFor_20 mlX2_69 okX2_runs rfl (c_X2_runs hp (by omega)) rfl rfl hp.1 rfl ⟨Nat.le_of_ble_eq_true rfl, Nat.le_of_ble_eq_true rfl⟩ ⟨Nat.le_refl 0, Nat.le_refl 0⟩ (Nat.le_of_ble_eq_true rfl) ?_
    refine V_ifeqb (pc := 23) 38 dX2_passFor_23 (by decide) (fun h23 => ?_) (fun h23 => ?_)
    · skip
      refine V0_aload_n (pc := 38) dX2_passFor_38 rfl ?_
      refine V0_iload_n (pc := 39) dX2_passFor_39 rfl ?_
      refine V_callVi (pc := 40) (M' := mX2_waits) dX2_passFor_40 mlX2_65 okX2_waits rfl (c_X2_waits hp (by omega)) rfl rfl hp.1 rfl ⟨Nat.le_of_ble_eq_true rfl, Nat.le_of_ble_eq_true rfl⟩ ⟨Nat.le_refl 0, Nat.le_refl 0⟩ (Nat.le_of_ble_eq_true rfl) ?_
      refine V_ifeqb (pc := 43) 91 dX2_passFor_43 (by decide) (fun h43 => ?_) (fun h43 => ?_)
      · skip
        refine V_retv (pc := 91) dX2_passFor_91 rfl ?_
        exact ⟨rfl, by simp [g_passFor, *], rfl⟩
      · skip
        refine V0_iload_n (pc := 46) dX2_passFor_46 rfl ?_
        refine V0_if_eq (pc := 47) 58 dX2_passFor_47 (by decide) (fun h47 => ?_) (fun h47 => ?_)
        · skip
          refine V0_aload_n (pc := 58) dX2_passFor_58 rfl ?_
          refine V_geti (pc := 59) dX2_passFor_59 flX2_47 hp.1 rfl ?_
          refine V0_aload_n (pc := 62) dX2_passFor_62 rfl ?_
          refine V_getr (pc := 63) dX2_passFor_63 flX2_24 hp.1 rfl ?_
          refine V_getr (pc := 66) dX2_passFor_66 flX2_62 rfl rfl ?_
          refine V0_iload_n (pc := 69) dX2_passFor_69 rfl ?_
          refine V_iald (pc := 70) (j) dX2_passFor_70 rfl rfl (by omega) ?_
          refine V0_aload_n (pc := 71) dX2_passFor_71 rfl ?_
          refine V_getr (pc := 72) dX2_passFor_72 flX2_24 hp.1 rfl ?_
          refine V_getr (pc := 75) dX2_passFor_75 flX2_111 rfl rfl ?_
          refine V0_iload_n (pc := 78) dX2_passFor_78 rfl ?_
          refine V_iald (pc := 79) (j) dX2_passFor_79 rfl rfl (by omega) ?_
          refine V0_iadd (pc := 80) dX2_passFor_80 ?_
          refine V0_icmp_lt (pc := 81) 91 dX2_passFor_81 (by decide) (fun h81 => ?_) (fun h81 => ?_)
          · skip
            refine V_retv (pc := 91) dX2_passFor_91 rfl ?_
            exact ⟨rfl, by simp [g_passFor, *], rfl⟩
          · skip
            refine V0_aload_n (pc := 84) dX2_passFor_84 rfl ?_
            refine V_getr (pc := 85) dX2_passFor_85 flX2_18 hp.1 rfl ?_
            refine V0_iload_n (pc := 88) dX2_passFor_88 rfl ?_
            refine V0_iconst (pc := 89) (1) dX2_passFor_89 (by decide) ?_
            refine V_iast (pc := 90) (j) dX2_passFor_90 hp.2.2.2.1 rfl (by omega) ?_
            refine V_retv (pc := 91) dX2_passFor_91 rfl ?_
            exact ⟨rfl, by simp [g_passFor, *], rfl⟩
        · skip
          exact absurd h47 (by decide)
    · skip
      refine V0_iload_n (pc := 26) dX2_passFor_26 rfl ?_
      refine V0_if_eq (pc := 27) 91 dX2_passFor_27 (by decide) (fun h27 => ?_) (fun h27 => ?_)
      · skip
        refine V_retv (pc := 91) dX2_passFor_91 rfl ?_
        exact ⟨rfl, by simp [g_passFor, *], rfl⟩
      · skip
        exact absurd h27 (by decide)
  · skip
    refine V0_iconst (pc := 12) (1) dX2_passFor_12 (by decide) ?_
    refine V0_goto (pc := 13) 17 dX2_passFor_13 (by decide) ?_
    refine V0_istore_2 (pc := 17) dX2_passFor_17 (by decide) rfl ?_
    refine V0_aload_n (pc := 18) dX2_passFor_18 rfl ?_
    refine V0_iload_n (pc := 19) dX2_passFor_19 rfl ?_
    refine V_callVi (pc := 20) (M' := mX2_runs) dX2_passFor_20 mlX2_69 okX2_runs rfl (c_X2_runs hp (by omega)) rfl rfl hp.1 rfl ⟨Nat.le_of_ble_eq_true rfl, Nat.le_of_ble_eq_true rfl⟩ ⟨Nat.le_refl 0, Nat.le_refl 0⟩ (Nat.le_of_ble_eq_true rfl) ?_
    refine V_ifeqb (pc := 23) 38 dX2_passFor_23 (by decide) (fun h23 => ?_) (fun h23 => ?_)
    · skip
      refine V0_aload_n (pc := 38) dX2_passFor_38 rfl ?_
      refine V0_iload_n (pc := 39) dX2_passFor_39 rfl ?_
      refine V_callVi (pc := 40) (M' := mX2_waits) dX2_passFor_40 mlX2_65 okX2_waits rfl (c_X2_waits hp (by omega)) rfl rfl hp.1 rfl ⟨Nat.le_of_ble_eq_true rfl, Nat.le_of_ble_eq_true rfl⟩ ⟨Nat.le_refl 0, Nat.le_refl 0⟩ (Nat.le_of_ble_eq_true rfl) ?_
      refine V_ifeqb (pc := 43) 91 dX2_passFor_43 (by decide) (fun h43 => ?_) (fun h43 => ?_)
      · skip
        refine V_retv (pc := 91) dX2_passFor_91 rfl ?_
        exact ⟨rfl, by simp [g_passFor, *], rfl⟩
      · skip
        refine V0_iload_n (pc := 46) dX2_passFor_46 rfl ?_
        refine V0_if_eq (pc := 47) 58 dX2_passFor_47 (by decide) (fun h47 => ?_) (fun h47 => ?_)
        · skip
          exact absurd h47 (by decide)
        · skip
          refine V0_aload_n (pc := 50) dX2_passFor_50 rfl ?_
          refine V0_iload_n (pc := 51) dX2_passFor_51 rfl ?_
          refine V_callV (pc := 52) (M' := mX2_runOn) dX2_passFor_52 mlX2_108 okX2_runOn rfl (c_X2_runOn hp (by omega)) rfl rfl hp.1 rfl ⟨Nat.le_of_ble_eq_true rfl, Nat.le_of_ble_eq_true rfl⟩ ⟨Nat.le_refl 0, Nat.le_refl 0⟩ (Nat.le_of_ble_eq_true rfl) ?_
          intro r1 I1 J1 hh
          obtain ⟨e1, e2, e3⟩ := hh
          rw [e1, e2, e3]
          clear e1 e2 e3 r1 I1 J1
          refine V0_goto (pc := 55) 91 dX2_passFor_55 (by decide) ?_
          refine V_retv (pc := 91) dX2_passFor_91 rfl ?_
          exact ⟨rfl, by simp [g_passFor, *], rfl⟩
    · skip
      refine V0_iload_n (pc := 26) dX2_passFor_26 rfl ?_
      refine V0_if_eq (pc := 27) 91 dX2_passFor_27 (by decide) (fun h27 => ?_) (fun h27 => ?_)
      · skip
        exact absurd h27 (by decide)
      · skip
        refine V0_aload_n (pc := 30) dX2_passFor_30 rfl ?_
        refine V0_iload_n (pc := 31) dX2_passFor_31 rfl ?_
        refine V_callV (pc := 32) (M' := mX2_runOn) dX2_passFor_32 mlX2_108 okX2_runOn rfl (c_X2_runOn hp (by omega)) rfl rfl hp.1 rfl ⟨Nat.le_of_ble_eq_true rfl, Nat.le_of_ble_eq_true rfl⟩ ⟨Nat.le_refl 0, Nat.le_refl 0⟩ (Nat.le_of_ble_eq_true rfl) ?_
        intro r1 I1 J1 hh
        obtain ⟨e1, e2, e3⟩ := hh
        rw [e1, e2, e3]
        clear e1 e2 e3 r1 I1 J1
        refine V0_goto (pc := 35) 91 dX2_passFor_35 (by decide) ?_
        refine V_retv (pc := 91) dX2_passFor_91 rfl ?_
        exact ⟨rfl, by simp [g_passFor, *], rfl⟩
theorem c_X2_holdVote {l : Launch} {I : px_I} {J : px_J} {p m : Nat} (hp : px_cs p) (hm : I 1 6 = nI m) (hm7 : m ≤ 7) : Ct l mX2_holdVote 1 [.ref p] I J (px_qs (g_vote I p m) J) := by
  refine Ct.of plX2_holdVote (Nat.le_of_ble_eq_true rfl) [.ref p, .null, .null] rfl ?_
  refine V0_aload_n (pc := 0) dX2_holdVote_0 rfl ?_
  refine V_callVi (pc := 1) (M' := mX2_leadOfSide0) dX2_holdVote_1 mlX2_101 okX2_leadOfSide0 rfl (c_X2_leadOfSide0 hp hm hm7) rfl rfl hp.1 rfl ⟨Nat.le_of_ble_eq_true rfl, Nat.le_of_ble_eq_true rfl⟩ ⟨Nat.le_refl 0, Nat.le_refl 0⟩ (Nat.le_of_ble_eq_true rfl) ?_
  refine V0_istore_1 (pc := 4) dX2_holdVote_4 (by decide) rfl ?_
  refine V0_iload_n (pc := 5) dX2_holdVote_5 rfl ?_
  refine V0_if_ne (pc := 6) 16 dX2_holdVote_6 (by decide) (fun h6 => ?_) (fun h6 => ?_)
  · skip
    refine V0_iload_n (pc := 16) dX2_holdVote_16 rfl ?_
    refine V1_if_le (pc := 17) 24 dX2_holdVote_17 (by decide) (fun h17 => ?_) (fun h17 => ?_)
    · skip
      refine V0_iconst (pc := 24) (1) dX2_holdVote_24 (by decide) ?_
      refine V0_istore_2 (pc := 25) dX2_holdVote_25 (by decide) rfl ?_
      refine V_ls (ls' := [.ref p, .int (s_lead (I (p + 1)) m), .int (g_chosen I p m)]) (by simp [g_chosen, *]) ?_
      refine V0_iload_n (pc := 26) dX2_holdVote_26 rfl ?_
      refine V0_aload_n (pc := 27) dX2_holdVote_27 rfl ?_
      refine V_geti (pc := 28) dX2_holdVote_28 flX2_43 hp.1 rfl ?_
      refine V0_icmp_eq (pc := 31) 44 dX2_holdVote_31 (by decide) (fun h31 => ?_) (fun h31 => ?_)
      · skip
        refine V0_aload_n (pc := 44) dX2_holdVote_44 rfl ?_
        refine V0_iload_n (pc := 45) dX2_holdVote_45 rfl ?_
        refine V_puti (pc := 46) dX2_holdVote_46 flX2_43 hp.1 rfl ?_
        refine V0_aload_n (pc := 49) dX2_holdVote_49 rfl ?_
        refine V_getr (pc := 50) dX2_holdVote_50 flX2_21 hp.1 rfl ?_
        refine V0_iconst (pc := 53) (2) dX2_holdVote_53 (by decide) ?_
        refine V0_dup2 (pc := 54) dX2_holdVote_54 rfl rfl ?_
        refine V_iald (pc := 55) 2 dX2_holdVote_55 hp.2.2.2.2.1 (by decide) (by decide) ?_
        refine V0_iconst (pc := 56) (1) dX2_holdVote_56 (by decide) ?_
        refine V0_iadd (pc := 57) dX2_holdVote_57 ?_
        refine V_iast (pc := 58) 2 dX2_holdVote_58 hp.2.2.2.2.1 (by decide) (by decide) ?_
        refine V_retv (pc := 59) dX2_holdVote_59 rfl ?_
        exact ⟨rfl, by simp [g_vote, g_turn, h31, px_up_at], rfl⟩
      · skip
        refine V0_aload_n (pc := 34) dX2_holdVote_34 rfl ?_
        refine V_getr (pc := 35) dX2_holdVote_35 flX2_21 hp.1 rfl ?_
        refine V0_iconst (pc := 38) (3) dX2_holdVote_38 (by decide) ?_
        refine V0_dup2 (pc := 39) dX2_holdVote_39 rfl rfl ?_
        refine V_iald (pc := 40) 3 dX2_holdVote_40 hp.2.2.2.2.1 (by decide) (by decide) ?_
        refine V0_iconst (pc := 41) (1) dX2_holdVote_41 (by decide) ?_
        refine V0_iadd (pc := 42) dX2_holdVote_42 ?_
        refine V_iast (pc := 43) 3 dX2_holdVote_43 hp.2.2.2.2.1 (by decide) (by decide) ?_
        refine V0_aload_n (pc := 44) dX2_holdVote_44 rfl ?_
        refine V0_iload_n (pc := 45) dX2_holdVote_45 rfl ?_
        refine V_puti (pc := 46) dX2_holdVote_46 flX2_43 hp.1 rfl ?_
        refine V0_aload_n (pc := 49) dX2_holdVote_49 rfl ?_
        refine V_getr (pc := 50) dX2_holdVote_50 flX2_21 hp.1 rfl ?_
        refine V0_iconst (pc := 53) (2) dX2_holdVote_53 (by decide) ?_
        refine V0_dup2 (pc := 54) dX2_holdVote_54 rfl rfl ?_
        refine V_iald (pc := 55) 2 dX2_holdVote_55 hp.2.2.2.2.1 (by decide) (by decide) ?_
        refine V0_iconst (pc := 56) (1) dX2_holdVote_56 (by decide) ?_
        refine V0_iadd (pc := 57) dX2_holdVote_57 ?_
        refine V_iast (pc := 58) 2 dX2_holdVote_58 hp.2.2.2.2.1 (by decide) (by decide) ?_
        refine V_retv (pc := 59) dX2_holdVote_59 rfl ?_
        exact ⟨rfl, by simp [g_vote, g_turn, h31, px_up_at], rfl⟩
    · skip
      refine V0_iconst (pc := 20) (0) dX2_holdVote_20 (by decide) ?_
      refine V0_goto (pc := 21) 25 dX2_holdVote_21 (by decide) ?_
      refine V0_istore_2 (pc := 25) dX2_holdVote_25 (by decide) rfl ?_
      refine V_ls (ls' := [.ref p, .int (s_lead (I (p + 1)) m), .int (g_chosen I p m)]) (by simp [g_chosen, *]) ?_
      refine V0_iload_n (pc := 26) dX2_holdVote_26 rfl ?_
      refine V0_aload_n (pc := 27) dX2_holdVote_27 rfl ?_
      refine V_geti (pc := 28) dX2_holdVote_28 flX2_43 hp.1 rfl ?_
      refine V0_icmp_eq (pc := 31) 44 dX2_holdVote_31 (by decide) (fun h31 => ?_) (fun h31 => ?_)
      · skip
        refine V0_aload_n (pc := 44) dX2_holdVote_44 rfl ?_
        refine V0_iload_n (pc := 45) dX2_holdVote_45 rfl ?_
        refine V_puti (pc := 46) dX2_holdVote_46 flX2_43 hp.1 rfl ?_
        refine V0_aload_n (pc := 49) dX2_holdVote_49 rfl ?_
        refine V_getr (pc := 50) dX2_holdVote_50 flX2_21 hp.1 rfl ?_
        refine V0_iconst (pc := 53) (2) dX2_holdVote_53 (by decide) ?_
        refine V0_dup2 (pc := 54) dX2_holdVote_54 rfl rfl ?_
        refine V_iald (pc := 55) 2 dX2_holdVote_55 hp.2.2.2.2.1 (by decide) (by decide) ?_
        refine V0_iconst (pc := 56) (1) dX2_holdVote_56 (by decide) ?_
        refine V0_iadd (pc := 57) dX2_holdVote_57 ?_
        refine V_iast (pc := 58) 2 dX2_holdVote_58 hp.2.2.2.2.1 (by decide) (by decide) ?_
        refine V_retv (pc := 59) dX2_holdVote_59 rfl ?_
        exact ⟨rfl, by simp [g_vote, g_turn, h31, px_up_at], rfl⟩
      · skip
        refine V0_aload_n (pc := 34) dX2_holdVote_34 rfl ?_
        refine V_getr (pc := 35) dX2_holdVote_35 flX2_21 hp.1 rfl ?_
        refine V0_iconst (pc := 38) (3) dX2_holdVote_38 (by decide) ?_
        refine V0_dup2 (pc := 39) dX2_holdVote_39 rfl rfl ?_
        refine V_iald (pc := 40) 3 dX2_holdVote_40 hp.2.2.2.2.1 (by decide) (by decide) ?_
        refine V0_iconst (pc := 41) (1) dX2_holdVote_41 (by decide) ?_
        refine V0_iadd (pc := 42) dX2_holdVote_42 ?_
        refine V_iast (pc := 43) 3 dX2_holdVote_43 hp.2.2.2.2.1 (by decide) (by decide) ?_
        refine V0_aload_n (pc := 44) dX2_holdVote_44 rfl ?_
        refine V0_iload_n (pc := 45) dX2_holdVote_45 rfl ?_
        refine V_puti (pc := 46) dX2_holdVote_46 flX2_43 hp.1 rfl ?_
        refine V0_aload_n (pc := 49) dX2_holdVote_49 rfl ?_
        refine V_getr (pc := 50) dX2_holdVote_50 flX2_21 hp.1 rfl ?_
        refine V0_iconst (pc := 53) (2) dX2_holdVote_53 (by decide) ?_
        refine V0_dup2 (pc := 54) dX2_holdVote_54 rfl rfl ?_
        refine V_iald (pc := 55) 2 dX2_holdVote_55 hp.2.2.2.2.1 (by decide) (by decide) ?_
        refine V0_iconst (pc := 56) (1) dX2_holdVote_56 (by decide) ?_
        refine V0_iadd (pc := 57) dX2_holdVote_57 ?_
        refine V_iast (pc := 58) 2 dX2_holdVote_58 hp.2.2.2.2.1 (by decide) (by decide) ?_
        refine V_retv (pc := 59) dX2_holdVote_59 rfl ?_
        exact ⟨rfl, by simp [g_vote, g_turn, h31, px_up_at], rfl⟩
  · skip
    refine V0_aload_n (pc := 9) dX2_holdVote_9 rfl ?_
    refine V_geti (pc := 10) dX2_holdVote_10 flX2_43 hp.1 rfl ?_
    refine V0_goto (pc := 13) 25 dX2_holdVote_13 (by decide) ?_
    refine V0_istore_2 (pc := 25) dX2_holdVote_25 (by decide) rfl ?_
    refine V_ls (ls' := [.ref p, .int (s_lead (I (p + 1)) m), .int (g_chosen I p m)]) (by simp [g_chosen, *]) ?_
    refine V0_iload_n (pc := 26) dX2_holdVote_26 rfl ?_
    refine V0_aload_n (pc := 27) dX2_holdVote_27 rfl ?_
    refine V_geti (pc := 28) dX2_holdVote_28 flX2_43 hp.1 rfl ?_
    refine V0_icmp_eq (pc := 31) 44 dX2_holdVote_31 (by decide) (fun h31 => ?_) (fun h31 => ?_)
    · skip
      refine V0_aload_n (pc := 44) dX2_holdVote_44 rfl ?_
      refine V0_iload_n (pc := 45) dX2_holdVote_45 rfl ?_
      refine V_puti (pc := 46) dX2_holdVote_46 flX2_43 hp.1 rfl ?_
      refine V0_aload_n (pc := 49) dX2_holdVote_49 rfl ?_
      refine V_getr (pc := 50) dX2_holdVote_50 flX2_21 hp.1 rfl ?_
      refine V0_iconst (pc := 53) (2) dX2_holdVote_53 (by decide) ?_
      refine V0_dup2 (pc := 54) dX2_holdVote_54 rfl rfl ?_
      refine V_iald (pc := 55) 2 dX2_holdVote_55 hp.2.2.2.2.1 (by decide) (by decide) ?_
      refine V0_iconst (pc := 56) (1) dX2_holdVote_56 (by decide) ?_
      refine V0_iadd (pc := 57) dX2_holdVote_57 ?_
      refine V_iast (pc := 58) 2 dX2_holdVote_58 hp.2.2.2.2.1 (by decide) (by decide) ?_
      refine V_retv (pc := 59) dX2_holdVote_59 rfl ?_
      exact ⟨rfl, by simp [g_vote, g_turn, h31, px_up_at], rfl⟩
    · skip
      refine V0_aload_n (pc := 34) dX2_holdVote_34 rfl ?_
      refine V_getr (pc := 35) dX2_holdVote_35 flX2_21 hp.1 rfl ?_
      refine V0_iconst (pc := 38) (3) dX2_holdVote_38 (by decide) ?_
      refine V0_dup2 (pc := 39) dX2_holdVote_39 rfl rfl ?_
      refine V_iald (pc := 40) 3 dX2_holdVote_40 hp.2.2.2.2.1 (by decide) (by decide) ?_
      refine V0_iconst (pc := 41) (1) dX2_holdVote_41 (by decide) ?_
      refine V0_iadd (pc := 42) dX2_holdVote_42 ?_
      refine V_iast (pc := 43) 3 dX2_holdVote_43 hp.2.2.2.2.1 (by decide) (by decide) ?_
      refine V0_aload_n (pc := 44) dX2_holdVote_44 rfl ?_
      refine V0_iload_n (pc := 45) dX2_holdVote_45 rfl ?_
      refine V_puti (pc := 46) dX2_holdVote_46 flX2_43 hp.1 rfl ?_
      refine V0_aload_n (pc := 49) dX2_holdVote_49 rfl ?_
      refine V_getr (pc := 50) dX2_holdVote_50 flX2_21 hp.1 rfl ?_
      refine V0_iconst (pc := 53) (2) dX2_holdVote_53 (by decide) ?_
      refine V0_dup2 (pc := 54) dX2_holdVote_54 rfl rfl ?_
      refine V_iald (pc := 55) 2 dX2_holdVote_55 hp.2.2.2.2.1 (by decide) (by decide) ?_
      refine V0_iconst (pc := 56) (1) dX2_holdVote_56 (by decide) ?_
      refine V0_iadd (pc := 57) dX2_holdVote_57 ?_
      refine V_iast (pc := 58) 2 dX2_holdVote_58 hp.2.2.2.2.1 (by decide) (by decide) ?_
      refine V_retv (pc := 59) dX2_holdVote_59 rfl ?_
      exact ⟨rfl, by simp [g_vote, g_turn, h31, px_up_at], rfl⟩
theorem lp_X2_pass {l : Launch} {I : px_I} {J : px_J} {p n : Nat} {Q : px_Q} (hp : px_cs p) (hn : I 1 7 = nI n) (hn10 : n ≤ 10) (ho : px_ofs (I 2)) (hQ : Q none (px_up (g_later (g_joys I p n) p) (p + 4) 1 (g_later (g_joys I p n) p (p + 4) 1 + 1)) J) : ∀ (k j : Nat), n + 1 - j ≤ k → j ≤ n → V0 l (px_rm 3 0 0) mX2_pass (false, []) 0 0 38 [.ref p, .int (nI j)] [] (px_mk (g_joys I p j) J) (px_q Q) := by
  have h8 := hp.2.2.2.2.2
  intro k
  induction k with
  | zero => intro j h1 h2; omega
  | succ k ih =>
    intro j h1 h2
    refine V0_iload_n (pc := 38) dX2_pass_38 rfl ?_
    refine V0_aload_n (pc := 39) dX2_pass_39 rfl ?_
    refine V_getr (pc := 40) dX2_pass_40 flX2_24 hp.1 rfl ?_
    refine V_geti (pc := 43) dX2_pass_43 flX2_75 rfl rfl ?_
    rw [g_joys_row (q := 1) (by omega) (by omega) (by omega), hn]
    refine V1_icmp_ge (pc := 46) 60 dX2_pass_46 (by decide) (fun h46 => ?_) (fun h46 => ?_)
    · skip
      have hj : j = n := by have := px_ge h46 (by omega) (by omega); omega
      subst hj
      refine V0_aload_n (pc := 60) dX2_pass_60 rfl ?_
      refine V_geti (pc := 61) dX2_pass_61 flX2_47 hp.1 rfl ?_
      refine V0_sipush (pc := 64) (199) dX2_pass_64 (by decide) ?_
      refine V1_icmp_ge (pc := 67) 80 dX2_pass_67 (by decide) (fun h67 => ?_) (fun h67 => ?_)
      · skip
        refine V0_aload_n (pc := 80) dX2_pass_80 rfl ?_
        refine V_getr (pc := 81) dX2_pass_81 flX2_21 hp.1 rfl ?_
        refine V0_iconst (pc := 84) (1) dX2_pass_84 (by decide) ?_
        refine V0_dup2 (pc := 85) dX2_pass_85 rfl rfl ?_
        refine V_iald (pc := 86) 1 dX2_pass_86 hp.2.2.2.2.1 (by decide) (by decide) ?_
        refine V0_iconst (pc := 87) (1) dX2_pass_87 (by decide) ?_
        refine V0_iadd (pc := 88) dX2_pass_88 ?_
        refine V_iast (pc := 89) 1 dX2_pass_89 hp.2.2.2.2.1 (by decide) (by decide) ?_
        refine V_retv (pc := 90) dX2_pass_90 rfl ?_
        simpa [g_later, h67] using hQ
      · skip
        refine V0_aload_n (pc := 70) dX2_pass_70 rfl ?_
        refine V0_dup (pc := 71) dX2_pass_71 rfl ?_
        refine V_geti (pc := 72) dX2_pass_72 flX2_47 hp.1 rfl ?_
        refine V0_iconst (pc := 75) (1) dX2_pass_75 (by decide) ?_
        refine V0_iadd (pc := 76) dX2_pass_76 ?_
        refine V_puti (pc := 77) dX2_pass_77 flX2_47 hp.1 rfl ?_
        refine V0_aload_n (pc := 80) dX2_pass_80 rfl ?_
        refine V_getr (pc := 81) dX2_pass_81 flX2_21 hp.1 rfl ?_
        refine V0_iconst (pc := 84) (1) dX2_pass_84 (by decide) ?_
        refine V0_dup2 (pc := 85) dX2_pass_85 rfl rfl ?_
        refine V_iald (pc := 86) 1 dX2_pass_86 hp.2.2.2.2.1 (by decide) (by decide) ?_
        refine V0_iconst (pc := 87) (1) dX2_pass_87 (by decide) ?_
        refine V0_iadd (pc := 88) dX2_pass_88 ?_
        refine V_iast (pc := 89) 1 dX2_pass_89 hp.2.2.2.2.1 (by decide) (by decide) ?_
        refine V_retv (pc := 90) dX2_pass_90 rfl ?_
        simpa [g_later, h67] using hQ
    · skip
      have hj := px_lt h46 (by omega) (by omega)
      refine V0_aload_n (pc := 49) dX2_pass_49 rfl ?_
      refine V0_iload_n (pc := 50) dX2_pass_50 rfl ?_
      refine V_callV (pc := 51) (M' := mX2_passFor) dX2_pass_51 mlX2_97 okX2_passFor rfl (c_X2_passFor hp (by omega) (by rw [g_joys_row (by omega) (by omega) (by omega)]; exact ho)) rfl rfl hp.1 rfl ⟨Nat.le_of_ble_eq_true rfl, Nat.le_of_ble_eq_true rfl⟩ ⟨Nat.le_refl 0, Nat.le_refl 0⟩ (Nat.le_of_ble_eq_true rfl) ?_
      intro r1 I1 J1 hh
      obtain ⟨e1, e2, e3⟩ := hh
      rw [e1, e2, e3]
      clear e1 e2 e3 r1 I1 J1
      refine V0_iinc_1 (pc := 54) (nI (j + 1)) dX2_pass_54 (by decide) rfl (nI_1 _) ?_
      refine V0_goto (pc := 57) 38 dX2_pass_57 (by decide) ?_
      exact ih (j + 1) (by omega) (by omega)
theorem c_X2_pass {l : Launch} {I : px_I} {J : px_J} {p m n : Nat} (hp : px_cs p) (hm : I 1 6 = nI m) (hm7 : m ≤ 7) (hn : I 1 7 = nI n) (hn10 : n ≤ 10) (ho : px_ofs (I 2)) : Ct l mX2_pass 3 [.ref p] I J (px_qs (g_pass I p m n) J) := by
  have h8 := hp.2.2.2.2.2
  have key : ∀ I1 : px_I, I1 = g_start I p m → V0 l (px_rm 3 0 0) mX2_pass (false, []) 0 0 38 [.ref p, .int (nI 0)] [] (px_mk I1 J) (px_q (px_qs (g_pass I p m n) J)) := by
    intro I1 e
    have r1 : I1 1 = I 1 := by rw [e]; exact g_start_row (by omega) (by omega)
    have r2 : I1 2 = I 2 := by rw [e]; exact g_start_row (by omega) (by omega)
    refine lp_X2_pass (I := I1) (n := n) hp (by rw [r1]; exact hn) hn10 (by rw [r2]; exact ho) ?_ (n + 1) 0 (by omega) (by omega)
    subst e
    exact ⟨rfl, rfl, rfl⟩
  refine Ct.of plX2_pass (Nat.le_of_ble_eq_true rfl) [.ref p, .null] rfl ?_
  refine V0_aload_n (pc := 0) dX2_pass_0 rfl ?_
  refine V_geti (pc := 1) dX2_pass_1 flX2_47 hp.1 rfl ?_
  refine V1_if_le (pc := 4) 36 dX2_pass_4 (by decide) (fun h4 => ?_) (fun h4 => ?_)
  · skip
    refine V0_iconst (pc := 36) (0) dX2_pass_36 (by decide) ?_
    refine V0_istore_1 (pc := 37) dX2_pass_37 (by decide) rfl ?_
    exact key _ (by simp [g_start, *])
  · skip
    refine V0_aload_n (pc := 7) dX2_pass_7 rfl ?_
    refine V_getr (pc := 8) dX2_pass_8 flX2_24 hp.1 rfl ?_
    refine V_geti (pc := 11) dX2_pass_11 flX2_91 rfl rfl ?_
    refine V1_if_le (pc := 14) 36 dX2_pass_14 (by decide) (fun h14 => ?_) (fun h14 => ?_)
    · skip
      refine V0_iconst (pc := 36) (0) dX2_pass_36 (by decide) ?_
      refine V0_istore_1 (pc := 37) dX2_pass_37 (by decide) rfl ?_
      exact key _ (by simp [g_start, *])
    · skip
      refine V0_aload_n (pc := 17) dX2_pass_17 rfl ?_
      refine V_geti (pc := 18) dX2_pass_18 flX2_47 hp.1 rfl ?_
      refine V0_aload_n (pc := 21) dX2_pass_21 rfl ?_
      refine V_getr (pc := 22) dX2_pass_22 flX2_24 hp.1 rfl ?_
      refine V_geti (pc := 25) dX2_pass_25 flX2_91 rfl rfl ?_
      refine V0_irem (pc := 28) dX2_pass_28 (fun e => by rw [e] at h14; exact absurd h14 (by decide)) ?_
      refine V0_if_ne (pc := 29) 36 dX2_pass_29 (by decide) (fun h29 => ?_) (fun h29 => ?_)
      · skip
        refine V0_iconst (pc := 36) (0) dX2_pass_36 (by decide) ?_
        refine V0_istore_1 (pc := 37) dX2_pass_37 (by decide) rfl ?_
        exact key _ (by simp [g_start, *])
      · skip
        refine V0_aload_n (pc := 32) dX2_pass_32 rfl ?_
        refine V_callV (pc := 33) (M' := mX2_holdVote) dX2_pass_33 mlX2_94 okX2_holdVote rfl (c_X2_holdVote hp hm hm7) rfl rfl hp.1 rfl ⟨Nat.le_of_ble_eq_true rfl, Nat.le_of_ble_eq_true rfl⟩ ⟨Nat.le_refl 0, Nat.le_refl 0⟩ (Nat.le_of_ble_eq_true rfl) ?_
        intro r1 I1 J1 hh
        obtain ⟨e1, e2, e3⟩ := hh
        rw [e1, e2, e3]
        clear e1 e2 e3 r1 I1 J1
        refine V0_iconst (pc := 36) (0) dX2_pass_36 (by decide) ?_
        refine V0_istore_1 (pc := 37) dX2_pass_37 (by decide) rfl ?_
        exact key _ (by simp [g_start, *])

