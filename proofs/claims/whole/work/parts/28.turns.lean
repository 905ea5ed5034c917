/-! two landlords by turns -/
def v_flip (sd : Nat → Int32) (one : Nat) : Nat → Int32 := fun j => if j = one then 1 - sd one else sd j
def v_pick (f : Bool) (a b : Int32) : Int32 := if f = true then (if a < b then b else a) else (if b < a then b else a)
def v_fold (g : Nat → Int32) (f : Bool) (base : Int32) : Nat → Int32
  | 0 => base
  | k + 1 => v_pick f (v_fold g f base k) (g k)
def v_bl (m : Nat) : Nat → (Nat → Int32) → Bool → Int32 → Int32
  | 0, _, _, b => b
  | k + 1, sd, f, b => v_fold (fun one => v_bl m k (v_flip sd one) (!f) (b + (if sd one = 0 then -2 else 2))) f (v_bl m k sd (!f) b) m
def v_lm (m k : Nat) (sd : Nat → Int32) (one : Nat) (f : Bool) (b : Int32) : Int32 := v_bl m k (v_flip sd one) f (b + (if sd one = 0 then -2 else 2))
theorem one_one (x : Int32) : 1 - (1 - x) = x := by grind
theorem flip_flip {I : px_I} {q k : Nat} : px_up (px_up I q k (1 - I q k)) q k (1 - px_up I q k (1 - I q k) q k) = I := by
  funext a b
  by_cases h : a = q ∧ b = k
  · obtain ⟨rfl, rfl⟩ := h
    rw [px_up_same, px_up_same, one_one]
  · rw [px_up_ne h, px_up_ne h]
theorem flip_row {I : px_I} {q k : Nat} : px_up I q k (1 - I q k) q = v_flip (I q) k := by
  funext b
  simp only [px_up_at, v_flip, true_and]
/-- what is owed of bestLead, at k turns left -/
def v_run (l : Launch) (m k : Nat) : Prop := ∀ (I : px_I) (J : px_J) (f : Bool) (b : Int32), I 1 6 = nI m → CtI l mX10_bestLead (2 * k + 1) [.ref 48, .int (nI k), .int (b2 f), .int b] I J (v_bl m k (I 49) f b)
theorem c_X10_leadIfMoved {l : Launch} {m k : Nat} (hrun : v_run l m k) {I : px_I} {J : px_J} {f : Bool} {b : Int32} {one : Nat} (hm : I 1 6 = nI m) (ho : one < 7) : CtI l mX10_leadIfMoved (2 * k + 2) [.ref 48, .int (nI one), .int (nI k), .int (b2 f), .int b] I J (v_lm m k (I 49) one f b) := by
  refine Ct.of plX10_leadIfMoved (Nat.le_of_ble_eq_true rfl) [.ref 48, .int (nI one), .int (nI k), .int (b2 f), .int b, .null, .null] rfl ?_
  have hc := hrun (px_up I 49 one (1 - I 49 one)) J f (b + (if I 49 one = 0 then -2 else 2)) (by rw [px_up_row (by omega)]; exact hm)
  rw [flip_row] at hc
  refine V0_iload (pc := 0) dX10_leadIfMoved_0 rfl ?_
  refine V0_aload_n (pc := 2) dX10_leadIfMoved_2 rfl ?_
  refine V_getr (pc := 3) dX10_leadIfMoved_3 flX10_9 rfl rfl ?_
  refine V0_iload_n (pc := 6) dX10_leadIfMoved_6 rfl ?_
  refine V_iald (pc := 7) (one) dX10_leadIfMoved_7 rfl rfl (by omega) ?_
  refine V0_if_ne (pc := 8) 16 dX10_leadIfMoved_8 (by decide) (fun h8 => ?_) (fun h8 => ?_)
  · skip
    refine V0_iconst (pc := 16) (2) dX10_leadIfMoved_16 (by decide) ?_
    refine V0_iadd (pc := 17) dX10_leadIfMoved_17 ?_
    refine V_topc (b + (if I 49 one = 0 then -2 else 2)) (by simp [h8]) ?_
    refine V0_istore_5 (pc := 18) dX10_leadIfMoved_18 (by decide) rfl ?_
    refine V0_aload_n (pc := 20) dX10_leadIfMoved_20 rfl ?_
    refine V_getr (pc := 21) dX10_leadIfMoved_21 flX10_9 rfl rfl ?_
    refine V0_iload_n (pc := 24) dX10_leadIfMoved_24 rfl ?_
    refine V0_iconst (pc := 25) (1) dX10_leadIfMoved_25 (by decide) ?_
    refine V0_aload_n (pc := 26) dX10_leadIfMoved_26 rfl ?_
    refine V_getr (pc := 27) dX10_leadIfMoved_27 flX10_9 rfl rfl ?_
    refine V0_iload_n (pc := 30) dX10_leadIfMoved_30 rfl ?_
    refine V_iald (pc := 31) (one) dX10_leadIfMoved_31 rfl rfl (by omega) ?_
    refine V0_isub (pc := 32) dX10_leadIfMoved_32 ?_
    refine V_iast (pc := 33) (one) dX10_leadIfMoved_33 rfl rfl (by omega) ?_
    refine V0_aload_n (pc := 34) dX10_leadIfMoved_34 rfl ?_
    refine V0_iload_n (pc := 35) dX10_leadIfMoved_35 rfl ?_
    refine V0_iload_n (pc := 36) dX10_leadIfMoved_36 rfl ?_
    refine V0_iload (pc := 37) dX10_leadIfMoved_37 rfl ?_
    refine V_callVi (pc := 39) (M' := mX10_bestLead) dX10_leadIfMoved_39 mlX10_71 okX10_bestLead rfl hc rfl rfl rfl rfl (px_hr (by omega) (by decide)) ⟨Nat.le_refl 0, Nat.le_refl 0⟩ (Nat.le_of_ble_eq_true rfl) ?_
    refine V0_istore_6 (pc := 42) dX10_leadIfMoved_42 (by decide) rfl ?_
    refine V0_aload_n (pc := 44) dX10_leadIfMoved_44 rfl ?_
    refine V_getr (pc := 45) dX10_leadIfMoved_45 flX10_9 rfl rfl ?_
    refine V0_iload_n (pc := 48) dX10_leadIfMoved_48 rfl ?_
    refine V0_iconst (pc := 49) (1) dX10_leadIfMoved_49 (by decide) ?_
    refine V0_aload_n (pc := 50) dX10_leadIfMoved_50 rfl ?_
    refine V_getr (pc := 51) dX10_leadIfMoved_51 flX10_9 rfl rfl ?_
    refine V0_iload_n (pc := 54) dX10_leadIfMoved_54 rfl ?_
    refine V_iald (pc := 55) (one) dX10_leadIfMoved_55 rfl rfl (by omega) ?_
    refine V0_isub (pc := 56) dX10_leadIfMoved_56 ?_
    refine V_iast (pc := 57) (one) dX10_leadIfMoved_57 rfl rfl (by omega) ?_
    refine V0_iload (pc := 58) dX10_leadIfMoved_58 rfl ?_
    refine V_reti (pc := 60) _ dX10_leadIfMoved_60 rfl ?_
    rw [flip_flip]
    exact px_li rfl
  · skip
    refine V0_bipush (pc := 11) (-2) dX10_leadIfMoved_11 (by decide) ?_
    refine V0_goto (pc := 13) 17 dX10_leadIfMoved_13 (by decide) ?_
    refine V0_iadd (pc := 17) dX10_leadIfMoved_17 ?_
    refine V_topc (b + (if I 49 one = 0 then -2 else 2)) (by simp [h8]) ?_
    refine V0_istore_5 (pc := 18) dX10_leadIfMoved_18 (by decide) rfl ?_
    refine V0_aload_n (pc := 20) dX10_leadIfMoved_20 rfl ?_
    refine V_getr (pc := 21) dX10_leadIfMoved_21 flX10_9 rfl rfl ?_
    refine V0_iload_n (pc := 24) dX10_leadIfMoved_24 rfl ?_
    refine V0_iconst (pc := 25) (1) dX10_leadIfMoved_25 (by decide) ?_
    refine V0_aload_n (pc := 26) dX10_leadIfMoved_26 rfl ?_
    refine V_getr (pc := 27) dX10_leadIfMoved_27 flX10_9 rfl rfl ?_
    refine V0_iload_n (pc := 30) dX10_leadIfMoved_30 rfl ?_
    refine V_iald (pc := 31) (one) dX10_leadIfMoved_31 rfl rfl (by omega) ?_
    refine V0_isub (pc := 32) dX10_leadIfMoved_32 ?_
    refine V_iast (pc := 33) (one) dX10_leadIfMoved_33 rfl rfl (by omega) ?_
    refine V0_aload_n (pc := 34) dX10_leadIfMoved_34 rfl ?_
    refine V0_iload_n (pc := 35) dX10_leadIfMoved_35 rfl ?_
    refine V0_iload_n (pc := 36) dX10_leadIfMoved_36 rfl ?_
    refine V0_iload (pc := 37) dX10_leadIfMoved_37 rfl ?_
    refine V_callVi (pc := 39) (M' := mX10_bestLead) dX10_leadIfMoved_39 mlX10_71 okX10_bestLead rfl hc rfl rfl rfl rfl (px_hr (by omega) (by decide)) ⟨Nat.le_refl 0, Nat.le_refl 0⟩ (Nat.le_of_ble_eq_true rfl) ?_
    refine V0_istore_6 (pc := 42) dX10_leadIfMoved_42 (by decide) rfl ?_
    refine V0_aload_n (pc := 44) dX10_leadIfMoved_44 rfl ?_
    refine V_getr (pc := 45) dX10_leadIfMoved_45 flX10_9 rfl rfl ?_
    refine V0_iload_n (pc := 48) dX10_leadIfMoved_48 rfl ?_
    refine V0_iconst (pc := 49) (1) dX10_leadIfMoved_49 (by decide) ?_
    refine V0_aload_n (pc := 50) dX10_leadIfMoved_50 rfl ?_
    refine V_getr (pc := 51) dX10_leadIfMoved_51 flX10_9 rfl rfl ?_
    refine V0_iload_n (pc := 54) dX10_leadIfMoved_54 rfl ?_
    refine V_iald (pc := 55) (one) dX10_leadIfMoved_55 rfl rfl (by omega) ?_
    refine V0_isub (pc := 56) dX10_leadIfMoved_56 ?_
    refine V_iast (pc := 57) (one) dX10_leadIfMoved_57 rfl rfl (by omega) ?_
    refine V0_iload (pc := 58) dX10_leadIfMoved_58 rfl ?_
    refine V_reti (pc := 60) _ dX10_leadIfMoved_60 rfl ?_
    rw [flip_flip]
    exact px_li rfl
theorem lp_X10_bestLead {l : Launch} {m k : Nat} (hrun : v_run l m k) (hk : k < 1000) {I : px_I} {J : px_J} {f : Bool} {b : Int32} {Q : px_Q} (hm : I 1 6 = nI m) (hm7 : m ≤ 7) (hQ : Q (some (.int (v_bl m (k + 1) (I 49) f b))) I J) : ∀ (g j : Nat), m + 1 - j ≤ g → j ≤ m → ∀ v6 : Value, V0 l (px_rm (2 * (k + 1) + 1) 0 0) mX10_bestLead (false, []) 0 0 28 [.ref 48, .int (nI (k + 1)), .int (b2 f), .int b, .int (v_fold (fun one => v_lm m k (I 49) one (!f) b) f (v_bl m k (I 49) (!f) b) j), .int (nI j), v6] [] (px_mk I J) (px_q Q) := by
  intro g
  induction g with
  | zero => intro j h1 h2; omega
  | succ g ih =>
    intro j h1 h2 v6
    refine V0_iload (pc := 28) dX10_bestLead_28 rfl ?_
    refine V0_aload_n (pc := 30) dX10_bestLead_30 rfl ?_
    refine V_getr (pc := 31) dX10_bestLead_31 flX10_19 rfl rfl ?_
    refine V_geti (pc := 34) dX10_bestLead_34 flX10_33 rfl rfl ?_
    rw [hm]
    refine V1_icmp_ge (pc := 37) 90 dX10_bestLead_37 (by decide) (fun h37 => ?_) (fun h37 => ?_)
    · skip
      have hj : j = m := by have := px_ge h37 (by omega) (by omega); omega
      subst hj
      refine V0_iload (pc := 90) dX10_bestLead_90 rfl ?_
      refine V_reti (pc := 92) _ dX10_bestLead_92 rfl ?_
      exact hQ
    · skip
      have hj := px_lt h37 (by omega) (by omega)
      refine V0_aload_n (pc := 40) dX10_bestLead_40 rfl ?_
      refine V0_iload (pc := 41) dX10_bestLead_41 rfl ?_
      refine V0_iload_n (pc := 43) dX10_bestLead_43 rfl ?_
      refine V0_iconst (pc := 44) (1) dX10_bestLead_44 (by decide) ?_
      refine V0_isub (pc := 45) dX10_bestLead_45 ?_
      rw [nI_pred]
      refine V0_iload_n (pc := 46) dX10_bestLead_46 rfl ?_
      refine V_ifneb (pc := 47) 54 dX10_bestLead_47 (by decide) (fun h47 => ?_) (fun h47 => ?_)
      · skip
        refine V0_iconst (pc := 54) (0) dX10_bestLead_54 (by decide) ?_
        refine V_topc (b2 (!f)) (by simp [b2, h47]) ?_
        refine V0_iload_n (pc := 55) dX10_bestLead_55 rfl ?_
        refine V_callVi (pc := 56) (M' := mX10_leadIfMoved) dX10_bestLead_56 mlX10_81 okX10_leadIfMoved rfl (c_X10_leadIfMoved hrun hm (by omega)) rfl rfl rfl rfl (px_hr (by omega) (by decide)) ⟨Nat.le_refl 0, Nat.le_refl 0⟩ (Nat.le_of_ble_eq_true rfl) ?_
        refine V0_istore_6 (pc := 59) dX10_bestLead_59 (by decide) rfl ?_
        refine V0_iload_n (pc := 61) dX10_bestLead_61 rfl ?_
        refine V_ifeqb (pc := 62) 75 dX10_bestLead_62 (by decide) (fun h62 => ?_) (fun h62 => ?_)
        · skip
          refine V0_iload (pc := 75) dX10_bestLead_75 rfl ?_
          refine V0_iload (pc := 77) dX10_bestLead_77 rfl ?_
          refine V0_min (pc := 79) dX10_bestLead_79 mlX10_53 js_min ji_Math jc_min (by show _ ≤ _; simp [px_rm]; try omega) (by show _ ≤ _; simp [px_rm]; try omega) ?_
          refine V0_istore_4 (pc := 82) dX10_bestLead_82 (by decide) rfl ?_
          refine V0_iinc_5 (pc := 84) (nI (j + 1)) dX10_bestLead_84 (by decide) rfl (nI_1 _) ?_
          refine V0_goto (pc := 87) 28 dX10_bestLead_87 (by decide) ?_
          exact V_ls (by simp only [v_fold, v_pick, h62, Bool.false_eq_true, if_true, if_false]) (ih (j + 1) (by omega) (by omega) (.int (v_lm m k (I 49) j (!f) b)))
        · skip
          refine V0_iload (pc := 65) dX10_bestLead_65 rfl ?_
          refine V0_iload (pc := 67) dX10_bestLead_67 rfl ?_
          refine V0_max (pc := 69) dX10_bestLead_69 mlX10_68 js_max ji_Math jc_max (by show _ ≤ _; simp [px_rm]; try omega) (by show _ ≤ _; simp [px_rm]; try omega) ?_
          refine V0_goto (pc := 72) 82 dX10_bestLead_72 (by decide) ?_
          refine V0_istore_4 (pc := 82) dX10_bestLead_82 (by decide) rfl ?_
          refine V0_iinc_5 (pc := 84) (nI (j + 1)) dX10_bestLead_84 (by decide) rfl (nI_1 _) ?_
          refine V0_goto (pc := 87) 28 dX10_bestLead_87 (by decide) ?_
          exact V_ls (by simp only [v_fold, v_pick, h62, Bool.false_eq_true, if_true, if_false]) (ih (j + 1) (by omega) (by omega) (.int (v_lm m k (I 49) j (!f) b)))
      · skip
        refine V0_iconst (pc := 50) (1) dX10_bestLead_50 (by decide) ?_
        refine V0_goto (pc := 51) 55 dX10_bestLead_51 (by decide) ?_
        refine V_topc (b2 (!f)) (by simp [b2, h47]) ?_
        refine V0_iload_n (pc := 55) dX10_bestLead_55 rfl ?_
        refine V_callVi (pc := 56) (M' := mX10_leadIfMoved) dX10_bestLead_56 mlX10_81 okX10_leadIfMoved rfl (c_X10_leadIfMoved hrun hm (by omega)) rfl rfl rfl rfl (px_hr (by omega) (by decide)) ⟨Nat.le_refl 0, Nat.le_refl 0⟩ (Nat.le_of_ble_eq_true rfl) ?_
        refine V0_istore_6 (pc := 59) dX10_bestLead_59 (by decide) rfl ?_
        refine V0_iload_n (pc := 61) dX10_bestLead_61 rfl ?_
        refine V_ifeqb (pc := 62) 75 dX10_bestLead_62 (by decide) (fun h62 => ?_) (fun h62 => ?_)
        · skip
          refine V0_iload (pc := 75) dX10_bestLead_75 rfl ?_
          refine V0_iload (pc := 77) dX10_bestLead_77 rfl ?_
          refine V0_min (pc := 79) dX10_bestLead_79 mlX10_53 js_min ji_Math jc_min (by show _ ≤ _; simp [px_rm]; try omega) (by show _ ≤ _; simp [px_rm]; try omega) ?_
          refine V0_istore_4 (pc := 82) dX10_bestLead_82 (by decide) rfl ?_
          refine V0_iinc_5 (pc := 84) (nI (j + 1)) dX10_bestLead_84 (by decide) rfl (nI_1 _) ?_
          refine V0_goto (pc := 87) 28 dX10_bestLead_87 (by decide) ?_
          exact V_ls (by simp only [v_fold, v_pick, h62, Bool.false_eq_true, if_true, if_false]) (ih (j + 1) (by omega) (by omega) (.int (v_lm m k (I 49) j (!f) b)))
        · skip
          refine V0_iload (pc := 65) dX10_bestLead_65 rfl ?_
          refine V0_iload (pc := 67) dX10_bestLead_67 rfl ?_
          refine V0_max (pc := 69) dX10_bestLead_69 mlX10_68 js_max ji_Math jc_max (by show _ ≤ _; simp [px_rm]; try omega) (by show _ ≤ _; simp [px_rm]; try omega) ?_
          refine V0_goto (pc := 72) 82 dX10_bestLead_72 (by decide) ?_
          refine V0_istore_4 (pc := 82) dX10_bestLead_82 (by decide) rfl ?_
          refine V0_iinc_5 (pc := 84) (nI (j + 1)) dX10_bestLead_84 (by decide) rfl (nI_1 _) ?_
          refine V0_goto (pc := 87) 28 dX10_bestLead_87 (by decide) ?_
          exact V_ls (by simp only [v_fold, v_pick, h62, Bool.false_eq_true, if_true, if_false]) (ih (j + 1) (by omega) (by omega) (.int (v_lm m k (I 49) j (!f) b)))
set_option maxHeartbeats 4000000 in
theorem c_X10_bestLead {l : Launch} {m : Nat} (hm7 : m ≤ 7) : ∀ k, k < 1000 → v_run l m k := by
  intro k
  induction k with
  | zero =>
    intro _ I J f b hm
    refine Ct.of plX10_bestLead (Nat.le_of_ble_eq_true rfl) [.ref 48, .int (nI 0), .int (b2 f), .int b, .null, .null, .null] rfl ?_
    refine V0_iload_n (pc := 0) dX10_bestLead_0 rfl ?_
    refine V0_if_gt (pc := 1) 6 dX10_bestLead_1 (by decide) (fun h1 => ?_) (fun h1 => ?_)
    · skip
      exact absurd h1 (by decide)
    · skip
      refine V0_iload_n (pc := 4) dX10_bestLead_4 rfl ?_
      refine V_reti (pc := 5) _ dX10_bestLead_5 rfl ?_
      exact px_li rfl
  | succ k ih =>
    intro hk I J f b hm
    have hrun := ih (by omega)
    refine Ct.of plX10_bestLead (Nat.le_of_ble_eq_true rfl) [.ref 48, .int (nI (k + 1)), .int (b2 f), .int b, .null, .null, .null] rfl ?_
    have hc := hrun I J (!f) b hm
    refine V0_iload_n (pc := 0) dX10_bestLead_0 rfl ?_
    refine V0_if_gt (pc := 1) 6 dX10_bestLead_1 (by decide) (fun h1 => ?_) (fun h1 => ?_)
    · skip
      refine V0_aload_n (pc := 6) dX10_bestLead_6 rfl ?_
      refine V0_iload_n (pc := 7) dX10_bestLead_7 rfl ?_
      refine V0_iconst (pc := 8) (1) dX10_bestLead_8 (by decide) ?_
      refine V0_isub (pc := 9) dX10_bestLead_9 ?_
      rw [nI_pred]
      refine V0_iload_n (pc := 10) dX10_bestLead_10 rfl ?_
      refine V_ifneb (pc := 11) 18 dX10_bestLead_11 (by decide) (fun h11 => ?_) (fun h11 => ?_)
      · skip
        refine V0_iconst (pc := 18) (0) dX10_bestLead_18 (by decide) ?_
        refine V_topc (b2 (!f)) (by simp [b2, h11]) ?_
        refine V0_iload_n (pc := 19) dX10_bestLead_19 rfl ?_
        refine V_callVi (pc := 20) (M' := mX10_bestLead) dX10_bestLead_20 mlX10_71 okX10_bestLead rfl hc rfl rfl rfl rfl (px_hr (by omega) (by decide)) ⟨Nat.le_refl 0, Nat.le_refl 0⟩ (Nat.le_of_ble_eq_true rfl) ?_
        refine V0_istore_4 (pc := 23) dX10_bestLead_23 (by decide) rfl ?_
        refine V0_iconst (pc := 25) (0) dX10_bestLead_25 (by decide) ?_
        refine V0_istore_5 (pc := 26) dX10_bestLead_26 (by decide) rfl ?_
        exact lp_X10_bestLead hrun (by omega) hm hm7 ⟨rfl, rfl, rfl⟩ (m + 1) 0 (by omega) (by omega) _
      · skip
        refine V0_iconst (pc := 14) (1) dX10_bestLead_14 (by decide) ?_
        refine V0_goto (pc := 15) 19 dX10_bestLead_15 (by decide) ?_
        refine V_topc (b2 (!f)) (by simp [b2, h11]) ?_
        refine V0_iload_n (pc := 19) dX10_bestLead_19 rfl ?_
        refine V_callVi (pc := 20) (M' := mX10_bestLead) dX10_bestLead_20 mlX10_71 okX10_bestLead rfl hc rfl rfl rfl rfl (px_hr (by omega) (by decide)) ⟨Nat.le_refl 0, Nat.le_refl 0⟩ (Nat.le_of_ble_eq_true rfl) ?_
        refine V0_istore_4 (pc := 23) dX10_bestLead_23 (by decide) rfl ?_
        refine V0_iconst (pc := 25) (0) dX10_bestLead_25 (by decide) ?_
        refine V0_istore_5 (pc := 26) dX10_bestLead_26 (by decide) rfl ?_
        exact lp_X10_bestLead hrun (by omega) hm hm7 ⟨rfl, rfl, rfl⟩ (m + 1) 0 (by omega) (by omega) _
    · skip
      exact absurd ((qI_lt (a := 0) (b := k + 1) (by omega) (by omega)).mpr (by omega)) (by rw [nI_0]; exact h1)

