/-! an act runs -/
theorem px_hr {D d n : Nat} (h1 : d + 1 ≤ D) (h2 : n ≤ 22) : d + 1 ≤ (px_rm D 0 0).frames ∧ 8 + (n + 11) + 41 * d ≤ (px_rm D 0 0).locals := ⟨h1, by show _ ≤ 41 * D; omega⟩
def a_trc (kd : Int32) (rc : Int32 → Nat → List Int32) (n up : Int32) (a : Nat) : List Int32 :=
  if n = 1 then [1] else
  if n = 2 then 2 :: (rc kd 1 ++ rc kd 2) else
  if n = 10 then 10 :: rc kd 0 else
  if n = 11 then [11] else
  if n = 20 then 20 :: rc up a else
  if n = 30 then 30 :: rc up a else
  if n = 40 then 40 :: rc up a else
  if n = 41 then 41 :: rc up a else
  if n = 50 then 50 :: rc up a else
  if n = 60 then 60 :: (rc up a ++ rc kd 0) else
  if n = 61 then 61 :: rc up a else
  if n = 70 then 70 :: rc up a else
  if n = 80 then 80 :: (rc up a ++ rc kd 2) else
  if n = 81 then 81 :: rc up a else [n]
def a_vlc (sf kd : Int32) (rv : Int32 → Nat → Int32 → Int32) (n up : Int32) (a : Nat) (x : Int32) : Int32 :=
  if n = 1 then x + sf else
  if n = 2 then rv kd 1 x - rv kd 2 1 else
  if n = 10 then rv kd 0 x * 2 else
  if n = 11 then x ^^^ sf else
  if n = 20 then rv up a x + 3 else
  if n = 30 then -rv up a x else
  if n = 40 then rv up a x * 3 else
  if n = 41 then rv up a (x + 1) else
  if n = 50 then rv up a x ^^^ 5 else
  if n = 60 then rv up a x - rv kd 0 2 else
  if n = 61 then rv up a x + 1 else
  if n = 70 then rv up a x * 2 else
  if n = 80 then rv up a x + rv kd 2 2 else
  if n = 81 then rv up a x - 1 else 0
theorem a_trc_1 (kd : Int32) (rc : Int32 → Nat → List Int32) (up : Int32) (a : Nat) : a_trc kd rc 1 up a = [1] := by simp [a_trc]
theorem a_vlc_1 (sf kd : Int32) (rv : Int32 → Nat → Int32 → Int32) (up : Int32) (a : Nat) (x : Int32) : a_vlc sf kd rv 1 up a x = x + sf := by simp [a_vlc]
theorem a_trc_2 (kd : Int32) (rc : Int32 → Nat → List Int32) (up : Int32) (a : Nat) : a_trc kd rc 2 up a = 2 :: (rc kd 1 ++ rc kd 2) := by simp [a_trc]
theorem a_vlc_2 (sf kd : Int32) (rv : Int32 → Nat → Int32 → Int32) (up : Int32) (a : Nat) (x : Int32) : a_vlc sf kd rv 2 up a x = rv kd 1 x - rv kd 2 1 := by simp [a_vlc]
theorem a_trc_10 (kd : Int32) (rc : Int32 → Nat → List Int32) (up : Int32) (a : Nat) : a_trc kd rc 10 up a = 10 :: rc kd 0 := by simp [a_trc]
theorem a_vlc_10 (sf kd : Int32) (rv : Int32 → Nat → Int32 → Int32) (up : Int32) (a : Nat) (x : Int32) : a_vlc sf kd rv 10 up a x = rv kd 0 x * 2 := by simp [a_vlc]
theorem a_trc_11 (kd : Int32) (rc : Int32 → Nat → List Int32) (up : Int32) (a : Nat) : a_trc kd rc 11 up a = [11] := by simp [a_trc]
theorem a_vlc_11 (sf kd : Int32) (rv : Int32 → Nat → Int32 → Int32) (up : Int32) (a : Nat) (x : Int32) : a_vlc sf kd rv 11 up a x = x ^^^ sf := by simp [a_vlc]
theorem a_trc_20 (kd : Int32) (rc : Int32 → Nat → List Int32) (up : Int32) (a : Nat) : a_trc kd rc 20 up a = 20 :: rc up a := by simp [a_trc]
theorem a_vlc_20 (sf kd : Int32) (rv : Int32 → Nat → Int32 → Int32) (up : Int32) (a : Nat) (x : Int32) : a_vlc sf kd rv 20 up a x = rv up a x + 3 := by simp [a_vlc]
theorem a_trc_30 (kd : Int32) (rc : Int32 → Nat → List Int32) (up : Int32) (a : Nat) : a_trc kd rc 30 up a = 30 :: rc up a := by simp [a_trc]
theorem a_vlc_30 (sf kd : Int32) (rv : Int32 → Nat → Int32 → Int32) (up : Int32) (a : Nat) (x : Int32) : a_vlc sf kd rv 30 up a x = -rv up a x := by simp [a_vlc]
theorem a_trc_40 (kd : Int32) (rc : Int32 → Nat → List Int32) (up : Int32) (a : Nat) : a_trc kd rc 40 up a = 40 :: rc up a := by simp [a_trc]
theorem a_vlc_40 (sf kd : Int32) (rv : Int32 → Nat → Int32 → Int32) (up : Int32) (a : Nat) (x : Int32) : a_vlc sf kd rv 40 up a x = rv up a x * 3 := by simp [a_vlc]
theorem a_trc_41 (kd : Int32) (rc : Int32 → Nat → List Int32) (up : Int32) (a : Nat) : a_trc kd rc 41 up a = 41 :: rc up a := by simp [a_trc]
theorem a_vlc_41 (sf kd : Int32) (rv : Int32 → Nat → Int32 → Int32) (up : Int32) (a : Nat) (x : Int32) : a_vlc sf kd rv 41 up a x = rv up a (x + 1) := by simp [a_vlc]
theorem a_trc_50 (kd : Int32) (rc : Int32 → Nat → List Int32) (up : Int32) (a : Nat) : a_trc kd rc 50 up a = 50 :: rc up a := by simp [a_trc]
theorem a_vlc_50 (sf kd : Int32) (rv : Int32 → Nat → Int32 → Int32) (up : Int32) (a : Nat) (x : Int32) : a_vlc sf kd rv 50 up a x = rv up a x ^^^ 5 := by simp [a_vlc]
theorem a_trc_60 (kd : Int32) (rc : Int32 → Nat → List Int32) (up : Int32) (a : Nat) : a_trc kd rc 60 up a = 60 :: (rc up a ++ rc kd 0) := by simp [a_trc]
theorem a_vlc_60 (sf kd : Int32) (rv : Int32 → Nat → Int32 → Int32) (up : Int32) (a : Nat) (x : Int32) : a_vlc sf kd rv 60 up a x = rv up a x - rv kd 0 2 := by simp [a_vlc]
theorem a_trc_61 (kd : Int32) (rc : Int32 → Nat → List Int32) (up : Int32) (a : Nat) : a_trc kd rc 61 up a = 61 :: rc up a := by simp [a_trc]
theorem a_vlc_61 (sf kd : Int32) (rv : Int32 → Nat → Int32 → Int32) (up : Int32) (a : Nat) (x : Int32) : a_vlc sf kd rv 61 up a x = rv up a x + 1 := by simp [a_vlc]
theorem a_trc_70 (kd : Int32) (rc : Int32 → Nat → List Int32) (up : Int32) (a : Nat) : a_trc kd rc 70 up a = 70 :: rc up a := by simp [a_trc]
theorem a_vlc_70 (sf kd : Int32) (rv : Int32 → Nat → Int32 → Int32) (up : Int32) (a : Nat) (x : Int32) : a_vlc sf kd rv 70 up a x = rv up a x * 2 := by simp [a_vlc]
theorem a_trc_80 (kd : Int32) (rc : Int32 → Nat → List Int32) (up : Int32) (a : Nat) : a_trc kd rc 80 up a = 80 :: (rc up a ++ rc kd 2) := by simp [a_trc]
theorem a_vlc_80 (sf kd : Int32) (rv : Int32 → Nat → Int32 → Int32) (up : Int32) (a : Nat) (x : Int32) : a_vlc sf kd rv 80 up a x = rv up a x + rv kd 2 2 := by simp [a_vlc]
theorem a_trc_81 (kd : Int32) (rc : Int32 → Nat → List Int32) (up : Int32) (a : Nat) : a_trc kd rc 81 up a = 81 :: rc up a := by simp [a_trc]
theorem a_vlc_81 (sf kd : Int32) (rv : Int32 → Nat → Int32 → Int32) (up : Int32) (a : Nat) (x : Int32) : a_vlc sf kd rv 81 up a x = rv up a x - 1 := by simp [a_vlc]
def a_tr (kd : Int32) : Nat → Int32 → Nat → List Int32
  | 0, _, _ => []
  | f + 1, fr, a => if s_hold a 8 fr < 0 then [] else a_trc kd (a_tr kd f) (s_own (ix (s_hold a 8 fr) * 4 + a)) (s_above (ix (s_hold a 8 fr))) a
def a_vl (sf kd : Int32) : Nat → Int32 → Nat → Int32 → Int32
  | 0, _, _, _ => 0
  | f + 1, fr, a, x => if s_hold a 8 fr < 0 then 0 else a_vlc sf kd (a_vl sf kd f) (s_own (ix (s_hold a 8 fr) * 4 + a)) (s_above (ix (s_hold a 8 fr))) a x
def g_notes (I : px_I) (r : Nat) : List Int32 → px_I
  | [] => I
  | b :: bs => g_notes (g_note I r b) (r + 1) bs
theorem g_note_row {I : px_I} {r q : Nat} {b : Int32} (h : q ≠ 51) (h2 : q ≠ 53) : g_note I r b q = I q := by
  unfold g_note; rw [px_up_row h]; split <;> simp [px_up_row, h2]
theorem g_note_at3 {I : px_I} {r : Nat} {b : Int32} : g_note I r b 51 3 = nI (r + 1) := by simp [g_note, px_up_at]
theorem g_note_at {I : px_I} {r k : Nat} {b : Int32} (h : k ≠ 3) : g_note I r b 51 k = I 51 k := by
  unfold g_note; simp only [px_up_at, h, and_false, if_false]; split <;> simp [px_up_at]
theorem g_notes_row {I : px_I} {r q : Nat} {bs : List Int32} (h : q ≠ 51) (h2 : q ≠ 53) : g_notes I r bs q = I q := by
  induction bs generalizing I r with
  | nil => rfl
  | cons b bs ih => rw [g_notes, ih, g_note_row h h2]
theorem g_notes_at {I : px_I} {r k : Nat} {bs : List Int32} (h : k ≠ 3) : g_notes I r bs 51 k = I 51 k := by
  induction bs generalizing I r with
  | nil => rfl
  | cons b bs ih => rw [g_notes, ih, g_note_at h]
theorem g_notes_at3 {I : px_I} {r : Nat} {bs : List Int32} (h : I 51 3 = nI r) : g_notes I r bs 51 3 = nI (r + bs.length) := by
  induction bs generalizing I r with
  | nil => exact h
  | cons b bs ih => rw [g_notes, ih g_note_at3]; congr 1; simp; omega
theorem g_notes_app {I : px_I} {r : Nat} {xs ys : List Int32} : g_notes I r (xs ++ ys) = g_notes (g_notes I r xs) (r + xs.length) ys := by
  induction xs generalizing I r with
  | nil => rfl
  | cons b bs ih => simp only [List.cons_append, g_notes, ih, List.length_cons]; congr 1; omega
theorem s_hold_k8 {a : Nat} : ∀ (f : Nat) (k : Int32), ¬ s_hold a f k < 0 → s_k8 (s_hold a f k) = true := by
  intro f
  induction f with
  | zero => intro k h; exact absurd (show (-1 : Int32) < 0 by decide) h
  | succ f ih =>
    intro k h
    unfold s_hold at h ⊢
    split
    · rename_i h8
      rw [if_pos h8] at h
      split
      · rename_i h0
        rw [if_pos h0] at h
        exact ih _ h
      · exact h8
    · rename_i h8
      rw [if_neg h8] at h
      exact absurd (show (-1 : Int32) < 0 by decide) h
/-- what a run owes, at fuel F -/
def a_run (l : Launch) (F : Nat) : Prop := ∀ (I : px_I) (J : px_J) (r d a sf : Nat) (fr x : Int32), d + F = 41 → a < 4 → sf < 50 → I 51 4 = nI sf → I 51 3 = nI r → r + (a_tr (I 52 sf) F fr a).length < 1000 → Ct l mX0_run (2 * F + 1) [.ref 51, .int fr, .int (nI a), .int x, .int (nI d)] I J (px_qi (a_vl (nI sf) (I 52 sf) F fr a x) (g_notes I r (a_tr (I 52 sf) F fr a)) J)
theorem c_X0_ask {l : Launch} {F : Nat} (hrun : a_run l F) {I : px_I} {J : px_J} {r d a sf : Nat} {x : Int32} (hd : d + 1 + F = 41) (ha : a < 4) (hs : sf < 50) (h4 : I 51 4 = nI sf) (h3 : I 51 3 = nI r) (hr : r + (a_tr (I 52 sf) F (I 52 sf) a).length < 1000) : Ct l mX0_ask (2 * F + 2) [.ref 51, .int (nI a), .int x, .int (nI d)] I J (px_qi (a_vl (nI sf) (I 52 sf) F (I 52 sf) a x) (g_notes I r (a_tr (I 52 sf) F (I 52 sf) a)) J) := by
  refine Ct.of plX0_ask (Nat.le_of_ble_eq_true rfl) [.ref 51, .int (nI a), .int x, .int (nI d)] rfl ?_
  refine V0_aload_n (pc := 0) dX0_ask_0 rfl ?_
  refine V0_aload_n (pc := 1) dX0_ask_1 rfl ?_
  refine V_getr (pc := 2) dX0_ask_2 flX0_11 rfl rfl ?_
  refine V0_aload_n (pc := 5) dX0_ask_5 rfl ?_
  refine V_geti (pc := 6) dX0_ask_6 flX0_38 rfl rfl ?_
  refine V_iald (pc := 9) sf dX0_ask_9 rfl h4 (by omega) ?_
  refine V0_iload_n (pc := 10) dX0_ask_10 rfl ?_
  refine V0_iload_n (pc := 11) dX0_ask_11 rfl ?_
  refine V0_iload_n (pc := 12) dX0_ask_12 rfl ?_
  refine V0_iconst (pc := 13) (1) dX0_ask_13 (by decide) ?_
  refine V0_iadd (pc := 14) dX0_ask_14 ?_
  rw [nI_1]
  have hc := hrun I J r (d + 1) a sf (I 52 sf) x hd ha hs h4 h3 hr
  refine V_callV (pc := 15) (M' := mX0_run) dX0_ask_15 mlX0_45 okX0_run rfl hc rfl rfl rfl rfl (px_hr (by omega) (by decide)) ⟨Nat.le_refl 0, Nat.le_refl 0⟩ (Nat.le_of_ble_eq_true rfl) ?_
  intro r1 I1 J1 hh
  obtain ⟨e1, e2, e3⟩ := hh
  rw [e1, e2, e3]
  clear e1 e2 e3 r1 I1 J1
  refine V_reti (pc := 18) _ dX0_ask_18 rfl ?_
  exact ⟨rfl, rfl, rfl⟩
set_option maxHeartbeats 8000000 in
theorem c_X0_run {l : Launch} : ∀ F, a_run l F := by
  intro F
  induction F with
  | zero =>
    intro I J r d a sf fr x hd ha hs h4 h3 hr
    obtain rfl : d = 41 := by omega
    refine Ct.of plX0_run (Nat.le_of_ble_eq_true rfl) [.ref 51, .int fr, .int (nI a), .int x, .int (nI 41), .null, .null, .null] rfl ?_
    refine V0_iload_n (pc := 0) dX0_run_0 rfl ?_
    refine V0_iload_n (pc := 1) dX0_run_1 rfl ?_
    refine V_callSi (pc := 2) (M' := mX0_holderFrom) dX0_run_2 mlX0_52 okX0_holderFrom rfl (c_X0_holderFrom rfl ha) rfl rfl (px_hr (by omega) (by decide)) ⟨Nat.le_refl 0, Nat.le_refl 0⟩ (Nat.le_of_ble_eq_true rfl) ?_
    refine V0_istore_5 (pc := 5) dX0_run_5 (by decide) rfl ?_
    refine V0_iload (pc := 7) dX0_run_7 rfl ?_
    refine V0_if_lt (pc := 9) 19 dX0_run_9 (by decide) (fun h9 => ?_) (fun h9 => ?_)
    · skip
      refine V0_iconst (pc := 19) (0) dX0_run_19 (by decide) ?_
      refine V_reti (pc := 20) _ dX0_run_20 rfl ?_
      exact ⟨rfl, rfl, rfl⟩
    · skip
      refine V0_iload (pc := 12) dX0_run_12 rfl ?_
      refine V0_bipush (pc := 14) (40) dX0_run_14 (by decide) ?_
      refine V1_icmp_le (pc := 16) 21 dX0_run_16 (by decide) (fun h16 => ?_) (fun h16 => ?_)
      · skip
        exact absurd (by decide) h16
      · skip
        refine V0_iconst (pc := 19) (0) dX0_run_19 (by decide) ?_
        refine V_reti (pc := 20) _ dX0_run_20 rfl ?_
        exact ⟨rfl, rfl, rfl⟩
  | succ F hrun =>
    intro I J r d a sf fr x hd ha hs h4 h3 hr
    have hd40 : ¬ (40 : Int32) < nI d := fun q => absurd ((qI_lt (a := 40) (b := d) (by omega) (by omega)).mp q) (by omega)
    refine Ct.of plX0_run (Nat.le_of_ble_eq_true rfl) [.ref 51, .int fr, .int (nI a), .int x, .int (nI d), .null, .null, .null] rfl ?_
    refine V0_iload_n (pc := 0) dX0_run_0 rfl ?_
    refine V0_iload_n (pc := 1) dX0_run_1 rfl ?_
    refine V_callSi (pc := 2) (M' := mX0_holderFrom) dX0_run_2 mlX0_52 okX0_holderFrom rfl (c_X0_holderFrom rfl ha) rfl rfl (px_hr (by omega) (by decide)) ⟨Nat.le_refl 0, Nat.le_refl 0⟩ (Nat.le_of_ble_eq_true rfl) ?_
    refine V0_istore_5 (pc := 5) dX0_run_5 (by decide) rfl ?_
    refine V0_iload (pc := 7) dX0_run_7 rfl ?_
    refine V0_if_lt (pc := 9) 19 dX0_run_9 (by decide) (fun h9 => ?_) (fun h9 => ?_)
    · skip
      refine V0_iconst (pc := 19) (0) dX0_run_19 (by decide) ?_
      refine V_reti (pc := 20) _ dX0_run_20 rfl ?_
      exact ⟨by rw [a_vl, if_pos h9], by rw [a_tr, if_pos h9]; rfl, rfl⟩
    · skip
      refine V0_iload (pc := 12) dX0_run_12 rfl ?_
      refine V0_bipush (pc := 14) (40) dX0_run_14 (by decide) ?_
      refine V1_icmp_le (pc := 16) 21 dX0_run_16 (by decide) (fun h16 => ?_) (fun h16 => ?_)
      · skip
        have hk := s_k8_ix (s_hold_k8 8 fr h9)
        refine V0_gets (pc := 21) 3 dX0_run_21 rfl fsX0_49 ?_
        refine V0_iload (pc := 24) dX0_run_24 rfl ?_
        refine V0_iconst (pc := 26) (4) dX0_run_26 (by decide) ?_
        refine V0_imul (pc := 27) dX0_run_27 ?_
        refine V0_iload_n (pc := 28) dX0_run_28 rfl ?_
        refine V0_iadd (pc := 29) dX0_run_29 ?_
        refine V_tald (pc := 30) (n := 32) (f := s_own) (ix (s_hold a 8 fr) * 4 + a) dX0_run_30 rfl (by decide) (by rw [← qI_add, ← qI_mul, ← hk.1]; rfl) (by omega) ?_
        refine V0_istore_6 (pc := 31) dX0_run_31 (by decide) rfl ?_
        refine V0_gets (pc := 33) 2 dX0_run_33 rfl fsX0_31 ?_
        refine V0_iload (pc := 36) dX0_run_36 rfl ?_
        refine V_tald (pc := 38) (n := 8) (f := s_above) (ix (s_hold a 8 fr)) dX0_run_38 rfl (by decide) hk.1 hk.2 ?_
        refine V0_istore_7 (pc := 39) dX0_run_39 (by decide) rfl ?_
        refine V0_aload_n (pc := 41) dX0_run_41 rfl ?_
        have hr0 : r < 1000 := by omega
        refine V0_iload (pc := 42) dX0_run_42 rfl ?_
        refine V_callV (pc := 44) (M' := mX0_note) dX0_run_44 mlX0_55 okX0_note rfl (c_X0_note h3 hr0) rfl rfl rfl rfl (px_hr (by omega) (by decide)) ⟨Nat.le_refl 0, Nat.le_refl 0⟩ (Nat.le_of_ble_eq_true rfl) ?_
        intro r1 I1 J1 hh
        obtain ⟨e1, e2, e3⟩ := hh
        rw [e1, e2, e3]
        clear e1 e2 e3 r1 I1 J1
        refine V0_iload (pc := 47) dX0_run_47 rfl ?_
        by_cases s49_0 : (s_own (ix (s_hold a 8 fr) * 4 + a)) = (1)
        · refine V_lookIn (pc := 49) (off := 123) (1) 172 dX0_run_49 s49_0 (by decide) (by decide) (by decide) ?_
          rw [s49_0]
          have eT : a_tr (I 52 sf) (F + 1) fr a = [1] := by rw [a_tr, if_neg h9, s49_0]; exact a_trc_1 _ _ _ _
          have eV : a_vl (nI sf) (I 52 sf) (F + 1) fr a x = x + nI sf := by rw [a_vl, if_neg h9, s49_0]; exact a_vlc_1 _ _ _ _ _ _
          rw [eT] at hr ⊢
          rw [eV]
          have hk52 : g_note I r 1 52 = I 52 := g_note_row (by decide) (by decide)
          simp only [List.length_cons, List.length_append, List.length_nil] at hr
          refine V0_iload_n (pc := 172) dX0_run_172 rfl ?_
          refine V0_aload_n (pc := 173) dX0_run_173 rfl ?_
          refine V_geti (pc := 174) dX0_run_174 flX0_38 rfl rfl ?_
          refine V0_iadd (pc := 177) dX0_run_177 ?_
          refine V_reti (pc := 178) _ dX0_run_178 rfl ?_
          rw [show g_note I r 1 51 4 = nI sf by rw [g_note_at (by decide), h4]]
          exact ⟨rfl, rfl, rfl⟩
        by_cases s49_1 : (s_own (ix (s_hold a 8 fr) * 4 + a)) = (2)
        · refine V_lookIn (pc := 49) (off := 130) (2) 179 dX0_run_49 s49_1 (by decide) (by decide) (by decide) ?_
          rw [s49_1]
          have eT : a_tr (I 52 sf) (F + 1) fr a = 2 :: (a_tr (I 52 sf) F (I 52 sf) 1 ++ a_tr (I 52 sf) F (I 52 sf) 2) := by rw [a_tr, if_neg h9, s49_1]; exact a_trc_2 _ _ _ _
          have eV : a_vl (nI sf) (I 52 sf) (F + 1) fr a x = a_vl (nI sf) (I 52 sf) F (I 52 sf) 1 x - a_vl (nI sf) (I 52 sf) F (I 52 sf) 2 1 := by rw [a_vl, if_neg h9, s49_1]; exact a_vlc_2 _ _ _ _ _ _
          rw [eT] at hr ⊢
          rw [eV]
          have hk52 : g_note I r 2 52 = I 52 := g_note_row (by decide) (by decide)
          simp only [List.length_cons, List.length_append, List.length_nil] at hr
          have hc := c_X0_ask hrun (I := g_note I r 2) (J := J) (r := r + 1) (d := d) (a := 1) (sf := sf) (x := x) (by omega) (by decide) hs (by rw [g_note_at (by decide), h4]) g_note_at3 (by rw [hk52]; omega)
          rw [hk52] at hc
          have hq52 : g_notes (g_note I r 2) (r + 1) (a_tr (I 52 sf) F (I 52 sf) 1) 52 = I 52 := by rw [g_notes_row (by decide) (by decide), hk52]
          have hc2 := c_X0_ask hrun (I := g_notes (g_note I r 2) (r + 1) (a_tr (I 52 sf) F (I 52 sf) 1)) (J := J) (r := r + 1 + ((a_tr (I 52 sf) F (I 52 sf) 1)).length) (d := d) (a := 2) (sf := sf) (x := 1) (by omega) (by decide) hs (by rw [g_notes_at (by decide), g_note_at (by decide), h4]) (g_notes_at3 g_note_at3) (by rw [hq52]; omega)
          rw [hq52] at hc2
          refine V0_aload_n (pc := 179) dX0_run_179 rfl ?_
          refine V0_iconst (pc := 180) (1) dX0_run_180 (by decide) ?_
          refine V0_iload_n (pc := 181) dX0_run_181 rfl ?_
          refine V0_iload (pc := 182) dX0_run_182 rfl ?_
          refine V_callV (pc := 184) (M' := mX0_ask) dX0_run_184 mlX0_41 okX0_ask rfl hc rfl rfl rfl rfl (px_hr (by omega) (by decide)) ⟨Nat.le_refl 0, Nat.le_refl 0⟩ (Nat.le_of_ble_eq_true rfl) ?_
          intro r1 I1 J1 hh
          obtain ⟨e1, e2, e3⟩ := hh
          rw [e1, e2, e3]
          clear e1 e2 e3 r1 I1 J1
          refine V0_aload_n (pc := 187) dX0_run_187 rfl ?_
          refine V0_iconst (pc := 188) (2) dX0_run_188 (by decide) ?_
          refine V0_iconst (pc := 189) (1) dX0_run_189 (by decide) ?_
          refine V0_iload (pc := 190) dX0_run_190 rfl ?_
          refine V_callV (pc := 192) (M' := mX0_ask) dX0_run_192 mlX0_41 okX0_ask rfl hc2 rfl rfl rfl rfl (px_hr (by omega) (by decide)) ⟨Nat.le_refl 0, Nat.le_refl 0⟩ (Nat.le_of_ble_eq_true rfl) ?_
          intro r1 I1 J1 hh
          obtain ⟨e1, e2, e3⟩ := hh
          rw [e1, e2, e3]
          clear e1 e2 e3 r1 I1 J1
          refine V0_isub (pc := 195) dX0_run_195 ?_
          refine V_reti (pc := 196) _ dX0_run_196 rfl ?_
          exact ⟨rfl, by simp [g_notes, g_notes_app], rfl⟩
        by_cases s49_2 : (s_own (ix (s_hold a 8 fr) * 4 + a)) = (10)
        · refine V_lookIn (pc := 49) (off := 148) (10) 197 dX0_run_49 s49_2 (by decide) (by decide) (by decide) ?_
          rw [s49_2]
          have eT : a_tr (I 52 sf) (F + 1) fr a = 10 :: a_tr (I 52 sf) F (I 52 sf) 0 := by rw [a_tr, if_neg h9, s49_2]; exact a_trc_10 _ _ _ _
          have eV : a_vl (nI sf) (I 52 sf) (F + 1) fr a x = a_vl (nI sf) (I 52 sf) F (I 52 sf) 0 x * 2 := by rw [a_vl, if_neg h9, s49_2]; exact a_vlc_10 _ _ _ _ _ _
          rw [eT] at hr ⊢
          rw [eV]
          have hk52 : g_note I r 10 52 = I 52 := g_note_row (by decide) (by decide)
          simp only [List.length_cons, List.length_append, List.length_nil] at hr
          have hc := c_X0_ask hrun (I := g_note I r 10) (J := J) (r := r + 1) (d := d) (a := 0) (sf := sf) (x := x) (by omega) (by decide) hs (by rw [g_note_at (by decide), h4]) g_note_at3 (by rw [hk52]; omega)
          rw [hk52] at hc
          refine V0_aload_n (pc := 197) dX0_run_197 rfl ?_
          refine V0_iconst (pc := 198) (0) dX0_run_198 (by decide) ?_
          refine V0_iload_n (pc := 199) dX0_run_199 rfl ?_
          refine V0_iload (pc := 200) dX0_run_200 rfl ?_
          refine V_callV (pc := 202) (M' := mX0_ask) dX0_run_202 mlX0_41 okX0_ask rfl hc rfl rfl rfl rfl (px_hr (by omega) (by decide)) ⟨Nat.le_refl 0, Nat.le_refl 0⟩ (Nat.le_of_ble_eq_true rfl) ?_
          intro r1 I1 J1 hh
          obtain ⟨e1, e2, e3⟩ := hh
          rw [e1, e2, e3]
          clear e1 e2 e3 r1 I1 J1
          refine V0_iconst (pc := 205) (2) dX0_run_205 (by decide) ?_
          refine V0_imul (pc := 206) dX0_run_206 ?_
          refine V_reti (pc := 207) _ dX0_run_207 rfl ?_
          exact ⟨rfl, by simp [g_notes, g_notes_app], rfl⟩
        by_cases s49_3 : (s_own (ix (s_hold a 8 fr) * 4 + a)) = (11)
        · refine V_lookIn (pc := 49) (off := 159) (11) 208 dX0_run_49 s49_3 (by decide) (by decide) (by decide) ?_
          rw [s49_3]
          have eT : a_tr (I 52 sf) (F + 1) fr a = [11] := by rw [a_tr, if_neg h9, s49_3]; exact a_trc_11 _ _ _ _
          have eV : a_vl (nI sf) (I 52 sf) (F + 1) fr a x = x ^^^ nI sf := by rw [a_vl, if_neg h9, s49_3]; exact a_vlc_11 _ _ _ _ _ _
          rw [eT] at hr ⊢
          rw [eV]
          have hk52 : g_note I r 11 52 = I 52 := g_note_row (by decide) (by decide)
          simp only [List.length_cons, List.length_append, List.length_nil] at hr
          refine V0_iload_n (pc := 208) dX0_run_208 rfl ?_
          refine V0_aload_n (pc := 209) dX0_run_209 rfl ?_
          refine V_geti (pc := 210) dX0_run_210 flX0_38 rfl rfl ?_
          refine V0_ixor (pc := 213) dX0_run_213 ?_
          refine V_reti (pc := 214) _ dX0_run_214 rfl ?_
          rw [show g_note I r 11 51 4 = nI sf by rw [g_note_at (by decide), h4]]
          exact ⟨rfl, rfl, rfl⟩
        by_cases s49_4 : (s_own (ix (s_hold a 8 fr) * 4 + a)) = (20)
        · refine V_lookIn (pc := 49) (off := 166) (20) 215 dX0_run_49 s49_4 (by decide) (by decide) (by decide) ?_
          rw [s49_4]
          have eT : a_tr (I 52 sf) (F + 1) fr a = 20 :: a_tr (I 52 sf) F (s_above (ix (s_hold a 8 fr))) a := by rw [a_tr, if_neg h9, s49_4]; exact a_trc_20 _ _ _ _
          have eV : a_vl (nI sf) (I 52 sf) (F + 1) fr a x = a_vl (nI sf) (I 52 sf) F (s_above (ix (s_hold a 8 fr))) a x + 3 := by rw [a_vl, if_neg h9, s49_4]; exact a_vlc_20 _ _ _ _ _ _
          rw [eT] at hr ⊢
          rw [eV]
          have hk52 : g_note I r 20 52 = I 52 := g_note_row (by decide) (by decide)
          simp only [List.length_cons, List.length_append, List.length_nil] at hr
          have hc := hrun (g_note I r 20) J (r + 1) (d + 1) a sf (s_above (ix (s_hold a 8 fr))) x (by omega) ha hs (by rw [g_note_at (by decide), h4]) g_note_at3 (by rw [hk52]; omega)
          rw [hk52] at hc
          refine V0_aload_n (pc := 215) dX0_run_215 rfl ?_
          refine V0_iload (pc := 216) dX0_run_216 rfl ?_
          refine V0_iload_n (pc := 218) dX0_run_218 rfl ?_
          refine V0_iload_n (pc := 219) dX0_run_219 rfl ?_
          refine V0_iload (pc := 220) dX0_run_220 rfl ?_
          refine V0_iconst (pc := 222) (1) dX0_run_222 (by decide) ?_
          refine V0_iadd (pc := 223) dX0_run_223 ?_
          rw [nI_1]
          refine V_callV (pc := 224) (M' := mX0_run) dX0_run_224 mlX0_45 okX0_run rfl hc rfl rfl rfl rfl (px_hr (by omega) (by decide)) ⟨Nat.le_refl 0, Nat.le_refl 0⟩ (Nat.le_of_ble_eq_true rfl) ?_
          intro r1 I1 J1 hh
          obtain ⟨e1, e2, e3⟩ := hh
          rw [e1, e2, e3]
          clear e1 e2 e3 r1 I1 J1
          refine V0_iconst (pc := 227) (3) dX0_run_227 (by decide) ?_
          refine V0_iadd (pc := 228) dX0_run_228 ?_
          refine V_reti (pc := 229) _ dX0_run_229 rfl ?_
          exact ⟨rfl, by simp [g_notes, g_notes_app], rfl⟩
        by_cases s49_5 : (s_own (ix (s_hold a 8 fr) * 4 + a)) = (30)
        · refine V_lookIn (pc := 49) (off := 181) (30) 230 dX0_run_49 s49_5 (by decide) (by decide) (by decide) ?_
          rw [s49_5]
          have eT : a_tr (I 52 sf) (F + 1) fr a = 30 :: a_tr (I 52 sf) F (s_above (ix (s_hold a 8 fr))) a := by rw [a_tr, if_neg h9, s49_5]; exact a_trc_30 _ _ _ _
          have eV : a_vl (nI sf) (I 52 sf) (F + 1) fr a x = -a_vl (nI sf) (I 52 sf) F (s_above (ix (s_hold a 8 fr))) a x := by rw [a_vl, if_neg h9, s49_5]; exact a_vlc_30 _ _ _ _ _ _
          rw [eT] at hr ⊢
          rw [eV]
          have hk52 : g_note I r 30 52 = I 52 := g_note_row (by decide) (by decide)
          simp only [List.length_cons, List.length_append, List.length_nil] at hr
          have hc := hrun (g_note I r 30) J (r + 1) (d + 1) a sf (s_above (ix (s_hold a 8 fr))) x (by omega) ha hs (by rw [g_note_at (by decide), h4]) g_note_at3 (by rw [hk52]; omega)
          rw [hk52] at hc
          refine V0_aload_n (pc := 230) dX0_run_230 rfl ?_
          refine V0_iload (pc := 231) dX0_run_231 rfl ?_
          refine V0_iload_n (pc := 233) dX0_run_233 rfl ?_
          refine V0_iload_n (pc := 234) dX0_run_234 rfl ?_
          refine V0_iload (pc := 235) dX0_run_235 rfl ?_
          refine V0_iconst (pc := 237) (1) dX0_run_237 (by decide) ?_
          refine V0_iadd (pc := 238) dX0_run_238 ?_
          rw [nI_1]
          refine V_callV (pc := 239) (M' := mX0_run) dX0_run_239 mlX0_45 okX0_run rfl hc rfl rfl rfl rfl (px_hr (by omega) (by decide)) ⟨Nat.le_refl 0, Nat.le_refl 0⟩ (Nat.le_of_ble_eq_true rfl) ?_
          intro r1 I1 J1 hh
          obtain ⟨e1, e2, e3⟩ := hh
          rw [e1, e2, e3]
          clear e1 e2 e3 r1 I1 J1
          refine V0_ineg (pc := 242) dX0_run_242 ?_
          refine V_reti (pc := 243) _ dX0_run_243 rfl ?_
          exact ⟨rfl, by simp [g_notes, g_notes_app], rfl⟩
        by_cases s49_6 : (s_own (ix (s_hold a 8 fr) * 4 + a)) = (40)
        · refine V_lookIn (pc := 49) (off := 195) (40) 244 dX0_run_49 s49_6 (by decide) (by decide) (by decide) ?_
          rw [s49_6]
          have eT : a_tr (I 52 sf) (F + 1) fr a = 40 :: a_tr (I 52 sf) F (s_above (ix (s_hold a 8 fr))) a := by rw [a_tr, if_neg h9, s49_6]; exact a_trc_40 _ _ _ _
          have eV : a_vl (nI sf) (I 52 sf) (F + 1) fr a x = a_vl (nI sf) (I 52 sf) F (s_above (ix (s_hold a 8 fr))) a x * 3 := by rw [a_vl, if_neg h9, s49_6]; exact a_vlc_40 _ _ _ _ _ _
          rw [eT] at hr ⊢
          rw [eV]
          have hk52 : g_note I r 40 52 = I 52 := g_note_row (by decide) (by decide)
          simp only [List.length_cons, List.length_append, List.length_nil] at hr
          have hc := hrun (g_note I r 40) J (r + 1) (d + 1) a sf (s_above (ix (s_hold a 8 fr))) x (by omega) ha hs (by rw [g_note_at (by decide), h4]) g_note_at3 (by rw [hk52]; omega)
          rw [hk52] at hc
          refine V0_aload_n (pc := 244) dX0_run_244 rfl ?_
          refine V0_iload (pc := 245) dX0_run_245 rfl ?_
          refine V0_iload_n (pc := 247) dX0_run_247 rfl ?_
          refine V0_iload_n (pc := 248) dX0_run_248 rfl ?_
          refine V0_iload (pc := 249) dX0_run_249 rfl ?_
          refine V0_iconst (pc := 251) (1) dX0_run_251 (by decide) ?_
          refine V0_iadd (pc := 252) dX0_run_252 ?_
          rw [nI_1]
          refine V_callV (pc := 253) (M' := mX0_run) dX0_run_253 mlX0_45 okX0_run rfl hc rfl rfl rfl rfl (px_hr (by omega) (by decide)) ⟨Nat.le_refl 0, Nat.le_refl 0⟩ (Nat.le_of_ble_eq_true rfl) ?_
          intro r1 I1 J1 hh
          obtain ⟨e1, e2, e3⟩ := hh
          rw [e1, e2, e3]
          clear e1 e2 e3 r1 I1 J1
          refine V0_iconst (pc := 256) (3) dX0_run_256 (by decide) ?_
          refine V0_imul (pc := 257) dX0_run_257 ?_
          refine V_reti (pc := 258) _ dX0_run_258 rfl ?_
          exact ⟨rfl, by simp [g_notes, g_notes_app], rfl⟩
        by_cases s49_7 : (s_own (ix (s_hold a 8 fr) * 4 + a)) = (41)
        · refine V_lookIn (pc := 49) (off := 210) (41) 259 dX0_run_49 s49_7 (by decide) (by decide) (by decide) ?_
          rw [s49_7]
          have eT : a_tr (I 52 sf) (F + 1) fr a = 41 :: a_tr (I 52 sf) F (s_above (ix (s_hold a 8 fr))) a := by rw [a_tr, if_neg h9, s49_7]; exact a_trc_41 _ _ _ _
          have eV : a_vl (nI sf) (I 52 sf) (F + 1) fr a x = a_vl (nI sf) (I 52 sf) F (s_above (ix (s_hold a 8 fr))) a (x + 1) := by rw [a_vl, if_neg h9, s49_7]; exact a_vlc_41 _ _ _ _ _ _
          rw [eT] at hr ⊢
          rw [eV]
          have hk52 : g_note I r 41 52 = I 52 := g_note_row (by decide) (by decide)
          simp only [List.length_cons, List.length_append, List.length_nil] at hr
          have hc := hrun (g_note I r 41) J (r + 1) (d + 1) a sf (s_above (ix (s_hold a 8 fr))) (x + 1) (by omega) ha hs (by rw [g_note_at (by decide), h4]) g_note_at3 (by rw [hk52]; omega)
          rw [hk52] at hc
          refine V0_aload_n (pc := 259) dX0_run_259 rfl ?_
          refine V0_iload (pc := 260) dX0_run_260 rfl ?_
          refine V0_iload_n (pc := 262) dX0_run_262 rfl ?_
          refine V0_iload_n (pc := 263) dX0_run_263 rfl ?_
          refine V0_iconst (pc := 264) (1) dX0_run_264 (by decide) ?_
          refine V0_iadd (pc := 265) dX0_run_265 ?_
          refine V0_iload (pc := 266) dX0_run_266 rfl ?_
          refine V0_iconst (pc := 268) (1) dX0_run_268 (by decide) ?_
          refine V0_iadd (pc := 269) dX0_run_269 ?_
          rw [nI_1]
          refine V_callV (pc := 270) (M' := mX0_run) dX0_run_270 mlX0_45 okX0_run rfl hc rfl rfl rfl rfl (px_hr (by omega) (by decide)) ⟨Nat.le_refl 0, Nat.le_refl 0⟩ (Nat.le_of_ble_eq_true rfl) ?_
          intro r1 I1 J1 hh
          obtain ⟨e1, e2, e3⟩ := hh
          rw [e1, e2, e3]
          clear e1 e2 e3 r1 I1 J1
          refine V_reti (pc := 273) _ dX0_run_273 rfl ?_
          exact ⟨rfl, by simp [g_notes, g_notes_app], rfl⟩
        by_cases s49_8 : (s_own (ix (s_hold a 8 fr) * 4 + a)) = (50)
        · refine V_lookIn (pc := 49) (off := 225) (50) 274 dX0_run_49 s49_8 (by decide) (by decide) (by decide) ?_
          rw [s49_8]
          have eT : a_tr (I 52 sf) (F + 1) fr a = 50 :: a_tr (I 52 sf) F (s_above (ix (s_hold a 8 fr))) a := by rw [a_tr, if_neg h9, s49_8]; exact a_trc_50 _ _ _ _
          have eV : a_vl (nI sf) (I 52 sf) (F + 1) fr a x = a_vl (nI sf) (I 52 sf) F (s_above (ix (s_hold a 8 fr))) a x ^^^ 5 := by rw [a_vl, if_neg h9, s49_8]; exact a_vlc_50 _ _ _ _ _ _
          rw [eT] at hr ⊢
          rw [eV]
          have hk52 : g_note I r 50 52 = I 52 := g_note_row (by decide) (by decide)
          simp only [List.length_cons, List.length_append, List.length_nil] at hr
          have hc := hrun (g_note I r 50) J (r + 1) (d + 1) a sf (s_above (ix (s_hold a 8 fr))) x (by omega) ha hs (by rw [g_note_at (by decide), h4]) g_note_at3 (by rw [hk52]; omega)
          rw [hk52] at hc
          refine V0_aload_n (pc := 274) dX0_run_274 rfl ?_
          refine V0_iload (pc := 275) dX0_run_275 rfl ?_
          refine V0_iload_n (pc := 277) dX0_run_277 rfl ?_
          refine V0_iload_n (pc := 278) dX0_run_278 rfl ?_
          refine V0_iload (pc := 279) dX0_run_279 rfl ?_
          refine V0_iconst (pc := 281) (1) dX0_run_281 (by decide) ?_
          refine V0_iadd (pc := 282) dX0_run_282 ?_
          rw [nI_1]
          refine V_callV (pc := 283) (M' := mX0_run) dX0_run_283 mlX0_45 okX0_run rfl hc rfl rfl rfl rfl (px_hr (by omega) (by decide)) ⟨Nat.le_refl 0, Nat.le_refl 0⟩ (Nat.le_of_ble_eq_true rfl) ?_
          intro r1 I1 J1 hh
          obtain ⟨e1, e2, e3⟩ := hh
          rw [e1, e2, e3]
          clear e1 e2 e3 r1 I1 J1
          refine V0_iconst (pc := 286) (5) dX0_run_286 (by decide) ?_
          refine V0_ixor (pc := 287) dX0_run_287 ?_
          refine V_reti (pc := 288) _ dX0_run_288 rfl ?_
          exact ⟨rfl, by simp [g_notes, g_notes_app], rfl⟩
        by_cases s49_9 : (s_own (ix (s_hold a 8 fr) * 4 + a)) = (60)
        · refine V_lookIn (pc := 49) (off := 240) (60) 289 dX0_run_49 s49_9 (by decide) (by decide) (by decide) ?_
          rw [s49_9]
          have eT : a_tr (I 52 sf) (F + 1) fr a = 60 :: (a_tr (I 52 sf) F (s_above (ix (s_hold a 8 fr))) a ++ a_tr (I 52 sf) F (I 52 sf) 0) := by rw [a_tr, if_neg h9, s49_9]; exact a_trc_60 _ _ _ _
          have eV : a_vl (nI sf) (I 52 sf) (F + 1) fr a x = a_vl (nI sf) (I 52 sf) F (s_above (ix (s_hold a 8 fr))) a x - a_vl (nI sf) (I 52 sf) F (I 52 sf) 0 2 := by rw [a_vl, if_neg h9, s49_9]; exact a_vlc_60 _ _ _ _ _ _
          rw [eT] at hr ⊢
          rw [eV]
          have hk52 : g_note I r 60 52 = I 52 := g_note_row (by decide) (by decide)
          simp only [List.length_cons, List.length_append, List.length_nil] at hr
          have hc := hrun (g_note I r 60) J (r + 1) (d + 1) a sf (s_above (ix (s_hold a 8 fr))) x (by omega) ha hs (by rw [g_note_at (by decide), h4]) g_note_at3 (by rw [hk52]; omega)
          rw [hk52] at hc
          have hq52 : g_notes (g_note I r 60) (r + 1) (a_tr (I 52 sf) F (s_above (ix (s_hold a 8 fr))) a) 52 = I 52 := by rw [g_notes_row (by decide) (by decide), hk52]
          have hc2 := c_X0_ask hrun (I := g_notes (g_note I r 60) (r + 1) (a_tr (I 52 sf) F (s_above (ix (s_hold a 8 fr))) a)) (J := J) (r := r + 1 + ((a_tr (I 52 sf) F (s_above (ix (s_hold a 8 fr))) a)).length) (d := d) (a := 0) (sf := sf) (x := 2) (by omega) (by decide) hs (by rw [g_notes_at (by decide), g_note_at (by decide), h4]) (g_notes_at3 g_note_at3) (by rw [hq52]; omega)
          rw [hq52] at hc2
          refine V0_aload_n (pc := 289) dX0_run_289 rfl ?_
          refine V0_iload (pc := 290) dX0_run_290 rfl ?_
          refine V0_iload_n (pc := 292) dX0_run_292 rfl ?_
          refine V0_iload_n (pc := 293) dX0_run_293 rfl ?_
          refine V0_iload (pc := 294) dX0_run_294 rfl ?_
          refine V0_iconst (pc := 296) (1) dX0_run_296 (by decide) ?_
          refine V0_iadd (pc := 297) dX0_run_297 ?_
          rw [nI_1]
          refine V_callV (pc := 298) (M' := mX0_run) dX0_run_298 mlX0_45 okX0_run rfl hc rfl rfl rfl rfl (px_hr (by omega) (by decide)) ⟨Nat.le_refl 0, Nat.le_refl 0⟩ (Nat.le_of_ble_eq_true rfl) ?_
          intro r1 I1 J1 hh
          obtain ⟨e1, e2, e3⟩ := hh
          rw [e1, e2, e3]
          clear e1 e2 e3 r1 I1 J1
          refine V0_aload_n (pc := 301) dX0_run_301 rfl ?_
          refine V0_iconst (pc := 302) (0) dX0_run_302 (by decide) ?_
          refine V0_iconst (pc := 303) (2) dX0_run_303 (by decide) ?_
          refine V0_iload (pc := 304) dX0_run_304 rfl ?_
          refine V_callV (pc := 306) (M' := mX0_ask) dX0_run_306 mlX0_41 okX0_ask rfl hc2 rfl rfl rfl rfl (px_hr (by omega) (by decide)) ⟨Nat.le_refl 0, Nat.le_refl 0⟩ (Nat.le_of_ble_eq_true rfl) ?_
          intro r1 I1 J1 hh
          obtain ⟨e1, e2, e3⟩ := hh
          rw [e1, e2, e3]
          clear e1 e2 e3 r1 I1 J1
          refine V0_isub (pc := 309) dX0_run_309 ?_
          refine V_reti (pc := 310) _ dX0_run_310 rfl ?_
          exact ⟨rfl, by simp [g_notes, g_notes_app], rfl⟩
        by_cases s49_10 : (s_own (ix (s_hold a 8 fr) * 4 + a)) = (61)
        · refine V_lookIn (pc := 49) (off := 262) (61) 311 dX0_run_49 s49_10 (by decide) (by decide) (by decide) ?_
          rw [s49_10]
          have eT : a_tr (I 52 sf) (F + 1) fr a = 61 :: a_tr (I 52 sf) F (s_above (ix (s_hold a 8 fr))) a := by rw [a_tr, if_neg h9, s49_10]; exact a_trc_61 _ _ _ _
          have eV : a_vl (nI sf) (I 52 sf) (F + 1) fr a x = a_vl (nI sf) (I 52 sf) F (s_above (ix (s_hold a 8 fr))) a x + 1 := by rw [a_vl, if_neg h9, s49_10]; exact a_vlc_61 _ _ _ _ _ _
          rw [eT] at hr ⊢
          rw [eV]
          have hk52 : g_note I r 61 52 = I 52 := g_note_row (by decide) (by decide)
          simp only [List.length_cons, List.length_append, List.length_nil] at hr
          have hc := hrun (g_note I r 61) J (r + 1) (d + 1) a sf (s_above (ix (s_hold a 8 fr))) x (by omega) ha hs (by rw [g_note_at (by decide), h4]) g_note_at3 (by rw [hk52]; omega)
          rw [hk52] at hc
          refine V0_aload_n (pc := 311) dX0_run_311 rfl ?_
          refine V0_iload (pc := 312) dX0_run_312 rfl ?_
          refine V0_iload_n (pc := 314) dX0_run_314 rfl ?_
          refine V0_iload_n (pc := 315) dX0_run_315 rfl ?_
          refine V0_iload (pc := 316) dX0_run_316 rfl ?_
          refine V0_iconst (pc := 318) (1) dX0_run_318 (by decide) ?_
          refine V0_iadd (pc := 319) dX0_run_319 ?_
          rw [nI_1]
          refine V_callV (pc := 320) (M' := mX0_run) dX0_run_320 mlX0_45 okX0_run rfl hc rfl rfl rfl rfl (px_hr (by omega) (by decide)) ⟨Nat.le_refl 0, Nat.le_refl 0⟩ (Nat.le_of_ble_eq_true rfl) ?_
          intro r1 I1 J1 hh
          obtain ⟨e1, e2, e3⟩ := hh
          rw [e1, e2, e3]
          clear e1 e2 e3 r1 I1 J1
          refine V0_iconst (pc := 323) (1) dX0_run_323 (by decide) ?_
          refine V0_iadd (pc := 324) dX0_run_324 ?_
          refine V_reti (pc := 325) _ dX0_run_325 rfl ?_
          exact ⟨rfl, by simp [g_notes, g_notes_app], rfl⟩
        by_cases s49_11 : (s_own (ix (s_hold a 8 fr) * 4 + a)) = (70)
        · refine V_lookIn (pc := 49) (off := 277) (70) 326 dX0_run_49 s49_11 (by decide) (by decide) (by decide) ?_
          rw [s49_11]
          have eT : a_tr (I 52 sf) (F + 1) fr a = 70 :: a_tr (I 52 sf) F (s_above (ix (s_hold a 8 fr))) a := by rw [a_tr, if_neg h9, s49_11]; exact a_trc_70 _ _ _ _
          have eV : a_vl (nI sf) (I 52 sf) (F + 1) fr a x = a_vl (nI sf) (I 52 sf) F (s_above (ix (s_hold a 8 fr))) a x * 2 := by rw [a_vl, if_neg h9, s49_11]; exact a_vlc_70 _ _ _ _ _ _
          rw [eT] at hr ⊢
          rw [eV]
          have hk52 : g_note I r 70 52 = I 52 := g_note_row (by decide) (by decide)
          simp only [List.length_cons, List.length_append, List.length_nil] at hr
          have hc := hrun (g_note I r 70) J (r + 1) (d + 1) a sf (s_above (ix (s_hold a 8 fr))) x (by omega) ha hs (by rw [g_note_at (by decide), h4]) g_note_at3 (by rw [hk52]; omega)
          rw [hk52] at hc
          refine V0_aload_n (pc := 326) dX0_run_326 rfl ?_
          refine V0_iload (pc := 327) dX0_run_327 rfl ?_
          refine V0_iload_n (pc := 329) dX0_run_329 rfl ?_
          refine V0_iload_n (pc := 330) dX0_run_330 rfl ?_
          refine V0_iload (pc := 331) dX0_run_331 rfl ?_
          refine V0_iconst (pc := 333) (1) dX0_run_333 (by decide) ?_
          refine V0_iadd (pc := 334) dX0_run_334 ?_
          rw [nI_1]
          refine V_callV (pc := 335) (M' := mX0_run) dX0_run_335 mlX0_45 okX0_run rfl hc rfl rfl rfl rfl (px_hr (by omega) (by decide)) ⟨Nat.le_refl 0, Nat.le_refl 0⟩ (Nat.le_of_ble_eq_true rfl) ?_
          intro r1 I1 J1 hh
          obtain ⟨e1, e2, e3⟩ := hh
          rw [e1, e2, e3]
          clear e1 e2 e3 r1 I1 J1
          refine V0_iconst (pc := 338) (2) dX0_run_338 (by decide) ?_
          refine V0_imul (pc := 339) dX0_run_339 ?_
          refine V_reti (pc := 340) _ dX0_run_340 rfl ?_
          exact ⟨rfl, by simp [g_notes, g_notes_app], rfl⟩
        by_cases s49_12 : (s_own (ix (s_hold a 8 fr) * 4 + a)) = (80)
        · refine V_lookIn (pc := 49) (off := 292) (80) 341 dX0_run_49 s49_12 (by decide) (by decide) (by decide) ?_
          rw [s49_12]
          have eT : a_tr (I 52 sf) (F + 1) fr a = 80 :: (a_tr (I 52 sf) F (s_above (ix (s_hold a 8 fr))) a ++ a_tr (I 52 sf) F (I 52 sf) 2) := by rw [a_tr, if_neg h9, s49_12]; exact a_trc_80 _ _ _ _
          have eV : a_vl (nI sf) (I 52 sf) (F + 1) fr a x = a_vl (nI sf) (I 52 sf) F (s_above (ix (s_hold a 8 fr))) a x + a_vl (nI sf) (I 52 sf) F (I 52 sf) 2 2 := by rw [a_vl, if_neg h9, s49_12]; exact a_vlc_80 _ _ _ _ _ _
          rw [eT] at hr ⊢
          rw [eV]
          have hk52 : g_note I r 80 52 = I 52 := g_note_row (by decide) (by decide)
          simp only [List.length_cons, List.length_append, List.length_nil] at hr
          have hc := hrun (g_note I r 80) J (r + 1) (d + 1) a sf (s_above (ix (s_hold a 8 fr))) x (by omega) ha hs (by rw [g_note_at (by decide), h4]) g_note_at3 (by rw [hk52]; omega)
          rw [hk52] at hc
          have hq52 : g_notes (g_note I r 80) (r + 1) (a_tr (I 52 sf) F (s_above (ix (s_hold a 8 fr))) a) 52 = I 52 := by rw [g_notes_row (by decide) (by decide), hk52]
          have hc2 := c_X0_ask hrun (I := g_notes (g_note I r 80) (r + 1) (a_tr (I 52 sf) F (s_above (ix (s_hold a 8 fr))) a)) (J := J) (r := r + 1 + ((a_tr (I 52 sf) F (s_above (ix (s_hold a 8 fr))) a)).length) (d := d) (a := 2) (sf := sf) (x := 2) (by omega) (by decide) hs (by rw [g_notes_at (by decide), g_note_at (by decide), h4]) (g_notes_at3 g_note_at3) (by rw [hq52]; omega)
          rw [hq52] at hc2
          refine V0_aload_n (pc := 341) dX0_run_341 rfl ?_
          refine V0_iload (pc := 342) dX0_run_342 rfl ?_
          refine V0_iload_n (pc := 344) dX0_run_344 rfl ?_
          refine V0_iload_n (pc := 345) dX0_run_345 rfl ?_
          refine V0_iload (pc := 346) dX0_run_346 rfl ?_
          refine V0_iconst (pc := 348) (1) dX0_run_348 (by decide) ?_
          refine V0_iadd (pc := 349) dX0_run_349 ?_
          rw [nI_1]
          refine V_callV (pc := 350) (M' := mX0_run) dX0_run_350 mlX0_45 okX0_run rfl hc rfl rfl rfl rfl (px_hr (by omega) (by decide)) ⟨Nat.le_refl 0, Nat.le_refl 0⟩ (Nat.le_of_ble_eq_true rfl) ?_
          intro r1 I1 J1 hh
          obtain ⟨e1, e2, e3⟩ := hh
          rw [e1, e2, e3]
          clear e1 e2 e3 r1 I1 J1
          refine V0_aload_n (pc := 353) dX0_run_353 rfl ?_
          refine V0_iconst (pc := 354) (2) dX0_run_354 (by decide) ?_
          refine V0_iconst (pc := 355) (2) dX0_run_355 (by decide) ?_
          refine V0_iload (pc := 356) dX0_run_356 rfl ?_
          refine V_callV (pc := 358) (M' := mX0_ask) dX0_run_358 mlX0_41 okX0_ask rfl hc2 rfl rfl rfl rfl (px_hr (by omega) (by decide)) ⟨Nat.le_refl 0, Nat.le_refl 0⟩ (Nat.le_of_ble_eq_true rfl) ?_
          intro r1 I1 J1 hh
          obtain ⟨e1, e2, e3⟩ := hh
          rw [e1, e2, e3]
          clear e1 e2 e3 r1 I1 J1
          refine V0_iadd (pc := 361) dX0_run_361 ?_
          refine V_reti (pc := 362) _ dX0_run_362 rfl ?_
          exact ⟨rfl, by simp [g_notes, g_notes_app], rfl⟩
        by_cases s49_13 : (s_own (ix (s_hold a 8 fr) * 4 + a)) = (81)
        · refine V_lookIn (pc := 49) (off := 314) (81) 363 dX0_run_49 s49_13 (by decide) (by decide) (by decide) ?_
          rw [s49_13]
          have eT : a_tr (I 52 sf) (F + 1) fr a = 81 :: a_tr (I 52 sf) F (s_above (ix (s_hold a 8 fr))) a := by rw [a_tr, if_neg h9, s49_13]; exact a_trc_81 _ _ _ _
          have eV : a_vl (nI sf) (I 52 sf) (F + 1) fr a x = a_vl (nI sf) (I 52 sf) F (s_above (ix (s_hold a 8 fr))) a x - 1 := by rw [a_vl, if_neg h9, s49_13]; exact a_vlc_81 _ _ _ _ _ _
          rw [eT] at hr ⊢
          rw [eV]
          have hk52 : g_note I r 81 52 = I 52 := g_note_row (by decide) (by decide)
          simp only [List.length_cons, List.length_append, List.length_nil] at hr
          have hc := hrun (g_note I r 81) J (r + 1) (d + 1) a sf (s_above (ix (s_hold a 8 fr))) x (by omega) ha hs (by rw [g_note_at (by decide), h4]) g_note_at3 (by rw [hk52]; omega)
          rw [hk52] at hc
          refine V0_aload_n (pc := 363) dX0_run_363 rfl ?_
          refine V0_iload (pc := 364) dX0_run_364 rfl ?_
          refine V0_iload_n (pc := 366) dX0_run_366 rfl ?_
          refine V0_iload_n (pc := 367) dX0_run_367 rfl ?_
          refine V0_iload (pc := 368) dX0_run_368 rfl ?_
          refine V0_iconst (pc := 370) (1) dX0_run_370 (by decide) ?_
          refine V0_iadd (pc := 371) dX0_run_371 ?_
          rw [nI_1]
          refine V_callV (pc := 372) (M' := mX0_run) dX0_run_372 mlX0_45 okX0_run rfl hc rfl rfl rfl rfl (px_hr (by omega) (by decide)) ⟨Nat.le_refl 0, Nat.le_refl 0⟩ (Nat.le_of_ble_eq_true rfl) ?_
          intro r1 I1 J1 hh
          obtain ⟨e1, e2, e3⟩ := hh
          rw [e1, e2, e3]
          clear e1 e2 e3 r1 I1 J1
          refine V0_iconst (pc := 375) (1) dX0_run_375 (by decide) ?_
          refine V0_isub (pc := 376) dX0_run_376 ?_
          refine V_reti (pc := 377) _ dX0_run_377 rfl ?_
          exact ⟨rfl, by simp [g_notes, g_notes_app], rfl⟩
        refine V0_lookup (pc := 49) (off := 329) 378 dX0_run_49 (by decide) (by show Op.lookupswitch.offset [(1, 123), (2, 130), (10, 148), (11, 159), (20, 166), (30, 181), (40, 195), (41, 210), (50, 225), (60, 240), (61, 262), (70, 277), (80, 292), (81, 314)] (329) ((s_own (ix (s_hold a 8 fr) * 4 + a))).toInt = 329; rw [lv_osw (a := 1) s49_0 rfl, lv_osw (a := 2) s49_1 rfl, lv_osw (a := 10) s49_2 rfl, lv_osw (a := 11) s49_3 rfl, lv_osw (a := 20) s49_4 rfl, lv_osw (a := 30) s49_5 rfl, lv_osw (a := 40) s49_6 rfl, lv_osw (a := 41) s49_7 rfl, lv_osw (a := 50) s49_8 rfl, lv_osw (a := 60) s49_9 rfl, lv_osw (a := 61) s49_10 rfl, lv_osw (a := 70) s49_11 rfl, lv_osw (a := 80) s49_12 rfl, lv_osw (a := 81) s49_13 rfl]; rfl) (by decide) ?_
        have eT : a_tr (I 52 sf) (F + 1) fr a = [(s_own (ix (s_hold a 8 fr) * 4 + a))] := by rw [a_tr, if_neg h9]; simp [a_trc, s49_0, s49_1, s49_2, s49_3, s49_4, s49_5, s49_6, s49_7, s49_8, s49_9, s49_10, s49_11, s49_12, s49_13]
        have eV : a_vl (nI sf) (I 52 sf) (F + 1) fr a x = 0 := by rw [a_vl, if_neg h9]; simp [a_vlc, s49_0, s49_1, s49_2, s49_3, s49_4, s49_5, s49_6, s49_7, s49_8, s49_9, s49_10, s49_11, s49_12, s49_13]
        rw [eT, eV]
        refine V0_iconst (pc := 378) (0) dX0_run_378 (by decide) ?_
        refine V_reti (pc := 379) _ dX0_run_379 rfl ?_
        exact ⟨rfl, rfl, rfl⟩
      · skip
        exact absurd h16 hd40

