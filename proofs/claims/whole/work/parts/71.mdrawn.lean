/-! the Model: lanes by draws; a day in deed -/
theorem qI_remm {a m : Nat} (ha : a < 2 ^ 31) (h0 : 0 < m) (hm7 : m ≤ 7) : px_rem (nI a) (nI m) = nI (a % m) := by
  have h : m = 1 ∨ m = 2 ∨ m = 3 ∨ m = 4 ∨ m = 5 ∨ m = 6 ∨ m = 7 := by omega
  have hd : nI a / nI m = nI (a / m) := by
    rcases h with rfl | rfl | rfl | rfl | rfl | rfl | rfl <;> (apply Int32.toInt_inj.mp; rw [Int32.toInt_div_of_ne_right _ _ (by decide), nI_toInt ha, nI_toInt (by omega), nI_toInt (by omega)]; rw [Int.tdiv_eq_ediv_of_nonneg (by omega)]; omega)
  unfold px_rem
  rw [hd, qI_mul, qI_sub (Nat.div_mul_le_self a m)]
  congr 1
  rcases h with rfl | rfl | rfl | rfl | rfl | rfl | rfl <;> omega
theorem px_ushr_nn {z : Int32} (s : Nat) (h1 : 1 ≤ s) (h2 : s < 32) : ∃ a, a < 2 ^ 31 ∧ px_ushr z (nI s) = nI a := by
  have hb : bt (px_ushr z (nI s)) 31 = false := by unfold px_ushr; rw [bt_ushr s h2 z 31]; exact bt_big (by omega)
  refine ⟨(px_ushr z (nI s)).toBitVec.toNat, ?_, Int32.toBitVec_inj.mp (by show _ = BitVec.ofNat 32 _; simp)⟩
  have h3 : (px_ushr z (nI s)).toBitVec.msb = false := by rw [BitVec.msb_eq_getLsbD_last]; exact hb
  rw [BitVec.msb_eq_decide] at h3
  have := of_decide_eq_false h3
  omega
theorem m_who_ix {z : Int32} {m : Nat} (h0 : 0 < m) (hm7 : m ≤ 7) : px_rem (px_ushr z 8) (nI m) = nI (ix (px_rem (px_ushr z 8) (nI m))) ∧ ix (px_rem (px_ushr z 8) (nI m)) < m := by
  obtain ⟨a, ha, e⟩ := px_ushr_nn (z := z) 8 (by omega) (by omega)
  rw [show px_ushr z 8 = nI a from e, qI_remm ha h0 hm7]
  have h1 := Nat.mod_lt a h0
  rw [ix_nI (by omega)]
  exact ⟨rfl, h1⟩
def m_mvd (X : px_I) (m : Nat) (z mv : Int32) : px_I := if 0 < nI m ∧ px_rem (px_ushr z 24) 12 < mv then px_up X 77 (ix (px_rem (px_ushr z 8) (nI m))) (px_rem (px_ushr z 16) 12) else X
def m_di (m n : Nat) (mv : Int32) (s : Int32 × px_I) : Nat → Int32 × px_I
  | 0 => s
  | k + 1 => (z_next (m_di m n mv s k).1, m_day (m_mvd (m_di m n mv s k).2 m (z_next (m_di m n mv s k).1) mv) m n)
theorem m_sd_mvd {X : px_I} {m n : Nat} {z mv : Int32} (hm7 : m ≤ 7) : m_sd m n X (m_mvd X m z mv) := by
  unfold m_mvd
  split
  · rename_i h
    have h0 : 0 < m := px_lt (show nI 0 < nI m from h.1) (by omega) (by omega)
    exact m_sd_up77 (m_who_ix h0 hm7).2
  · exact m_sd_refl
theorem m_sd_di {m n : Nat} {mv : Int32} {s : Int32 × px_I} (hm7 : m ≤ 7) : ∀ k, m_sd m n s.2 (m_di m n mv s k).2 := by
  intro k
  induction k with
  | zero => exact m_sd_refl
  | succ k ih => exact (ih.tr (m_sd_mvd hm7)).tr m_sd_day
theorem lp_X12_drawIn {l : Launch} {S : px_I} {J : px_J} {m n days : Nat} {x joy z0 sum : Int32} {v1 v7 : Int32} {Q : px_Q} (hS : m_ok S m n) (hd : days ≤ 40) (kk : V0 l (px_rm 5 0 0) mX12_drawn (false, []) 0 0 162 [.ref 54, .int v1, .int x, .int joy, .int (nI days), .int (m_di m n (px_rem x 100) (z0, S) days).1, .int sum, .int v7, .int (nI days)] [] (px_mk (m_di m n (px_rem x 100) (z0, S) days).2 J) (px_q Q)) : ∀ (f k : Nat), k + f = days → V0 l (px_rm 5 0 0) mX12_drawn (false, []) 0 0 88 [.ref 54, .int v1, .int x, .int joy, .int (nI days), .int (m_di m n (px_rem x 100) (z0, S) k).1, .int sum, .int v7, .int (nI k)] [] (px_mk (m_di m n (px_rem x 100) (z0, S) k).2 J) (px_q Q) := by
  have hm7 := hS.2.1
  intro f
  induction f with
  | zero =>
    intro k h1
    obtain rfl : k = days := by omega
    refine V0_iload (pc := 88) dX12_drawn_88 rfl ?_
    refine V0_iload (pc := 90) dX12_drawn_90 rfl ?_
    refine V1_icmp_ge (pc := 92) 162 dX12_drawn_92 (by decide) (fun h92 => ?_) (fun h92 => ?_)
    · skip
      exact kk
    · skip
      exact absurd ((qI_lt (a := k) (b := k) (by omega) (by omega)).mp h92) (by omega)
  | succ f ih =>
    intro k h1
    have hlt : nI k < nI days := (qI_lt (by omega) (by omega)).mpr (by omega)
    have hX : m_ok (m_di m n (px_rem x 100) (z0, S) k).2 m n := (m_sd_di hm7 k).ok hS
    have hY : m_ok (m_mvd (m_di m n (px_rem x 100) (z0, S) k).2 m (z_next (m_di m n (px_rem x 100) (z0, S) k).1) (px_rem x 100)) m n := (m_sd_mvd hm7).ok hX
    refine V0_iload (pc := 88) dX12_drawn_88 rfl ?_
    refine V0_iload (pc := 90) dX12_drawn_90 rfl ?_
    refine V1_icmp_ge (pc := 92) 162 dX12_drawn_92 (by decide) (fun h92 => ?_) (fun h92 => ?_)
    · skip
      exact absurd hlt h92
    · skip
      refine V0_iload (pc := 95) dX12_drawn_95 rfl ?_
      refine V0_ldcw (pc := 97) dX12_drawn_97 csX12_364 ?_
      refine V0_imul (pc := 100) dX12_drawn_100 ?_
      refine V0_sipush (pc := 101) (12345) dX12_drawn_101 (by decide) ?_
      refine V0_iadd (pc := 104) dX12_drawn_104 ?_
      refine V0_istore_5 (pc := 105) dX12_drawn_105 (by decide) rfl ?_
      show V0 _ _ _ _ _ _ _ [.ref 54, .int v1, .int x, .int joy, .int (nI days), .int (z_next (m_di m n (px_rem x 100) (z0, S) k).1), .int sum, .int v7, .int (nI k)] _ _ _
      refine V0_aload_n (pc := 107) dX12_drawn_107 rfl ?_
      refine V_geti (pc := 108) dX12_drawn_108 flX12_128 rfl rfl ?_
      rw [hX.1]
      refine V1_if_le (pc := 111) 152 dX12_drawn_111 (by decide) (fun h111 => ?_) (fun h111 => ?_)
      · skip
        refine V_st (I' := m_mvd (m_di m n (px_rem x 100) (z0, S) k).2 m (z_next (m_di m n (px_rem x 100) (z0, S) k).1) (px_rem x 100)) rfl (by first | (rw [m_mvd, if_pos ⟨h111, h126⟩]; done) | (rw [m_mvd, if_neg (fun q => h111 q.1)]; done) | (rw [m_mvd, if_neg (fun q => h126 q.2)]; done)) ?_
        refine V0_aload_n (pc := 152) dX12_drawn_152 rfl ?_
        refine V_callV (pc := 153) (M' := mX12_goDay) dX12_drawn_153 mlX12_319 okX12_goDay rfl (c_X12_goDay hY) rfl rfl rfl rfl ⟨Nat.le_of_ble_eq_true rfl, Nat.le_of_ble_eq_true rfl⟩ ⟨Nat.le_refl 0, Nat.le_refl 0⟩ (Nat.le_of_ble_eq_true rfl) ?_
        intro r1 I1 J1 hh
        obtain ⟨e1, e2, e3⟩ := hh
        rw [e1, e2, e3]
        clear e1 e2 e3 r1 I1 J1
        refine V0_iinc_8 (pc := 156) (nI (k + 1)) dX12_drawn_156 (by decide) rfl (nI_1 _) ?_
        refine V0_goto (pc := 159) 88 dX12_drawn_159 (by decide) ?_
        exact ih (k + 1) (by omega)
      · skip
        have h0 : 0 < m := px_lt (show nI 0 < nI m from h111) (by omega) (by omega)
        refine V0_iload (pc := 114) dX12_drawn_114 rfl ?_
        refine V0_bipush (pc := 116) (24) dX12_drawn_116 (by decide) ?_
        refine V0_iushr (pc := 118) dX12_drawn_118 ?_
        refine V0_bipush (pc := 119) (12) dX12_drawn_119 (by decide) ?_
        refine V0_irem (pc := 121) dX12_drawn_121 (by decide) ?_
        refine V0_iload_n (pc := 122) dX12_drawn_122 rfl ?_
        refine V0_bipush (pc := 123) (100) dX12_drawn_123 (by decide) ?_
        refine V0_irem (pc := 125) dX12_drawn_125 (by decide) ?_
        refine V1_icmp_ge (pc := 126) 152 dX12_drawn_126 (by decide) (fun h126 => ?_) (fun h126 => ?_)
        · skip
          refine V_st (I' := m_mvd (m_di m n (px_rem x 100) (z0, S) k).2 m (z_next (m_di m n (px_rem x 100) (z0, S) k).1) (px_rem x 100)) rfl (by first | (rw [m_mvd, if_pos ⟨h111, h126⟩]; done) | (rw [m_mvd, if_neg (fun q => h111 q.1)]; done) | (rw [m_mvd, if_neg (fun q => h126 q.2)]; done)) ?_
          refine V0_aload_n (pc := 152) dX12_drawn_152 rfl ?_
          refine V_callV (pc := 153) (M' := mX12_goDay) dX12_drawn_153 mlX12_319 okX12_goDay rfl (c_X12_goDay hY) rfl rfl rfl rfl ⟨Nat.le_of_ble_eq_true rfl, Nat.le_of_ble_eq_true rfl⟩ ⟨Nat.le_refl 0, Nat.le_refl 0⟩ (Nat.le_of_ble_eq_true rfl) ?_
          intro r1 I1 J1 hh
          obtain ⟨e1, e2, e3⟩ := hh
          rw [e1, e2, e3]
          clear e1 e2 e3 r1 I1 J1
          refine V0_iinc_8 (pc := 156) (nI (k + 1)) dX12_drawn_156 (by decide) rfl (nI_1 _) ?_
          refine V0_goto (pc := 159) 88 dX12_drawn_159 (by decide) ?_
          exact ih (k + 1) (by omega)
        · skip
          refine V0_aload_n (pc := 129) dX12_drawn_129 rfl ?_
          refine V_getr (pc := 130) dX12_drawn_130 flX12_78 rfl rfl ?_
          refine V0_iload (pc := 133) dX12_drawn_133 rfl ?_
          refine V0_bipush (pc := 135) (8) dX12_drawn_135 (by decide) ?_
          refine V0_iushr (pc := 137) dX12_drawn_137 ?_
          refine V0_aload_n (pc := 138) dX12_drawn_138 rfl ?_
          refine V_geti (pc := 139) dX12_drawn_139 flX12_128 rfl rfl ?_
          rw [hX.1]
          refine V0_irem (pc := 142) dX12_drawn_142 (fun e => by rw [e] at h111; exact absurd h111 (by decide)) ?_
          refine V0_iload (pc := 143) dX12_drawn_143 rfl ?_
          refine V0_bipush (pc := 145) (16) dX12_drawn_145 (by decide) ?_
          refine V0_iushr (pc := 147) dX12_drawn_147 ?_
          refine V0_bipush (pc := 148) (12) dX12_drawn_148 (by decide) ?_
          refine V0_irem (pc := 150) dX12_drawn_150 (by decide) ?_
          refine V_iast (pc := 151) (ix (px_rem (px_ushr (z_next (m_di m n (px_rem x 100) (z0, S) k).1) 8) (nI m))) dX12_drawn_151 rfl (m_who_ix h0 hm7).1 (by have := (m_who_ix (z := z_next (m_di m n (px_rem x 100) (z0, S) k).1) h0 hm7).2; omega) ?_
          refine V_st (I' := m_mvd (m_di m n (px_rem x 100) (z0, S) k).2 m (z_next (m_di m n (px_rem x 100) (z0, S) k).1) (px_rem x 100)) rfl (by first | (rw [m_mvd, if_pos ⟨h111, h126⟩]; done) | (rw [m_mvd, if_neg (fun q => h111 q.1)]; done) | (rw [m_mvd, if_neg (fun q => h126 q.2)]; done)) ?_
          refine V0_aload_n (pc := 152) dX12_drawn_152 rfl ?_
          refine V_callV (pc := 153) (M' := mX12_goDay) dX12_drawn_153 mlX12_319 okX12_goDay rfl (c_X12_goDay hY) rfl rfl rfl rfl ⟨Nat.le_of_ble_eq_true rfl, Nat.le_of_ble_eq_true rfl⟩ ⟨Nat.le_refl 0, Nat.le_refl 0⟩ (Nat.le_of_ble_eq_true rfl) ?_
          intro r1 I1 J1 hh
          obtain ⟨e1, e2, e3⟩ := hh
          rw [e1, e2, e3]
          clear e1 e2 e3 r1 I1 J1
          refine V0_iinc_8 (pc := 156) (nI (k + 1)) dX12_drawn_156 (by decide) rfl (nI_1 _) ?_
          refine V0_goto (pc := 159) 88 dX12_drawn_159 (by decide) ?_
          exact ih (k + 1) (by omega)
def m_addn (X : px_I) (n : Nat) (joy : Int32) : Int32 := if joy < 0 then s_sum (m_had X) (X 60) n else b2 (m_had X (ix joy))
def m_dr (I : px_I) (m n days : Nat) (mv joy seed : Int32) : Nat → Int32 × Int32
  | 0 => (seed, 0)
  | i + 1 => ((m_di m n mv ((m_dr I m n days mv joy seed i).1, m_lay I m n) days).1, (m_dr I m n days mv joy seed i).2 + m_addn (m_di m n mv ((m_dr I m n days mv joy seed i).1, m_lay I m n) days).2 n joy)
theorem lp_X12_drawEnd {l : Launch} {T : px_I} {J : px_J} {m n : Nat} {v1 x joy v4 z sum v7 v8 : Int32} {Q : px_Q} (hT : m_ok T m n) (hj : ¬ joy < 0 → joy = nI (ix joy) ∧ ix joy < 10) (kk : V0 l (px_rm 5 0 0) mX12_drawn (false, []) 0 0 71 [.ref 54, .int v1, .int x, .int joy, .int v4, .int z, .int (sum + m_addn T n joy), .int (v7 + 1), .int v8] [] (px_mk T J) (px_q Q)) : V0 l (px_rm 5 0 0) mX12_drawn (false, []) 0 0 162 [.ref 54, .int v1, .int x, .int joy, .int v4, .int z, .int sum, .int v7, .int v8] [] (px_mk T J) (px_q Q) := by
  have hn10 := hT.2.2.2.1
  by_cases hh : joy < 0
  · skip
    refine V0_iload (pc := 162) dX12_drawn_162 rfl ?_
    refine V0_iload_n (pc := 164) dX12_drawn_164 rfl ?_
    refine V1_if_ge (pc := 165) 180 dX12_drawn_165 (by decide) (fun h165 => ?_) (fun h165 => ?_)
    · skip
      exact absurd hh h165
    · skip
      refine V0_aload_n (pc := 168) dX12_drawn_168 rfl ?_
      refine V0_aload_n (pc := 169) dX12_drawn_169 rfl ?_
      refine V0_iconst (pc := 170) (2) dX12_drawn_170 (by decide) ?_
      refine V_callVi (pc := 171) (M' := mX12_joysBy) dX12_drawn_171 mlX12_328 okX12_joysBy rfl (c_X12_joysBy hT.2.2.1 hn10) rfl rfl rfl rfl ⟨Nat.le_of_ble_eq_true rfl, Nat.le_of_ble_eq_true rfl⟩ ⟨Nat.le_refl 0, Nat.le_refl 0⟩ (Nat.le_of_ble_eq_true rfl) ?_
      refine V_callVi (pc := 174) (M' := mX12_worthsOf) dX12_drawn_174 mlX12_331 okX12_worthsOf rfl (c_X12_worthsOf hT.2.2.1 hn10) rfl rfl rfl rfl ⟨Nat.le_of_ble_eq_true rfl, Nat.le_of_ble_eq_true rfl⟩ ⟨Nat.le_refl 0, Nat.le_refl 0⟩ (Nat.le_of_ble_eq_true rfl) ?_
      refine V0_goto (pc := 177) 193 dX12_drawn_177 (by decide) ?_
      rw [m_in_2, s_worth_has (by omega), show s_sum (m_had T) (T 60) n = m_addn T n joy from by rw [m_addn, if_pos hh]]
      refine V0_iadd (pc := 193) dX12_drawn_193 ?_
      refine V0_istore_6 (pc := 194) dX12_drawn_194 (by decide) rfl ?_
      refine V0_iinc_7 (pc := 196) (v7 + 1) dX12_drawn_196 (by decide) rfl rfl ?_
      refine V0_goto (pc := 199) 71 dX12_drawn_199 (by decide) ?_
      exact kk
  · have hc := c_X12_isHad (l := l) (I := T) (J := J) (j := ix joy) (hj hh).2
    rw [← (hj hh).1] at hc
    refine V0_iload (pc := 162) dX12_drawn_162 rfl ?_
    refine V0_iload_n (pc := 164) dX12_drawn_164 rfl ?_
    refine V1_if_ge (pc := 165) 180 dX12_drawn_165 (by decide) (fun h165 => ?_) (fun h165 => ?_)
    · skip
      refine V0_aload_n (pc := 180) dX12_drawn_180 rfl ?_
      refine V0_iload_n (pc := 181) dX12_drawn_181 rfl ?_
      refine V_callVi (pc := 182) (M' := mX12_isHad) dX12_drawn_182 mlX12_289 okX12_isHad rfl hc rfl rfl rfl rfl ⟨Nat.le_of_ble_eq_true rfl, Nat.le_of_ble_eq_true rfl⟩ ⟨Nat.le_refl 0, Nat.le_refl 0⟩ (Nat.le_of_ble_eq_true rfl) ?_
      refine V_ifeqb (pc := 185) 192 dX12_drawn_185 (by decide) (fun h185 => ?_) (fun h185 => ?_)
      · skip
        refine V0_iconst (pc := 192) (0) dX12_drawn_192 (by decide) ?_
        refine V_topc (m_addn T n joy) (by rw [m_addn, if_neg hh, h185]; rfl) ?_
        refine V0_iadd (pc := 193) dX12_drawn_193 ?_
        refine V0_istore_6 (pc := 194) dX12_drawn_194 (by decide) rfl ?_
        refine V0_iinc_7 (pc := 196) (v7 + 1) dX12_drawn_196 (by decide) rfl rfl ?_
        refine V0_goto (pc := 199) 71 dX12_drawn_199 (by decide) ?_
        exact kk
      · skip
        refine V0_iconst (pc := 188) (1) dX12_drawn_188 (by decide) ?_
        refine V0_goto (pc := 189) 193 dX12_drawn_189 (by decide) ?_
        refine V_topc (m_addn T n joy) (by rw [m_addn, if_neg hh, h185]; rfl) ?_
        refine V0_iadd (pc := 193) dX12_drawn_193 ?_
        refine V0_istore_6 (pc := 194) dX12_drawn_194 (by decide) rfl ?_
        refine V0_iinc_7 (pc := 196) (v7 + 1) dX12_drawn_196 (by decide) rfl rfl ?_
        refine V0_goto (pc := 199) 71 dX12_drawn_199 (by decide) ?_
        exact kk
    · skip
      exact absurd h165 hh
theorem lp_X12_drawn {l : Launch} {I : px_I} {J : px_J} {m n days lanes : Nat} {v1 x joy : Int32} {Q : px_Q} (hk : m_ok I m n) (hx : x / 10000 = nI lanes) (hl : lanes ≤ 30) (hd : days ≤ 40) (hj : ¬ joy < 0 → joy = nI (ix joy) ∧ ix joy < 10) (hQ : ∀ X, m_sd m n I X → Q (some (.int (m_dr I m n days (px_rem x 100) joy v1 lanes).2)) X J) : ∀ (f i : Nat), i + f = lanes → ∀ (X : px_I) (v8 : Value), m_sd m n I X → V0 l (px_rm 5 0 0) mX12_drawn (false, []) 0 0 71 [.ref 54, .int v1, .int x, .int joy, .int (nI days), .int (m_dr I m n days (px_rem x 100) joy v1 i).1, .int (m_dr I m n days (px_rem x 100) joy v1 i).2, .int (nI i), v8] [] (px_mk X J) (px_q Q) := by
  have hm7 := hk.2.1
  intro f
  induction f with
  | zero =>
    intro i h1 X v8 hsd
    obtain rfl : i = lanes := by omega
    refine V0_iload (pc := 71) dX12_drawn_71 rfl ?_
    refine V0_iload_n (pc := 73) dX12_drawn_73 rfl ?_
    refine V0_sipush (pc := 74) (10000) dX12_drawn_74 (by decide) ?_
    refine V0_idiv (pc := 77) dX12_drawn_77 (by decide) ?_
    rw [hx]
    refine V1_icmp_ge (pc := 78) 202 dX12_drawn_78 (by decide) (fun h78 => ?_) (fun h78 => ?_)
    · skip
      refine V0_iload (pc := 202) dX12_drawn_202 rfl ?_
      refine V_reti (pc := 204) _ dX12_drawn_204 rfl ?_
      exact hQ _ hsd
    · skip
      exact absurd ((qI_lt (a := i) (b := i) (by omega) (by omega)).mp h78) (by omega)
  | succ f ih =>
    intro i h1 X v8 hsd
    have hlt : nI i < nI lanes := (qI_lt (by omega) (by omega)).mpr (by omega)
    have hsT : m_sd m n I (m_di m n (px_rem x 100) ((m_dr I m n days (px_rem x 100) joy v1 i).1, m_lay I m n) days).2 := m_sd_lay.tr (m_sd_di (s := ((m_dr I m n days (px_rem x 100) joy v1 i).1, m_lay I m n)) hm7 days)
    refine V0_iload (pc := 71) dX12_drawn_71 rfl ?_
    refine V0_iload_n (pc := 73) dX12_drawn_73 rfl ?_
    refine V0_sipush (pc := 74) (10000) dX12_drawn_74 (by decide) ?_
    refine V0_idiv (pc := 77) dX12_drawn_77 (by decide) ?_
    rw [hx]
    refine V1_icmp_ge (pc := 78) 202 dX12_drawn_78 (by decide) (fun h78 => ?_) (fun h78 => ?_)
    · skip
      exact absurd hlt h78
    · skip
      refine V0_aload_n (pc := 81) dX12_drawn_81 rfl ?_
      refine V_callV (pc := 82) (M' := mX12_layNow) dX12_drawn_82 mlX12_304 okX12_layNow rfl (c_X12_layNow (hsd.ok hk)) rfl rfl rfl rfl ⟨Nat.le_of_ble_eq_true rfl, Nat.le_of_ble_eq_true rfl⟩ ⟨Nat.le_refl 0, Nat.le_refl 0⟩ (Nat.le_of_ble_eq_true rfl) ?_
      intro r1 I1 J1 hh
      obtain ⟨e1, e2, e3⟩ := hh
      rw [e1, e2, e3]
      clear e1 e2 e3 r1 I1 J1
      rw [hsd.lay]
      refine V0_iconst (pc := 85) (0) dX12_drawn_85 (by decide) ?_
      refine V0_istore_8 (pc := 86) dX12_drawn_86 (by decide) rfl ?_
      refine lp_X12_drawIn (z0 := (m_dr I m n days (px_rem x 100) joy v1 i).1) (S := m_lay I m n) hk.lay hd ?_ days 0 (by omega)
      refine lp_X12_drawEnd (hsT.ok hk) hj ?_
      rw [nI_1]
      exact ih (i + 1) (by omega) _ _ hsT
theorem w_1ix {x b : Int32} {c : Nat} (hc : c < 1000000) (hb : b = nI c) (h : s_within x 1 b = true) : x = nI (ix x) ∧ ix x ≤ c := by
  subst hb
  simp only [s_within, Bool.and_eq_true, Bool.not_eq_true', decide_eq_false_iff_not] at h
  have h0 : ¬ x < 0 := by
    have q1 := h.1
    rw [Int32.lt_iff_toInt_lt] at q1
    rw [Int32.lt_iff_toInt_lt]
    have c1 : (1 : Int32).toInt = 1 := by decide
    have c0 : (0 : Int32).toInt = 0 := by decide
    omega
  have h2 := h.2
  rw [nI_ix h0] at h2
  have hx : x.toInt < 2 ^ 31 := Int32.toInt_lt x
  have hb : ix x < 2 ^ 31 := by show x.toInt.toNat < 2 ^ 31; omega
  exact ⟨nI_ix h0, px_ge h2 (by omega) hb⟩
def m_dg (I : px_I) (x y : Int32) : Prop := ¬ x < 0 ∧ s_within (x / 10000) 1 30 = true ∧ s_within (px_rem (x / 100) 100) 1 40 = true ∧ ¬ 12 < px_rem x 100 ∧ (y = -1 ∨ m_joy I y = true)
theorem c_X12_drawn {l : Launch} {I : px_I} {J : px_J} {sd x y : Int32} {m n : Nat} (hk : m_ok I m n) : Ct l mX12_drawn 5 [.ref 54, .int sd, .int x, .int y] I J (fun r I' J' => ((m_dg I x y ∧ r = some (.int (m_dr I m n (ix (px_rem (x / 100) 100)) (px_rem x 100) y sd (ix (x / 10000))).2)) ∨ (¬ m_dg I x y ∧ r = some (.int (-1)))) ∧ m_sd m n I I' ∧ J' = J) := by
  have hn10 := hk.2.2.2.1
  by_cases z : m_dg I x y
  · have w1 : x / 10000 = nI (ix (x / 10000)) ∧ ix (x / 10000) ≤ 30 := w_1ix (c := 30) (by omega) rfl z.2.1
    have w2 : px_rem (x / 100) 100 = nI (ix (px_rem (x / 100) 100)) ∧ ix (px_rem (x / 100) 100) ≤ 40 := w_1ix (c := 40) (by omega) rfl z.2.2.1
    have hj : ¬ y < 0 → y = nI (ix y) ∧ ix y < 10 := by
      intro hy
      rcases z.2.2.2.2 with e | e
      · exact absurd (show y < 0 by rw [e]; decide) hy
      · have := m_joy_ix hk.2.2.1 hn10 e
        exact ⟨this.1, by omega⟩
    have h := lp_X12_drawn (l := l) (I := I) (J := J) (v1 := sd) (Q := fun r I' J' => ((m_dg I x y ∧ r = some (.int (m_dr I m n (ix (px_rem (x / 100) 100)) (px_rem x 100) y sd (ix (x / 10000))).2)) ∨ (¬ m_dg I x y ∧ r = some (.int (-1)))) ∧ m_sd m n I I' ∧ J' = J) hk w1.1 w1.2 w2.2 hj (fun X hX => ⟨Or.inl ⟨z, rfl⟩, hX, rfl⟩) (ix (x / 10000)) 0 (by omega) I .null m_sd_refl
    rw [← w2.1] at h
    refine Ct.of plX12_drawn (Nat.le_of_ble_eq_true rfl) [.ref 54, .int sd, .int x, .int y, .null, .null, .null, .null, .null] rfl ?_
    refine V0_iload_n (pc := 0) dX12_drawn_0 rfl ?_
    refine V0_bipush (pc := 1) (100) dX12_drawn_1 (by decide) ?_
    refine V0_idiv (pc := 3) dX12_drawn_3 (by decide) ?_
    refine V0_bipush (pc := 4) (100) dX12_drawn_4 (by decide) ?_
    refine V0_irem (pc := 6) dX12_drawn_6 (by decide) ?_
    refine V0_istore_4 (pc := 7) dX12_drawn_7 (by decide) rfl ?_
    refine V0_iload_n (pc := 9) dX12_drawn_9 rfl ?_
    refine V0_if_lt (pc := 10) 60 dX12_drawn_10 (by decide) (fun h10 => ?_) (fun h10 => ?_)
    · skip
      exact absurd h10 z.1
    · skip
      refine V0_iload_n (pc := 13) dX12_drawn_13 rfl ?_
      refine V0_sipush (pc := 14) (10000) dX12_drawn_14 (by decide) ?_
      refine V0_idiv (pc := 17) dX12_drawn_17 (by decide) ?_
      refine V0_iconst (pc := 18) (1) dX12_drawn_18 (by decide) ?_
      refine V0_bipush (pc := 19) (30) dX12_drawn_19 (by decide) ?_
      refine V_callSi (pc := 21) (M' := mX12_in) dX12_drawn_21 mlX12_131 okX12_in rfl c_X12_in rfl rfl ⟨Nat.le_of_ble_eq_true rfl, Nat.le_of_ble_eq_true rfl⟩ ⟨Nat.le_refl 0, Nat.le_refl 0⟩ (Nat.le_of_ble_eq_true rfl) ?_
      refine V_ifeqb (pc := 24) 60 dX12_drawn_24 (by decide) (fun h24 => ?_) (fun h24 => ?_)
      · skip
        exact absurd (z.2.1.symm.trans (show s_within (x / 10000) 1 30 = false from h24)) (by decide)
      · skip
        refine V0_iload (pc := 27) dX12_drawn_27 rfl ?_
        refine V0_iconst (pc := 29) (1) dX12_drawn_29 (by decide) ?_
        refine V0_bipush (pc := 30) (40) dX12_drawn_30 (by decide) ?_
        refine V_callSi (pc := 32) (M' := mX12_in) dX12_drawn_32 mlX12_131 okX12_in rfl c_X12_in rfl rfl ⟨Nat.le_of_ble_eq_true rfl, Nat.le_of_ble_eq_true rfl⟩ ⟨Nat.le_refl 0, Nat.le_refl 0⟩ (Nat.le_of_ble_eq_true rfl) ?_
        refine V_ifeqb (pc := 35) 60 dX12_drawn_35 (by decide) (fun h35 => ?_) (fun h35 => ?_)
        · skip
          exact absurd (z.2.2.1.symm.trans (show s_within (px_rem (x / 100) 100) 1 40 = false from h35)) (by decide)
        · skip
          refine V0_iload_n (pc := 38) dX12_drawn_38 rfl ?_
          refine V0_bipush (pc := 39) (100) dX12_drawn_39 (by decide) ?_
          refine V0_irem (pc := 41) dX12_drawn_41 (by decide) ?_
          refine V0_bipush (pc := 42) (12) dX12_drawn_42 (by decide) ?_
          refine V0_icmp_gt (pc := 44) 60 dX12_drawn_44 (by decide) (fun h44 => ?_) (fun h44 => ?_)
          · skip
            exact absurd h44 z.2.2.2.1
          · skip
            refine V0_iload_n (pc := 47) dX12_drawn_47 rfl ?_
            refine V0_iconst (pc := 48) (-1) dX12_drawn_48 (by decide) ?_
            refine V0_icmp_eq (pc := 49) 62 dX12_drawn_49 (by decide) (fun h49 => ?_) (fun h49 => ?_)
            · skip
              refine V0_iload_n (pc := 62) dX12_drawn_62 rfl ?_
              refine V0_istore_5 (pc := 63) dX12_drawn_63 (by decide) rfl ?_
              refine V0_iconst (pc := 65) (0) dX12_drawn_65 (by decide) ?_
              refine V0_istore_6 (pc := 66) dX12_drawn_66 (by decide) rfl ?_
              refine V0_iconst (pc := 68) (0) dX12_drawn_68 (by decide) ?_
              refine V0_istore_7 (pc := 69) dX12_drawn_69 (by decide) rfl ?_
              exact h
            · skip
              refine V0_aload_n (pc := 52) dX12_drawn_52 rfl ?_
              refine V0_iload_n (pc := 53) dX12_drawn_53 rfl ?_
              refine V_callVi (pc := 54) (M' := mX12_isJoy) dX12_drawn_54 mlX12_168 okX12_isJoy rfl c_X12_isJoy rfl rfl rfl rfl ⟨Nat.le_of_ble_eq_true rfl, Nat.le_of_ble_eq_true rfl⟩ ⟨Nat.le_refl 0, Nat.le_refl 0⟩ (Nat.le_of_ble_eq_true rfl) ?_
              refine V_ifneb (pc := 57) 62 dX12_drawn_57 (by decide) (fun h57 => ?_) (fun h57 => ?_)
              · skip
                refine V0_iload_n (pc := 62) dX12_drawn_62 rfl ?_
                refine V0_istore_5 (pc := 63) dX12_drawn_63 (by decide) rfl ?_
                refine V0_iconst (pc := 65) (0) dX12_drawn_65 (by decide) ?_
                refine V0_istore_6 (pc := 66) dX12_drawn_66 (by decide) rfl ?_
                refine V0_iconst (pc := 68) (0) dX12_drawn_68 (by decide) ?_
                refine V0_istore_7 (pc := 69) dX12_drawn_69 (by decide) rfl ?_
                exact h
              · skip
                exact absurd z.2.2.2.2 (fun q => q.elim (fun e => h49 e) (fun e => absurd (e.symm.trans (show m_joy I y = false from h57)) (by decide)))
  · refine Ct.of plX12_drawn (Nat.le_of_ble_eq_true rfl) [.ref 54, .int sd, .int x, .int y, .null, .null, .null, .null, .null] rfl ?_
    refine V0_iload_n (pc := 0) dX12_drawn_0 rfl ?_
    refine V0_bipush (pc := 1) (100) dX12_drawn_1 (by decide) ?_
    refine V0_idiv (pc := 3) dX12_drawn_3 (by decide) ?_
    refine V0_bipush (pc := 4) (100) dX12_drawn_4 (by decide) ?_
    refine V0_irem (pc := 6) dX12_drawn_6 (by decide) ?_
    refine V0_istore_4 (pc := 7) dX12_drawn_7 (by decide) rfl ?_
    refine V0_iload_n (pc := 9) dX12_drawn_9 rfl ?_
    refine V0_if_lt (pc := 10) 60 dX12_drawn_10 (by decide) (fun h10 => ?_) (fun h10 => ?_)
    · skip
      refine V0_iconst (pc := 60) (-1) dX12_drawn_60 (by decide) ?_
      refine V_reti (pc := 61) _ dX12_drawn_61 rfl ?_
      exact ⟨Or.inr ⟨z, rfl⟩, m_sd_refl, rfl⟩
    · skip
      refine V0_iload_n (pc := 13) dX12_drawn_13 rfl ?_
      refine V0_sipush (pc := 14) (10000) dX12_drawn_14 (by decide) ?_
      refine V0_idiv (pc := 17) dX12_drawn_17 (by decide) ?_
      refine V0_iconst (pc := 18) (1) dX12_drawn_18 (by decide) ?_
      refine V0_bipush (pc := 19) (30) dX12_drawn_19 (by decide) ?_
      refine V_callSi (pc := 21) (M' := mX12_in) dX12_drawn_21 mlX12_131 okX12_in rfl c_X12_in rfl rfl ⟨Nat.le_of_ble_eq_true rfl, Nat.le_of_ble_eq_true rfl⟩ ⟨Nat.le_refl 0, Nat.le_refl 0⟩ (Nat.le_of_ble_eq_true rfl) ?_
      refine V_ifeqb (pc := 24) 60 dX12_drawn_24 (by decide) (fun h24 => ?_) (fun h24 => ?_)
      · skip
        refine V0_iconst (pc := 60) (-1) dX12_drawn_60 (by decide) ?_
        refine V_reti (pc := 61) _ dX12_drawn_61 rfl ?_
        exact ⟨Or.inr ⟨z, rfl⟩, m_sd_refl, rfl⟩
      · skip
        refine V0_iload (pc := 27) dX12_drawn_27 rfl ?_
        refine V0_iconst (pc := 29) (1) dX12_drawn_29 (by decide) ?_
        refine V0_bipush (pc := 30) (40) dX12_drawn_30 (by decide) ?_
        refine V_callSi (pc := 32) (M' := mX12_in) dX12_drawn_32 mlX12_131 okX12_in rfl c_X12_in rfl rfl ⟨Nat.le_of_ble_eq_true rfl, Nat.le_of_ble_eq_true rfl⟩ ⟨Nat.le_refl 0, Nat.le_refl 0⟩ (Nat.le_of_ble_eq_true rfl) ?_
        refine V_ifeqb (pc := 35) 60 dX12_drawn_35 (by decide) (fun h35 => ?_) (fun h35 => ?_)
        · skip
          refine V0_iconst (pc := 60) (-1) dX12_drawn_60 (by decide) ?_
          refine V_reti (pc := 61) _ dX12_drawn_61 rfl ?_
          exact ⟨Or.inr ⟨z, rfl⟩, m_sd_refl, rfl⟩
        · skip
          refine V0_iload_n (pc := 38) dX12_drawn_38 rfl ?_
          refine V0_bipush (pc := 39) (100) dX12_drawn_39 (by decide) ?_
          refine V0_irem (pc := 41) dX12_drawn_41 (by decide) ?_
          refine V0_bipush (pc := 42) (12) dX12_drawn_42 (by decide) ?_
          refine V0_icmp_gt (pc := 44) 60 dX12_drawn_44 (by decide) (fun h44 => ?_) (fun h44 => ?_)
          · skip
            refine V0_iconst (pc := 60) (-1) dX12_drawn_60 (by decide) ?_
            refine V_reti (pc := 61) _ dX12_drawn_61 rfl ?_
            exact ⟨Or.inr ⟨z, rfl⟩, m_sd_refl, rfl⟩
          · skip
            refine V0_iload_n (pc := 47) dX12_drawn_47 rfl ?_
            refine V0_iconst (pc := 48) (-1) dX12_drawn_48 (by decide) ?_
            refine V0_icmp_eq (pc := 49) 62 dX12_drawn_49 (by decide) (fun h49 => ?_) (fun h49 => ?_)
            · skip
              exact absurd ⟨h10, h24, h35, h44, Or.inl h49⟩ z
            · skip
              refine V0_aload_n (pc := 52) dX12_drawn_52 rfl ?_
              refine V0_iload_n (pc := 53) dX12_drawn_53 rfl ?_
              refine V_callVi (pc := 54) (M' := mX12_isJoy) dX12_drawn_54 mlX12_168 okX12_isJoy rfl c_X12_isJoy rfl rfl rfl rfl ⟨Nat.le_of_ble_eq_true rfl, Nat.le_of_ble_eq_true rfl⟩ ⟨Nat.le_refl 0, Nat.le_refl 0⟩ (Nat.le_of_ble_eq_true rfl) ?_
              refine V_ifneb (pc := 57) 62 dX12_drawn_57 (by decide) (fun h57 => ?_) (fun h57 => ?_)
              · skip
                exact absurd ⟨h10, h24, h35, h44, Or.inr h57⟩ z
              · skip
                refine V0_iconst (pc := 60) (-1) dX12_drawn_60 (by decide) ?_
                refine V_reti (pc := 61) _ dX12_drawn_61 rfl ?_
                exact ⟨Or.inr ⟨z, rfl⟩, m_sd_refl, rfl⟩

