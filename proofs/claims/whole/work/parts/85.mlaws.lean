/-! the Model: a law told -/
def m_mv2 (X : px_I) (r s o k : Nat) : px_I := fun p i => if (p = r ∨ p = s) ∧ i < k then X p (o + i) else X p i
theorem m_mv2_0 {X : px_I} {r s o : Nat} : m_mv2 X r s o 0 = X := by funext p i; simp only [m_mv2]; rw [if_neg (by omega)]
theorem m_mv2_row {X : px_I} {r s o k p : Nat} (h : p ≠ r) (h2 : p ≠ s) : m_mv2 X r s o k p = X p := by funext i; simp only [m_mv2]; rw [if_neg (by omega)]
theorem m_mv2_hi {X : px_I} {r s o k p i : Nat} (h : k ≤ i) : m_mv2 X r s o k p i = X p i := by simp only [m_mv2]; rw [if_neg (by omega)]
theorem m_mv2_lo {X : px_I} {r s o k p i : Nat} (h : p = r ∨ p = s) (hi : i < k) : m_mv2 X r s o k p i = X p (o + i) := by simp only [m_mv2]; rw [if_pos ⟨h, hi⟩]
theorem m_mv2_s {X : px_I} {r s o k : Nat} (h : r ≠ s) : px_up (px_up (m_mv2 X r s o k) r k (X r (o + k))) s k (X s (o + k)) = m_mv2 X r s o (k + 1) := by
  funext p i
  simp only [px_up_at, m_mv2]
  by_cases hi : i = k
  · subst hi
    by_cases hs : p = s
    · subst hs
      rw [if_pos ⟨rfl, rfl⟩, if_pos ⟨Or.inr rfl, by omega⟩]
    · rw [if_neg (fun q => hs q.1)]
      by_cases hr : p = r
      · subst hr
        rw [if_pos ⟨rfl, rfl⟩, if_pos ⟨Or.inl rfl, by omega⟩]
      · rw [if_neg (fun q => hr q.1), if_neg (by omega), if_neg (by omega)]
  · rw [if_neg (fun q => hi q.2), if_neg (fun q => hi q.2)]
    by_cases hq : (p = r ∨ p = s) ∧ i < k
    · rw [if_pos hq, if_pos ⟨hq.1, by omega⟩]
    · rw [if_neg hq, if_neg (fun q => hq ⟨q.1, by omega⟩)]
theorem m_130 (k : Nat) : (130 : Int32) + nI k = nI (130 + k) := by rw [show (130 : Int32) = nI 130 from rfl, qI_add]
theorem m_61 (k : Nat) : (61 : Int32) + nI k = nI (61 + k) := by rw [show (61 : Int32) = nI 61 from rfl, qI_add]
theorem l1_X12_read {l : Launch} {J : px_J} {Z : px_I} {K : Nat} {Q : px_Q} (hK : K ≤ 120) (h24 : Z 54 24 = nI K) (hb : ∀ j, j < K → vp_nar .byte (Z 70 (130 + j)) = Z 70 (130 + j)) (kk : V0 l (px_rm 45 0 0) mX12_readText (false, []) 0 0 163 [.ref 54, .int 0, .int (nI K)] [] (px_mk (m_mv2 Z 70 71 130 K) J) (px_q Q)) : ∀ (f k : Nat), k + f = K → V0 l (px_rm 45 0 0) mX12_readText (false, []) 0 0 105 [.ref 54, .int 0, .int (nI k)] [] (px_mk (m_mv2 Z 70 71 130 k) J) (px_q Q) := by
  intro f
  induction f with
  | zero =>
    intro k h1
    obtain rfl : k = K := by omega
    refine V0_iload_n (pc := 105) dX12_readText_105 rfl ?_
    refine V0_aload_n (pc := 106) dX12_readText_106 rfl ?_
    refine V_geti (pc := 107) dX12_readText_107 flX12_193 rfl rfl ?_
    rw [show m_mv2 Z 70 71 130 k 54 24 = nI k from (congrFun (m_mv2_row (by omega) (by omega)) 24).trans h24]
    refine V1_icmp_ge (pc := 110) 163 dX12_readText_110 (by decide) (fun h110 => ?_) (fun h110 => ?_)
    · skip
      exact kk
    · skip
      exact absurd ((qI_lt (a := k) (b := k) (by omega) (by omega)).mp h110) (by omega)
  | succ f ih =>
    intro k h1
    have hlt : nI k < nI K := (qI_lt (by omega) (by omega)).mpr (by omega)
    refine V0_iload_n (pc := 105) dX12_readText_105 rfl ?_
    refine V0_aload_n (pc := 106) dX12_readText_106 rfl ?_
    refine V_geti (pc := 107) dX12_readText_107 flX12_193 rfl rfl ?_
    rw [show m_mv2 Z 70 71 130 k 54 24 = nI K from (congrFun (m_mv2_row (by omega) (by omega)) 24).trans h24]
    refine V1_icmp_ge (pc := 110) 163 dX12_readText_110 (by decide) (fun h110 => ?_) (fun h110 => ?_)
    · skip
      exact absurd hlt h110
    · skip
      refine V0_aload_n (pc := 113) dX12_readText_113 rfl ?_
      refine V_getr (pc := 114) dX12_readText_114 flX12_56 rfl rfl ?_
      refine V0_sipush (pc := 117) (130) dX12_readText_117 (by decide) ?_
      refine V0_iload_n (pc := 120) dX12_readText_120 rfl ?_
      refine V0_imul (pc := 121) dX12_readText_121 ?_
      refine V0_iload_n (pc := 122) dX12_readText_122 rfl ?_
      refine V0_iadd (pc := 123) dX12_readText_123 ?_
      rw [m_e130]
      refine V0_aload_n (pc := 124) dX12_readText_124 rfl ?_
      refine V_getr (pc := 125) dX12_readText_125 flX12_56 rfl rfl ?_
      refine V0_sipush (pc := 128) (130) dX12_readText_128 (by decide) ?_
      refine V0_iload_n (pc := 131) dX12_readText_131 rfl ?_
      refine V0_iadd (pc := 132) dX12_readText_132 ?_
      rw [m_130]
      refine V_bald (pc := 133) (130 + k) dX12_readText_133 rfl rfl (by omega) ?_
      rw [m_mv2_hi (by omega)]
      refine V_bast (pc := 134) k dX12_readText_134 rfl rfl (by omega) ?_
      rw [hb k (by omega)]
      refine V0_aload_n (pc := 135) dX12_readText_135 rfl ?_
      refine V_getr (pc := 136) dX12_readText_136 flX12_59 rfl rfl ?_
      refine V0_sipush (pc := 139) (130) dX12_readText_139 (by decide) ?_
      refine V0_iload_n (pc := 142) dX12_readText_142 rfl ?_
      refine V0_imul (pc := 143) dX12_readText_143 ?_
      refine V0_iload_n (pc := 144) dX12_readText_144 rfl ?_
      refine V0_iadd (pc := 145) dX12_readText_145 ?_
      rw [m_e130]
      refine V0_aload_n (pc := 146) dX12_readText_146 rfl ?_
      refine V_getr (pc := 147) dX12_readText_147 flX12_59 rfl rfl ?_
      refine V0_sipush (pc := 150) (130) dX12_readText_150 (by decide) ?_
      refine V0_iload_n (pc := 153) dX12_readText_153 rfl ?_
      refine V0_iadd (pc := 154) dX12_readText_154 ?_
      rw [m_130]
      refine V_iald (pc := 155) (130 + k) dX12_readText_155 rfl rfl (by omega) ?_
      rw [show px_up (m_mv2 Z 70 71 130 k) 70 k (Z 70 (130 + k)) 71 (130 + k) = Z 71 (130 + k) from (congrFun (px_up_row (by omega)) _).trans (m_mv2_hi (by omega))]
      refine V_iast (pc := 156) k dX12_readText_156 rfl rfl (by omega) ?_
      refine V0_iinc_2 (pc := 157) (nI (k + 1)) dX12_readText_157 (by decide) rfl (nI_1 _) ?_
      refine V0_goto (pc := 160) 105 dX12_readText_160 (by decide) ?_
      rw [m_mv2_s (by omega)]
      exact ih (k + 1) (by omega)
theorem l2_X12_read {l : Launch} {J : px_J} {Z : px_I} {K : Nat} {Q : px_Q} (hK : K ≤ 61) (h72 : Z 72 0 = nI K) (hb : ∀ j, j < K → vp_nar .short (Z 73 (61 + j)) = Z 73 (61 + j) ∧ vp_nar .short (Z 74 (61 + j)) = Z 74 (61 + j)) (hQ : Q (some (.int (-1))) (m_mv2 Z 73 74 61 K) J) : ∀ (f k : Nat), k + f = K → V0 l (px_rm 45 0 0) mX12_readText (false, []) 0 0 177 [.ref 54, .int 0, .int (nI k)] [] (px_mk (m_mv2 Z 73 74 61 k) J) (px_q Q) := by
  intro f
  induction f with
  | zero =>
    intro k h1
    obtain rfl : k = K := by omega
    refine V0_iload_n (pc := 177) dX12_readText_177 rfl ?_
    refine V0_aload_n (pc := 178) dX12_readText_178 rfl ?_
    refine V_getr (pc := 179) dX12_readText_179 flX12_62 rfl rfl ?_
    refine V0_iload_n (pc := 182) dX12_readText_182 rfl ?_
    refine V_iald (pc := 183) 0 dX12_readText_183 rfl rfl (by omega) ?_
    rw [show m_mv2 Z 73 74 61 k 72 0 = nI k from (congrFun (m_mv2_row (by omega) (by omega)) 0).trans h72]
    refine V1_icmp_ge (pc := 184) 233 dX12_readText_184 (by decide) (fun h184 => ?_) (fun h184 => ?_)
    · skip
      refine V0_iconst (pc := 233) (-1) dX12_readText_233 (by decide) ?_
      refine V_reti (pc := 234) _ dX12_readText_234 rfl ?_
      exact hQ
    · skip
      exact absurd ((qI_lt (a := k) (b := k) (by omega) (by omega)).mp h184) (by omega)
  | succ f ih =>
    intro k h1
    have hlt : nI k < nI K := (qI_lt (by omega) (by omega)).mpr (by omega)
    refine V0_iload_n (pc := 177) dX12_readText_177 rfl ?_
    refine V0_aload_n (pc := 178) dX12_readText_178 rfl ?_
    refine V_getr (pc := 179) dX12_readText_179 flX12_62 rfl rfl ?_
    refine V0_iload_n (pc := 182) dX12_readText_182 rfl ?_
    refine V_iald (pc := 183) 0 dX12_readText_183 rfl rfl (by omega) ?_
    rw [show m_mv2 Z 73 74 61 k 72 0 = nI K from (congrFun (m_mv2_row (by omega) (by omega)) 0).trans h72]
    refine V1_icmp_ge (pc := 184) 233 dX12_readText_184 (by decide) (fun h184 => ?_) (fun h184 => ?_)
    · skip
      exact absurd hlt h184
    · skip
      refine V0_aload_n (pc := 187) dX12_readText_187 rfl ?_
      refine V_getr (pc := 188) dX12_readText_188 flX12_65 rfl rfl ?_
      refine V0_bipush (pc := 191) (61) dX12_readText_191 (by decide) ?_
      refine V0_iload_n (pc := 193) dX12_readText_193 rfl ?_
      refine V0_imul (pc := 194) dX12_readText_194 ?_
      refine V0_iload_n (pc := 195) dX12_readText_195 rfl ?_
      refine V0_iadd (pc := 196) dX12_readText_196 ?_
      rw [m_e61]
      refine V0_aload_n (pc := 197) dX12_readText_197 rfl ?_
      refine V_getr (pc := 198) dX12_readText_198 flX12_65 rfl rfl ?_
      refine V0_bipush (pc := 201) (61) dX12_readText_201 (by decide) ?_
      refine V0_iload_n (pc := 203) dX12_readText_203 rfl ?_
      refine V0_iadd (pc := 204) dX12_readText_204 ?_
      rw [m_61]
      refine V_sald (pc := 205) (61 + k) dX12_readText_205 rfl rfl (by omega) ?_
      rw [m_mv2_hi (by omega)]
      refine V_sast (pc := 206) k dX12_readText_206 rfl rfl (by omega) ?_
      rw [(hb k (by omega)).1]
      refine V0_aload_n (pc := 207) dX12_readText_207 rfl ?_
      refine V_getr (pc := 208) dX12_readText_208 flX12_69 rfl rfl ?_
      refine V0_bipush (pc := 211) (61) dX12_readText_211 (by decide) ?_
      refine V0_iload_n (pc := 213) dX12_readText_213 rfl ?_
      refine V0_imul (pc := 214) dX12_readText_214 ?_
      refine V0_iload_n (pc := 215) dX12_readText_215 rfl ?_
      refine V0_iadd (pc := 216) dX12_readText_216 ?_
      rw [m_e61]
      refine V0_aload_n (pc := 217) dX12_readText_217 rfl ?_
      refine V_getr (pc := 218) dX12_readText_218 flX12_69 rfl rfl ?_
      refine V0_bipush (pc := 221) (61) dX12_readText_221 (by decide) ?_
      refine V0_iload_n (pc := 223) dX12_readText_223 rfl ?_
      refine V0_iadd (pc := 224) dX12_readText_224 ?_
      rw [m_61]
      refine V_sald (pc := 225) (61 + k) dX12_readText_225 rfl rfl (by omega) ?_
      rw [show px_up (m_mv2 Z 73 74 61 k) 73 k (Z 73 (61 + k)) 74 (61 + k) = Z 74 (61 + k) from (congrFun (px_up_row (by omega)) _).trans (m_mv2_hi (by omega))]
      refine V_sast (pc := 226) k dX12_readText_226 rfl rfl (by omega) ?_
      rw [(hb k (by omega)).2]
      refine V0_iinc_2 (pc := 227) (nI (k + 1)) dX12_readText_227 (by decide) rfl (nI_1 _) ?_
      refine V0_goto (pc := 230) 177 dX12_readText_230 (by decide) ?_
      rw [m_mv2_s (by omega)]
      exact ih (k + 1) (by omega)
theorem act_byte {c : l_C} (h : m_cd c) : vp_nar .byte (m_act c.1) = m_act c.1 := by
  have ns : ∀ w : Int32, m_sign w = true → vp_nar .byte (m_act w) = m_act w := by
    intro w hw
    rcases m_sign_cases hw with e | e | e | e | e | e | e | e | e | e <;> subst e <;> decide
  rcases h with e | e | e | e | e
  · rw [e]; decide
  · rw [e.1]; decide
  · rw [e]; decide
  · rw [e]; decide
  · exact ns _ e
theorem m_code_byte {X : px_I} : ∀ (cs : List l_C) (i : Nat), m_code X i cs → ∀ j, i ≤ j → j < i + cs.length → vp_nar .byte (X 70 j) = X 70 j := by
  intro cs
  induction cs with
  | nil => intro i _ j h1 h2; simp at h2; omega
  | cons c cs ih =>
    intro i h j h1 h2
    simp only [List.length_cons] at h2
    by_cases e : j = i
    · subst e
      rw [h.1]
      exact act_byte h.2.2.1
    · exact ih (i + 1) h.2.2.2 j (by omega) (by omega)
theorem m_lns_byte {X : px_I} {b : Nat} : ∀ (Ls : List l_L) (l f : Nat), m_lns X b l f Ls → ∀ j, b + f ≤ j → j < b + f + m_len Ls → vp_nar .byte (X 70 j) = X 70 j := by
  intro Ls
  induction Ls with
  | nil => intro l f _ j h1 h2; simp only [m_len] at h2; omega
  | cons L Ls ih =>
    intro l f h j h1 h2
    simp only [m_len] at h2
    by_cases e : j < b + f + (L.1.length + L.2.length)
    · exact m_code_byte _ _ h.2.2.1 j h1 (by rw [List.length_append]; exact e)
    · exact ih _ _ h.2.2.2 j (by omega) (by omega)
theorem m_lns_short {X : px_I} {b : Nat} : ∀ (Ls : List l_L) (l f : Nat), f + m_len Ls < 200 → m_lns X b l f Ls → ∀ j, l ≤ j → j < l + Ls.length → vp_nar .short (X 73 j) = X 73 j ∧ vp_nar .short (X 74 j) = X 74 j := by
  intro Ls
  induction Ls with
  | nil => intro l f _ _ j h1 h2; simp at h2; omega
  | cons L Ls ih =>
    intro l f hf h j h1 h2
    simp only [List.length_cons] at h2
    simp only [m_len] at hf
    by_cases e : j = l
    · subst e
      rw [h.1, h.2.1]
      exact ⟨m_sh15 _ (by omega), m_sh15 _ (by omega)⟩
    · exact ih _ _ (by omega) h.2.2.2 j (by omega) (by omega)
theorem m_code_shift {X Y : px_I} {o K : Nat} (h : ∀ j, j < K → Y 70 j = X 70 (o + j) ∧ Y 71 j = X 71 (o + j)) : ∀ (cs : List l_C) (i : Nat), i + cs.length ≤ K → m_code X (o + i) cs → m_code Y i cs := by
  intro cs
  induction cs with
  | nil => intro i _ _; trivial
  | cons c cs ih =>
    intro i hk hc
    simp only [List.length_cons] at hk
    exact ⟨(h i (by omega)).1.trans hc.1, fun q => (h i (by omega)).2.trans (hc.2.1 q), hc.2.2.1, ih (i + 1) (by omega) hc.2.2.2⟩
theorem m_lns_shift {X Y : px_I} {K N : Nat} (h : ∀ j, j < K → Y 70 j = X 70 (130 + j) ∧ Y 71 j = X 71 (130 + j)) (h2 : ∀ j, j < N → Y 73 j = X 73 (61 + j) ∧ Y 74 j = X 74 (61 + j)) : ∀ (Ls : List l_L) (l f : Nat), l + Ls.length ≤ N → f + m_len Ls ≤ K → m_lns X 130 (61 + l) f Ls → m_lns Y 0 l f Ls := by
  intro Ls
  induction Ls with
  | nil => intro l f _ _ _; trivial
  | cons L Ls ih =>
    intro l f hl hf hx
    simp only [List.length_cons] at hl
    simp only [m_len] at hf
    refine ⟨(h2 l (by omega)).1.trans hx.1, (h2 l (by omega)).2.trans hx.2.1, ?_, ih (l + 1) _ (by omega) (by omega) hx.2.2.2⟩
    rw [Nat.zero_add]
    exact m_code_shift h _ f (by rw [List.length_append]; omega) hx.2.2.1
theorem m_lns_rng {X Y : px_I} (h : ∀ j, j < 130 → Y 70 j = X 70 j ∧ Y 71 j = X 71 j) (h2 : ∀ j, j < 61 → Y 73 j = X 73 j ∧ Y 74 j = X 74 j) : ∀ (Ls : List l_L) (l f : Nat), l + Ls.length ≤ 61 → f + m_len Ls ≤ 130 → m_lns X 0 l f Ls → m_lns Y 0 l f Ls := by
  intro Ls
  induction Ls with
  | nil => intro l f _ _ _; trivial
  | cons L Ls ih =>
    intro l f hl hf hx
    simp only [List.length_cons] at hl
    simp only [m_len] at hf
    exact ⟨(h2 l (by omega)).1.trans hx.1, (h2 l (by omega)).2.trans hx.2.1, m_code_rng _ _ 130 (by rw [List.length_append]; omega) h hx.2.2.1, ih (l + 1) _ (by omega) (by omega) hx.2.2.2⟩
/-- what telling a law leaves alone -/
def m_tl (I X : px_I) : Prop := (∀ q, q < 54 ∨ (54 < q ∧ q < 70) ∨ 74 < q → X q = I q) ∧ ∀ i, i < 20 ∨ (24 < i ∧ i ≠ 32) → X 54 i = I 54 i
def m_ini (I : px_I) : px_I := px_up (px_up (px_up (px_up (px_up I 54 21 0) 54 22 (-1)) 54 23 0) 54 24 0) 72 1 0
theorem m_ini_s {t : Nat → Int32} {n : Nat} {I : px_I} (h : I 54 20 = nI n) (hn : n ≤ 120) (ht : I 69 = t) : m_s t n 0 0 6 (m_ini I) := by
  refine ⟨h, hn, nI_0.symm, Nat.zero_le _, rfl, ⟨nI_0.symm, by omega⟩, ⟨nI_0.symm, Nat.le_refl 0⟩, ?_⟩
  unfold m_ini
  rw [px_up_row (by omega), px_up_row (by omega), px_up_row (by omega), px_up_row (by omega), px_up_row (by omega)]
  exact ht
theorem m_ini_fr {I : px_I} : (∀ q, q ≠ 54 → q ≠ 72 → m_ini I q = I q) ∧ (∀ i, i < 21 ∨ 24 < i → m_ini I 54 i = I 54 i) ∧ m_ini I 72 0 = I 72 0 := by
  refine ⟨fun q a b => ?_, fun i a => ?_, ?_⟩
  · unfold m_ini; rw [px_up_row b, px_up_row a, px_up_row a, px_up_row a, px_up_row a]
  · unfold m_ini; rw [px_up_row (by omega), px_up_ne (by omega), px_up_ne (by omega), px_up_ne (by omega), px_up_ne (by omega)]
  · unfold m_ini; rw [px_up_ne (by omega), px_up_row (by omega), px_up_row (by omega), px_up_row (by omega), px_up_row (by omega)]
theorem m_ini_lfr {I X : px_I} (h : m_lfr 0 0 (m_ini I) X) : (∀ q, q < 54 ∨ (54 < q ∧ q < 70) ∨ 74 < q → X q = I q) ∧ (∀ i, i < 21 ∨ 24 < i → X 54 i = I 54 i) ∧ (∀ j, j < 130 → X 70 j = I 70 j ∧ X 71 j = I 71 j) ∧ X 72 0 = I 72 0 ∧ (∀ j, j < 61 → X 73 j = I 73 j ∧ X 74 j = I 74 j) := by
  obtain ⟨a1, a2, a3⟩ := m_ini_fr (I := I)
  refine ⟨fun q z => (h.1 q (by omega) (by omega) (by omega) (by omega) (by omega) (by omega)).trans (a1 q (by omega) (by omega)), fun i z => (h.2.1 i z).trans (a2 i z), fun j z => ?_, h.2.2.2.1.trans a3, fun j z => ?_⟩
  · have := h.2.2.1 j (by omega)
    exact ⟨this.1.trans (congrFun (a1 70 (by omega) (by omega)) j), this.2.trans (congrFun (a1 71 (by omega) (by omega)) j)⟩
  · have := h.2.2.2.2 j (by omega)
    exact ⟨this.1.trans (congrFun (a1 73 (by omega) (by omega)) j), this.2.trans (congrFun (a1 74 (by omega) (by omega)) j)⟩
theorem c_X12_readOk {l : Launch} {I : px_I} {J : px_J} {t : Nat → Int32} {n : Nat} {Ls : List l_L} (h20 : I 54 20 = nI n) (hn : n ≤ 120) (ht : I 69 = t) (p : lw_ok t n Ls) : Ct l mX12_readText 45 [.ref 54, .int 0] I J (fun x I' J' => x = some (.int (-1)) ∧ J' = J ∧ m_tl I I' ∧ I' 54 20 = 0 ∧ m_lns I' 0 0 0 Ls ∧ I' 72 0 = nI Ls.length ∧ Ls.length ≤ 61 ∧ m_len Ls ≤ 129 ∧ (∀ L, L ∈ Ls → l_good L) ∧ Ls.isEmpty = false) := by
  obtain ⟨L, Lr, b, rfl, p1, p2⟩ := p
  have hs := m_ini_s h20 hn ht
  have hft := PLn.fit (B := t) (n := n) (k := 0) p1
  have hc := c_line_ok (l := l) (J := J) (q := 0) hs nI_0.symm (by omega) p1
  have fin : ∀ Y1, m_lok t n b 0 0 L (m_ini I) Y1 → V0 l (px_rm 45 0 0) mX12_readText (false, []) 0 0 31 [.ref 54, .int 0, .null] [] (px_mk Y1 J) (px_q (fun x I' J' => x = some (.int (-1)) ∧ J' = J ∧ m_tl I I' ∧ I' 54 20 = 0 ∧ m_lns I' 0 0 0 (L :: Lr) ∧ I' 72 0 = nI (L :: Lr).length ∧ (L :: Lr).length ≤ 61 ∧ m_len (L :: Lr) ≤ 129 ∧ (∀ M, M ∈ L :: Lr → l_good M) ∧ (L :: Lr).isEmpty = false)) := by
    rintro Y1 ⟨f1, s1, c1, r3, r4, r2⟩
    refine lp_read_ok Lr b (0 + L.1.length + L.2.length) 1 Y1 p2 s1 r2 (by omega) (fun Y g1 g2 g3 g4 g5 g6 => ?_)
    have hlines : m_lns Y 130 (61 + 0) 0 (L :: Lr) := ⟨(g1.2.2.2.2 _ (by omega)).1.trans r3, (g1.2.2.2.2 _ (by omega)).2.trans r4, m_code_rng _ _ (130 + (0 + L.1.length + L.2.length)) (by rw [List.length_append]; omega) g1.2.2.1 c1, g3⟩
    have hK : m_len (L :: Lr) ≤ 120 := by
      have := g2.2.2.2.2.2.2.1.2
      simp only [m_len]
      omega
    have hN : (L :: Lr).length ≤ 61 := by simp only [List.length_cons]; omega
    have h24 : Y 54 24 = nI (m_len (L :: Lr)) := by
      rw [g2.2.2.2.2.2.2.1.1]
      congr 1
      simp only [m_len]
      omega
    have h721 : Y 72 1 = nI (L :: Lr).length := by rw [g4, List.length_cons]; congr 1; omega
    obtain ⟨m1, m2, m3, m4, m5⟩ := m_ini_lfr (f1.tr g1 (by omega) (by omega))
    have e1 : ¬ nI n < nI n := fun q => absurd ((qI_lt (by omega) (by omega)).mp q) (by omega)
    have k2 := l2_X12_read (l := l) (J := J) (Z := px_up (m_mv2 (px_up Y 54 20 0) 70 71 130 (m_len (L :: Lr))) 72 0 (nI (L :: Lr).length)) (K := (L :: Lr).length) (Q := fun x I' J' => x = some (.int (-1)) ∧ J' = J ∧ m_tl I I' ∧ I' 54 20 = 0 ∧ m_lns I' 0 0 0 (L :: Lr) ∧ I' 72 0 = nI (L :: Lr).length ∧ (L :: Lr).length ≤ 61 ∧ m_len (L :: Lr) ≤ 129 ∧ (∀ M, M ∈ L :: Lr → l_good M) ∧ (L :: Lr).isEmpty = false) hN px_up_same (fun j hj => by
      rw [px_up_row (by omega), px_up_row (by omega), m_mv2_row (by omega) (by omega), m_mv2_row (by omega) (by omega), px_up_row (by omega), px_up_row (by omega)]
      exact m_lns_short _ _ _ (by omega) hlines (61 + j) (by omega) (by omega)) (by
      refine ⟨rfl, rfl, ⟨fun q z => ?_, fun i z => ?_⟩, ?_, ?_, ?_, hN, by omega, ?_, rfl⟩
      · rw [m_mv2_row (by omega) (by omega), px_up_row (by omega), m_mv2_row (by omega) (by omega), px_up_row (by omega)]
        exact m1 q z
      · rw [m_mv2_row (by omega) (by omega), px_up_row (by omega), m_mv2_row (by omega) (by omega), px_up_ne (by omega)]
        exact m2 i (by omega)
      · rw [m_mv2_row (by omega) (by omega), px_up_row (by omega), m_mv2_row (by omega) (by omega)]
        exact px_up_same
      · refine m_lns_shift (X := Y) (K := m_len (L :: Lr)) (N := (L :: Lr).length) (fun j hj => ⟨?_, ?_⟩) (fun j hj => ⟨?_, ?_⟩) _ 0 0 (by omega) (by omega) hlines
        · rw [m_mv2_row (by omega) (by omega), px_up_row (by omega), m_mv2_lo (Or.inl rfl) hj, px_up_row (by omega)]
        · rw [m_mv2_row (by omega) (by omega), px_up_row (by omega), m_mv2_lo (Or.inr rfl) hj, px_up_row (by omega)]
        · rw [m_mv2_lo (Or.inl rfl) hj, px_up_row (by omega), m_mv2_row (by omega) (by omega), px_up_row (by omega)]
        · rw [m_mv2_lo (Or.inr rfl) hj, px_up_row (by omega), m_mv2_row (by omega) (by omega), px_up_row (by omega)]
      · rw [m_mv2_row (by omega) (by omega)]
        exact px_up_same
      · intro M hM
        rcases List.mem_cons.mp hM with e | e
        · rw [e]; exact hft.2.2.2
        · exact g6 M e) (L :: Lr).length 0 (by omega)
    rw [m_mv2_0] at k2
    have kq : V0 l (px_rm 45 0 0) mX12_readText (false, []) 0 0 163 [.ref 54, .int 0, .int (nI (m_len (L :: Lr)))] [] (px_mk (m_mv2 (px_up Y 54 20 0) 70 71 130 (m_len (L :: Lr))) J) (px_q (fun x I' J' => x = some (.int (-1)) ∧ J' = J ∧ m_tl I I' ∧ I' 54 20 = 0 ∧ m_lns I' 0 0 0 (L :: Lr) ∧ I' 72 0 = nI (L :: Lr).length ∧ (L :: Lr).length ≤ 61 ∧ m_len (L :: Lr) ≤ 129 ∧ (∀ M, M ∈ L :: Lr → l_good M) ∧ (L :: Lr).isEmpty = false)) := by
      refine V0_aload_n (pc := 163) dX12_readText_163 rfl ?_
      refine V_getr (pc := 164) dX12_readText_164 flX12_62 rfl rfl ?_
      refine V0_iload_n (pc := 167) dX12_readText_167 rfl ?_
      refine V0_aload_n (pc := 168) dX12_readText_168 rfl ?_
      refine V_getr (pc := 169) dX12_readText_169 flX12_62 rfl rfl ?_
      refine V0_iconst (pc := 172) (1) dX12_readText_172 (by decide) ?_
      refine V_iald (pc := 173) 1 dX12_readText_173 rfl rfl (by omega) ?_
      rw [show m_mv2 (px_up Y 54 20 0) 70 71 130 (m_len (L :: Lr)) 72 1 = nI (L :: Lr).length from (congrFun (m_mv2_row (by omega) (by omega)) 1).trans ((congrFun (px_up_row (by omega)) 1).trans h721)]
      refine V_iast (pc := 174) 0 dX12_readText_174 rfl rfl (by omega) ?_
      refine V0_iconst (pc := 175) (0) dX12_readText_175 (by decide) ?_
      refine V0_istore_2 (pc := 176) dX12_readText_176 (by decide) rfl ?_
      exact k2
    have k1 := l1_X12_read (l := l) (J := J) (Z := px_up Y 54 20 0) (K := m_len (L :: Lr)) hK ((px_up_ne (by omega)).trans h24) (fun j hj => by
      rw [px_up_row (by omega)]
      exact m_lns_byte _ _ _ hlines (130 + j) (by omega) (by omega)) kq (m_len (L :: Lr)) 0 (by omega)
    rw [m_mv2_0] at k1
    refine V0_aload_n (pc := 64) dX12_readText_64 rfl ?_
    refine V_geti (pc := 65) dX12_readText_65 flX12_190 rfl rfl ?_
    rw [g2.2.2.2.2.1]
    refine V1_if_ge (pc := 68) 86 dX12_readText_68 (by decide) (fun h68 => ?_) (fun h68 => ?_)
    · skip
      exact absurd (by decide) h68
    · skip
      refine V0_aload_n (pc := 71) dX12_readText_71 rfl ?_
      refine V_geti (pc := 72) dX12_readText_72 flX12_187 rfl rfl ?_
      refine V0_aload_n (pc := 75) dX12_readText_75 rfl ?_
      refine V_geti (pc := 76) dX12_readText_76 flX12_184 rfl rfl ?_
      rw [g2.2.2.1, g2.1]
      refine V1_icmp_ge (pc := 79) 86 dX12_readText_79 (by decide) (fun h79 => ?_) (fun h79 => ?_)
      · skip
        refine V0_aload_n (pc := 86) dX12_readText_86 rfl ?_
        refine V0_iconst (pc := 87) (0) dX12_readText_87 (by decide) ?_
        refine V_puti (pc := 88) dX12_readText_88 flX12_184 rfl rfl ?_
        refine V0_aload_n (pc := 91) dX12_readText_91 rfl ?_
        refine V_geti (pc := 92) dX12_readText_92 flX12_190 rfl rfl ?_
        rw [show px_up Y 54 20 0 54 22 = -1 from (px_up_ne (by omega)).trans g2.2.2.2.2.1]
        refine V0_if_lt (pc := 95) 103 dX12_readText_95 (by decide) (fun h95 => ?_) (fun h95 => ?_)
        · skip
          refine V0_iconst (pc := 103) (0) dX12_readText_103 (by decide) ?_
          refine V0_istore_2 (pc := 104) dX12_readText_104 (by decide) rfl ?_
          exact k1
        · skip
          exact absurd (by decide) h95
      · skip
        exact absurd h79 e1
  refine Ct.of plX12_readText (Nat.le_of_ble_eq_true rfl) [.ref 54, .int 0, .null] rfl ?_
  refine V0_aload_n (pc := 0) dX12_readText_0 rfl ?_
  refine V0_iconst (pc := 1) (0) dX12_readText_1 (by decide) ?_
  refine V_puti (pc := 2) dX12_readText_2 flX12_187 rfl rfl ?_
  refine V0_aload_n (pc := 5) dX12_readText_5 rfl ?_
  refine V0_iconst (pc := 6) (-1) dX12_readText_6 (by decide) ?_
  refine V_puti (pc := 7) dX12_readText_7 flX12_190 rfl rfl ?_
  refine V0_aload_n (pc := 10) dX12_readText_10 rfl ?_
  refine V0_iconst (pc := 11) (0) dX12_readText_11 (by decide) ?_
  refine V_puti (pc := 12) dX12_readText_12 flX12_196 rfl rfl ?_
  refine V0_aload_n (pc := 15) dX12_readText_15 rfl ?_
  refine V0_iconst (pc := 16) (0) dX12_readText_16 (by decide) ?_
  refine V_puti (pc := 17) dX12_readText_17 flX12_193 rfl rfl ?_
  refine V0_aload_n (pc := 20) dX12_readText_20 rfl ?_
  refine V_getr (pc := 21) dX12_readText_21 flX12_62 rfl rfl ?_
  refine V0_iconst (pc := 24) (1) dX12_readText_24 (by decide) ?_
  refine V0_iconst (pc := 25) (0) dX12_readText_25 (by decide) ?_
  refine V_iast (pc := 26) 1 dX12_readText_26 rfl rfl (by omega) ?_
  refine V0_aload_n (pc := 27) dX12_readText_27 rfl ?_
  refine V_callV (pc := 28) (M' := mX12_line) dX12_readText_28 mlX12_239 okX12_line rfl hc rfl rfl rfl rfl (px_hr (by omega) (by decide)) ⟨Nat.le_refl 0, Nat.le_refl 0⟩ (Nat.le_of_ble_eq_true rfl) ?_
  intro r1 I1 J1 hh
  obtain ⟨e1, e3, ho⟩ := hh
  rw [e1, e3]
  clear e1 e3 r1 J1
  exact fin _ ho
theorem c_X12_readNo {l : Launch} {I : px_I} {J : px_J} {t : Nat → Int32} {n e : Nat} (h20 : I 54 20 = nI n) (hn : n ≤ 120) (ht : I 69 = t) (p : lw_bad t n e) : Ct l mX12_readText 45 [.ref 54, .int 0] I J (fun x I' J' => x = some (.int (nI e)) ∧ J' = J ∧ e ≤ 120 ∧ m_tl I I' ∧ I' 54 20 = 0 ∧ I' 54 32 = I 54 32 ∧ (∀ j, j < 130 → I' 70 j = I 70 j ∧ I' 71 j = I 71 j) ∧ I' 72 0 = I 72 0 ∧ (∀ j, j < 61 → I' 73 j = I 73 j ∧ I' 74 j = I 74 j)) := by
  have hs := m_ini_s h20 hn ht
  have fin : ∀ Y kk, m_lfr 0 0 (m_ini I) Y → m_d t n e kk Y → V0 l (px_rm 45 0 0) mX12_readText (false, []) 0 0 86 [.ref 54, .int 0, .null] [] (px_mk Y J) (px_q (fun x I' J' => x = some (.int (nI e)) ∧ J' = J ∧ e ≤ 120 ∧ m_tl I I' ∧ I' 54 20 = 0 ∧ I' 54 32 = I 54 32 ∧ (∀ j, j < 130 → I' 70 j = I 70 j ∧ I' 71 j = I 71 j) ∧ I' 72 0 = I 72 0 ∧ (∀ j, j < 61 → I' 73 j = I 73 j ∧ I' 74 j = I 74 j))) := by
    intro Y kk f1 hd
    have hn120 := hd.2.1
    have han := hd.2.2.2.1
    obtain ⟨m1, m2, m3, m4, m5⟩ := m_ini_lfr f1
    have h22 : px_up Y 54 20 0 54 22 = nI e := (px_up_ne (by omega)).trans hd.2.2.2.2.1
    refine V0_aload_n (pc := 86) dX12_readText_86 rfl ?_
    refine V0_iconst (pc := 87) (0) dX12_readText_87 (by decide) ?_
    refine V_puti (pc := 88) dX12_readText_88 flX12_184 rfl rfl ?_
    refine V0_aload_n (pc := 91) dX12_readText_91 rfl ?_
    refine V_geti (pc := 92) dX12_readText_92 flX12_190 rfl rfl ?_
    rw [h22]
    refine V0_if_lt (pc := 95) 103 dX12_readText_95 (by decide) (fun h95 => ?_) (fun h95 => ?_)
    · skip
      exact absurd h95 (nI_nn (by omega))
    · skip
      refine V0_aload_n (pc := 98) dX12_readText_98 rfl ?_
      refine V_geti (pc := 99) dX12_readText_99 flX12_190 rfl rfl ?_
      rw [h22]
      refine V_reti (pc := 102) _ dX12_readText_102 rfl ?_
      exact ⟨rfl, rfl, by omega, ⟨fun q z => (px_up_row (by omega)).trans (m1 q z), fun i z => (px_up_ne (by omega)).trans (m2 i (by omega))⟩, px_up_same, (px_up_ne (by omega)).trans (m2 32 (by omega)), fun j z => ⟨(congrFun (px_up_row (by omega)) j).trans (m3 j z).1, (congrFun (px_up_row (by omega)) j).trans (m3 j z).2⟩, (congrFun (px_up_row (by omega)) 0).trans m4, fun j z => ⟨(congrFun (px_up_row (by omega)) j).trans (m5 j z).1, (congrFun (px_up_row (by omega)) j).trans (m5 j z).2⟩⟩
  rcases p with p | ⟨L, b, m, p1, p2⟩
  · have hc := c_line_no (l := l) (J := J) (q := 0) hs nI_0.symm (by omega) p
    refine Ct.of plX12_readText (Nat.le_of_ble_eq_true rfl) [.ref 54, .int 0, .null] rfl ?_
    refine V0_aload_n (pc := 0) dX12_readText_0 rfl ?_
    refine V0_iconst (pc := 1) (0) dX12_readText_1 (by decide) ?_
    refine V_puti (pc := 2) dX12_readText_2 flX12_187 rfl rfl ?_
    refine V0_aload_n (pc := 5) dX12_readText_5 rfl ?_
    refine V0_iconst (pc := 6) (-1) dX12_readText_6 (by decide) ?_
    refine V_puti (pc := 7) dX12_readText_7 flX12_190 rfl rfl ?_
    refine V0_aload_n (pc := 10) dX12_readText_10 rfl ?_
    refine V0_iconst (pc := 11) (0) dX12_readText_11 (by decide) ?_
    refine V_puti (pc := 12) dX12_readText_12 flX12_196 rfl rfl ?_
    refine V0_aload_n (pc := 15) dX12_readText_15 rfl ?_
    refine V0_iconst (pc := 16) (0) dX12_readText_16 (by decide) ?_
    refine V_puti (pc := 17) dX12_readText_17 flX12_193 rfl rfl ?_
    refine V0_aload_n (pc := 20) dX12_readText_20 rfl ?_
    refine V_getr (pc := 21) dX12_readText_21 flX12_62 rfl rfl ?_
    refine V0_iconst (pc := 24) (1) dX12_readText_24 (by decide) ?_
    refine V0_iconst (pc := 25) (0) dX12_readText_25 (by decide) ?_
    refine V_iast (pc := 26) 1 dX12_readText_26 rfl rfl (by omega) ?_
    refine V0_aload_n (pc := 27) dX12_readText_27 rfl ?_
    refine V_callV (pc := 28) (M' := mX12_line) dX12_readText_28 mlX12_239 okX12_line rfl hc rfl rfl rfl rfl (px_hr (by omega) (by decide)) ⟨Nat.le_refl 0, Nat.le_refl 0⟩ (Nat.le_of_ble_eq_true rfl) ?_
    intro r1 I1 J1 hh
    obtain ⟨e1, e3, ho⟩ := hh
    rw [e1, e3]
    clear e1 e3 r1 J1
    obtain ⟨f1, k1, hd⟩ := ho
    exact W_rx hd (fin _ _ f1 hd)
  · have hft := PLn.fit (B := t) (n := n) (k := 0) p1
    have hc := c_line_ok (l := l) (J := J) (q := 0) hs nI_0.symm (by omega) p1
    refine Ct.of plX12_readText (Nat.le_of_ble_eq_true rfl) [.ref 54, .int 0, .null] rfl ?_
    refine V0_aload_n (pc := 0) dX12_readText_0 rfl ?_
    refine V0_iconst (pc := 1) (0) dX12_readText_1 (by decide) ?_
    refine V_puti (pc := 2) dX12_readText_2 flX12_187 rfl rfl ?_
    refine V0_aload_n (pc := 5) dX12_readText_5 rfl ?_
    refine V0_iconst (pc := 6) (-1) dX12_readText_6 (by decide) ?_
    refine V_puti (pc := 7) dX12_readText_7 flX12_190 rfl rfl ?_
    refine V0_aload_n (pc := 10) dX12_readText_10 rfl ?_
    refine V0_iconst (pc := 11) (0) dX12_readText_11 (by decide) ?_
    refine V_puti (pc := 12) dX12_readText_12 flX12_196 rfl rfl ?_
    refine V0_aload_n (pc := 15) dX12_readText_15 rfl ?_
    refine V0_iconst (pc := 16) (0) dX12_readText_16 (by decide) ?_
    refine V_puti (pc := 17) dX12_readText_17 flX12_193 rfl rfl ?_
    refine V0_aload_n (pc := 20) dX12_readText_20 rfl ?_
    refine V_getr (pc := 21) dX12_readText_21 flX12_62 rfl rfl ?_
    refine V0_iconst (pc := 24) (1) dX12_readText_24 (by decide) ?_
    refine V0_iconst (pc := 25) (0) dX12_readText_25 (by decide) ?_
    refine V_iast (pc := 26) 1 dX12_readText_26 rfl rfl (by omega) ?_
    refine V0_aload_n (pc := 27) dX12_readText_27 rfl ?_
    refine V_callV (pc := 28) (M' := mX12_line) dX12_readText_28 mlX12_239 okX12_line rfl hc rfl rfl rfl rfl (px_hr (by omega) (by decide)) ⟨Nat.le_refl 0, Nat.le_refl 0⟩ (Nat.le_of_ble_eq_true rfl) ?_
    intro r1 I1 J1 hh
    obtain ⟨e1, e3, ho⟩ := hh
    rw [e1, e3]
    clear e1 e3 r1 J1
    obtain ⟨f1, s1, c1, r3, r4, r2⟩ := ho
    exact lp_read_no m b _ 1 I1 p2 s1 r2 (by omega) (fun Y kk g1 g2 => fin Y kk (f1.tr g1 (by omega) (by omega)) g2)
theorem c_X12_lawOk {l : Launch} {I : px_I} {J : px_J} {t : Nat → Int32} {n : Nat} {Ls : List l_L} (h20 : I 54 20 = nI n) (hn : n ≤ 120) (ht : I 69 = t) (p : lw_ok t n Ls) : Ct l mX12_law 46 [.ref 54] I J (fun x I' J' => x = some (.int 1) ∧ J' = J ∧ m_tl I I' ∧ I' 54 20 = 0 ∧ m_law I' Ls) := by
  have hc := c_X12_readOk (l := l) (J := J) h20 hn ht p
  refine Ct.of plX12_law (Nat.le_of_ble_eq_true rfl) [.ref 54, .null] rfl ?_
  refine V0_aload_n (pc := 0) dX12_law_0 rfl ?_
  refine V0_iconst (pc := 1) (0) dX12_law_1 (by decide) ?_
  refine V_callV (pc := 2) (M' := mX12_readText) dX12_law_2 mlX12_248 okX12_readText rfl hc rfl rfl rfl rfl (px_hr (by omega) (by decide)) ⟨Nat.le_refl 0, Nat.le_refl 0⟩ (Nat.le_of_ble_eq_true rfl) ?_
  intro r1 I1 J1 hh
  obtain ⟨e1, e3, a1, a2, a3, a4, a5, a6, a7, a8⟩ := hh
  rw [e1, e3]
  clear e1 e3 r1 J1
  refine V0_istore_1 (pc := 5) dX12_law_5 (by decide) rfl ?_
  refine V0_iload_n (pc := 6) dX12_law_6 rfl ?_
  refine V0_if_lt (pc := 7) 15 dX12_law_7 (by decide) (fun h7 => ?_) (fun h7 => ?_)
  · skip
    refine V0_aload_n (pc := 15) dX12_law_15 rfl ?_
    refine V0_iconst (pc := 16) (1) dX12_law_16 (by decide) ?_
    refine V_putz (pc := 17) dX12_law_17 flX12_251 rfl rfl (Or.inr rfl) ?_
    refine V0_iconst (pc := 20) (1) dX12_law_20 (by decide) ?_
    refine V_reti (pc := 21) _ dX12_law_21 rfl ?_
    exact ⟨rfl, rfl, ⟨fun q z => (px_up_row (by omega)).trans (a1.1 q z), fun i z => (px_up_ne (by omega)).trans (a1.2 i z)⟩, (px_up_ne (by omega)).trans a2, m_lns_congr (px_up_row (by omega)) (px_up_row (by omega)) (px_up_row (by omega)) (px_up_row (by omega)) _ _ _ a3, (congrFun (px_up_row (by omega)) 0).trans a4, a5, a6, a7, by rw [px_up_same, a8]; rfl⟩
  · skip
    exact absurd (by decide) h7
theorem m_neg_e {e : Nat} (h : e ≤ 120) : ¬ nI e < 0 := nI_nn (by omega)
theorem c_X12_lawNo {l : Launch} {I : px_I} {J : px_J} {t : Nat → Int32} {n e : Nat} (h20 : I 54 20 = nI n) (hn : n ≤ 120) (ht : I 69 = t) (p : lw_bad t n e) : Ct l mX12_law 46 [.ref 54] I J (fun x I' J' => x = some (.int (-100 - nI e)) ∧ J' = J ∧ m_tl I I' ∧ I' 54 20 = 0 ∧ ∀ Ls, m_law I Ls → m_law I' Ls) := by
  have hc := c_X12_readNo (l := l) (J := J) h20 hn ht p
  refine Ct.of plX12_law (Nat.le_of_ble_eq_true rfl) [.ref 54, .null] rfl ?_
  refine V0_aload_n (pc := 0) dX12_law_0 rfl ?_
  refine V0_iconst (pc := 1) (0) dX12_law_1 (by decide) ?_
  refine V_callV (pc := 2) (M' := mX12_readText) dX12_law_2 mlX12_248 okX12_readText rfl hc rfl rfl rfl rfl (px_hr (by omega) (by decide)) ⟨Nat.le_refl 0, Nat.le_refl 0⟩ (Nat.le_of_ble_eq_true rfl) ?_
  intro r1 I1 J1 hh
  obtain ⟨e1, e3, a0, a1, a2, a3, a4, a5, a6⟩ := hh
  rw [e1, e3]
  clear e1 e3 r1 J1
  refine V0_istore_1 (pc := 5) dX12_law_5 (by decide) rfl ?_
  refine V0_iload_n (pc := 6) dX12_law_6 rfl ?_
  refine V0_if_lt (pc := 7) 15 dX12_law_7 (by decide) (fun h7 => ?_) (fun h7 => ?_)
  · skip
    exact absurd h7 (m_neg_e a0)
  · skip
    refine V0_bipush (pc := 10) (-100) dX12_law_10 (by decide) ?_
    refine V0_iload_n (pc := 12) dX12_law_12 rfl ?_
    refine V0_isub (pc := 13) dX12_law_13 ?_
    refine V_reti (pc := 14) _ dX12_law_14 rfl ?_
    exact ⟨rfl, rfl, a1, a2, fun Ls h => ⟨m_lns_rng a4 a6 Ls 0 0 (by have := h.2.2.1; omega) (by have := h.2.2.2.1; omega) h.1, a5.trans h.2.1, h.2.2.1, h.2.2.2.1, h.2.2.2.2.1, a3.trans h.2.2.2.2.2⟩⟩

