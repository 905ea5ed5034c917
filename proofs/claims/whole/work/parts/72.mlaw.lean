/-! the Model: what a law gives -/
def m_sign (w : Int32) : Bool := decide (w = 37) || decide (w = 38) || decide (w = 42) || decide (w = 43) || decide (w = 45) || decide (w = 47) || decide (w = 60) || decide (w = 61) || decide (w = 62) || decide (w = 124)
theorem m_div1 (a : Int32) : a / -1 = -a := by
  apply Int32.toInt_inj.mp
  have c1 : (-1 : Int32).toInt = -1 := by decide
  rw [Int32.toInt_div, c1, Int.tdiv_neg, Int.tdiv_one, ← Int32.toInt_neg]
theorem m_rem1 (a : Int32) : px_rem a (-1) = 0 := by
  unfold px_rem
  rw [m_div1]
  grind
theorem m_sign_cases {w : Int32} (h : m_sign w = true) : w = 37 ∨ w = 38 ∨ w = 42 ∨ w = 43 ∨ w = 45 ∨ w = 47 ∨ w = 60 ∨ w = 61 ∨ w = 62 ∨ w = 124 := by
  simp only [m_sign, Bool.or_eq_true, decide_eq_true_eq, or_assoc] at h
  exact h
def m_two (w a b : Int32) : Int32 := if w = 37 then (if b = 0 ∨ b = -1 then 0 else px_rem a b) else if w = 38 then b2 (!decide (a = 0) && !decide (b = 0)) else if w = 42 then a * b else if w = 43 then a + b else if w = 45 then a - b else if w = 47 then (if b = 0 then 0 else if b = -1 then -a else a / b) else if w = 60 then b2 (decide (a < b)) else if w = 61 then b2 (decide (a = b)) else if w = 62 then b2 (decide (b < a)) else b2 (!decide (a = 0) || !decide (b = 0))
theorem m_two_join {w a b : Int32} (h : m_sign w = true) : m_two w a b = s_join w a b := by
  rcases m_sign_cases h with e | e | e | e | e | e | e | e | e | e <;> subst e <;> simp only [m_two, s_join]
  · simp
    by_cases h0 : b = 0
    · simp [h0]
    · by_cases h1 : b = -1
      · simp [h1, m_rem1]
      · simp [h0, h1]
  · simp
  · simp
  · simp
  · simp
  · simp
    by_cases h0 : b = 0
    · simp [h0]
    · by_cases h1 : b = -1
      · simp [h1, m_div1]
      · simp [h0, h1]
  · simp
  · simp
  · simp
  · simp
theorem c_X12_twoOf {l : Launch} {I : px_I} {J : px_J} {w a b : Int32} : CtI l mX12_twoOf 0 [.int w, .int a, .int b] I J (m_two w a b) := by
  refine Ct.of plX12_twoOf (Nat.le_of_ble_eq_true rfl) [.int w, .int a, .int b] rfl ?_
  refine V0_iload_n (pc := 0) dX12_twoOf_0 rfl ?_
  by_cases s1_0 : w = (37)
  · refine V_tabIn (pc := 1) (off := 153) (37) 154 dX12_twoOf_1 s1_0 (by decide) (by decide) (by decide) (by decide) ?_
    refine V0_iload_n (pc := 154) dX12_twoOf_154 rfl ?_
    refine V0_if_eq (pc := 155) 163 dX12_twoOf_155 (by decide) (fun h155 => ?_) (fun h155 => ?_)
    · skip
      refine V0_iconst (pc := 163) (0) dX12_twoOf_163 (by decide) ?_
      refine V0_goto (pc := 164) 170 dX12_twoOf_164 (by decide) ?_
      refine V_reti (pc := 170) _ dX12_twoOf_170 rfl ?_
      refine px_li ?_
      simp [m_two, b2, *]
    · skip
      refine V0_iload_n (pc := 158) dX12_twoOf_158 rfl ?_
      refine V0_iconst (pc := 159) (-1) dX12_twoOf_159 (by decide) ?_
      refine V0_icmp_ne (pc := 160) 167 dX12_twoOf_160 (by decide) (fun h160 => ?_) (fun h160 => ?_)
      · skip
        refine V0_iload_n (pc := 167) dX12_twoOf_167 rfl ?_
        refine V0_iload_n (pc := 168) dX12_twoOf_168 rfl ?_
        refine V0_irem (pc := 169) dX12_twoOf_169 h155 ?_
        refine V_reti (pc := 170) _ dX12_twoOf_170 rfl ?_
        refine px_li ?_
        simp [m_two, b2, *]
      · skip
        refine V0_iconst (pc := 163) (0) dX12_twoOf_163 (by decide) ?_
        refine V0_goto (pc := 164) 170 dX12_twoOf_164 (by decide) ?_
        refine V_reti (pc := 170) _ dX12_twoOf_170 rfl ?_
        refine px_li ?_
        simp [m_two, b2, *]
  by_cases s1_1 : w = (38)
  · refine V_tabIn (pc := 1) (off := 203) (38) 204 dX12_twoOf_1 s1_1 (by decide) (by decide) (by decide) (by decide) ?_
    refine V0_iload_n (pc := 204) dX12_twoOf_204 rfl ?_
    refine V0_if_eq (pc := 205) 216 dX12_twoOf_205 (by decide) (fun h205 => ?_) (fun h205 => ?_)
    · skip
      refine V0_iconst (pc := 216) (0) dX12_twoOf_216 (by decide) ?_
      refine V_reti (pc := 217) _ dX12_twoOf_217 rfl ?_
      refine px_li ?_
      simp [m_two, b2, *]
    · skip
      refine V0_iload_n (pc := 208) dX12_twoOf_208 rfl ?_
      refine V0_if_eq (pc := 209) 216 dX12_twoOf_209 (by decide) (fun h209 => ?_) (fun h209 => ?_)
      · skip
        refine V0_iconst (pc := 216) (0) dX12_twoOf_216 (by decide) ?_
        refine V_reti (pc := 217) _ dX12_twoOf_217 rfl ?_
        refine px_li ?_
        simp [m_two, b2, *]
      · skip
        refine V0_iconst (pc := 212) (1) dX12_twoOf_212 (by decide) ?_
        refine V0_goto (pc := 213) 217 dX12_twoOf_213 (by decide) ?_
        refine V_reti (pc := 217) _ dX12_twoOf_217 rfl ?_
        refine px_li ?_
        simp [m_two, b2, *]
  by_cases s1_2 : w = (39)
  · refine V_tabIn (pc := 1) (off := 217) (39) 218 dX12_twoOf_1 s1_2 (by decide) (by decide) (by decide) (by decide) ?_
    refine V0_iload_n (pc := 218) dX12_twoOf_218 rfl ?_
    refine V0_if_ne (pc := 219) 226 dX12_twoOf_219 (by decide) (fun h219 => ?_) (fun h219 => ?_)
    · skip
      refine V0_iconst (pc := 226) (1) dX12_twoOf_226 (by decide) ?_
      refine V0_goto (pc := 227) 231 dX12_twoOf_227 (by decide) ?_
      refine V_reti (pc := 231) _ dX12_twoOf_231 rfl ?_
      refine px_li ?_
      simp [m_two, b2, *]
    · skip
      refine V0_iload_n (pc := 222) dX12_twoOf_222 rfl ?_
      refine V0_if_eq (pc := 223) 230 dX12_twoOf_223 (by decide) (fun h223 => ?_) (fun h223 => ?_)
      · skip
        refine V0_iconst (pc := 230) (0) dX12_twoOf_230 (by decide) ?_
        refine V_reti (pc := 231) _ dX12_twoOf_231 rfl ?_
        refine px_li ?_
        simp [m_two, b2, *]
      · skip
        refine V0_iconst (pc := 226) (1) dX12_twoOf_226 (by decide) ?_
        refine V0_goto (pc := 227) 231 dX12_twoOf_227 (by decide) ?_
        refine V_reti (pc := 231) _ dX12_twoOf_231 rfl ?_
        refine px_li ?_
        simp [m_two, b2, *]
  by_cases s1_3 : w = (40)
  · refine V_tabIn (pc := 1) (off := 217) (40) 218 dX12_twoOf_1 s1_3 (by decide) (by decide) (by decide) (by decide) ?_
    refine V0_iload_n (pc := 218) dX12_twoOf_218 rfl ?_
    refine V0_if_ne (pc := 219) 226 dX12_twoOf_219 (by decide) (fun h219 => ?_) (fun h219 => ?_)
    · skip
      refine V0_iconst (pc := 226) (1) dX12_twoOf_226 (by decide) ?_
      refine V0_goto (pc := 227) 231 dX12_twoOf_227 (by decide) ?_
      refine V_reti (pc := 231) _ dX12_twoOf_231 rfl ?_
      refine px_li ?_
      simp [m_two, b2, *]
    · skip
      refine V0_iload_n (pc := 222) dX12_twoOf_222 rfl ?_
      refine V0_if_eq (pc := 223) 230 dX12_twoOf_223 (by decide) (fun h223 => ?_) (fun h223 => ?_)
      · skip
        refine V0_iconst (pc := 230) (0) dX12_twoOf_230 (by decide) ?_
        refine V_reti (pc := 231) _ dX12_twoOf_231 rfl ?_
        refine px_li ?_
        simp [m_two, b2, *]
      · skip
        refine V0_iconst (pc := 226) (1) dX12_twoOf_226 (by decide) ?_
        refine V0_goto (pc := 227) 231 dX12_twoOf_227 (by decide) ?_
        refine V_reti (pc := 231) _ dX12_twoOf_231 rfl ?_
        refine px_li ?_
        simp [m_two, b2, *]
  by_cases s1_4 : w = (41)
  · refine V_tabIn (pc := 1) (off := 217) (41) 218 dX12_twoOf_1 s1_4 (by decide) (by decide) (by decide) (by decide) ?_
    refine V0_iload_n (pc := 218) dX12_twoOf_218 rfl ?_
    refine V0_if_ne (pc := 219) 226 dX12_twoOf_219 (by decide) (fun h219 => ?_) (fun h219 => ?_)
    · skip
      refine V0_iconst (pc := 226) (1) dX12_twoOf_226 (by decide) ?_
      refine V0_goto (pc := 227) 231 dX12_twoOf_227 (by decide) ?_
      refine V_reti (pc := 231) _ dX12_twoOf_231 rfl ?_
      refine px_li ?_
      simp [m_two, b2, *]
    · skip
      refine V0_iload_n (pc := 222) dX12_twoOf_222 rfl ?_
      refine V0_if_eq (pc := 223) 230 dX12_twoOf_223 (by decide) (fun h223 => ?_) (fun h223 => ?_)
      · skip
        refine V0_iconst (pc := 230) (0) dX12_twoOf_230 (by decide) ?_
        refine V_reti (pc := 231) _ dX12_twoOf_231 rfl ?_
        refine px_li ?_
        simp [m_two, b2, *]
      · skip
        refine V0_iconst (pc := 226) (1) dX12_twoOf_226 (by decide) ?_
        refine V0_goto (pc := 227) 231 dX12_twoOf_227 (by decide) ?_
        refine V_reti (pc := 231) _ dX12_twoOf_231 rfl ?_
        refine px_li ?_
        simp [m_two, b2, *]
  by_cases s1_5 : w = (42)
  · refine V_tabIn (pc := 1) (off := 127) (42) 128 dX12_twoOf_1 s1_5 (by decide) (by decide) (by decide) (by decide) ?_
    refine V0_iload_n (pc := 128) dX12_twoOf_128 rfl ?_
    refine V0_iload_n (pc := 129) dX12_twoOf_129 rfl ?_
    refine V0_imul (pc := 130) dX12_twoOf_130 ?_
    refine V_reti (pc := 131) _ dX12_twoOf_131 rfl ?_
    refine px_li ?_
    simp [m_two, b2, *]
  by_cases s1_6 : w = (43)
  · refine V_tabIn (pc := 1) (off := 119) (43) 120 dX12_twoOf_1 s1_6 (by decide) (by decide) (by decide) (by decide) ?_
    refine V0_iload_n (pc := 120) dX12_twoOf_120 rfl ?_
    refine V0_iload_n (pc := 121) dX12_twoOf_121 rfl ?_
    refine V0_iadd (pc := 122) dX12_twoOf_122 ?_
    refine V_reti (pc := 123) _ dX12_twoOf_123 rfl ?_
    refine px_li ?_
    simp [m_two, b2, *]
  by_cases s1_7 : w = (44)
  · refine V_tabIn (pc := 1) (off := 217) (44) 218 dX12_twoOf_1 s1_7 (by decide) (by decide) (by decide) (by decide) ?_
    refine V0_iload_n (pc := 218) dX12_twoOf_218 rfl ?_
    refine V0_if_ne (pc := 219) 226 dX12_twoOf_219 (by decide) (fun h219 => ?_) (fun h219 => ?_)
    · skip
      refine V0_iconst (pc := 226) (1) dX12_twoOf_226 (by decide) ?_
      refine V0_goto (pc := 227) 231 dX12_twoOf_227 (by decide) ?_
      refine V_reti (pc := 231) _ dX12_twoOf_231 rfl ?_
      refine px_li ?_
      simp [m_two, b2, *]
    · skip
      refine V0_iload_n (pc := 222) dX12_twoOf_222 rfl ?_
      refine V0_if_eq (pc := 223) 230 dX12_twoOf_223 (by decide) (fun h223 => ?_) (fun h223 => ?_)
      · skip
        refine V0_iconst (pc := 230) (0) dX12_twoOf_230 (by decide) ?_
        refine V_reti (pc := 231) _ dX12_twoOf_231 rfl ?_
        refine px_li ?_
        simp [m_two, b2, *]
      · skip
        refine V0_iconst (pc := 226) (1) dX12_twoOf_226 (by decide) ?_
        refine V0_goto (pc := 227) 231 dX12_twoOf_227 (by decide) ?_
        refine V_reti (pc := 231) _ dX12_twoOf_231 rfl ?_
        refine px_li ?_
        simp [m_two, b2, *]
  by_cases s1_8 : w = (45)
  · refine V_tabIn (pc := 1) (off := 123) (45) 124 dX12_twoOf_1 s1_8 (by decide) (by decide) (by decide) (by decide) ?_
    refine V0_iload_n (pc := 124) dX12_twoOf_124 rfl ?_
    refine V0_iload_n (pc := 125) dX12_twoOf_125 rfl ?_
    refine V0_isub (pc := 126) dX12_twoOf_126 ?_
    refine V_reti (pc := 127) _ dX12_twoOf_127 rfl ?_
    refine px_li ?_
    simp [m_two, b2, *]
  by_cases s1_9 : w = (46)
  · refine V_tabIn (pc := 1) (off := 217) (46) 218 dX12_twoOf_1 s1_9 (by decide) (by decide) (by decide) (by decide) ?_
    refine V0_iload_n (pc := 218) dX12_twoOf_218 rfl ?_
    refine V0_if_ne (pc := 219) 226 dX12_twoOf_219 (by decide) (fun h219 => ?_) (fun h219 => ?_)
    · skip
      refine V0_iconst (pc := 226) (1) dX12_twoOf_226 (by decide) ?_
      refine V0_goto (pc := 227) 231 dX12_twoOf_227 (by decide) ?_
      refine V_reti (pc := 231) _ dX12_twoOf_231 rfl ?_
      refine px_li ?_
      simp [m_two, b2, *]
    · skip
      refine V0_iload_n (pc := 222) dX12_twoOf_222 rfl ?_
      refine V0_if_eq (pc := 223) 230 dX12_twoOf_223 (by decide) (fun h223 => ?_) (fun h223 => ?_)
      · skip
        refine V0_iconst (pc := 230) (0) dX12_twoOf_230 (by decide) ?_
        refine V_reti (pc := 231) _ dX12_twoOf_231 rfl ?_
        refine px_li ?_
        simp [m_two, b2, *]
      · skip
        refine V0_iconst (pc := 226) (1) dX12_twoOf_226 (by decide) ?_
        refine V0_goto (pc := 227) 231 dX12_twoOf_227 (by decide) ?_
        refine V_reti (pc := 231) _ dX12_twoOf_231 rfl ?_
        refine px_li ?_
        simp [m_two, b2, *]
  by_cases s1_10 : w = (47)
  · refine V_tabIn (pc := 1) (off := 131) (47) 132 dX12_twoOf_1 s1_10 (by decide) (by decide) (by decide) (by decide) ?_
    refine V0_iload_n (pc := 132) dX12_twoOf_132 rfl ?_
    refine V0_if_ne (pc := 133) 140 dX12_twoOf_133 (by decide) (fun h133 => ?_) (fun h133 => ?_)
    · skip
      refine V0_iload_n (pc := 140) dX12_twoOf_140 rfl ?_
      refine V0_iconst (pc := 141) (-1) dX12_twoOf_141 (by decide) ?_
      refine V0_icmp_ne (pc := 142) 150 dX12_twoOf_142 (by decide) (fun h142 => ?_) (fun h142 => ?_)
      · skip
        refine V0_iload_n (pc := 150) dX12_twoOf_150 rfl ?_
        refine V0_iload_n (pc := 151) dX12_twoOf_151 rfl ?_
        refine V0_idiv (pc := 152) dX12_twoOf_152 h133 ?_
        refine V_reti (pc := 153) _ dX12_twoOf_153 rfl ?_
        refine px_li ?_
        simp [m_two, b2, *]
      · skip
        refine V0_iload_n (pc := 145) dX12_twoOf_145 rfl ?_
        refine V0_ineg (pc := 146) dX12_twoOf_146 ?_
        refine V0_goto (pc := 147) 153 dX12_twoOf_147 (by decide) ?_
        refine V_reti (pc := 153) _ dX12_twoOf_153 rfl ?_
        refine px_li ?_
        simp [m_two, b2, *]
    · skip
      refine V0_iconst (pc := 136) (0) dX12_twoOf_136 (by decide) ?_
      refine V0_goto (pc := 137) 153 dX12_twoOf_137 (by decide) ?_
      refine V_reti (pc := 153) _ dX12_twoOf_153 rfl ?_
      refine px_li ?_
      simp [m_two, b2, *]
  by_cases s1_11 : w = (48)
  · refine V_tabIn (pc := 1) (off := 217) (48) 218 dX12_twoOf_1 s1_11 (by decide) (by decide) (by decide) (by decide) ?_
    refine V0_iload_n (pc := 218) dX12_twoOf_218 rfl ?_
    refine V0_if_ne (pc := 219) 226 dX12_twoOf_219 (by decide) (fun h219 => ?_) (fun h219 => ?_)
    · skip
      refine V0_iconst (pc := 226) (1) dX12_twoOf_226 (by decide) ?_
      refine V0_goto (pc := 227) 231 dX12_twoOf_227 (by decide) ?_
      refine V_reti (pc := 231) _ dX12_twoOf_231 rfl ?_
      refine px_li ?_
      simp [m_two, b2, *]
    · skip
      refine V0_iload_n (pc := 222) dX12_twoOf_222 rfl ?_
      refine V0_if_eq (pc := 223) 230 dX12_twoOf_223 (by decide) (fun h223 => ?_) (fun h223 => ?_)
      · skip
        refine V0_iconst (pc := 230) (0) dX12_twoOf_230 (by decide) ?_
        refine V_reti (pc := 231) _ dX12_twoOf_231 rfl ?_
        refine px_li ?_
        simp [m_two, b2, *]
      · skip
        refine V0_iconst (pc := 226) (1) dX12_twoOf_226 (by decide) ?_
        refine V0_goto (pc := 227) 231 dX12_twoOf_227 (by decide) ?_
        refine V_reti (pc := 231) _ dX12_twoOf_231 rfl ?_
        refine px_li ?_
        simp [m_two, b2, *]
  by_cases s1_12 : w = (49)
  · refine V_tabIn (pc := 1) (off := 217) (49) 218 dX12_twoOf_1 s1_12 (by decide) (by decide) (by decide) (by decide) ?_
    refine V0_iload_n (pc := 218) dX12_twoOf_218 rfl ?_
    refine V0_if_ne (pc := 219) 226 dX12_twoOf_219 (by decide) (fun h219 => ?_) (fun h219 => ?_)
    · skip
      refine V0_iconst (pc := 226) (1) dX12_twoOf_226 (by decide) ?_
      refine V0_goto (pc := 227) 231 dX12_twoOf_227 (by decide) ?_
      refine V_reti (pc := 231) _ dX12_twoOf_231 rfl ?_
      refine px_li ?_
      simp [m_two, b2, *]
    · skip
      refine V0_iload_n (pc := 222) dX12_twoOf_222 rfl ?_
      refine V0_if_eq (pc := 223) 230 dX12_twoOf_223 (by decide) (fun h223 => ?_) (fun h223 => ?_)
      · skip
        refine V0_iconst (pc := 230) (0) dX12_twoOf_230 (by decide) ?_
        refine V_reti (pc := 231) _ dX12_twoOf_231 rfl ?_
        refine px_li ?_
        simp [m_two, b2, *]
      · skip
        refine V0_iconst (pc := 226) (1) dX12_twoOf_226 (by decide) ?_
        refine V0_goto (pc := 227) 231 dX12_twoOf_227 (by decide) ?_
        refine V_reti (pc := 231) _ dX12_twoOf_231 rfl ?_
        refine px_li ?_
        simp [m_two, b2, *]
  by_cases s1_13 : w = (50)
  · refine V_tabIn (pc := 1) (off := 217) (50) 218 dX12_twoOf_1 s1_13 (by decide) (by decide) (by decide) (by decide) ?_
    refine V0_iload_n (pc := 218) dX12_twoOf_218 rfl ?_
    refine V0_if_ne (pc := 219) 226 dX12_twoOf_219 (by decide) (fun h219 => ?_) (fun h219 => ?_)
    · skip
      refine V0_iconst (pc := 226) (1) dX12_twoOf_226 (by decide) ?_
      refine V0_goto (pc := 227) 231 dX12_twoOf_227 (by decide) ?_
      refine V_reti (pc := 231) _ dX12_twoOf_231 rfl ?_
      refine px_li ?_
      simp [m_two, b2, *]
    · skip
      refine V0_iload_n (pc := 222) dX12_twoOf_222 rfl ?_
      refine V0_if_eq (pc := 223) 230 dX12_twoOf_223 (by decide) (fun h223 => ?_) (fun h223 => ?_)
      · skip
        refine V0_iconst (pc := 230) (0) dX12_twoOf_230 (by decide) ?_
        refine V_reti (pc := 231) _ dX12_twoOf_231 rfl ?_
        refine px_li ?_
        simp [m_two, b2, *]
      · skip
        refine V0_iconst (pc := 226) (1) dX12_twoOf_226 (by decide) ?_
        refine V0_goto (pc := 227) 231 dX12_twoOf_227 (by decide) ?_
        refine V_reti (pc := 231) _ dX12_twoOf_231 rfl ?_
        refine px_li ?_
        simp [m_two, b2, *]
  by_cases s1_14 : w = (51)
  · refine V_tabIn (pc := 1) (off := 217) (51) 218 dX12_twoOf_1 s1_14 (by decide) (by decide) (by decide) (by decide) ?_
    refine V0_iload_n (pc := 218) dX12_twoOf_218 rfl ?_
    refine V0_if_ne (pc := 219) 226 dX12_twoOf_219 (by decide) (fun h219 => ?_) (fun h219 => ?_)
    · skip
      refine V0_iconst (pc := 226) (1) dX12_twoOf_226 (by decide) ?_
      refine V0_goto (pc := 227) 231 dX12_twoOf_227 (by decide) ?_
      refine V_reti (pc := 231) _ dX12_twoOf_231 rfl ?_
      refine px_li ?_
      simp [m_two, b2, *]
    · skip
      refine V0_iload_n (pc := 222) dX12_twoOf_222 rfl ?_
      refine V0_if_eq (pc := 223) 230 dX12_twoOf_223 (by decide) (fun h223 => ?_) (fun h223 => ?_)
      · skip
        refine V0_iconst (pc := 230) (0) dX12_twoOf_230 (by decide) ?_
        refine V_reti (pc := 231) _ dX12_twoOf_231 rfl ?_
        refine px_li ?_
        simp [m_two, b2, *]
      · skip
        refine V0_iconst (pc := 226) (1) dX12_twoOf_226 (by decide) ?_
        refine V0_goto (pc := 227) 231 dX12_twoOf_227 (by decide) ?_
        refine V_reti (pc := 231) _ dX12_twoOf_231 rfl ?_
        refine px_li ?_
        simp [m_two, b2, *]
  by_cases s1_15 : w = (52)
  · refine V_tabIn (pc := 1) (off := 217) (52) 218 dX12_twoOf_1 s1_15 (by decide) (by decide) (by decide) (by decide) ?_
    refine V0_iload_n (pc := 218) dX12_twoOf_218 rfl ?_
    refine V0_if_ne (pc := 219) 226 dX12_twoOf_219 (by decide) (fun h219 => ?_) (fun h219 => ?_)
    · skip
      refine V0_iconst (pc := 226) (1) dX12_twoOf_226 (by decide) ?_
      refine V0_goto (pc := 227) 231 dX12_twoOf_227 (by decide) ?_
      refine V_reti (pc := 231) _ dX12_twoOf_231 rfl ?_
      refine px_li ?_
      simp [m_two, b2, *]
    · skip
      refine V0_iload_n (pc := 222) dX12_twoOf_222 rfl ?_
      refine V0_if_eq (pc := 223) 230 dX12_twoOf_223 (by decide) (fun h223 => ?_) (fun h223 => ?_)
      · skip
        refine V0_iconst (pc := 230) (0) dX12_twoOf_230 (by decide) ?_
        refine V_reti (pc := 231) _ dX12_twoOf_231 rfl ?_
        refine px_li ?_
        simp [m_two, b2, *]
      · skip
        refine V0_iconst (pc := 226) (1) dX12_twoOf_226 (by decide) ?_
        refine V0_goto (pc := 227) 231 dX12_twoOf_227 (by decide) ?_
        refine V_reti (pc := 231) _ dX12_twoOf_231 rfl ?_
        refine px_li ?_
        simp [m_two, b2, *]
  by_cases s1_16 : w = (53)
  · refine V_tabIn (pc := 1) (off := 217) (53) 218 dX12_twoOf_1 s1_16 (by decide) (by decide) (by decide) (by decide) ?_
    refine V0_iload_n (pc := 218) dX12_twoOf_218 rfl ?_
    refine V0_if_ne (pc := 219) 226 dX12_twoOf_219 (by decide) (fun h219 => ?_) (fun h219 => ?_)
    · skip
      refine V0_iconst (pc := 226) (1) dX12_twoOf_226 (by decide) ?_
      refine V0_goto (pc := 227) 231 dX12_twoOf_227 (by decide) ?_
      refine V_reti (pc := 231) _ dX12_twoOf_231 rfl ?_
      refine px_li ?_
      simp [m_two, b2, *]
    · skip
      refine V0_iload_n (pc := 222) dX12_twoOf_222 rfl ?_
      refine V0_if_eq (pc := 223) 230 dX12_twoOf_223 (by decide) (fun h223 => ?_) (fun h223 => ?_)
      · skip
        refine V0_iconst (pc := 230) (0) dX12_twoOf_230 (by decide) ?_
        refine V_reti (pc := 231) _ dX12_twoOf_231 rfl ?_
        refine px_li ?_
        simp [m_two, b2, *]
      · skip
        refine V0_iconst (pc := 226) (1) dX12_twoOf_226 (by decide) ?_
        refine V0_goto (pc := 227) 231 dX12_twoOf_227 (by decide) ?_
        refine V_reti (pc := 231) _ dX12_twoOf_231 rfl ?_
        refine px_li ?_
        simp [m_two, b2, *]
  by_cases s1_17 : w = (54)
  · refine V_tabIn (pc := 1) (off := 217) (54) 218 dX12_twoOf_1 s1_17 (by decide) (by decide) (by decide) (by decide) ?_
    refine V0_iload_n (pc := 218) dX12_twoOf_218 rfl ?_
    refine V0_if_ne (pc := 219) 226 dX12_twoOf_219 (by decide) (fun h219 => ?_) (fun h219 => ?_)
    · skip
      refine V0_iconst (pc := 226) (1) dX12_twoOf_226 (by decide) ?_
      refine V0_goto (pc := 227) 231 dX12_twoOf_227 (by decide) ?_
      refine V_reti (pc := 231) _ dX12_twoOf_231 rfl ?_
      refine px_li ?_
      simp [m_two, b2, *]
    · skip
      refine V0_iload_n (pc := 222) dX12_twoOf_222 rfl ?_
      refine V0_if_eq (pc := 223) 230 dX12_twoOf_223 (by decide) (fun h223 => ?_) (fun h223 => ?_)
      · skip
        refine V0_iconst (pc := 230) (0) dX12_twoOf_230 (by decide) ?_
        refine V_reti (pc := 231) _ dX12_twoOf_231 rfl ?_
        refine px_li ?_
        simp [m_two, b2, *]
      · skip
        refine V0_iconst (pc := 226) (1) dX12_twoOf_226 (by decide) ?_
        refine V0_goto (pc := 227) 231 dX12_twoOf_227 (by decide) ?_
        refine V_reti (pc := 231) _ dX12_twoOf_231 rfl ?_
        refine px_li ?_
        simp [m_two, b2, *]
  by_cases s1_18 : w = (55)
  · refine V_tabIn (pc := 1) (off := 217) (55) 218 dX12_twoOf_1 s1_18 (by decide) (by decide) (by decide) (by decide) ?_
    refine V0_iload_n (pc := 218) dX12_twoOf_218 rfl ?_
    refine V0_if_ne (pc := 219) 226 dX12_twoOf_219 (by decide) (fun h219 => ?_) (fun h219 => ?_)
    · skip
      refine V0_iconst (pc := 226) (1) dX12_twoOf_226 (by decide) ?_
      refine V0_goto (pc := 227) 231 dX12_twoOf_227 (by decide) ?_
      refine V_reti (pc := 231) _ dX12_twoOf_231 rfl ?_
      refine px_li ?_
      simp [m_two, b2, *]
    · skip
      refine V0_iload_n (pc := 222) dX12_twoOf_222 rfl ?_
      refine V0_if_eq (pc := 223) 230 dX12_twoOf_223 (by decide) (fun h223 => ?_) (fun h223 => ?_)
      · skip
        refine V0_iconst (pc := 230) (0) dX12_twoOf_230 (by decide) ?_
        refine V_reti (pc := 231) _ dX12_twoOf_231 rfl ?_
        refine px_li ?_
        simp [m_two, b2, *]
      · skip
        refine V0_iconst (pc := 226) (1) dX12_twoOf_226 (by decide) ?_
        refine V0_goto (pc := 227) 231 dX12_twoOf_227 (by decide) ?_
        refine V_reti (pc := 231) _ dX12_twoOf_231 rfl ?_
        refine px_li ?_
        simp [m_two, b2, *]
  by_cases s1_19 : w = (56)
  · refine V_tabIn (pc := 1) (off := 217) (56) 218 dX12_twoOf_1 s1_19 (by decide) (by decide) (by decide) (by decide) ?_
    refine V0_iload_n (pc := 218) dX12_twoOf_218 rfl ?_
    refine V0_if_ne (pc := 219) 226 dX12_twoOf_219 (by decide) (fun h219 => ?_) (fun h219 => ?_)
    · skip
      refine V0_iconst (pc := 226) (1) dX12_twoOf_226 (by decide) ?_
      refine V0_goto (pc := 227) 231 dX12_twoOf_227 (by decide) ?_
      refine V_reti (pc := 231) _ dX12_twoOf_231 rfl ?_
      refine px_li ?_
      simp [m_two, b2, *]
    · skip
      refine V0_iload_n (pc := 222) dX12_twoOf_222 rfl ?_
      refine V0_if_eq (pc := 223) 230 dX12_twoOf_223 (by decide) (fun h223 => ?_) (fun h223 => ?_)
      · skip
        refine V0_iconst (pc := 230) (0) dX12_twoOf_230 (by decide) ?_
        refine V_reti (pc := 231) _ dX12_twoOf_231 rfl ?_
        refine px_li ?_
        simp [m_two, b2, *]
      · skip
        refine V0_iconst (pc := 226) (1) dX12_twoOf_226 (by decide) ?_
        refine V0_goto (pc := 227) 231 dX12_twoOf_227 (by decide) ?_
        refine V_reti (pc := 231) _ dX12_twoOf_231 rfl ?_
        refine px_li ?_
        simp [m_two, b2, *]
  by_cases s1_20 : w = (57)
  · refine V_tabIn (pc := 1) (off := 217) (57) 218 dX12_twoOf_1 s1_20 (by decide) (by decide) (by decide) (by decide) ?_
    refine V0_iload_n (pc := 218) dX12_twoOf_218 rfl ?_
    refine V0_if_ne (pc := 219) 226 dX12_twoOf_219 (by decide) (fun h219 => ?_) (fun h219 => ?_)
    · skip
      refine V0_iconst (pc := 226) (1) dX12_twoOf_226 (by decide) ?_
      refine V0_goto (pc := 227) 231 dX12_twoOf_227 (by decide) ?_
      refine V_reti (pc := 231) _ dX12_twoOf_231 rfl ?_
      refine px_li ?_
      simp [m_two, b2, *]
    · skip
      refine V0_iload_n (pc := 222) dX12_twoOf_222 rfl ?_
      refine V0_if_eq (pc := 223) 230 dX12_twoOf_223 (by decide) (fun h223 => ?_) (fun h223 => ?_)
      · skip
        refine V0_iconst (pc := 230) (0) dX12_twoOf_230 (by decide) ?_
        refine V_reti (pc := 231) _ dX12_twoOf_231 rfl ?_
        refine px_li ?_
        simp [m_two, b2, *]
      · skip
        refine V0_iconst (pc := 226) (1) dX12_twoOf_226 (by decide) ?_
        refine V0_goto (pc := 227) 231 dX12_twoOf_227 (by decide) ?_
        refine V_reti (pc := 231) _ dX12_twoOf_231 rfl ?_
        refine px_li ?_
        simp [m_two, b2, *]
  by_cases s1_21 : w = (58)
  · refine V_tabIn (pc := 1) (off := 217) (58) 218 dX12_twoOf_1 s1_21 (by decide) (by decide) (by decide) (by decide) ?_
    refine V0_iload_n (pc := 218) dX12_twoOf_218 rfl ?_
    refine V0_if_ne (pc := 219) 226 dX12_twoOf_219 (by decide) (fun h219 => ?_) (fun h219 => ?_)
    · skip
      refine V0_iconst (pc := 226) (1) dX12_twoOf_226 (by decide) ?_
      refine V0_goto (pc := 227) 231 dX12_twoOf_227 (by decide) ?_
      refine V_reti (pc := 231) _ dX12_twoOf_231 rfl ?_
      refine px_li ?_
      simp [m_two, b2, *]
    · skip
      refine V0_iload_n (pc := 222) dX12_twoOf_222 rfl ?_
      refine V0_if_eq (pc := 223) 230 dX12_twoOf_223 (by decide) (fun h223 => ?_) (fun h223 => ?_)
      · skip
        refine V0_iconst (pc := 230) (0) dX12_twoOf_230 (by decide) ?_
        refine V_reti (pc := 231) _ dX12_twoOf_231 rfl ?_
        refine px_li ?_
        simp [m_two, b2, *]
      · skip
        refine V0_iconst (pc := 226) (1) dX12_twoOf_226 (by decide) ?_
        refine V0_goto (pc := 227) 231 dX12_twoOf_227 (by decide) ?_
        refine V_reti (pc := 231) _ dX12_twoOf_231 rfl ?_
        refine px_li ?_
        simp [m_two, b2, *]
  by_cases s1_22 : w = (59)
  · refine V_tabIn (pc := 1) (off := 217) (59) 218 dX12_twoOf_1 s1_22 (by decide) (by decide) (by decide) (by decide) ?_
    refine V0_iload_n (pc := 218) dX12_twoOf_218 rfl ?_
    refine V0_if_ne (pc := 219) 226 dX12_twoOf_219 (by decide) (fun h219 => ?_) (fun h219 => ?_)
    · skip
      refine V0_iconst (pc := 226) (1) dX12_twoOf_226 (by decide) ?_
      refine V0_goto (pc := 227) 231 dX12_twoOf_227 (by decide) ?_
      refine V_reti (pc := 231) _ dX12_twoOf_231 rfl ?_
      refine px_li ?_
      simp [m_two, b2, *]
    · skip
      refine V0_iload_n (pc := 222) dX12_twoOf_222 rfl ?_
      refine V0_if_eq (pc := 223) 230 dX12_twoOf_223 (by decide) (fun h223 => ?_) (fun h223 => ?_)
      · skip
        refine V0_iconst (pc := 230) (0) dX12_twoOf_230 (by decide) ?_
        refine V_reti (pc := 231) _ dX12_twoOf_231 rfl ?_
        refine px_li ?_
        simp [m_two, b2, *]
      · skip
        refine V0_iconst (pc := 226) (1) dX12_twoOf_226 (by decide) ?_
        refine V0_goto (pc := 227) 231 dX12_twoOf_227 (by decide) ?_
        refine V_reti (pc := 231) _ dX12_twoOf_231 rfl ?_
        refine px_li ?_
        simp [m_two, b2, *]
  by_cases s1_23 : w = (60)
  · refine V_tabIn (pc := 1) (off := 170) (60) 171 dX12_twoOf_1 s1_23 (by decide) (by decide) (by decide) (by decide) ?_
    refine V0_iload_n (pc := 171) dX12_twoOf_171 rfl ?_
    refine V0_iload_n (pc := 172) dX12_twoOf_172 rfl ?_
    refine V1_icmp_ge (pc := 173) 180 dX12_twoOf_173 (by decide) (fun h173 => ?_) (fun h173 => ?_)
    · skip
      refine V0_iconst (pc := 180) (0) dX12_twoOf_180 (by decide) ?_
      refine V_reti (pc := 181) _ dX12_twoOf_181 rfl ?_
      refine px_li ?_
      simp [m_two, b2, *]
    · skip
      refine V0_iconst (pc := 176) (1) dX12_twoOf_176 (by decide) ?_
      refine V0_goto (pc := 177) 181 dX12_twoOf_177 (by decide) ?_
      refine V_reti (pc := 181) _ dX12_twoOf_181 rfl ?_
      refine px_li ?_
      simp [m_two, b2, *]
  by_cases s1_24 : w = (61)
  · refine V_tabIn (pc := 1) (off := 181) (61) 182 dX12_twoOf_1 s1_24 (by decide) (by decide) (by decide) (by decide) ?_
    refine V0_iload_n (pc := 182) dX12_twoOf_182 rfl ?_
    refine V0_iload_n (pc := 183) dX12_twoOf_183 rfl ?_
    refine V0_icmp_ne (pc := 184) 191 dX12_twoOf_184 (by decide) (fun h184 => ?_) (fun h184 => ?_)
    · skip
      refine V0_iconst (pc := 191) (0) dX12_twoOf_191 (by decide) ?_
      refine V_reti (pc := 192) _ dX12_twoOf_192 rfl ?_
      refine px_li ?_
      simp [m_two, b2, *]
    · skip
      refine V0_iconst (pc := 187) (1) dX12_twoOf_187 (by decide) ?_
      refine V0_goto (pc := 188) 192 dX12_twoOf_188 (by decide) ?_
      refine V_reti (pc := 192) _ dX12_twoOf_192 rfl ?_
      refine px_li ?_
      simp [m_two, b2, *]
  by_cases s1_25 : w = (62)
  · refine V_tabIn (pc := 1) (off := 192) (62) 193 dX12_twoOf_1 s1_25 (by decide) (by decide) (by decide) (by decide) ?_
    refine V0_iload_n (pc := 193) dX12_twoOf_193 rfl ?_
    refine V0_iload_n (pc := 194) dX12_twoOf_194 rfl ?_
    refine V1_icmp_le (pc := 195) 202 dX12_twoOf_195 (by decide) (fun h195 => ?_) (fun h195 => ?_)
    · skip
      refine V0_iconst (pc := 202) (0) dX12_twoOf_202 (by decide) ?_
      refine V_reti (pc := 203) _ dX12_twoOf_203 rfl ?_
      refine px_li ?_
      simp [m_two, b2, *]
    · skip
      refine V0_iconst (pc := 198) (1) dX12_twoOf_198 (by decide) ?_
      refine V0_goto (pc := 199) 203 dX12_twoOf_199 (by decide) ?_
      refine V_reti (pc := 203) _ dX12_twoOf_203 rfl ?_
      refine px_li ?_
      simp [m_two, b2, *]
  refine V_tabOut (pc := 1) 218 dX12_twoOf_1 (by have g0 := px_ne s1_0 (k := 37) (by decide); have g1 := px_ne s1_1 (k := 38) (by decide); have g2 := px_ne s1_2 (k := 39) (by decide); have g3 := px_ne s1_3 (k := 40) (by decide); have g4 := px_ne s1_4 (k := 41) (by decide); have g5 := px_ne s1_5 (k := 42) (by decide); have g6 := px_ne s1_6 (k := 43) (by decide); have g7 := px_ne s1_7 (k := 44) (by decide); have g8 := px_ne s1_8 (k := 45) (by decide); have g9 := px_ne s1_9 (k := 46) (by decide); have g10 := px_ne s1_10 (k := 47) (by decide); have g11 := px_ne s1_11 (k := 48) (by decide); have g12 := px_ne s1_12 (k := 49) (by decide); have g13 := px_ne s1_13 (k := 50) (by decide); have g14 := px_ne s1_14 (k := 51) (by decide); have g15 := px_ne s1_15 (k := 52) (by decide); have g16 := px_ne s1_16 (k := 53) (by decide); have g17 := px_ne s1_17 (k := 54) (by decide); have g18 := px_ne s1_18 (k := 55) (by decide); have g19 := px_ne s1_19 (k := 56) (by decide); have g20 := px_ne s1_20 (k := 57) (by decide); have g21 := px_ne s1_21 (k := 58) (by decide); have g22 := px_ne s1_22 (k := 59) (by decide); have g23 := px_ne s1_23 (k := 60) (by decide); have g24 := px_ne s1_24 (k := 61) (by decide); have g25 := px_ne s1_25 (k := 62) (by decide); omega) (by decide) ?_
  refine V0_iload_n (pc := 218) dX12_twoOf_218 rfl ?_
  refine V0_if_ne (pc := 219) 226 dX12_twoOf_219 (by decide) (fun h219 => ?_) (fun h219 => ?_)
  · skip
    refine V0_iconst (pc := 226) (1) dX12_twoOf_226 (by decide) ?_
    refine V0_goto (pc := 227) 231 dX12_twoOf_227 (by decide) ?_
    refine V_reti (pc := 231) _ dX12_twoOf_231 rfl ?_
    refine px_li ?_
    simp [m_two, b2, *]
  · skip
    refine V0_iload_n (pc := 222) dX12_twoOf_222 rfl ?_
    refine V0_if_eq (pc := 223) 230 dX12_twoOf_223 (by decide) (fun h223 => ?_) (fun h223 => ?_)
    · skip
      refine V0_iconst (pc := 230) (0) dX12_twoOf_230 (by decide) ?_
      refine V_reti (pc := 231) _ dX12_twoOf_231 rfl ?_
      refine px_li ?_
      simp [m_two, b2, *]
    · skip
      refine V0_iconst (pc := 226) (1) dX12_twoOf_226 (by decide) ?_
      refine V0_goto (pc := 227) 231 dX12_twoOf_227 (by decide) ?_
      refine V_reti (pc := 231) _ dX12_twoOf_231 rfl ?_
      refine px_li ?_
      simp [m_two, b2, *]
def m_act (c : Int32) : Int32 := if c = 35 then 1 else if c = 36 then 2 else if c = 33 then 3 else if c = 126 then 4 else c
def m_cd (c : l_C) : Prop := c.1 = 35 ∨ (c.1 = 36 ∧ c.2 = nI (ix c.2) ∧ ix c.2 < 6) ∨ c.1 = 33 ∨ c.1 = 126 ∨ m_sign c.1 = true
def m_code (X : px_I) : Nat → List l_C → Prop
  | _, [] => True
  | i, c :: cs => X 70 i = m_act c.1 ∧ (c.1 = 35 ∨ c.1 = 36 → X 71 i = c.2) ∧ m_cd c ∧ m_code X (i + 1) cs
def m_stk (X : px_I) : List Int32 → Prop
  | [] => True
  | a :: r => X 76 r.length = a ∧ m_stk X r
theorem m_code_app {X : px_I} : ∀ (a b : List l_C) (i : Nat), m_code X i (a ++ b) ↔ m_code X i a ∧ m_code X (i + a.length) b := by
  intro a
  induction a with
  | nil => intro b i; simp [m_code]
  | cons c cs ih => intro b i; simp only [List.cons_append, m_code, ih, List.length_cons]; rw [show i + 1 + cs.length = i + (cs.length + 1) by omega]; exact ⟨fun h => ⟨⟨h.1, h.2.1, h.2.2.1, h.2.2.2.1⟩, h.2.2.2.2⟩, fun h => ⟨h.1.1, h.1.2.1, h.1.2.2.1, h.1.2.2.2, h.2⟩⟩
theorem m_code_congr {X Y : px_I} (h2 : Y 70 = X 70) (h3 : Y 71 = X 71) : ∀ (cs : List l_C) (i : Nat), m_code X i cs → m_code Y i cs := by
  intro cs
  induction cs with
  | nil => intro i _; trivial
  | cons c cs ih => intro i h; exact ⟨by rw [h2]; exact h.1, fun q => by rw [h3]; exact h.2.1 q, h.2.2.1, ih _ h.2.2.2⟩
theorem m_stk_up {X : px_I} {k : Nat} {x : Int32} : ∀ (st : List Int32), st.length ≤ k → m_stk X st → m_stk (px_up X 76 k x) st := by
  intro st
  induction st with
  | nil => intro _ _; trivial
  | cons a r ih => intro hl h; simp only [List.length_cons] at hl; exact ⟨by rw [px_up_ne (by omega)]; exact h.1, ih (by omega) h.2⟩
def m_hd (l : Launch) (e : Nat) (s : Int32) (X : px_I) (J : px_J) (i t : Nat) (Q : px_Q) : Prop := ∀ v6 : Value, V0 l (px_rm 1 0 0) mX12_worked (false, []) 0 0 12 [.ref 54, .int 0, .int s, .int (nI e), .int (nI t), .int (nI i), v6] [] (px_mk X J) (px_q Q)
theorem m_e130 (e : Nat) : (130 : Int32) * 0 + nI e = nI e := by simp
theorem mw_num {l : Launch} {J : px_J} {Q : px_Q} {e i t : Nat} {s v : Int32} {X : px_I} (hi : i < e) (he : e ≤ 130) (ht : t < 130) (hc : X 70 i = 1) (hv : X 71 i = v) (kk : m_hd l e s (px_up X 76 t v) J (i + 1) (t + 1) Q) : m_hd l e s X J i t Q := by
  intro v6
  have hlt : nI i < nI e := (qI_lt (by omega) (by omega)).mpr (by omega)
  refine V0_iload (pc := 12) dX12_worked_12 rfl ?_
  refine V0_sipush (pc := 14) (130) dX12_worked_14 (by decide) ?_
  refine V0_iload_n (pc := 17) dX12_worked_17 rfl ?_
  refine V0_imul (pc := 18) dX12_worked_18 ?_
  refine V0_iload_n (pc := 19) dX12_worked_19 rfl ?_
  refine V0_iadd (pc := 20) dX12_worked_20 ?_
  rw [m_e130]
  refine V1_icmp_ge (pc := 21) 188 dX12_worked_21 (by decide) (fun h21 => ?_) (fun h21 => ?_)
  · skip
    exact absurd hlt h21
  · skip
    refine V0_aload_n (pc := 24) dX12_worked_24 rfl ?_
    refine V_getr (pc := 25) dX12_worked_25 flX12_56 rfl rfl ?_
    refine V0_iload (pc := 28) dX12_worked_28 rfl ?_
    refine V_bald (pc := 30) (i) dX12_worked_30 rfl rfl (by omega) ?_
    rw [hc]
    refine V0_istore_6 (pc := 31) dX12_worked_31 (by decide) rfl ?_
    refine V0_iload (pc := 33) dX12_worked_33 rfl ?_
    refine V0_iconst (pc := 35) (1) dX12_worked_35 (by decide) ?_
    refine V0_icmp_eq (pc := 36) 45 dX12_worked_36 (by decide) (fun h36 => ?_) (fun h36 => ?_)
    · skip
      refine V0_aload_n (pc := 45) dX12_worked_45 rfl ?_
      refine V_getr (pc := 46) dX12_worked_46 flX12_75 rfl rfl ?_
      refine V0_iload (pc := 49) dX12_worked_49 rfl ?_
      refine V0_iload (pc := 51) dX12_worked_51 rfl ?_
      refine V0_iconst (pc := 53) (1) dX12_worked_53 (by decide) ?_
      refine V0_icmp_ne (pc := 54) 67 dX12_worked_54 (by decide) (fun h54 => ?_) (fun h54 => ?_)
      · skip
        exact absurd h54 (by decide)
      · skip
        refine V0_aload_n (pc := 57) dX12_worked_57 rfl ?_
        refine V_getr (pc := 58) dX12_worked_58 flX12_59 rfl rfl ?_
        refine V0_iload (pc := 61) dX12_worked_61 rfl ?_
        refine V_iald (pc := 63) (i) dX12_worked_63 rfl rfl (by omega) ?_
        refine V0_goto (pc := 64) 79 dX12_worked_64 (by decide) ?_
        rw [hv]
        refine V_iast (pc := 79) t dX12_worked_79 rfl rfl (by omega) ?_
        refine V0_iinc_4 (pc := 80) (nI (t + 1)) dX12_worked_80 (by decide) rfl (nI_1 _) ?_
        refine V0_goto (pc := 83) 182 dX12_worked_83 (by decide) ?_
        refine V0_iinc_5 (pc := 182) (nI (i + 1)) dX12_worked_182 (by decide) rfl (nI_1 _) ?_
        refine V0_goto (pc := 185) 12 dX12_worked_185 (by decide) ?_
        exact kk _
    · skip
      exact absurd h36 (by decide)
theorem mw_name {l : Launch} {J : px_J} {Q : px_Q} {e i t a : Nat} {s v : Int32} {X : px_I} (hi : i < e) (he : e ≤ 130) (ht : t < 130) (hc : X 70 i = 2) (hv : X 71 i = nI a) (ha : a < 6) (hf : X 75 a = v) (kk : m_hd l e s (px_up X 76 t v) J (i + 1) (t + 1) Q) : m_hd l e s X J i t Q := by
  intro v6
  have hlt : nI i < nI e := (qI_lt (by omega) (by omega)).mpr (by omega)
  refine V0_iload (pc := 12) dX12_worked_12 rfl ?_
  refine V0_sipush (pc := 14) (130) dX12_worked_14 (by decide) ?_
  refine V0_iload_n (pc := 17) dX12_worked_17 rfl ?_
  refine V0_imul (pc := 18) dX12_worked_18 ?_
  refine V0_iload_n (pc := 19) dX12_worked_19 rfl ?_
  refine V0_iadd (pc := 20) dX12_worked_20 ?_
  rw [m_e130]
  refine V1_icmp_ge (pc := 21) 188 dX12_worked_21 (by decide) (fun h21 => ?_) (fun h21 => ?_)
  · skip
    exact absurd hlt h21
  · skip
    refine V0_aload_n (pc := 24) dX12_worked_24 rfl ?_
    refine V_getr (pc := 25) dX12_worked_25 flX12_56 rfl rfl ?_
    refine V0_iload (pc := 28) dX12_worked_28 rfl ?_
    refine V_bald (pc := 30) (i) dX12_worked_30 rfl rfl (by omega) ?_
    rw [hc]
    refine V0_istore_6 (pc := 31) dX12_worked_31 (by decide) rfl ?_
    refine V0_iload (pc := 33) dX12_worked_33 rfl ?_
    refine V0_iconst (pc := 35) (1) dX12_worked_35 (by decide) ?_
    refine V0_icmp_eq (pc := 36) 45 dX12_worked_36 (by decide) (fun h36 => ?_) (fun h36 => ?_)
    · skip
      exact absurd h36 (by decide)
    · skip
      refine V0_iload (pc := 39) dX12_worked_39 rfl ?_
      refine V0_iconst (pc := 41) (2) dX12_worked_41 (by decide) ?_
      refine V0_icmp_ne (pc := 42) 86 dX12_worked_42 (by decide) (fun h42 => ?_) (fun h42 => ?_)
      · skip
        exact absurd h42 (by decide)
      · skip
        refine V0_aload_n (pc := 45) dX12_worked_45 rfl ?_
        refine V_getr (pc := 46) dX12_worked_46 flX12_75 rfl rfl ?_
        refine V0_iload (pc := 49) dX12_worked_49 rfl ?_
        refine V0_iload (pc := 51) dX12_worked_51 rfl ?_
        refine V0_iconst (pc := 53) (1) dX12_worked_53 (by decide) ?_
        refine V0_icmp_ne (pc := 54) 67 dX12_worked_54 (by decide) (fun h54 => ?_) (fun h54 => ?_)
        · skip
          refine V0_aload_n (pc := 67) dX12_worked_67 rfl ?_
          refine V_getr (pc := 68) dX12_worked_68 flX12_72 rfl rfl ?_
          refine V0_aload_n (pc := 71) dX12_worked_71 rfl ?_
          refine V_getr (pc := 72) dX12_worked_72 flX12_59 rfl rfl ?_
          refine V0_iload (pc := 75) dX12_worked_75 rfl ?_
          refine V_iald (pc := 77) (i) dX12_worked_77 rfl rfl (by omega) ?_
          rw [hv]
          refine V_iald (pc := 78) a dX12_worked_78 rfl rfl ha ?_
          rw [hf]
          refine V_iast (pc := 79) t dX12_worked_79 rfl rfl (by omega) ?_
          refine V0_iinc_4 (pc := 80) (nI (t + 1)) dX12_worked_80 (by decide) rfl (nI_1 _) ?_
          refine V0_goto (pc := 83) 182 dX12_worked_83 (by decide) ?_
          refine V0_iinc_5 (pc := 182) (nI (i + 1)) dX12_worked_182 (by decide) rfl (nI_1 _) ?_
          refine V0_goto (pc := 185) 12 dX12_worked_185 (by decide) ?_
          exact kk _
        · skip
          exact absurd h54 (by decide)
theorem mw_not {l : Launch} {J : px_J} {Q : px_Q} {e i t : Nat} {s a : Int32} {X : px_I} (hi : i < e) (he : e ≤ 130) (ht : t < 130) (hc : X 70 i = 3) (hv : X 76 t = a) (kk : m_hd l e s (px_up X 76 t (if a = 0 then 1 else 0)) J (i + 1) (t + 1) Q) : m_hd l e s X J i (t + 1) Q := by
  intro v6
  have hlt : nI i < nI e := (qI_lt (by omega) (by omega)).mpr (by omega)
  refine V0_iload (pc := 12) dX12_worked_12 rfl ?_
  refine V0_sipush (pc := 14) (130) dX12_worked_14 (by decide) ?_
  refine V0_iload_n (pc := 17) dX12_worked_17 rfl ?_
  refine V0_imul (pc := 18) dX12_worked_18 ?_
  refine V0_iload_n (pc := 19) dX12_worked_19 rfl ?_
  refine V0_iadd (pc := 20) dX12_worked_20 ?_
  rw [m_e130]
  refine V1_icmp_ge (pc := 21) 188 dX12_worked_21 (by decide) (fun h21 => ?_) (fun h21 => ?_)
  · skip
    exact absurd hlt h21
  · skip
    refine V0_aload_n (pc := 24) dX12_worked_24 rfl ?_
    refine V_getr (pc := 25) dX12_worked_25 flX12_56 rfl rfl ?_
    refine V0_iload (pc := 28) dX12_worked_28 rfl ?_
    refine V_bald (pc := 30) (i) dX12_worked_30 rfl rfl (by omega) ?_
    rw [hc]
    refine V0_istore_6 (pc := 31) dX12_worked_31 (by decide) rfl ?_
    refine V0_iload (pc := 33) dX12_worked_33 rfl ?_
    refine V0_iconst (pc := 35) (1) dX12_worked_35 (by decide) ?_
    refine V0_icmp_eq (pc := 36) 45 dX12_worked_36 (by decide) (fun h36 => ?_) (fun h36 => ?_)
    · skip
      exact absurd h36 (by decide)
    · skip
      refine V0_iload (pc := 39) dX12_worked_39 rfl ?_
      refine V0_iconst (pc := 41) (2) dX12_worked_41 (by decide) ?_
      refine V0_icmp_ne (pc := 42) 86 dX12_worked_42 (by decide) (fun h42 => ?_) (fun h42 => ?_)
      · skip
        refine V0_iload (pc := 86) dX12_worked_86 rfl ?_
        refine V0_iconst (pc := 88) (3) dX12_worked_88 (by decide) ?_
        refine V0_icmp_ne (pc := 89) 121 dX12_worked_89 (by decide) (fun h89 => ?_) (fun h89 => ?_)
        · skip
          exact absurd h89 (by decide)
        · skip
          refine V0_aload_n (pc := 92) dX12_worked_92 rfl ?_
          refine V_getr (pc := 93) dX12_worked_93 flX12_75 rfl rfl ?_
          refine V0_iload (pc := 96) dX12_worked_96 rfl ?_
          refine V0_iconst (pc := 98) (1) dX12_worked_98 (by decide) ?_
          refine V0_isub (pc := 99) dX12_worked_99 ?_
          rw [nI_pred]
          refine V0_aload_n (pc := 100) dX12_worked_100 rfl ?_
          refine V_getr (pc := 101) dX12_worked_101 flX12_75 rfl rfl ?_
          refine V0_iload (pc := 104) dX12_worked_104 rfl ?_
          refine V0_iconst (pc := 106) (1) dX12_worked_106 (by decide) ?_
          refine V0_isub (pc := 107) dX12_worked_107 ?_
          rw [nI_pred]
          refine V_iald (pc := 108) t dX12_worked_108 rfl rfl (by omega) ?_
          rw [hv]
          refine V0_if_ne (pc := 109) 116 dX12_worked_109 (by decide) (fun h109 => ?_) (fun h109 => ?_)
          · skip
            refine V0_iconst (pc := 116) (0) dX12_worked_116 (by decide) ?_
            refine V_topc (if a = 0 then 1 else 0) (by simp [h109]) ?_
            refine V_iast (pc := 117) t dX12_worked_117 rfl rfl (by omega) ?_
            refine V0_goto (pc := 118) 182 dX12_worked_118 (by decide) ?_
            refine V0_iinc_5 (pc := 182) (nI (i + 1)) dX12_worked_182 (by decide) rfl (nI_1 _) ?_
            refine V0_goto (pc := 185) 12 dX12_worked_185 (by decide) ?_
            exact kk _
          · skip
            refine V0_iconst (pc := 112) (1) dX12_worked_112 (by decide) ?_
            refine V0_goto (pc := 113) 117 dX12_worked_113 (by decide) ?_
            refine V_topc (if a = 0 then 1 else 0) (by simp [h109]) ?_
            refine V_iast (pc := 117) t dX12_worked_117 rfl rfl (by omega) ?_
            refine V0_goto (pc := 118) 182 dX12_worked_118 (by decide) ?_
            refine V0_iinc_5 (pc := 182) (nI (i + 1)) dX12_worked_182 (by decide) rfl (nI_1 _) ?_
            refine V0_goto (pc := 185) 12 dX12_worked_185 (by decide) ?_
            exact kk _
      · skip
        exact absurd h42 (by decide)
theorem mw_neg {l : Launch} {J : px_J} {Q : px_Q} {e i t : Nat} {s a : Int32} {X : px_I} (hi : i < e) (he : e ≤ 130) (ht : t < 130) (hc : X 70 i = 4) (hv : X 76 t = a) (kk : m_hd l e s (px_up X 76 t (-a)) J (i + 1) (t + 1) Q) : m_hd l e s X J i (t + 1) Q := by
  intro v6
  have hlt : nI i < nI e := (qI_lt (by omega) (by omega)).mpr (by omega)
  refine V0_iload (pc := 12) dX12_worked_12 rfl ?_
  refine V0_sipush (pc := 14) (130) dX12_worked_14 (by decide) ?_
  refine V0_iload_n (pc := 17) dX12_worked_17 rfl ?_
  refine V0_imul (pc := 18) dX12_worked_18 ?_
  refine V0_iload_n (pc := 19) dX12_worked_19 rfl ?_
  refine V0_iadd (pc := 20) dX12_worked_20 ?_
  rw [m_e130]
  refine V1_icmp_ge (pc := 21) 188 dX12_worked_21 (by decide) (fun h21 => ?_) (fun h21 => ?_)
  · skip
    exact absurd hlt h21
  · skip
    refine V0_aload_n (pc := 24) dX12_worked_24 rfl ?_
    refine V_getr (pc := 25) dX12_worked_25 flX12_56 rfl rfl ?_
    refine V0_iload (pc := 28) dX12_worked_28 rfl ?_
    refine V_bald (pc := 30) (i) dX12_worked_30 rfl rfl (by omega) ?_
    rw [hc]
    refine V0_istore_6 (pc := 31) dX12_worked_31 (by decide) rfl ?_
    refine V0_iload (pc := 33) dX12_worked_33 rfl ?_
    refine V0_iconst (pc := 35) (1) dX12_worked_35 (by decide) ?_
    refine V0_icmp_eq (pc := 36) 45 dX12_worked_36 (by decide) (fun h36 => ?_) (fun h36 => ?_)
    · skip
      exact absurd h36 (by decide)
    · skip
      refine V0_iload (pc := 39) dX12_worked_39 rfl ?_
      refine V0_iconst (pc := 41) (2) dX12_worked_41 (by decide) ?_
      refine V0_icmp_ne (pc := 42) 86 dX12_worked_42 (by decide) (fun h42 => ?_) (fun h42 => ?_)
      · skip
        refine V0_iload (pc := 86) dX12_worked_86 rfl ?_
        refine V0_iconst (pc := 88) (3) dX12_worked_88 (by decide) ?_
        refine V0_icmp_ne (pc := 89) 121 dX12_worked_89 (by decide) (fun h89 => ?_) (fun h89 => ?_)
        · skip
          refine V0_iload (pc := 121) dX12_worked_121 rfl ?_
          refine V0_iconst (pc := 123) (4) dX12_worked_123 (by decide) ?_
          refine V0_icmp_ne (pc := 124) 149 dX12_worked_124 (by decide) (fun h124 => ?_) (fun h124 => ?_)
          · skip
            exact absurd h124 (by decide)
          · skip
            refine V0_aload_n (pc := 127) dX12_worked_127 rfl ?_
            refine V_getr (pc := 128) dX12_worked_128 flX12_75 rfl rfl ?_
            refine V0_iload (pc := 131) dX12_worked_131 rfl ?_
            refine V0_iconst (pc := 133) (1) dX12_worked_133 (by decide) ?_
            refine V0_isub (pc := 134) dX12_worked_134 ?_
            rw [nI_pred]
            refine V0_aload_n (pc := 135) dX12_worked_135 rfl ?_
            refine V_getr (pc := 136) dX12_worked_136 flX12_75 rfl rfl ?_
            refine V0_iload (pc := 139) dX12_worked_139 rfl ?_
            refine V0_iconst (pc := 141) (1) dX12_worked_141 (by decide) ?_
            refine V0_isub (pc := 142) dX12_worked_142 ?_
            rw [nI_pred]
            refine V_iald (pc := 143) t dX12_worked_143 rfl rfl (by omega) ?_
            rw [hv]
            refine V0_ineg (pc := 144) dX12_worked_144 ?_
            refine V_iast (pc := 145) t dX12_worked_145 rfl rfl (by omega) ?_
            refine V0_goto (pc := 146) 182 dX12_worked_146 (by decide) ?_
            refine V0_iinc_5 (pc := 182) (nI (i + 1)) dX12_worked_182 (by decide) rfl (nI_1 _) ?_
            refine V0_goto (pc := 185) 12 dX12_worked_185 (by decide) ?_
            exact kk _
        · skip
          exact absurd h89 (by decide)
      · skip
        exact absurd h42 (by decide)
theorem mw_bin {l : Launch} {J : px_J} {Q : px_Q} {e i t : Nat} {s w a b : Int32} {X : px_I} (hi : i < e) (he : e ≤ 130) (ht : t + 1 < 130) (hc : X 70 i = w) (n1 : ¬ w = 1) (n2 : ¬ w = 2) (n3 : ¬ w = 3) (n4 : ¬ w = 4) (ha : X 76 t = a) (hb : X 76 (t + 1) = b) (kk : m_hd l e s (px_up X 76 t (m_two w a b)) J (i + 1) (t + 1) Q) : m_hd l e s X J i (t + 1 + 1) Q := by
  intro v6
  have hlt : nI i < nI e := (qI_lt (by omega) (by omega)).mpr (by omega)
  refine V0_iload (pc := 12) dX12_worked_12 rfl ?_
  refine V0_sipush (pc := 14) (130) dX12_worked_14 (by decide) ?_
  refine V0_iload_n (pc := 17) dX12_worked_17 rfl ?_
  refine V0_imul (pc := 18) dX12_worked_18 ?_
  refine V0_iload_n (pc := 19) dX12_worked_19 rfl ?_
  refine V0_iadd (pc := 20) dX12_worked_20 ?_
  rw [m_e130]
  refine V1_icmp_ge (pc := 21) 188 dX12_worked_21 (by decide) (fun h21 => ?_) (fun h21 => ?_)
  · skip
    exact absurd hlt h21
  · skip
    refine V0_aload_n (pc := 24) dX12_worked_24 rfl ?_
    refine V_getr (pc := 25) dX12_worked_25 flX12_56 rfl rfl ?_
    refine V0_iload (pc := 28) dX12_worked_28 rfl ?_
    refine V_bald (pc := 30) (i) dX12_worked_30 rfl rfl (by omega) ?_
    rw [hc]
    refine V0_istore_6 (pc := 31) dX12_worked_31 (by decide) rfl ?_
    refine V0_iload (pc := 33) dX12_worked_33 rfl ?_
    refine V0_iconst (pc := 35) (1) dX12_worked_35 (by decide) ?_
    refine V0_icmp_eq (pc := 36) 45 dX12_worked_36 (by decide) (fun h36 => ?_) (fun h36 => ?_)
    · skip
      exact absurd h36 n1
    · skip
      refine V0_iload (pc := 39) dX12_worked_39 rfl ?_
      refine V0_iconst (pc := 41) (2) dX12_worked_41 (by decide) ?_
      refine V0_icmp_ne (pc := 42) 86 dX12_worked_42 (by decide) (fun h42 => ?_) (fun h42 => ?_)
      · skip
        refine V0_iload (pc := 86) dX12_worked_86 rfl ?_
        refine V0_iconst (pc := 88) (3) dX12_worked_88 (by decide) ?_
        refine V0_icmp_ne (pc := 89) 121 dX12_worked_89 (by decide) (fun h89 => ?_) (fun h89 => ?_)
        · skip
          refine V0_iload (pc := 121) dX12_worked_121 rfl ?_
          refine V0_iconst (pc := 123) (4) dX12_worked_123 (by decide) ?_
          refine V0_icmp_ne (pc := 124) 149 dX12_worked_124 (by decide) (fun h124 => ?_) (fun h124 => ?_)
          · skip
            refine V0_iinc_4 (pc := 149) (nI (t + 1)) dX12_worked_149 (by decide) rfl (by show nI (t + 1 + 1) + (-1) = nI (t + 1); rw [← Int32.sub_eq_add_neg]; exact nI_pred _) ?_
            refine V0_aload_n (pc := 152) dX12_worked_152 rfl ?_
            refine V_getr (pc := 153) dX12_worked_153 flX12_75 rfl rfl ?_
            refine V0_iload (pc := 156) dX12_worked_156 rfl ?_
            refine V0_iconst (pc := 158) (1) dX12_worked_158 (by decide) ?_
            refine V0_isub (pc := 159) dX12_worked_159 ?_
            rw [nI_pred]
            refine V0_iload (pc := 160) dX12_worked_160 rfl ?_
            refine V0_aload_n (pc := 162) dX12_worked_162 rfl ?_
            refine V_getr (pc := 163) dX12_worked_163 flX12_75 rfl rfl ?_
            refine V0_iload (pc := 166) dX12_worked_166 rfl ?_
            refine V0_iconst (pc := 168) (1) dX12_worked_168 (by decide) ?_
            refine V0_isub (pc := 169) dX12_worked_169 ?_
            rw [nI_pred]
            refine V_iald (pc := 170) t dX12_worked_170 rfl rfl (by omega) ?_
            rw [ha]
            refine V0_aload_n (pc := 171) dX12_worked_171 rfl ?_
            refine V_getr (pc := 172) dX12_worked_172 flX12_75 rfl rfl ?_
            refine V0_iload (pc := 175) dX12_worked_175 rfl ?_
            refine V_iald (pc := 177) (t + 1) dX12_worked_177 rfl rfl (by omega) ?_
            rw [hb]
            refine V_callSi (pc := 178) (M' := mX12_twoOf) dX12_worked_178 mlX12_242 okX12_twoOf rfl c_X12_twoOf rfl rfl ⟨Nat.le_of_ble_eq_true rfl, Nat.le_of_ble_eq_true rfl⟩ ⟨Nat.le_refl 0, Nat.le_refl 0⟩ (Nat.le_of_ble_eq_true rfl) ?_
            refine V_iast (pc := 181) t dX12_worked_181 rfl rfl (by omega) ?_
            refine V0_iinc_5 (pc := 182) (nI (i + 1)) dX12_worked_182 (by decide) rfl (nI_1 _) ?_
            refine V0_goto (pc := 185) 12 dX12_worked_185 (by decide) ?_
            exact kk _
          · skip
            exact absurd h124 n4
        · skip
          exact absurd h89 n3
      · skip
        exact absurd h42 n2
theorem m_act_no {w : Int32} (h : m_sign w = true) : m_act w = w ∧ ¬ w = 1 ∧ ¬ w = 2 ∧ ¬ w = 3 ∧ ¬ w = 4 := by
  rcases m_sign_cases h with e | e | e | e | e | e | e | e | e | e <;> subst e <;> decide
theorem m_run1 {l : Launch} {J : px_J} {e : Nat} {s : Int32} {nm : Int32 → Int32} {Q : px_Q} (he : e ≤ 130) : ∀ (cs : List l_C) (i h : Nat) (st : List Int32) (X : px_I), m_code X i cs → m_stk X st → chk st.length cs = some h → st.length + cs.length ≤ 129 → i + cs.length ≤ e → (∀ a, a < 6 → X 75 a = nm (nI a)) → (∀ X' : px_I, (∀ q, q ≠ 76 → X' q = X q) → m_stk X' (e_run nm cs st) → m_hd l e s X' J (i + cs.length) (e_run nm cs st).length Q) → m_hd l e s X J i st.length Q := by
  intro cs
  induction cs with
  | nil => intro i h st X _ hs _ _ _ _ kk; exact kk X (fun _ _ => rfl) hs
  | cons c cs ih =>
    intro i h st X hc hs hk hl hi hnm kk
    simp only [List.length_cons] at hl hi kk
    obtain ⟨hc1, hc2, hcd, hc4⟩ := hc
    have go : ∀ (k : Nat) (x : Int32), m_stk (px_up X 76 k x) (e_step nm c st) → chk (e_step nm c st).length cs = some h → (e_step nm c st).length ≤ st.length + 1 → m_hd l e s (px_up X 76 k x) J (i + 1) (e_step nm c st).length Q := by
      intro k x g1 g2 g3
      refine ih (i + 1) h (e_step nm c st) _ (m_code_congr (px_up_row (by omega)) (px_up_row (by omega)) cs _ hc4) g1 g2 (by omega) (by omega) (fun a ha => by rw [px_up_row (by omega)]; exact hnm a ha) ?_
      intro X' h1 h2
      have := kk X' (fun q hq => by rw [h1 q hq, px_up_row hq]) h2
      rw [show i + 1 + cs.length = i + (cs.length + 1) by omega]
      exact this
    unfold chk at hk
    by_cases h35 : c.1 = 35
    · have e1 : e_step nm c st = c.2 :: st := by unfold e_step; rw [if_pos h35]
      rw [if_pos (by simp [e_push, h35])] at hk
      rw [e1] at go
      exact mw_num (by omega) he (by omega) (hc1.trans (by rw [h35]; rfl)) (hc2 (Or.inl h35)) (go _ _ ⟨px_up_same, m_stk_up _ (Nat.le_refl _) hs⟩ hk (by simp))
    by_cases h36 : c.1 = 36
    · have e1 : e_step nm c st = nm c.2 :: st := by unfold e_step; rw [if_neg h35, if_pos h36]
      rw [if_pos (by simp [e_push, h36])] at hk
      rw [e1] at go
      have hx : c.2 = nI (ix c.2) ∧ ix c.2 < 6 := by
        rcases hcd with q | q | q | q | q
        · exact absurd q h35
        · exact q.2
        · rw [h36] at q; exact absurd q (by decide)
        · rw [h36] at q; exact absurd q (by decide)
        · rw [h36] at q; exact absurd q (by decide)
      refine mw_name (by omega) he (by omega) (hc1.trans (by rw [h36]; rfl)) ((hc2 (Or.inr h36)).trans hx.1) hx.2 (hnm _ hx.2) ?_
      rw [← hx.1]
      exact go _ _ ⟨px_up_same, m_stk_up _ (Nat.le_refl _) hs⟩ hk (by simp)
    rw [if_neg (by simp [e_push, h35, h36])] at hk
    split at hk
    · cases hk
    by_cases h33 : c.1 = 33
    · rw [if_pos (by simp [e_un, h33])] at hk
      split at hk
      · cases st with
        | nil => simp at *
        | cons a r =>
          have e1 : e_step nm c (a :: r) = (if a = 0 then 1 else 0) :: r := by unfold e_step; rw [if_neg h35, if_neg h36]; simp only; rw [if_pos h33]
          rw [e1] at go
          exact mw_not (by omega) he (by simp at hl; omega) (hc1.trans (by rw [h33]; rfl)) hs.1 (go _ _ ⟨px_up_same, m_stk_up _ (Nat.le_refl _) hs.2⟩ hk (by simp))
      · cases hk
    by_cases h126 : c.1 = 126
    · rw [if_pos (by simp [e_un, h126])] at hk
      split at hk
      · cases st with
        | nil => simp at *
        | cons a r =>
          have e1 : e_step nm c (a :: r) = (-a) :: r := by unfold e_step; rw [if_neg h35, if_neg h36]; simp only; rw [if_neg h33, if_pos h126]
          rw [e1] at go
          exact mw_neg (by omega) he (by simp at hl; omega) (hc1.trans (by rw [h126]; rfl)) hs.1 (go _ _ ⟨px_up_same, m_stk_up _ (Nat.le_refl _) hs.2⟩ hk (by simp))
      · cases hk
    rw [if_neg (by simp [e_un, h33, h126])] at hk
    have hsg : m_sign c.1 = true := by
      rcases hcd with q | q | q | q | q
      · exact absurd q h35
      · exact absurd q.1 h36
      · exact absurd q h33
      · exact absurd q h126
      · exact q
    obtain ⟨a1, n1, n2, n3, n4⟩ := m_act_no hsg
    split at hk
    · rename_i h2
      cases st with
      | nil => simp at h2
      | cons b r =>
        cases r with
        | nil => simp at h2
        | cons a r' =>
          have e1 : e_step nm c (b :: a :: r') = s_join c.1 a b :: r' := by unfold e_step; rw [if_neg h35, if_neg h36]; simp only; rw [if_neg h33, if_neg h126]
          rw [e1] at go
          refine mw_bin (by omega) he (by simp at hl; omega) (hc1.trans a1) n1 n2 n3 n4 hs.2.1 hs.1 ?_
          rw [m_two_join hsg]
          exact go _ _ ⟨px_up_same, m_stk_up _ (Nat.le_refl _) hs.2.2⟩ hk (by simp)
    · cases hk
theorem mw_end {l : Launch} {J : px_J} {Q : px_Q} {e t : Nat} {s a : Int32} {X : px_I} (he : e ≤ 130) (hs : X 76 0 = a) (hQ : Q (some (.int a)) X J) : m_hd l e s X J e t Q := by
  intro v6
  refine V0_iload (pc := 12) dX12_worked_12 rfl ?_
  refine V0_sipush (pc := 14) (130) dX12_worked_14 (by decide) ?_
  refine V0_iload_n (pc := 17) dX12_worked_17 rfl ?_
  refine V0_imul (pc := 18) dX12_worked_18 ?_
  refine V0_iload_n (pc := 19) dX12_worked_19 rfl ?_
  refine V0_iadd (pc := 20) dX12_worked_20 ?_
  rw [m_e130]
  refine V1_icmp_ge (pc := 21) 188 dX12_worked_21 (by decide) (fun h21 => ?_) (fun h21 => ?_)
  · skip
    refine V0_aload_n (pc := 188) dX12_worked_188 rfl ?_
    refine V_getr (pc := 189) dX12_worked_189 flX12_75 rfl rfl ?_
    refine V0_iconst (pc := 192) (0) dX12_worked_192 (by decide) ?_
    refine V_iald (pc := 193) 0 dX12_worked_193 rfl (by decide) (by decide) ?_
    rw [hs]
    refine V_reti (pc := 194) _ dX12_worked_194 rfl ?_
    exact hQ
  · skip
    exact absurd ((qI_lt (a := e) (b := e) (by omega) (by omega)).mp h21) (by omega)
theorem c_X12_worked {l : Launch} {X : px_I} {J : px_J} {i e : Nat} {cs : List l_C} {nm : Int32 → Int32} (hc : m_code X i cs) (hk : chk 0 cs = some 1) (hl : i + cs.length = e) (he : e ≤ 129) (hnm : ∀ a, a < 6 → X 75 a = nm (nI a)) : Ct l mX12_worked 1 [.ref 54, .int 0, .int (nI i), .int (nI e)] X J (fun r I' J' => r = some (.int (e_val nm cs)) ∧ (∀ q, q ≠ 76 → I' q = X q) ∧ J' = J) := by
  have key : m_hd l e (nI i) X J i 0 (fun r I' J' => r = some (.int (e_val nm cs)) ∧ (∀ q, q ≠ 76 → I' q = X q) ∧ J' = J) := by
    refine m_run1 (nm := nm) (by omega) cs i 1 [] X hc trivial hk (by simp; omega) (by omega) hnm ?_
    intro X' h1 h2
    obtain ⟨a, ea⟩ := one_of_len (e_run_len (nm := nm) cs [] 1 hk)
    rw [ea] at h2 ⊢
    rw [hl]
    refine mw_end (by omega) h2.1 ⟨by unfold e_val; rw [ea], h1, rfl⟩
  refine Ct.of plX12_worked (Nat.le_of_ble_eq_true rfl) [.ref 54, .int 0, .int (nI i), .int (nI e), .null, .null, .null] rfl ?_
  refine V0_iconst (pc := 0) (0) dX12_worked_0 (by decide) ?_
  refine V0_istore_4 (pc := 1) dX12_worked_1 (by decide) rfl ?_
  refine V0_sipush (pc := 3) (130) dX12_worked_3 (by decide) ?_
  refine V0_iload_n (pc := 6) dX12_worked_6 rfl ?_
  refine V0_imul (pc := 7) dX12_worked_7 ?_
  refine V0_iload_n (pc := 8) dX12_worked_8 rfl ?_
  refine V0_iadd (pc := 9) dX12_worked_9 ?_
  rw [m_e130]
  refine V0_istore_5 (pc := 10) dX12_worked_10 (by decide) rfl ?_
  exact key _
def m_lns (X : px_I) (b : Nat) : Nat → Nat → List l_L → Prop
  | _, _, [] => True
  | l, f, L :: r => X 73 l = nI (f + L.1.length) ∧ X 74 l = nI (f + L.1.length + L.2.length) ∧ m_code X (b + f) (L.1 ++ L.2) ∧ m_lns X b (l + 1) (f + L.1.length + L.2.length) r
def m_len : List l_L → Nat
  | [] => 0
  | L :: r => L.1.length + L.2.length + m_len r
def m_law (X : px_I) (Ls : List l_L) : Prop := m_lns X 0 0 0 Ls ∧ X 72 0 = nI Ls.length ∧ Ls.length ≤ 61 ∧ m_len Ls ≤ 129 ∧ (∀ L, L ∈ Ls → l_good L) ∧ X 54 32 = b2 (!Ls.isEmpty)
theorem m_lns_congr {X Y : px_I} {b : Nat} (h0 : Y 70 = X 70) (h1 : Y 71 = X 71) (h3 : Y 73 = X 73) (h4 : Y 74 = X 74) : ∀ (Ls : List l_L) (l f : Nat), m_lns X b l f Ls → m_lns Y b l f Ls := by
  intro Ls
  induction Ls with
  | nil => intro l f _; trivial
  | cons L r ih => intro l f h; exact ⟨by rw [h3]; exact h.1, by rw [h4]; exact h.2.1, m_code_congr h0 h1 _ _ h.2.2.1, ih _ _ h.2.2.2⟩
theorem m_e61 (e : Nat) : (61 : Int32) * 0 + nI e = nI e := by simp
theorem lp_X12_gives {l : Launch} {J : px_J} {N : Nat} {nm : Int32 → Int32} {Q : px_Q} (hN : N ≤ 61) : ∀ (Ls : List l_L) (i f : Nat) (X : px_I), m_lns X 0 i f Ls → i + Ls.length = N → f + m_len Ls ≤ 129 → (∀ L, L ∈ Ls → l_good L) → X 72 0 = nI N → (∀ a, a < 6 → X 75 a = nm (nI a)) → (∀ X' : px_I, (∀ q, q ≠ 76 → X' q = X q) → Q (some (.int (e_lines nm Ls))) X' J) → V0 l (px_rm 2 0 0) mX12_gives (false, []) 0 0 7 [.ref 54, .int 0, .int (nI f), .int (nI i)] [] (px_mk X J) (px_q Q) := by
  intro Ls
  induction Ls with
  | nil =>
    intro i f X _ hi _ _ h72 _ hQ
    obtain rfl : i = N := by simpa using hi
    refine V0_iload_n (pc := 7) dX12_gives_7 rfl ?_
    refine V0_bipush (pc := 8) (61) dX12_gives_8 (by decide) ?_
    refine V0_iload_n (pc := 10) dX12_gives_10 rfl ?_
    refine V0_imul (pc := 11) dX12_gives_11 ?_
    refine V0_aload_n (pc := 12) dX12_gives_12 rfl ?_
    refine V_getr (pc := 13) dX12_gives_13 flX12_62 rfl rfl ?_
    refine V0_iload_n (pc := 16) dX12_gives_16 rfl ?_
    refine V_iald (pc := 17) 0 dX12_gives_17 rfl rfl (by omega) ?_
    rw [h72]
    refine V0_iadd (pc := 18) dX12_gives_18 ?_
    rw [m_e61]
    refine V1_icmp_ge (pc := 19) 78 dX12_gives_19 (by decide) (fun h19 => ?_) (fun h19 => ?_)
    · skip
      refine V0_iconst (pc := 78) (0) dX12_gives_78 (by decide) ?_
      refine V_reti (pc := 79) _ dX12_gives_79 rfl ?_
      exact hQ X (fun _ _ => rfl)
    · skip
      exact absurd ((qI_lt (a := i) (b := i) (by omega) (by omega)).mp h19) (by omega)
  | cons L r ih =>
    intro i f X hl hi hf hg h72 hnm hQ
    obtain ⟨hg2, hg1⟩ := hg L List.mem_cons_self
    obtain ⟨l1, l2, l3, l4⟩ := hl
    rw [Nat.zero_add] at l3
    obtain ⟨l3a, l3b⟩ := (m_code_app _ _ _).mp l3
    simp only [List.length_cons] at hi
    simp only [m_len] at hf
    have hlt : nI i < nI N := (qI_lt (by omega) (by omega)).mpr (by omega)
    -- the value of the line, over any state like it
    have ex : ∀ Y : px_I, (∀ q, q ≠ 76 → Y q = X q) → (∀ X' : px_I, (∀ q, q ≠ 76 → X' q = X q) → Q (some (.int (e_val nm L.2))) X' J) → V0 l (px_rm 2 0 0) mX12_gives (false, []) 0 0 47 [.ref 54, .int 0, .int (nI f), .int (nI i)] [] (px_mk Y J) (px_q Q) := by
      intro Y hY hq
      have hc := c_X12_worked (l := l) (X := Y) (J := J) (nm := nm) (e := f + L.1.length + L.2.length) (m_code_congr (hY _ (by omega)) (hY _ (by omega)) _ _ l3b) hg2 rfl (by omega) (fun a ha => by rw [hY _ (by omega)]; exact hnm a ha)
      refine V0_aload_n (pc := 47) dX12_gives_47 rfl ?_
      refine V0_iload_n (pc := 48) dX12_gives_48 rfl ?_
      refine V0_aload_n (pc := 49) dX12_gives_49 rfl ?_
      refine V_getr (pc := 50) dX12_gives_50 flX12_65 rfl rfl ?_
      refine V0_iload_n (pc := 53) dX12_gives_53 rfl ?_
      refine V_sald (pc := 54) i dX12_gives_54 rfl rfl (by omega) ?_
      rw [hY 73 (by omega), l1]
      refine V0_aload_n (pc := 55) dX12_gives_55 rfl ?_
      refine V_getr (pc := 56) dX12_gives_56 flX12_69 rfl rfl ?_
      refine V0_iload_n (pc := 59) dX12_gives_59 rfl ?_
      refine V_sald (pc := 60) i dX12_gives_60 rfl rfl (by omega) ?_
      rw [hY 74 (by omega), l2]
      refine V_callV (pc := 61) (M' := mX12_worked) dX12_gives_61 mlX12_245 okX12_worked rfl hc rfl rfl rfl rfl ⟨Nat.le_of_ble_eq_true rfl, Nat.le_of_ble_eq_true rfl⟩ ⟨Nat.le_refl 0, Nat.le_refl 0⟩ (Nat.le_of_ble_eq_true rfl) ?_
      intro r1 I1 J1 hh
      obtain ⟨e1, hfr, e3⟩ := hh
      rw [e1, e3]
      clear e1 e3 r1 J1
      refine V_reti (pc := 64) _ dX12_gives_64 rfl ?_
      exact hq _ (fun q a => (hfr q a).trans (hY q a))
    have nx : ∀ Y : px_I, (∀ q, q ≠ 76 → Y q = X q) → ¬ (L.1 = [] ∨ e_val nm L.1 ≠ 0) → V0 l (px_rm 2 0 0) mX12_gives (false, []) 0 0 65 [.ref 54, .int 0, .int (nI f), .int (nI i)] [] (px_mk Y J) (px_q Q) := by
      intro Y hY hn
      have h2 := ih (i + 1) (f + L.1.length + L.2.length) Y (m_lns_congr (hY _ (by omega)) (hY _ (by omega)) (hY _ (by omega)) (hY _ (by omega)) _ _ _ l4) (by omega) (by omega) (fun L' q => hg L' (List.mem_cons_of_mem _ q)) (by rw [hY _ (by omega)]; exact h72) (fun a ha => by rw [hY _ (by omega)]; exact hnm a ha) (fun X' hX' => by have := hQ X' (fun q a => (hX' q a).trans (hY q a)); rw [e_lines, if_neg hn] at this; exact this)
      refine V0_aload_n (pc := 65) dX12_gives_65 rfl ?_
      refine V_getr (pc := 66) dX12_gives_66 flX12_69 rfl rfl ?_
      refine V0_iload_n (pc := 69) dX12_gives_69 rfl ?_
      refine V_sald (pc := 70) i dX12_gives_70 rfl rfl (by omega) ?_
      rw [hY 74 (by omega), l2]
      refine V0_istore_2 (pc := 71) dX12_gives_71 (by decide) rfl ?_
      refine V0_iinc_3 (pc := 72) (nI (i + 1)) dX12_gives_72 (by decide) rfl (nI_1 _) ?_
      refine V0_goto (pc := 75) 7 dX12_gives_75 (by decide) ?_
      exact h2
    by_cases ht : L.1 = []
    · have e0 : nI (f + L.1.length) = nI f := by rw [ht]; rfl
      refine V0_iload_n (pc := 7) dX12_gives_7 rfl ?_
      refine V0_bipush (pc := 8) (61) dX12_gives_8 (by decide) ?_
      refine V0_iload_n (pc := 10) dX12_gives_10 rfl ?_
      refine V0_imul (pc := 11) dX12_gives_11 ?_
      refine V0_aload_n (pc := 12) dX12_gives_12 rfl ?_
      refine V_getr (pc := 13) dX12_gives_13 flX12_62 rfl rfl ?_
      refine V0_iload_n (pc := 16) dX12_gives_16 rfl ?_
      refine V_iald (pc := 17) 0 dX12_gives_17 rfl rfl (by omega) ?_
      rw [h72]
      refine V0_iadd (pc := 18) dX12_gives_18 ?_
      rw [m_e61]
      refine V1_icmp_ge (pc := 19) 78 dX12_gives_19 (by decide) (fun h19 => ?_) (fun h19 => ?_)
      · skip
        exact absurd hlt h19
      · skip
        refine V0_aload_n (pc := 22) dX12_gives_22 rfl ?_
        refine V_getr (pc := 23) dX12_gives_23 flX12_65 rfl rfl ?_
        refine V0_iload_n (pc := 26) dX12_gives_26 rfl ?_
        refine V_sald (pc := 27) i dX12_gives_27 rfl rfl (by omega) ?_
        rw [l1]
        refine V0_iload_n (pc := 28) dX12_gives_28 rfl ?_
        refine V0_icmp_eq (pc := 29) 47 dX12_gives_29 (by decide) (fun h29 => ?_) (fun h29 => ?_)
        · skip
          exact ex X (fun _ _ => rfl) (fun X' hX' => by have := hQ X' hX'; rw [e_lines, if_pos (Or.inl ht)] at this; exact this)
        · skip
          exact absurd e0 h29
    · have hpos : 0 < L.1.length := List.length_pos_iff.mpr ht
      have e0 : ¬ nI (f + L.1.length) = nI f := fun q => absurd ((qI_inj (by omega) (by omega)).mp q) (by omega)
      have hc := c_X12_worked (l := l) (X := X) (J := J) (nm := nm) (e := f + L.1.length) l3a (hg1.resolve_left ht) rfl (by omega) hnm
      refine V0_iload_n (pc := 7) dX12_gives_7 rfl ?_
      refine V0_bipush (pc := 8) (61) dX12_gives_8 (by decide) ?_
      refine V0_iload_n (pc := 10) dX12_gives_10 rfl ?_
      refine V0_imul (pc := 11) dX12_gives_11 ?_
      refine V0_aload_n (pc := 12) dX12_gives_12 rfl ?_
      refine V_getr (pc := 13) dX12_gives_13 flX12_62 rfl rfl ?_
      refine V0_iload_n (pc := 16) dX12_gives_16 rfl ?_
      refine V_iald (pc := 17) 0 dX12_gives_17 rfl rfl (by omega) ?_
      rw [h72]
      refine V0_iadd (pc := 18) dX12_gives_18 ?_
      rw [m_e61]
      refine V1_icmp_ge (pc := 19) 78 dX12_gives_19 (by decide) (fun h19 => ?_) (fun h19 => ?_)
      · skip
        exact absurd hlt h19
      · skip
        refine V0_aload_n (pc := 22) dX12_gives_22 rfl ?_
        refine V_getr (pc := 23) dX12_gives_23 flX12_65 rfl rfl ?_
        refine V0_iload_n (pc := 26) dX12_gives_26 rfl ?_
        refine V_sald (pc := 27) i dX12_gives_27 rfl rfl (by omega) ?_
        rw [l1]
        refine V0_iload_n (pc := 28) dX12_gives_28 rfl ?_
        refine V0_icmp_eq (pc := 29) 47 dX12_gives_29 (by decide) (fun h29 => ?_) (fun h29 => ?_)
        · skip
          exact absurd h29 e0
        · skip
          refine V0_aload_n (pc := 32) dX12_gives_32 rfl ?_
          refine V0_iload_n (pc := 33) dX12_gives_33 rfl ?_
          refine V0_iload_n (pc := 34) dX12_gives_34 rfl ?_
          refine V0_aload_n (pc := 35) dX12_gives_35 rfl ?_
          refine V_getr (pc := 36) dX12_gives_36 flX12_65 rfl rfl ?_
          refine V0_iload_n (pc := 39) dX12_gives_39 rfl ?_
          refine V_sald (pc := 40) i dX12_gives_40 rfl rfl (by omega) ?_
          rw [l1]
          refine V_callV (pc := 41) (M' := mX12_worked) dX12_gives_41 mlX12_245 okX12_worked rfl hc rfl rfl rfl rfl ⟨Nat.le_of_ble_eq_true rfl, Nat.le_of_ble_eq_true rfl⟩ ⟨Nat.le_refl 0, Nat.le_refl 0⟩ (Nat.le_of_ble_eq_true rfl) ?_
          intro r1 I1 J1 hh
          obtain ⟨e1, hfr, e3⟩ := hh
          rw [e1, e3]
          clear e1 e3 r1 J1
          refine V0_if_eq (pc := 44) 65 dX12_gives_44 (by decide) (fun h44 => ?_) (fun h44 => ?_)
          · skip
            exact nx I1 hfr (not_or.mpr ⟨ht, fun q => q h44⟩)
          · skip
            exact ex I1 hfr (fun X' hX' => by have := hQ X' hX'; rw [e_lines, if_pos (Or.inr h44)] at this; exact this)
theorem c_X12_gives {l : Launch} {X : px_I} {J : px_J} {Ls : List l_L} {nm : Int32 → Int32} (hl : m_law X Ls) (hnm : ∀ a, a < 6 → X 75 a = nm (nI a)) : Ct l mX12_gives 2 [.ref 54, .int 0] X J (fun r I' J' => r = some (.int (e_lines nm Ls)) ∧ (∀ q, q ≠ 76 → I' q = X q) ∧ J' = J) := by
  have h := lp_X12_gives (l := l) (J := J) (N := Ls.length) (nm := nm) (Q := fun r I' J' => r = some (.int (e_lines nm Ls)) ∧ (∀ q, q ≠ 76 → I' q = X q) ∧ J' = J) hl.2.2.1 Ls 0 0 X hl.1 (by omega) (by have := hl.2.2.2.1; omega) hl.2.2.2.2.1 hl.2.1 hnm (fun X' hX' => ⟨rfl, hX', rfl⟩)
  refine Ct.of plX12_gives (Nat.le_of_ble_eq_true rfl) [.ref 54, .int 0, .null, .null] rfl ?_
  refine V0_iconst (pc := 0) (0) dX12_gives_0 (by decide) ?_
  refine V0_istore_2 (pc := 1) dX12_gives_1 (by decide) rfl ?_
  refine V0_bipush (pc := 2) (61) dX12_gives_2 (by decide) ?_
  refine V0_iload_n (pc := 4) dX12_gives_4 rfl ?_
  refine V0_imul (pc := 5) dX12_gives_5 ?_
  refine V_topc 0 (by decide) ?_
  refine V0_istore_3 (pc := 6) dX12_gives_6 (by decide) rfl ?_
  exact h

