/-! bits: the first family began as a starting text of the kit -/
def bt (x : Int32) (i : Nat) : Bool := x.toBitVec.getLsbD i
theorem bt_ext {x y : Int32} (h : ∀ i, i < 32 → bt x i = bt y i) : x = y := Int32.toBitVec_inj.mp (BitVec.eq_of_getLsbD_eq (fun i hi => h i hi))
theorem bt_or (x y : Int32) (i : Nat) : bt (x ||| y) i = (bt x i || bt y i) := by unfold bt; rw [Int32.toBitVec_or, BitVec.getLsbD_or]
theorem bt_and (x y : Int32) (i : Nat) : bt (x &&& y) i = (bt x i && bt y i) := by unfold bt; rw [Int32.toBitVec_and, BitVec.getLsbD_and]
theorem bt_xor (x y : Int32) (i : Nat) : bt (x ^^^ y) i = (bt x i ^^ bt y i) := by unfold bt; rw [Int32.toBitVec_xor, BitVec.getLsbD_xor]
theorem bt_big {x : Int32} {i : Nat} (h : 32 ≤ i) : bt x i = false := BitVec.getLsbD_of_ge _ _ h
theorem bt_m1 : ∀ i, i < 32 → bt (-1) i = true := by decide +kernel
theorem bt_0 (i : Nat) : bt 0 i = false := BitVec.getLsbD_zero
theorem bt_sl : ∀ n, n < 32 → ((nI n &&& 31).toBitVec.smod 32).toNat = n := by decide +kernel
theorem bt_su : ∀ n, n < 32 → (((nI n).toUInt32 &&& Int32.toUInt32 31).toBitVec % 32).toNat = n := by decide +kernel
theorem bt_shl (n : Nat) (hn : n < 32) (x : Int32) {i : Nat} (hi : i < 32) : bt (x <<< (nI n &&& 31)) i = (decide (n ≤ i) && bt x (i - n)) := by
  unfold bt
  rw [Int32.toBitVec_shiftLeft]
  show (x.toBitVec <<< ((nI n &&& 31).toBitVec.smod 32).toNat).getLsbD i = _
  rw [bt_sl n hn, BitVec.getLsbD_shiftLeft]
  rcases Nat.lt_or_ge i n with h | h
  · simp [h, Nat.not_le.mpr h]
  · simp [hi, h, Nat.not_lt.mpr h]
theorem bt_ushr (n : Nat) (hn : n < 32) (x : Int32) (i : Nat) : bt ((x.toUInt32 >>> ((nI n).toUInt32 &&& Int32.toUInt32 31)).toInt32) i = bt x (n + i) := by
  show (x.toUInt32 >>> ((nI n).toUInt32 &&& Int32.toUInt32 31)).toBitVec.getLsbD i = x.toUInt32.toBitVec.getLsbD (n + i)
  rw [UInt32.toBitVec_shiftRight]
  show (x.toUInt32.toBitVec >>> (((nI n).toUInt32 &&& Int32.toUInt32 31).toBitVec % 32).toNat).getLsbD i = _
  rw [bt_su n hn, BitVec.getLsbD_ushiftRight]
theorem bt_sshr (n : Nat) (hn : n < 32) (x : Int32) {i : Nat} (hi : i < 32) : bt (x >>> (nI n &&& 31)) i = if n + i < 32 then bt x (n + i) else bt x 31 := by
  unfold bt
  rw [Int32.toBitVec_shiftRight]
  show (x.toBitVec.sshiftRight ((nI n &&& 31).toBitVec.smod 32).toNat).getLsbD i = _
  rw [bt_sl n hn, BitVec.getLsbD_sshiftRight, BitVec.msb_eq_getLsbD_last]
  simp [hi]
theorem bt_1 : ∀ i, i < 32 → bt 1 i = decide (i = 0) := by decide +kernel
theorem bt_pw (q : Nat) (hq : q < 32) {i : Nat} (hi : i < 32) : bt ((1 : Int32) <<< (nI q &&& 31)) i = decide (i = q) := by
  rw [bt_shl q hq 1 hi]
  by_cases e : i = q
  · subst e
    rw [Nat.sub_self, bt_1 0 (by omega), decide_eq_true (Nat.le_refl i)]
    simp
  · by_cases h : q ≤ i
    · rw [bt_1 (i - q) (by omega), decide_eq_false (show ¬ i - q = 0 by omega), decide_eq_false e, Bool.and_false]
    · rw [decide_eq_false h, decide_eq_false e, Bool.false_and]
theorem bt_has {s : Int32} {j : Nat} (hj : j < 32) : m_has s (nI j) = bt s j := by
  have e : bt ((s >>> (nI j &&& 31)) &&& 1) 0 = bt s j := by
    rw [bt_and, bt_1 0 (by omega), bt_sshr j hj s (by omega), if_pos (by omega)]
    simp
  unfold m_has
  by_cases h : ((s >>> (nI j &&& 31)) &&& 1) = 1
  · rw [decide_eq_true h, ← e, h]
    decide +kernel
  · rw [decide_eq_false h, ← e]
    cases hb : bt ((s >>> (nI j &&& 31)) &&& 1) 0 with
    | false => rfl
    | true =>
      exfalso
      apply h
      apply bt_ext
      intro i hi
      by_cases h0 : i = 0
      · subst h0
        rw [hb]
        decide +kernel
      · rw [bt_and, bt_1 i hi, decide_eq_false h0, Bool.and_false]
theorem bt_bits {f : Nat → Bool} : ∀ n, n ≤ 31 → ∀ i, i < 32 → bt (s_bits f n) i = (decide (i < n) && f i) := by
  intro n
  induction n with
  | zero =>
    intro _ i _
    rw [decide_eq_false (Nat.not_lt_zero i), Bool.false_and]
    exact bt_0 i
  | succ n ih =>
    intro hn i hi
    have h1 := ih (by omega) i hi
    unfold s_bits
    by_cases hf : f n = true
    · rw [if_pos hf, bt_or, h1, bt_pw n (by omega) hi]
      by_cases e : i = n
      · subst e
        rw [hf]
        simp
      · rw [decide_eq_false e, Bool.or_false]
        congr 1
        exact decide_eq_decide.mpr ⟨fun q => by omega, fun q => by omega⟩
    · rw [if_neg hf, h1]
      by_cases e : i = n
      · subst e
        rw [Bool.eq_false_iff.mpr hf, Bool.and_false, Bool.and_false]
      · congr 1
        exact decide_eq_decide.mpr ⟨fun q => by omega, fun q => by omega⟩
theorem s_bits_has {f : Nat → Bool} {n j : Nat} (hn : n ≤ 31) (hj : j < n) : m_has (s_bits f n) (nI j) = f j := by
  rw [bt_has (by omega), bt_bits n hn j (by omega), decide_eq_true hj, Bool.true_and]
theorem s_bits_or {f : Nat → Bool} {n q : Nat} (hn : n ≤ 31) (hq : q < n) : s_bits f n ||| ((1 : Int32) <<< (nI q &&& 31)) = s_bits (fun p => f p || decide (p = q)) n := by
  apply bt_ext
  intro i hi
  rw [bt_or, bt_bits n hn i hi, bt_bits n hn i hi, bt_pw q (by omega) hi]
  by_cases e : i = q
  · subst e
    simp [hq]
  · simp [e]
theorem s_worth_has {f : Nat → Bool} {w : Nat → Int32} {n : Nat} (hn : n ≤ 31) : s_sum (fun j => m_has (s_bits f n) (nI j)) w n = s_sum f w n := s_sum_congr n (fun j hj => ⟨s_bits_has hn hj, rfl⟩)
/-! how many bits, by taking the least away -/
def m_bo : Nat → Int32 → Int32 → Int32
  | 0, c, _ => c
  | f + 1, c, x => if x = 0 then c else m_bo f (c + 1) (x &&& (x - 1))
def m_bz : Nat → Int32 → Bool
  | 0, x => decide (x = 0)
  | f + 1, x => decide (x = 0) || m_bz f (x &&& (x - 1))
theorem m_bo_bc : ∀ a, a < 64 → ∀ b, b < 64 → m_bz 12 (nI (64 * a + b)) = true ∧ m_bo 13 0 (nI (64 * a + b)) = s_bc (nI (64 * a + b)) := by decide +kernel
theorem lp_X12_bitsOf {l : Launch} {I : px_I} {J : px_J} {v y : Int32} {Q : px_Q} (hQ : Q (some (.int y)) I J) : ∀ (f : Nat) (c x : Int32), m_bz f x = true → m_bo (f + 1) c x = y → V0 l (px_rm 0 0 0) mX12_bitsOf (false, []) 0 0 4 [.int v, .int c, .int x] [] (px_mk I J) (px_q Q) := by
  intro f
  induction f with
  | zero =>
    intro c x h1 h2
    have h0 : x = 0 := of_decide_eq_true h1
    rw [m_bo, if_pos h0] at h2
    subst h2
    refine V0_iload_n (pc := 4) dX12_bitsOf_4 rfl ?_
    refine V0_if_eq (pc := 5) 20 dX12_bitsOf_5 (by decide) (fun h5 => ?_) (fun h5 => ?_)
    · skip
      refine V0_iload_n (pc := 20) dX12_bitsOf_20 rfl ?_
      refine V_reti (pc := 21) _ dX12_bitsOf_21 rfl ?_
      exact hQ
    · skip
      exact absurd h0 h5
  | succ f ih =>
    intro c x h1 h2
    refine V0_iload_n (pc := 4) dX12_bitsOf_4 rfl ?_
    refine V0_if_eq (pc := 5) 20 dX12_bitsOf_5 (by decide) (fun h5 => ?_) (fun h5 => ?_)
    · skip
      refine V0_iload_n (pc := 20) dX12_bitsOf_20 rfl ?_
      refine V_reti (pc := 21) _ dX12_bitsOf_21 rfl ?_
      rw [m_bo, if_pos h5] at h2
      subst h2
      exact hQ
    · skip
      refine V0_iinc_1 (pc := 8) (c + 1) dX12_bitsOf_8 (by decide) rfl rfl ?_
      refine V0_iload_n (pc := 11) dX12_bitsOf_11 rfl ?_
      refine V0_iload_n (pc := 12) dX12_bitsOf_12 rfl ?_
      refine V0_iconst (pc := 13) (1) dX12_bitsOf_13 (by decide) ?_
      refine V0_isub (pc := 14) dX12_bitsOf_14 ?_
      refine V0_iand (pc := 15) dX12_bitsOf_15 ?_
      refine V0_istore_2 (pc := 16) dX12_bitsOf_16 (by decide) rfl ?_
      refine V0_goto (pc := 17) 4 dX12_bitsOf_17 (by decide) ?_
      exact ih _ _ (by rw [m_bz, decide_eq_false h5, Bool.false_or] at h1; exact h1) (by rw [m_bo, if_neg h5] at h2; exact h2)
theorem c_X12_bitsOf {l : Launch} {I : px_I} {J : px_J} {w : Nat} (hw : w < 4096) : CtI l mX12_bitsOf 0 [.int (nI w)] I J (s_bc (nI w)) := by
  have h := m_bo_bc (w / 64) (by omega) (w % 64) (by omega)
  rw [show 64 * (w / 64) + w % 64 = w from by omega] at h
  refine Ct.of plX12_bitsOf (Nat.le_of_ble_eq_true rfl) [.int (nI w), .null, .null] rfl ?_
  refine V0_iconst (pc := 0) (0) dX12_bitsOf_0 (by decide) ?_
  refine V0_istore_1 (pc := 1) dX12_bitsOf_1 (by decide) rfl ?_
  refine V0_iload_n (pc := 2) dX12_bitsOf_2 rfl ?_
  refine V0_istore_2 (pc := 3) dX12_bitsOf_3 (by decide) rfl ?_
  exact lp_X12_bitsOf ⟨rfl, rfl, rfl⟩ 12 0 _ h.1 h.2

