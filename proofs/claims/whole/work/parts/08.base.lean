/-! rows with conditions told by = and < alone; switches; the course and the law as places -/
section PB
variable {l : Launch} {R : Room} {M : px_M} {XT : px_X} {kc ks pc : Nat} {ls st : List Value} {h : px_H} {Q : Option Value → px_H → Prop}
theorem px_nlt {x y : Int32} : ¬ x < y ↔ y ≤ x := by
  rw [Int32.lt_iff_toInt_lt, Int32.le_iff_toInt_le]; omega
theorem px_nle {x y : Int32} : ¬ x ≤ y ↔ y < x := by
  rw [Int32.lt_iff_toInt_lt, Int32.le_iff_toInt_le]; omega
theorem V1_if_ge {x : Int32} {off : Int} (tgt : Nat) (hd : decode M.2.1 pc = .ok (.ifCond .ge off, 3)) (ht : (pc : Int) + off = (tgt : Int)) (kt : ¬ x < 0 → V0 l R M XT kc ks tgt ls st h Q) (kf : x < 0 → V0 l R M XT kc ks (pc + 3) ls st h Q) : V0 l R M XT kc ks pc ls (.int x :: st) h Q :=
  V0_if_ge tgt hd ht (fun q => kt (px_nlt.mpr q)) (fun q => kf (px_nle.mp q))
theorem V1_if_le {x : Int32} {off : Int} (tgt : Nat) (hd : decode M.2.1 pc = .ok (.ifCond .le off, 3)) (ht : (pc : Int) + off = (tgt : Int)) (kt : ¬ 0 < x → V0 l R M XT kc ks tgt ls st h Q) (kf : 0 < x → V0 l R M XT kc ks (pc + 3) ls st h Q) : V0 l R M XT kc ks pc ls (.int x :: st) h Q :=
  V0_if_le tgt hd ht (fun q => kt (px_nlt.mpr q)) (fun q => kf (px_nle.mp q))
theorem V1_icmp_ge {x y : Int32} {off : Int} (tgt : Nat) (hd : decode M.2.1 pc = .ok (.if_icmp .ge off, 3)) (ht : (pc : Int) + off = (tgt : Int)) (kt : ¬ x < y → V0 l R M XT kc ks tgt ls st h Q) (kf : x < y → V0 l R M XT kc ks (pc + 3) ls st h Q) : V0 l R M XT kc ks pc ls (.int y :: .int x :: st) h Q :=
  V0_icmp_ge tgt hd ht (fun q => kt (px_nlt.mpr q)) (fun q => kf (px_nle.mp q))
theorem V1_icmp_le {x y : Int32} {off : Int} (tgt : Nat) (hd : decode M.2.1 pc = .ok (.if_icmp .le off, 3)) (ht : (pc : Int) + off = (tgt : Int)) (kt : ¬ y < x → V0 l R M XT kc ks tgt ls st h Q) (kf : y < x → V0 l R M XT kc ks (pc + 3) ls st h Q) : V0 l R M XT kc ks pc ls (.int y :: .int x :: st) h Q :=
  V0_icmp_le tgt hd ht (fun q => kt (px_nlt.mpr q)) (fun q => kf (px_nle.mp q))
theorem px_ne {x c : Int32} {k : Int} (h : ¬ x = c) (hc : c.toInt = k) : x.toInt ≠ k := fun q => h (Int32.toInt_inj.mp (by rw [hc]; exact q))
theorem V_tabIn {dflt lo hi : Int} {offs : Array Int} {len : Nat} {x : Int32} {off : Int} (c : Int32) (tgt : Nat) (hd : decode M.2.1 pc = .ok (.tableswitch dflt lo hi offs, len)) (hx : x = c) (h1 : ¬ c.toInt < lo) (h2 : ¬ hi < c.toInt) (ho : offs[(c.toInt - lo).toNat]? = some off) (ht : (pc : Int) + off = (tgt : Int)) (k : V0 l R M XT kc ks tgt ls st h Q) : V0 l R M XT kc ks pc ls (.int x :: st) h Q := by
  subst hx
  exact V0_tableIn tgt hd h1 h2 ho ht k
theorem V_tabOut {dflt lo hi : Int} {offs : Array Int} {len : Nat} {x : Int32} (tgt : Nat) (hd : decode M.2.1 pc = .ok (.tableswitch dflt lo hi offs, len)) (h1 : x.toInt < lo ∨ hi < x.toInt) (ht : (pc : Int) + dflt = (tgt : Int)) (k : V0 l R M XT kc ks tgt ls st h Q) : V0 l R M XT kc ks pc ls (.int x :: st) h Q := V0_tableOut tgt hd h1 ht k
theorem V_lookIn {dflt : Int} {ps : Array (Int × Int)} {len : Nat} {x : Int32} {off : Int} (c : Int32) (tgt : Nat) (hd : decode M.2.1 pc = .ok (.lookupswitch dflt ps, len)) (hx : x = c) (hp : (ps.toList.zip (ps.toList.drop 1)).all (fun (a, next) => a.1 < next.1) = true) (ho : Op.lookupswitch.offset ps.toList dflt c.toInt = off) (ht : (pc : Int) + off = (tgt : Int)) (k : V0 l R M XT kc ks tgt ls st h Q) : V0 l R M XT kc ks pc ls (.int x :: st) h Q := by
  subst hx
  exact V0_lookup tgt hd hp ho ht k
end PB
/-- p is the place of a course: its arrays follow -/
def px_cs (p : Nat) : Prop := px_sh[p]? = some (.inr (2, [some (.ref (p + 1)), some (.ref (p + 2)), some (.ref (p + 3)), some (.ref (p + 4)), none, none, some (.ref 1)])) ∧ px_sh[p + 1]? = some (.inl (0, 7)) ∧ px_sh[p + 2]? = some (.inl (0, 10)) ∧ px_sh[p + 3]? = some (.inl (0, 10)) ∧ px_sh[p + 4]? = some (.inl (0, 6)) ∧ 8 ≤ p
theorem cs8 : px_cs 8 := ⟨rfl, rfl, rfl, rfl, rfl, by decide⟩
theorem cs23 : px_cs 23 := ⟨rfl, rfl, rfl, rfl, rfl, by decide⟩
theorem cs43 : px_cs 43 := ⟨rfl, rfl, rfl, rfl, rfl, by decide⟩
/-- p is the place of a law -/
def px_lw (p : Nat) : Prop := px_sh[p]? = some (.inr (3, [some (.ref (p + 1)), some (.ref (p + 2)), some (.ref (p + 3)), some (.ref (p + 4)), none])) ∧ px_sh[p + 1]? = some (.inl (0, 6)) ∧ px_sh[p + 2]? = some (.inl (0, 128)) ∧ px_sh[p + 3]? = some (.inl (0, 128)) ∧ px_sh[p + 4]? = some (.inl (0, 128)) ∧ 8 ≤ p
theorem lw14 : px_lw 14 := ⟨rfl, rfl, rfl, rfl, rfl, by decide⟩
theorem lw34 : px_lw 34 := ⟨rfl, rfl, rfl, rfl, rfl, by decide⟩
/-- an index held as an int -/
def ix (x : Int32) : Nat := x.toNatClampNeg
theorem ix_nI {n : Nat} (h : n < 2 ^ 31) : ix (nI n) = n := Int32.toNatClampNeg_ofNat_of_lt h
theorem nI_ix {x : Int32} (h : ¬ x < 0) : x = nI (ix x) := by
  apply Int32.toInt_inj.mp
  have h0 : 0 ≤ x.toInt := by
    have := px_nlt.mp h
    rw [Int32.le_iff_toInt_le] at this
    simpa using this
  have hx : x.toInt < 2 ^ 31 := Int32.toInt_lt x
  unfold nI ix
  rw [Int32.toInt_ofNat_of_lt (by show x.toInt.toNat < _; omega)]
  show x.toInt = (x.toInt.toNat : Int)
  omega
theorem qI_lt {a b : Nat} (ha : a < 2 ^ 31) (hb : b < 2 ^ 31) : nI a < nI b ↔ a < b := by
  rw [Int32.lt_iff_toInt_lt, nI_toInt ha, nI_toInt hb]; omega
theorem qI_inj {a b : Nat} (ha : a < 2 ^ 31) (hb : b < 2 ^ 31) : nI a = nI b ↔ a = b := by
  rw [← Int32.toInt_inj, nI_toInt ha, nI_toInt hb]; omega
theorem nI_nn {a : Nat} (ha : a < 2 ^ 31) : ¬ nI a < 0 := by
  rw [Int32.lt_iff_toInt_lt, nI_toInt ha]; simp
theorem ix_lt {x : Int32} {n : Nat} (h0 : ¬ x < 0) (hn : n < 2 ^ 31) (h : x < nI n) : ix x < n := by
  rw [nI_ix h0] at h
  have hx : x.toInt < 2 ^ 31 := Int32.toInt_lt x
  refine (qI_lt ?_ hn).mp h
  show x.toInt.toNat < 2 ^ 31
  omega
theorem px_li {x y : Int32} {I : px_I} {J : px_J} (h : x = y) : (fun (r : Option Value) (I' : px_I) (J' : px_J) => r = some (.int y) ∧ I' = I ∧ J' = J) (some (.int x)) I J := ⟨by rw [h], rfl, rfl⟩
