/-! acts of the law -/
theorem ac_tr : ∀ k, k < 8 → ∀ a, a < 4 → a_tr (nI k) 40 (nI k) a = m_atr (nI k) (nI a) := by decide +kernel
theorem ac_k8 {P : Nat → Prop} (h0 : P 0) (h1 : P 1) (h2 : P 2) (h3 : P 3) (h4 : P 4) (h5 : P 5) (h6 : P 6) (h7 : P 7) : ∀ k, k < 8 → P k := by
  intro k hk
  have hc : k = 0 ∨ k = 1 ∨ k = 2 ∨ k = 3 ∨ k = 4 ∨ k = 5 ∨ k = 6 ∨ k = 7 := by omega
  rcases hc with e | e | e | e | e | e | e | e <;> rw [e] <;> assumption
theorem ac_k4 {P : Nat → Prop} (h0 : P 0) (h1 : P 1) (h2 : P 2) (h3 : P 3) : ∀ k, k < 4 → P k := by
  intro k hk
  have hc : k = 0 ∨ k = 1 ∨ k = 2 ∨ k = 3 := by omega
  rcases hc with e | e | e | e <;> rw [e] <;> assumption
theorem ac_vl (b x : Int32) : ∀ k, k < 8 → ∀ a, a < 4 → a_vl b (nI k) 40 (nI k) a x = m_av (nI k) b (nI a) x := ac_k8 (ac_k4 rfl rfl rfl rfl) (ac_k4 rfl rfl rfl rfl) (ac_k4 rfl rfl rfl rfl) (ac_k4 rfl rfl rfl rfl) (ac_k4 rfl rfl rfl rfl) (ac_k4 rfl rfl rfl rfl) (ac_k4 rfl rfl rfl rfl) (ac_k4 rfl rfl rfl rfl)

