/-! a law's lines: what they are worth -/
abbrev l_C : Type := Int32 × Int32
def e_push (c : l_C) : Bool := decide (c.1 = 35) || decide (c.1 = 36)
def e_un (c : l_C) : Bool := decide (c.1 = 33) || decide (c.1 = 126)
def e_sp (c : l_C) : Bool := decide (c.1 = 59) || decide (c.1 = 63)
def e_step (nm : Int32 → Int32) (c : l_C) (st : List Int32) : List Int32 :=
  if c.1 = 35 then c.2 :: st else if c.1 = 36 then nm c.2 :: st else
  match st with
  | [] => []
  | a :: r => if c.1 = 33 then (if a = 0 then 1 else 0) :: r else if c.1 = 126 then (-a) :: r else
    match r with
    | [] => []
    | b :: r' => s_join c.1 b a :: r'
def e_run (nm : Int32 → Int32) : List l_C → List Int32 → List Int32
  | [], st => st
  | c :: cs, st => e_run nm cs (e_step nm c st)
def chk : Nat → List l_C → Option Nat
  | h, [] => some h
  | h, c :: cs => if e_push c = true then chk (h + 1) cs else if e_sp c = true then none else if e_un c = true then (if 1 ≤ h then chk h cs else none) else if 2 ≤ h then chk (h - 1) cs else none
def e_val (nm : Int32 → Int32) (cs : List l_C) : Int32 := match e_run nm cs [] with
  | [] => 0
  | a :: _ => a
abbrev l_L : Type := List l_C × List l_C
def e_lines (nm : Int32 → Int32) : List l_L → Int32
  | [] => 0
  | L :: r => if L.1 = [] ∨ e_val nm L.1 ≠ 0 then e_val nm L.2 else e_lines nm r
def l_line (i : Nat) (L : l_L) : List l_C := match L.1 with
  | [] => L.2 ++ [(59, 0)]
  | t => t ++ (63, nI (i + t.length + 1 + L.2.length)) :: (L.2 ++ [(59, 0)])
def l_flat (i : Nat) : List l_L → List l_C
  | [] => []
  | L :: r => l_line i L ++ l_flat (i + (l_line i L).length) r
def l_good (L : l_L) : Prop := chk 0 L.2 = some 1 ∧ (L.1 = [] ∨ chk 0 L.1 = some 1)
def codeAt (X : px_I) (p : Nat) : Nat → List l_C → Prop
  | _, [] => True
  | i, c :: cs => X (p + 2) i = c.1 ∧ X (p + 3) i = c.2 ∧ codeAt X p (i + 1) cs
def stk (X : px_I) (p : Nat) : List Int32 → Prop
  | [] => True
  | a :: r => X (p + 4) r.length = a ∧ stk X p r
theorem codeAt_app {X : px_I} {p : Nat} : ∀ (a b : List l_C) (i : Nat), codeAt X p i (a ++ b) ↔ codeAt X p i a ∧ codeAt X p (i + a.length) b := by
  intro a
  induction a with
  | nil => intro b i; simp [codeAt]
  | cons c cs ih => intro b i; simp only [List.cons_append, codeAt, ih, List.length_cons]; rw [show i + 1 + cs.length = i + (cs.length + 1) by omega]; exact ⟨fun h => ⟨⟨h.1, h.2.1, h.2.2.1⟩, h.2.2.2⟩, fun h => ⟨h.1.1, h.1.2.1, h.1.2.2, h.2⟩⟩
theorem codeAt_congr {X Y : px_I} {p : Nat} (h2 : Y (p + 2) = X (p + 2)) (h3 : Y (p + 3) = X (p + 3)) : ∀ (cs : List l_C) (i : Nat), codeAt X p i cs → codeAt Y p i cs := by
  intro cs
  induction cs with
  | nil => intro i _; trivial
  | cons c cs ih => intro i h; exact ⟨by rw [h2]; exact h.1, by rw [h3]; exact h.2.1, ih _ h.2.2⟩
theorem stk_up {X : px_I} {p k : Nat} {x : Int32} : ∀ (st : List Int32), st.length ≤ k → stk X p st → stk (px_up X (p + 4) k x) p st := by
  intro st
  induction st with
  | nil => intro _ _; trivial
  | cons a r ih => intro hl h; simp only [List.length_cons] at hl; exact ⟨by rw [px_up_ne (by omega)]; exact h.1, ih (by omega) h.2⟩
theorem e_run_len {nm : Int32 → Int32} : ∀ (cs : List l_C) (st : List Int32) (h : Nat), chk st.length cs = some h → (e_run nm cs st).length = h := by
  intro cs
  induction cs with
  | nil => intro st h e; simp only [chk] at e; cases e; rfl
  | cons c cs ih =>
    intro st h e
    unfold chk at e
    unfold e_run
    apply ih
    split at e
    · rename_i hp
      unfold e_step
      simp only [e_push, Bool.or_eq_true, decide_eq_true_eq] at hp
      rcases hp with hp | hp
      · rw [if_pos hp]; exact e
      · by_cases h35 : c.1 = 35
        · rw [if_pos h35]; exact e
        · rw [if_neg h35, if_pos hp]; exact e
    · rename_i hp
      simp only [e_push, Bool.or_eq_true, decide_eq_true_eq, not_or] at hp
      unfold e_step
      rw [if_neg hp.1, if_neg hp.2]
      split at e
      · cases e
      · split at e
        · rename_i hu
          split at e
          · cases st with
            | nil => simp at *
            | cons a r =>
              simp only
              simp only [e_un, Bool.or_eq_true, decide_eq_true_eq] at hu
              rcases hu with hu | hu
              · rw [if_pos hu]; exact e
              · by_cases h33 : c.1 = 33
                · rw [if_pos h33]; exact e
                · rw [if_neg h33, if_pos hu]; exact e
          · cases e
        · rename_i hu
          simp only [e_un, Bool.or_eq_true, decide_eq_true_eq, not_or] at hu
          split at e
          · rename_i h2
            cases st with
            | nil => simp at h2
            | cons a r =>
              cases r with
              | nil => simp at h2
              | cons b r' =>
                simp only [if_neg hu.1, if_neg hu.2]
                exact e
          · cases e
theorem g_valueOf_congr {X Y : px_I} {p : Nat} {v : Int32} (h : Y (p + 1) = X (p + 1)) : g_valueOf Y p v = g_valueOf X p v := by simp only [g_valueOf, h]
theorem w_run {l : Launch} {J : px_J} {p n : Nat} {nm : Int32 → Int32} {Q : px_Q} (hp : px_lw p) (hn8 : n ≤ 128) : ∀ (cs : List l_C) (i h : Nat) (st : List Int32) (X : px_I), codeAt X p i cs → stk X p st → chk st.length cs = some h → st.length + cs.length ≤ 128 → i + cs.length ≤ n → X p 4 = nI n → (∀ v, g_valueOf X p v = nm v) → (∀ X' : px_I, (∀ q, q ≠ p + 4 → X' q = X q) → stk X' p (e_run nm cs st) → w_hd l p X' J (i + cs.length) (e_run nm cs st).length Q) → w_hd l p X J i st.length Q := by
  intro cs
  induction cs with
  | nil => intro i h st X _ hs _ _ _ _ _ kk; exact kk X (fun _ _ => rfl) hs
  | cons c cs ih =>
    intro i h st X hc hs hk hl hi hn hnm kk
    simp only [List.length_cons] at hl hi kk
    have go : ∀ (k : Nat) (x : Int32), stk (px_up X (p + 4) k x) p (e_step nm c st) → chk (e_step nm c st).length cs = some h → (e_step nm c st).length ≤ st.length + 1 → w_hd l p (px_up X (p + 4) k x) J (i + 1) (e_step nm c st).length Q := by
      intro k x g1 g2 g3
      refine ih (i + 1) h (e_step nm c st) _ (codeAt_congr (px_up_row (by omega)) (px_up_row (by omega)) cs _ hc.2.2) g1 g2 (by omega) (by omega) (by rw [px_up_row (by omega)]; exact hn) (fun v => by rw [g_valueOf_congr (px_up_row (by omega))]; exact hnm v) ?_
      intro X' h1 h2
      have := kk X' (fun q hq => by rw [h1 q hq, px_up_row hq]) h2
      rw [show i + 1 + cs.length = i + (cs.length + 1) by omega]
      exact this
    unfold chk at hk
    by_cases h35 : c.1 = 35
    · have e : e_step nm c st = c.2 :: st := by unfold e_step; rw [if_pos h35]
      rw [if_pos (by simp [e_push, h35])] at hk
      rw [e] at go
      exact w_num hp hn hn8 (by omega) (by omega) (hc.1.trans h35) hc.2.1 (go _ _ ⟨px_up_same, stk_up _ (Nat.le_refl _) hs⟩ hk (by simp))
    by_cases h36 : c.1 = 36
    · have e : e_step nm c st = nm c.2 :: st := by unfold e_step; rw [if_neg h35, if_pos h36]
      rw [if_pos (by simp [e_push, h36])] at hk
      rw [e] at go
      refine w_name hp hn hn8 (by omega) (by omega) (hc.1.trans h36) hc.2.1 ?_
      rw [hnm]
      exact go _ _ ⟨px_up_same, stk_up _ (Nat.le_refl _) hs⟩ hk (by simp)
    rw [if_neg (by simp [e_push, h35, h36])] at hk
    split at hk
    · cases hk
    rename_i hsp
    simp only [e_sp, Bool.or_eq_true, decide_eq_true_eq, not_or] at hsp
    by_cases h33 : c.1 = 33
    · rw [if_pos (by simp [e_un, h33])] at hk
      split at hk
      · cases st with
        | nil => simp at *
        | cons a r =>
          have e : e_step nm c (a :: r) = (if a = 0 then 1 else 0) :: r := by unfold e_step; rw [if_neg h35, if_neg h36]; simp only; rw [if_pos h33]
          rw [e] at go
          exact w_not hp hn hn8 (by omega) (by simp at hl; omega) (hc.1.trans h33) hs.1 (go _ _ ⟨px_up_same, stk_up _ (Nat.le_refl _) hs.2⟩ hk (by simp))
      · cases hk
    by_cases h126 : c.1 = 126
    · rw [if_pos (by simp [e_un, h126])] at hk
      split at hk
      · cases st with
        | nil => simp at *
        | cons a r =>
          have e : e_step nm c (a :: r) = (-a) :: r := by unfold e_step; rw [if_neg h35, if_neg h36]; simp only; rw [if_neg h33, if_pos h126]
          rw [e] at go
          exact w_neg hp hn hn8 (by omega) (by simp at hl; omega) (hc.1.trans h126) hs.1 (go _ _ ⟨px_up_same, stk_up _ (Nat.le_refl _) hs.2⟩ hk (by simp))
      · cases hk
    rw [if_neg (by simp [e_un, h33, h126])] at hk
    split at hk
    · rename_i h2
      cases st with
      | nil => simp at h2
      | cons b r =>
        cases r with
        | nil => simp at h2
        | cons a r' =>
          have e : e_step nm c (b :: a :: r') = s_join c.1 a b :: r' := by unfold e_step; rw [if_neg h35, if_neg h36]; simp only; rw [if_neg h33, if_neg h126]
          rw [e] at go
          exact w_bin hp hn hn8 (by omega) (by simp at hl; omega) hc.1 h35 h36 hsp.1 hsp.2 h33 h126 hs.2.1 hs.1 (go _ _ ⟨px_up_same, stk_up _ (Nat.le_refl _) hs.2.2⟩ hk (by simp))
    · cases hk
/-- a law as it lies in the arrays at p -/
def px_law (X : px_I) (p : Nat) (Ls : List l_L) : Prop := codeAt X p 0 (l_flat 0 Ls) ∧ X p 4 = nI (l_flat 0 Ls).length ∧ (l_flat 0 Ls).length ≤ 128 ∧ ∀ L, L ∈ Ls → l_good L
theorem one_of_len {st : List Int32} (h : st.length = 1) : ∃ a, st = [a] := by
  match st, h with
  | [a], _ => exact ⟨a, rfl⟩
theorem w_lines {l : Launch} {J : px_J} {p n : Nat} {nm : Int32 → Int32} {Q : px_Q} (hp : px_lw p) (hn8 : n ≤ 128) : ∀ (Ls : List l_L) (i : Nat) (X : px_I), codeAt X p i (l_flat i Ls) → i + (l_flat i Ls).length = n → (∀ L, L ∈ Ls → l_good L) → X p 4 = nI n → (∀ v, g_valueOf X p v = nm v) → (∀ X' : px_I, (∀ q, q ≠ p + 4 → X' q = X q) → Q (some (.int (e_lines nm Ls))) X' J) → w_hd l p X J i 0 Q := by
  intro Ls
  induction Ls with
  | nil => intro i X _ hi _ hn _ hQ; exact w_out hp hn hn8 (by simpa [l_flat] using hi) (hQ X (fun _ _ => rfl))
  | cons L Ls ih =>
    intro i X hc hi hg hn hnm hQ
    obtain ⟨hg2, hg1⟩ := hg L List.mem_cons_self
    -- the expression at place j, with 59 behind it
    have ex : ∀ (j : Nat) (Y : px_I), (∀ q, q ≠ p + 4 → Y q = X q) → codeAt X p j (L.2 ++ [(59, 0)]) → j + L.2.length < n → (∀ X' : px_I, (∀ q, q ≠ p + 4 → X' q = X q) → Q (some (.int (e_val nm L.2))) X' J) → w_hd l p Y J j 0 Q := by
      intro j Y hY hcj hjn hq
      obtain ⟨c1, c2⟩ := (codeAt_app _ _ _).mp hcj
      refine w_run (nm := nm) hp hn8 L.2 j 1 [] Y (codeAt_congr (hY _ (by omega)) (hY _ (by omega)) _ _ c1) trivial hg2 (by simp; omega) (by omega) (by rw [hY _ (by omega)]; exact hn) (fun v => by rw [g_valueOf_congr (hY _ (by omega))]; exact hnm v) ?_
      intro X' h1 h2
      obtain ⟨a, ea⟩ := one_of_len (e_run_len (nm := nm) L.2 [] 1 hg2)
      rw [ea] at h2 ⊢
      have h1' : ∀ q, q ≠ p + 4 → X' q = X q := fun q hq => (h1 q hq).trans (hY q hq)
      have hv : e_val nm L.2 = a := by unfold e_val; rw [ea]
      rw [hv] at hq
      exact w_end (t := 0) hp (by rw [h1' _ (by omega)]; exact hn) hn8 hjn (by omega) (by rw [h1' _ (by omega)]; exact c2.1) h2.1 (hq X' h1')
    cases ht : L.1 with
    | nil =>
      have el : l_line i L = L.2 ++ [(59, 0)] := by unfold l_line; rw [ht]
      unfold l_flat at hc hi
      rw [el] at hc hi
      obtain ⟨c1, -⟩ := (codeAt_app _ _ _).mp hc
      simp only [List.length_append, List.length_cons, List.length_nil] at hi
      refine ex i X (fun _ _ => rfl) c1 (by omega) (fun X' h => ?_)
      have := hQ X' h
      rw [e_lines, if_pos (Or.inl ht)] at this
      exact this
    | cons c0 cs0 =>
      have el : l_line i L = L.1 ++ (63, nI (i + L.1.length + 1 + L.2.length)) :: (L.2 ++ [(59, 0)]) := by unfold l_line; rw [ht]
      have hne : L.1 ≠ [] := by rw [ht]; simp
      have hg1 : chk 0 L.1 = some 1 := hg1.resolve_left hne
      unfold l_flat at hc hi
      obtain ⟨cl, cr⟩ := (codeAt_app _ _ _).mp hc
      have hll : (l_line i L).length = L.1.length + 1 + L.2.length + 1 := by rw [el]; simp; omega
      rw [List.length_append] at hi
      rw [el] at cl
      obtain ⟨c1, c2⟩ := (codeAt_app _ _ _).mp cl
      refine w_run (nm := nm) hp hn8 L.1 i 1 [] X c1 trivial hg1 (by simp; omega) (by omega) hn hnm ?_
      intro X' h1 h2
      obtain ⟨a, ea⟩ := one_of_len (e_run_len (nm := nm) L.1 [] 1 hg1)
      rw [ea] at h2 ⊢
      have hv : e_val nm L.1 = a := by unfold e_val; rw [ea]
      have hnX : X' p 4 = nI n := by rw [h1 _ (by omega)]; exact hn
      have hs63 : X' (p + 2) (i + L.1.length) = 63 := by rw [h1 _ (by omega)]; exact c2.1
      by_cases h0 : a = 0
      · subst h0
        refine w_test0 (t := 0) (e := i + L.1.length + 1 + L.2.length) hp hnX hn8 (by omega) (by omega) hs63 h2.1 (by rw [h1 _ (by omega)]; exact c2.2.1) (by omega) (by omega) ?_
        rw [show i + L.1.length + 1 + L.2.length + 1 = i + (l_line i L).length by omega]
        refine ih _ X' (codeAt_congr (h1 _ (by omega)) (h1 _ (by omega)) _ _ cr) (by omega) (fun M hM => hg M (List.mem_cons_of_mem _ hM)) hnX (fun v => by rw [g_valueOf_congr (h1 _ (by omega))]; exact hnm v) (fun Y hY => ?_)
        have := hQ Y (fun q hq => (hY q hq).trans (h1 q hq))
        rw [e_lines, if_neg (by rw [hv]; simp [hne])] at this
        exact this
      · refine w_test1 (t := 0) hp hnX hn8 (by omega) (by omega) hs63 h2.1 h0 ?_
        refine ex (i + L.1.length + 1) X' h1 c2.2.2 (by omega) (fun Y hY => ?_)
        have := hQ Y hY
        rw [e_lines, if_pos (Or.inr (by rw [hv]; exact h0))] at this
        exact this
theorem c_X3_workOut {l : Launch} {X : px_I} {J : px_J} {p : Nat} {Ls : List l_L} (hp : px_lw p) (hlaw : px_law X p Ls) : Ct l mX3_workOut 2 [.ref p] X J (fun r I' J' => r = some (.int (e_lines (g_valueOf X p) Ls)) ∧ (∀ q, q ≠ p + 4 → I' q = X q) ∧ J' = J) := by
  have hk := w_lines (l := l) (J := J) (nm := g_valueOf X p) (Q := fun r I' J' => r = some (.int (e_lines (g_valueOf X p) Ls)) ∧ (∀ q, q ≠ p + 4 → I' q = X q) ∧ J' = J) hp hlaw.2.2.1 Ls 0 X hlaw.1 (by omega) hlaw.2.2.2 hlaw.2.1 (fun _ => rfl) (fun X' h => ⟨rfl, h, rfl⟩)
  refine Ct.of plX3_workOut (Nat.le_of_ble_eq_true rfl) [.ref p, .null, .null, .null] rfl ?_
  refine V0_iconst (pc := 0) (0) dX3_workOut_0 (by decide) ?_
  refine V0_istore_1 (pc := 1) dX3_workOut_1 (by decide) rfl ?_
  refine V0_iconst (pc := 2) (0) dX3_workOut_2 (by decide) ?_
  refine V0_istore_2 (pc := 3) dX3_workOut_3 (by decide) rfl ?_
  exact hk _
theorem l_flat_pos {L : l_L} {Ls : List l_L} {i : Nat} : 0 < (l_flat i (L :: Ls)).length := by
  unfold l_flat l_line
  split <;> simp <;> omega
theorem px_law_told {X : px_I} {p : Nat} {Ls : List l_L} (h : px_law X p Ls) : decide (0 < X p 4) = !Ls.isEmpty := by
  rw [h.2.1]
  cases Ls with
  | nil => rfl
  | cons L Ls =>
    have := l_flat_pos (L := L) (Ls := Ls) (i := 0)
    have h3 := h.2.2.1
    have : (0 : Int32) < nI (l_flat 0 (L :: Ls)).length := (qI_lt (a := 0) (by omega) (by omega)).mpr this
    simp [this]

