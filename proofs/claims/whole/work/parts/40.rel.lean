/-! THE CLASS AND THE REFERENCE: what their memories have in common -/
/-- a mark: 0 or a serial and 1 -/
def mk (B : Nat) (x : Int32) : Prop := ∃ k : Nat, x = nI k ∧ k + 7 ≤ B
theorem mk.mono {B C : Nat} {x : Int32} (h : mk B x) (hBC : B ≤ C) : mk C x := by
  obtain ⟨k, h1, h2⟩ := h
  exact ⟨k, h1, by omega⟩
def RT (σ τ : Mem) : Prop := ∀ r, (σ 6 r = -1 ∧ ¬ τ 6 r = 0) ∨ (τ 6 r = 0 ∧ ∃ p w : Nat, p < 256 ∧ w < 64 ∧ τ 3 r = nI p ∧ τ 4 r = nI w ∧ σ 6 r = nI (p * 64 + w))
def RN (σ τ : Mem) : Prop := (σ 2 4 = 0 ∧ τ 0 4 = -1) ∨ (σ 2 4 = nI 1 ∧ ∃ p : Nat, p < 256 ∧ τ 0 4 = nI p ∧ σ 2 3 = nI p)
def RF (σ τ : Mem) (f : Nat) : Prop := σ (f + 9) 1 = τ 8 f ∧ σ (f + 9) 2 = τ 9 f ∧ σ (f + 9) 3 = τ 10 f ∧ σ (f + 9) 4 = τ 11 f ∧ ∀ i, i < 64 → σ (f + 17) i = τ 7 (64 * f + i)
/-- what stays when power fails -/
def RM (σ τ : Mem) : Prop := σ 1 1 = τ 0 19 ∧ σ 1 2 = τ 0 20 ∧ σ 5 3 = τ 0 9 ∧ σ 5 4 = τ 0 10 ∧ σ 3 = τ 1 ∧ σ 4 = τ 2 ∧ σ 7 = τ 5 ∧ RT σ τ ∧ RN σ τ ∧ nat0 256 (σ 2 3)
/-- what is lost -/
def RX (σ τ : Mem) : Prop := σ 5 5 = τ 0 11 ∧ σ 0 4 = τ 0 17 ∧ ∀ f, f < 8 → RF σ τ f
/-- the reference's numbers: the log and the medium -/
def IM (B : Nat) (τ : Mem) (a d : Nat) : Prop := τ 0 9 = nI a ∧ τ 0 10 = nI d ∧ a % 8 = 0 ∧ a ≤ d ∧ d ≤ B ∧ (∀ p, p < 256 → mk B (τ 1 (64 * p))) ∧ mk B (τ 2 0)
/-- a frame -/
def FI (B a b : Nat) (τ : Mem) (f : Nat) : Prop := ((τ 8 f = -1 ∧ τ 9 f = 0 ∧ τ 11 f = -1) ∨ nat0 256 (τ 8 f)) ∧ (∃ k : Nat, k ≤ B ∧ τ 9 f = nI k) ∧ (τ 10 f = 0 ∨ τ 10 f = nI 1) ∧ (τ 11 f = -1 ∨ ∃ x : Nat, a ≤ x ∧ x < b ∧ x % 8 = 0 ∧ τ 11 f = nI x) ∧ mk B (τ 7 (64 * f))
/-- the frames, the hand, the log's end -/
def IX (B : Nat) (τ : Mem) (a b : Nat) : Prop := τ 0 11 = nI b ∧ a ≤ b ∧ b ≤ B ∧ nat0 8 (τ 0 17) ∧ (∀ f, f < 8 → FI B a b τ f) ∧ (∀ f g, f < 8 → g < 8 → f ≠ g → τ 8 f = τ 8 g → τ 8 f = -1) ∧ (∀ f g, f < 8 → g < 8 → f ≠ g → τ 11 f = τ 11 g → τ 11 f = -1)
theorem n1 {k : Nat} (h : k < 2 ^ 31) : ¬ nI k = -1 := by
  intro q
  have h1 := nI_pos h
  rw [q] at h1
  exact h1 (by decide)
theorem m1lt : (-1 : Int32) < 0 := by decide
/-! loseMemory and forget -/
theorem kEmpty_n (σ : Mem) (f : Nat) {i : Nat} (h : i ≠ f + 9) : kEmpty σ f i = σ i := by
  unfold kEmpty
  rw [mup_n _ _ _ h, mup_n _ _ _ h, mup_n _ _ _ h, mup_n _ _ _ h]
theorem kEmpties_lo : ∀ (n f : Nat) (σ : Mem) (i : Nat), i < f + 9 → kEmpties n f σ i = σ i
  | 0, _, _, _, _ => rfl
  | n + 1, f, σ, i, h => by
    unfold kEmpties
    rw [kEmpties_lo n (f + 1) _ i (by omega), kEmpty_n _ _ (by omega)]
theorem kEmpties_hi : ∀ (n f : Nat) (σ : Mem) (i : Nat), f + n + 9 ≤ i → kEmpties n f σ i = σ i
  | 0, _, _, _, _ => rfl
  | n + 1, f, σ, i, h => by
    unfold kEmpties
    rw [kEmpties_hi n (f + 1) _ i (by omega), kEmpty_n _ _ (by omega)]
theorem kEmpties_at : ∀ (n f : Nat) (σ : Mem) (g : Nat), f ≤ g → g < f + n → (kEmpties n f σ) (g + 9) 1 = -1 ∧ (kEmpties n f σ) (g + 9) 2 = nI 0 ∧ (kEmpties n f σ) (g + 9) 3 = nI 0 ∧ (kEmpties n f σ) (g + 9) 4 = -1
  | 0, _, _, _, h1, h2 => by omega
  | n + 1, f, σ, g, h1, h2 => by
    unfold kEmpties
    by_cases hg : g = f
    · subst hg
      rw [kEmpties_lo n (g + 1) _ (g + 9) (by omega)]
      unfold kEmpty
      simp [mup, mset, upd]
    · exact kEmpties_at n (f + 1) _ g (by omega) (by omega)
theorem qForgets_at : ∀ (n f : Nat) (τ : Mem) (g : Nat), f ≤ g → g < f + n → (qForgets n f τ) 8 g = -1 ∧ (qForgets n f τ) 9 g = nI 0 ∧ (qForgets n f τ) 10 g = nI 0 ∧ (qForgets n f τ) 11 g = -1
  | 0, _, _, _, h1, h2 => by omega
  | n + 1, f, τ, g, h1, h2 => by
    have lo : ∀ (n k : Nat) (t : Mem) (j : Nat), j < k → qForgets n k t 8 j = t 8 j ∧ qForgets n k t 9 j = t 9 j ∧ qForgets n k t 10 j = t 10 j ∧ qForgets n k t 11 j = t 11 j := by
      intro n
      induction n with
      | zero => intro k t j _; exact ⟨rfl, rfl, rfl, rfl⟩
      | succ n ih =>
        intro k t j hj
        have hne : j ≠ k := by omega
        unfold qForgets
        obtain ⟨h1, h2, h3, h4⟩ := ih (k + 1) (mup (mup (mup (mup t 8 k (-1)) 9 k (nI 0)) 10 k (nI 0)) 11 k (-1)) j (by omega)
        rw [h1, h2, h3, h4]
        simp [mup, mset, upd, hne]
    unfold qForgets
    by_cases hg : g = f
    · subst hg
      obtain ⟨e1, e2, e3, e4⟩ := lo n (g + 1) (mup (mup (mup (mup τ 8 g (-1)) 9 g (nI 0)) 10 g (nI 0)) 11 g (-1)) g (by omega)
      rw [e1, e2, e3, e4]
      simp [mup, mset, upd]
    · exact qForgets_at n (f + 1) _ g (by omega) (by omega)
theorem kLose_F (σ : Mem) {f : Nat} (hf : f < 8) : (kLose σ) (f + 9) 1 = -1 ∧ (kLose σ) (f + 9) 2 = nI 0 ∧ (kLose σ) (f + 9) 3 = nI 0 ∧ (kLose σ) (f + 9) 4 = -1 := by
  obtain ⟨h1, h2, h3, h4⟩ := kEmpties_at 8 0 σ f (Nat.zero_le _) (by omega)
  unfold kLose
  rw [mup_n _ _ _ (by omega), mup_n _ _ _ (by omega)]
  exact ⟨h1, h2, h3, h4⟩
theorem kLose_V (σ : Mem) (f : Nat) : (kLose σ) (f + 17) = σ (f + 17) := by
  unfold kLose
  rw [mup_n _ _ _ (by omega), mup_n _ _ _ (by omega), kEmpties_hi 8 0 σ _ (by omega)]
theorem kLose_0 (σ : Mem) : (kLose σ) 0 4 = nI 0 := by
  unfold kLose
  rw [mup_n _ _ _ (by decide), mup_v]
theorem kLose_5 (σ : Mem) : (kLose σ) 5 3 = σ 5 3 ∧ (kLose σ) 5 4 = σ 5 4 ∧ (kLose σ) 5 5 = σ 5 4 := by
  have e : ∀ k, (mup (kEmpties 8 0 σ) 0 4 (nI 0)) 5 k = σ 5 k := fun k => by rw [mup_n _ _ _ (by decide), kEmpties_lo 8 0 σ 5 (by decide)]
  unfold kLose
  rw [mup_f _ _ _ _ (by decide), mup_f _ _ _ _ (by decide), mup_v, e, e]
  exact ⟨rfl, rfl, rfl⟩
theorem qForget_0 (τ : Mem) {k : Nat} (h1 : k ≠ 17) (h2 : k ≠ 11) : qForget τ 0 k = τ 0 k := by
  unfold qForget
  rw [mup_f _ _ _ _ h2, mup_f _ _ _ _ h1, qForgets_n']
theorem qForget_17 (τ : Mem) : qForget τ 0 17 = nI 0 := by
  unfold qForget
  rw [mup_f _ _ _ _ (by decide), mup_v]
theorem qForget_11 (τ : Mem) : qForget τ 0 11 = τ 0 10 := by
  unfold qForget
  rw [mup_v, mup_f _ _ _ _ (by decide), qForgets_n']
theorem qForget_F (τ : Mem) {f : Nat} (hf : f < 8) : (qForget τ) 8 f = -1 ∧ (qForget τ) 9 f = nI 0 ∧ (qForget τ) 10 f = nI 0 ∧ (qForget τ) 11 f = -1 := by
  obtain ⟨h1, h2, h3, h4⟩ := qForgets_at 8 0 τ f (Nat.zero_le _) (by omega)
  unfold qForget
  rw [mup_n _ _ _ (by omega), mup_n _ _ _ (by omega), mup_n _ _ _ (by omega), mup_n _ _ _ (by omega), mup_n _ _ _ (by omega), mup_n _ _ _ (by omega), mup_n _ _ _ (by omega), mup_n _ _ _ (by omega)]
  exact ⟨h1, h2, h3, h4⟩
