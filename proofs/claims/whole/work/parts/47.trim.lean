/-! Changed frames in order; trim -/
theorem ch_iff {B a b : Nat} {σ τ : Mem} (hB : B < 2 ^ 30) (hX : RX σ τ) (hY : IX B τ a b) {g : Nat} (hg : g < 8) : kCh σ g = 0 ↔ τ 11 g < 0 := by
  rw [kCh_0, (hX.2.2 g hg).2.2.2.1]
  rcases ch_or hB hY.2.2.1 (hY.2.2.2.2.1 g hg) with ⟨h1, h2⟩ | ⟨h1, h2, -, -⟩
  · exact ⟨fun _ => h2, fun _ => h1⟩
  · exact ⟨fun h => absurd h h1, fun h => absurd h h2⟩
theorem old_eq {B a b : Nat} {σ τ : Mem} (hB : B < 2 ^ 30) (hX : RX σ τ) (hY : IX B τ a b) {f : Nat} (hf : f < 8) : ∀ (n g k : Nat), g + n = 8 → kOld σ (σ (f + 9) 4) n g k = qBef τ f n g k
  | 0, _, _, _ => rfl
  | n + 1, g, k, h => by
    unfold kOld qBef
    have e := ch_iff hB hX hY (show g < 8 by omega)
    rw [(hX.2.2 f hf).2.2.2.1, (hX.2.2 g (by omega)).2.2.2.1]
    by_cases c : τ 11 g < 0
    · rw [if_pos c, if_pos (e.mpr c), ← (hX.2.2 f hf).2.2.2.1]; exact old_eq hB hX hY hf n (g + 1) k (by omega)
    · rw [if_neg c, if_neg (fun q => c (e.mp q))]
      by_cases c2 : τ 11 f ≤ τ 11 g
      · rw [if_pos c2, if_pos c2, ← (hX.2.2 f hf).2.2.2.1]; exact old_eq hB hX hY hf n (g + 1) k (by omega)
      · rw [if_neg c2, if_neg c2, ← (hX.2.2 f hf).2.2.2.1]; exact old_eq hB hX hY hf n (g + 1) (k + 1) (by omega)
theorem chg_eq {B a b : Nat} {σ τ : Mem} (hB : B < 2 ^ 30) (hX : RX σ τ) (hY : IX B τ a b) : ∀ (n g k : Nat), g + n = 8 → kChanged σ n g k = qChg τ n g k
  | 0, _, _, _ => rfl
  | n + 1, g, k, h => by
    unfold kChanged qChg
    have e := ch_iff hB hX hY (show g < 8 by omega)
    by_cases c : τ 11 g < 0
    · rw [if_pos c, if_pos (e.mpr c)]; exact chg_eq hB hX hY n (g + 1) k (by omega)
    · rw [if_neg c, if_neg (fun q => c (e.mp q))]; exact chg_eq hB hX hY n (g + 1) (k + 1) (by omega)
theorem bef_le (τ : Mem) (f : Nat) : ∀ (n g k : Nat), qBef τ f n g k ≤ k + n
  | 0, _, _ => Nat.le_refl _
  | n + 1, g, k => by
    have h1 := bef_le τ f n (g + 1) k
    have h2 := bef_le τ f n (g + 1) (k + 1)
    unfold qBef
    split
    · omega
    · split <;> omega
theorem bef_lt {τ : Mem} {f g : Nat} (hcf : ¬ τ 11 f < 0) (hlt : ¬ τ 11 g ≤ τ 11 f) : ∀ (n i kf kg : Nat), i + n = 8 → kf ≤ kg → (kf < kg ∨ (i ≤ f ∧ f < 8)) → qBef τ f n i kf < qBef τ g n i kg
  | 0, i, kf, kg, hn, h1, h2 => by
    show kf < kg
    omega
  | n + 1, i, kf, kg, hn, h1, h2 => by
    unfold qBef
    have hl : τ 11 f < τ 11 g := Int32.not_le.mp hlt
    by_cases c : τ 11 i < 0
    · rw [if_pos c, if_pos c]
      refine bef_lt hcf hlt n (i + 1) kf kg (by omega) h1 ?_
      rcases h2 with h2 | ⟨h2, h3⟩
      · exact Or.inl h2
      · by_cases hi : i = f
        · rw [hi] at c; exact absurd c hcf
        · exact Or.inr ⟨by omega, h3⟩
    · rw [if_neg c, if_neg c]
      by_cases c2 : τ 11 f ≤ τ 11 i
      · rw [if_pos c2]
        by_cases c3 : τ 11 g ≤ τ 11 i
        · rw [if_pos c3]
          refine bef_lt hcf hlt n (i + 1) kf kg (by omega) h1 ?_
          rcases h2 with h2 | ⟨h2, h3⟩
          · exact Or.inl h2
          · by_cases hi : i = f
            · rw [hi] at c3; exact absurd c3 hlt
            · exact Or.inr ⟨by omega, h3⟩
        · rw [if_neg c3]
          exact bef_lt hcf hlt n (i + 1) kf (kg + 1) (by omega) (by omega) (Or.inl (by omega))
      · have c3 : ¬ τ 11 g ≤ τ 11 i := fun q => c2 (Int32.le_trans (Int32.le_of_lt hl) q)
        rw [if_neg c2, if_neg c3]
        refine bef_lt hcf hlt n (i + 1) (kf + 1) (kg + 1) (by omega) (by omega) ?_
        rcases h2 with h2 | ⟨h2, h3⟩
        · exact Or.inl (by omega)
        · by_cases hi : i = f
          · rw [hi] at c2; exact absurd (Int32.le_refl _) c2
          · exact Or.inr ⟨by omega, h3⟩
theorem kOldest_spec (σ : Mem) (x : Int32) : ∀ (n f : Nat), f + n = 8 → (kOldest σ x n f = -1 ∧ ∀ g, f ≤ g → g < 8 → kCh σ g = 0 ∨ ¬ nI (kOld σ (σ (g + 9) 4) 8 0 0) = x) ∨ ∃ g, f ≤ g ∧ g < 8 ∧ kOldest σ x n f = nI g ∧ ¬ kCh σ g = 0 ∧ nI (kOld σ (σ (g + 9) 4) 8 0 0) = x
  | 0, f, h => Or.inl ⟨rfl, fun g h1 h2 => by omega⟩
  | n + 1, f, h => by
    have ih := kOldest_spec σ x n (f + 1) (by omega)
    have go : (kCh σ f = 0 ∨ ¬ nI (kOld σ (σ (f + 9) 4) 8 0 0) = x) → (kOldest σ x n (f + 1) = -1 ∧ ∀ g, f ≤ g → g < 8 → kCh σ g = 0 ∨ ¬ nI (kOld σ (σ (g + 9) 4) 8 0 0) = x) ∨ ∃ g, f ≤ g ∧ g < 8 ∧ kOldest σ x n (f + 1) = nI g ∧ ¬ kCh σ g = 0 ∧ nI (kOld σ (σ (g + 9) 4) 8 0 0) = x := by
      intro hc
      rcases ih with ⟨h1, h2⟩ | ⟨g, h1, h2, h3, h4, h5⟩
      · refine Or.inl ⟨h1, fun g h3 h4 => ?_⟩
        by_cases hg : g = f
        · rw [hg]; exact hc
        · exact h2 g (by omega) h4
      · exact Or.inr ⟨g, by omega, h2, h3, h4, h5⟩
    unfold kOldest
    by_cases c : kCh σ f = 0
    · rw [if_pos c]; exact go (Or.inl c)
    · rw [if_neg c]
      by_cases c2 : nI (kOld σ (σ (f + 9) 4) 8 0 0) = x
      · rw [if_pos c2]; exact Or.inr ⟨f, Nat.le_refl _, by omega, rfl, c, c2⟩
      · rw [if_neg c2]; exact go (Or.inr c2)
theorem qKth_spec (τ : Mem) (x : Int32) : ∀ (n f : Nat) (y : Int32), f + n = 8 → (qKth τ x n f y = y ∧ ∀ g, f ≤ g → g < 8 → τ 11 g < 0 ∨ ¬ nI (qBef τ g 8 0 0) = x) ∨ ∃ g, f ≤ g ∧ g < 8 ∧ qKth τ x n f y = nI g ∧ ¬ τ 11 g < 0 ∧ nI (qBef τ g 8 0 0) = x
  | 0, f, y, h => Or.inl ⟨rfl, fun g h1 h2 => by omega⟩
  | n + 1, f, y, h => by
    have go : ∀ z : Int32, (τ 11 f < 0 ∨ ¬ nI (qBef τ f 8 0 0) = x) → (qKth τ x n (f + 1) z = z ∧ ∀ g, f ≤ g → g < 8 → τ 11 g < 0 ∨ ¬ nI (qBef τ g 8 0 0) = x) ∨ ∃ g, f ≤ g ∧ g < 8 ∧ qKth τ x n (f + 1) z = nI g ∧ ¬ τ 11 g < 0 ∧ nI (qBef τ g 8 0 0) = x := by
      intro z hc
      rcases qKth_spec τ x n (f + 1) z (by omega) with ⟨h1, h2⟩ | ⟨g, h1, h2, h3, h4, h5⟩
      · refine Or.inl ⟨h1, fun g h3 h4 => ?_⟩
        by_cases hg : g = f
        · rw [hg]; exact hc
        · exact h2 g (by omega) h4
      · exact Or.inr ⟨g, by omega, h2, h3, h4, h5⟩
    unfold qKth
    by_cases c : τ 11 f < 0
    · rw [if_pos c]; exact go y (Or.inl c)
    · rw [if_neg c]
      by_cases c2 : nI (qBef τ f 8 0 0) = x
      · rw [if_pos c2]
        rcases qKth_spec τ x n (f + 1) (nI f) (by omega) with ⟨h1, -⟩ | ⟨g, h1, h2, h3, h4, h5⟩
        · exact Or.inr ⟨f, Nat.le_refl _, by omega, h1, c, c2⟩
        · exact Or.inr ⟨g, by omega, h2, h3, h4, h5⟩
      · rw [if_neg c2]; exact go y (Or.inr c2)
theorem kth_eq {B a b : Nat} {σ τ : Mem} (hB : B < 2 ^ 30) (hX : RX σ τ) (hY : IX B τ a b) (x : Int32) : kOldest σ x 8 0 = qKth τ x 8 0 (-1) := by
  have e1 : ∀ g, g < 8 → kOld σ (σ (g + 9) 4) 8 0 0 = qBef τ g 8 0 0 := fun g hg => old_eq hB hX hY hg 8 0 0 rfl
  have e2 : ∀ g, g < 8 → (kCh σ g = 0 ↔ τ 11 g < 0) := fun g hg => ch_iff hB hX hY hg
  rcases kOldest_spec σ x 8 0 rfl with ⟨h1, h2⟩ | ⟨g, -, h2, h3, h4, h5⟩
  · rcases qKth_spec τ x 8 0 (-1) rfl with ⟨k1, -⟩ | ⟨k, -, k2, k3, k4, k5⟩
    · rw [h1, k1]
    · rcases h2 k (Nat.zero_le _) k2 with q | q
      · exact absurd ((e2 k k2).mp q) k4
      · rw [e1 k k2] at q; exact absurd k5 q
  · rw [e1 g h2] at h5
    have h4' : ¬ τ 11 g < 0 := fun q => h4 ((e2 g h2).mpr q)
    rcases qKth_spec τ x 8 0 (-1) rfl with ⟨-, k2⟩ | ⟨k, -, k2, k3, k4, k5⟩
    · rcases k2 g (Nat.zero_le _) h2 with q | q
      · exact absurd q h4'
      · exact absurd h5 q
    · by_cases hgk : g = k
      · rw [h3, k3, hgk]
      · exfalso
        have hb1 := bef_le τ g 8 0 0
        have hb2 := bef_le τ k 8 0 0
        have hq : qBef τ g 8 0 0 = qBef τ k 8 0 0 := (nI_eq (by omega) (by omega)).mp (h5.trans k5.symm)
        by_cases c : τ 11 g ≤ τ 11 k
        · by_cases c2 : τ 11 k ≤ τ 11 g
          · have he : τ 11 g = τ 11 k := Int32.le_antisymm c c2
            have := hY.2.2.2.2.2.2 g k h2 k2 hgk he
            rw [this] at h4'
            exact h4' m1lt
          · have := bef_lt h4' (g := k) c2 8 0 0 0 rfl (Nat.le_refl _) (Or.inr ⟨Nat.zero_le _, h2⟩)
            omega
        · have := bef_lt k4 (g := g) c 8 0 0 0 rfl (Nat.le_refl _) (Or.inr ⟨Nat.zero_le _, k2⟩)
          omega
/-- the oldest comes first -/
theorem kth_min {τ : Mem} {f : Nat} (hf : f < 8) (hc : ¬ τ 11 f < 0) (h0 : nI (qBef τ f 8 0 0) = nI 0) : ∀ g, g < 8 → ¬ τ 11 g < 0 → τ 11 f ≤ τ 11 g := by
  intro g hg hcg
  apply Classical.byContradiction
  intro c
  have h1 := bef_lt hcg (g := f) c 8 0 0 0 rfl (Nat.le_refl _) (Or.inr ⟨Nat.zero_le _, hg⟩)
  have hb := bef_le τ f 8 0 0
  have h2 := (nI_eq (by omega) (by decide)).mp h0
  omega
theorem kth_none {τ : Mem} (hp : ∀ g, g < 8 → τ 11 g < 0 ∨ ¬ nI (qBef τ g 8 0 0) = nI 0) : ∀ g, g < 8 → τ 11 g < 0 := by
  have key : ∀ n g, g < 8 → ¬ τ 11 g < 0 → qBef τ g 8 0 0 ≤ n → False := by
    intro n
    induction n with
    | zero =>
      intro g hg hc hn
      rcases hp g hg with q | q
      · exact hc q
      · exact q (by rw [show qBef τ g 8 0 0 = 0 by omega])
    | succ n ih =>
      intro g hg hc hn
      rcases hp g hg with q | q
      · exact hc q
      · have hne : qBef τ g 8 0 0 ≠ 0 := fun z => q (by rw [z])
        have ex : ∃ i, i < 8 ∧ ¬ τ 11 i < 0 ∧ ¬ τ 11 g ≤ τ 11 i := by
          apply Classical.byContradiction
          intro hno
          have z : ∀ m i, i + m = 8 → qBef τ g m i 0 = 0 := by
            intro m
            induction m with
            | zero => intro i _; rfl
            | succ m ih2 =>
              intro i hi
              unfold qBef
              by_cases c : τ 11 i < 0
              · rw [if_pos c]; exact ih2 (i + 1) (by omega)
              · rw [if_neg c]
                by_cases c2 : τ 11 g ≤ τ 11 i
                · rw [if_pos c2]; exact ih2 (i + 1) (by omega)
                · exact absurd ⟨i, by omega, c, c2⟩ hno
          exact hne (z 8 0 rfl)
        obtain ⟨i, hi, hci, hlt⟩ := ex
        have := bef_lt hci (g := g) hlt 8 0 0 0 rfl (Nat.le_refl _) (Or.inr ⟨Nat.zero_le _, hi⟩)
        exact ih i hi hci (by omega)
  intro g hg
  apply Classical.byContradiction
  intro hc
  exact key _ g hg hc (Nat.le_refl _)
