/-! Frames are searched; the hand goes round -/
theorem kFw_spec (σ : Mem) (x : Int32) : ∀ (n f : Nat), f + n = 8 → (kFw σ x n f = -1 ∧ ∀ g, f ≤ g → g < 8 → ¬ σ (g + 9) 1 = x) ∨ ∃ g, f ≤ g ∧ g < 8 ∧ kFw σ x n f = nI g ∧ σ (g + 9) 1 = x ∧ ∀ k, f ≤ k → k < g → ¬ σ (k + 9) 1 = x
  | 0, f, h => Or.inl ⟨rfl, fun g h1 h2 => by omega⟩
  | n + 1, f, h => by
    unfold kFw
    split
    · rename_i c
      exact Or.inr ⟨f, Nat.le_refl _, by omega, rfl, c, fun k h1 h2 => by omega⟩
    · rename_i c
      rcases kFw_spec σ x n (f + 1) (by omega) with ⟨h1, h2⟩ | ⟨g, h1, h2, h3, h4, h5⟩
      · refine Or.inl ⟨h1, fun g h3 h4 => ?_⟩
        by_cases hg : g = f
        · rw [hg]; exact c
        · exact h2 g (by omega) h4
      · refine Or.inr ⟨g, by omega, h2, h3, h4, fun k h6 h7 => ?_⟩
        by_cases hk : k = f
        · rw [hk]; exact c
        · exact h5 k (by omega) h7
theorem qFw_spec (τ : Mem) (x : Int32) : ∀ (n f : Nat) (y : Int32), f + n = 8 → (qFw τ x n f y = y ∧ ∀ g, f ≤ g → g < 8 → ¬ τ 8 g = x) ∨ ∃ g, f ≤ g ∧ g < 8 ∧ qFw τ x n f y = nI g ∧ τ 8 g = x
  | 0, f, y, h => Or.inl ⟨rfl, fun g h1 h2 => by omega⟩
  | n + 1, f, y, h => by
    unfold qFw
    split
    · rename_i c
      rcases qFw_spec τ x n (f + 1) (nI f) (by omega) with ⟨h1, h2⟩ | ⟨g, h1, h2, h3, h4⟩
      · exact Or.inr ⟨f, Nat.le_refl _, by omega, h1, c⟩
      · exact Or.inr ⟨g, by omega, h2, h3, h4⟩
    · rename_i c
      rcases qFw_spec τ x n (f + 1) y (by omega) with ⟨h1, h2⟩ | ⟨g, h1, h2, h3, h4⟩
      · refine Or.inl ⟨h1, fun g h3 h4 => ?_⟩
        by_cases hg : g = f
        · rw [hg]; exact c
        · exact h2 g (by omega) h4
      · exact Or.inr ⟨g, by omega, h2, h3, h4⟩
theorem qFree_spec (τ : Mem) : ∀ (n : Nat) (y : Int32), n ≤ 8 → (qFree τ n y = y ∧ ∀ g, g < n → ¬ τ 8 g = -1) ∨ ∃ g, g < n ∧ qFree τ n y = nI g ∧ τ 8 g = -1 ∧ ∀ k, k < g → ¬ τ 8 k = -1
  | 0, y, _ => Or.inl ⟨rfl, fun g h => by omega⟩
  | n + 1, y, hn => by
    unfold qFree
    split
    · rename_i c
      rcases qFree_spec τ n (nI n) (by omega) with ⟨h1, h2⟩ | ⟨g, h1, h2, h3, h4⟩
      · exact Or.inr ⟨n, by omega, h1, c, h2⟩
      · exact Or.inr ⟨g, by omega, h2, h3, h4⟩
    · rename_i c
      rcases qFree_spec τ n y (by omega) with ⟨h1, h2⟩ | ⟨g, h1, h2, h3, h4⟩
      · refine Or.inl ⟨h1, fun g hg => ?_⟩
        by_cases hgn : g = n
        · rw [hgn]; exact c
        · exact h2 g (by omega)
      · exact Or.inr ⟨g, by omega, h2, h3, h4⟩
theorem fw_eq {B a b : Nat} {σ τ : Mem} (hX : RX σ τ) (hY : IX B τ a b) {pg : Nat} (hpg : pg < 256) : kFw σ (nI pg) 8 0 = qFw τ (nI pg) 8 0 (-1) := by
  have e : ∀ g, g < 8 → σ (g + 9) 1 = τ 8 g := fun g hg => (hX.2.2 g hg).1
  rcases kFw_spec σ (nI pg) 8 0 rfl with ⟨h1, h2⟩ | ⟨g, -, h2, h3, h4, -⟩
  · rcases qFw_spec τ (nI pg) 8 0 (-1) rfl with ⟨k1, k2⟩ | ⟨k, -, k2, k3, k4⟩
    · rw [h1, k1]
    · exact absurd (by rw [e k k2]; exact k4) (h2 k (Nat.zero_le _) k2)
  · rw [e g h2] at h4
    rcases qFw_spec τ (nI pg) 8 0 (-1) rfl with ⟨k1, k2⟩ | ⟨k, -, k2, k3, k4⟩
    · exact absurd h4 (k2 g (Nat.zero_le _) h2)
    · by_cases hgk : g = k
      · rw [h3, k3, hgk]
      · have := hY.2.2.2.2.2.1 g k h2 k2 hgk (by rw [h4, k4])
        rw [h4] at this
        exact absurd this (n1 (by omega))
theorem free_eq {σ τ : Mem} (hX : RX σ τ) : kFw σ (-1) 8 0 = qFreeA τ := by
  have e : ∀ g, g < 8 → σ (g + 9) 1 = τ 8 g := fun g hg => (hX.2.2 g hg).1
  unfold qFreeA
  rcases kFw_spec σ (-1) 8 0 rfl with ⟨h1, h2⟩ | ⟨g, -, h2, h3, h4, h5⟩
  · rcases qFree_spec τ 8 (qFw τ (-1) 8 0 (-1)) (by decide) with ⟨k1, k2⟩ | ⟨k, k2, -, k4, -⟩
    · rw [h1, k1]
      rcases qFw_spec τ (-1) 8 0 (-1) rfl with ⟨j1, -⟩ | ⟨j, -, j2, -, j4⟩
      · rw [j1]
      · exact absurd j4 (k2 j j2)
    · exact absurd (by rw [e k k2]; exact k4) (h2 k (Nat.zero_le _) k2)
  · rw [e g h2] at h4
    rcases qFree_spec τ 8 (qFw τ (-1) 8 0 (-1)) (by decide) with ⟨-, k2⟩ | ⟨k, k2, k3, k4, k5⟩
    · exact absurd h4 (k2 g h2)
    · by_cases hgk : g = k
      · rw [h3, k3, hgk]
      · by_cases hlt : g < k
        · exact absurd h4 (k5 g hlt)
        · exact absurd (by rw [e k k2]; exact k4) (h5 k (Nat.zero_le _) (by omega))
theorem mup_same (σ : Mem) (i k : Nat) : mup σ i k (σ i k) = σ := by
  funext j l
  by_cases hj : j = i
  · subst hj
    by_cases hl : l = k
    · subst hl; rw [mup_v]
    · rw [mup_f _ _ _ _ hl]
  · rw [mup_n _ _ _ hj]
theorem mup_mup (σ : Mem) (i k : Nat) (v w : Int32) : mup (mup σ i k v) i k w = mup σ i k w := by
  funext j l
  by_cases hj : j = i
  · subst hj
    by_cases hl : l = k
    · subst hl; rw [mup_v, mup_v]
    · rw [mup_f _ _ _ _ hl, mup_f _ _ _ _ hl, mup_f _ _ _ _ hl]
  · rw [mup_n _ _ _ hj, mup_n _ _ _ hj, mup_n _ _ _ hj]
theorem al_hand {B a b d h : Nat} {σ τ : Mem} (hA : Al B σ τ a b d) (hh : h < 8) : Al B (mup σ 0 4 (nI h)) (mup τ 0 17 (nI h)) a b d := by
  obtain ⟨hM, hX, hI, hY, h1, h2, h3⟩ := hA
  have ks : ∀ i, i ≠ 0 → (mup σ 0 4 (nI h)) i = σ i := fun i hi => mup_n _ _ _ hi
  have qs : ∀ i, i ≠ 0 → (mup τ 0 17 (nI h)) i = τ i := fun i hi => mup_n _ _ _ hi
  have q0 : ∀ k, k ≠ 17 → (mup τ 0 17 (nI h)) 0 k = τ 0 k := fun k hk => mup_f _ _ _ _ hk
  refine ⟨?_, ?_, ?_, ?_, by rw [ks 1 (by decide)]; exact h1, by rw [q0 18 (by decide)]; exact h2, by rw [q0 21 (by decide)]; exact h3⟩
  · exact RM.go hM (by rw [ks 1 (by decide), q0 19 (by decide)]; exact hM.1) (by rw [ks 1 (by decide), q0 20 (by decide)]; exact hM.2.1) (by rw [ks 5 (by decide)]) (by rw [ks 5 (by decide), q0 10 (by decide)]; exact hM.2.2.2.1) (ks 2 (by decide)) (ks 3 (by decide)) (ks 4 (by decide)) (ks 6 (by decide)) (ks 7 (by decide)) (fun i h1 h2 => qs i (by omega)) (q0 9 (by decide)) (q0 4 (by decide))
  · exact RX.go hX (by rw [ks 5 (by decide), q0 11 (by decide)]; exact hX.1) (by rw [mup_v, mup_v]) (fun i h1 h2 => ks i (by omega)) (fun i h1 h2 => qs i (by omega))
  · exact IM.go hI (q0 9 (by decide)) (by rw [q0 10 (by decide)]; exact hI.2.1) (Nat.le_refl _) hI.2.2.2.2.1 (qs 1 (by decide)) (qs 2 (by decide))
  · obtain ⟨y1, y2, y3, y4, y5, y6, y7⟩ := hY
    refine ⟨by rw [q0 11 (by decide)]; exact y1, y2, y3, by rw [mup_v]; exact nat0_nI hh (by decide), ?_, by rw [qs 8 (by decide)]; exact y6, by rw [qs 11 (by decide)]; exact y7⟩
    unfold FI
    rw [qs 7 (by decide), qs 8 (by decide), qs 9 (by decide), qs 10 (by decide), qs 11 (by decide)]
    exact y5
theorem al_used {B a b d f : Nat} {x : Int32} {σ τ : Mem} (hA : Al B σ τ a b d) (hf : f < 8) (hx : x = 0 ∨ x = nI 1) : Al B (mup σ (f + 9) 3 x) (mup τ 10 f x) a b d := by
  obtain ⟨hM, hX, hI, hY, h1, h2, h3⟩ := hA
  have ks : ∀ i, i ≠ f + 9 → (mup σ (f + 9) 3 x) i = σ i := fun i hi => mup_n _ _ _ hi
  have qs : ∀ i, i ≠ 10 → (mup τ 10 f x) i = τ i := fun i hi => mup_n _ _ _ hi
  refine ⟨?_, ?_, ?_, ?_, by rw [ks 1 (by omega)]; exact h1, by rw [qs 0 (by decide)]; exact h2, by rw [qs 0 (by decide)]; exact h3⟩
  · exact RM.go hM (by rw [ks 1 (by omega), qs 0 (by decide)]; exact hM.1) (by rw [ks 1 (by omega), qs 0 (by decide)]; exact hM.2.1) (by rw [ks 5 (by omega)]) (by rw [ks 5 (by omega), qs 0 (by decide)]; exact hM.2.2.2.1) (ks 2 (by omega)) (ks 3 (by omega)) (ks 4 (by omega)) (ks 6 (by omega)) (ks 7 (by omega)) (fun i h1 h2 => qs i (by omega)) (by rw [qs 0 (by decide)]) (by rw [qs 0 (by decide)])
  · refine ⟨by rw [ks 5 (by omega), qs 0 (by decide)]; exact hX.1, by rw [ks 0 (by omega), qs 0 (by decide)]; exact hX.2.1, fun g hg => ?_⟩
    obtain ⟨x1, x2, x3, x4, x5⟩ := hX.2.2 g hg
    unfold RF
    rw [ks (g + 17) (by omega), qs 7 (by decide), qs 8 (by decide), qs 9 (by decide), qs 11 (by decide)]
    by_cases hgf : g = f
    · subst hgf
      rw [mup_f _ _ _ _ (by decide), mup_f _ _ _ _ (by decide), mup_v, mup_v, mup_f _ _ _ _ (by decide)]
      exact ⟨x1, x2, rfl, x4, x5⟩
    · rw [ks (g + 9) (by omega), mup_f _ _ _ _ hgf]
      exact ⟨x1, x2, x3, x4, x5⟩
  · exact IM.go hI (by rw [qs 0 (by decide)]) (by rw [qs 0 (by decide)]; exact hI.2.1) (Nat.le_refl _) hI.2.2.2.2.1 (qs 1 (by decide)) (qs 2 (by decide))
  · obtain ⟨y1, y2, y3, y4, y5, y6, y7⟩ := hY
    refine ⟨by rw [qs 0 (by decide)]; exact y1, y2, y3, by rw [qs 0 (by decide)]; exact y4, fun g hg => ?_, by rw [qs 8 (by decide)]; exact y6, by rw [qs 11 (by decide)]; exact y7⟩
    obtain ⟨z1, z2, z3, z4, z5⟩ := y5 g hg
    unfold FI
    rw [qs 7 (by decide), qs 8 (by decide), qs 9 (by decide), qs 11 (by decide)]
    refine ⟨z1, z2, ?_, z4, z5⟩
    by_cases hgf : g = f
    · subst hgf; rw [mup_v]; exact hx
    · rw [mup_f _ _ _ _ hgf]; exact z3
theorem pins_pos {B a b f : Nat} {τ : Mem} (hB : B < 2 ^ 30) (h : FI B a b τ f) : (0 < τ 9 f ↔ ¬ τ 9 f = 0) ∧ (τ 9 f ≤ 0 ↔ τ 9 f = 0) := by
  obtain ⟨k, hk, e⟩ := h.2.1
  rw [e, show (0 : Int32) = nI 0 from rfl]
  rw [nI_ltI (by decide) (by omega), nI_leI (by omega) (by decide), nI_eq (by omega) (by decide)]
  omega
/-- one step of the hand over a frame that isn't taken -/
theorem qStep_pin {B a b h : Nat} {τ : Mem} (hB : B < 2 ^ 30) (hY : FI B a b τ h) (hp : 0 < τ 9 h) : qStep h τ = mup τ 0 17 (nI ((h + 1) % 8)) := by
  unfold qStep
  have h9 : ¬ τ 9 h ≤ 0 := fun q => ((pins_pos hB hY).1.mp hp) ((pins_pos hB hY).2.mp q)
  rcases hY.2.2.1 with h8 | h8
  · rw [if_pos h8, show nI 0 = τ 10 h by rw [h8]; rfl, mup_same]
  · rw [if_neg (by rw [h8]; decide), if_neg h9, ← h8, mup_same]
theorem qStep_use {h : Nat} {τ : Mem} (hp : τ 9 h ≤ 0) (hu : ¬ τ 10 h = 0) : qStep h τ = mup (mup τ 10 h (nI 0)) 0 17 (nI ((h + 1) % 8)) := by
  unfold qStep
  rw [if_neg hu, if_pos hp]
theorem go {B a b d : Nat} (hB : B < 2 ^ 30) : ∀ (n h : Nat) (σ τ : Mem), Al B σ τ a b d → τ 0 17 = nI h → h < 8 → qStops n h τ →
    (qWh n h τ).1 < 8 ∧ (kGo n h σ).1 = nI (qWh n h τ).1 ∧ Al B (kGo n h σ).2 (mup (qWh n h τ).2 0 17 (nI (((qWh n h τ).1 + 1) % 8))) a b d ∧ τ 9 (qWh n h τ).1 = 0 ∧ (∀ k, k ≠ 17 → (qWh n h τ).2 0 k = τ 0 k) ∧ qWh (n + 1) h τ = qWh n h τ
  | 0, h, σ, τ, _, _, _, hs => hs.elim
  | n + 1, h, σ, τ, hA, hh, h8, hs => by
    have hF := hA.2.2.2.1.2.2.2.2.1 h h8
    have hpp := pins_pos hB hF
    have hR := hA.2.1.2.2 h h8
    have hm : (h + 1) % 8 < 8 := Nat.mod_lt _ (by decide)
    have hA1 := al_hand hA hm
    have e2 : (mup σ 0 4 (nI ((h + 1) % 8))) (h + 9) 2 = τ 9 h := by rw [mup_n _ _ _ (by omega)]; exact hR.2.1
    have e3 : (mup σ 0 4 (nI ((h + 1) % 8))) (h + 9) 3 = τ 10 h := by rw [mup_n _ _ _ (by omega)]; exact hR.2.2.1
    unfold kGo
    rw [e2, e3]
    by_cases c1 : 0 < τ 9 h
    · have hs' : qStops n ((h + 1) % 8) (qStep h τ) := by unfold qStops at hs; rw [if_pos c1] at hs; exact hs
      have w1 : qWh (n + 1) h τ = qWh n ((h + 1) % 8) (qStep h τ) := by rw [qWh, if_pos c1]
      have w2 : qWh (n + 1 + 1) h τ = qWh (n + 1) ((h + 1) % 8) (qStep h τ) := by rw [qWh, if_pos c1]
      rw [if_neg (fun q => (hpp.1.mp c1) (hpp.2.mp q)), w2, w1, qStep_pin hB hF c1]
      rw [qStep_pin hB hF c1] at hs'
      obtain ⟨g1, g2, g3, g4, g5, g6⟩ := go hB n _ _ _ hA1 (mup_v _ _ _ _) hm hs'
      exact ⟨g1, g2, g3, by rw [mup_n _ _ _ (by decide)] at g4; exact g4, fun k hk => by rw [g5 k hk, mup_f _ _ _ _ hk], g6⟩
    · have c1' : τ 9 h ≤ 0 := Int32.not_lt.mp c1
      rw [if_pos c1']
      by_cases c2 : τ 10 h = 0
      · have w1 : qWh (n + 1) h τ = (h, τ) := by rw [qWh, if_neg c1, if_pos c2]
        have w2 : qWh (n + 1 + 1) h τ = (h, τ) := by rw [qWh, if_neg c1, if_pos c2]
        rw [if_pos c2, w2, w1]
        exact ⟨h8, rfl, hA1, hpp.2.mp c1', fun _ _ => rfl, rfl⟩
      · have hs' : qStops n ((h + 1) % 8) (qStep h τ) := by unfold qStops at hs; rw [if_neg c1, if_neg c2] at hs; exact hs
        have w1 : qWh (n + 1) h τ = qWh n ((h + 1) % 8) (qStep h τ) := by rw [qWh, if_neg c1, if_neg c2]
        have w2 : qWh (n + 1 + 1) h τ = qWh (n + 1) ((h + 1) % 8) (qStep h τ) := by rw [qWh, if_neg c1, if_neg c2]
        rw [if_neg c2, w2, w1, qStep_use c1' c2]
        rw [qStep_use c1' c2] at hs'
        have hA2 : Al B (mup (mup σ 0 4 (nI ((h + 1) % 8))) (h + 9) 3 (nI 0)) (mup (mup τ 10 h (nI 0)) 0 17 (nI ((h + 1) % 8))) a b d := by
          have hA3 := al_used hA1 h8 (x := nI 0) (Or.inl rfl)
          have e : mup (mup τ 0 17 (nI ((h + 1) % 8))) 10 h (nI 0) = mup (mup τ 10 h (nI 0)) 0 17 (nI ((h + 1) % 8)) := by
            funext j l
            by_cases h0 : j = 0
            · subst h0
              rw [mup_n _ _ _ (by decide)]
              by_cases h17 : l = 17
              · subst h17; rw [mup_v, mup_v]
              · rw [mup_f _ _ _ _ h17, mup_f _ _ _ _ h17, mup_n _ _ _ (by decide)]
            · rw [mup_n (mup τ 10 h (nI 0)) _ _ h0]
              by_cases h10 : j = 10
              · subst h10
                by_cases hl : l = h
                · subst hl; rw [mup_v, mup_v]
                · rw [mup_f _ _ _ _ hl, mup_f _ _ _ _ hl, mup_n _ _ _ (by decide)]
              · rw [mup_n _ _ _ h10, mup_n _ _ _ h10, mup_n _ _ _ h0]
          rw [← e]; exact hA3
        obtain ⟨g1, g2, g3, g4, g5, g6⟩ := go hB n _ _ _ hA2 (mup_v _ _ _ _) hm hs'
        exact ⟨g1, g2, g3, by rw [mup_n _ _ _ (by decide), mup_n _ _ _ (by decide)] at g4; exact g4, fun k hk => by rw [g5 k hk, mup_f _ _ _ _ hk, mup_n _ _ _ (by decide)], g6⟩
theorem go_all {B a b d : Nat} (hB : B < 2 ^ 30) : ∀ (n h : Nat) (σ τ : Mem), Al B σ τ a b d → h < 8 → (∀ g, g < 8 → ¬ τ 9 g = 0) → n ≠ 0 →
    (kGo n h σ).1 = -1 ∧ Al B (kGo n h σ).2 (mup τ 0 17 (nI ((h + n) % 8))) a b d
  | 0, h, σ, τ, hA, h8, hp, hn => absurd rfl hn
  | n + 1, h, σ, τ, hA, h8, hp, _ => by
    have hF := hA.2.2.2.1.2.2.2.2.1 h h8
    have hpp := pins_pos hB hF
    have hR := hA.2.1.2.2 h h8
    have hm : (h + 1) % 8 < 8 := Nat.mod_lt _ (by decide)
    have hA1 := al_hand hA hm
    have e2 : (mup σ 0 4 (nI ((h + 1) % 8))) (h + 9) 2 = τ 9 h := by rw [mup_n _ _ _ (by omega)]; exact hR.2.1
    unfold kGo
    rw [e2, if_neg (fun q => hp h h8 (hpp.2.mp q))]
    by_cases hn : n = 0
    · subst hn
      exact ⟨rfl, hA1⟩
    · obtain ⟨g1, g2⟩ := go_all hB n ((h + 1) % 8) _ _ hA1 hm (fun g hg => by rw [mup_n _ _ _ (by decide)]; exact hp g hg) hn
      refine ⟨g1, ?_⟩
      rw [mup_mup] at g2
      rw [show (h + (n + 1)) % 8 = ((h + 1) % 8 + n) % 8 by omega]
      exact g2
theorem qSome_0 (τ : Mem) : ∀ (n f : Nat) (x : Int32), qSome τ n f x = 0 → x = 0 ∧ ∀ g, f ≤ g → g < f + n → ¬ τ 9 g = 0
  | 0, f, x, h => ⟨h, fun g h1 h2 => by omega⟩
  | n + 1, f, x, h => by
    unfold qSome at h
    split at h
    · rename_i c
      split at h
      · exact absurd (qSome_0 τ n (f + 1) _ h).1 (by decide)
      · rename_i c2
        refine ⟨c, fun g h1 h2 => ?_⟩
        by_cases hg : g = f
        · rw [hg]; exact c2
        · exact (qSome_0 τ n (f + 1) _ h).2 g (by omega) (by omega)
    · exact absurd (qSome_0 τ n (f + 1) _ h).1 (by decide)
theorem stops16 (τ : Mem) {h : Nat} (hh : h < 8) (hs : ¬ qSome τ 8 0 (nI 0) = 0) : qStops 16 h τ := by
  rcases qSome_ex τ 8 0 (nI 0) (by decide) hs with h9 | ⟨g, hg, h9⟩
  · exact absurd rfl h9
  · exact stB _ 16 h g τ hh hg rfl (by omega) (by rw [h9]; decide)
