/-! A frame is taken and pinned -/
theorem al_take {B a b d f pg : Nat} {σ τ : Mem} (hA : Al B σ τ a b d) (hf : f < 8) (h11 : τ 11 f = -1) (hpg : pg < 256) (hno : ∀ g, g < 8 → g ≠ f → ¬ τ 8 g = nI pg) :
    Al B (mcp (mup σ (f + 9) 1 (nI pg)) 3 (f + 17) (pg * 64) 0 64) (qCp f pg 64 0 (mup (mup τ 8 f (nI pg)) 11 f (-1))) a b d := by
  obtain ⟨hM, hX, hI, hY, h1, h2, h3⟩ := hA
  have ks : ∀ i, i ≠ f + 9 → i ≠ f + 17 → (mcp (mup σ (f + 9) 1 (nI pg)) 3 (f + 17) (pg * 64) 0 64) i = σ i := fun i h9 h17 => by rw [mcp_n _ _ _ _ _ _ h17, mup_n _ _ _ h9]
  have kf : ∀ k, k ≠ 1 → (mcp (mup σ (f + 9) 1 (nI pg)) 3 (f + 17) (pg * 64) 0 64) (f + 9) k = σ (f + 9) k := fun k hk => by rw [mcp_n _ _ _ _ _ _ (by omega), mup_f _ _ _ _ hk]
  have kf1 : (mcp (mup σ (f + 9) 1 (nI pg)) 3 (f + 17) (pg * 64) 0 64) (f + 9) 1 = nI pg := by rw [mcp_n _ _ _ _ _ _ (by omega), mup_v]
  have kv : ∀ i, i < 64 → (mcp (mup σ (f + 9) 1 (nI pg)) 3 (f + 17) (pg * 64) 0 64) (f + 17) i = τ 1 (64 * pg + i) := fun i hi => by
    rw [mcp_d, if_pos (by omega), mup_n _ _ _ (by omega), hM.2.2.2.2.1]; congr 1; omega
  have qs : ∀ i, i ≠ 7 → i ≠ 8 → i ≠ 11 → (qCp f pg 64 0 (mup (mup τ 8 f (nI pg)) 11 f (-1))) i = τ i := fun i h7 h8 h11 => by rw [qCp_n f pg 64 0 _ h7, mup_n _ _ _ h11, mup_n _ _ _ h8]
  have q8 : (qCp f pg 64 0 (mup (mup τ 8 f (nI pg)) 11 f (-1))) 8 = (mup τ 8 f (nI pg)) 8 := by rw [qCp_n f pg 64 0 _ (by decide), mup_n _ _ _ (by decide)]
  have q11 : ∀ g, (qCp f pg 64 0 (mup (mup τ 8 f (nI pg)) 11 f (-1))) 11 g = τ 11 g := fun g => by
    rw [qCp_n f pg 64 0 _ (by decide)]
    by_cases hg : g = f
    · rw [hg, mup_v, h11]
    · rw [mup_f _ _ _ _ hg, mup_n _ _ _ (by decide)]
  have q7f : ∀ i, i < 64 → (qCp f pg 64 0 (mup (mup τ 8 f (nI pg)) 11 f (-1))) 7 (64 * f + i) = τ 1 (64 * pg + i) := fun i hi => by
    rw [qCp_7, if_pos (by omega), mup_n _ _ _ (by decide), mup_n _ _ _ (by decide)]; congr 1; omega
  have q7g : ∀ g i, g ≠ f → i < 64 → (qCp f pg 64 0 (mup (mup τ 8 f (nI pg)) 11 f (-1))) 7 (64 * g + i) = τ 7 (64 * g + i) := fun g i hg hi => by
    rw [qCp_7, if_neg (by omega), mup_n _ _ _ (by decide), mup_n _ _ _ (by decide)]
  generalize mcp (mup σ (f + 9) 1 (nI pg)) 3 (f + 17) (pg * 64) 0 64 = σ' at *
  generalize qCp f pg 64 0 (mup (mup τ 8 f (nI pg)) 11 f (-1)) = τ' at *
  have q0 : τ' 0 = τ 0 := qs 0 (by decide) (by decide) (by decide)
  refine ⟨?_, ?_, ?_, ?_, by rw [ks 1 (by omega) (by omega)]; exact h1, by rw [q0]; exact h2, by rw [q0]; exact h3⟩
  · exact RM.go hM (by rw [ks 1 (by omega) (by omega), q0]; exact hM.1) (by rw [ks 1 (by omega) (by omega), q0]; exact hM.2.1) (by rw [ks 5 (by omega) (by omega)]) (by rw [ks 5 (by omega) (by omega), q0]; exact hM.2.2.2.1) (ks 2 (by omega) (by omega)) (ks 3 (by omega) (by omega)) (ks 4 (by omega) (by omega)) (ks 6 (by omega) (by omega)) (ks 7 (by omega) (by omega)) (fun i h1 h2 => qs i (by omega) (by omega) (by omega)) (by rw [q0]) (by rw [q0])
  · refine ⟨by rw [ks 5 (by omega) (by omega), q0]; exact hX.1, by rw [ks 0 (by omega) (by omega), q0]; exact hX.2.1, fun g hg => ?_⟩
    obtain ⟨x1, x2, x3, x4, x5⟩ := hX.2.2 g hg
    unfold RF
    rw [qs 9 (by decide) (by decide) (by decide), qs 10 (by decide) (by decide) (by decide), q11 g, q8]
    by_cases hgf : g = f
    · subst hgf
      rw [kf1, kf 2 (by decide), kf 3 (by decide), kf 4 (by decide), mup_v]
      exact ⟨rfl, x2, x3, x4, fun i hi => by rw [kv i hi, q7f i hi]⟩
    · rw [ks (g + 9) (by omega) (by omega), ks (g + 17) (by omega) (by omega), mup_f _ _ _ _ hgf]
      exact ⟨x1, x2, x3, x4, fun i hi => by rw [q7g g i hgf hi]; exact x5 i hi⟩
  · exact IM.go hI (by rw [q0]) (by rw [q0]; exact hI.2.1) (Nat.le_refl _) hI.2.2.2.2.1 (qs 1 (by decide) (by decide) (by decide)) (qs 2 (by decide) (by decide) (by decide))
  · obtain ⟨y1, y2, y3, y4, y5, y6, y7⟩ := hY
    refine ⟨by rw [q0]; exact y1, y2, y3, by rw [q0]; exact y4, fun g hg => ?_, fun g k hg hk hgk he => ?_, fun g k hg hk hgk he => ?_⟩
    · obtain ⟨z1, z2, z3, z4, z5⟩ := y5 g hg
      unfold FI
      rw [qs 9 (by decide) (by decide) (by decide), qs 10 (by decide) (by decide) (by decide), q11 g, q8]
      by_cases hgf : g = f
      · subst hgf
        rw [mup_v]
        refine ⟨Or.inr (nat0_nI hpg (by decide)), z2, z3, z4, ?_⟩
        have e := q7f 0 (by decide)
        rw [Nat.add_zero, Nat.add_zero] at e
        rw [e]; exact hI.2.2.2.2.2.1 pg hpg
      · rw [mup_f _ _ _ _ hgf]
        refine ⟨z1, z2, z3, z4, ?_⟩
        have e := q7g g 0 hgf (by decide)
        rw [Nat.add_zero] at e
        rw [e]; exact z5
    · rw [q8] at he ⊢
      by_cases hgf : g = f
      · rw [hgf, mup_v, mup_f _ _ _ _ (fun q => hgk (hgf.trans q.symm))] at he
        exact absurd he.symm (hno k hk (fun q => hgk (hgf.trans q.symm)))
      · rw [mup_f _ _ _ _ hgf] at he ⊢
        by_cases hkf : k = f
        · rw [hkf, mup_v] at he
          exact absurd he (hno g hg hgf)
        · rw [mup_f _ _ _ _ hkf] at he
          exact y6 g k hg hk hgk he
    · rw [q11 g, q11 k] at he
      rw [q11 g]
      exact y7 g k hg hk hgk he
theorem al_pins {B a b d f k : Nat} {σ τ : Mem} (hA : Al B σ τ a b d) (hf : f < 8) (hk : k ≤ B) (hp : k = 0 ∨ nat0 256 (τ 8 f)) : Al B (mup σ (f + 9) 2 (nI k)) (mup τ 9 f (nI k)) a b d := by
  obtain ⟨hM, hX, hI, hY, h1, h2, h3⟩ := hA
  have ks : ∀ i, i ≠ f + 9 → (mup σ (f + 9) 2 (nI k)) i = σ i := fun i hi => mup_n _ _ _ hi
  have qs : ∀ i, i ≠ 9 → (mup τ 9 f (nI k)) i = τ i := fun i hi => mup_n _ _ _ hi
  refine ⟨?_, ?_, ?_, ?_, by rw [ks 1 (by omega)]; exact h1, by rw [qs 0 (by decide)]; exact h2, by rw [qs 0 (by decide)]; exact h3⟩
  · exact RM.go hM (by rw [ks 1 (by omega), qs 0 (by decide)]; exact hM.1) (by rw [ks 1 (by omega), qs 0 (by decide)]; exact hM.2.1) (by rw [ks 5 (by omega)]) (by rw [ks 5 (by omega), qs 0 (by decide)]; exact hM.2.2.2.1) (ks 2 (by omega)) (ks 3 (by omega)) (ks 4 (by omega)) (ks 6 (by omega)) (ks 7 (by omega)) (fun i h1 h2 => qs i (by omega)) (by rw [qs 0 (by decide)]) (by rw [qs 0 (by decide)])
  · refine ⟨by rw [ks 5 (by omega), qs 0 (by decide)]; exact hX.1, by rw [ks 0 (by omega), qs 0 (by decide)]; exact hX.2.1, fun g hg => ?_⟩
    obtain ⟨x1, x2, x3, x4, x5⟩ := hX.2.2 g hg
    unfold RF
    rw [ks (g + 17) (by omega), qs 7 (by decide), qs 8 (by decide), qs 10 (by decide), qs 11 (by decide)]
    by_cases hgf : g = f
    · subst hgf
      rw [mup_f _ _ _ _ (by decide), mup_v, mup_v, mup_f _ _ _ _ (by decide), mup_f _ _ _ _ (by decide)]
      exact ⟨x1, rfl, x3, x4, x5⟩
    · rw [ks (g + 9) (by omega), mup_f _ _ _ _ hgf]
      exact ⟨x1, x2, x3, x4, x5⟩
  · exact IM.go hI (by rw [qs 0 (by decide)]) (by rw [qs 0 (by decide)]; exact hI.2.1) (Nat.le_refl _) hI.2.2.2.2.1 (qs 1 (by decide)) (qs 2 (by decide))
  · obtain ⟨y1, y2, y3, y4, y5, y6, y7⟩ := hY
    refine ⟨by rw [qs 0 (by decide)]; exact y1, y2, y3, by rw [qs 0 (by decide)]; exact y4, fun g hg => ?_, by rw [qs 8 (by decide)]; exact y6, by rw [qs 11 (by decide)]; exact y7⟩
    obtain ⟨z1, z2, z3, z4, z5⟩ := y5 g hg
    unfold FI
    rw [qs 7 (by decide), qs 8 (by decide), qs 10 (by decide), qs 11 (by decide)]
    by_cases hgf : g = f
    · subst hgf
      rw [mup_v]
      refine ⟨?_, ⟨k, hk, rfl⟩, z3, z4, z5⟩
      rcases hp with hp | hp
      · subst hp
        rcases z1 with ⟨q1, -, q3⟩ | q
        · exact Or.inl ⟨q1, rfl, q3⟩
        · exact Or.inr q
      · exact Or.inr hp
    · rw [mup_f _ _ _ _ hgf]
      exact ⟨z1, z2, z3, z4, z5⟩
theorem kCh_0 (σ : Mem) (f : Nat) : kCh σ f = 0 ↔ σ (f + 9) 4 = -1 := by
  unfold kCh
  constructor
  · intro h
    split at h
    · assumption
    · exact absurd h (by decide)
  · intro h
    rw [if_pos h]
/-- changed or not -/
theorem ch_or {B a b f : Nat} {τ : Mem} (hB : B < 2 ^ 30) (hb : b ≤ B) (h : FI B a b τ f) : (τ 11 f = -1 ∧ τ 11 f < 0) ∨ (¬ τ 11 f = -1 ∧ ¬ τ 11 f < 0 ∧ 0 ≤ τ 11 f ∧ nat0 256 (τ 8 f)) := by
  rcases h.2.2.2.1 with h9 | ⟨x, h1, h2, h3, h4⟩
  · exact Or.inl ⟨h9, by rw [h9]; decide⟩
  · have e : ¬ τ 11 f = -1 := by rw [h4]; exact n1 (by omega)
    refine Or.inr ⟨e, by rw [h4]; exact nI_pos (by omega), by rw [h4]; exact nI_pos' (by omega), ?_⟩
    rcases h.1 with ⟨-, -, q⟩ | q
    · exact absurd q e
    · exact q
/-- what find leaves as it was -/
def nk (f : Nat) (τ τ' : Mem) : Prop := (∀ i, 3 ≤ i → i ≤ 9 → τ' i = τ i) ∧ (∀ g, g ≠ f → τ' 11 g = τ 11 g) ∧ (∀ k, k ≠ 3 → k ≠ 4 → k ≠ 10 → k ≠ 17 → k ≠ 19 → k ≠ 20 → τ' 0 k = τ 0 k) ∧ τ' 11 f = -1
theorem tk {B a b d pg : Nat} {σ τ : Mem} (h : Al B σ τ a b d) (hpg : pg < 256) (ht : τ 0 4 = -1) (hB : B < 2 ^ 30) (hno : ∀ g, g < 8 → ¬ τ 8 g = nI pg) :
    ((kTake σ pg).1 = -1 ∧ (qFind τ).1 = -1 ∧ ((∃ d', d ≤ d' ∧ Off B (kTake σ pg).2 (qFind τ).2 a d' ∧ ¬ (qFind τ).2 0 21 = 0) ∨ (Al B (kTake σ pg).2 (qFind τ).2 a b d ∧ (qFind τ).2 = τ ∧ ∀ g, g < 8 → ¬ τ 9 g = 0)))
    ∨ ∃ f d', f < 8 ∧ d ≤ d' ∧ (kTake σ pg).1 = nI f ∧ (qFind τ).1 = nI f ∧ Al B (kTake σ pg).2 (qCp f pg 64 0 (mup (mup (qFind τ).2 8 f (nI pg)) 11 f (-1))) a b d' ∧ (qFind τ).2 0 4 = -1 ∧ nk f τ (qFind τ).2 := by
  have hY := h.2.2.2.1
  have hF := hY.2.2.2.2.1
  have hbB := hY.2.2.1
  have hfr := free_eq h.2.1
  obtain ⟨hh8, hhe⟩ := hY.2.2.2.1
  have hfi : fr8 (qFreeA τ) := qFree_in τ 8 _ (by decide) (qFw_in τ (-1) 8 0 (-1) (by decide) fr8_m1)
  unfold kTake qFind
  rw [hfr]
  by_cases c : qFreeA τ = -1
  · have cl0 : qFreeA τ < 0 := by rw [c]; decide
    rw [if_pos c, if_pos cl0]
    have hk0 : kRound σ = kGo 16 (τ 0 17).toNatClampNeg σ := by unfold kRound; rw [h.2.1.2.1]
    generalize hh : (τ 0 17).toNatClampNeg = hd0 at *
    rw [hk0]
    by_cases cs : qSome τ 8 0 (nI 0) = 0
    · rw [if_pos cs]
      have hall : ∀ g, g < 8 → ¬ τ 9 g = 0 := fun g hg => (qSome_0 τ 8 0 _ cs).2 g (Nat.zero_le _) (by omega)
      obtain ⟨g1, g2⟩ := go_all hB 16 hd0 σ τ h hh8 hall (by decide)
      rw [show (hd0 + 16) % 8 = hd0 by omega, ← hhe, mup_same] at g2
      rw [if_pos g1]
      exact Or.inl ⟨rfl, rfl, Or.inr ⟨g2, rfl, hall⟩⟩
    · rw [if_neg cs]
      obtain ⟨g1, g2, g3, g4, g5, g6⟩ := go hB 16 hd0 σ τ h hhe hh8 (stops16 τ hh8 cs)
      rw [show (17 : Nat) = 16 + 1 from rfl, g6]
      have k9 : ∀ i, i ≠ 0 → i ≠ 10 → (qWh 16 hd0 τ).2 i = τ i := fun i h0 h10 => qWh_n 16 hd0 τ h0 h10
      rw [if_neg (by rw [g2]; exact n1 (by omega)), g2, nI_clamp (by omega)]
      unfold qFin
      generalize (kGo 16 hd0 σ).2 = σ1 at g3 ⊢
      generalize qWh 16 hd0 τ = x at g1 g3 g4 g5 k9 ⊢
      have s9 : ∀ i, i ≠ 0 → i ≠ 10 → (mup x.2 0 17 (nI ((x.1 + 1) % 8))) i = τ i := fun i h0 h10 => by rw [mup_n _ _ _ h0, k9 i h0 h10]
      have s0 : ∀ k, k ≠ 17 → (mup x.2 0 17 (nI ((x.1 + 1) % 8))) 0 k = τ 0 k := fun k hk => by rw [mup_f _ _ _ _ hk, g5 k hk]
      generalize mup x.2 0 17 (nI ((x.1 + 1) % 8)) = τ1 at g3 s9 s0 ⊢
      generalize x.1 = f at g1 g4 ⊢
      have hF1 := g3.2.2.2.1.2.2.2.2.1 f g1
      have hcls : σ1 (f + 9) 4 = τ1 11 f := (g3.2.1.2.2 f g1).2.2.2.1
      rcases ch_or hB hbB hF1 with ⟨e1, e2⟩ | ⟨e1, e2, e3, e4⟩
      · rw [if_pos ((kCh_0 σ1 f).mpr (by rw [hcls]; exact e1)), if_pos e2, if_pos g3.2.2.2.2.2.2]
        dsimp only
        refine Or.inr ⟨f, d, g1, Nat.le_refl _, rfl, rfl, al_take g3 g1 e1 hpg (fun g hg hgf => by rw [s9 8 (by decide) (by decide)]; exact hno g hg), by rw [s0 4 (by decide)]; exact ht, fun i h3 h9 => s9 i (by omega) (by omega), fun g hg => by rw [s9 11 (by decide) (by decide)], fun k k3 k4 k10 k17 k19 k20 => s0 k k17, e1⟩
      · rw [if_neg (fun q => e1 (by rw [← hcls]; exact (kCh_0 σ1 f).mp q)), if_neg e2]
        rcases wr g3 g1 e4 (by rw [s0 4 (by decide)]; exact ht) hB with ⟨w1, d', w2, w3, w4⟩ | ⟨w1, d', w2, w3, w4, w5⟩
        · rw [if_pos w1, if_neg w4]
          exact Or.inl ⟨rfl, rfl, Or.inl ⟨d', w2, w3, w4⟩⟩
        · rw [if_neg w1, if_pos w3.2.2.2.2.2.2]
          dsimp only
          generalize (kWF σ1 f).2 = σ2 at w3 ⊢
          generalize qWr τ1 f = τ2 at w3 w4 w5 ⊢
          refine Or.inr ⟨f, d', g1, w2, rfl, rfl, al_take w3 g1 w5.2.1 hpg (fun g hg hgf => by rw [w5.1 8 (by decide) (by decide), s9 8 (by decide) (by decide)]; exact hno g hg), w4, fun i h3 h9 => by rw [w5.1 i h3 (by omega), s9 i (by omega) (by omega)], fun g hg => by rw [w5.2.2.1 g hg, s9 11 (by decide) (by decide)], fun k k3 k4 k10 k17 k19 k20 => by rw [w5.2.2.2 k k3 k4 k10 k19 k20, s0 k k17], w5.2.1⟩
  · obtain ⟨g1, g2⟩ := fr8_in hfi c
    generalize hg : (qFreeA τ).toNatClampNeg = f at *
    have hf8 : τ 8 f = -1 := by
      unfold qFreeA at g2
      rcases qFree_spec τ 8 (qFw τ (-1) 8 0 (-1)) (by decide) with ⟨k1, k2⟩ | ⟨k, k2, k3, k4, -⟩
      · exfalso
        rcases qFw_spec τ (-1) 8 0 (-1) rfl with ⟨j1, -⟩ | ⟨j, -, j2, -, j4⟩
        · rw [k1, j1] at g2
          exact absurd g2.symm (n1 (by omega))
        · exact k2 j j2 j4
      · rw [k3] at g2
        have := (nI_eq (by omega) (by omega)).mp g2
        rw [← this]; exact k4
    have h11 : τ 11 f = -1 := by
      rcases (hF f g1).1 with ⟨-, -, q⟩ | q
      · exact q
      · rw [hf8] at q
        exact absurd q.1 (by have := q.2; exact fun _ => absurd this.symm (n1 (by have := q.1; omega)))
    have hcls : σ (f + 9) 4 = τ 11 f := (h.2.1.2.2 f g1).2.2.2.1
    rw [if_neg c, if_pos ((kCh_0 σ f).mpr (by rw [hcls]; exact h11)), if_neg (show ¬ qFreeA τ < 0 by rw [g2]; exact nI_pos (by omega))]
    dsimp only
    exact Or.inr ⟨f, d, g1, Nat.le_refl _, rfl, g2, al_take h g1 h11 hpg (fun g hg hgf => hno g hg), ht, fun _ _ _ => rfl, fun _ _ => rfl, fun _ _ _ _ _ _ _ => rfl, h11⟩
