/-! A page's own place; a frame is written -/
/-- what writing the own place leaves as it was -/
def ok9 (σ σ' τ τ' : Mem) : Prop := (∀ i, i ≠ 1 → i ≠ 2 → i ≠ 3 → σ' i = σ i) ∧ σ' 2 3 = σ 2 3 ∧ (∀ i, i ≠ 0 → i ≠ 1 → τ' i = τ i) ∧ ∀ k, k ≠ 4 → k ≠ 19 → k ≠ 20 → τ' 0 k = τ 0 k
theorem ow {B a b d pg j : Nat} {σ τ : Mem} (h : Al B σ τ a b d) (hpg : pg < 256) (hj1 : j ≠ 1) (hj2 : j ≠ 2) (hj3 : j ≠ 3) (hj : ∀ i, i < 64 → σ j i = τ 2 i) (hs : σ 2 3 = nI pg) :
    ((kOwn σ pg j).1 = 0 ∧ Dead B (kOwn σ pg j).2 (qWO τ pg) a d) ∨ (¬ (kOwn σ pg j).1 = 0 ∧ Al B (kOwn σ pg j).2 (qWO τ pg) a b d ∧ (qWO τ pg) 0 4 = -1 ∧ ok9 σ (kOwn σ pg j).2 τ (qWO τ pg)) := by
  unfold kOwn qWO kThen
  rw [Nat.zero_mul, Nat.one_mul]
  rcases lw h with ⟨c1, c2, hD⟩ | ⟨c1, c2, hA, hk⟩
  · rw [if_pos c1, if_pos c2]
    exact Or.inl ⟨rfl, hD⟩
  · rw [if_neg c1, if_neg c2]
    dsimp only
    generalize (kLW σ).2 = σ1 at hA hk ⊢
    generalize (qCW τ).2 = τ1 at hA hk ⊢
    have hA1 := al_own (h := 0) (j := j) (x := nI 1) (y := nI pg) hA hpg (by decide) (Or.inl rfl) (fun i hi => by rw [hk.1 j hj1, hk.2.1 2 (by decide)]; exact hj i hi) (Or.inr ⟨rfl, rfl, by rw [hk.1 2 (by decide)]; exact hs⟩)
    have s1 : ∀ i, i ≠ 1 → i ≠ 2 → i ≠ 3 → (mup (mcp σ1 j 3 0 (pg * 64 + 0) 32) 2 4 (nI 1)) i = σ i := fun i h1 h2 h3 => by rw [mup_n _ _ _ h2, mcp_n _ _ _ _ _ _ h3, hk.1 i h1]
    have s23 : (mup (mcp σ1 j 3 0 (pg * 64 + 0) 32) 2 4 (nI 1)) 2 3 = σ 2 3 := by rw [mup_f _ _ _ _ (by decide), mcp_n _ _ _ _ _ _ (by decide), hk.1 2 (by decide)]
    have t1 : ∀ i, i ≠ 0 → i ≠ 1 → (mup (qTO pg 32 0 τ1) 0 4 (nI pg)) i = τ i := fun i h0 h1 => by rw [mup_n _ _ _ h0, qTO_n pg 32 0 τ1 h1, hk.2.1 i h0]
    have t10 : ∀ k, k ≠ 4 → k ≠ 19 → k ≠ 20 → (mup (qTO pg 32 0 τ1) 0 4 (nI pg)) 0 k = τ 0 k := fun k h4 h19 h20 => by rw [mup_f _ _ _ _ h4, qTO_n pg 32 0 τ1 (by decide), hk.2.2 k h19 h20]
    generalize mup (mcp σ1 j 3 0 (pg * 64 + 0) 32) 2 4 (nI 1) = σ2 at hA1 s1 s23 ⊢
    generalize mup (qTO pg 32 0 τ1) 0 4 (nI pg) = τ2 at hA1 t1 t10 ⊢
    rcases lw hA1 with ⟨c3, c4, hD⟩ | ⟨c3, c4, hA2, hk2⟩
    · rw [if_pos c3, if_pos c4]
      exact Or.inl ⟨rfl, hD⟩
    · rw [if_neg c3, if_neg c4]
      dsimp only
      generalize (kLW σ2).2 = σ3 at hA2 hk2 ⊢
      generalize (qCW τ2).2 = τ3 at hA2 hk2 ⊢
      right
      refine ⟨by show ¬ (1 : Int32) = 0; decide, al_own (h := 32) (j := j) (x := nI 0) (y := -1) hA2 hpg (by decide) (Or.inr rfl) (fun i hi => by rw [hk2.1 j hj1, s1 j hj1 hj2 hj3, hk2.2.1 2 (by decide), t1 2 (by decide) (by decide)]; exact hj i hi) (Or.inl ⟨rfl, rfl⟩), mup_v _ _ _ _, ?_, ?_, ?_, ?_⟩
      · intro i h1 h2 h3
        show mup _ _ _ _ i = _
        rw [mup_n _ _ _ h2, mcp_n _ _ _ _ _ _ h3, hk2.1 i h1, s1 i h1 h2 h3]
      · show mup _ _ _ _ 2 3 = _
        rw [mup_f _ _ _ _ (by decide), mcp_n _ _ _ _ _ _ (by decide), hk2.1 2 (by decide), s23]
      · intro i h0 h1
        rw [mup_n _ _ _ h0, qTO_n pg 32 32 τ3 h1, hk2.2.1 i h0, t1 i h0 h1]
      · intro k h4 h19 h20
        rw [mup_f _ _ _ _ h4, qTO_n pg 32 32 τ3 (by decide), hk2.2.2 k h19 h20, t10 k h4 h19 h20]
/-- the spare place gets its number -/
theorem al_num {B a b d pg : Nat} {y : Int32} {σ τ : Mem} (h : Al B σ τ a b d) (hpg : pg < 256) (ht : τ 0 4 = -1) : Al B (mup σ 2 3 (nI pg)) (mup τ 0 3 y) a b d := by
  obtain ⟨hM, hX, hI, hY, h1, h2, h3⟩ := h
  have ks : ∀ i, i ≠ 2 → (mup σ 2 3 (nI pg)) i = σ i := fun i hi => mup_n _ _ _ hi
  have qs : ∀ i, i ≠ 0 → (mup τ 0 3 y) i = τ i := fun i hi => mup_n _ _ _ hi
  have q0 : ∀ k, k ≠ 3 → (mup τ 0 3 y) 0 k = τ 0 k := fun k hk => mup_f _ _ _ _ hk
  refine ⟨?_, ?_, ?_, ?_, by rw [ks 1 (by decide)]; exact h1, by rw [q0 18 (by decide)]; exact h2, by rw [q0 21 (by decide)]; exact h3⟩
  · obtain ⟨m1, m2, m3, m4, m5, m6, m7, m8, m9, m10⟩ := hM
    refine ⟨by rw [ks 1 (by decide), q0 19 (by decide)]; exact m1, by rw [ks 1 (by decide), q0 20 (by decide)]; exact m2, by rw [ks 5 (by decide), q0 9 (by decide)]; exact m3, by rw [ks 5 (by decide), q0 10 (by decide)]; exact m4, by rw [ks 3 (by decide), qs 1 (by decide)]; exact m5, by rw [ks 4 (by decide), qs 2 (by decide)]; exact m6, by rw [ks 7 (by decide), qs 5 (by decide)]; exact m7, ?_, ?_, by rw [mup_v]; exact nat0_nI hpg (by decide)⟩
    · unfold RT
      rw [ks 6 (by decide), qs 6 (by decide), qs 3 (by decide), qs 4 (by decide)]; exact m8
    · left
      rw [q0 4 (by decide), mup_f _ _ _ _ (by decide)]
      rcases m9 with h9 | ⟨-, p, hp, h8, -⟩
      · exact h9
      · rw [ht] at h8
        exact absurd h8.symm (n1 (by omega))
  · exact RX.go hX (by rw [ks 5 (by decide), q0 11 (by decide)]; exact hX.1) (by rw [ks 0 (by decide), q0 17 (by decide)]; exact hX.2.1) (fun i h1 h2 => ks i (by omega)) (fun i h1 h2 => qs i (by omega))
  · exact IM.go hI (q0 9 (by decide)) (by rw [q0 10 (by decide)]; exact hI.2.1) (Nat.le_refl _) hI.2.2.2.2.1 (qs 1 (by decide)) (qs 2 (by decide))
  · exact IX.go hY (q0 11 (by decide)) (q0 17 (by decide)) (fun i h1 h2 => qs i (by omega))
/-- a frame isn't changed any more -/
theorem al_clean {B a b d f : Nat} {σ τ : Mem} (h : Al B σ τ a b d) (hf : f < 8) : Al B (mup σ (f + 9) 4 (-1)) (mup τ 11 f (-1)) a b d := by
  obtain ⟨hM, hX, hI, hY, h1, h2, h3⟩ := h
  have ks : ∀ i, i ≠ f + 9 → (mup σ (f + 9) 4 (-1)) i = σ i := fun i hi => mup_n _ _ _ hi
  have qs : ∀ i, i ≠ 11 → (mup τ 11 f (-1)) i = τ i := fun i hi => mup_n _ _ _ hi
  refine ⟨?_, ?_, ?_, ?_, by rw [ks 1 (by omega)]; exact h1, by rw [qs 0 (by decide)]; exact h2, by rw [qs 0 (by decide)]; exact h3⟩
  · exact RM.go hM (by rw [ks 1 (by omega), qs 0 (by decide)]; exact hM.1) (by rw [ks 1 (by omega), qs 0 (by decide)]; exact hM.2.1) (by rw [ks 5 (by omega)]) (by rw [ks 5 (by omega), qs 0 (by decide)]; exact hM.2.2.2.1) (ks 2 (by omega)) (ks 3 (by omega)) (ks 4 (by omega)) (ks 6 (by omega)) (ks 7 (by omega)) (fun i h1 h2 => qs i (by omega)) (by rw [qs 0 (by decide)]) (by rw [qs 0 (by decide)])
  · refine ⟨by rw [ks 5 (by omega), qs 0 (by decide)]; exact hX.1, by rw [ks 0 (by omega), qs 0 (by decide)]; exact hX.2.1, fun g hg => ?_⟩
    obtain ⟨x1, x2, x3, x4, x5⟩ := hX.2.2 g hg
    unfold RF
    rw [ks (g + 17) (by omega), qs 7 (by decide), qs 8 (by decide), qs 9 (by decide), qs 10 (by decide)]
    by_cases hgf : g = f
    · subst hgf
      rw [mup_f _ _ _ _ (by decide), mup_f _ _ _ _ (by decide), mup_f _ _ _ _ (by decide), mup_v, mup_v]
      exact ⟨x1, x2, x3, rfl, x5⟩
    · rw [ks (g + 9) (by omega), mup_f _ _ _ _ hgf]
      exact ⟨x1, x2, x3, x4, x5⟩
  · exact IM.go hI (by rw [qs 0 (by decide)]) (by rw [qs 0 (by decide)]; exact hI.2.1) (Nat.le_refl _) hI.2.2.2.2.1 (qs 1 (by decide)) (qs 2 (by decide))
  · obtain ⟨y1, y2, y3, y4, y5, y6, y7⟩ := hY
    refine ⟨by rw [qs 0 (by decide)]; exact y1, y2, y3, by rw [qs 0 (by decide)]; exact y4, fun g hg => ?_, by rw [qs 8 (by decide)]; exact y6, fun g k hg hk hgk he => ?_⟩
    · obtain ⟨z1, z2, z3, z4, z5⟩ := y5 g hg
      unfold FI
      rw [qs 7 (by decide), qs 8 (by decide), qs 9 (by decide), qs 10 (by decide)]
      by_cases hgf : g = f
      · subst hgf
        rw [mup_v]
        refine ⟨?_, z2, z3, Or.inl rfl, z5⟩
        rcases z1 with ⟨q1, q2, -⟩ | q
        · exact Or.inl ⟨q1, q2, rfl⟩
        · exact Or.inr q
      · rw [mup_f _ _ _ _ hgf]
        exact ⟨z1, z2, z3, z4, z5⟩
    · by_cases hgf : g = f
      · rw [hgf, mup_v]
      · rw [mup_f _ _ _ _ hgf] at he ⊢
        by_cases hkf : k = f
        · rw [hkf, mup_v] at he; exact he
        · rw [mup_f _ _ _ _ hkf] at he
          exact y7 g k hg hk hgk he
theorem dead_off {B a d : Nat} {σ τ : Mem} (h : Dead B σ τ a d) : Off B (kLose σ) τ a d := h.1
theorem i32_7 (x : Int32) : x - nI 1 + nI 8 = x + nI 8 - nI 1 := by
  rw [Int32.sub_eq_add_neg, Int32.sub_eq_add_neg, Int32.add_assoc, Int32.add_assoc, Int32.add_comm (-nI 1)]
theorem mk_end {m : Nat} : nI m + nI 8 - nI 1 = nI (m + 7) := by
  rw [nI_add, pk_sub (by omega)]
  rfl
theorem kThen_0 {σ : Mem} {k : Mem → Int32 × Mem} (c : (kLW σ).1 = 0) : kThen σ k = (0, (kLW σ).2) := if_pos c
theorem kThen_1 {σ : Mem} {k : Mem → Int32 × Mem} (c : ¬ (kLW σ).1 = 0) : kThen σ k = k (kLW σ).2 := if_neg c
/-- what writing a frame leaves as it was -/
def wk (f : Nat) (τ τ' : Mem) : Prop := (∀ i, 3 ≤ i → i ≠ 11 → τ' i = τ i) ∧ τ' 11 f = -1 ∧ (∀ g, g ≠ f → τ' 11 g = τ 11 g) ∧ ∀ k, k ≠ 3 → k ≠ 4 → k ≠ 10 → k ≠ 19 → k ≠ 20 → τ' 0 k = τ 0 k
theorem wr {B a b d f : Nat} {σ τ : Mem} (h : Al B σ τ a b d) (hf : f < 8) (hp : nat0 256 (τ 8 f)) (ht : τ 0 4 = -1) (hB : B < 2 ^ 30) :
    ((kWF σ f).1 = 0 ∧ ∃ d', d ≤ d' ∧ Off B (kWF σ f).2 (qWr τ f) a d' ∧ ¬ (qWr τ f) 0 21 = 0) ∨ (¬ (kWF σ f).1 = 0 ∧ ∃ d', d ≤ d' ∧ Al B (kWF σ f).2 (qWr τ f) a b d' ∧ (qWr τ f) 0 4 = -1 ∧ wk f τ (qWr τ f)) := by
  obtain ⟨m, hm, hmB⟩ := (h.2.2.2.1.2.2.2.2.1 f hf).2.2.2.2
  have hRF := h.2.1.2.2 f hf
  have e1 : kEnd σ f = nI (m + 7) := by
    unfold kEnd
    rw [hRF.2.2.2.2 0 (by decide), Nat.add_zero, hm, i32_7, mk_end]
  have e2 : τ 7 (64 * f) + nI 8 - nI 1 = nI (m + 7) := by rw [hm, mk_end]
  have hpg : σ (f + 9) 1 = τ 8 f := hRF.1
  unfold kWF qWr
  rw [e1, e2, hpg, Nat.zero_mul, Nat.one_mul]
  generalize hpg9 : (τ 8 f).toNatClampNeg = pg
  have hpl : pg < 256 := by rw [← hpg9]; exact hp.1
  have hpe : τ 8 f = nI pg := by rw [← hpg9]; exact hp.2
  rcases ft (pl := m + 7) h (by omega) hB with ⟨c1, d', e3, e4, hD⟩ | ⟨c1, c2, hA, hk⟩
  · left
    rw [if_pos c1]
    generalize (kFT σ (nI (m + 7))).2 = σ1 at hD ⊢
    generalize (qFT τ (nI (m + 7))).2 = τ1 at hD ⊢
    have hz := hD.2
    simp only [qCW_dead hz, qWO_dead hz, if_neg hz, nI_0, if_true]
    exact ⟨trivial, d', e3, hD.1, hz⟩
  · rw [if_neg c1]
    generalize hd1 : d + (m + 7 - d) = d1 at hA
    generalize (kFT σ (nI (m + 7))).2 = σ1 at hA hk ⊢
    generalize (qFT τ (nI (m + 7))).2 = τ1 at hA hk ⊢
    have hsp : kSpare σ1 (σ1 (f + 9) 1) (f + 17) = kSpare σ1 (nI pg) (f + 17) := by rw [hk.1 (f + 9) (by omega) (by omega), hpg, hpe]
    rw [hsp]
    have ht1 : τ1 0 4 = -1 := by rw [hk.2.2.1 4 (by decide) (by decide) (by decide)]; exact ht
    have t8 : τ1 8 f = nI pg := by rw [hk.2.1 8 (by decide)]; exact hpe
    unfold kSpare
    rcases lw hA with ⟨c3, c4, hD⟩ | ⟨c3, c4, hA1, hk1⟩
    · left
      have hz := hD.2
      rw [kThen_0 c3, if_pos c4]
      simp only [qCW_dead hz, qWO_dead hz, if_neg hz, nI_0, if_true]
      exact ⟨trivial, d1, by omega, hD.1, hz⟩
    · rw [kThen_1 c3, if_neg c4]
      generalize (kLW σ1).2 = σ2 at hA1 hk1 ⊢
      generalize (qCW τ1).2 = τ2 at hA1 hk1 ⊢
      have hA2 := al_spare (h := 0) hA1 hf (by decide)
      have s2 : ∀ i, i ≠ 1 → i ≠ 4 → i ≠ 5 → (mcp σ2 (f + 17) 4 0 0 32) i = σ i := fun i h1 h4 h5 => by rw [mcp_n _ _ _ _ _ _ h4, hk1.1 i h1, hk.1 i h1 h5]
      have t2 : ∀ i, i ≠ 0 → i ≠ 2 → (qTS f 32 0 τ2) i = τ i := fun i h0 h2 => by rw [qTS_n f 32 0 τ2 h2, hk1.2.1 i h0, hk.2.1 i h0]
      have t20 : ∀ k, k ≠ 10 → k ≠ 19 → k ≠ 20 → (qTS f 32 0 τ2) 0 k = τ 0 k := fun k h10 h19 h20 => by rw [qTS_n f 32 0 τ2 (by decide), hk1.2.2 k h19 h20, hk.2.2.1 k h19 h20 h10]
      have v2 : ∀ i, i < 32 → (qTS f 32 0 τ2) 2 i = τ 7 (64 * f + i) := fun i hi => by rw [qTS_2, if_pos (by omega), hk1.2.1 7 (by decide), hk.2.1 7 (by decide)]
      generalize mcp σ2 (f + 17) 4 0 0 32 = σ3 at hA2 s2 ⊢
      generalize qTS f 32 0 τ2 = τ3 at hA2 t2 t20 v2 ⊢
      rcases lw hA2 with ⟨c5, c6, hD⟩ | ⟨c5, c6, hA3, hk3⟩
      · left
        have hz := hD.2
        rw [kThen_0 c5, if_pos c6]
        simp only [qCW_dead hz, qWO_dead hz, if_neg hz, nI_0, if_true]
        exact ⟨trivial, d1, by omega, hD.1, hz⟩
      · rw [kThen_1 c5, if_neg c6]
        generalize (kLW σ3).2 = σ4 at hA3 hk3 ⊢
        generalize (qCW τ3).2 = τ4 at hA3 hk3 ⊢
        have hA4 := al_spare (h := 32) hA3 hf (by decide)
        have s4 : ∀ i, i ≠ 1 → i ≠ 4 → i ≠ 5 → (mcp σ4 (f + 17) 4 32 32 32) i = σ i := fun i h1 h4 h5 => by rw [mcp_n _ _ _ _ _ _ h4, hk3.1 i h1, s2 i h1 h4 h5]
        have t4 : ∀ i, i ≠ 0 → i ≠ 2 → (qTS f 32 32 τ4) i = τ i := fun i h0 h2 => by rw [qTS_n f 32 32 τ4 h2, hk3.2.1 i h0, t2 i h0 h2]
        have t40 : ∀ k, k ≠ 10 → k ≠ 19 → k ≠ 20 → (qTS f 32 32 τ4) 0 k = τ 0 k := fun k h10 h19 h20 => by rw [qTS_n f 32 32 τ4 (by decide), hk3.2.2 k h19 h20, t20 k h10 h19 h20]
        have v4 : ∀ i, i < 64 → (qTS f 32 32 τ4) 2 i = τ 7 (64 * f + i) := fun i hi => by
          rw [qTS_2]
          split
          · rw [hk3.2.1 7 (by decide), t2 7 (by decide) (by decide)]
          · rw [hk3.2.1 2 (by decide), v2 i (by omega)]
        generalize mcp σ4 (f + 17) 4 32 32 32 = σ5 at hA4 s4 ⊢
        generalize qTS f 32 32 τ4 = τ5 at hA4 t4 t40 v4 ⊢
        rcases lw hA4 with ⟨c7, c8, hD⟩ | ⟨c7, c8, hA5, hk5⟩
        · left
          have hz := hD.2
          rw [kThen_0 c7, if_pos c8]
          simp only [qCW_dead hz, qWO_dead hz, if_neg hz, nI_0, if_true]
          exact ⟨trivial, d1, by omega, hD.1, hz⟩
        · rw [kThen_1 c7, if_neg c8]
          generalize (kLW σ5).2 = σ6 at hA5 hk5 ⊢
          generalize (qCW τ5).2 = τ6 at hA5 hk5 ⊢
          have t6 : τ6 8 f = nI pg := by rw [hk5.2.1 8 (by decide), t4 8 (by decide) (by decide)]; exact hpe
          rw [t6]
          have hA6 := al_num (y := nI pg) hA5 hpl (by rw [hk5.2.2 4 (by decide) (by decide), t40 4 (by decide) (by decide) (by decide)]; exact ht)
          have s7 : ∀ i, i ≠ 1 → i ≠ 2 → i ≠ 4 → i ≠ 5 → (mup σ6 2 3 (nI pg)) i = σ i := fun i h1 h2 h4 h5 => by rw [mup_n _ _ _ h2, hk5.1 i h1, s4 i h1 h4 h5]
          have t7 : ∀ i, i ≠ 0 → i ≠ 2 → (mup τ6 0 3 (nI pg)) i = τ i := fun i h0 h2 => by rw [mup_n _ _ _ h0, hk5.2.1 i h0, t4 i h0 h2]
          have t70 : ∀ k, k ≠ 3 → k ≠ 10 → k ≠ 19 → k ≠ 20 → (mup τ6 0 3 (nI pg)) 0 k = τ 0 k := fun k h3 h10 h19 h20 => by rw [mup_f _ _ _ _ h3, hk5.2.2 k h19 h20, t40 k h10 h19 h20]
          have v7 : ∀ i, i < 64 → (mup σ6 2 3 (nI pg)) (f + 17) i = (mup τ6 0 3 (nI pg)) 2 i := fun i hi => by
            rw [s7 (f + 17) (by omega) (by omega) (by omega) (by omega), mup_n _ _ _ (show 2 ≠ 0 by decide), hk5.2.1 2 (by decide), v4 i hi]
            exact hRF.2.2.2.2 i hi
          have n7 : (mup σ6 2 3 (nI pg)) 2 3 = nI pg := mup_v _ _ _ _
          generalize mup σ6 2 3 (nI pg) = σ7 at hA6 s7 v7 n7 ⊢
          generalize mup τ6 0 3 (nI pg) = τ7 at hA6 t7 t70 v7 ⊢
          rw [if_neg (show ¬ (1 : Int32) = 0 by decide), if_pos hA6.2.2.2.2.2.2]
          dsimp only
          rcases ow (j := f + 17) hA6 hpl (by omega) (by omega) (by omega) v7 n7 with ⟨c9, hD⟩ | ⟨c9, hA7, h4, hk7⟩
          · left
            have hz := hD.2
            rw [if_pos c9, if_neg hz]
            exact ⟨rfl, d1, by omega, hD.1, hz⟩
          · right
            rw [if_neg c9, if_pos hA7.2.2.2.2.2.2]
            refine ⟨by show ¬ nI 1 = 0; decide, d1, by omega, al_clean hA7 hf, by rw [mup_n _ _ _ (by decide)]; exact h4, fun i h3 h11 => ?_, mup_v _ _ _ _, fun g hg => ?_, fun k k3 k4 k10 k19 k20 => ?_⟩
            · rw [mup_n _ _ _ h11, hk7.2.2.1 i (by omega) (by omega), t7 i (by omega) (by omega)]
            · rw [mup_f _ _ _ _ hg, hk7.2.2.1 11 (by decide) (by decide), t7 11 (by decide) (by decide)]
            · rw [mup_n _ _ _ (by decide), hk7.2.2.2 k k4 k19 k20, t70 k k3 k10 k19 k20]
