/-! forceTo; the spare place; a page's own place; a frame is written -/
theorem al_force {B a b d : Nat} {σ τ : Mem} (h : Al B σ τ a b d) (hd : d + 1 ≤ B) : Al B (mup σ 5 4 (σ 5 4 + nI 1)) (mup τ 0 10 (τ 0 10 + nI 1)) a b (d + 1) := by
  obtain ⟨hM, hX, hI, hY, h1, h2, h3⟩ := h
  have e10 : τ 0 10 + nI 1 = nI (d + 1) := by rw [hI.2.1, nI_add]
  have e54 : σ 5 4 + nI 1 = nI (d + 1) := by rw [hM.2.2.2.1]; exact e10
  refine ⟨?_, ?_, ?_, ?_, by rw [mup_n _ _ _ (by decide)]; exact h1, by rw [mup_f _ _ _ _ (by decide)]; exact h2, by rw [mup_f _ _ _ _ (by decide)]; exact h3⟩
  · refine RM.go hM ?_ ?_ (mup_f _ _ _ _ (by decide)) (by rw [mup_v, mup_v, e54, e10]) (mup_n _ _ _ (by decide)) (mup_n _ _ _ (by decide)) (mup_n _ _ _ (by decide)) (mup_n _ _ _ (by decide)) (mup_n _ _ _ (by decide)) (fun i h1 h2 => mup_n _ _ _ (by omega)) (mup_f _ _ _ _ (by decide)) (mup_f _ _ _ _ (by decide))
    · rw [mup_n _ _ _ (by decide), mup_f _ _ _ _ (by decide)]; exact hM.1
    · rw [mup_n _ _ _ (by decide), mup_f _ _ _ _ (by decide)]; exact hM.2.1
  · refine RX.go hX ?_ ?_ (fun i h1 h2 => mup_n _ _ _ (by omega)) (fun i h1 h2 => mup_n _ _ _ (by omega))
    · rw [mup_f _ _ _ _ (by decide), mup_f _ _ _ _ (by decide)]; exact hX.1
    · rw [mup_n _ _ _ (by decide), mup_f _ _ _ _ (by decide)]; exact hX.2.1
  · exact IM.go hI (mup_f _ _ _ _ (by decide)) (by rw [mup_v, e10]) (by omega) hd (mup_n _ _ _ (by decide)) (mup_n _ _ _ (by decide))
  · exact IX.go hY (mup_f _ _ _ _ (by decide)) (mup_f _ _ _ _ (by decide)) (fun i h1 h2 => mup_n _ _ _ (by omega))
/-- what forcing the log leaves as it was -/
def fk (σ σ' τ τ' : Mem) : Prop := (∀ i, i ≠ 1 → i ≠ 5 → σ' i = σ i) ∧ (∀ i, i ≠ 0 → τ' i = τ i) ∧ (∀ k, k ≠ 19 → k ≠ 20 → k ≠ 10 → τ' 0 k = τ 0 k) ∧ σ' 5 3 = σ 5 3 ∧ σ' 5 5 = σ 5 5
theorem fo {B a b : Nat} : ∀ (n d : Nat) (k : Int32) (σ τ : Mem), Al B σ τ a b d → d + n ≤ B →
    ((kForce n σ).1 = 0 ∧ ∃ d', d ≤ d' ∧ d' ≤ d + n ∧ Dead B (kForce n σ).2 (qFo n k τ).2 a d') ∨ (¬ (kForce n σ).1 = 0 ∧ (qFo n k τ).1 = k + nI n ∧ Al B (kForce n σ).2 (qFo n k τ).2 a b (d + n) ∧ fk σ (kForce n σ).2 τ (qFo n k τ).2)
  | 0, d, k, σ, τ, h, hd => Or.inr ⟨by show ¬ (1 : Int32) = 0; decide, by show k = k + nI 0; rw [nI_0]; simp, h, fun _ _ _ => rfl, fun _ _ => rfl, fun _ _ _ _ => rfl, rfl, rfl⟩
  | n + 1, d, k, σ, τ, h, hd => by
    unfold kForce qFo
    rcases lw h with ⟨c1, c2, hD⟩ | ⟨c1, c2, hA, hk⟩
    · left
      rw [if_pos c1, if_pos c2]
      exact ⟨rfl, d, Nat.le_refl _, by omega, hD⟩
    · rw [if_neg c1, if_neg c2]
      rcases fo n (d + 1) (k + nI 1) _ _ (al_force hA (by omega)) (by omega) with ⟨e1, d', e2, e3, e4⟩ | ⟨e1, e2, e3, e4, e5, e6, e7, e8⟩
      · exact Or.inl ⟨e1, d', by omega, by omega, e4⟩
      · refine Or.inr ⟨e1, ?_, by rw [show d + (n + 1) = d + 1 + n by omega]; exact e3, fun i h1 h5 => ?_, fun i h0 => ?_, fun j h19 h20 h10 => ?_, ?_, ?_⟩
        · rw [e2, show k + nI 1 + nI n = k + (nI 1 + nI n) from Int32.add_assoc _ _ _, nI_add, Nat.add_comm]
        · rw [e4 i h1 h5, mup_n _ _ _ h5, hk.1 i h1]
        · rw [e5 i h0, mup_n _ _ _ h0, hk.2.1 i h0]
        · rw [e6 j h19 h20 h10, mup_f _ _ _ _ h10, hk.2.2 j h19 h20]
        · rw [e7, mup_f _ _ _ _ (by decide), hk.1 5 (by decide)]
        · rw [e8, mup_f _ _ _ _ (by decide), hk.1 5 (by decide)]
theorem ft {B a b d pl : Nat} {σ τ : Mem} (h : Al B σ τ a b d) (hp : pl ≤ B) (hB : B < 2 ^ 30) :
    ((kFT σ (nI pl)).1 = 0 ∧ ∃ d', d ≤ d' ∧ d' ≤ B ∧ Dead B (kFT σ (nI pl)).2 (qFT τ (nI pl)).2 a d') ∨ (¬ (kFT σ (nI pl)).1 = 0 ∧ (qFT τ (nI pl)).1 = nI (pl - d) ∧ Al B (kFT σ (nI pl)).2 (qFT τ (nI pl)).2 a b (d + (pl - d)) ∧ fk σ (kFT σ (nI pl)).2 τ (qFT τ (nI pl)).2) := by
  have hdB : d ≤ B := h.2.2.1.2.2.2.2.1
  have e1 : (nI pl - σ 5 4).toNatClampNeg = pl - d := by
    rw [h.1.2.2.2.1, h.2.2.1.2.1]
    show (nI pl - nI d).toInt.toNat = _
    rw [pk_sub_toInt (by omega) (by omega)]; omega
  have e2 : ((nI pl).toInt - (τ 0 10).toInt).toNat = pl - d := by
    rw [h.2.2.1.2.1, nI_toInt (by omega), nI_toInt (by omega)]; omega
  unfold kFT qFT
  rw [e1, e2]
  rcases fo (pl - d) d (nI 0) σ τ h (by omega) with ⟨c1, d', c2, c3, c4⟩ | ⟨c1, c2, c3, c4⟩
  · exact Or.inl ⟨c1, d', c2, by omega, c4⟩
  · exact Or.inr ⟨c1, by rw [c2, nI_add]; congr 1; omega, c3, c4⟩
/-! copies -/
theorem qTS_2 (f : Nat) : ∀ (n i : Nat) (τ : Mem) (k : Nat), (qTS f n i τ) 2 k = if i ≤ k ∧ k < i + n then τ 7 (64 * f + k) else τ 2 k
  | 0, i, τ, k => by rw [if_neg (by omega)]; rfl
  | n + 1, i, τ, k => by
    unfold qTS
    rw [qTS_2 f n (i + 1) _ k, mup_n _ _ _ (show 7 ≠ 2 by decide)]
    by_cases hk : k = i
    · subst hk
      rw [if_neg (by omega), if_pos (by omega), mup_v]
    · rw [mup_f _ _ _ _ hk]
      by_cases h : i + 1 ≤ k ∧ k < i + 1 + n
      · rw [if_pos h, if_pos (by omega)]
      · rw [if_neg h, if_neg (by omega)]
theorem qTO_1 (pg : Nat) : ∀ (n i : Nat) (τ : Mem) (k : Nat), (qTO pg n i τ) 1 k = if 64 * pg + i ≤ k ∧ k < 64 * pg + i + n then τ 2 (k - 64 * pg) else τ 1 k
  | 0, i, τ, k => by rw [if_neg (by omega)]; rfl
  | n + 1, i, τ, k => by
    unfold qTO
    rw [qTO_1 pg n (i + 1) _ k, mup_n _ _ _ (show 2 ≠ 1 by decide)]
    by_cases hk : k = 64 * pg + i
    · subst hk
      rw [if_neg (by omega), if_pos (by omega), mup_v]
      congr 1; omega
    · rw [mup_f _ _ _ _ hk]
      by_cases h : 64 * pg + (i + 1) ≤ k ∧ k < 64 * pg + (i + 1) + n
      · rw [if_pos h, if_pos (by omega)]
      · rw [if_neg h, if_neg (by omega)]
theorem qCp_7 (f pg : Nat) : ∀ (n i : Nat) (τ : Mem) (k : Nat), (qCp f pg n i τ) 7 k = if 64 * f + i ≤ k ∧ k < 64 * f + i + n then τ 1 (64 * pg + (k - 64 * f)) else τ 7 k
  | 0, i, τ, k => by rw [if_neg (by omega)]; rfl
  | n + 1, i, τ, k => by
    unfold qCp
    rw [qCp_7 f pg n (i + 1) _ k, mup_n _ _ _ (show 1 ≠ 7 by decide)]
    by_cases hk : k = 64 * f + i
    · subst hk
      rw [if_neg (by omega), if_pos (by omega), mup_v]
      congr 1; omega
    · rw [mup_f _ _ _ _ hk]
      by_cases h : 64 * f + (i + 1) ≤ k ∧ k < 64 * f + (i + 1) + n
      · rw [if_pos h, if_pos (by omega)]
      · rw [if_neg h, if_neg (by omega)]
theorem mcp_d (σ : Mem) (j i sp dp n k : Nat) : (mcp σ j i sp dp n) i k = if dp ≤ k ∧ k < dp + n then σ j (sp + (k - dp)) else σ i k := by
  unfold mcp
  rw [mset_s]
  rfl
/-- half of a frame goes to the spare place -/
theorem al_spare {B a b d f h : Nat} {σ τ : Mem} (hA : Al B σ τ a b d) (hf : f < 8) (hh : h + 32 ≤ 64) : Al B (mcp σ (f + 17) 4 h h 32) (qTS f 32 h τ) a b d := by
  obtain ⟨hM, hX, hI, hY, h1, h2, h3⟩ := hA
  have ks : ∀ i, i ≠ 4 → (mcp σ (f + 17) 4 h h 32) i = σ i := fun i hi => mcp_n _ _ _ _ _ _ hi
  have qs : ∀ i, i ≠ 2 → (qTS f 32 h τ) i = τ i := fun i hi => qTS_n f 32 h τ hi
  have e4 : (mcp σ (f + 17) 4 h h 32) 4 = (qTS f 32 h τ) 2 := by
    funext k
    rw [mcp_d, qTS_2]
    by_cases hk : h ≤ k ∧ k < h + 32
    · rw [if_pos hk, if_pos hk, show h + (k - h) = k by omega]
      exact (hX.2.2 f hf).2.2.2.2 k (by omega)
    · rw [if_neg hk, if_neg hk, hM.2.2.2.2.2.1]
  refine ⟨?_, ?_, ?_, ?_, by rw [ks 1 (by decide)]; exact h1, by rw [qs 0 (by decide)]; exact h2, by rw [qs 0 (by decide)]; exact h3⟩
  · obtain ⟨m1, m2, m3, m4, m5, m6, m7, m8, m9, m10⟩ := hM
    refine ⟨by rw [ks 1 (by decide), qs 0 (by decide)]; exact m1, by rw [ks 1 (by decide), qs 0 (by decide)]; exact m2, by rw [ks 5 (by decide), qs 0 (by decide)]; exact m3, by rw [ks 5 (by decide), qs 0 (by decide)]; exact m4, by rw [ks 3 (by decide), qs 1 (by decide)]; exact m5, e4, by rw [ks 7 (by decide), qs 5 (by decide)]; exact m7, ?_, ?_, by rw [ks 2 (by decide)]; exact m10⟩
    · unfold RT
      rw [ks 6 (by decide), qs 6 (by decide), qs 3 (by decide), qs 4 (by decide)]; exact m8
    · unfold RN
      rw [ks 2 (by decide), qs 0 (by decide)]; exact m9
  · exact RX.go hX (by rw [ks 5 (by decide), qs 0 (by decide)]; exact hX.1) (by rw [ks 0 (by decide), qs 0 (by decide)]; exact hX.2.1) (fun i h1 h2 => ks i (by omega)) (fun i h1 h2 => qs i (by omega))
  · obtain ⟨i1, i2, i3, i4, i5, i6, i7⟩ := hI
    refine ⟨by rw [qs 0 (by decide)]; exact i1, by rw [qs 0 (by decide)]; exact i2, i3, i4, i5, by rw [qs 1 (by decide)]; exact i6, ?_⟩
    rw [qTS_2]
    split
    · exact (hY.2.2.2.2.1 f hf).2.2.2.2
    · exact i7
  · exact IX.go hY (by rw [qs 0 (by decide)]) (by rw [qs 0 (by decide)]) (fun i h1 h2 => qs i (by omega))
/-- half of the spare place (or of what is the same) goes to the page's own place -/
theorem al_own {B a b d pg j h : Nat} {x y : Int32} {σ τ : Mem} (hA : Al B σ τ a b d) (hpg : pg < 256) (hh : h + 32 ≤ 64) (hh8 : h = 0 ∨ h = 32) (hj : ∀ i, i < 64 → σ j i = τ 2 i) (hn : (x = 0 ∧ y = -1) ∨ (x = nI 1 ∧ y = nI pg ∧ σ 2 3 = nI pg)) :
    Al B (mup (mcp σ j 3 h (pg * 64 + h) 32) 2 4 x) (mup (qTO pg 32 h τ) 0 4 y) a b d := by
  obtain ⟨hM, hX, hI, hY, h1, h2, h3⟩ := hA
  have ks : ∀ i, i ≠ 3 → i ≠ 2 → (mup (mcp σ j 3 h (pg * 64 + h) 32) 2 4 x) i = σ i := fun i hi h2 => by rw [mup_n _ _ _ h2, mcp_n _ _ _ _ _ _ hi]
  have qs : ∀ i, i ≠ 1 → i ≠ 0 → (mup (qTO pg 32 h τ) 0 4 y) i = τ i := fun i hi h0 => by rw [mup_n _ _ _ h0, qTO_n pg 32 h τ hi]
  have q0 : ∀ k, k ≠ 4 → (mup (qTO pg 32 h τ) 0 4 y) 0 k = τ 0 k := fun k hk => by rw [mup_f _ _ _ _ hk, qTO_n pg 32 h τ (by decide)]
  have e3 : (mup (mcp σ j 3 h (pg * 64 + h) 32) 2 4 x) 3 = (mup (qTO pg 32 h τ) 0 4 y) 1 := by
    funext k
    rw [mup_n _ _ _ (by decide), mup_n _ _ _ (by decide), mcp_d, qTO_1]
    by_cases hk : 64 * pg + h ≤ k ∧ k < 64 * pg + h + 32
    · rw [if_pos (by omega), if_pos hk, hj _ (by omega)]
      congr 1; omega
    · rw [if_neg (by omega), if_neg hk, hM.2.2.2.2.1]
  have e23 : (mup (mcp σ j 3 h (pg * 64 + h) 32) 2 4 x) 2 3 = σ 2 3 := by rw [mup_f _ _ _ _ (by decide), mcp_n _ _ _ _ _ _ (by decide)]
  refine ⟨?_, ?_, ?_, ?_, by rw [ks 1 (by decide) (by decide)]; exact h1, by rw [q0 18 (by decide)]; exact h2, by rw [q0 21 (by decide)]; exact h3⟩
  · obtain ⟨m1, m2, m3, m4, m5, m6, m7, m8, m9, m10⟩ := hM
    refine ⟨by rw [ks 1 (by decide) (by decide), q0 19 (by decide)]; exact m1, by rw [ks 1 (by decide) (by decide), q0 20 (by decide)]; exact m2, by rw [ks 5 (by decide) (by decide), q0 9 (by decide)]; exact m3, by rw [ks 5 (by decide) (by decide), q0 10 (by decide)]; exact m4, e3, by rw [ks 4 (by decide) (by decide), qs 2 (by decide) (by decide)]; exact m6, by rw [ks 7 (by decide) (by decide), qs 5 (by decide) (by decide)]; exact m7, ?_, ?_, by rw [e23]; exact m10⟩
    · unfold RT
      rw [ks 6 (by decide) (by decide), qs 6 (by decide) (by decide), qs 3 (by decide) (by decide), qs 4 (by decide) (by decide)]; exact m8
    · unfold RN
      rw [e23, mup_v, mup_v]
      rcases hn with ⟨n1, n2⟩ | ⟨n1, n2, n3⟩
      · exact Or.inl ⟨n1, n2⟩
      · exact Or.inr ⟨n1, pg, hpg, n2, n3⟩
  · exact RX.go hX (by rw [ks 5 (by decide) (by decide), q0 11 (by decide)]; exact hX.1) (by rw [ks 0 (by decide) (by decide), q0 17 (by decide)]; exact hX.2.1) (fun i h1 h2 => ks i (by omega) (by omega)) (fun i h1 h2 => qs i (by omega) (by omega))
  · obtain ⟨i1, i2, i3, i4, i5, i6, i7⟩ := hI
    refine ⟨by rw [q0 9 (by decide)]; exact i1, by rw [q0 10 (by decide)]; exact i2, i3, i4, i5, fun p hp => ?_, by rw [qs 2 (by decide) (by decide)]; exact i7⟩
    rw [mup_n _ _ _ (by decide), qTO_1]
    split
    · rename_i hk
      have hp9 : p = pg := by omega
      rw [hp9, Nat.sub_self]; exact i7
    · exact i6 p hp
  · exact IX.go hY (q0 11 (by decide)) (q0 17 (by decide)) (fun i h1 h2 => qs i (by omega) (by omega))
