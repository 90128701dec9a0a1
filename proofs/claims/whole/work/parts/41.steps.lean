/-! Alive and dead: one least write, copies of halves -/
/-- power is on, nothing has failed -/
def Al (B : Nat) (σ τ : Mem) (a b d : Nat) : Prop := RM σ τ ∧ RX σ τ ∧ IM B τ a d ∧ IX B τ a b ∧ σ 1 0 = nI 1 ∧ τ 0 18 = 0 ∧ τ 0 21 = 0
def Off (B : Nat) (σ τ : Mem) (a d : Nat) : Prop := RM σ τ ∧ RX σ τ ∧ IM B τ a d ∧ IX B τ a d ∧ σ 1 0 = 0 ∧ τ 0 18 = nI 1 ∧ ∀ f, f < 8 → τ 8 f = -1
/-- power has failed; the class has its memory yet to lose -/
def Dead (B : Nat) (σ τ : Mem) (a d : Nat) : Prop := Off B (kLose σ) τ a d ∧ ¬ τ 0 21 = 0
theorem RM.go {σ τ σ' τ' : Mem} (h : RM σ τ) (h11 : σ' 1 1 = τ' 0 19) (h12 : σ' 1 2 = τ' 0 20) (h53 : σ' 5 3 = σ 5 3) (h54 : σ' 5 4 = τ' 0 10) (e2 : σ' 2 = σ 2) (e3 : σ' 3 = σ 3) (e4 : σ' 4 = σ 4) (e6 : σ' 6 = σ 6) (e7 : σ' 7 = σ 7) (t : ∀ i, 1 ≤ i → i ≤ 6 → τ' i = τ i) (t9 : τ' 0 9 = τ 0 9) (t4 : τ' 0 4 = τ 0 4) : RM σ' τ' := by
  obtain ⟨-, -, a3, -, a5, a6, a7, a8, a9, a10⟩ := h
  refine ⟨h11, h12, by rw [h53, a3, t9], h54, by rw [e3, a5, t 1 (by decide) (by decide)], by rw [e4, a6, t 2 (by decide) (by decide)], by rw [e7, a7, t 5 (by decide) (by decide)], fun r => ?_, ?_, by rw [e2]; exact a10⟩
  · rw [e6, t 3 (by decide) (by decide), t 4 (by decide) (by decide), t 6 (by decide) (by decide)]; exact a8 r
  · unfold RN; rw [e2, t4]; exact a9
theorem RX.go {σ τ σ' τ' : Mem} (h : RX σ τ) (h55 : σ' 5 5 = τ' 0 11) (h04 : σ' 0 4 = τ' 0 17) (es : ∀ i, 9 ≤ i → i < 25 → σ' i = σ i) (et : ∀ i, 7 ≤ i → i ≤ 11 → τ' i = τ i) : RX σ' τ' := by
  refine ⟨h55, h04, fun f hf => ?_⟩
  unfold RF
  rw [es (f + 9) (by omega) (by omega), es (f + 17) (by omega) (by omega), et 7 (by decide) (by decide), et 8 (by decide) (by decide), et 9 (by decide) (by decide), et 10 (by decide) (by decide), et 11 (by decide) (by decide)]
  exact h.2.2 f hf
theorem IX.go {B a b : Nat} {τ τ' : Mem} (h : IX B τ a b) (t11 : τ' 0 11 = τ 0 11) (t17 : τ' 0 17 = τ 0 17) (et : ∀ i, 7 ≤ i → i ≤ 11 → τ' i = τ i) : IX B τ' a b := by
  unfold IX FI
  rw [t11, t17, et 7 (by decide) (by decide), et 8 (by decide) (by decide), et 9 (by decide) (by decide), et 10 (by decide) (by decide), et 11 (by decide) (by decide)]
  exact h
theorem IM.go {B a d d' : Nat} {τ τ' : Mem} (h : IM B τ a d) (t9 : τ' 0 9 = τ 0 9) (t10 : τ' 0 10 = nI d') (h1 : d ≤ d') (h2 : d' ≤ B) (e1 : τ' 1 = τ 1) (e2 : τ' 2 = τ 2) : IM B τ' a d' := by
  obtain ⟨a1, a2, a3, a4, a5, a6, a7⟩ := h
  exact ⟨by rw [t9, a1], t10, a3, by omega, h2, by rw [e1]; exact a6, by rw [e2]; exact a7⟩
/-- power fails -/
theorem die {B a b d : Nat} {σ τ : Mem} (h : Al B σ τ a b d) : Dead B (kFail σ) (qFail τ) a d := by
  obtain ⟨hM, hX, hI, hY, -, -, -⟩ := h
  have k5 := kLose_5 (kFail σ)
  have k0 := kLose_0 (kFail σ)
  have kn : ∀ i, i < 9 → i ≠ 0 → i ≠ 5 → kLose (kFail σ) i = kFail σ i := fun i h1 h2 h3 => kLose_n _ h1 h2 h3
  have ks : ∀ i, i ≠ 1 → kFail σ i = σ i := fun i hi => by unfold kFail; rw [mup_n _ _ _ hi, mup_n _ _ _ hi]
  have qs : ∀ i, i ≠ 0 → i < 8 → qFail τ i = τ i := fun i h1 h2 => qFail_n τ h1 h2
  have q0 : ∀ k, k ≠ 17 → k ≠ 11 → k ≠ 18 → k ≠ 21 → k ≠ 19 → qFail τ 0 k = τ 0 k := fun k h1 h2 h3 h4 h5 => qFail_s τ h1 h2 h3 h4 h5
  have q10 : qFail τ 0 10 = τ 0 10 := qFail_10 τ
  have q11 : qFail τ 0 11 = τ 0 10 := by
    unfold qFail; rw [qForget_11, mup_f _ _ _ _ (by decide), mup_f _ _ _ _ (by decide), mup_f _ _ _ _ (by decide)]
  have q17 : qFail τ 0 17 = nI 0 := by unfold qFail; exact qForget_17 _
  have qF : ∀ f, f < 8 → (qFail τ) 8 f = -1 ∧ (qFail τ) 9 f = nI 0 ∧ (qFail τ) 10 f = nI 0 ∧ (qFail τ) 11 f = -1 := fun f hf => by unfold qFail; exact qForget_F _ hf
  have q18 : qFail τ 0 18 = nI 1 := by
    unfold qFail; rw [qForget_0 _ (by decide) (by decide), mup_f _ _ _ _ (by decide), mup_f _ _ _ _ (by decide), mup_v]
  have q19 : qFail τ 0 19 = -1 := by
    unfold qFail; rw [qForget_0 _ (by decide) (by decide), mup_v]
  refine ⟨⟨?_, ?_, ?_, ?_, ?_, q18, fun f hf => (qF f hf).1⟩, by rw [qFail_21]; decide⟩
  · refine RM.go hM ?_ ?_ ?_ ?_ ?_ ?_ ?_ ?_ ?_ (fun i h1 h2 => qs i (by omega) (by omega)) (q0 9 (by decide) (by decide) (by decide) (by decide) (by decide)) (q0 4 (by decide) (by decide) (by decide) (by decide) (by decide))
    · rw [kn 1 (by decide) (by decide) (by decide), q19]; unfold kFail; rw [mup_v]
    · rw [kn 1 (by decide) (by decide) (by decide), q0 20 (by decide) (by decide) (by decide) (by decide) (by decide), ← hM.2.1]; unfold kFail; rw [mup_f _ _ _ _ (by decide), mup_f _ _ _ _ (by decide)]
    · rw [k5.1, ks 5 (by decide)]
    · rw [k5.2.1, ks 5 (by decide), q10]; exact hM.2.2.2.1
    · rw [kn 2 (by decide) (by decide) (by decide), ks 2 (by decide)]
    · rw [kn 3 (by decide) (by decide) (by decide), ks 3 (by decide)]
    · rw [kn 4 (by decide) (by decide) (by decide), ks 4 (by decide)]
    · rw [kn 6 (by decide) (by decide) (by decide), ks 6 (by decide)]
    · rw [kn 7 (by decide) (by decide) (by decide), ks 7 (by decide)]
  · refine ⟨?_, ?_, fun f hf => ?_⟩
    · rw [k5.2.2, ks 5 (by decide), q11]; exact hM.2.2.2.1
    · rw [k0, q17]
    · obtain ⟨c1, c2, c3, c4⟩ := kLose_F (kFail σ) hf
      obtain ⟨e1, e2, e3, e4⟩ := qF f hf
      refine ⟨by rw [c1, e1], by rw [c2, e2], by rw [c3, e3], by rw [c4, e4], fun i hi => ?_⟩
      rw [kLose_V, ks _ (by omega), qs 7 (by decide) (by decide)]
      exact (hX.2.2 f hf).2.2.2.2 i hi
  · exact IM.go hI (q0 9 (by decide) (by decide) (by decide) (by decide) (by decide)) (by rw [q10]; exact hI.2.1) (Nat.le_refl _) hI.2.2.2.2.1 (qs 1 (by decide) (by decide)) (qs 2 (by decide) (by decide))
  · refine ⟨by rw [q11]; exact hI.2.1, hI.2.2.2.1, hI.2.2.2.2.1, by rw [q17]; exact nat0_nI (by decide) (by decide), fun f hf => ?_, fun f g hf hg hn he => (qF f hf).1, fun f g hf hg hn he => (qF f hf).2.2.2⟩
    obtain ⟨e1, e2, e3, e4⟩ := qF f hf
    exact ⟨Or.inl ⟨e1, e2, e4⟩, ⟨0, Nat.zero_le _, e2⟩, Or.inl e3, Or.inl e4, by rw [qs 7 (by decide) (by decide)]; exact (hY.2.2.2.2.1 f hf).2.2.2.2⟩
  · rw [kn 1 (by decide) (by decide) (by decide)]; unfold kFail; rw [mup_f _ _ _ _ (by decide), mup_v]; rfl
/-- what a least write leaves as it was -/
def lk (σ σ' τ τ' : Mem) : Prop := (∀ i, i ≠ 1 → σ' i = σ i) ∧ (∀ i, i ≠ 0 → τ' i = τ i) ∧ ∀ k, k ≠ 19 → k ≠ 20 → τ' 0 k = τ 0 k
theorem lw {B a b d : Nat} {σ τ : Mem} (h : Al B σ τ a b d) : ((kLW σ).1 = 0 ∧ (qCW τ).1 = 0 ∧ Dead B (kLW σ).2 (qCW τ).2 a d) ∨ (¬ (kLW σ).1 = 0 ∧ ¬ (qCW τ).1 = 0 ∧ Al B (kLW σ).2 (qCW τ).2 a b d ∧ lk σ (kLW σ).2 τ (qCW τ).2) := by
  have hd := die h
  have h' := h
  obtain ⟨hM, hX, hI, hY, h1, h2, h3⟩ := h'
  have hl : σ 1 1 = τ 0 19 := hM.1
  have hm : σ 1 2 = τ 0 20 := hM.2.1
  by_cases c1 : σ 1 1 = 0
  · left
    have c1' : τ 0 19 = 0 := by rw [← hl]; exact c1
    unfold kLW qCW
    rw [if_pos c1, if_pos h3, if_pos c1', if_pos h3]
    exact ⟨rfl, rfl, hd⟩
  · right
    have c1' : ¬ τ 0 19 = 0 := by rw [← hl]; exact c1
    unfold kLW qCW
    rw [if_neg c1, if_pos h3, if_neg c1']
    have fin : ∀ (σ' τ' : Mem), lk σ σ' τ τ' → σ' 1 0 = σ 1 0 → σ' 1 1 = τ' 0 19 → σ' 1 2 = τ' 0 20 → Al B σ' τ' a b d ∧ lk σ σ' τ τ' := by
      intro σ' τ' hk e0 e1 e2
      refine ⟨⟨?_, ?_, ?_, ?_, by rw [e0]; exact h1, by rw [hk.2.2 18 (by decide) (by decide)]; exact h2, by rw [hk.2.2 21 (by decide) (by decide)]; exact h3⟩, hk⟩
      · exact RM.go hM e1 e2 (by rw [hk.1 5 (by decide)]) (by rw [hk.1 5 (by decide), hk.2.2 10 (by decide) (by decide)]; exact hM.2.2.2.1) (hk.1 2 (by decide)) (hk.1 3 (by decide)) (hk.1 4 (by decide)) (hk.1 6 (by decide)) (hk.1 7 (by decide)) (fun i h1 h2 => hk.2.1 i (by omega)) (hk.2.2 9 (by decide) (by decide)) (hk.2.2 4 (by decide) (by decide))
      · exact RX.go hX (by rw [hk.1 5 (by decide), hk.2.2 11 (by decide) (by decide)]; exact hX.1) (by rw [hk.1 0 (by decide), hk.2.2 17 (by decide) (by decide)]; exact hX.2.1) (fun i h1 h2 => hk.1 i (by omega)) (fun i h1 h2 => hk.2.1 i (by omega))
      · exact IM.go hI (hk.2.2 9 (by decide) (by decide)) (by rw [hk.2.2 10 (by decide) (by decide)]; exact hI.2.1) (Nat.le_refl _) hI.2.2.2.2.1 (hk.2.1 1 (by decide)) (hk.2.1 2 (by decide))
      · exact IX.go hY (hk.2.2 11 (by decide) (by decide)) (hk.2.2 17 (by decide) (by decide)) (fun i h1 h2 => hk.2.1 i (by omega))
    by_cases c2 : σ 1 1 ≤ 0
    · have c2' : τ 0 19 ≤ 0 := by rw [← hl]; exact c2
      rw [if_pos c2, if_pos c2']
      dsimp only
      refine ⟨by decide, by decide, fin _ _ ⟨fun i hi => mup_n _ _ _ hi, fun i hi => by rw [mup_n _ _ _ hi, mup_n _ _ _ hi], fun k h19 h20 => by rw [mup_f _ _ _ _ h20, mup_f _ _ _ _ h19]⟩ (mup_f _ _ _ _ (by decide)) ?_ ?_⟩
      · rw [mup_f _ _ _ _ (by decide), mup_f _ _ _ _ (by decide), mup_v, hl]
      · rw [mup_v, mup_v, mup_f _ _ _ _ (by decide), hm]
    · have c2' : ¬ τ 0 19 ≤ 0 := by rw [← hl]; exact c2
      rw [if_neg c2, if_neg c2']
      dsimp only
      refine ⟨by decide, by decide, fin _ _ ⟨fun i hi => by rw [mup_n _ _ _ hi, mup_n _ _ _ hi], fun i hi => by rw [mup_n _ _ _ hi, mup_n _ _ _ hi], fun k h19 h20 => by rw [mup_f _ _ _ _ h20, mup_f _ _ _ _ h19]⟩ (by rw [mup_f _ _ _ _ (by decide), mup_f _ _ _ _ (by decide)]) ?_ ?_⟩
      · rw [mup_f _ _ _ _ (by decide), mup_v, mup_f _ _ _ _ (by decide), mup_v, hl]
      · rw [mup_v, mup_v, mup_f _ _ _ _ (by decide), hm]
/-- the reference once it has failed -/
theorem qCW_dead {τ : Mem} (h : ¬ τ 0 21 = 0) : qCW τ = (nI 0, τ) := by
  unfold qCW
  rw [if_neg h, if_neg h]
theorem qFo_dead {τ : Mem} (h : ¬ τ 0 21 = 0) (k : Int32) : ∀ n, (qFo n k τ) = (k, τ)
  | 0 => rfl
  | n + 1 => by
    unfold qFo
    rw [qCW_dead h]
    exact if_pos rfl
theorem qWO_dead {τ : Mem} (h : ¬ τ 0 21 = 0) (pg : Nat) : qWO τ pg = τ := by
  unfold qWO
  rw [qCW_dead h]
  exact if_pos rfl
