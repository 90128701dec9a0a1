/-! The other calls -/
theorem Ag.done {B : Nat} {σ σ' τ' : Mem} {g : Nat → Nat} {ks : List Nat} {z r : Int32} (hg : g 0 = 0) (h0 : τ' 0 0 = nI 0) (he : z = r) (hJ : J (B + 16) σ' τ') : Ag B σ (0, z, σ') g (r, τ').1 (r, τ').2 ks :=
  ⟨by rw [hg]; exact h0, fun _ => he, hJ, fun q => absurd rfl q, Or.inl rfl⟩
theorem j_flush {B : Nat} {σ τ : Mem} (h : J B σ τ) (hB : B + 16 < 2 ^ 30) (pg : Int32) : Ag B σ (xFlush σ pg) gId (qFlush τ pg).1 (qFlush τ pg).2 [1, 2] := by
  have hbad := inv_bad (N := 256) pg (by decide) (by decide)
  unfold xFlush qFlush
  rcases h with ⟨a, d, h⟩ | ⟨a, b, d, h, ht, hb⟩
  · have z1 : ¬ τ 0 18 = 0 := by rw [h.2.2.2.2.2.1]; exact on_ne
    rw [if_pos h.2.2.2.2.1, if_neg z1, if_neg z1]
    have hJ : J B σ τ := Or.inl ⟨a, d, h⟩
    split <;> exact Ag.refuse hJ (by decide) rfl (by decide)
  · have hJ : J B σ τ := Or.inr ⟨a, b, d, h, ht, hb⟩
    have z1 : ¬ σ 1 0 = 0 := by rw [h.2.2.2.2.1]; exact on_ne
    rw [if_neg z1, if_pos h.2.2.2.2.2.1, if_pos h.2.2.2.2.2.1]
    by_cases c : kBad 256 pg
    · rw [if_pos c, if_pos (hbad.mp c)]; exact Ag.refuse hJ (by decide) rfl (by decide)
    · rw [if_neg c, if_neg (show ¬ qInv pg (nI 0) (nI 255) = 0 from fun q => c (hbad.mpr q)), fix0 h]
      have hp := kBad_nat c (by decide)
      have h' := (al_thrown (x := nI 0) h).mono (show B ≤ B + 16 by omega)
      have h4 : (mup τ 0 0 (nI 0)) 0 4 = -1 := by rw [mup_f _ _ _ _ (by decide)]; exact ht
      have h0 : (mup τ 0 0 (nI 0)) 0 0 = nI 0 := mup_v _ _ _ _
      have hfw := fw_eq h'.2.1 h'.2.2.2.1 hp.1
      have hlook := @Ag.look B σ τ gId [1, 2] (nI 0) (nI 0) hJ rfl rfl
      generalize mup τ 0 0 (nI 0) = τ1 at *
      rw [hfw]
      have hfi : fr8 (qFw τ1 (nI pg.toNatClampNeg) 8 0 (-1)) := qFw_in τ1 _ 8 0 (-1) (by decide) fr8_m1
      generalize qFw τ1 (nI pg.toNatClampNeg) 8 0 (-1) = x at *
      rcases hfi with rfl | ⟨f, hf, rfl⟩
      · rw [if_pos rfl, if_pos rfl]
        exact hlook
      · have hne : ¬ nI f = -1 := n1 (by omega)
        rw [if_neg hne, if_neg hne, nI_clamp (show f < 2 ^ 31 by omega)]
        have hch := ch_iff hB h'.2.1 h'.2.2.2.1 hf
        rcases ch_or hB h'.2.2.2.1.2.2.1 (h'.2.2.2.1.2.2.2.2.1 f hf) with ⟨y1, y2⟩ | ⟨y1, y2, y3, y4⟩
        · have y5 : ¬ 0 ≤ τ1 11 f := by rw [y1]; decide
          rw [if_pos (hch.mpr y2), if_neg y5]
          exact hlook
        · rw [if_neg (show ¬ kCh σ f = 0 from fun q => y2 (hch.mp q)), if_pos y3]
          have hq0 : (qWr τ1 f) 0 0 = nI 0 := by rw [qWr_0]; exact h0
          rcases wr h' hf y4 h4 hB with ⟨k1, d', -, k2, k3⟩ | ⟨k1, d', -, k2, k3, -⟩
          · rw [if_pos k1, if_neg k3]
            generalize qWr τ1 f = τ2 at *
            generalize (kWF σ f).2 = σ2 at *
            exact Ag.done rfl hq0 rfl (Or.inl ⟨a, d', k2⟩)
          · rw [if_neg k1, if_pos k2.2.2.2.2.2.2]
            generalize qWr τ1 f = τ2 at *
            generalize (kWF σ f).2 = σ2 at *
            exact Ag.done rfl hq0 rfl (Or.inr ⟨a, b, d', k2, k3, hb⟩)
theorem j_flushO {B : Nat} {σ τ : Mem} (h : J B σ τ) (hB : B + 16 < 2 ^ 30) : Ag B σ (xFlushO σ) gOne (qFlushO τ).1 (qFlushO τ).2 [1] := by
  unfold xFlushO qFlushO
  rcases h with ⟨a, d, h⟩ | ⟨a, b, d, h, ht, hb⟩
  · have z1 : ¬ τ 0 18 = 0 := by rw [h.2.2.2.2.2.1]; exact on_ne
    rw [if_pos h.2.2.2.2.1, if_neg z1]
    have hJ : J B σ τ := Or.inl ⟨a, d, h⟩
    exact Ag.refuse hJ (by decide) rfl (by decide)
  · have hJ : J B σ τ := Or.inr ⟨a, b, d, h, ht, hb⟩
    have z1 : ¬ σ 1 0 = 0 := by rw [h.2.2.2.2.1]; exact on_ne
    rw [if_neg z1, if_pos h.2.2.2.2.2.1, fix0 h]
    have h' := (al_thrown (x := nI 0) h).mono (show B ≤ B + 16 by omega)
    have h4 : (mup τ 0 0 (nI 0)) 0 4 = -1 := by rw [mup_f _ _ _ _ (by decide)]; exact ht
    have h0 : (mup τ 0 0 (nI 0)) 0 0 = nI 0 := mup_v _ _ _ _
    have hk := kth_eq hB h'.2.1 h'.2.2.2.1 (nI 0)
    have hlook := @Ag.look B σ τ gOne [1] (-1) (-1) hJ rfl rfl
    generalize mup τ 0 0 (nI 0) = τ1 at *
    rw [hk]
    rcases qKth_spec τ1 (nI 0) 8 0 (-1) rfl with ⟨e, -⟩ | ⟨f, -, hf, e, hc, -⟩
    · rw [e, if_pos rfl, if_pos rfl]
      exact hlook
    · have hne : ¬ nI f = -1 := n1 (by omega)
      rw [e, if_neg hne, if_neg hne, nI_clamp (show f < 2 ^ 31 by omega)]
      rcases ch_or hB h'.2.2.2.1.2.2.1 (h'.2.2.2.1.2.2.2.2.1 f hf) with ⟨y1, y2⟩ | ⟨y1, y2, y3, y4⟩
      · exact absurd y2 hc
      · have hq0 : (qWr τ1 f) 0 0 = nI 0 := by rw [qWr_0]; exact h0
        rcases wr h' hf y4 h4 hB with ⟨k1, d', -, k2, k3⟩ | ⟨k1, d', -, k2, k3, -⟩
        · rw [if_pos k1, if_neg k3]
          generalize qWr τ1 f = τ2 at *
          generalize (kWF σ f).2 = σ2 at *
          exact Ag.done rfl hq0 rfl (Or.inl ⟨a, d', k2⟩)
        · rw [if_neg k1, if_pos k2.2.2.2.2.2.2]
          generalize qWr τ1 f = τ2 at *
          generalize (kWF σ f).2 = σ2 at *
          exact Ag.done rfl hq0 (h'.2.1.2.2 f hf).1 (Or.inr ⟨a, b, d', k2, k3, hb⟩)
theorem j_force {B : Nat} {σ τ : Mem} (h : J B σ τ) (hB : B + 16 < 2 ^ 30) : Ag B σ (xForce σ) gOne (qForceP τ).1 (qForceP τ).2 [1] := by
  unfold xForce qForceP
  rcases h with ⟨a, d, h⟩ | ⟨a, b, d, h, ht, hb⟩
  · have z1 : ¬ τ 0 18 = 0 := by rw [h.2.2.2.2.2.1]; exact on_ne
    rw [if_pos h.2.2.2.2.1, if_neg z1]
    have hJ : J B σ τ := Or.inl ⟨a, d, h⟩
    exact Ag.refuse hJ (by decide) rfl (by decide)
  · have z1 : ¬ σ 1 0 = 0 := by rw [h.2.2.2.2.1]; exact on_ne
    rw [if_neg z1, if_pos h.2.2.2.2.2.1, fix0 h]
    have h' := (al_thrown (x := nI 0) h).mono (show B ≤ B + 16 by omega)
    have h4 : (mup τ 0 0 (nI 0)) 0 4 = -1 := by rw [mup_f _ _ _ _ (by decide)]; exact ht
    have h0 : (mup τ 0 0 (nI 0)) 0 0 = nI 0 := mup_v _ _ _ _
    have hbB : b ≤ B := h.2.2.2.1.2.2.1
    generalize mup τ 0 0 (nI 0) = τ1 at *
    have e1 : τ1 0 11 = nI b := h'.2.2.2.1.1
    have e2 : σ 5 5 = nI b := by rw [h'.2.1.1]; exact e1
    have e3 : σ 5 4 = nI d := by rw [h'.1.2.2.2.1]; exact h'.2.2.1.2.1
    rw [e1, e2, e3]
    have hq0 : (qFT τ1 (nI b)).2 0 0 = nI 0 := by rw [qFT_0]; exact h0
    rcases ft h' (show b ≤ B + 16 by omega) hB with ⟨c1, d', -, -, hD⟩ | ⟨c1, c2, hA3, hk⟩
    · rw [if_pos c1, if_neg hD.2]
      exact ⟨hq0, fun _ => rfl, Or.inl ⟨a, d', hD.1⟩, fun q => absurd rfl q, Or.inl rfl⟩
    · rw [if_neg c1, if_pos hA3.2.2.2.2.2.2]
      refine ⟨hq0, fun _ => ?_, Or.inr ⟨a, b, _, hA3, by rw [hk.2.2.1 4 (by decide) (by decide) (by decide)]; exact h4, hb⟩, fun q => absurd rfl q, Or.inl rfl⟩
      dsimp only
      rw [c2, hA3.1.2.2.2.1, hA3.2.2.1.2.1, pk_sub (by omega)]
      congr 1
      omega
theorem j_trim {B : Nat} {σ τ : Mem} (h : J B σ τ) (hB : B + 16 < 2 ^ 30) : ∃ a b : Nat, τ 0 9 = nI a ∧ τ 0 11 = nI b ∧ a ≤ b ∧ b < 2 ^ 30 ∧ (σ 5 5 - σ 5 3) / nI 8 = nI (kCnt σ) ∧ Ag B σ (xTrim σ) gOne (qTrim τ a b).1 (qTrim τ a b).2 [1] := by
  rcases h with ⟨a, d, h⟩ | ⟨a, b, d, h, ht, hb⟩
  · have hJ : J B σ τ := Or.inl ⟨a, d, h⟩
    have hdB : d ≤ B := h.2.2.1.2.2.2.2.1
    have had : a ≤ d := h.2.2.1.2.2.2.1
    refine ⟨a, d, h.2.2.1.1, h.2.2.2.1.1, had, by omega, ?_, ?_⟩
    · have e1 : σ 5 5 - σ 5 3 = nI (d - a) := by rw [h.2.1.1, h.1.2.2.1, h.2.2.2.1.1, h.2.2.1.1]; exact pk_sub had
      unfold kCnt
      rw [e1, pk_div (by omega) (by decide) (by decide), nI_clamp (by omega)]
    · unfold xTrim qTrim
      have z1 : ¬ τ 0 18 = 0 := by rw [h.2.2.2.2.2.1]; exact on_ne
      rw [if_pos h.2.2.2.2.1, if_neg z1]
      exact Ag.refuse hJ (by decide) rfl (by decide)
  · have hbB : b ≤ B := h.2.2.2.1.2.2.1
    refine ⟨a, b, h.2.2.1.1, h.2.2.2.1.1, h.2.2.2.1.2.1, by omega, ?_, ?_⟩
    · obtain ⟨e1, e2⟩ := cnt_eq h (by omega)
      rw [e1, e2]
    · obtain ⟨r, m, e1, e2, e3⟩ := tr (h.mono (show B ≤ B + 16 by omega)) hb hB
      rw [e1, e2]
      refine ⟨?_, fun _ => rfl, Or.inr ⟨m, b, d, e3, ?_, hb⟩, fun q => absurd rfl q, Or.inl rfl⟩
      · dsimp only; rw [mup_f _ _ _ _ (by decide), mup_v]; rfl
      · dsimp only; rw [mup_f _ _ _ _ (by decide), mup_f _ _ _ _ (by decide)]; exact ht
/-- calls that never refuse: the answers are equal -/
def Bg (B : Nat) (x : Int32 × Mem) (y : Int32 × Mem) : Prop := x.1 = y.1 ∧ J (B + 16) x.2 y.2
theorem Bg.look {B : Nat} {σ τ : Mem} {z r : Int32} (h : J B σ τ) (he : z = r) : Bg B (z, σ) (r, mup τ 0 0 (nI 0)) := ⟨he, (h.mono (by omega)).thrown⟩
theorem j_changed {B : Nat} {σ τ : Mem} (h : J B σ τ) (hB : B + 16 < 2 ^ 30) : Bg B (nI (kChanged σ 8 0 0), σ) (nI (qChg (mup τ 0 0 (nI 0)) 8 0 0), mup τ 0 0 (nI 0)) := by
  obtain ⟨a, b, d, hI, hY⟩ := (h.thrown (x := nI 0)).ix
  refine Bg.look h ?_
  rw [chg_eq (by omega) (h.thrown (x := nI 0)).rm.2 hY 8 0 0 rfl]
theorem j_oldest {B : Nat} {σ τ : Mem} (h : J B σ τ) (hB : B + 16 < 2 ^ 30) (k : Int32) : Bg B (kOldest σ k 8 0, σ) (qOldest τ k) := by
  obtain ⟨a, b, d, hI, hY⟩ := (h.thrown (x := nI 0)).ix
  have hk := kth_eq (by omega) (h.thrown (x := nI 0)).rm.2 hY k
  unfold qOldest
  by_cases c : 0 ≤ k
  · rw [if_pos c]
    exact Bg.look h hk
  · rw [if_neg c]
    refine Bg.look h ?_
    rw [hk]
    rcases qKth_spec (mup τ 0 0 (nI 0)) k 8 0 (-1) rfl with ⟨e, -⟩ | ⟨f, -, hf, -, -, e⟩
    · exact e
    · have hle := bef_le (mup τ 0 0 (nI 0)) f 8 0 0
      exact absurd (by rw [← e]; exact nI_pos' (by omega)) c
theorem j_torn {B : Nat} {σ τ : Mem} (h : J B σ τ) : Bg B (kTorn σ) (qTorn τ) := by
  unfold kTorn qTorn
  have e : (mup τ 0 0 (nI 0)) 0 4 = τ 0 4 := mup_f _ _ _ _ (by decide)
  rw [e]
  rcases h.rm.1.2.2.2.2.2.2.2.2.1 with ⟨k1, k2⟩ | ⟨k1, p, hp, k2, k3⟩
  · rw [if_pos k1, if_pos (show τ 0 4 < 0 by rw [k2]; decide)]
    exact Bg.look h rfl
  · have z1 : ¬ σ 2 4 = 0 := by rw [k1]; decide
    have z2 : ¬ τ 0 4 < 0 := by rw [k2]; exact nI_pos (by omega)
    rw [if_neg z1, if_neg z2]
    exact Bg.look h rfl
theorem j_writes {B : Nat} {σ τ : Mem} (h : J B σ τ) : Bg B (kWrites σ) (qWrites τ) := by
  unfold kWrites qWrites
  refine Bg.look h ?_
  rw [mup_f _ _ _ _ (by decide)]
  exact h.rm.1.2.1
theorem J.on {B : Nat} {σ τ : Mem} (h : J B σ τ) : σ 1 0 = 0 ∨ σ 1 0 = 1 := by
  rcases h with ⟨a, d, h⟩ | ⟨a, b, d, h, -⟩
  · exact Or.inl h.2.2.2.2.1
  · exact Or.inr h.2.2.2.2.1
theorem j_isOn {B : Nat} {σ τ : Mem} (h : J B σ τ) : Bg B (kIsOn σ) (qIsOn τ) := by
  unfold kIsOn qIsOn
  have e : (mup τ 0 0 (nI 0)) 0 18 = τ 0 18 := mup_f _ _ _ _ (by decide)
  rw [e]
  have hJ := h
  rcases h with ⟨a, d, h⟩ | ⟨a, b, d, h, -⟩
  · have z1 : ¬ τ 0 18 = 0 := by rw [h.2.2.2.2.2.1]; exact on_ne
    rw [if_neg z1]
    exact Bg.look hJ h.2.2.2.2.1
  · rw [if_pos h.2.2.2.2.2.1]
    exact Bg.look hJ h.2.2.2.2.1
theorem j_cut {B : Nat} {σ τ : Mem} (h : J B σ τ) : Bg B (kCut σ) (qCut τ) := by
  unfold kCut qCut
  have e : (mup τ 0 0 (nI 0)) 0 18 = τ 0 18 := mup_f _ _ _ _ (by decide)
  rw [e]
  have hJ := h
  rcases h with ⟨a, d, h⟩ | ⟨a, b, d, h, -⟩
  · have z1 : ¬ τ 0 18 = 0 := by rw [h.2.2.2.2.2.1]; exact on_ne
    rw [if_neg z1, if_pos h.2.2.2.2.1]
    exact Bg.look hJ rfl
  · have z1 : ¬ σ 1 0 = 0 := by rw [h.2.2.2.2.1]; exact on_ne
    rw [if_pos h.2.2.2.2.2.1, if_neg z1]
    exact ⟨rfl, Or.inl ⟨a, d, (die ((al_thrown (x := nI 0) h).mono (by omega))).1⟩⟩
theorem j_start {B : Nat} {σ τ : Mem} (h : J B σ τ) (hB : B + 16 < 2 ^ 30) : ∃ a d N : Nat, τ 0 9 = nI a ∧ τ 0 10 = nI d ∧ d < 2 ^ 30 ∧ (∀ ρ : Mem, ρ 0 4 = τ 0 4 → ¬ ρ 0 4 < 0 → nat0 256 (ρ 0 4)) ∧ (¬ τ 0 18 = 0 → qLoopOK N a (qMended (qFilled τ d))) ∧
    nat0 256 (σ 2 3) ∧ (σ 1 0 = 0 → ¬ (kF σ).1 = 0 → ¬ (kG σ).1 = 0 → ((kG σ).2 5 5 - (kG σ).2 5 3) / nI 8 = nI (kCnt (kG σ).2)) ∧ (σ 1 0 = 0 → ¬ (kF σ).1 = 0 → ¬ (kG σ).1 = 0 → kLoopOK (kCnt (kG σ).2) 0 (kG σ).2) ∧
    Ag B σ (xStart σ) gOne (qStart τ a d N).1 (qStart τ a d N).2 [1] := by
  have htt : ∀ ρ : Mem, ρ 0 4 = τ 0 4 → ¬ ρ 0 4 < 0 → nat0 256 (ρ 0 4) := by
    intro ρ e c
    rw [e] at c ⊢
    rcases h.rm.1.2.2.2.2.2.2.2.2.1 with ⟨k1, k2⟩ | ⟨k1, p, hp, k2, k3⟩
    · rw [k2] at c; exact absurd m1lt c
    · rw [k2]; exact nat0_nI hp (by decide)
  have h23 := h.rm.1.2.2.2.2.2.2.2.2.2
  have hJ := h
  rcases h with ⟨a, d, h⟩ | ⟨a, b, d, h, -⟩
  · have hdB : d ≤ B := h.2.2.1.2.2.2.2.1
    obtain ⟨N, s1, s2, s3, s4, s5, s6⟩ := sta (h.mono (show B ≤ B + 16 by omega)) (by omega) hB
    refine ⟨a, d, N, h.2.2.1.1, h.2.2.1.2.1, by omega, htt, fun _ => s1, h23, fun _ q1 q2 => (s2 q1 q2).1, fun _ q1 q2 => (s2 q1 q2).2, by rw [s3]; exact s5, fun _ => s4, ?_, fun q => absurd s3 q, Or.inl s3⟩
    rcases s6 with ⟨d', s6⟩ | ⟨b, d', s6, s7, s8⟩
    · exact Or.inl ⟨a, d', s6⟩
    · exact Or.inr ⟨a, b, d', s6, s7, s8⟩
  · have hdB : d ≤ B := h.2.2.1.2.2.2.2.1
    have z1 : ¬ σ 1 0 = 0 := by rw [h.2.2.2.2.1]; exact on_ne
    refine ⟨a, d, 0, h.2.2.1.1, h.2.2.1.2.1, by omega, htt, fun q => absurd h.2.2.2.2.2.1 q, h23, fun q => absurd q z1, fun q => absurd q z1, ?_⟩
    unfold xStart qStart
    rw [if_neg z1, if_pos h.2.2.2.2.2.1]
    exact Ag.refuse hJ (by decide) rfl (by decide)
