/-! A page is pinned -/
theorem if_p0 {α : Type} {c : Prop} [Decidable c] {x y : α × Mem} {z : Int32} (h1 : x.2 0 0 = z) (h2 : y.2 0 0 = z) : (if c then x else y).2 0 0 = z := by
  split <;> assumption
theorem qWh_0 : ∀ (n h : Nat) (τ : Mem), (qWh n h τ).2 0 0 = τ 0 0
  | 0, _, _ => rfl
  | n + 1, h, τ => by
    have e : qStep h τ 0 0 = τ 0 0 := by unfold qStep; rw [mup_f _ _ _ _ (by decide), mup_n _ _ _ (by decide)]
    unfold qWh
    refine if_p0 ?_ (if_p0 rfl ?_)
    · rw [qWh_0 n, e]
    · rw [qWh_0 n, e]
theorem qFind_0 (τ : Mem) : (qFind τ).2 0 0 = τ 0 0 := by
  have hM : ∀ (t : Mem) (v : Int32), (mup t 0 17 v) 0 0 = t 0 0 := fun t v => mup_f _ _ _ _ (by decide)
  unfold qFind qFin
  refine if_p0 (if_p0 rfl (if_p0 (if_p0 ?_ ?_) (if_p0 ?_ ?_))) rfl
  · dsimp only; rw [hM, qWh_0]
  · dsimp only; rw [hM, qWh_0]
  · dsimp only; rw [qWr_0, hM, qWh_0]
  · dsimp only; rw [qWr_0, hM, qWh_0]
theorem qFix_0 (τ : Mem) (pg : Nat) : (qFix τ pg).2 0 0 = τ 0 0 := by
  unfold qFix qTail
  refine if_p0 (if_p0 ?_ ?_) ?_
  · exact qFind_0 τ
  · dsimp only
    rw [mup_n _ _ _ (by decide), mup_n _ _ _ (by decide), qCp_n _ _ _ _ _ (by decide), mup_n _ _ _ (by decide), mup_n _ _ _ (by decide), qFind_0]
  · dsimp only
    rw [mup_n _ _ _ (by decide), mup_n _ _ _ (by decide)]
/-- there is room for one more pin -/
def PR (B : Nat) (τ : Mem) : Prop := ∀ f, f < 8 → ∃ k : Nat, k + 1 ≤ B ∧ τ 9 f = nI k
theorem al_pin {B a b d f : Nat} {σ τ : Mem} (hA : Al B σ τ a b d) (hf : f < 8) (hP : ∃ k : Nat, k + 1 ≤ B ∧ τ 9 f = nI k) (hp : nat0 256 (τ 8 f)) : Al B (mup (mup σ (f + 9) 2 (σ (f + 9) 2 + nI 1)) (f + 9) 3 (nI 1)) (qTail τ f).2 a b d := by
  obtain ⟨k, hk, e⟩ := hP
  have e2 : σ (f + 9) 2 = nI k := by rw [(hA.2.1.2.2 f hf).2.1]; exact e
  show Al B _ (mup (mup τ 9 f (τ 9 f + nI 1)) 10 f (nI 1)) a b d
  rw [e2, e, nI_add]
  exact al_used (al_pins hA hf hk (Or.inr hp)) hf (Or.inr rfl)
/-- what pinning page pg in frame f does -/
def pk9 (f pg : Nat) (τ τ' : Mem) : Prop := τ' 8 f = nI pg ∧ τ' 9 f = τ 9 f + nI 1 ∧ (∀ g, g ≠ f → τ' 9 g = τ 9 g) ∧ (∀ g, τ' 11 g = τ 11 g ∨ τ' 11 g = -1) ∧ τ' 0 9 = τ 0 9 ∧ τ' 0 11 = τ 0 11 ∧ τ' 0 4 = -1
theorem pn {B a b d pg : Nat} {σ τ : Mem} (h : Al B σ τ a b d) (hpg : pg < 256) (ht : τ 0 4 = -1) (hB : B < 2 ^ 30) (hP : PR B τ) :
    ((kPin σ pg).1 = -1 ∧ (qFix τ pg).1 = -1 ∧ ((∃ d', d ≤ d' ∧ Off B (kPin σ pg).2 (qFix τ pg).2 a d' ∧ ¬ (qFix τ pg).2 0 21 = 0) ∨ (Al B (kPin σ pg).2 (qFix τ pg).2 a b d ∧ (qFix τ pg).2 = τ ∧ ∀ g, g < 8 → ¬ τ 9 g = 0)))
    ∨ ∃ f d', f < 8 ∧ d ≤ d' ∧ (kPin σ pg).1 = nI f ∧ (qFix τ pg).1 = nI f ∧ Al B (kPin σ pg).2 (qFix τ pg).2 a b d' ∧ pk9 f pg τ (qFix τ pg).2 := by
  have hfw := fw_eq h.2.1 h.2.2.2.1 hpg
  have hfi : fr8 (qFw τ (nI pg) 8 0 (-1)) := qFw_in τ (nI pg) 8 0 (-1) (by decide) fr8_m1
  unfold kPin qFix
  rw [hfw]
  by_cases c : qFw τ (nI pg) 8 0 (-1) = -1
  · rw [if_pos c, if_pos c]
    have hno : ∀ g, g < 8 → ¬ τ 8 g = nI pg := by
      rcases qFw_spec τ (nI pg) 8 0 (-1) rfl with ⟨-, k2⟩ | ⟨k, -, k2, k3, -⟩
      · exact fun g hg => k2 g (Nat.zero_le _) hg
      · rw [c] at k3
        exact absurd k3.symm (n1 (by omega))
    rcases tk h hpg ht hB hno with ⟨e1, e2, e3⟩ | ⟨f, d', e1, e2, e3, e4, e5, e6, e7⟩
    · rw [if_pos e1, if_pos e2]
      exact Or.inl ⟨rfl, rfl, e3⟩
    · rw [if_neg (by rw [e3]; exact n1 (by omega)), if_neg (by rw [e4]; exact n1 (by omega)), e3, e4, nI_clamp (by omega)]
      right
      generalize (kTake σ pg).2 = σ1 at e5 ⊢
      generalize (qFind τ).2 = τ1 at e5 e6 e7 ⊢
      have t9 : (qCp f pg 64 0 (mup (mup τ1 8 f (nI pg)) 11 f (-1))) 9 = τ 9 := by rw [qCp_n _ _ _ _ _ (by decide), mup_n _ _ _ (by decide), mup_n _ _ _ (by decide), e7.1 9 (by decide) (by decide)]
      have t8 : (qCp f pg 64 0 (mup (mup τ1 8 f (nI pg)) 11 f (-1))) 8 f = nI pg := by rw [qCp_n _ _ _ _ _ (by decide), mup_n _ _ _ (by decide), mup_v]
      have t11 : ∀ g, (qCp f pg 64 0 (mup (mup τ1 8 f (nI pg)) 11 f (-1))) 11 g = τ 11 g ∨ (qCp f pg 64 0 (mup (mup τ1 8 f (nI pg)) 11 f (-1))) 11 g = -1 := fun g => by
        rw [qCp_n _ _ _ _ _ (by decide)]
        by_cases hg : g = f
        · rw [hg, mup_v]; exact Or.inr rfl
        · rw [mup_f _ _ _ _ hg, mup_n _ _ _ (by decide), e7.2.1 g hg]; exact Or.inl rfl
      have t0 : (qCp f pg 64 0 (mup (mup τ1 8 f (nI pg)) 11 f (-1))) 0 = τ1 0 := by rw [qCp_n _ _ _ _ _ (by decide), mup_n _ _ _ (by decide), mup_n _ _ _ (by decide)]
      generalize qCp f pg 64 0 (mup (mup τ1 8 f (nI pg)) 11 f (-1)) = τ2 at e5 t9 t8 t11 t0 ⊢
      refine ⟨f, d', e1, e2, rfl, rfl, al_pin e5 e1 (by rw [t9]; exact hP f e1) (by rw [t8]; exact nat0_nI hpg (by decide)), ?_⟩
      unfold qTail
      dsimp only
      refine ⟨?_, ?_, fun g hg => ?_, fun g => ?_, ?_, ?_, ?_⟩
      · rw [mup_n _ _ _ (by decide), mup_n _ _ _ (by decide)]; exact t8
      · rw [mup_n _ _ _ (by decide), mup_v, t9]
      · rw [mup_n _ _ _ (by decide), mup_f _ _ _ _ hg, t9]
      · rw [mup_n _ _ _ (by decide), mup_n _ _ _ (by decide)]; exact t11 g
      · rw [mup_n _ _ _ (by decide), mup_n _ _ _ (by decide), t0, e7.2.2.1 9 (by decide) (by decide) (by decide) (by decide) (by decide) (by decide)]
      · rw [mup_n _ _ _ (by decide), mup_n _ _ _ (by decide), t0, e7.2.2.1 11 (by decide) (by decide) (by decide) (by decide) (by decide) (by decide)]
      · rw [mup_n _ _ _ (by decide), mup_n _ _ _ (by decide), t0]; exact e6
  · rw [if_neg c, if_neg c]
    obtain ⟨g1, g2⟩ := fr8_in hfi c
    have g3 : τ 8 (qFw τ (nI pg) 8 0 (-1)).toNatClampNeg = nI pg := by
      rcases qFw_spec τ (nI pg) 8 0 (-1) rfl with ⟨k1, -⟩ | ⟨k, -, k2, k3, k4⟩
      · exact absurd k1 c
      · rw [k3, nI_clamp (by omega)]; exact k4
    generalize (qFw τ (nI pg) 8 0 (-1)).toNatClampNeg = f at g1 g3 ⊢
    right
    refine ⟨f, d, g1, Nat.le_refl _, rfl, rfl, al_pin h g1 (hP f g1) (by rw [g3]; exact nat0_nI hpg (by decide)), ?_⟩
    unfold qTail
    dsimp only
    refine ⟨?_, ?_, fun g hg => ?_, fun g => ?_, ?_, ?_, ?_⟩
    · rw [mup_n _ _ _ (by decide), mup_n _ _ _ (by decide)]; exact g3
    · rw [mup_n _ _ _ (by decide), mup_v]
    · rw [mup_n _ _ _ (by decide), mup_f _ _ _ _ hg]
    · rw [mup_n _ _ _ (by decide), mup_n _ _ _ (by decide)]; exact Or.inl rfl
    · rw [mup_n _ _ _ (by decide), mup_n _ _ _ (by decide)]
    · rw [mup_n _ _ _ (by decide), mup_n _ _ _ (by decide)]
    · rw [mup_n _ _ _ (by decide), mup_n _ _ _ (by decide)]; exact ht
