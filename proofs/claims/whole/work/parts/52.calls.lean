/-! ONE THEOREM A CALL: the class and the reference agree -/
/-- between two calls -/
def J (B : Nat) (σ τ : Mem) : Prop := (∃ a d, Off B σ τ a d) ∨ ∃ a b d, Al B σ τ a b d ∧ τ 0 4 = -1 ∧ b % 8 = 0
theorem J.mono {B C : Nat} {σ τ : Mem} (h : J B σ τ) (hBC : B ≤ C) : J C σ τ := by
  rcases h with ⟨a, d, h⟩ | ⟨a, b, d, h, h2⟩
  · exact Or.inl ⟨a, d, h.mono hBC⟩
  · exact Or.inr ⟨a, b, d, h.mono hBC, h2⟩
theorem J.thrown {B : Nat} {σ τ : Mem} {x : Int32} (h : J B σ τ) : J B σ (mup τ 0 0 x) := by
  rcases h with ⟨a, d, h⟩ | ⟨a, b, d, h, h2, h3⟩
  · exact Or.inl ⟨a, d, off_thrown h⟩
  · exact Or.inr ⟨a, b, d, al_thrown h, by rw [mup_f _ _ _ _ (by decide)]; exact h2, h3⟩
theorem J.ok {B : Nat} {σ τ : Mem} (h : J B σ τ) (hB : B < 2 ^ 30) : nat0 8 (σ 0 4) ∧ pgOK σ ∧ nat0 8 (τ 0 17) ∧ rOK τ := by
  rcases h with ⟨a, d, h⟩ | ⟨a, b, d, h, -⟩
  · exact ix_ok h.2.1 h.2.2.2.1 hB
  · exact ix_ok h.2.1 h.2.2.2.1 hB
theorem J.rm {B : Nat} {σ τ : Mem} (h : J B σ τ) : RM σ τ ∧ RX σ τ := by
  rcases h with ⟨a, d, h⟩ | ⟨a, b, d, h, -⟩
  · exact ⟨h.1, h.2.1⟩
  · exact ⟨h.1, h.2.1⟩
theorem J.ix {B : Nat} {σ τ : Mem} (h : J B σ τ) : ∃ a b d, IM B τ a d ∧ IX B τ a b := by
  rcases h with ⟨a, d, h⟩ | ⟨a, b, d, h, -⟩
  · exact ⟨a, d, d, h.2.2.1, h.2.2.2.1⟩
  · exact ⟨a, b, d, h.2.2.1, h.2.2.2.1⟩
/-- x: what the class does; g: how its kinds are called; r, τ': what the reference does -/
def Ag (B : Nat) (σ : Mem) (x : Nat × Int32 × Mem) (g : Nat → Nat) (r : Int32) (τ' : Mem) (ks : List Nat) : Prop :=
  τ' 0 0 = nI (g x.1) ∧ (x.1 = 0 → x.2.1 = r) ∧ J (B + 16) x.2.2 τ' ∧ (x.1 ≠ 0 → x.2.2 = σ) ∧ (x.1 = 0 ∨ x.1 ∈ ks)
def gId (k : Nat) : Nat := k
def gOne (k : Nat) : Nat := if k = 0 then 0 else 1
theorem Ag.refuse {B : Nat} {σ τ : Mem} {k c : Nat} {g : Nat → Nat} {ks : List Nat} {r : Int32} {z : Int32} (h : J B σ τ) (hk : k ≠ 0) (hg : g k = c) (hin : k ∈ ks) : Ag B σ (k, z, σ) g r (mup τ 0 0 (nI c)) ks :=
  ⟨by rw [mup_v, hg], fun q => absurd q hk, (h.mono (by omega)).thrown, fun _ => rfl, Or.inr hin⟩
theorem Ag.look {B : Nat} {σ τ : Mem} {g : Nat → Nat} {ks : List Nat} {z r : Int32} (h : J B σ τ) (hg : g 0 = 0) (he : z = r) : Ag B σ (0, z, σ) g r (mup τ 0 0 (nI 0)) ks :=
  ⟨by rw [mup_v, hg], fun _ => he, (h.mono (by omega)).thrown, fun q => absurd rfl q, Or.inl rfl⟩
theorem inv_bad {N : Nat} (x : Int32) (hN : N < 2 ^ 30) (h0 : 0 < N) : (kBad N x ↔ qInv x (nI 0) (nI (N - 1)) = 0) := by
  unfold qInv kBad
  rw [nI_0]
  by_cases h1 : x < 0
  · rw [if_pos h1]; exact ⟨fun _ => rfl, fun _ => Or.inl h1⟩
  · rw [if_neg h1]
    obtain ⟨j, hj, rfl⟩ := nI_of h1
    by_cases h2 : nI (N - 1) < nI j
    · rw [if_pos h2]
      refine ⟨fun _ => rfl, fun _ => Or.inr (fun q => ?_)⟩
      have h3 := (nI_ltI (by omega) hj).mp h2
      have h4 := (nI_ltI hj (by omega)).mp q
      omega
    · rw [if_neg h2]
      refine ⟨fun q => ?_, fun q => absurd q (by decide)⟩
      rcases q with q | q
      · exact absurd q h1
      · exact absurd ((nI_ltI hj (by omega)).mpr (by
          have : ¬ N - 1 < j := fun z => h2 ((nI_ltI (by omega) hj).mpr z)
          omega)) q
theorem inv1 {x : Int32} : (x = 0 ∨ kBad 64 x) ↔ qInv x (nI 1) (nI 63) = 0 := by
  unfold qInv kBad
  by_cases h1 : x < 0
  · have h2 : x < nI 1 := by
      rw [Int32.lt_iff_toInt_lt] at h1 ⊢
      have e : (nI 1).toInt = 1 := by decide
      have e0 : (0 : Int32).toInt = 0 := by decide
      rw [e]; rw [e0] at h1; omega
    rw [if_pos h2]; exact ⟨fun _ => rfl, fun _ => Or.inr (Or.inl h1)⟩
  · obtain ⟨j, hj, rfl⟩ := nI_of h1
    by_cases h0 : j = 0
    · subst h0
      rw [if_pos (show nI 0 < nI 1 by decide)]
      exact ⟨fun _ => rfl, fun _ => Or.inl rfl⟩
    · rw [if_neg (fun q => by have := (nI_ltI hj (by decide)).mp q; omega)]
      by_cases h2 : nI 63 < nI j
      · rw [if_pos h2]
        refine ⟨fun _ => rfl, fun _ => Or.inr (Or.inr (fun q => ?_))⟩
        have h3 := (nI_ltI (by omega) hj).mp h2
        have h4 := (nI_ltI hj (by omega)).mp q
        omega
      · rw [if_neg h2]
        refine ⟨fun q => ?_, fun q => absurd q (by decide)⟩
        rcases q with q | q | q
        · exact absurd q (nI_ne0 (by omega) hj)
        · exact absurd q h1
        · exact absurd ((nI_ltI hj (by omega)).mpr (by
            have : ¬ 63 < j := fun z => h2 ((nI_ltI (by omega) hj).mpr z)
            omega)) q
theorem on_ne : ¬ nI 1 = (0 : Int32) := by decide
theorem fix0 {B a b d : Nat} {σ τ : Mem} (h : Al B σ τ a b d) : mup (mup τ 0 0 (nI 0)) 0 21 (nI 0) = mup τ 0 0 (nI 0) := by
  have e : (mup τ 0 0 (nI 0)) 0 21 = nI 0 := by rw [mup_f _ _ _ _ (by decide)]; exact h.2.2.2.2.2.2
  have e2 := mup_same (mup τ 0 0 (nI 0)) 0 21
  rw [e] at e2
  exact e2
theorem al_pr {B a b d : Nat} {σ τ : Mem} (h : Al B σ τ a b d) : PR (B + 16) τ := fun f hf => by
  obtain ⟨k, h1, h2⟩ := (h.2.2.2.1.2.2.2.2.1 f hf).2.1
  exact ⟨k, by omega, h2⟩
theorem j_fix {B : Nat} {σ τ : Mem} (h : J B σ τ) (hB : B + 16 < 2 ^ 30) (pg : Int32) : Ag B σ (xFix σ pg) gId (qFixP τ pg).1 (qFixP τ pg).2 [1, 2] := by
  have hbad := inv_bad (N := 256) pg (by decide) (by decide)
  unfold xFix qFixP
  rcases h with ⟨a, d, h⟩ | ⟨a, b, d, h, ht, hb⟩
  · have z1 : ¬ τ 0 18 = 0 := by rw [h.2.2.2.2.2.1]; exact on_ne
    rw [if_pos h.2.2.2.2.1, if_neg z1]
    have hJ : J B σ τ := Or.inl ⟨a, d, h⟩
    by_cases c : qInv pg (nI 0) (nI 255) = 0
    · rw [if_pos c]; exact Ag.refuse hJ (by decide) rfl (by decide)
    · rw [if_neg c]; exact Ag.refuse hJ (by decide) rfl (by decide)
  · have hJ : J B σ τ := Or.inr ⟨a, b, d, h, ht, hb⟩
    have z1 : ¬ σ 1 0 = 0 := by rw [h.2.2.2.2.1]; exact on_ne
    rw [if_neg z1, if_pos h.2.2.2.2.2.1]
    by_cases c : kBad 256 pg
    · rw [if_pos c, if_pos (hbad.mp c)]; exact Ag.refuse hJ (by decide) rfl (by decide)
    · rw [if_neg c, if_neg (fun q => c (hbad.mpr q)), if_pos h.2.2.2.2.2.1, fix0 h]
      have hp := kBad_nat c (by decide)
      have h' := (al_thrown (x := nI 0) h).mono (show B ≤ B + 16 by omega)
      have h4 : (mup τ 0 0 (nI 0)) 0 4 = -1 := by rw [mup_f _ _ _ _ (by decide)]; exact ht
      have hP := al_pr (al_thrown (x := nI 0) h)
      have h0 : (mup τ 0 0 (nI 0)) 0 0 = nI 0 := mup_v _ _ _ _
      generalize mup τ 0 0 (nI 0) = τ1 at *
      have hq0 := qFix_0 τ1 pg.toNatClampNeg
      refine ⟨by dsimp only; rw [hq0, h0]; rfl, fun _ => ?_, ?_, fun q => absurd rfl q, Or.inl rfl⟩
      · dsimp only
        rcases pn h' hp.1 h4 hB hP with ⟨h1, h2, -⟩ | ⟨f, d', hf, hd', h1, h2, -⟩
        · rw [h1, h2]
        · rw [h1, h2]
      · dsimp only
        rcases pn h' hp.1 h4 hB hP with ⟨h1, h2, ⟨d', -, h3, -⟩ | ⟨h3, h5, -⟩⟩ | ⟨f, d', hf, hd', h1, h2, h3, h5⟩
        · exact Or.inl ⟨a, d', h3⟩
        · exact Or.inr ⟨a, b, d, h3, by rw [h5]; exact h4, hb⟩
        · exact Or.inr ⟨a, b, d', h3, h5.2.2.2.2.2.2, hb⟩
theorem inv_nI {f : Int32} {N : Nat} (h : nat0 N f) (hN : N < 2 ^ 30) (h0 : 0 < N) : ¬ qInv (nI f.toNatClampNeg) (nI 0) (nI (N - 1)) = 0 := by
  rw [← h.2]
  intro q
  rcases (inv_bad f hN h0).mpr q with z | z
  · rw [h.2] at z; exact nI_pos (by have := h.1; omega) z
  · exact z (by rw [h.2]; exact (nI_ltI (by have := h.1; omega) (by omega)).mpr h.1)
theorem j_unfix {B : Nat} {σ τ : Mem} (h : J B σ τ) (hB : B + 16 < 2 ^ 30) (f : Int32) : Ag B σ (xUnfix σ f) gId (qUnfix τ f).1 (qUnfix τ f).2 [1, 2] := by
  have hbad := inv_bad (N := 8) f (by decide) (by decide)
  unfold xUnfix qUnfix
  rcases h with ⟨a, d, h⟩ | ⟨a, b, d, h, ht, hb⟩
  · have z1 : ¬ τ 0 18 = 0 := by rw [h.2.2.2.2.2.1]; exact on_ne
    rw [if_pos h.2.2.2.2.1, if_neg z1]
    have hJ : J B σ τ := Or.inl ⟨a, d, h⟩
    split <;> exact Ag.refuse hJ (by decide) rfl (by decide)
  · have hJ : J B σ τ := Or.inr ⟨a, b, d, h, ht, hb⟩
    have z1 : ¬ σ 1 0 = 0 := by rw [h.2.2.2.2.1]; exact on_ne
    rw [if_neg z1, if_pos h.2.2.2.2.2.1]
    by_cases c : kBad 8 f
    · rw [if_pos c, if_pos (hbad.mp c), if_pos (hbad.mp c)]; exact Ag.refuse hJ (by decide) rfl (by decide)
    · have hp := kBad_nat c (by decide)
      have hn := inv_nI hp (by decide) (by decide)
      rw [if_neg c, if_neg (fun q => c (hbad.mpr q)), if_neg hn, if_neg hn]
      have hf := hp.1
      generalize f.toNatClampNeg = g at hf
      have r2 := (h.2.1.2.2 g hf).2.1
      by_cases c2 : τ 9 g = 0
      · rw [r2, if_pos c2, if_pos c2]; exact Ag.refuse hJ (by decide) rfl (by decide)
      · rw [r2, if_neg c2, if_neg c2]
        have e9 : (mup τ 0 0 (nI 0)) 9 = τ 9 := mup_n _ _ _ (by decide)
        rw [e9]
        obtain ⟨k, k1, k2⟩ := (h.2.2.2.1.2.2.2.2.1 g hf).2.1
        have hk0 : k ≠ 0 := fun q => c2 (by rw [k2, q]; rfl)
        have e1 : τ 9 g - nI 1 = nI (k - 1) := by rw [k2]; exact pk_sub (by omega)
        have hp8 : nat0 256 (τ 8 g) := by
          rcases (h.2.2.2.1.2.2.2.2.1 g hf).1 with z | z
          · exact absurd z.2.1 c2
          · exact z
        rw [e1, mup_v, mup_v]
        have h' := al_pins (k := k - 1) ((al_thrown (x := nI 0) h).mono (show B ≤ B + 16 by omega)) hf (by omega) (Or.inr (by rw [mup_n _ _ _ (by decide)]; exact hp8))
        refine ⟨by dsimp only; rw [mup_n _ _ _ (by decide), mup_v]; rfl, fun _ => rfl, Or.inr ⟨a, b, d, h', ?_, hb⟩, fun q => absurd rfl q, Or.inl rfl⟩
        rw [mup_n _ _ _ (by decide), mup_f _ _ _ _ (by decide)]; exact ht
