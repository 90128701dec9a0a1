/-! ONE THEOREM A CALL: the class and the reference agree -/
/-- between two calls -/
def J (B : Nat) (σ τ : Mem) : Prop := (∃ a d, Off B σ τ a d) ∨ ∃ a b d, Al B σ τ a b d ∧ τ 0 4 = -1 ∧ b % 8 = 0
theorem J.mono {B C : Nat} {σ τ : Mem} (h : J B σ τ) (hBC : B ≤ C) : J C σ τ := by
  rcases h with ⟨a, d, h⟩ | ⟨a, b, d, h, h2⟩
  · exact Or.inl ⟨a, d, h.mono hBC⟩
  · exact Or.inr ⟨a, b, d, h.mono hBC, h2⟩
theorem J.thrown {B : Nat} {σ τ : Mem} {x : Int32} (h : J B σ τ) : J B σ (mup τ 0 0 x) := by
  rcases h with ⟨a, d, h⟩ | ⟨a, b, d, h, h2, h3⟩
  · exact Or.inl ⟨a, d, off_thrown h⟩
  · exact Or.inr ⟨a, b, d, al_thrown h, by rw [mup_f _ _ _ _ (by decide)]; exact h2, h3⟩
theorem J.ok {B : Nat} {σ τ : Mem} (h : J B σ τ) (hB : B < 2 ^ 30) : nat0 8 (σ 0 4) ∧ pgOK σ ∧ nat0 8 (τ 0 17) ∧ rOK τ := by
  rcases h with ⟨a, d, h⟩ | ⟨a, b, d, h, -⟩
  · exact ix_ok h.2.1 h.2.2.2.1 hB
  · exact ix_ok h.2.1 h.2.2.2.1 hB
theorem J.rm {B : Nat} {σ τ : Mem} (h : J B σ τ) : RM σ τ ∧ RX σ τ := by
  rcases h with ⟨a, d, h⟩ | ⟨a, b, d, h, -⟩
  · exact ⟨h.1, h.2.1⟩
  · exact ⟨h.1, h.2.1⟩
theorem J.ix {B : Nat} {σ τ : Mem} (h : J B σ τ) : ∃ a b d, IM B τ a d ∧ IX B τ a b := by
  rcases h with ⟨a, d, h⟩ | ⟨a, b, d, h, -⟩
  · exact ⟨a, d, d, h.2.2.1, h.2.2.2.1⟩
  · exact ⟨a, b, d, h.2.2.1, h.2.2.2.1⟩
/-- x: what the class does; g: how its kinds are called; r, τ': what the reference does -/
def Ag (B : Nat) (σ : Mem) (x : Nat × Int32 × Mem) (g : Nat → Nat) (r : Int32) (τ' : Mem) (ks : List Nat) : Prop :=
  τ' 0 0 = nI (g x.1) ∧ (x.1 = 0 → x.2.1 = r) ∧ J (B + 16) x.2.2 τ' ∧ (x.1 ≠ 0 → x.2.2 = σ) ∧ (x.1 = 0 ∨ x.1 ∈ ks)
def gId (k : Nat) : Nat := k
def gOne (k : Nat) : Nat := if k = 0 then 0 else 1
theorem Ag.refuse {B : Nat} {σ τ : Mem} {k c : Nat} {g : Nat → Nat} {ks : List Nat} {r : Int32} {z : Int32} (h : J B σ τ) (hk : k ≠ 0) (hg : g k = c) (hin : k ∈ ks) : Ag B σ (k, z, σ) g r (mup τ 0 0 (nI c)) ks :=
  ⟨by rw [mup_v, hg], fun q => absurd q hk, (h.mono (by omega)).thrown, fun _ => rfl, Or.inr hin⟩
theorem Ag.look {B : Nat} {σ τ : Mem} {g : Nat → Nat} {ks : List Nat} {z r : Int32} (h : J B σ τ) (hg : g 0 = 0) (he : z = r) : Ag B σ (0, z, σ) g r (mup τ 0 0 (nI 0)) ks :=
  ⟨by rw [mup_v, hg], fun _ => he, (h.mono (by omega)).thrown, fun q => absurd rfl q, Or.inl rfl⟩
theorem inv_bad {N : Nat} (x : Int32) (hN : N < 2 ^ 30) (h0 : 0 < N) : (kBad N x ↔ qInv x (nI 0) (nI (N - 1)) = 0) := by
  unfold qInv kBad
  rw [nI_0]
  by_cases h1 : x < 0
  · rw [if_pos h1]; exact ⟨fun _ => rfl, fun _ => Or.inl h1⟩
  · rw [if_neg h1]
    obtain ⟨j, hj, rfl⟩ := nI_of h1
    by_cases h2 : nI (N - 1) < nI j
    · rw [if_pos h2]
      refine ⟨fun _ => rfl, fun _ => Or.inr (fun q => ?_)⟩
      have h3 := (nI_ltI (by omega) hj).mp h2
      have h4 := (nI_ltI hj (by omega)).mp q
      omega
    · rw [if_neg h2]
      refine ⟨fun q => ?_, fun q => absurd q (by decide)⟩
      rcases q with q | q
      · exact absurd q h1
      · exact absurd ((nI_ltI hj (by omega)).mpr (by
          have : ¬ N - 1 < j := fun z => h2 ((nI_ltI (by omega) hj).mpr z)
          omega)) q
theorem inv1 {x : Int32} : (x = 0 ∨ kBad 64 x) ↔ qInv x (nI 1) (nI 63) = 0 := by
  unfold qInv kBad
  by_cases h1 : x < 0
  · have h2 : x < nI 1 := by
      rw [Int32.lt_iff_toInt_lt] at h1 ⊢
      have e : (nI 1).toInt = 1 := by decide
      have e0 : (0 : Int32).toInt = 0 := by decide
      rw [e]; rw [e0] at h1; omega
    rw [if_pos h2]; exact ⟨fun _ => rfl, fun _ => Or.inr (Or.inl h1)⟩
  · obtain ⟨j, hj, rfl⟩ := nI_of h1
    by_cases h0 : j = 0
    · subst h0
      rw [if_pos (show nI 0 < nI 1 by decide)]
      exact ⟨fun _ => rfl, fun _ => Or.inl rfl⟩
    · rw [if_neg (fun q => by have := (nI_ltI hj (by decide)).mp q; omega)]
      by_cases h2 : nI 63 < nI j
      · rw [if_pos h2]
        refine ⟨fun _ => rfl, fun _ => Or.inr (Or.inr (fun q => ?_))⟩
        have h3 := (nI_ltI (by omega) hj).mp h2
        have h4 := (nI_ltI hj (by omega)).mp q
        omega
      · rw [if_neg h2]
        refine ⟨fun q => ?_, fun q => absurd q (by decide)⟩
        rcases q with q | q | q
        · exact absurd q (nI_ne0 (by omega) hj)
        · exact absurd q h1
        · exact absurd ((nI_ltI hj (by omega)).mpr (by
            have : ¬ 63 < j := fun z => h2 ((nI_ltI (by omega) hj).mpr z)
            omega)) q
theorem on_ne : ¬ nI 1 = (0 : Int32) := by decide
theorem fix0 {B a b d : Nat} {σ τ : Mem} (h : Al B σ τ a b d) : mup (mup τ 0 0 (nI 0)) 0 21 (nI 0) = mup τ 0 0 (nI 0) := by
  have e : (mup τ 0 0 (nI 0)) 0 21 = nI 0 := by rw [mup_f _ _ _ _ (by decide)]; exact h.2.2.2.2.2.2
  have e2 := mup_same (mup τ 0 0 (nI 0)) 0 21
  rw [e] at e2
  exact e2
theorem al_pr {B a b d : Nat} {σ τ : Mem} (h : Al B σ τ a b d) : PR (B + 16) τ := fun f hf => by
  obtain ⟨k, h1, h2⟩ := (h.2.2.2.1.2.2.2.2.1 f hf).2.1
  exact ⟨k, by omega, h2⟩
theorem j_fix {B : Nat} {σ τ : Mem} (h : J B σ τ) (hB : B + 16 < 2 ^ 30) (pg : Int32) : Ag B σ (xFix σ pg) gId (qFixP τ pg).1 (qFixP τ pg).2 [1, 2] := by
  have hbad := inv_bad (N := 256) pg (by decide) (by decide)
  unfold xFix qFixP
  rcases h with ⟨a, d, h⟩ | ⟨a, b, d, h, ht, hb⟩
  · have z1 : ¬ τ 0 18 = 0 := by rw [h.2.2.2.2.2.1]; exact on_ne
    rw [if_pos h.2.2.2.2.1, if_neg z1]
    have hJ : J B σ τ := Or.inl ⟨a, d, h⟩
    by_cases c : qInv pg (nI 0) (nI 255) = 0
    · rw [if_pos c]; exact Ag.refuse hJ (by decide) rfl (by decide)
    · rw [if_neg c, if_neg z1]; exact Ag.refuse hJ (by decide) rfl (by decide)
  · have hJ : J B σ τ := Or.inr ⟨a, b, d, h, ht, hb⟩
    have z1 : ¬ σ 1 0 = 0 := by rw [h.2.2.2.2.1]; exact on_ne
    rw [if_neg z1, if_pos h.2.2.2.2.2.1]
    by_cases c : kBad 256 pg
    · rw [if_pos c, if_pos (hbad.mp c)]; exact Ag.refuse hJ (by decide) rfl (by decide)
    · rw [if_neg c, if_neg (fun q => c (hbad.mpr q)), if_pos h.2.2.2.2.2.1, fix0 h]
      have hp := kBad_nat c (by decide)
      have h' := (al_thrown (x := nI 0) h).mono (show B ≤ B + 16 by omega)
      have h4 : (mup τ 0 0 (nI 0)) 0 4 = -1 := by rw [mup_f _ _ _ _ (by decide)]; exact ht
      have hP := al_pr (al_thrown (x := nI 0) h)
      have h0 : (mup τ 0 0 (nI 0)) 0 0 = nI 0 := mup_v _ _ _ _
      generalize mup τ 0 0 (nI 0) = τ1 at *
      have hq0 := qFix_0 τ1 pg.toNatClampNeg
      refine ⟨by dsimp only; rw [hq0, h0]; rfl, fun _ => ?_, ?_, fun q => absurd rfl q, Or.inl rfl⟩
      · dsimp only
        rcases pn h' hp.1 h4 hB hP with ⟨h1, h2, -⟩ | ⟨f, d', hf, hd', h1, h2, -⟩
        · rw [h1, h2]
        · rw [h1, h2]
      · dsimp only
        rcases pn h' hp.1 h4 hB hP with ⟨h1, h2, ⟨d', -, h3, -⟩ | ⟨h3, h5, -⟩⟩ | ⟨f, d', hf, hd', h1, h2, h3, h5⟩
        · exact Or.inl ⟨a, d', h3⟩
        · exact Or.inr ⟨a, b, d, h3, by rw [h5]; exact h4, hb⟩
        · exact Or.inr ⟨a, b, d', h3, h5.2.2.2.2.2.2, hb⟩
theorem inv_nI {f : Int32} {N : Nat} (h : nat0 N f) (hN : N < 2 ^ 30) (h0 : 0 < N) : ¬ qInv (nI f.toNatClampNeg) (nI 0) (nI (N - 1)) = 0 := by
  rw [← h.2]
  intro q
  rcases (inv_bad f hN h0).mpr q with z | z
  · rw [h.2] at z; exact nI_pos (by have := h.1; omega) z
  · exact z (by rw [h.2]; exact (nI_ltI (by have := h.1; omega) (by omega)).mpr h.1)
theorem j_unfix {B : Nat} {σ τ : Mem} (h : J B σ τ) (hB : B + 16 < 2 ^ 30) (f : Int32) : Ag B σ (xUnfix σ f) gId (qUnfix τ f).1 (qUnfix τ f).2 [1, 2] := by
  have hbad := inv_bad (N := 8) f (by decide) (by decide)
  unfold xUnfix qUnfix
  rcases h with ⟨a, d, h⟩ | ⟨a, b, d, h, ht, hb⟩
  · have z1 : ¬ τ 0 18 = 0 := by rw [h.2.2.2.2.2.1]; exact on_ne
    rw [if_pos h.2.2.2.2.1, if_neg z1]
    have hJ : J B σ τ := Or.inl ⟨a, d, h⟩
    split <;> exact Ag.refuse hJ (by decide) rfl (by decide)
  · have hJ : J B σ τ := Or.inr ⟨a, b, d, h, ht, hb⟩
    have z1 : ¬ σ 1 0 = 0 := by rw [h.2.2.2.2.1]; exact on_ne
    rw [if_neg z1, if_pos h.2.2.2.2.2.1]
    by_cases c : kBad 8 f
    · rw [if_pos c, if_pos (hbad.mp c), if_pos (hbad.mp c)]; exact Ag.refuse hJ (by decide) rfl (by decide)
    · have hp := kBad_nat c (by decide)
      have hn := inv_nI hp (by decide) (by decide)
      rw [if_neg c, if_neg (fun q => c (hbad.mpr q)), if_neg hn, if_neg hn]
      have hf := hp.1
      generalize f.toNatClampNeg = g at hf
      have r2 := (h.2.1.2.2 g hf).2.1
      by_cases c2 : τ 9 g = 0
      · rw [r2, if_pos c2, if_pos c2]; exact Ag.refuse hJ (by decide) rfl (by decide)
      · rw [r2, if_neg c2, if_neg c2]
        have e9 : (mup τ 0 0 (nI 0)) 9 = τ 9 := mup_n _ _ _ (by decide)
        rw [e9]
        obtain ⟨k, k1, k2⟩ := (h.2.2.2.1.2.2.2.2.1 g hf).2.1
        have hk0 : k ≠ 0 := fun q => c2 (by rw [k2, q]; rfl)
        have e1 : τ 9 g - nI 1 = nI (k - 1) := by rw [k2]; exact pk_sub (by omega)
        have hp8 : nat0 256 (τ 8 g) := by
          rcases (h.2.2.2.1.2.2.2.2.1 g hf).1 with z | z
          · exact absurd z.2.1 c2
          · exact z
        rw [e1, mup_v, mup_v]
        have h' := al_pins (k := k - 1) ((al_thrown (x := nI 0) h).mono (show B ≤ B + 16 by omega)) hf (by omega) (Or.inr (by rw [mup_n _ _ _ (by decide)]; exact hp8))
        refine ⟨by dsimp only; rw [mup_n _ _ _ (by decide), mup_v]; rfl, fun _ => rfl, Or.inr ⟨a, b, d, h', ?_, hb⟩, fun q => absurd rfl q, Or.inl rfl⟩
        dsimp only
        rw [mup_n _ _ _ (by decide), mup_f _ _ _ _ (by decide)]; exact ht
theorem j_word {B : Nat} {σ τ : Mem} (h : J B σ τ) (hB : B + 16 < 2 ^ 30) (f i : Int32) : Ag B σ (xWord σ f i) gId (qWord τ f i).1 (qWord τ f i).2 [1, 2] := by
  have hbad := inv_bad (N := 8) f (by decide) (by decide)
  have hbai := inv_bad (N := 64) i (by decide) (by decide)
  unfold xWord qWord
  rcases h with ⟨a, d, h⟩ | ⟨a, b, d, h, ht, hb⟩
  · have z1 : ¬ τ 0 18 = 0 := by rw [h.2.2.2.2.2.1]; exact on_ne
    rw [if_pos h.2.2.2.2.1, if_neg z1]
    have hJ : J B σ τ := Or.inl ⟨a, d, h⟩
    split
    · exact Ag.refuse hJ (by decide) rfl (by decide)
    · split <;> exact Ag.refuse hJ (by decide) rfl (by decide)
  · have hJ : J B σ τ := Or.inr ⟨a, b, d, h, ht, hb⟩
    have z1 : ¬ σ 1 0 = 0 := by rw [h.2.2.2.2.1]; exact on_ne
    rw [if_neg z1, if_pos h.2.2.2.2.2.1]
    by_cases c : kBad 8 f
    · rw [if_pos c, if_pos (hbad.mp c), if_pos (hbad.mp c)]; exact Ag.refuse hJ (by decide) rfl (by decide)
    · have hp := kBad_nat c (by decide)
      have hn := inv_nI hp (by decide) (by decide)
      rw [if_neg c, if_neg (fun q => c (hbad.mpr q)), if_neg hn, if_neg hn]
      have hf := hp.1
      generalize f.toNatClampNeg = g at hf
      obtain ⟨r1, r2, r3, r4, r5⟩ := h.2.1.2.2 g hf
      rw [r1]
      rcases (h.2.2.2.1.2.2.2.2.1 g hf).1 with z | z
      · have z2 : ¬ 0 ≤ τ 8 g := by rw [z.1]; decide
        rw [if_pos z.1, if_neg z2]
        split <;> exact Ag.refuse hJ (by decide) rfl (by decide)
      · have z2 : 0 ≤ τ 8 g := by rw [z.2]; exact nI_pos' (by have := z.1; omega)
        have z3 : ¬ τ 8 g = -1 := by rw [z.2]; exact n1 (by have := z.1; omega)
        rw [if_neg z3, if_pos z2]
        by_cases c2 : kBad 64 i
        · rw [if_pos c2, if_pos (hbai.mp c2)]; exact Ag.refuse hJ (by decide) rfl (by decide)
        · rw [if_neg c2, if_neg (fun q => c2 (hbai.mpr q))]
          have hi := kBad_nat c2 (by decide)
          refine Ag.look hJ rfl ?_
          rw [mup_n _ _ _ (by decide)]
          exact r5 _ hi.1
theorem j_change {B : Nat} {σ τ : Mem} (h : J B σ τ) (hB : B + 16 < 2 ^ 30) (f i v : Int32) : Ag B σ (xChange σ f i v) gId (qChange τ f i v).1 (qChange τ f i v).2 [1, 2] := by
  have hbad := inv_bad (N := 8) f (by decide) (by decide)
  have hbai := inv1 (x := i)
  unfold xChange qChange
  rcases h with ⟨a, d, h⟩ | ⟨a, b, d, h, ht, hb⟩
  · have z1 : ¬ τ 0 18 = 0 := by rw [h.2.2.2.2.2.1]; exact on_ne
    rw [if_pos h.2.2.2.2.1, if_neg z1]
    have hJ : J B σ τ := Or.inl ⟨a, d, h⟩
    split
    · exact Ag.refuse hJ (by decide) rfl (by decide)
    · split <;> exact Ag.refuse hJ (by decide) rfl (by decide)
  · have hJ : J B σ τ := Or.inr ⟨a, b, d, h, ht, hb⟩
    have z1 : ¬ σ 1 0 = 0 := by rw [h.2.2.2.2.1]; exact on_ne
    rw [if_neg z1, if_pos h.2.2.2.2.2.1]
    by_cases c : kBad 8 f
    · rw [if_pos c, if_pos (hbad.mp c), if_pos (hbad.mp c)]; exact Ag.refuse hJ (by decide) rfl (by decide)
    · have hp := kBad_nat c (by decide)
      have hn := inv_nI hp (by decide) (by decide)
      rw [if_neg c, if_neg (fun q => c (hbad.mpr q)), if_neg hn, if_neg hn]
      have hf := hp.1
      generalize f.toNatClampNeg = g at hf
      obtain ⟨r1, r2, r3, r4, r5⟩ := h.2.1.2.2 g hf
      rw [r2]
      have hbB : b ≤ B := h.2.2.2.1.2.2.1
      have hab : a ≤ b := h.2.2.2.1.2.1
      have e11 : τ 0 11 = nI b := h.2.2.2.1.1
      have e9 : (mup τ 0 0 (nI 0)) 0 9 = nI a := by rw [mup_f _ _ _ _ (by decide)]; exact h.2.2.1.1
      have e55 : σ 5 5 = nI b := by rw [h.2.1.1]; exact e11
      have e53 : σ 5 3 = nI a := by rw [h.1.2.2.1]; exact h.2.2.1.1
      have n11 : (τ 0 11).toNatClampNeg = b := by rw [e11]; exact nI_clamp (by omega)
      by_cases c2 : τ 9 g = 0
      · rw [if_pos c2, if_pos c2]
        split <;> exact Ag.refuse hJ (by decide) rfl (by decide)
      · rw [if_neg c2, if_neg c2]
        by_cases c3 : i = 0
        · rw [if_pos c3, if_pos (hbai.mp (Or.inl c3))]; exact Ag.refuse hJ (by decide) rfl (by decide)
        · rw [if_neg c3]
          by_cases c4 : kBad 64 i
          · rw [if_pos c4, if_pos (hbai.mp (Or.inr c4))]; exact Ag.refuse hJ (by decide) rfl (by decide)
          · have hi := kBad_nat c4 (by decide)
            rw [if_neg c4, if_neg (show ¬ qInv i (nI 1) (nI 63) = 0 from fun q => by rcases hbai.mpr q with z | z; exact c3 z; exact c4 z)]
            rw [n11, e9]
            unfold kRoom
            rw [e55, e53, pk_sub hab, nI_add]
            by_cases c5 : b - a + 8 ≤ 65536
            · have y1 : ¬ nI 65528 < nI (b - a) := fun q => by have := (nI_ltI (by omega) (by omega)).mp q; omega
              have y2 : nI (b - a + 8) ≤ nI 65536 := (nI_leI (by omega) (by omega)).mpr c5
              rw [if_neg y1, if_neg (show ¬ (1 : Int32) = 0 by decide), if_pos y2]
              have hp8 : nat0 256 (τ 8 g) := by
                rcases (h.2.2.2.1.2.2.2.2.1 g hf).1 with z | z
                · exact absurd z.2.1 c2
                · exact z
              have h' := (al_thrown (x := nI 0) h).mono (show B ≤ B + 16 by omega)
              have e8 : (mup τ 0 0 (nI 0)) 8 = τ 8 := mup_n _ _ _ (by decide)
              have hc := chg (v := v) h' hf hi.1 hb (by omega) hB (by rw [e8]; exact hp8)
              rw [e55] at hc
              refine ⟨?_, fun _ => ?_, Or.inr ⟨a, b + 8, d, hc, ?_, by omega⟩, fun q => absurd rfl q, Or.inl rfl⟩
              · dsimp only
                rw [mup_f _ _ _ _ (by decide), qPut_0 _ _ _ _ _ (by decide) (by decide), mup_n _ _ _ (by decide), mup_n _ _ _ (by decide), mup_n _ _ _ (by decide), mup_n _ _ _ (by decide), mup_v]
                rfl
              · dsimp only
                rw [pk_sub (by omega)]; rfl
              · dsimp only
                rw [mup_f _ _ _ _ (by decide), qPut_0 _ _ _ _ _ (by decide) (by decide), mup_n _ _ _ (by decide), mup_n _ _ _ (by decide), mup_n _ _ _ (by decide), mup_n _ _ _ (by decide), mup_f _ _ _ _ (by decide)]
                exact ht
            · have y1 : nI 65528 < nI (b - a) := (nI_ltI (by omega) (by omega)).mpr (by omega)
              have y2 : ¬ nI (b - a + 8) ≤ nI 65536 := fun q => c5 ((nI_leI (by omega) (by omega)).mp q)
              rw [if_pos y1, if_pos (show (0 : Int32) = 0 from rfl), if_neg y2]
              exact Ag.look hJ rfl rfl
theorem j_frame {B : Nat} {σ τ : Mem} (h : J B σ τ) (hB : B + 16 < 2 ^ 30) (f k : Int32) : Ag B σ (xFrame σ f k) gOne (qFrame τ f k).1 (qFrame τ f k).2 [2] := by
  have hbad := inv_bad (N := 8) f (by decide) (by decide)
  have hbak := inv_bad (N := 5) k (by decide) (by decide)
  unfold xFrame qFrame
  by_cases c : kBad 8 f
  · rw [if_pos c, if_pos (hbad.mp c)]; exact Ag.refuse h (by decide) rfl (by decide)
  · have hp := kBad_nat c (by decide)
    rw [if_neg c, if_neg (fun q => c (hbad.mpr q))]
    have hf := hp.1
    generalize f.toNatClampNeg = g at hf
    obtain ⟨r1, r2, r3, r4, r5⟩ := h.rm.2.2.2 g hf
    have q8 : (mup τ 0 0 (nI 0)) 8 = τ 8 := mup_n _ _ _ (by decide)
    have q9 : (mup τ 0 0 (nI 0)) 9 = τ 9 := mup_n _ _ _ (by decide)
    have q10 : (mup τ 0 0 (nI 0)) 10 = τ 10 := mup_n _ _ _ (by decide)
    have q11 : (mup τ 0 0 (nI 0)) 11 = τ 11 := mup_n _ _ _ (by decide)
    rw [q8, q9, q10, q11, r1, r2, r3, r4]
    have hch : kCh σ g = 0 ↔ τ 11 g < 0 := by
      obtain ⟨a, b, d, -, hY⟩ := h.ix
      exact ch_iff (by omega) h.rm.2 hY hf
    by_cases c2 : kBad 5 k
    · have k0 : ¬ k = nI 0 := fun q => by rw [q] at c2; exact absurd c2 (by decide)
      have k1 : ¬ k = nI 1 := fun q => by rw [q] at c2; exact absurd c2 (by decide)
      have k2 : ¬ k = nI 2 := fun q => by rw [q] at c2; exact absurd c2 (by decide)
      have k3 : ¬ k = nI 3 := fun q => by rw [q] at c2; exact absurd c2 (by decide)
      have k4 : ¬ k = nI 4 := fun q => by rw [q] at c2; exact absurd c2 (by decide)
      rw [if_neg k0, if_neg k1, if_neg k2, if_neg k3, if_neg k4, if_pos (hbak.mp c2)]; exact Ag.refuse h (by decide) rfl (by decide)
    · rw [if_neg (show ¬ qInv k (nI 0) (nI 4) = 0 from fun q => c2 (hbak.mpr q))]
      obtain ⟨j1, j2⟩ := kBad_nat c2 (by decide)
      rw [← j2]
      generalize k.toNatClampNeg = j at j1 j2
      subst j2
      rcases (show j = 0 ∨ j = 1 ∨ j = 2 ∨ j = 3 ∨ j = 4 by omega) with rfl | rfl | rfl | rfl | rfl
      · rw [if_pos rfl, if_pos rfl]; exact Ag.look h rfl rfl
      · rw [if_neg (show ¬ nI 1 = nI 0 by decide), if_neg (show ¬ nI 1 = nI 0 by decide), if_pos rfl, if_pos rfl]; exact Ag.look h rfl rfl
      · rw [if_neg (show ¬ nI 2 = nI 0 by decide), if_neg (show ¬ nI 2 = nI 0 by decide), if_neg (show ¬ nI 2 = nI 1 by decide), if_neg (show ¬ nI 2 = nI 1 by decide), if_pos rfl, if_pos rfl]
        by_cases c3 : τ 10 g = 0
        · rw [if_pos c3, if_pos c3]; exact Ag.look h rfl rfl
        · rw [if_neg c3, if_neg c3]; exact Ag.look h rfl rfl
      · rw [if_neg (show ¬ nI 3 = nI 0 by decide), if_neg (show ¬ nI 3 = nI 0 by decide), if_neg (show ¬ nI 3 = nI 1 by decide), if_neg (show ¬ nI 3 = nI 1 by decide), if_neg (show ¬ nI 3 = nI 2 by decide), if_neg (show ¬ nI 3 = nI 2 by decide), if_pos rfl, if_pos rfl]
        by_cases c3 : τ 11 g < 0
        · rw [if_pos (hch.mpr c3), if_pos c3]; exact Ag.look h rfl rfl
        · rw [if_neg (fun q => c3 (hch.mp q)), if_neg c3]; exact Ag.look h rfl rfl
      · rw [if_neg (show ¬ nI 4 = nI 0 by decide), if_neg (show ¬ nI 4 = nI 0 by decide), if_neg (show ¬ nI 4 = nI 1 by decide), if_neg (show ¬ nI 4 = nI 1 by decide), if_neg (show ¬ nI 4 = nI 2 by decide), if_neg (show ¬ nI 4 = nI 2 by decide), if_neg (show ¬ nI 4 = nI 3 by decide), if_neg (show ¬ nI 4 = nI 3 by decide), if_pos rfl]; exact Ag.look h rfl rfl
theorem j_log {B : Nat} {σ τ : Mem} (h : J B σ τ) (k : Int32) : Ag B σ (xLog σ k) gOne (qLog τ k).1 (qLog τ k).2 [2] := by
  have hbak := inv_bad (N := 3) k (by decide) (by decide)
  unfold xLog qLog
  have q9 : (mup τ 0 0 (nI 0)) 0 9 = τ 0 9 := mup_f _ _ _ _ (by decide)
  have q10 : (mup τ 0 0 (nI 0)) 0 10 = τ 0 10 := mup_f _ _ _ _ (by decide)
  have q11 : (mup τ 0 0 (nI 0)) 0 11 = τ 0 11 := mup_f _ _ _ _ (by decide)
  obtain ⟨hM, hX⟩ := h.rm
  rw [q9, q10, q11, hM.2.2.1, hM.2.2.2.1, hX.1]
  by_cases c2 : kBad 3 k
  · have k0 : ¬ k = nI 0 := fun q => by rw [q] at c2; exact absurd c2 (by decide)
    have k1 : ¬ k = nI 1 := fun q => by rw [q] at c2; exact absurd c2 (by decide)
    have k2 : ¬ k = nI 2 := fun q => by rw [q] at c2; exact absurd c2 (by decide)
    rw [if_neg k0, if_neg k1, if_neg k2, if_pos (hbak.mp c2)]; exact Ag.refuse h (by decide) rfl (by decide)
  · rw [if_neg (show ¬ qInv k (nI 0) (nI 2) = 0 from fun q => c2 (hbak.mpr q))]
    obtain ⟨j1, j2⟩ := kBad_nat c2 (by decide)
    rw [← j2]
    rcases (show k.toNatClampNeg = 0 ∨ k.toNatClampNeg = 1 ∨ k.toNatClampNeg = 2 by omega) with z | z | z
    · rw [z] at j2
      rw [if_pos j2, if_pos (by rw [j2]; rfl)]; exact Ag.look h rfl rfl
    · rw [z] at j2
      have y1 : ¬ k = nI 0 := by rw [j2]; decide
      have y2 : ¬ k = 0 := by rw [j2]; decide
      rw [if_neg y1, if_pos j2, if_neg y2, if_pos z]; exact Ag.look h rfl rfl
    · rw [z] at j2
      have y1 : ¬ k = nI 0 := by rw [j2]; decide
      have y2 : ¬ k = 0 := by rw [j2]; decide
      have y3 : ¬ k = nI 1 := by rw [j2]; decide
      rw [if_neg y1, if_neg y3, if_pos j2, if_neg y2, if_neg (show ¬ k.toNatClampNeg = 1 by omega)]; exact Ag.look h rfl rfl
theorem j_onM {B : Nat} {σ τ : Mem} (h : J B σ τ) (pg i : Int32) : Ag B σ (xOnM σ pg i) gOne (qOnM τ pg i).1 (qOnM τ pg i).2 [2] := by
  have hbad := inv_bad (N := 256) pg (by decide) (by decide)
  have hbai := inv_bad (N := 64) i (by decide) (by decide)
  unfold xOnM qOnM
  by_cases c : kBad 256 pg
  · rw [if_pos c, if_pos (hbad.mp c)]; exact Ag.refuse h (by decide) rfl (by decide)
  · rw [if_neg c, if_neg (show ¬ qInv pg (nI 0) (nI 255) = 0 from fun q => c (hbad.mpr q))]
    by_cases c2 : kBad 64 i
    · rw [if_pos c2, if_pos (hbai.mp c2)]; exact Ag.refuse h (by decide) rfl (by decide)
    · rw [if_neg c2, if_neg (show ¬ qInv i (nI 0) (nI 63) = 0 from fun q => c2 (hbai.mpr q))]
      refine Ag.look h rfl ?_
      rw [mup_n _ _ _ (by decide), h.rm.1.2.2.2.2.1, Nat.mul_comm]
theorem j_cutA {B : Nat} {σ τ : Mem} (h : J B σ τ) (n : Int32) : Ag B σ (xCutA σ n) gOne (xCutA σ n).2.1 (qCutA τ n) [3] := by
  unfold xCutA qCutA
  by_cases c : -1 ≤ n
  · rw [if_pos c, if_pos c]
    refine ⟨by dsimp only; rw [mup_f _ _ _ _ (by decide), mup_v]; rfl, fun _ => rfl, ?_, fun q => absurd rfl q, Or.inl rfl⟩
    have h' := (h.mono (show B ≤ B + 16 by omega)).thrown (x := nI 0)
    generalize mup τ 0 0 (nI 0) = τ1 at *
    dsimp only
    have ks : ∀ i, i ≠ 1 → (mup σ 1 1 n) i = σ i := fun i hi => mup_n _ _ _ hi
    have k1 : ∀ k, k ≠ 1 → (mup σ 1 1 n) 1 k = σ 1 k := fun k hk => mup_f _ _ _ _ hk
    have k11 : (mup σ 1 1 n) 1 1 = n := mup_v _ _ _ _
    have qs : ∀ i, i ≠ 0 → (mup τ1 0 19 n) i = τ1 i := fun i hi => mup_n _ _ _ hi
    have q0 : ∀ k, k ≠ 19 → (mup τ1 0 19 n) 0 k = τ1 0 k := fun k hk => mup_f _ _ _ _ hk
    have q019 : (mup τ1 0 19 n) 0 19 = n := mup_v _ _ _ _
    generalize mup σ 1 1 n = σ' at *
    generalize mup τ1 0 19 n = τ' at *
    have goM : RM σ τ1 → RM σ' τ' := fun hM => RM.go hM (by rw [k11, q019]) (by rw [k1 2 (by decide), q0 20 (by decide)]; exact hM.2.1) (by rw [ks 5 (by decide)]) (by rw [ks 5 (by decide), q0 10 (by decide)]; exact hM.2.2.2.1) (ks 2 (by decide)) (ks 3 (by decide)) (ks 4 (by decide)) (ks 6 (by decide)) (ks 7 (by decide)) (fun i h1 h2 => qs i (by omega)) (q0 9 (by decide)) (q0 4 (by decide))
    have goX : RX σ τ1 → RX σ' τ' := fun hX => RX.go hX (by rw [ks 5 (by decide), q0 11 (by decide)]; exact hX.1) (by rw [ks 0 (by decide), q0 17 (by decide)]; exact hX.2.1) (fun i h1 h2 => ks i (by omega)) (fun i h1 h2 => qs i (by omega))
    have goI : ∀ a d, IM (B + 16) τ1 a d → IM (B + 16) τ' a d := fun a d hI => IM.go hI (q0 9 (by decide)) (by rw [q0 10 (by decide)]; exact hI.2.1) (Nat.le_refl _) hI.2.2.2.2.1 (qs 1 (by decide)) (qs 2 (by decide))
    have goY : ∀ a b, IX (B + 16) τ1 a b → IX (B + 16) τ' a b := fun a b hY => IX.go hY (q0 11 (by decide)) (q0 17 (by decide)) (fun i h1 h2 => qs i (by omega))
    rcases h' with ⟨a, d, h1, h2, h3, h4, h5, h6, h7⟩ | ⟨a, b, d, ⟨h1, h2, h3, h4, h5, h6, h7⟩, h8, h9⟩
    · exact Or.inl ⟨a, d, goM h1, goX h2, goI _ _ h3, goY _ _ h4, by rw [k1 0 (by decide)]; exact h5, by rw [q0 18 (by decide)]; exact h6, fun f hf => by rw [qs 8 (by decide)]; exact h7 f hf⟩
    · exact Or.inr ⟨a, b, d, ⟨goM h1, goX h2, goI _ _ h3, goY _ _ h4, by rw [k1 0 (by decide)]; exact h5, by rw [q0 18 (by decide)]; exact h6, by rw [q0 21 (by decide)]; exact h7⟩, by rw [q0 4 (by decide)]; exact h8, h9⟩
  · rw [if_neg c, if_neg c]; exact Ag.refuse h (by decide) rfl (by decide)
