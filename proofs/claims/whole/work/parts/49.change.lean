/-! A change in a frame; a change in the log -/
theorem al_apply {B a b d f i x : Nat} {v : Int32} {σ τ : Mem} (hA : Al B σ τ a b d) (hf : f < 8) (hi : i < 64) (hax : a ≤ x) (hxb : x < b) (hx8 : x % 8 = 0) (hxB : x + 8 ≤ B) (hB : B < 2 ^ 30) (hp : nat0 256 (τ 8 f)) (hno : ∀ g, g < 8 → g ≠ f → ¬ τ 11 g = nI x) :
    Al B (kApply σ f (nI x) i v) (qPut τ f i v (nI x)) a b d ∧ (∀ j, j ≠ 7 → j ≠ 11 → (qPut τ f i v (nI x)) j = τ j) ∧ (∀ g, g ≠ f → (qPut τ f i v (nI x)) 11 g = τ 11 g) ∧ ((qPut τ f i v (nI x)) 11 f = τ 11 f ∨ (qPut τ f i v (nI x)) 11 f = nI x) ∧ (∀ j, j ≠ f + 9 → j ≠ f + 17 → (kApply σ f (nI x) i v) j = σ j) := by
  obtain ⟨hM, hX, hI, hY, h1, h2, h3⟩ := hA
  obtain ⟨x1, x2, x3, x4, x5⟩ := hX.2.2 f hf
  have e0 : (mup (mup σ (f + 17) i v) (f + 17) 0 (nI x + nI 1)) (f + 9) 4 = τ 11 f := by rw [mup_n _ _ _ (by omega), mup_n _ _ _ (by omega)]; exact x4
  have e1 : (mup (mup τ 7 (64 * f + i) v) 7 (64 * f) (nI x + nI 1)) 11 f = τ 11 f := by rw [mup_n _ _ _ (by decide), mup_n _ _ _ (by decide)]
  -- the new first
  have key : ∃ z : Int32, kApply σ f (nI x) i v = mup (mup (mup σ (f + 17) i v) (f + 17) 0 (nI (x + 1))) (f + 9) 4 z ∧ qPut τ f i v (nI x) = mup (mup (mup τ 7 (64 * f + i) v) 7 (64 * f) (nI (x + 1))) 11 f z ∧ (z = τ 11 f ∨ z = nI x) ∧ ∃ y : Nat, a ≤ y ∧ y < b ∧ y % 8 = 0 ∧ z = nI y := by
    unfold kApply qPut
    rw [e0, e1, nI_add]
    rcases (hY.2.2.2.2.1 f hf).2.2.2.1 with q | ⟨y, y1, y2, y3, y4⟩
    · rw [if_pos q, if_neg (by rw [q]; decide)]
      exact ⟨nI x, rfl, rfl, Or.inr rfl, x, hax, hxb, hx8, rfl⟩
    · have hbB := hY.2.2.1
      rw [if_neg (by rw [y4]; exact n1 (by omega)), if_pos (by rw [y4]; exact nI_pos' (by omega))]
      refine ⟨τ 11 f, ?_, rfl, Or.inl rfl, y, y1, y2, y3, y4⟩
      have e : τ 11 f = (mup (mup σ (f + 17) i v) (f + 17) 0 (nI (x + 1))) (f + 9) 4 := by rw [mup_n _ _ _ (by omega), mup_n _ _ _ (by omega)]; exact x4.symm
      rw [e, mup_same]
  obtain ⟨z, k1, k2, k3, y, k4, k5, k6, k7⟩ := key
  rw [k1, k2]
  have ks : ∀ j, j ≠ f + 9 → j ≠ f + 17 → (mup (mup (mup σ (f + 17) i v) (f + 17) 0 (nI (x + 1))) (f + 9) 4 z) j = σ j := fun j h9 h17 => by rw [mup_n _ _ _ h9, mup_n _ _ _ h17, mup_n _ _ _ h17]
  have kf : ∀ k, k ≠ 4 → (mup (mup (mup σ (f + 17) i v) (f + 17) 0 (nI (x + 1))) (f + 9) 4 z) (f + 9) k = σ (f + 9) k := fun k hk => by rw [mup_f _ _ _ _ hk, mup_n _ _ _ (by omega), mup_n _ _ _ (by omega)]
  have kf4 : (mup (mup (mup σ (f + 17) i v) (f + 17) 0 (nI (x + 1))) (f + 9) 4 z) (f + 9) 4 = z := mup_v _ _ _ _
  have qs : ∀ j, j ≠ 7 → j ≠ 11 → (mup (mup (mup τ 7 (64 * f + i) v) 7 (64 * f) (nI (x + 1))) 11 f z) j = τ j := fun j h7 h11 => by rw [mup_n _ _ _ h11, mup_n _ _ _ h7, mup_n _ _ _ h7]
  have q11 : ∀ g, g ≠ f → (mup (mup (mup τ 7 (64 * f + i) v) 7 (64 * f) (nI (x + 1))) 11 f z) 11 g = τ 11 g := fun g hg => by rw [mup_f _ _ _ _ hg, mup_n _ _ _ (by decide), mup_n _ _ _ (by decide)]
  have q11f : (mup (mup (mup τ 7 (64 * f + i) v) 7 (64 * f) (nI (x + 1))) 11 f z) 11 f = z := mup_v _ _ _ _
  have q70 : (mup (mup (mup τ 7 (64 * f + i) v) 7 (64 * f) (nI (x + 1))) 11 f z) 7 (64 * f) = nI (x + 1) := by rw [mup_n _ _ _ (by decide), mup_v]
  have q7g : ∀ g j, g ≠ f → j < 64 → (mup (mup (mup τ 7 (64 * f + i) v) 7 (64 * f) (nI (x + 1))) 11 f z) 7 (64 * g + j) = τ 7 (64 * g + j) := fun g j hg hj => by rw [mup_n _ _ _ (by decide), mup_f _ _ _ _ (by omega), mup_f _ _ _ _ (by omega)]
  have w7 : ∀ j, j < 64 → (mup (mup (mup σ (f + 17) i v) (f + 17) 0 (nI (x + 1))) (f + 9) 4 z) (f + 17) j = (mup (mup (mup τ 7 (64 * f + i) v) 7 (64 * f) (nI (x + 1))) 11 f z) 7 (64 * f + j) := fun j hj => by
    rw [mup_n _ _ _ (by omega), mup_n _ _ _ (show 7 ≠ 11 by decide)]
    by_cases h0 : j = 0
    · subst h0; rw [mup_v]; exact (mup_v _ _ _ _).symm
    · rw [mup_f _ _ _ _ h0, mup_f _ _ _ _ (show 64 * f + j ≠ 64 * f by omega)]
      by_cases hj2 : j = i
      · subst hj2; rw [mup_v, mup_v]
      · rw [mup_f _ _ _ _ hj2, mup_f _ _ _ _ (show 64 * f + j ≠ 64 * f + i by omega)]; exact x5 j hj
  refine ⟨?_, qs, q11, ?_, ks⟩
  · generalize mup (mup (mup σ (f + 17) i v) (f + 17) 0 (nI (x + 1))) (f + 9) 4 z = σ' at *
    generalize mup (mup (mup τ 7 (64 * f + i) v) 7 (64 * f) (nI (x + 1))) 11 f z = τ' at *
    have q0 : τ' 0 = τ 0 := qs 0 (by decide) (by decide)
    refine ⟨?_, ?_, ?_, ?_, by rw [ks 1 (by omega) (by omega)]; exact h1, by rw [q0]; exact h2, by rw [q0]; exact h3⟩
    · exact RM.go hM (by rw [ks 1 (by omega) (by omega), q0]; exact hM.1) (by rw [ks 1 (by omega) (by omega), q0]; exact hM.2.1) (by rw [ks 5 (by omega) (by omega)]) (by rw [ks 5 (by omega) (by omega), q0]; exact hM.2.2.2.1) (ks 2 (by omega) (by omega)) (ks 3 (by omega) (by omega)) (ks 4 (by omega) (by omega)) (ks 6 (by omega) (by omega)) (ks 7 (by omega) (by omega)) (fun i h1 h2 => qs i (by omega) (by omega)) (by rw [q0]) (by rw [q0])
    · refine ⟨by rw [ks 5 (by omega) (by omega), q0]; exact hX.1, by rw [ks 0 (by omega) (by omega), q0]; exact hX.2.1, fun g hg => ?_⟩
      unfold RF
      rw [qs 8 (by decide) (by decide), qs 9 (by decide) (by decide), qs 10 (by decide) (by decide)]
      by_cases hgf : g = f
      · subst hgf
        rw [kf 1 (by decide), kf 2 (by decide), kf 3 (by decide), kf4, q11f]
        exact ⟨x1, x2, x3, rfl, w7⟩
      · obtain ⟨r1, r2, r3, r4, r5⟩ := hX.2.2 g hg
        rw [ks (g + 9) (by omega) (by omega), ks (g + 17) (by omega) (by omega), q11 g hgf]
        exact ⟨r1, r2, r3, r4, fun j hj => by rw [q7g g j hgf hj]; exact r5 j hj⟩
    · exact IM.go hI (by rw [q0]) (by rw [q0]; exact hI.2.1) (Nat.le_refl _) hI.2.2.2.2.1 (qs 1 (by decide) (by decide)) (qs 2 (by decide) (by decide))
    · obtain ⟨y1, y2, y3, y4, y5, y6, y7⟩ := hY
      have hzx : ∀ g, g < 8 → g ≠ f → ¬ τ 11 g = z := fun g hg hgf q => by
        rcases k3 with k3 | k3
        · have h9 := y7 g f hg hf hgf (by rw [q, k3])
          rw [q, k7] at h9
          exact absurd h9 (n1 (by omega))
        · exact hno g hg hgf (by rw [q, k3])
      refine ⟨by rw [q0]; exact y1, y2, y3, by rw [q0]; exact y4, fun g hg => ?_, by rw [qs 8 (by decide) (by decide)]; exact y6, fun g k hg hk hgk he => ?_⟩
      · unfold FI
        rw [qs 8 (by decide) (by decide), qs 9 (by decide) (by decide), qs 10 (by decide) (by decide)]
        obtain ⟨z1, z2, z3, z4, z5⟩ := y5 g hg
        by_cases hgf : g = f
        · subst hgf
          rw [q11f, q70]
          exact ⟨Or.inr hp, z2, z3, Or.inr ⟨y, k4, k5, k6, k7⟩, ⟨x + 1, rfl, by omega⟩⟩
        · rw [q11 g hgf]
          have e := q7g g 0 hgf (by decide)
          rw [Nat.add_zero] at e
          rw [e]
          exact ⟨z1, z2, z3, z4, z5⟩
      · by_cases hgf : g = f
        · rw [hgf, q11f, q11 k (fun q => hgk (hgf.trans q.symm))] at he
          exact absurd he.symm (hzx k hk (fun q => hgk (hgf.trans q.symm)))
        · rw [q11 g hgf] at he ⊢
          by_cases hkf : k = f
          · rw [hkf, q11f] at he
            exact absurd he (hzx g hg hgf)
          · rw [q11 k hkf] at he
            exact y7 g k hg hk hgk he
  · rw [q11f]; exact k3
theorem al_append {B a b d p w : Nat} {v : Int32} {σ τ : Mem} (hA : Al B σ τ a b d) (hbB : b + 8 ≤ B) (hB : B < 2 ^ 30) (hp : p < 256) (hw : w < 64) :
    Al B (kAppend σ (nI p) (nI w) v) (mup (mup (mup (mup (mup τ 0 11 (nI (b + 8))) 3 (b / 8 % 8192) (nI p)) 4 (b / 8 % 8192) (nI w)) 5 (b / 8 % 8192) v) 6 (b / 8 % 8192) (nI 0)) a (b + 8) d := by
  obtain ⟨hM, hX, hI, hY, h1, h2, h3⟩ := hA
  have e55 : σ 5 5 = nI b := by rw [hX.1]; exact hY.1
  have esl : kSlot (σ 5 5) = b / 8 % 8192 := by rw [e55]; exact kSlot_nI (by omega)
  unfold kAppend
  rw [esl, e55, nI_add, pk_mul, nI_add]
  generalize b / 8 % 8192 = r
  have ks : ∀ i, i ≠ 5 → i ≠ 6 → i ≠ 7 → (mup (mup (mup σ 6 r (nI (p * 64 + w))) 7 r v) 5 5 (nI (b + 8))) i = σ i := fun i h5 h6 h7 => by rw [mup_n _ _ _ h5, mup_n _ _ _ h7, mup_n _ _ _ h6]
  have k5 : ∀ k, k ≠ 5 → (mup (mup (mup σ 6 r (nI (p * 64 + w))) 7 r v) 5 5 (nI (b + 8))) 5 k = σ 5 k := fun k hk => by rw [mup_f _ _ _ _ hk, mup_n _ _ _ (by decide), mup_n _ _ _ (by decide)]
  have k55 : (mup (mup (mup σ 6 r (nI (p * 64 + w))) 7 r v) 5 5 (nI (b + 8))) 5 5 = nI (b + 8) := mup_v _ _ _ _
  have k6 : (mup (mup (mup σ 6 r (nI (p * 64 + w))) 7 r v) 5 5 (nI (b + 8))) 6 = (mup σ 6 r (nI (p * 64 + w))) 6 := by rw [mup_n _ _ _ (by decide), mup_n _ _ _ (by decide)]
  have k7 : (mup (mup (mup σ 6 r (nI (p * 64 + w))) 7 r v) 5 5 (nI (b + 8))) 7 = upd (σ 7) r v := by rw [mup_n _ _ _ (by decide), mup_s, mup_n _ _ _ (by decide)]
  generalize mup (mup (mup σ 6 r (nI (p * 64 + w))) 7 r v) 5 5 (nI (b + 8)) = σ' at *
  have qs : ∀ i, i ≠ 0 → (i < 3 ∨ 6 < i) → (mup (mup (mup (mup (mup τ 0 11 (nI (b + 8))) 3 r (nI p)) 4 r (nI w)) 5 r v) 6 r (nI 0)) i = τ i := fun i h0 h => by rw [mup_n _ _ _ (by omega), mup_n _ _ _ (by omega), mup_n _ _ _ (by omega), mup_n _ _ _ (by omega), mup_n _ _ _ h0]
  have q0 : ∀ k, k ≠ 11 → (mup (mup (mup (mup (mup τ 0 11 (nI (b + 8))) 3 r (nI p)) 4 r (nI w)) 5 r v) 6 r (nI 0)) 0 k = τ 0 k := fun k hk => by rw [mup_n _ _ _ (by decide), mup_n _ _ _ (by decide), mup_n _ _ _ (by decide), mup_n _ _ _ (by decide), mup_f _ _ _ _ hk]
  have q011 : (mup (mup (mup (mup (mup τ 0 11 (nI (b + 8))) 3 r (nI p)) 4 r (nI w)) 5 r v) 6 r (nI 0)) 0 11 = nI (b + 8) := by rw [mup_n _ _ _ (by decide), mup_n _ _ _ (by decide), mup_n _ _ _ (by decide), mup_n _ _ _ (by decide), mup_v]
  have q3 : (mup (mup (mup (mup (mup τ 0 11 (nI (b + 8))) 3 r (nI p)) 4 r (nI w)) 5 r v) 6 r (nI 0)) 3 = upd (τ 3) r (nI p) := by rw [mup_n _ _ _ (by decide), mup_n _ _ _ (by decide), mup_n _ _ _ (by decide), mup_s, mup_n _ _ _ (by decide)]
  have q4 : (mup (mup (mup (mup (mup τ 0 11 (nI (b + 8))) 3 r (nI p)) 4 r (nI w)) 5 r v) 6 r (nI 0)) 4 = upd (τ 4) r (nI w) := by rw [mup_n _ _ _ (by decide), mup_n _ _ _ (by decide), mup_s, mup_n _ _ _ (by decide), mup_n _ _ _ (by decide)]
  have q5 : (mup (mup (mup (mup (mup τ 0 11 (nI (b + 8))) 3 r (nI p)) 4 r (nI w)) 5 r v) 6 r (nI 0)) 5 = upd (τ 5) r v := by rw [mup_n _ _ _ (by decide), mup_s, mup_n _ _ _ (by decide), mup_n _ _ _ (by decide), mup_n _ _ _ (by decide)]
  have q6 : (mup (mup (mup (mup (mup τ 0 11 (nI (b + 8))) 3 r (nI p)) 4 r (nI w)) 5 r v) 6 r (nI 0)) 6 = upd (τ 6) r (nI 0) := by rw [mup_s, mup_n _ _ _ (by decide), mup_n _ _ _ (by decide), mup_n _ _ _ (by decide), mup_n _ _ _ (by decide)]
  generalize mup (mup (mup (mup (mup τ 0 11 (nI (b + 8))) 3 r (nI p)) 4 r (nI w)) 5 r v) 6 r (nI 0) = τ' at *
  refine ⟨?_, ?_, ?_, ?_, by rw [ks 1 (by decide) (by decide) (by decide)]; exact h1, by rw [q0 18 (by decide)]; exact h2, by rw [q0 21 (by decide)]; exact h3⟩
  · obtain ⟨m1, m2, m3, m4, m5, m6, m7, m8, m9, m10⟩ := hM
    refine ⟨by rw [ks 1 (by decide) (by decide) (by decide), q0 19 (by decide)]; exact m1, by rw [ks 1 (by decide) (by decide) (by decide), q0 20 (by decide)]; exact m2, by rw [k5 3 (by decide), q0 9 (by decide)]; exact m3, by rw [k5 4 (by decide), q0 10 (by decide)]; exact m4, by rw [ks 3 (by decide) (by decide) (by decide), qs 1 (by decide) (by decide)]; exact m5, by rw [ks 4 (by decide) (by decide) (by decide), qs 2 (by decide) (by decide)]; exact m6, by rw [k7, q5, m7], fun j => ?_, ?_, by rw [ks 2 (by decide) (by decide) (by decide)]; exact m10⟩
    · rw [k6, q6, q3, q4]
      by_cases hj : j = r
      · subst hj
        right
        rw [mup_v, pk_us, pk_us, pk_us]
        exact ⟨rfl, p, w, hp, hw, rfl, rfl, rfl⟩
      · rw [mup_f _ _ _ _ hj, pk_un hj, pk_un hj, pk_un hj]
        exact m8 j
    · unfold RN
      rw [ks 2 (by decide) (by decide) (by decide), q0 4 (by decide)]; exact m9
  · refine RX.go hX (by rw [k55, q011]) (by rw [ks 0 (by decide) (by decide) (by decide), q0 17 (by decide)]; exact hX.2.1) (fun i h1 h2 => ks i (by omega) (by omega) (by omega)) (fun i h1 h2 => qs i (by omega) (by omega))
  · exact IM.go hI (q0 9 (by decide)) (by rw [q0 10 (by decide)]; exact hI.2.1) (Nat.le_refl _) hI.2.2.2.2.1 (qs 1 (by decide) (by decide)) (qs 2 (by decide) (by decide))
  · obtain ⟨y1, y2, y3, y4, y5, y6, y7⟩ := hY
    refine ⟨q011, by omega, hbB, by rw [q0 17 (by decide)]; exact y4, fun g hg => ?_, by rw [qs 8 (by decide) (by decide)]; exact y6, by rw [qs 11 (by decide) (by decide)]; exact y7⟩
    obtain ⟨z1, z2, z3, z4, z5⟩ := y5 g hg
    unfold FI
    rw [qs 7 (by decide) (by decide), qs 8 (by decide) (by decide), qs 9 (by decide) (by decide), qs 10 (by decide) (by decide), qs 11 (by decide) (by decide)]
    refine ⟨z1, z2, z3, ?_, z5⟩
    rcases z4 with q | ⟨y, q1, q2, q3, q4⟩
    · exact Or.inl q
    · exact Or.inr ⟨y, q1, by omega, q3, q4⟩
theorem mup_comm (σ : Mem) {i j : Nat} (h : i ≠ j) (k l : Nat) (v w : Int32) : mup (mup σ i k v) j l w = mup (mup σ j l w) i k v := by
  funext x y
  by_cases hj : x = j
  · subst hj
    rw [mup_n (mup σ x l w) _ _ (fun q => h q.symm), mup_s, mup_s, mup_n _ _ _ (fun q => h q.symm)]
  · rw [mup_n _ _ _ hj]
    by_cases hi : x = i
    · subst hi
      rw [mup_s, mup_s, mup_n _ _ _ hj]
    · rw [mup_n _ _ _ hi, mup_n _ _ _ hi, mup_n _ _ _ hj]
theorem qPut_end (τ : Mem) (f i : Nat) (v x y : Int32) : mup (qPut τ f i v x) 0 11 y = qPut (mup τ 0 11 y) f i v x := by
  have e : mup (mup (mup τ 0 11 y) 7 (64 * f + i) v) 7 (64 * f) (x + nI 1) = mup (mup (mup τ 7 (64 * f + i) v) 7 (64 * f) (x + nI 1)) 0 11 y := by
    rw [mup_comm τ (show 0 ≠ 7 by decide), mup_comm (mup τ 7 (64 * f + i) v) (show 0 ≠ 7 by decide)]
  unfold qPut
  rw [e, mup_n (mup (mup τ 7 (64 * f + i) v) 7 (64 * f) (x + nI 1)) _ _ (show 11 ≠ 0 by decide)]
  split
  · rw [mup_comm _ (show 11 ≠ 0 by decide)]
  · rw [mup_comm _ (show 11 ≠ 0 by decide)]
/-- a change of word i of frame f, with room in the log -/
theorem chg {B a b d f i : Nat} {v : Int32} {σ τ : Mem} (hA : Al B σ τ a b d) (hf : f < 8) (hi : i < 64) (hb : b % 8 = 0) (hbB : b + 8 ≤ B) (hB : B < 2 ^ 30) (hp : nat0 256 (τ 8 f)) :
    Al B (kApply (kAppend σ (σ (f + 9) 1) (nI i) v) f (σ 5 5) i v) (mup (qPut (mup (mup (mup (mup τ 3 (b / 8 % 8192) (τ 8 f)) 4 (b / 8 % 8192) (nI i)) 5 (b / 8 % 8192) v) 6 (b / 8 % 8192) (nI 0)) f i v (nI b)) 0 11 (nI (b + 8))) a (b + 8) d := by
  have e1 : σ (f + 9) 1 = nI (τ 8 f).toNatClampNeg := by rw [(hA.2.1.2.2 f hf).1]; exact hp.2
  have e2 : σ 5 5 = nI b := by rw [hA.2.1.1]; exact hA.2.2.2.1.1
  have hA1 := al_append (v := v) hA hbB hB hp.1 hi
  rw [← hp.2] at hA1
  have e3 : mup (mup (mup (mup (mup τ 0 11 (nI (b + 8))) 3 (b / 8 % 8192) (τ 8 f)) 4 (b / 8 % 8192) (nI i)) 5 (b / 8 % 8192) v) 6 (b / 8 % 8192) (nI 0) = mup (mup (mup (mup (mup τ 3 (b / 8 % 8192) (τ 8 f)) 4 (b / 8 % 8192) (nI i)) 5 (b / 8 % 8192) v) 6 (b / 8 % 8192) (nI 0)) 0 11 (nI (b + 8)) := by
    rw [mup_comm τ (show 0 ≠ 3 by decide), mup_comm (mup τ _ _ _) (show 0 ≠ 4 by decide), mup_comm (mup (mup τ _ _ _) _ _ _) (show 0 ≠ 5 by decide), mup_comm (mup (mup (mup τ _ _ _) _ _ _) _ _ _) (show 0 ≠ 6 by decide)]
  have e8 : (mup (mup (mup (mup (mup τ 0 11 (nI (b + 8))) 3 (b / 8 % 8192) (τ 8 f)) 4 (b / 8 % 8192) (nI i)) 5 (b / 8 % 8192) v) 6 (b / 8 % 8192) (nI 0)) 8 = τ 8 := by rw [mup_n _ _ _ (by decide), mup_n _ _ _ (by decide), mup_n _ _ _ (by decide), mup_n _ _ _ (by decide), mup_n _ _ _ (by decide)]
  have e11 : (mup (mup (mup (mup (mup τ 0 11 (nI (b + 8))) 3 (b / 8 % 8192) (τ 8 f)) 4 (b / 8 % 8192) (nI i)) 5 (b / 8 % 8192) v) 6 (b / 8 % 8192) (nI 0)) 11 = τ 11 := by rw [mup_n _ _ _ (by decide), mup_n _ _ _ (by decide), mup_n _ _ _ (by decide), mup_n _ _ _ (by decide), mup_n _ _ _ (by decide)]
  rw [qPut_end, ← e3]
  rw [e1, e2, ← hp.2]
  rw [← hp.2] at e1
  have hab := hA.2.2.2.1.2.1
  refine (al_apply hA1 hf hi hab (by omega) hb (by omega) hB (by rw [e8]; exact hp) (fun g hg hgf q => ?_)).1
  rw [e11] at q
  rcases (hA.2.2.2.1.2.2.2.2.1 g hg).2.2.2.1 with z | ⟨y, y1, y2, y3, y4⟩
  · rw [z] at q; exact absurd q.symm (n1 (by omega))
  · rw [y4] at q
    have := (nI_eq (by omega) (by omega)).mp q
    omega
