/-! start -/
theorem kLW_55 (σ : Mem) (y : Int32) : kLW (mup σ 5 5 y) = ((kLW σ).1, mup (kLW σ).2 5 5 y) := by
  unfold kLW
  rw [mup_n σ _ _ (show 1 ≠ 5 by decide)]
  split
  · unfold kFail
    dsimp only
    rw [mup_comm σ (show 5 ≠ 1 by decide), mup_comm (mup σ 1 0 (nI 0)) (show 5 ≠ 1 by decide)]
  · split
    · dsimp only
      rw [mup_comm σ (show 5 ≠ 1 by decide)]
    · dsimp only
      rw [mup_comm σ (show 5 ≠ 1 by decide), mup_comm (mup σ 1 1 _) (show 5 ≠ 1 by decide)]
theorem kForce_55 (y : Int32) : ∀ (n : Nat) (σ : Mem), kForce n (mup σ 5 5 y) = ((kForce n σ).1, mup (kForce n σ).2 5 5 y)
  | 0, _ => rfl
  | n + 1, σ => by
    have e1 : kForce (n + 1) (mup σ 5 5 y) = if (kLW (mup σ 5 5 y)).1 = 0 then (0, (kLW (mup σ 5 5 y)).2) else kForce n (mup (kLW (mup σ 5 5 y)).2 5 4 ((kLW (mup σ 5 5 y)).2 5 4 + nI 1)) := rfl
    have e2 : kForce (n + 1) σ = if (kLW σ).1 = 0 then (0, (kLW σ).2) else kForce n (mup (kLW σ).2 5 4 ((kLW σ).2 5 4 + nI 1)) := rfl
    rw [e1, e2, kLW_55]
    dsimp only
    split
    · rfl
    · rw [mup_f (kLW σ).2 _ _ _ (show 4 ≠ 5 by decide), mup_slots (kLW σ).2 5 (show 5 ≠ 4 by decide), kForce_55 y n]
theorem kEmpty_55 (σ : Mem) (f : Nat) (y : Int32) : kEmpty (mup σ 5 5 y) f = mup (kEmpty σ f) 5 5 y := by
  unfold kEmpty
  rw [mup_comm σ (show 5 ≠ f + 9 by omega), mup_comm (mup σ _ _ _) (show 5 ≠ f + 9 by omega), mup_comm (mup (mup σ _ _ _) _ _ _) (show 5 ≠ f + 9 by omega), mup_comm (mup (mup (mup σ _ _ _) _ _ _) _ _ _) (show 5 ≠ f + 9 by omega)]
theorem kEmpties_55 (y : Int32) : ∀ (n f : Nat) (σ : Mem), kEmpties n f (mup σ 5 5 y) = mup (kEmpties n f σ) 5 5 y
  | 0, _, _ => rfl
  | n + 1, f, σ => by
    have e1 : kEmpties (n + 1) f (mup σ 5 5 y) = kEmpties n (f + 1) (kEmpty (mup σ 5 5 y) f) := rfl
    have e2 : kEmpties (n + 1) f σ = kEmpties n (f + 1) (kEmpty σ f) := rfl
    rw [e1, e2, kEmpty_55, kEmpties_55 y n]
theorem kLose_55 (σ : Mem) (y : Int32) : kLose (mup σ 5 5 y) = kLose σ := by
  unfold kLose
  rw [kEmpties_55, mup_comm _ (show 5 ≠ 0 by decide), mup_mup, mup_f (mup (kEmpties 8 0 σ) 0 4 (nI 0)) _ _ _ (show 4 ≠ 5 by decide)]
theorem al_on {B a d : Nat} {σ τ : Mem} (h : Off B σ τ a d) : Al B (mup σ 1 0 (nI 1)) (qOn τ) a d d := by
  obtain ⟨hM, hX, hI, hY, -, -, -⟩ := h
  have ks : ∀ i, i ≠ 1 → (mup σ 1 0 (nI 1)) i = σ i := fun i hi => mup_n _ _ _ hi
  have qs : ∀ i, i ≠ 0 → qOn τ i = τ i := fun i hi => by unfold qOn; rw [mup_n _ _ _ hi, mup_n _ _ _ hi, mup_n _ _ _ hi]
  have q0 : ∀ k, k ≠ 0 → k ≠ 18 → k ≠ 21 → qOn τ 0 k = τ 0 k := fun k h1 h2 h3 => by unfold qOn; rw [mup_f _ _ _ _ h3, mup_f _ _ _ _ h2, mup_f _ _ _ _ h1]
  refine ⟨?_, ?_, ?_, ?_, mup_v _ _ _ _, ?_, ?_⟩
  · exact RM.go hM (by rw [mup_f _ _ _ _ (by decide), q0 19 (by decide) (by decide) (by decide)]; exact hM.1) (by rw [mup_f _ _ _ _ (by decide), q0 20 (by decide) (by decide) (by decide)]; exact hM.2.1) (by rw [ks 5 (by decide)]) (by rw [ks 5 (by decide), q0 10 (by decide) (by decide) (by decide)]; exact hM.2.2.2.1) (ks 2 (by decide)) (ks 3 (by decide)) (ks 4 (by decide)) (ks 6 (by decide)) (ks 7 (by decide)) (fun i h1 h2 => qs i (by omega)) (q0 9 (by decide) (by decide) (by decide)) (q0 4 (by decide) (by decide) (by decide))
  · exact RX.go hX (by rw [ks 5 (by decide), q0 11 (by decide) (by decide) (by decide)]; exact hX.1) (by rw [ks 0 (by decide), q0 17 (by decide) (by decide) (by decide)]; exact hX.2.1) (fun i h1 h2 => ks i (by omega)) (fun i h1 h2 => qs i (by omega))
  · exact IM.go hI (q0 9 (by decide) (by decide) (by decide)) (by rw [q0 10 (by decide) (by decide) (by decide)]; exact hI.2.1) (Nat.le_refl _) hI.2.2.2.2.1 (qs 1 (by decide)) (qs 2 (by decide))
  · exact IX.go hY (q0 11 (by decide) (by decide) (by decide)) (q0 17 (by decide) (by decide) (by decide)) (fun i h1 h2 => qs i (by omega))
  · unfold qOn; rw [mup_f _ _ _ _ (by decide), mup_v]; rfl
  · unfold qOn; rw [mup_v]; rfl
theorem al_void {B a b d r : Nat} {σ τ : Mem} (h : Al B σ τ a b d) : Al B (mup σ 6 r (-1)) (mup τ 6 r (nI 1)) a b d := by
  obtain ⟨hM, hX, hI, hY, h1, h2, h3⟩ := h
  have ks : ∀ i, i ≠ 6 → (mup σ 6 r (-1)) i = σ i := fun i hi => mup_n _ _ _ hi
  have qs : ∀ i, i ≠ 6 → (mup τ 6 r (nI 1)) i = τ i := fun i hi => mup_n _ _ _ hi
  have q6 : (mup τ 6 r (nI 1)) 6 = upd (τ 6) r (nI 1) := mup_s _ _ _ _
  have k6 : (mup σ 6 r (-1)) 6 = upd (σ 6) r (-1) := mup_s _ _ _ _
  generalize mup σ 6 r (-1) = σ' at *
  generalize mup τ 6 r (nI 1) = τ' at *
  have q0 := qs 0 (by decide)
  refine ⟨?_, ?_, ?_, ?_, by rw [ks 1 (by decide)]; exact h1, by rw [q0]; exact h2, by rw [q0]; exact h3⟩
  · obtain ⟨m1, m2, m3, m4, m5, m6, m7, m8, m9, m10⟩ := hM
    refine ⟨by rw [ks 1 (by decide), q0]; exact m1, by rw [ks 1 (by decide), q0]; exact m2, by rw [ks 5 (by decide), q0]; exact m3, by rw [ks 5 (by decide), q0]; exact m4, by rw [ks 3 (by decide), qs 1 (by decide)]; exact m5, by rw [ks 4 (by decide), qs 2 (by decide)]; exact m6, by rw [ks 7 (by decide), qs 5 (by decide)]; exact m7, fun j => ?_, ?_, by rw [ks 2 (by decide)]; exact m10⟩
    · rw [k6, q6, qs 3 (by decide), qs 4 (by decide)]
      by_cases hj : j = r
      · subst hj
        rw [pk_us, pk_us]
        exact Or.inl ⟨rfl, by decide⟩
      · rw [pk_un hj, pk_un hj]
        exact m8 j
    · unfold RN
      rw [ks 2 (by decide), q0]; exact m9
  · exact RX.go hX (by rw [ks 5 (by decide), q0]; exact hX.1) (by rw [ks 0 (by decide), q0]; exact hX.2.1) (fun i h1 h2 => ks i (by omega)) (fun i h1 h2 => qs i (by omega))
  · exact IM.go hI (by rw [q0]) (by rw [q0]; exact hI.2.1) (Nat.le_refl _) hI.2.2.2.2.1 (qs 1 (by decide)) (qs 2 (by decide))
  · exact IX.go hY (by rw [q0]) (by rw [q0]) (fun i h1 h2 => qs i (by omega))
theorem al_end {B a b b' d : Nat} {σ τ : Mem} (h : Al B σ τ a b d) (hb : b ≤ b') (hB : b' ≤ B) : Al B (mup σ 5 5 (nI b')) (mup τ 0 11 (nI b')) a b' d := by
  obtain ⟨hM, hX, hI, hY, h1, h2, h3⟩ := h
  have ks : ∀ i, i ≠ 5 → (mup σ 5 5 (nI b')) i = σ i := fun i hi => mup_n _ _ _ hi
  have k5 : ∀ k, k ≠ 5 → (mup σ 5 5 (nI b')) 5 k = σ 5 k := fun k hk => mup_f _ _ _ _ hk
  have k55 : (mup σ 5 5 (nI b')) 5 5 = nI b' := mup_v _ _ _ _
  have qs : ∀ i, i ≠ 0 → (mup τ 0 11 (nI b')) i = τ i := fun i hi => mup_n _ _ _ hi
  have q0 : ∀ k, k ≠ 11 → (mup τ 0 11 (nI b')) 0 k = τ 0 k := fun k hk => mup_f _ _ _ _ hk
  have q011 : (mup τ 0 11 (nI b')) 0 11 = nI b' := mup_v _ _ _ _
  generalize mup σ 5 5 (nI b') = σ' at *
  generalize mup τ 0 11 (nI b') = τ' at *
  refine ⟨?_, ?_, ?_, ?_, by rw [ks 1 (by decide)]; exact h1, by rw [q0 18 (by decide)]; exact h2, by rw [q0 21 (by decide)]; exact h3⟩
  · exact RM.go hM (by rw [ks 1 (by decide), q0 19 (by decide)]; exact hM.1) (by rw [ks 1 (by decide), q0 20 (by decide)]; exact hM.2.1) (k5 3 (by decide)) (by rw [k5 4 (by decide), q0 10 (by decide)]; exact hM.2.2.2.1) (ks 2 (by decide)) (ks 3 (by decide)) (ks 4 (by decide)) (ks 6 (by decide)) (ks 7 (by decide)) (fun i h1 h2 => qs i (by omega)) (q0 9 (by decide)) (q0 4 (by decide))
  · exact RX.go hX (by rw [k55, q011]) (by rw [ks 0 (by decide), q0 17 (by decide)]; exact hX.2.1) (fun i h1 h2 => ks i (by omega)) (fun i h1 h2 => qs i (by omega))
  · exact IM.go hI (q0 9 (by decide)) (by rw [q0 10 (by decide)]; exact hI.2.1) (Nat.le_refl _) hI.2.2.2.2.1 (qs 1 (by decide)) (qs 2 (by decide))
  · obtain ⟨y1, y2, y3, y4, y5, y6, y7⟩ := hY
    refine ⟨q011, by omega, hB, by rw [q0 17 (by decide)]; exact y4, fun g hg => ?_, by rw [qs 8 (by decide)]; exact y6, by rw [qs 11 (by decide)]; exact y7⟩
    obtain ⟨z1, z2, z3, z4, z5⟩ := y5 g hg
    unfold FI
    rw [qs 7 (by decide), qs 8 (by decide), qs 9 (by decide), qs 10 (by decide), qs 11 (by decide)]
    refine ⟨z1, z2, z3, ?_, z5⟩
    rcases z4 with q | ⟨y, q1, q2, q3, q4⟩
    · exact Or.inl q
    · exact Or.inr ⟨y, q1, by omega, q3, q4⟩
/-- fillUp -/
theorem fu {B a d : Nat} {σ τ : Mem} (hO : Off B σ τ a d) (hd : d + 8 ≤ B) (hB : B < 2 ^ 30) :
    qFilled τ d 0 0 = nI 0 ∧ (((kF σ).1 = 0 ∧ ∃ d', Off B (kLose (kF σ).2) (mup (qFilled τ d) 0 11 ((qFilled τ d) 0 10)) a d' ∧ ¬ (mup (qFilled τ d) 0 11 ((qFilled τ d) 0 10)) 0 21 = 0) ∨
     (¬ (kF σ).1 = 0 ∧ Al B (kF σ).2 (mup (qFilled τ d) 0 11 ((qFilled τ d) 0 10)) a ((d + 7) / 8 * 8) ((d + 7) / 8 * 8) ∧ ∀ i, 8 ≤ i → (qFilled τ d) i = τ i)) := by
  have hA := al_on hO
  have h54 : (mup σ 1 0 (nI 1)) 5 4 = nI d := by rw [hA.1.2.2.2.1]; exact hA.2.2.1.2.1
  have hq0 : qOn τ 0 0 = nI 0 := by unfold qOn; rw [mup_f _ _ _ _ (by decide), mup_f _ _ _ _ (by decide), mup_v]
  have qs : ∀ i, i ≠ 0 → qOn τ i = τ i := fun i hi => by unfold qOn; rw [mup_n _ _ _ hi, mup_n _ _ _ hi, mup_n _ _ _ hi]
  unfold kF
  generalize mup σ 1 0 (nI 1) = σ1 at *
  unfold qFilled
  generalize qOn τ = τ1 at *
  unfold kFill
  rw [h54, pk_rem (show d < 2 ^ 31 by omega) (by decide) (by decide)]
  by_cases c : d % 8 = 0
  · have e1 : nI (d % 8) = 0 := by rw [c]; rfl
    have e2 : nI (d % 8) ≤ 0 := by rw [c]; decide
    rw [if_pos e1, if_pos e1, if_pos e2]
    have e3 : (qFT τ1 (nI d)).2 = τ1 := by
      unfold qFT
      rw [show τ1 0 10 = nI d from hA.2.2.1.2.1, show ((nI d).toInt - (nI d).toInt).toNat = 0 by omega]
      rfl
    rw [e3]
    refine ⟨hq0, Or.inr ⟨by dsimp only; decide, ?_, fun i hi => qs i (by omega)⟩⟩
    rw [show τ1 0 10 = τ1 0 11 by rw [hA.2.2.2.1.1]; exact hA.2.2.1.2.1, mup_same, show (d + 7) / 8 * 8 = d by omega]
    exact hA
  · have e1 : ¬ nI (d % 8) = 0 := nI_ne0 (by omega) (by omega)
    have e2 : ¬ nI (d % 8) ≤ 0 := nI_nle (by omega) (by omega)
    rw [if_neg e1, if_neg e1, if_neg e2]
    dsimp only
    rw [kSlot_nI (show d < 2 ^ 31 by omega)]
    have h2 := al_void (r := d / 8 % 8192) hA
    have k54 : (mup σ1 6 (d / 8 % 8192) (-1)) 5 4 = nI d := by rw [mup_n _ _ _ (by decide)]; exact h54
    rw [k54, pk_sub (show d % 8 ≤ d by omega), nI_add, pk_sub (show d % 8 ≤ d + 8 by omega), show d - d % 8 + 8 = (d + 7) / 8 * 8 by omega, show d + 8 - d % 8 = (d + 7) / 8 * 8 by omega]
    have hq0' : (mup τ1 6 (d / 8 % 8192) (nI 1)) 0 0 = nI 0 := by rw [mup_n _ _ _ (by decide)]; exact hq0
    have qs' : ∀ i, 8 ≤ i → (mup τ1 6 (d / 8 % 8192) (nI 1)) i = τ i := fun i hi => by rw [mup_n _ _ _ (by omega)]; exact qs i (by omega)
    generalize mup σ1 6 (d / 8 % 8192) (-1) = σ2 at *
    generalize mup τ1 6 (d / 8 % 8192) (nI 1) = τ2 at *
    have hb' : (d + 7) / 8 * 8 ≤ B := by omega
    have hdb : d ≤ (d + 7) / 8 * 8 := by omega
    generalize (d + 7) / 8 * 8 = b' at *
    rw [mup_v]
    have eFT : kFT (mup σ2 5 5 (nI b')) (nI b') = ((kFT σ2 (nI b')).1, mup (kFT σ2 (nI b')).2 5 5 (nI b')) := by
      unfold kFT
      rw [mup_f _ _ _ _ (show 4 ≠ 5 by decide), kForce_55]
    rw [eFT]
    dsimp only
    refine ⟨by rw [qFT_0]; exact hq0', ?_⟩
    rcases ft h2 hb' hB with ⟨c1, d', -, -, hD⟩ | ⟨c1, -, hA3, hk⟩
    · left
      rw [kLose_55]
      generalize (qFT τ2 (nI b')).2 = τ3 at *
      have e11 : τ3 0 10 = τ3 0 11 := by rw [hD.1.2.2.2.1.1]; exact hD.1.2.2.1.2.1
      rw [e11, mup_same]
      exact ⟨c1, d', hD.1, hD.2⟩
    · right
      rw [show d + (b' - d) = b' by omega] at hA3
      refine ⟨c1, ?_, fun i hi => by rw [hk.2.1 i (by omega)]; exact qs' i hi⟩
      rw [show (qFT τ2 (nI b')).2 0 10 = nI b' from hA3.2.2.1.2.1]
      exact al_end hA3 hdb hb'
def qM (τ : Mem) : Mem := if τ 0 21 = 0 then (if τ 0 4 < 0 then τ else qWO τ (τ 0 4).toNatClampNeg) else τ
theorem md {B a b d : Nat} {σ τ : Mem} (hA : Al B σ τ a b d) :
    qM τ 0 0 = τ 0 0 ∧ (((kMend σ).1 = 0 ∧ Off B (kLose (kMend σ).2) (qM τ) a d ∧ ¬ qM τ 0 21 = 0) ∨ (¬ (kMend σ).1 = 0 ∧ Al B (kMend σ).2 (qM τ) a b d ∧ qM τ 0 4 = -1 ∧ ∀ i, 8 ≤ i → qM τ i = τ i)) := by
  have h21 : τ 0 21 = 0 := hA.2.2.2.2.2.2
  unfold qM kMend
  rw [if_pos h21]
  rcases hA.1.2.2.2.2.2.2.2.2.1 with ⟨k1, k2⟩ | ⟨k1, p, hp, k2, k3⟩
  · rw [if_pos k1, if_pos (by rw [k2]; decide)]
    exact ⟨rfl, Or.inr ⟨by dsimp only; decide, hA, k2, fun _ _ => rfl⟩⟩
  · have z1 : ¬ σ 2 4 = 0 := by rw [k1]; decide
    have z2 : ¬ τ 0 4 < 0 := by rw [k2]; exact nI_pos (by omega)
    rw [if_neg z1, if_neg z2, k2, k3, nI_clamp (show p < 2 ^ 31 by omega)]
    refine ⟨qWO_0 _ _, ?_⟩
    rcases ow (j := 4) hA hp (by decide) (by decide) (by decide) (fun i hi => by rw [hA.1.2.2.2.2.2.1]) k3 with ⟨c1, hD⟩ | ⟨c1, hA1, h4, hk⟩
    · rw [if_pos c1]
      exact Or.inl ⟨rfl, hD.1, hD.2⟩
    · rw [if_neg c1]
      exact Or.inr ⟨by dsimp only; decide, hA1, h4, fun i hi => hk.2.2.1 i (by omega) (by omega)⟩
theorem kCnt_lt (σ : Mem) : kCnt σ < 2 ^ 30 := by
  unfold kCnt
  show ((σ 5 5 - σ 5 3) / nI 8).toInt.toNat < _
  rw [Int32.toInt_div_of_ne_right _ _ (by decide)]
  have h1 := Int32.toInt_lt (σ 5 5 - σ 5 3)
  have h2 := Int32.le_toInt (σ 5 5 - σ 5 3)
  have h3 : (nI 8).toInt = 8 := by decide
  rw [h3]
  generalize (σ 5 5 - σ 5 3).toInt = z at *
  by_cases hz : 0 ≤ z
  · rw [Int.tdiv_eq_ediv_of_nonneg hz]
    omega
  · have h4 : z.tdiv 8 ≤ 0 := by
      have e : z = -(-z) := by omega
      rw [e, Int.neg_tdiv]
      have := Int.tdiv_nonneg (a := -z) (b := 8) (by omega) (by decide)
      omega
    omega
/-- start, from power off -/
theorem sta {B a d : Nat} {σ τ : Mem} (hO : Off B σ τ a d) (hd : d + 8 ≤ B) (hB : B < 2 ^ 30) : ∃ N : Nat,
    qLoopOK N a (qMended (qFilled τ d)) ∧ (¬ (kF σ).1 = 0 → ¬ (kG σ).1 = 0 → ((kG σ).2 5 5 - (kG σ).2 5 3) / nI 8 = nI (kCnt (kG σ).2) ∧ kLoopOK (kCnt (kG σ).2) 0 (kG σ).2) ∧
    (xStart σ).1 = 0 ∧ (xStart σ).2.1 = (qStart τ a d N).1 ∧ (qStart τ a d N).2 0 0 = nI 0 ∧
    ((∃ d', Off B (xStart σ).2.2 (qStart τ a d N).2 a d') ∨ ∃ b d', Al B (xStart σ).2.2 (qStart τ a d N).2 a b d' ∧ (qStart τ a d N).2 0 4 = -1 ∧ b % 8 = 0) := by
  have ha8 : a % 8 = 0 := hO.2.2.1.2.2.1
  have had : a ≤ d := hO.2.2.1.2.2.2.1
  have eM : qMended (qFilled τ d) = qM (mup (qFilled τ d) 0 11 ((qFilled τ d) 0 10)) := rfl
  refine ⟨((d + 7) / 8 * 8 - a) / 8 + 1, ?_⟩
  unfold qStart xStart
  have z18 : ¬ τ 0 18 = 0 := by rw [hO.2.2.2.2.2.1]; decide
  rw [if_pos hO.2.2.2.2.1, if_neg z18, eM]
  have eG : kG σ = kMend (kF σ).2 := rfl
  rw [eG]
  obtain ⟨q0, h1 | h1⟩ := fu hO hd hB
  · obtain ⟨c1, d', h2, h3⟩ := h1
    rw [if_pos c1]
    have e2 : qM (mup (qFilled τ d) 0 11 ((qFilled τ d) 0 10)) = mup (qFilled τ d) 0 11 ((qFilled τ d) 0 10) := by unfold qM; rw [if_neg h3]
    rw [e2, qLoop_fail h3]
    exact ⟨qLoopOK_fail h3, fun q => absurd c1 q, rfl, rfl, by dsimp only; rw [mup_f _ _ _ _ (by decide)]; exact q0, Or.inl ⟨d', h2⟩⟩
  · obtain ⟨c1, hA, hk⟩ := h1
    rw [if_neg c1]
    have q0' : (mup (qFilled τ d) 0 11 ((qFilled τ d) 0 10)) 0 0 = nI 0 := by rw [mup_f _ _ _ _ (by decide)]; exact q0
    have hk' : ∀ i, 8 ≤ i → (mup (qFilled τ d) 0 11 ((qFilled τ d) 0 10)) i = τ i := fun i hi => by rw [mup_n _ _ _ (by omega)]; exact hk i hi
    generalize mup (qFilled τ d) 0 11 ((qFilled τ d) 0 10) = τ1 at *
    generalize (kF σ).2 = σ1 at *
    have hb8 : (d + 7) / 8 * 8 % 8 = 0 := by omega
    have hdb : d ≤ (d + 7) / 8 * 8 := by omega
    have hbB : (d + 7) / 8 * 8 ≤ B := by omega
    generalize (d + 7) / 8 * 8 = b at *
    obtain ⟨m0, h2 | h2⟩ := md hA
    · obtain ⟨c2, h3, h4⟩ := h2
      rw [if_pos c2, qLoop_fail h4]
      exact ⟨qLoopOK_fail h4, fun _ q => absurd c2 q, rfl, rfl, by dsimp only; rw [m0]; exact q0', Or.inl ⟨b, h3⟩⟩
    · obtain ⟨c2, hA2, h4, hk2⟩ := h2
      rw [if_neg c2]
      obtain ⟨e1, e2⟩ := cnt_eq hA2 hB
      have hL : Lp B (kMend σ1).2 (qM τ1) a b b (a + 0 * 8) := by
        refine ⟨hA2, h4, fun f hf => ?_, fun f hf => ?_⟩
        · rw [hk2 9 (by decide), hk' 9 (by decide)]
          rcases (hO.2.2.2.1.2.2.2.2.1 f hf).1 with z | z
          · exact z.2.1
          · rw [hO.2.2.2.2.2.2 f hf] at z
            exact absurd z.2.symm (n1 (by have := z.1; omega))
        · rw [hk2 11 (by decide), hk' 11 (by decide)]
          rcases (hO.2.2.2.1.2.2.2.2.1 f hf).1 with z | z
          · exact Or.inl z.2.2
          · rw [hO.2.2.2.2.2.2 f hf] at z
            exact absurd z.2.symm (n1 (by have := z.1; omega))
      obtain ⟨l1, l2, l3, l4, l5⟩ := lp ha8 hB ((b - a) / 8) 0 b (nI 0) _ _ hL (by omega)
      rw [show a + 0 * 8 = a by omega] at l2 l3 l4 l5
      rw [e2]
      refine ⟨l2, fun _ _ => ⟨e1, l1⟩, rfl, l3, by rw [l4, m0]; exact q0', ?_⟩
      rcases l5 with ⟨d', l5⟩ | ⟨d', l5, l6⟩
      · exact Or.inl ⟨d', l5⟩
      · exact Or.inr ⟨b, d', l5, l6, hb8⟩
