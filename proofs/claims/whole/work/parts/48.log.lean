/-! The log's slots; trim; a change -/
theorem kSlot_nI {x : Nat} (h : x < 2 ^ 31) : kSlot (nI x) = x / 8 % 8192 := by
  unfold kSlot
  rw [show (8 : Int32) = nI 8 from rfl, pk_div h (by decide) (by decide), pk_tn (by omega)]
theorem isCh_iff {σ τ : Mem} (hT : RT σ τ) {x : Nat} (h : x < 2 ^ 31) : kIsCh σ (nI x) = 0 ↔ ¬ τ 6 (x / 8 % 8192) = 0 := by
  unfold kIsCh
  rw [kSlot_nI h]
  rcases hT (x / 8 % 8192) with ⟨h1, h2⟩ | ⟨h1, p, w, hp, hw, -, -, h3⟩
  · rw [if_pos h1]; exact ⟨fun _ => h2, fun _ => rfl⟩
  · rw [if_neg (by rw [h3]; exact n1 (by omega))]
    exact ⟨fun q => absurd q (by decide), fun q => absurd h1 q⟩
theorem qTr_last (τ : Mem) : ∀ (n s : Nat) (x : Int32), qTr τ (n + 1) s x = if τ 6 ((s + 8 * n) / 8 % 8192) = 0 then nI (s + 8 * n) else qTr τ n s x
  | 0, s, x => by
    show (if τ 6 (s / 8 % 8192) = 0 then nI s else x) = _
    rw [Nat.mul_zero, Nat.add_zero]
    rfl
  | n + 1, s, x => by
    have e1 := qTr_last τ n (s + 8) (nI s)
    have e2 := qTr_last τ n (s + 8) x
    rw [show s + 8 + 8 * n = s + 8 * (n + 1) by omega] at e1 e2
    have u1 : qTr τ (n + 1 + 1) s x = if τ 6 (s / 8 % 8192) = 0 then qTr τ (n + 1) (s + 8) (nI s) else qTr τ (n + 1) (s + 8) x := rfl
    have u2 : qTr τ (n + 1) s x = if τ 6 (s / 8 % 8192) = 0 then qTr τ n (s + 8) (nI s) else qTr τ n (s + 8) x := rfl
    rw [u1, e1, e2, u2]
    by_cases c : τ 6 (s / 8 % 8192) = 0
    · rw [if_pos c, if_pos c]
    · rw [if_neg c, if_neg c]
theorem last_eq {σ τ : Mem} (hT : RT σ τ) {a : Nat} (ha : σ 5 3 = nI a) : ∀ n, a + n * 8 < 2 ^ 30 → kLast σ n = qTr τ n a (nI a)
  | 0, _ => ha
  | n + 1, h => by
    have e := isCh_iff hT (x := a + n * 8) (by omega)
    unfold kLast
    rw [ha, nI_add, qTr_last, last_eq hT ha n (by omega), show a + 8 * n = a + n * 8 by omega]
    by_cases c : τ 6 ((a + n * 8) / 8 % 8192) = 0
    · rw [if_pos c, if_neg (fun q => (e.mp q) c)]
    · rw [if_neg c, if_pos (e.mpr c)]
theorem qTr_val (τ : Mem) (a : Nat) (ha : a % 8 = 0) : ∀ n, ∃ y, qTr τ n a (nI a) = nI y ∧ a ≤ y ∧ y % 8 = 0 ∧ (y = a ∨ y + 8 ≤ a + 8 * n)
  | 0 => ⟨a, rfl, Nat.le_refl _, ha, Or.inl rfl⟩
  | n + 1 => by
    rw [qTr_last]
    split
    · exact ⟨a + 8 * n, rfl, by omega, by omega, Or.inr (by omega)⟩
    · obtain ⟨y, h1, h2, h3, h4⟩ := qTr_val τ a ha n
      exact ⟨y, h1, h2, h3, by omega⟩
theorem al_thrown {B a b d : Nat} {x : Int32} {σ τ : Mem} (hA : Al B σ τ a b d) : Al B σ (mup τ 0 0 x) a b d := by
  obtain ⟨hM, hX, hI, hY, h1, h2, h3⟩ := hA
  have qs : ∀ i, i ≠ 0 → (mup τ 0 0 x) i = τ i := fun i hi => mup_n _ _ _ hi
  have q0 : ∀ k, k ≠ 0 → (mup τ 0 0 x) 0 k = τ 0 k := fun k hk => mup_f _ _ _ _ hk
  refine ⟨?_, ?_, ?_, ?_, h1, by rw [q0 18 (by decide)]; exact h2, by rw [q0 21 (by decide)]; exact h3⟩
  · exact RM.go hM (by rw [q0 19 (by decide)]; exact hM.1) (by rw [q0 20 (by decide)]; exact hM.2.1) rfl (by rw [q0 10 (by decide)]; exact hM.2.2.2.1) rfl rfl rfl rfl rfl (fun i h1 h2 => qs i (by omega)) (q0 9 (by decide)) (q0 4 (by decide))
  · exact RX.go hX (by rw [q0 11 (by decide)]; exact hX.1) (by rw [q0 17 (by decide)]; exact hX.2.1) (fun i h1 h2 => rfl) (fun i h1 h2 => qs i (by omega))
  · exact IM.go hI (q0 9 (by decide)) (by rw [q0 10 (by decide)]; exact hI.2.1) (Nat.le_refl _) hI.2.2.2.2.1 (qs 1 (by decide)) (qs 2 (by decide))
  · exact IX.go hY (q0 11 (by decide)) (q0 17 (by decide)) (fun i h1 h2 => qs i (by omega))
theorem off_thrown {B a d : Nat} {x : Int32} {σ τ : Mem} (hA : Off B σ τ a d) : Off B σ (mup τ 0 0 x) a d := by
  obtain ⟨hM, hX, hI, hY, h1, h2, h3⟩ := hA
  have qs : ∀ i, i ≠ 0 → (mup τ 0 0 x) i = τ i := fun i hi => mup_n _ _ _ hi
  have q0 : ∀ k, k ≠ 0 → (mup τ 0 0 x) 0 k = τ 0 k := fun k hk => mup_f _ _ _ _ hk
  refine ⟨?_, ?_, ?_, ?_, h1, by rw [q0 18 (by decide)]; exact h2, by rw [qs 8 (by decide)]; exact h3⟩
  · exact RM.go hM (by rw [q0 19 (by decide)]; exact hM.1) (by rw [q0 20 (by decide)]; exact hM.2.1) rfl (by rw [q0 10 (by decide)]; exact hM.2.2.2.1) rfl rfl rfl rfl rfl (fun i h1 h2 => qs i (by omega)) (q0 9 (by decide)) (q0 4 (by decide))
  · exact RX.go hX (by rw [q0 11 (by decide)]; exact hX.1) (by rw [q0 17 (by decide)]; exact hX.2.1) (fun i h1 h2 => rfl) (fun i h1 h2 => qs i (by omega))
  · exact IM.go hI (q0 9 (by decide)) (by rw [q0 10 (by decide)]; exact hI.2.1) (Nat.le_refl _) hI.2.2.2.2.1 (qs 1 (by decide)) (qs 2 (by decide))
  · exact IX.go hY (q0 11 (by decide)) (q0 17 (by decide)) (fun i h1 h2 => qs i (by omega))
theorem IM.mono {B C a d : Nat} {τ : Mem} (h : IM B τ a d) (hBC : B ≤ C) : IM C τ a d := by
  obtain ⟨a1, a2, a3, a4, a5, a6, a7⟩ := h
  exact ⟨a1, a2, a3, a4, by omega, fun p hp => (a6 p hp).mono hBC, a7.mono hBC⟩
theorem IX.mono {B C a b : Nat} {τ : Mem} (h : IX B τ a b) (hBC : B ≤ C) : IX C τ a b := by
  obtain ⟨a1, a2, a3, a4, a5, a6, a7⟩ := h
  refine ⟨a1, a2, by omega, a4, fun f hf => ?_, a6, a7⟩
  obtain ⟨z1, ⟨k, z2, z6⟩, z3, z4, z5⟩ := a5 f hf
  exact ⟨z1, ⟨k, by omega, z6⟩, z3, z4, z5.mono hBC⟩
theorem Al.mono {B C a b d : Nat} {σ τ : Mem} (h : Al B σ τ a b d) (hBC : B ≤ C) : Al C σ τ a b d := by
  obtain ⟨hM, hX, hI, hY, h1, h2, h3⟩ := h
  exact ⟨hM, hX, hI.mono hBC, hY.mono hBC, h1, h2, h3⟩
theorem Off.mono {B C a d : Nat} {σ τ : Mem} (h : Off B σ τ a d) (hBC : B ≤ C) : Off C σ τ a d := by
  obtain ⟨hM, hX, hI, hY, h1, h2, h3⟩ := h
  exact ⟨hM, hX, hI.mono hBC, hY.mono hBC, h1, h2, h3⟩
/-- the log's begin moves -/
theorem al_trim {B a b d m : Nat} {σ τ : Mem} (hA : Al B σ τ a b d) (h8 : m % 8 = 0) (hd : m ≤ d) (hb : m ≤ b) (hf : ∀ f, f < 8 → τ 11 f = -1 ∨ ∃ y : Nat, τ 11 f = nI y ∧ m ≤ y ∧ y < b ∧ y % 8 = 0) : Al B (mup σ 5 3 (nI m)) (mup τ 0 9 (nI m)) m b d := by
  obtain ⟨hM, hX, hI, hY, h1, h2, h3⟩ := hA
  have ks : ∀ i, i ≠ 5 → (mup σ 5 3 (nI m)) i = σ i := fun i hi => mup_n _ _ _ hi
  have k5 : ∀ k, k ≠ 3 → (mup σ 5 3 (nI m)) 5 k = σ 5 k := fun k hk => mup_f _ _ _ _ hk
  have qs : ∀ i, i ≠ 0 → (mup τ 0 9 (nI m)) i = τ i := fun i hi => mup_n _ _ _ hi
  have q0 : ∀ k, k ≠ 9 → (mup τ 0 9 (nI m)) 0 k = τ 0 k := fun k hk => mup_f _ _ _ _ hk
  refine ⟨?_, ?_, ?_, ?_, by rw [ks 1 (by decide)]; exact h1, by rw [q0 18 (by decide)]; exact h2, by rw [q0 21 (by decide)]; exact h3⟩
  · obtain ⟨m1, m2, m3, m4, m5, m6, m7, m8, m9, m10⟩ := hM
    refine ⟨by rw [ks 1 (by decide), q0 19 (by decide)]; exact m1, by rw [ks 1 (by decide), q0 20 (by decide)]; exact m2, by rw [mup_v, mup_v], by rw [k5 4 (by decide), q0 10 (by decide)]; exact m4, by rw [ks 3 (by decide), qs 1 (by decide)]; exact m5, by rw [ks 4 (by decide), qs 2 (by decide)]; exact m6, by rw [ks 7 (by decide), qs 5 (by decide)]; exact m7, ?_, ?_, by rw [ks 2 (by decide)]; exact m10⟩
    · unfold RT
      rw [ks 6 (by decide), qs 6 (by decide), qs 3 (by decide), qs 4 (by decide)]; exact m8
    · unfold RN
      rw [ks 2 (by decide), q0 4 (by decide)]; exact m9
  · exact RX.go hX (by rw [k5 5 (by decide), q0 11 (by decide)]; exact hX.1) (by rw [ks 0 (by decide), q0 17 (by decide)]; exact hX.2.1) (fun i h1 h2 => ks i (by omega)) (fun i h1 h2 => qs i (by omega))
  · obtain ⟨i1, i2, i3, i4, i5, i6, i7⟩ := hI
    exact ⟨mup_v _ _ _ _, by rw [q0 10 (by decide)]; exact i2, h8, hd, i5, by rw [qs 1 (by decide)]; exact i6, by rw [qs 2 (by decide)]; exact i7⟩
  · obtain ⟨y1, y2, y3, y4, y5, y6, y7⟩ := hY
    refine ⟨by rw [q0 11 (by decide)]; exact y1, hb, y3, by rw [q0 17 (by decide)]; exact y4, fun g hg => ?_, by rw [qs 8 (by decide)]; exact y6, by rw [qs 11 (by decide)]; exact y7⟩
    obtain ⟨z1, z2, z3, z4, z5⟩ := y5 g hg
    unfold FI
    rw [qs 7 (by decide), qs 8 (by decide), qs 9 (by decide), qs 10 (by decide), qs 11 (by decide)]
    refine ⟨z1, z2, z3, ?_, z5⟩
    rcases hf g hg with q | ⟨y, q1, q2, q3, q4⟩
    · exact Or.inl q
    · exact Or.inr ⟨y, q2, q3, q4, q1⟩
theorem give {σ : Mem} {a d x : Nat} (ha : σ 5 3 = nI a) (hd : σ 5 4 = nI d) (hax : a ≤ x) (had : a ≤ d - d % 8) (hB : d < 2 ^ 30) (hx : x < 2 ^ 30) : kGive σ (nI x) = (nI (min (d - d % 8) x - a), mup σ 5 3 (nI (min (d - d % 8) x))) := by
  have e1 : nI d - (nI d - nI d / nI 8 * nI 8) = nI (d - d % 8) := by
    rw [pk_rem (by omega) (by decide) (by decide), pk_sub (Nat.mod_le _ _)]
  have e2 : (if nI (d - d % 8) < nI x then nI (d - d % 8) else nI x) = nI (min (d - d % 8) x) := by
    by_cases c : d - d % 8 < x
    · rw [if_pos ((nI_ltI (by omega) (by omega)).mpr c), Nat.min_eq_left (by omega)]
    · rw [if_neg (fun q => c ((nI_ltI (by omega) (by omega)).mp q)), Nat.min_eq_right (by omega)]
  unfold kGive
  rw [ha, hd, e1, e2]
  generalize hm : min (d - d % 8) x = m at *
  have hma : a ≤ m := by omega
  rw [pk_sub hma]
  have e3 : (if nI 0 < nI (m - a) then nI (m - a) else nI 0) = nI (m - a) := by
    by_cases c : 0 < m - a
    · rw [if_pos ((nI_ltI (by decide) (by omega)).mpr c)]
    · rw [if_neg (fun q => c ((nI_ltI (by decide) (by omega)).mp q)), show m - a = 0 by omega]
  rw [e3, nI_add, show a + (m - a) = m by omega]
theorem trEnd {τ : Mem} {a d x : Nat} (ha : τ 0 9 = nI a) (hd : τ 0 10 = nI d) (hax : a ≤ x) (had : a ≤ d - d % 8) (hB : d < 2 ^ 30) (hx : x < 2 ^ 30) : qTrEnd τ (nI x) = (nI (min (d - d % 8) x - a), mup τ 0 9 (nI (min (d - d % 8) x))) := by
  have e1 : nI d - (nI d - nI d / nI 8 * nI 8) = nI (d - d % 8) := by
    rw [pk_rem (by omega) (by decide) (by decide), pk_sub (Nat.mod_le _ _)]
  unfold qTrEnd
  rw [ha, hd, e1]
  by_cases c : d - d % 8 ≤ x
  · rw [if_pos ((nI_leI (by omega) (by omega)).mpr c), Nat.min_eq_left c, pk_sub had]
  · rw [if_neg (fun q => c ((nI_leI (by omega) (by omega)).mp q)), Nat.min_eq_right (by omega), pk_sub hax]
theorem cnt_eq {B a b d : Nat} {σ τ : Mem} (hA : Al B σ τ a b d) (hB : B < 2 ^ 30) : (σ 5 5 - σ 5 3) / nI 8 = nI ((b - a) / 8) ∧ kCnt σ = (b - a) / 8 := by
  have hb := hA.2.2.2.1.2.2.1
  have e : (σ 5 5 - σ 5 3) / nI 8 = nI ((b - a) / 8) := by
    rw [hA.2.1.1, hA.1.2.2.1, hA.2.2.2.1.1, hA.2.2.1.1, pk_sub hA.2.2.2.1.2.1, pk_div (by omega) (by decide) (by decide)]
  exact ⟨e, by unfold kCnt; rw [e, nI_clamp (by omega)]⟩
theorem tr {B a b d : Nat} {σ τ : Mem} (hA : Al B σ τ a b d) (hb : b % 8 = 0) (hB : B < 2 ^ 30) :
    ∃ r m, xTrim σ = (0, r, mup σ 5 3 (nI m)) ∧ qTrim τ a b = (r, mup (mup τ 0 0 (nI 0)) 0 9 (nI m)) ∧ Al B (mup σ 5 3 (nI m)) (mup (mup τ 0 0 (nI 0)) 0 9 (nI m)) m b d := by
  have h0 := al_thrown (x := nI 0) hA
  obtain ⟨hM, hX, hI, hY, h1, h2, h3⟩ := h0
  have hA0 : Al B σ (mup τ 0 0 (nI 0)) a b d := al_thrown hA
  have hk := kth_eq hB hX hY (nI 0)
  have hdB := hI.2.2.2.2.1
  have hbB := hY.2.2.1
  have hab := hY.2.1
  have had := hI.2.2.2.1
  have ha8 := hI.2.2.1
  have ha : σ 5 3 = nI a := by rw [hM.2.2.1]; exact hI.1
  have hd : σ 5 4 = nI d := by rw [hM.2.2.2.1]; exact hI.2.1
  have e18 : τ 0 18 = 0 := hA.2.2.2.2.2.1
  have fin : ∀ x : Nat, a ≤ x → x ≤ b → x % 8 = 0 → (∀ f, f < 8 → (mup τ 0 0 (nI 0)) 11 f = -1 ∨ ∃ y : Nat, (mup τ 0 0 (nI 0)) 11 f = nI y ∧ x ≤ y ∧ y < b ∧ y % 8 = 0) →
      kGive σ (nI x) = (nI (min (d - d % 8) x - a), mup σ 5 3 (nI (min (d - d % 8) x))) ∧ qTrEnd (mup τ 0 0 (nI 0)) (nI x) = (nI (min (d - d % 8) x - a), mup (mup τ 0 0 (nI 0)) 0 9 (nI (min (d - d % 8) x))) ∧ Al B (mup σ 5 3 (nI (min (d - d % 8) x))) (mup (mup τ 0 0 (nI 0)) 0 9 (nI (min (d - d % 8) x))) (min (d - d % 8) x) b d := by
    intro x hx1 hx2 hx3 hx4
    refine ⟨give ha hd hx1 (by omega) (by omega) (by omega), trEnd hI.1 hI.2.1 hx1 (by omega) (by omega) (by omega), al_trim hA0 (by omega) (by omega) (by omega) (fun f hf => ?_)⟩
    rcases hx4 f hf with q | ⟨y, q1, q2, q3, q4⟩
    · exact Or.inl q
    · exact Or.inr ⟨y, q1, by omega, q3, q4⟩
  unfold xTrim qTrim
  rw [if_neg (show ¬ σ 1 0 = 0 by rw [h1]; decide), if_pos e18, hk]
  rcases qKth_spec (mup τ 0 0 (nI 0)) (nI 0) 8 0 (-1) rfl with ⟨k1, k2⟩ | ⟨f, -, k2, k3, k4, k5⟩
  · rw [if_pos k1, if_pos k1, (cnt_eq hA hB).2, last_eq hM.2.2.2.2.2.2.2.1 ha _ (by omega), show (b + 7 - a) / 8 = (b - a) / 8 by omega]
    obtain ⟨y, y1, y2, y3, y4⟩ := qTr_val (mup τ 0 0 (nI 0)) a ha8 ((b - a) / 8)
    rw [y1]
    obtain ⟨f1, f2, f3⟩ := fin y y2 (by omega) y3 (fun f hf => Or.inl (by
      have := kth_none (fun g hg => k2 g (Nat.zero_le _) hg) f hf
      rcases ch_or hB hbB (hY.2.2.2.2.1 f hf) with ⟨q, -⟩ | ⟨-, q, -, -⟩
      · exact q
      · exact absurd this q))
    rw [f1, f2]
    exact ⟨_, _, rfl, rfl, f3⟩
  · rw [if_neg (by rw [k3]; exact n1 (by omega)), if_neg (by rw [k3]; exact n1 (by omega)), k3, nI_clamp (by omega), (hX.2.2 f k2).2.2.2.1]
    rcases (hY.2.2.2.2.1 f k2).2.2.2.1 with q | ⟨x, x1, x2, x3, x4⟩
    · exact absurd (by rw [q]; exact m1lt) k4
    · rw [x4]
      obtain ⟨f1, f2, f3⟩ := fin x x1 (by omega) x3 (fun g hg => by
        rcases (hY.2.2.2.2.1 g hg).2.2.2.1 with q | ⟨y, y1, y2, y3, y4⟩
        · exact Or.inl q
        · refine Or.inr ⟨y, y4, ?_, y2, y3⟩
          have := kth_min k2 k4 k5 g hg (by rw [y4]; exact nI_pos (by omega))
          rw [x4, y4] at this
          exact (nI_leI (by omega) (by omega)).mp this)
      rw [f1, f2]
      exact ⟨_, _, rfl, rfl, f3⟩
