/-! Doing again, and start -/
theorem mup_slots (σ : Mem) (i : Nat) {k l : Nat} (h : k ≠ l) (v w : Int32) : mup (mup σ i k v) i l w = mup (mup σ i l w) i k v := by
  funext x y
  by_cases hx : x = i
  · subst hx
    by_cases hl : y = l
    · subst hl
      rw [mup_v, mup_f _ _ _ _ (fun q => h q.symm), mup_v]
    · rw [mup_f _ _ _ _ hl]
      by_cases hk : y = k
      · subst hk; rw [mup_v, mup_v]
      · rw [mup_f _ _ _ _ hk, mup_f _ _ _ _ hk, mup_f _ _ _ _ hl]
  · rw [mup_n _ _ _ hx, mup_n _ _ _ hx, mup_n _ _ _ hx, mup_n _ _ _ hx]
theorem kApply_pins (σ : Mem) (f i : Nat) (x v y : Int32) : mup (kApply σ f x i v) (f + 9) 2 y = kApply (mup σ (f + 9) 2 y) f x i v := by
  have e : mup (mup (mup σ (f + 9) 2 y) (f + 17) i v) (f + 17) 0 (x + nI 1) = mup (mup (mup σ (f + 17) i v) (f + 17) 0 (x + nI 1)) (f + 9) 2 y := by
    rw [mup_comm σ (show f + 9 ≠ f + 17 by omega), mup_comm (mup σ (f + 17) i v) (show f + 9 ≠ f + 17 by omega)]
  unfold kApply
  rw [e, mup_f (mup (mup σ (f + 17) i v) (f + 17) 0 (x + nI 1)) _ _ _ (show 4 ≠ 2 by decide)]
  split
  · rw [mup_slots _ _ (show 4 ≠ 2 by decide)]
  · rfl
theorem kApply_2 (σ : Mem) (f i : Nat) (x v : Int32) : (kApply σ f x i v) (f + 9) 2 = σ (f + 9) 2 := by
  unfold kApply
  split
  · rw [mup_f _ _ _ _ (by decide), mup_n _ _ _ (by omega), mup_n _ _ _ (by omega)]
  · rw [mup_n _ _ _ (by omega), mup_n _ _ _ (by omega)]
/-- what the calls stand on -/
theorem ix_ok {B a b : Nat} {σ τ : Mem} (hX : RX σ τ) (hY : IX B τ a b) (hB : B < 2 ^ 30) : nat0 8 (σ 0 4) ∧ pgOK σ ∧ nat0 8 (τ 0 17) ∧ rOK τ := by
  refine ⟨by rw [hX.2.1]; exact hY.2.2.2.1, fun g hg hc => ?_, hY.2.2.2.1, fun g hg hc => ?_⟩
  · rcases ch_or hB hY.2.2.1 (hY.2.2.2.2.1 g hg) with ⟨h1, -⟩ | ⟨-, -, -, h4⟩
    · exact absurd ((kCh_0 σ g).mpr (by rw [(hX.2.2 g hg).2.2.2.1]; exact h1)) hc
    · rw [(hX.2.2 g hg).1]; exact h4
  · rcases ch_or hB hY.2.2.1 (hY.2.2.2.2.1 g hg) with ⟨-, h1⟩ | ⟨-, -, -, h4⟩
    · exact absurd h1 hc
    · exact h4
theorem i32_pm (n : Nat) : nI (n + 1) - nI 1 = nI n := pk_sub (show 1 ≤ n + 1 by omega)
/-- how it stands within the loop of start, at serial x -/
def Lp (B : Nat) (σ τ : Mem) (a b d x : Nat) : Prop := Al B σ τ a b d ∧ τ 0 4 = -1 ∧ (∀ f, f < 8 → τ 9 f = 0) ∧ ∀ f, f < 8 → τ 11 f = -1 ∨ ∃ y : Nat, y < x ∧ τ 11 f = nI y
theorem ag {B a b d x : Nat} {σ τ : Mem} (hL : Lp B σ τ a b d x) (hax : a ≤ x) (hxb : x + 8 ≤ b) (hx8 : x % 8 = 0) (hB : B < 2 ^ 30) :
    sOK σ (nI x) ∧
    ((¬ τ 6 (x / 8 % 8192) = 0 ∧ kAgain σ (nI x) = (nI 0, σ)) ∨
     (τ 6 (x / 8 % 8192) = 0 ∧ aOK τ x ∧ (qAgain τ x).2 0 0 = τ 0 0 ∧
      (((kAgain σ (nI x)).1 = -1 ∧ (qAgain τ x).1 = 0 ∧ ∃ d', Off B (kAgain σ (nI x)).2 (qAgain τ x).2 a d' ∧ ¬ (qAgain τ x).2 0 21 = 0) ∨
       (((kAgain σ (nI x)).1 = nI 0 ∧ (qAgain τ x).1 = 0 ∨ (kAgain σ (nI x)).1 = nI 1 ∧ ¬ (qAgain τ x).1 = 0) ∧ ∃ d', Lp B (kAgain σ (nI x)).2 (qAgain τ x).2 a b d' (x + 8))))) := by
  obtain ⟨hA, ht, hpin, hfst⟩ := hL
  have hbB : b ≤ B := hA.2.2.2.1.2.2.1
  obtain ⟨o1, o2, o3, o4⟩ := ix_ok hA.2.1 hA.2.2.2.1 hB
  have hT := hA.1.2.2.2.2.2.2.2.1
  have hsl : kSlot (nI x) = x / 8 % 8192 := kSlot_nI (by omega)
  have hci := isCh_iff hT (x := x) (by omega)
  have hrt := hT (x / 8 % 8192)
  by_cases c6 : τ 6 (x / 8 % 8192) = 0
  · rcases hrt with ⟨-, h2⟩ | ⟨-, p, w, hp, hw, e3, e4, e6⟩
    · exact absurd c6 h2
    have hk : ¬ kIsCh σ (nI x) = 0 := fun q => (hci.mp q) c6
    have n6 : (σ 6 (kSlot (nI x))).toNatClampNeg = p * 64 + w := by rw [hsl, e6, nI_clamp (by omega)]
    have n3 : (τ 3 (x / 8 % 8192)).toNatClampNeg = p := by rw [e3, nI_clamp (by omega)]
    have n4 : (τ 4 (x / 8 % 8192)).toNatClampNeg = w := by rw [e4, nI_clamp (by omega)]
    refine ⟨⟨o1, o2, fun _ => by rw [hsl, e6]; exact nat0_nI (by omega) (by decide)⟩, Or.inr ⟨c6, ⟨o3, o4, by rw [e3]; exact nat0_nI hp (by decide), by rw [e4]; exact nat0_nI hw (by decide)⟩, ?_⟩⟩
    unfold kAgain qAgain
    rw [if_neg hk, n6, n3, n4, show (p * 64 + w) / 64 = p by omega, show (p * 64 + w) % 64 = w by omega, hsl]
    have hP : PR B τ := fun f hf => ⟨0, by omega, hpin f hf⟩
    have hq0 := qFix_0 τ p
    rcases pn hA hp ht hB hP with ⟨h1, h2, h3⟩ | ⟨f, d', hf, hd', h1, h2, h3, h4⟩
    · rw [if_pos h1, if_pos h2]
      refine ⟨hq0, Or.inl ⟨rfl, rfl, ?_⟩⟩
      rcases h3 with ⟨d', -, h4, h5⟩ | ⟨-, -, h5⟩
      · exact ⟨d', h4, h5⟩
      · exact absurd (hpin 0 (by decide)) (h5 0 (by decide))
    · have hk1 : ¬ (kPin σ p).1 = -1 := by rw [h1]; exact n1 (by omega)
      have hq1 : ¬ (qFix τ p).1 = -1 := by rw [h2]; exact n1 (by omega)
      rw [if_neg hk1, if_neg hq1, h1, h2, nI_clamp (show f < 2 ^ 31 by omega)]
      generalize (kPin σ p).2 = σ1 at *
      generalize (qFix τ p).2 = τ1 at *
      obtain ⟨g1, g2, g3, g4, g5, g6, g7⟩ := h4
      obtain ⟨r1, r2, r3, r4, r5⟩ := h3.2.1.2.2 f hf
      have p1 : τ1 9 f = nI 1 := by rw [g2, hpin f hf]; decide
      have p2 : σ1 (f + 9) 2 = nI 1 := by rw [r2, p1]
      have z0 : nI 1 - nI 1 = nI 0 := by decide
      have e7 : σ1 (f + 17) 0 = τ1 7 (64 * f) := r5 0 (by decide)
      have e5 : σ1 7 = τ1 5 := h3.1.2.2.2.2.2.2.1
      rw [kApply_2, p1, p2, z0, kApply_pins, e7, e5, mup_n τ1 _ _ (show 7 ≠ 9 by decide), mup_n τ1 _ _ (show 5 ≠ 9 by decide)]
      have hU := al_pins (k := 0) h3 hf (Nat.zero_le _) (Or.inl rfl)
      have q0 : ∀ y, (mup τ1 9 f y) 0 = τ1 0 := fun y => mup_n _ _ _ (by decide)
      have q11 : ∀ y, (mup τ1 9 f y) 11 = τ1 11 := fun y => mup_n _ _ _ (by decide)
      have q8 : ∀ y, (mup τ1 9 f y) 8 = τ1 8 := fun y => mup_n _ _ _ (by decide)
      have q9 : ∀ g, g < 8 → (mup τ1 9 f (nI 0)) 9 g = 0 := fun g hg => by
        by_cases hgf : g = f
        · subst hgf; rw [mup_v]; rfl
        · rw [mup_f _ _ _ _ hgf, g3 g hgf]; exact hpin g hg
      have hf1 : ∀ g, g < 8 → τ1 11 g = -1 ∨ ∃ y : Nat, y < x ∧ τ1 11 g = nI y := fun g hg => by
        rcases g4 g with q | q
        · rw [q]; exact hfst g hg
        · exact Or.inl q
      have hno : ∀ g, g < 8 → ¬ τ1 11 g = nI x := fun g hg q => by
        rcases hf1 g hg with z | ⟨y, z1, z2⟩
        · rw [z] at q; exact absurd q.symm (n1 (by omega))
        · rw [z2] at q
          have := (nI_eq (by omega) (by omega)).mp q
          omega
      generalize hm : τ1 7 (64 * f) = m
      by_cases c : m ≤ nI x
      · rw [if_pos c, if_neg (Int32.not_lt.mpr c)]
        have hp8 : nat0 256 ((mup τ1 9 f (nI 0)) 8 f) := by rw [q8, g1]; exact nat0_nI hp (by decide)
        obtain ⟨a1, a2, a3, a4, a5⟩ := al_apply (v := τ1 5 (x / 8 % 8192)) hU hf hw hax (by omega) hx8 (by omega) hB hp8 (fun g hg hgf => by rw [q11]; exact hno g hg)
        refine ⟨by dsimp only; rw [a2 0 (by decide) (by decide), q0]; exact hq0, Or.inr ⟨Or.inr ⟨rfl, by dsimp only; decide⟩, d', a1, ?_, ?_, ?_⟩⟩
        · dsimp only; rw [a2 0 (by decide) (by decide), q0]; exact g7
        · intro g hg; dsimp only; rw [a2 9 (by decide) (by decide)]; exact q9 g hg
        · intro g hg
          dsimp only
          by_cases hgf : g = f
          · subst hgf
            rcases a4 with q | q
            · rw [q, q11]
              rcases hf1 g hg with z | ⟨y, z1, z2⟩
              · exact Or.inl z
              · exact Or.inr ⟨y, by omega, z2⟩
            · exact Or.inr ⟨x, by omega, q⟩
          · rw [a3 g hgf, q11]
            rcases hf1 g hg with z | ⟨y, z1, z2⟩
            · exact Or.inl z
            · exact Or.inr ⟨y, by omega, z2⟩
      · rw [if_neg c, if_pos (Int32.not_le.mp c)]
        refine ⟨by dsimp only; rw [q0]; exact hq0, Or.inr ⟨Or.inl ⟨rfl, rfl⟩, d', hU, by dsimp only; rw [q0]; exact g7, q9, fun g hg => ?_⟩⟩
        dsimp only
        rw [q11]
        rcases hf1 g hg with z | ⟨y, z1, z2⟩
        · exact Or.inl z
        · exact Or.inr ⟨y, by omega, z2⟩
  · have hk : kIsCh σ (nI x) = 0 := hci.mpr c6
    refine ⟨⟨o1, o2, fun q => absurd hk q⟩, Or.inl ⟨c6, ?_⟩⟩
    unfold kAgain
    rw [if_pos hk]
theorem qLoop_s (n x : Nat) (k : Int32) (τ : Mem) : qLoop (n + 1) x k τ = if τ 0 11 ≤ nI x then (if τ 0 21 = 0 then (k, τ) else (-1, τ)) else if τ 0 21 = 0 then
      (if τ 6 (x / 8 % 8192) = 0 then (if (qAgain τ x).1 = 0 then qLoop n (x + 8) k (qAgain τ x).2 else qLoop n (x + 8) (k + nI 1) (qAgain τ x).2) else qLoop n (x + 8) k τ)
      else (if τ 0 21 = 0 then (k, τ) else (-1, τ)) := rfl
theorem qLoopOK_s (n x : Nat) (τ : Mem) : qLoopOK (n + 1) x τ = (¬ τ 0 11 ≤ nI x → τ 0 21 = 0 → x < 2 ^ 30 ∧ (¬ τ 6 (x / 8 % 8192) = 0 → qLoopOK n (x + 8) τ) ∧ (τ 6 (x / 8 % 8192) = 0 → aOK τ x ∧ qLoopOK n (x + 8) (qAgain τ x).2)) := rfl
theorem kLoop_s (n k : Nat) (d : Int32) (τ : Mem) : kLoop (n + 1) k d τ = if (kAgain τ (τ 5 3 + nI (k * 8))).1 = -1 then (-1, (kAgain τ (τ 5 3 + nI (k * 8))).2) else kLoop n (k + 1) (d + (kAgain τ (τ 5 3 + nI (k * 8))).1) (kAgain τ (τ 5 3 + nI (k * 8))).2 := rfl
theorem kLoopOK_s (n k : Nat) (τ : Mem) : kLoopOK (n + 1) k τ = (sOK τ (τ 5 3 + nI (k * 8)) ∧ (¬ (kAgain τ (τ 5 3 + nI (k * 8))).1 = -1 → kLoopOK n (k + 1) (kAgain τ (τ 5 3 + nI (k * 8))).2)) := rfl
theorem qLoop_fail {n x : Nat} {k : Int32} {τ : Mem} (h : ¬ τ 0 21 = 0) : qLoop (n + 1) x k τ = (-1, τ) := by
  rw [qLoop_s, if_neg h, if_neg h]
  split <;> rfl
theorem qLoopOK_fail {n x : Nat} {τ : Mem} (h : ¬ τ 0 21 = 0) : qLoopOK (n + 1) x τ := by
  rw [qLoopOK_s]
  exact fun _ q => absurd q h
theorem lp {B a b : Nat} (ha8 : a % 8 = 0) (hB : B < 2 ^ 30) : ∀ (n k d : Nat) (c : Int32) (σ τ : Mem), Lp B σ τ a b d (a + k * 8) → a + k * 8 + n * 8 = b →
    kLoopOK n k σ ∧ qLoopOK (n + 1) (a + k * 8) τ ∧ (kLoop n k c σ).1 = (qLoop (n + 1) (a + k * 8) c τ).1 ∧ (qLoop (n + 1) (a + k * 8) c τ).2 0 0 = τ 0 0 ∧
    ((∃ d', Off B (kLoop n k c σ).2 (qLoop (n + 1) (a + k * 8) c τ).2 a d') ∨ ∃ d', Al B (kLoop n k c σ).2 (qLoop (n + 1) (a + k * 8) c τ).2 a b d' ∧ (qLoop (n + 1) (a + k * 8) c τ).2 0 4 = -1)
  | 0, k, d, c, σ, τ, hL, hn => by
    have h11 : τ 0 11 = nI b := hL.1.2.2.2.1.1
    have hbB : b ≤ B := hL.1.2.2.2.1.2.2.1
    have hle : τ 0 11 ≤ nI (a + k * 8) := by rw [h11]; exact (nI_leI (by omega) (by omega)).mpr (by omega)
    have h21 : τ 0 21 = 0 := hL.1.2.2.2.2.2.2
    rw [qLoopOK_s, qLoop_s, if_pos hle, if_pos h21]
    exact ⟨trivial, fun q => absurd hle q, rfl, rfl, Or.inr ⟨d, hL.1, hL.2.1⟩⟩
  | n + 1, k, d, c, σ, τ, hL, hn => by
    have h11 : τ 0 11 = nI b := hL.1.2.2.2.1.1
    have hbB : b ≤ B := hL.1.2.2.2.1.2.2.1
    have hle : ¬ τ 0 11 ≤ nI (a + k * 8) := by rw [h11]; exact fun q => absurd ((nI_leI (by omega) (by omega)).mp q) (by omega)
    have h21 : τ 0 21 = 0 := hL.1.2.2.2.2.2.2
    have h53 : σ 5 3 + nI (k * 8) = nI (a + k * 8) := by rw [hL.1.1.2.2.1, hL.1.2.2.1.1, nI_add]
    have e8 : a + k * 8 + 8 = a + (k + 1) * 8 := by omega
    rw [qLoopOK_s, qLoop_s (n + 1), if_neg hle, if_pos h21, kLoop_s, kLoopOK_s, h53]
    obtain ⟨s1, s2⟩ := ag hL (by omega) (by omega) (by omega) hB
    rcases s2 with ⟨c6, k1⟩ | ⟨c6, oA, q0, s3⟩
    · rw [k1, if_neg c6, if_neg (show ¬ (nI 0, σ).1 = -1 from (by decide : ¬ nI 0 = -1))]
      have hL' : Lp B σ τ a b d (a + (k + 1) * 8) := ⟨hL.1, hL.2.1, hL.2.2.1, fun f hf => by
        rcases hL.2.2.2 f hf with z | ⟨y, z1, z2⟩
        · exact Or.inl z
        · exact Or.inr ⟨y, by omega, z2⟩⟩
      have e0 : c + (nI 0, σ).1 = c := by dsimp only; rw [nI_0]; simp
      rw [e0, e8]
      obtain ⟨i1, i2, i3, i4, i5⟩ := lp ha8 hB n (k + 1) d c σ τ hL' (by omega)
      exact ⟨⟨s1, fun _ => i1⟩, fun _ _ => ⟨by omega, fun _ => i2, fun q => absurd q c6⟩, i3, i4, i5⟩
    · rw [if_pos c6, e8]
      rcases s3 with ⟨k1, q1, d', k2, q2⟩ | ⟨hv, d', hL'⟩
      · rw [if_pos k1, if_pos q1, qLoop_fail q2]
        exact ⟨⟨s1, fun q => absurd k1 q⟩, fun _ _ => ⟨by omega, fun q => absurd c6 q, fun _ => ⟨oA, qLoopOK_fail q2⟩⟩, rfl, q0, Or.inl ⟨d', k2⟩⟩
      · rw [e8] at hL'
        rcases hv with ⟨k1, q1⟩ | ⟨k1, q1⟩
        · rw [if_pos q1, if_neg (by rw [k1]; decide), k1]
          have e0 : c + nI 0 = c := by rw [nI_0]; simp
          rw [e0]
          obtain ⟨i1, i2, i3, i4, i5⟩ := lp ha8 hB n (k + 1) d' c _ _ hL' (by omega)
          exact ⟨⟨s1, fun _ => i1⟩, fun _ _ => ⟨by omega, fun q => absurd c6 q, fun _ => ⟨oA, i2⟩⟩, i3, by rw [i4]; exact q0, i5⟩
        · rw [if_neg q1, if_neg (by rw [k1]; decide), k1]
          obtain ⟨i1, i2, i3, i4, i5⟩ := lp ha8 hB n (k + 1) d' (c + nI 1) _ _ hL' (by omega)
          exact ⟨⟨s1, fun _ => i1⟩, fun _ _ => ⟨by omega, fun q => absurd c6 q, fun _ => ⟨oA, i2⟩⟩, i3, by rw [i4]; exact q0, i5⟩
