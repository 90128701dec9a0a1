/-! The reference's write leaves 'thrown' as it was -/
theorem qCW_0 (τ : Mem) : (qCW τ).2 0 0 = τ 0 0 := qCW_s τ (by decide) (by decide) (by decide) (by decide) (by decide) (by decide)
theorem qFT_0 (τ : Mem) (x : Int32) : (qFT τ x).2 0 0 = τ 0 0 := qFT_s τ x (by decide) (by decide) (by decide) (by decide) (by decide) (by decide) (by decide)
theorem qWO_0 (τ : Mem) (pg : Nat) : (qWO τ pg) 0 0 = τ 0 0 := by
  have hT : ∀ (n k : Nat) (t : Mem), qTO pg n k t 0 0 = t 0 0 := fun n k t => by rw [qTO_n pg n k t (by decide)]
  have hM : ∀ (t : Mem) (v : Int32), (mup t 0 4 v) 0 0 = t 0 0 := fun t v => mup_f _ _ _ _ (by decide)
  unfold qWO
  split
  · simp only [qCW_0]
  · split
    · simp only [qCW_0, hT, hM]
    · simp only [qCW_0, hT, hM]
theorem if_00 {c : Prop} [Decidable c] {x y : Mem} {z : Int32} (h1 : x 0 0 = z) (h2 : y 0 0 = z) : (if c then x else y) 0 0 = z := by
  split <;> assumption
theorem qWr_0 (σ : Mem) (f : Nat) : (qWr σ f) 0 0 = σ 0 0 := by
  have hT : ∀ (n k : Nat) (t : Mem), qTS f n k t 0 0 = t 0 0 := fun n k t => by rw [qTS_n f n k t (by decide)]
  have hM : ∀ (t : Mem) (v : Int32), (mup t 0 3 v) 0 0 = t 0 0 := fun t v => mup_f _ _ _ _ (by decide)
  have hN : ∀ (t : Mem) (v : Int32), (mup t 11 f v) 0 0 = t 0 0 := fun t v => by rw [mup_n _ _ _ (by decide)]
  unfold qWr
  refine if_00 ?_ ?_
  · refine if_00 ?_ ?_
    · refine if_00 ?_ ?_
      · refine if_00 ?_ ?_
        · show (mup (qWO ((qCW ((qCW ((qFT σ (((σ 7 (64 * f)) + (nI 8)) - (nI 1))).2)).2)).2) ((σ 8 f).toNatClampNeg)) 11 f ((-1))) 0 0 = σ 0 0
          simp only [qCW_0, qFT_0, qWO_0, hT, hM, hN]
        · show ((qWO ((qCW ((qCW ((qFT σ (((σ 7 (64 * f)) + (nI 8)) - (nI 1))).2)).2)).2) ((σ 8 f).toNatClampNeg))) 0 0 = σ 0 0
          simp only [qCW_0, qFT_0, qWO_0, hT, hM, hN]
      · refine if_00 ?_ ?_
        · show (mup ((qCW ((qCW ((qFT σ (((σ 7 (64 * f)) + (nI 8)) - (nI 1))).2)).2)).2) 11 f ((-1))) 0 0 = σ 0 0
          simp only [qCW_0, qFT_0, qWO_0, hT, hM, hN]
        · show (((qCW ((qCW ((qFT σ (((σ 7 (64 * f)) + (nI 8)) - (nI 1))).2)).2)).2)) 0 0 = σ 0 0
          simp only [qCW_0, qFT_0, qWO_0, hT, hM, hN]
    · refine if_00 ?_ ?_
      · refine if_00 ?_ ?_
        · show (mup (qWO (mup ((qCW ((qCW ((qFT σ (((σ 7 (64 * f)) + (nI 8)) - (nI 1))).2)).2)).2) 0 3 (((qCW ((qCW ((qFT σ (((σ 7 (64 * f)) + (nI 8)) - (nI 1))).2)).2)).2) 8 f)) ((σ 8 f).toNatClampNeg)) 11 f ((-1))) 0 0 = σ 0 0
          simp only [qCW_0, qFT_0, qWO_0, hT, hM, hN]
        · show ((qWO (mup ((qCW ((qCW ((qFT σ (((σ 7 (64 * f)) + (nI 8)) - (nI 1))).2)).2)).2) 0 3 (((qCW ((qCW ((qFT σ (((σ 7 (64 * f)) + (nI 8)) - (nI 1))).2)).2)).2) 8 f)) ((σ 8 f).toNatClampNeg))) 0 0 = σ 0 0
          simp only [qCW_0, qFT_0, qWO_0, hT, hM, hN]
      · refine if_00 ?_ ?_
        · show (mup (mup ((qCW ((qCW ((qFT σ (((σ 7 (64 * f)) + (nI 8)) - (nI 1))).2)).2)).2) 0 3 (((qCW ((qCW ((qFT σ (((σ 7 (64 * f)) + (nI 8)) - (nI 1))).2)).2)).2) 8 f)) 11 f ((-1))) 0 0 = σ 0 0
          simp only [qCW_0, qFT_0, qWO_0, hT, hM, hN]
        · show (mup ((qCW ((qCW ((qFT σ (((σ 7 (64 * f)) + (nI 8)) - (nI 1))).2)).2)).2) 0 3 (((qCW ((qCW ((qFT σ (((σ 7 (64 * f)) + (nI 8)) - (nI 1))).2)).2)).2) 8 f)) 0 0 = σ 0 0
          simp only [qCW_0, qFT_0, qWO_0, hT, hM, hN]
  · refine if_00 ?_ ?_
    · refine if_00 ?_ ?_
      · refine if_00 ?_ ?_
        · refine if_00 ?_ ?_
          · show (mup (qWO ((qCW ((qCW (qTS f 32 (0 * 32) ((qCW ((qFT σ (((σ 7 (64 * f)) + (nI 8)) - (nI 1))).2)).2))).2)).2) ((σ 8 f).toNatClampNeg)) 11 f ((-1))) 0 0 = σ 0 0
            simp only [qCW_0, qFT_0, qWO_0, hT, hM, hN]
          · show ((qWO ((qCW ((qCW (qTS f 32 (0 * 32) ((qCW ((qFT σ (((σ 7 (64 * f)) + (nI 8)) - (nI 1))).2)).2))).2)).2) ((σ 8 f).toNatClampNeg))) 0 0 = σ 0 0
            simp only [qCW_0, qFT_0, qWO_0, hT, hM, hN]
        · refine if_00 ?_ ?_
          · show (mup ((qCW ((qCW (qTS f 32 (0 * 32) ((qCW ((qFT σ (((σ 7 (64 * f)) + (nI 8)) - (nI 1))).2)).2))).2)).2) 11 f ((-1))) 0 0 = σ 0 0
            simp only [qCW_0, qFT_0, qWO_0, hT, hM, hN]
          · show (((qCW ((qCW (qTS f 32 (0 * 32) ((qCW ((qFT σ (((σ 7 (64 * f)) + (nI 8)) - (nI 1))).2)).2))).2)).2)) 0 0 = σ 0 0
            simp only [qCW_0, qFT_0, qWO_0, hT, hM, hN]
      · refine if_00 ?_ ?_
        · refine if_00 ?_ ?_
          · show (mup (qWO (mup ((qCW ((qCW (qTS f 32 (0 * 32) ((qCW ((qFT σ (((σ 7 (64 * f)) + (nI 8)) - (nI 1))).2)).2))).2)).2) 0 3 (((qCW ((qCW (qTS f 32 (0 * 32) ((qCW ((qFT σ (((σ 7 (64 * f)) + (nI 8)) - (nI 1))).2)).2))).2)).2) 8 f)) ((σ 8 f).toNatClampNeg)) 11 f ((-1))) 0 0 = σ 0 0
            simp only [qCW_0, qFT_0, qWO_0, hT, hM, hN]
          · show ((qWO (mup ((qCW ((qCW (qTS f 32 (0 * 32) ((qCW ((qFT σ (((σ 7 (64 * f)) + (nI 8)) - (nI 1))).2)).2))).2)).2) 0 3 (((qCW ((qCW (qTS f 32 (0 * 32) ((qCW ((qFT σ (((σ 7 (64 * f)) + (nI 8)) - (nI 1))).2)).2))).2)).2) 8 f)) ((σ 8 f).toNatClampNeg))) 0 0 = σ 0 0
            simp only [qCW_0, qFT_0, qWO_0, hT, hM, hN]
        · refine if_00 ?_ ?_
          · show (mup (mup ((qCW ((qCW (qTS f 32 (0 * 32) ((qCW ((qFT σ (((σ 7 (64 * f)) + (nI 8)) - (nI 1))).2)).2))).2)).2) 0 3 (((qCW ((qCW (qTS f 32 (0 * 32) ((qCW ((qFT σ (((σ 7 (64 * f)) + (nI 8)) - (nI 1))).2)).2))).2)).2) 8 f)) 11 f ((-1))) 0 0 = σ 0 0
            simp only [qCW_0, qFT_0, qWO_0, hT, hM, hN]
          · show (mup ((qCW ((qCW (qTS f 32 (0 * 32) ((qCW ((qFT σ (((σ 7 (64 * f)) + (nI 8)) - (nI 1))).2)).2))).2)).2) 0 3 (((qCW ((qCW (qTS f 32 (0 * 32) ((qCW ((qFT σ (((σ 7 (64 * f)) + (nI 8)) - (nI 1))).2)).2))).2)).2) 8 f)) 0 0 = σ 0 0
            simp only [qCW_0, qFT_0, qWO_0, hT, hM, hN]
    · refine if_00 ?_ ?_
      · refine if_00 ?_ ?_
        · refine if_00 ?_ ?_
          · show (mup (qWO ((qCW (qTS f 32 (1 * 32) ((qCW (qTS f 32 (0 * 32) ((qCW ((qFT σ (((σ 7 (64 * f)) + (nI 8)) - (nI 1))).2)).2))).2))).2) ((σ 8 f).toNatClampNeg)) 11 f ((-1))) 0 0 = σ 0 0
            simp only [qCW_0, qFT_0, qWO_0, hT, hM, hN]
          · show ((qWO ((qCW (qTS f 32 (1 * 32) ((qCW (qTS f 32 (0 * 32) ((qCW ((qFT σ (((σ 7 (64 * f)) + (nI 8)) - (nI 1))).2)).2))).2))).2) ((σ 8 f).toNatClampNeg))) 0 0 = σ 0 0
            simp only [qCW_0, qFT_0, qWO_0, hT, hM, hN]
        · refine if_00 ?_ ?_
          · show (mup ((qCW (qTS f 32 (1 * 32) ((qCW (qTS f 32 (0 * 32) ((qCW ((qFT σ (((σ 7 (64 * f)) + (nI 8)) - (nI 1))).2)).2))).2))).2) 11 f ((-1))) 0 0 = σ 0 0
            simp only [qCW_0, qFT_0, qWO_0, hT, hM, hN]
          · show (((qCW (qTS f 32 (1 * 32) ((qCW (qTS f 32 (0 * 32) ((qCW ((qFT σ (((σ 7 (64 * f)) + (nI 8)) - (nI 1))).2)).2))).2))).2)) 0 0 = σ 0 0
            simp only [qCW_0, qFT_0, qWO_0, hT, hM, hN]
      · refine if_00 ?_ ?_
        · refine if_00 ?_ ?_
          · show (mup (qWO (mup ((qCW (qTS f 32 (1 * 32) ((qCW (qTS f 32 (0 * 32) ((qCW ((qFT σ (((σ 7 (64 * f)) + (nI 8)) - (nI 1))).2)).2))).2))).2) 0 3 (((qCW (qTS f 32 (1 * 32) ((qCW (qTS f 32 (0 * 32) ((qCW ((qFT σ (((σ 7 (64 * f)) + (nI 8)) - (nI 1))).2)).2))).2))).2) 8 f)) ((σ 8 f).toNatClampNeg)) 11 f ((-1))) 0 0 = σ 0 0
            simp only [qCW_0, qFT_0, qWO_0, hT, hM, hN]
          · show ((qWO (mup ((qCW (qTS f 32 (1 * 32) ((qCW (qTS f 32 (0 * 32) ((qCW ((qFT σ (((σ 7 (64 * f)) + (nI 8)) - (nI 1))).2)).2))).2))).2) 0 3 (((qCW (qTS f 32 (1 * 32) ((qCW (qTS f 32 (0 * 32) ((qCW ((qFT σ (((σ 7 (64 * f)) + (nI 8)) - (nI 1))).2)).2))).2))).2) 8 f)) ((σ 8 f).toNatClampNeg))) 0 0 = σ 0 0
            simp only [qCW_0, qFT_0, qWO_0, hT, hM, hN]
        · refine if_00 ?_ ?_
          · show (mup (mup ((qCW (qTS f 32 (1 * 32) ((qCW (qTS f 32 (0 * 32) ((qCW ((qFT σ (((σ 7 (64 * f)) + (nI 8)) - (nI 1))).2)).2))).2))).2) 0 3 (((qCW (qTS f 32 (1 * 32) ((qCW (qTS f 32 (0 * 32) ((qCW ((qFT σ (((σ 7 (64 * f)) + (nI 8)) - (nI 1))).2)).2))).2))).2) 8 f)) 11 f ((-1))) 0 0 = σ 0 0
            simp only [qCW_0, qFT_0, qWO_0, hT, hM, hN]
          · show (mup ((qCW (qTS f 32 (1 * 32) ((qCW (qTS f 32 (0 * 32) ((qCW ((qFT σ (((σ 7 (64 * f)) + (nI 8)) - (nI 1))).2)).2))).2))).2) 0 3 (((qCW (qTS f 32 (1 * 32) ((qCW (qTS f 32 (0 * 32) ((qCW ((qFT σ (((σ 7 (64 * f)) + (nI 8)) - (nI 1))).2)).2))).2))).2) 8 f)) 0 0 = σ 0 0
            simp only [qCW_0, qFT_0, qWO_0, hT, hM, hN]
