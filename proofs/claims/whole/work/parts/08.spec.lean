/-! WHAT THE CLASS'S METHODS DO, over its memory. Cells: 0 the pool (4: hand); 1 Power (0 on, 1 left, 2 made); 2 Medium (3 spareNumber, 4 halfWritten); 3 own; 4 spare; 5 ChangeLog (3 begin, 4 forced, 5 end); 6 targets; 7 values; 8 the array of frames; f + 9 a frame (1 page, 2 pins, 3 used, 4 first); f + 17 its words. Conditions stand as the bytecode asks them. -/
def kFail (σ : Mem) : Mem := mup (mup σ 1 0 (nI 0)) 1 1 (-1)
def kLW (σ : Mem) : Int32 × Mem :=
  if σ 1 1 = 0 then (0, kFail σ) else
  if σ 1 1 ≤ 0 then (1, mup σ 1 2 (σ 1 2 + nI 1)) else (1, mup (mup σ 1 1 (σ 1 1 - nI 1)) 1 2 (σ 1 2 + nI 1))
theorem kLW_01 (σ : Mem) : (kLW σ).1 = 0 ∨ (kLW σ).1 = 1 := by
  unfold kLW
  split
  · exact Or.inl rfl
  · split <;> exact Or.inr rfl
/-- f is changed -/
def kCh (σ : Mem) (f : Nat) : Int32 := if σ (f + 9) 4 = -1 then 0 else 1
theorem kCh_01 (σ : Mem) (f : Nat) : kCh σ f = 0 ∨ kCh σ f = 1 := by
  unfold kCh
  split
  · exact Or.inl rfl
  · exact Or.inr rfl
def kEmpty (σ : Mem) (f : Nat) : Mem := mup (mup (mup (mup σ (f + 9) 1 (-1)) (f + 9) 2 (nI 0)) (f + 9) 3 (nI 0)) (f + 9) 4 (-1)
def kApply (σ : Mem) (f : Nat) (serial : Int32) (i : Nat) (v : Int32) : Mem :=
  if (mup (mup σ (f + 17) i v) (f + 17) 0 (serial + nI 1)) (f + 9) 4 = -1 then mup (mup (mup σ (f + 17) i v) (f + 17) 0 (serial + nI 1)) (f + 9) 4 serial else mup (mup σ (f + 17) i v) (f + 17) 0 (serial + nI 1)
def kEnd (σ : Mem) (f : Nat) : Int32 := σ (f + 17) 0 - nI 1 + nI 8
def kSlot (serial : Int32) : Nat := (serial / 8).toBitVec.toNat % 8192
theorem kSlot_lt (x : Int32) : kSlot x < 8192 := Nat.mod_lt _ (by decide)
theorem kSlot_eq (x : Int32) : (x / nI 8) &&& nI 8191 = nI (kSlot x) := pk_and (x / nI 8) 13 (by decide)
def kRoom (σ : Mem) : Int32 := if nI 65528 < σ 5 5 - σ 5 3 then 0 else 1
def kAppend (σ : Mem) (pg i v : Int32) : Mem :=
  mup (mup (mup σ 6 (kSlot (σ 5 5)) (pg * nI 64 + i)) 7 (kSlot (σ 5 5)) v) 5 5 (σ 5 5 + nI 8)
def kIsCh (σ : Mem) (serial : Int32) : Int32 := if σ 6 (kSlot serial) = -1 then 0 else 1
def kForce : Nat → Mem → Int32 × Mem
  | 0, σ => (1, σ)
  | n + 1, σ => if (kLW σ).1 = 0 then (0, (kLW σ).2) else kForce n (mup (kLW σ).2 5 4 ((kLW σ).2 5 4 + nI 1))
theorem kForce_01 : ∀ (n : Nat) (σ : Mem), (kForce n σ).1 = 0 ∨ (kForce n σ).1 = 1
  | 0, _ => Or.inr rfl
  | n + 1, σ => by
    unfold kForce
    split
    · exact Or.inl rfl
    · exact kForce_01 n _
def kFT (σ : Mem) (place : Int32) : Int32 × Mem := kForce (place - σ 5 4).toNatClampNeg σ
/-- one least write, then k -/
def kThen (σ : Mem) (k : Mem → Int32 × Mem) : Int32 × Mem := if (kLW σ).1 = 0 then (0, (kLW σ).2) else k (kLW σ).2
def kSpare (σ : Mem) (pg : Int32) (j : Nat) : Int32 × Mem :=
  kThen σ fun σ1 => kThen (mcp σ1 j 4 0 0 32) fun σ2 => kThen (mcp σ2 j 4 32 32 32) fun σ3 => (1, mup σ3 2 3 pg)
def kOwn (σ : Mem) (pg j : Nat) : Int32 × Mem :=
  kThen σ fun σ1 => kThen (mup (mcp σ1 j 3 0 (pg * 64 + 0) 32) 2 4 (nI 1)) fun σ2 => (1, mup (mcp σ2 j 3 32 (pg * 64 + 32) 32) 2 4 (nI 0))
