/-! THE LAW'S ROWS -/
def R_law : String := "PagePoolLaw"
/-- the class, the reference, out: nothing of the start's heap changes -/
def gW (D : va_G) (cI cF cZ cJ : ClassId) (ad ad2 : Nat → Nat) (o : Nat) (σ τ : Mem) (f : Nat → Int64) (s : State) (H : Heap) (locs : List Loc) : Prop :=
  wW D cI cF cZ cJ ad o σ f s (fun q : Nat => s.heap.size ≤ q) s.heap H locs ∧ va_P D clP (mw 12 (eR cI cZ ad2) ad2 τ) H ∧ va_D (fun q : Nat => s.heap.size ≤ q) (mw 12 (eR cI cZ ad2) ad2 τ) ∧ (∀ i, i < 25 → ∀ j, j < 12 → ad i ≠ ad2 j) ∧ ∀ j, j < 12 → ad2 j ≠ o
section LW
variable {p : Program} {l : Launch} {e : Env} {R : Room} {s : State} {m : MethodId} {args : Array Value} {below : List Frame} {meth : Method} {c : Code} {H : Heap} {locs : List Loc} {cells slots : Nat} {Q : State → Prop}
variable {cc : ByteArray} {pc : Nat} {ls : Array Slot} {rest : List Value} {D : va_G} {cI cF cZ cJ : ClassId} {ad ad2 : Nat → Nat} {o : Nat} {σ τ : Mem} {f : Nat → Int64} {nL : Nat} {Ts : List Cond} {own : String}
variable {y : MethodName} {bytes : ByteArray} {maxL index : Nat} {ret : Option FieldType} {rm : Room} {hh : List (Nat × Nat × Nat × Nat)} {x : Nat × Int32 × Mem} {g : Nat → Nat} {ou : Bool}
theorem nr_lcmpEq (hexec : p.tables.exec = Jvm.exec) (hb : c.code = cc) {v : Int64} (hdg : decode cc pc = .ok (.lcmp, 1)) (k : W p l e R s m args below meth c H locs cells slots Q (F0 m (pc + 1) ls (.int 0 :: rest))) : W p l e R s m args below meth c H locs cells slots Q (F0 m pc ls (.long v :: .long v :: rest)) := by
  intro T hT X
  obtain ⟨t, a, b⟩ := k T hT X
  refine ⟨t, ?_, b⟩
  jvm_step X.here [X.here.top, hexec, hb, hdg]
  exact a
theorem gR_kept {H1 : Heap} {A1 : Nat → Prop} (hR : va_P D clP (mw 12 (eR cI cZ ad2) ad2 τ) H) (hk : ∀ q : Nat, q < H.size → ¬ A1 q → H1[q]? = H[q]?) (hn : ∀ j, j < 12 → ad2 j < H.size → ¬ A1 (ad2 j)) : va_P D clP (mw 12 (eR cI cZ ad2) ad2 τ) H1 := by
  refine va_P.kept hR (fun k q hq => ?_)
  have hlt := (hR k q hq).lt
  obtain ⟨h1, rfl⟩ := mw_inv hq
  exact hk _ hlt (hn k h1 hlt)
theorem gP_kept {H1 : Heap} {A1 : Nat → Prop} (hP : va_P D clP (mw 25 (eP cI cF ad) ad σ) H) (hk : ∀ q : Nat, q < H.size → ¬ A1 q → H1[q]? = H[q]?) (hn : ∀ i, i < 25 → ad i < H.size → ¬ A1 (ad i)) : va_P D clP (mw 25 (eP cI cF ad) ad σ) H1 := by
  refine va_P.kept hP (fun k q hq => ?_)
  have hlt := (hP k q hq).lt
  obtain ⟨h1, rfl⟩ := mw_inv hq
  exact hk _ hlt (hn k h1 hlt)
theorem gO_kept {H1 : Heap} {A1 : Nat → Prop} (hO : va_P D clP (oC cJ o f) H) (hk : ∀ q : Nat, q < H.size → ¬ A1 q → H1[q]? = H[q]?) (hn : o < H.size → ¬ A1 o) : va_P D clP (oC cJ o f) H1 := by
  refine va_P.kept hO (fun k q hq => ?_)
  have hlt := (hO k q hq).lt
  have hq1 : q = (o, .inl (cJ, 1, .inr (.inl f))) := List.mem_singleton.mp (List.mem_of_getElem? hq)
  subst hq1
  exact hk _ hlt (hn hlt)
/-- a wrapper is called -/
theorem lr_wrap {As : List Value} {nA : Nat} (F : CallFix p m c cc nL s args Ts own) (w : gW D cI cF cZ cJ ad ad2 o σ τ f s H locs) (hT : tF (fun q : Nat => s.heap.size ≤ q) s s.heap) (hN : nC s) (hsz : ls.size = nL)
    (hM : WO l D cI cF cZ cJ ad o y bytes maxL hh rm As σ x g ou) (cw : vx_CSW R s args own index y bytes maxL (some .int) hh (kwsH y bytes maxL hh) rm rm.cells rm.slots nA) (hn : As.length = nA)
    {st : List Value} (hst : st = As.reverse ++ rest) (hroom : (rest.map fun v => v.category).sum ≤ 8) (hdg : decode cc pc = .ok (.invokestatic index, 3)) (hf : cells + rm.cells ≤ R.cells ∧ slots + rm.slots ≤ R.slots)
    (kk : ∀ (f1 : Nat → Int64) (H1 : Heap) (locs1 : List Loc), (ou = true → x.1 = 0 → f1 0 = x.2.1.toInt64) → gW D cI cF cZ cJ ad ad2 o x.2.2 τ f1 s H1 locs1 → W p l e R s m args below meth c H1 locs1 (cells + rm.cells) (slots + rm.slots) Q (F0 m (pc + 3) ls (.int (nI (g x.1)) :: rest))) : W p l e R s m args below meth c H locs cells slots Q (F0 m pc ls st) := by
  obtain ⟨⟨w, hO, hAo, hne⟩, hR, hDR, hap, hno⟩ := w
  have hsub : ∀ q, wA ad o H.size q → s.heap.size ≤ q := by
    rintro q (⟨i, hi, rfl⟩ | rfl | h)
    · exact w.2.2.1.2 i _ (mw_at hi)
    · exact hAo
    · exact Nat.le_trans w.2.2.2.1.1 h
  refine va_calli (vx_runSW (As := As) (rest := rest) F (hM H.size f) cw ⟨wPc_blind, fun U hU hW => ⟨rfl, ⟨by rw [hU], by rw [hU]; exact w.2.1, va_K.moved hW.alike w.1, w.2.2.1.weaken (fun _ _ _ _ => trivial)⟩, ⟨by rw [hU]; exact hO, hne⟩, tF.go hT hU hW w.2.2.2.1.2.1 hsub, va_Nc.moved hW.alike hN⟩⟩ rfl hn hsz hst (lv_room hroom) hdg hf) w.2.2.2.1 (fun q _ h => hsub q h) hsub (fun r u t H1 locs1 ht hvm hp hB hz1 hk1 hS1 => ?_)
  obtain ⟨σ1, f1⟩ := u
  obtain ⟨h1, h2, h3⟩ := hp
  dsimp only at h2 h3
  subst h1
  subst h2
  exact kk f1 H1 locs1 h3 ⟨⟨mW_back w ht hB.1 hS1, by rw [← ht]; exact hB.2, hAo, hne⟩, gR_kept hR hk1 (fun j hj hlt => by
    rintro (⟨i, hi, h9⟩ | h9 | h9)
    · exact hap i hi j hj h9.symm
    · exact hno j hj h9
    · omega), hDR, hap, hno⟩
theorem gW.ref (w : gW D cI cF cZ cJ ad ad2 o σ τ f s H locs) : mW D clP (tyP cI cF cZ cJ) 12 (eR cI cZ ad2) ad2 τ s (fun q : Nat => s.heap.size ≤ q) s.heap H locs := ⟨w.1.1.1, w.2.1, w.2.2.1, w.1.1.2.2.2.1, w.1.1.2.2.2.2⟩
theorem gW.back2 {τ1 : Mem} {t : State} {H1 : Heap} {locs1 : List Loc} (w : gW D cI cF cZ cJ ad ad2 o σ τ f s H locs) (ht : t.heap = H1) (hB : KB D clP (tyP cI cF cZ cJ) 12 (eR cI cZ ad2) ad2 τ1 t) (hS1 : va_S (fun q : Nat => s.heap.size ≤ q) s.heap H1 locs1) (hk1 : ∀ q : Nat, q < H.size → ¬ va_A (mw 12 (eR cI cZ ad2) ad2 τ) H.size q → H1[q]? = H[q]?) : gW D cI cF cZ cJ ad ad2 o σ τ1 f s H1 locs1 := by
  have wR := w.ref
  obtain ⟨⟨w, hO, hAo, hne⟩, hR, hDR, hap, hno⟩ := w
  have b := mW_back wR ht hB hS1
  refine ⟨⟨⟨w.1, gP_kept w.2.1 hk1 (fun i hi hlt => ?_), w.2.2.1, hS1, w.2.2.2.2⟩, gO_kept hO hk1 (fun hlt => ?_), hAo, hne⟩, b.2.1, b.2.2.1, hap, hno⟩
  · rintro (⟨k, e9, h9⟩ | h9)
    · obtain ⟨h1, h2⟩ := mw_inv h9
      exact hap i hi k h1 (congrArg Prod.fst h2)
    · omega
  · rintro (⟨k, e9, h9⟩ | h9)
    · obtain ⟨h1, h2⟩ := mw_inv h9
      exact hno k h1 (congrArg Prod.fst h2).symm
    · omega
theorem lr_refI {As : List Value} {P : Int32 → Mem → Prop} {nA : Nat} (F : CallFix p m c cc nL s args Ts own) (w : gW D cI cF cZ cJ ad ad2 o σ τ f s H locs) (hsz : ls.size = nL)
    (hM : KI l D clP (tyP cI cF cZ cJ) 12 (eR cI cZ ad2) ad2 y bytes maxL ret rm (.ref (ad2 0) :: As) τ P) (cw : CallW R s args own R_R index y bytes maxL ret (kws y bytes maxL ret) rm 0 0 nA) (hn : As.length = nA)
    {st : List Value} (hst : st = As.reverse ++ .ref (ad2 0) :: rest) (hroom : (rest.map fun v => v.category).sum ≤ 8) (hdg : decode cc pc = .ok (.invokevirtual index, 3)) (hf : cells ≤ R.cells ∧ slots ≤ R.slots)
    (kk : ∀ (r : Int32) (τ1 : Mem) (H1 : Heap) (locs1 : List Loc), P r τ1 → gW D cI cF cZ cJ ad ad2 o σ τ1 f s H1 locs1 → W p l e R s m args below meth c H1 locs1 cells slots Q (F0 m (pc + 3) ls (.int r :: rest))) : W p l e R s m args below meth c H locs cells slots Q (F0 m pc ls st) := by
  have wR := w.ref
  exact va_calli (va_runV (As := As) (rest := rest) F (hM H.size) cw ⟨KPc_blind, va_recv wR.1 wR.2.1 (show clP[5]? = some (R_R, F_R, 22) from rfl) (by rw [mw_at (show 0 < 12 by decide)]; rfl), fun U hU hW => mW_pre wR U hU hW⟩ rfl hn hsz hst (lv_room hroom) hdg hf) wR.2.2.2.1 (fun q _ h => mW_sub wR q h) (mW_sub wR) (fun r τ1 t H1 locs1 ht hvm hp hB hz1 hk1 hS1 => kk r τ1 H1 locs1 hp (w.back2 ht hB hS1 hk1))
theorem lr_refV {As : List Value} {P : Mem → Prop} {nA : Nat} (F : CallFix p m c cc nL s args Ts own) (w : gW D cI cF cZ cJ ad ad2 o σ τ f s H locs) (hsz : ls.size = nL)
    (hM : KV l D clP (tyP cI cF cZ cJ) 12 (eR cI cZ ad2) ad2 y bytes maxL rm (.ref (ad2 0) :: As) τ P) (cw : CallW R s args own R_R index y bytes maxL none (kws y bytes maxL none) rm 0 0 nA) (hn : As.length = nA)
    {st : List Value} (hst : st = As.reverse ++ .ref (ad2 0) :: rest) (hroom : (rest.map fun v => v.category).sum ≤ 8) (hdg : decode cc pc = .ok (.invokevirtual index, 3)) (hf : cells ≤ R.cells ∧ slots ≤ R.slots)
    (kk : ∀ (τ1 : Mem) (H1 : Heap) (locs1 : List Loc), P τ1 → gW D cI cF cZ cJ ad ad2 o σ τ1 f s H1 locs1 → W p l e R s m args below meth c H1 locs1 cells slots Q (F0 m (pc + 3) ls rest)) : W p l e R s m args below meth c H locs cells slots Q (F0 m pc ls st) := by
  have wR := w.ref
  exact va_callv (va_runV (As := As) (rest := rest) F (hM H.size) cw ⟨KPc_blind, va_recv wR.1 wR.2.1 (show clP[5]? = some (R_R, F_R, 22) from rfl) (by rw [mw_at (show 0 < 12 by decide)]; rfl), fun U hU hW => mW_pre wR U hU hW⟩ rfl hn hsz hst (lv_room hroom) hdg hf) wR.2.2.2.1 (fun q _ h => mW_sub wR q h) (mW_sub wR) (fun τ1 t H1 locs1 ht hvm hp hB hz1 hk1 hS1 => kk τ1 H1 locs1 hp (w.back2 ht hB hS1 hk1))
theorem lr_clsI {As : List Value} {P : Int32 → Mem → Prop} {nA : Nat} (F : CallFix p m c cc nL s args Ts own) (w : gW D cI cF cZ cJ ad ad2 o σ τ f s H locs) (hsz : ls.size = nL)
    (hM : KI l D clP (tyP cI cF cZ cJ) 25 (eP cI cF ad) ad y bytes maxL ret rm (.ref (ad 0) :: As) σ P) (cw : CallW R s args own R_P index y bytes maxL ret (kws y bytes maxL ret) rm 0 0 nA) (hn : As.length = nA)
    {st : List Value} (hst : st = As.reverse ++ .ref (ad 0) :: rest) (hroom : (rest.map fun v => v.category).sum ≤ 8) (hdg : decode cc pc = .ok (.invokevirtual index, 3)) (hf : cells ≤ R.cells ∧ slots ≤ R.slots)
    (kk : ∀ (r : Int32) (σ1 : Mem) (H1 : Heap) (locs1 : List Loc), P r σ1 → gW D cI cF cZ cJ ad ad2 o σ1 τ f s H1 locs1 → W p l e R s m args below meth c H1 locs1 cells slots Q (F0 m (pc + 3) ls (.int r :: rest))) : W p l e R s m args below meth c H locs cells slots Q (F0 m pc ls st) := by
  obtain ⟨⟨w, hO, hAo, hne⟩, hR, hDR, hap, hno⟩ := w
  refine va_calli (va_runV (As := As) (rest := rest) F (hM H.size) cw ⟨KPc_blind, va_recv w.1 w.2.1 (show clP[4]? = some (R_P, F_P, 5) from rfl) (by rw [mw_at (show 0 < 25 by decide)]; rfl), fun U hU hW => mW_pre w U hU hW⟩ rfl hn hsz hst (lv_room hroom) hdg hf) w.2.2.2.1 (fun q _ h => mW_sub w q h) (mW_sub w) (fun r σ1 t H1 locs1 ht hvm hp hB hz1 hk1 hS1 => kk r σ1 H1 locs1 hp ⟨⟨mW_back w ht hB hS1, gO_kept hO hk1 (fun hlt => ?_), hAo, hne⟩, gR_kept hR hk1 (fun j hj hlt => ?_), hDR, hap, hno⟩)
  · rintro (⟨k, e9, h9⟩ | h9)
    · obtain ⟨h1, h2⟩ := mw_inv h9
      exact hne k h1 (congrArg Prod.fst h2).symm
    · omega
  · rintro (⟨k, e9, h9⟩ | h9)
    · obtain ⟨h1, h2⟩ := mw_inv h9
      exact hap k h1 j hj (congrArg Prod.fst h2).symm
    · omega
theorem lr_lald (F : CallFix p m c cc nL s args Ts own) (w : gW D cI cF cZ cJ ad ad2 o σ τ f s H locs) (hdg : decode cc pc = .ok (.laload, 1))
    (kk : W p l e R s m args below meth c H locs cells slots Q (F0 m (pc + 1) ls (.long (f 0) :: rest))) : W p l e R s m args below meth c H locs cells slots Q (F0 m pc ls (.int 0 :: .ref o :: rest)) := by
  obtain ⟨hx, hb, hml, hown, hts⟩ := F
  exact va_lald hx hb w.1.1.1 w.1.2.1 0 3 (show (oC cJ o f)[0]? = some (o, .inl (cJ, 1, .inr (.inl f))) from rfl) (show (tyP cI cF cZ cJ)[3]? = some (cJ, .long) from rfl) (nI_0 ▸ vp_in_nI (show 0 < 1 by decide) (by decide)) hdg kk
/-- script[k] -/
theorem lr_arg {b L k : Nat} {xs : Nat → Int32} (F : CallFix p m c cc nL s args Ts own) (w : gW D cI cF cZ cJ ad ad2 o σ τ f s H locs) (hX : va_X b L xs s s.heap) (hbl : b < s.heap.size) (hk : k < L) (hL : L ≤ 2048) (hdg : decode cc pc = .ok (.iaload, 1))
    (kk : W p l e R s m args below meth c H locs cells slots Q (F0 m (pc + 1) ls (.int (xs k) :: rest))) : W p l e R s m args below meth c H locs cells slots Q (F0 m pc ls (.int (nI k) :: .ref b :: rest)) := by
  obtain ⟨hx, hb, hml, hown, hts⟩ := F
  refine va_sld hx hb hX hbl (Nat.not_le.mpr hbl) w.1.1.2.2.2.1 (vp_in_nI hk (by omega)) hdg ?_
  rw [nI_clamp (by omega)]
  exact kk
theorem gId_0 {k : Nat} (h : k = 0 ∨ k ∈ [1, 2]) (h0 : nI (gId k) = 0) : k = 0 := by
  rcases h with h | h
  · exact h
  · simp only [List.mem_cons, List.mem_nil_iff, or_false] at h
    rcases h with rfl | rfl
    · exact absurd h0 (by decide)
    · exact absurd h0 (by decide)
theorem gOne_0 {k : Nat} (h0 : nI (gOne k) = 0) : k = 0 := by
  unfold gOne at h0
  by_cases hk : k = 0
  · exact hk
  · rw [if_neg hk] at h0; exact absurd h0 (by decide)
end LW
