/-! AT THE START, AND THE LAW'S WRAPPERS -/
theorem mR_F {f : Nat} (hf : f < 8) : (qForget mR0) 8 f = -1 ∧ (qForget mR0) 9 f = nI 0 ∧ (qForget mR0) 10 f = nI 0 ∧ (qForget mR0) 11 f = -1 := qForget_F _ hf
theorem j_init : J 16 mP0 (qForget mR0) := by
  have q0 : ∀ k, k ≠ 17 → k ≠ 11 → (qForget mR0) 0 k = mR0 0 k := fun k h1 h2 => qForget_0 _ h1 h2
  have qn : ∀ i, i ≠ 0 → i < 8 → (qForget mR0) i = mR0 i := fun i h1 h2 => qForget_n _ h1 h2
  have q11 : (qForget mR0) 0 11 = nI 0 := by rw [qForget_11]; rfl
  have q17 : (qForget mR0) 0 17 = nI 0 := qForget_17 _
  have z : ∀ i k, 1 ≤ i → i < 8 → (qForget mR0) i k = nI 0 := fun i k h1 h2 => by
    rw [qn i (by omega) h2]
    show (if i = 0 then _ else (0 : Int32)) = _
    rw [if_neg (by omega)]; rfl
  have pz : ∀ i k, i ≠ 1 → i < 9 → mP0 i k = nI 0 := fun i k h1 h2 => by
    show (if i = 1 then _ else if i < 9 then (0 : Int32) else _) = _
    rw [if_neg h1, if_pos h2]; rfl
  have pv : ∀ i k, 17 ≤ i → mP0 i k = nI 0 := fun i k h1 => by
    show (if i = 1 then _ else if i < 9 then (0 : Int32) else if i < 17 then _ else (0 : Int32)) = _
    rw [if_neg (by omega), if_neg (by omega), if_neg (by omega)]; rfl
  have pf : ∀ f k, f < 8 → mP0 (f + 9) k = (if k = 1 then -1 else if k = 4 then -1 else 0) := fun f k h => by
    show (if f + 9 = 1 then _ else if f + 9 < 9 then (0 : Int32) else if f + 9 < 17 then _ else (0 : Int32)) = _
    rw [if_neg (by omega), if_neg (by omega), if_pos (by omega)]
  have mk0 : ∀ x : Int32, x = nI 0 → mk 16 x := fun x hx => ⟨0, hx, by omega⟩
  have hFI : ∀ f, f < 8 → FI 16 0 0 (qForget mR0) f := fun f hf => by
    obtain ⟨c1, c2, c3, c4⟩ := mR_F hf
    exact ⟨Or.inl ⟨c1, c2, c4⟩, ⟨0, by omega, c2⟩, Or.inl c3, Or.inl c4, mk0 _ (z 7 _ (by decide) (by decide))⟩
  refine Or.inr ⟨0, 0, 0, ⟨?_, ?_, ?_, ?_, rfl, ?_, ?_⟩, ?_, rfl⟩
  · refine ⟨?_, ?_, ?_, ?_, ?_, ?_, ?_, fun r => Or.inr ⟨z 6 r (by decide) (by decide), 0, 0, by decide, by decide, z 3 r (by decide) (by decide), z 4 r (by decide) (by decide), pz 6 r (by decide) (by decide)⟩, Or.inl ⟨pz 2 4 (by decide) (by decide), ?_⟩, ?_⟩
    · rw [q0 19 (by decide) (by decide)]; rfl
    · rw [q0 20 (by decide) (by decide)]; rfl
    · rw [q0 9 (by decide) (by decide)]; rfl
    · rw [q0 10 (by decide) (by decide)]; rfl
    · funext k; rw [pz 3 k (by decide) (by decide), z 1 k (by decide) (by decide)]
    · funext k; rw [pz 4 k (by decide) (by decide), z 2 k (by decide) (by decide)]
    · funext k; rw [pz 7 k (by decide) (by decide), z 5 k (by decide) (by decide)]
    · rw [q0 4 (by decide) (by decide)]; rfl
    · rw [pz 2 3 (by decide) (by decide)]; exact nat0_nI (by decide) (by decide)
  · refine ⟨by rw [q11]; exact pz 5 5 (by decide) (by decide), by rw [q17]; exact pz 0 4 (by decide) (by decide), fun f hf => ?_⟩
    obtain ⟨c1, c2, c3, c4⟩ := mR_F hf
    exact ⟨by rw [c1, pf f 1 hf]; rfl, by rw [c2, pf f 2 hf]; rfl, by rw [c3, pf f 3 hf]; rfl, by rw [c4, pf f 4 hf]; rfl, fun i hi => by rw [pv _ _ (by omega), z 7 _ (by decide) (by decide)]⟩
  · exact ⟨by rw [q0 9 (by decide) (by decide)]; rfl, by rw [q0 10 (by decide) (by decide)]; rfl, rfl, Nat.le_refl _, by omega, fun p hp => mk0 _ (z 1 _ (by decide) (by decide)), mk0 _ (z 2 _ (by decide) (by decide))⟩
  · exact ⟨q11, Nat.le_refl _, by omega, by rw [q17]; exact nat0_nI (by decide) (by decide), hFI, fun f g hf hg hn he => (mR_F hf).1, fun f g hf hg hn he => (mR_F hf).2.2.2⟩
  · rw [q0 18 (by decide) (by decide)]; rfl
  · rw [q0 21 (by decide) (by decide)]; rfl
  · rw [q0 4 (by decide) (by decide)]; rfl
/-! worlds side by side -/
theorem va_Pm {D : va_G} {cl : List vw_C} {ws : va_W} {H : Heap} : va_P D cl ws H ↔ ∀ q ∈ ws, va_at D cl q H :=
  ⟨fun h q hq => by obtain ⟨k, hk⟩ := List.getElem?_of_mem hq; exact h k q hk, fun h k q hk => h q (List.mem_of_getElem? hk)⟩
theorem va_Papp {D : va_G} {cl : List vw_C} {a b : va_W} {H : Heap} : va_P D cl (a ++ b) H ↔ va_P D cl a H ∧ va_P D cl b H := by
  rw [va_Pm, va_Pm, va_Pm]
  exact List.forall_mem_append
theorem va_Dapp {A : Nat → Prop} {a b : va_W} (h1 : va_D A a) (h2 : va_D A b) (h3 : ∀ p ∈ a, ∀ q ∈ b, p.1 ≠ q.1) : va_D A (a ++ b) := by
  refine ⟨fun i j p q hi hj e => ?_, fun k q hk => ?_⟩
  · rw [List.getElem?_append] at hi hj
    by_cases ci : i < a.length
    · rw [if_pos ci] at hi
      by_cases cj : j < a.length
      · rw [if_pos cj] at hj
        exact h1.1 i j p q hi hj e
      · rw [if_neg cj] at hj
        exact absurd e (h3 p (List.mem_of_getElem? hi) q (List.mem_of_getElem? hj))
    · rw [if_neg ci] at hi
      by_cases cj : j < a.length
      · rw [if_pos cj] at hj
        exact absurd e.symm (h3 q (List.mem_of_getElem? hj) p (List.mem_of_getElem? hi))
      · rw [if_neg cj] at hj
        have := h2.1 _ _ p q hi hj e
        omega
  · rw [List.getElem?_append] at hk
    by_cases ci : k < a.length
    · rw [if_pos ci] at hk; exact h1.2 k q hk
    · rw [if_neg ci] at hk; exact h2.2 _ q hk
theorem va_Done {A : Nat → Prop} {x : Nat × va_E} (h : A x.1) : va_D A [x] := by
  refine ⟨fun i j p q hi hj e => ?_, fun k q hk => ?_⟩
  · have h1 := (List.getElem?_eq_some_iff.mp hi).1
    have h2 := (List.getElem?_eq_some_iff.mp hj).1
    simp at h1 h2
    omega
  · have := List.mem_of_getElem? hk
    rw [List.mem_singleton] at this
    rw [this]; exact h
theorem mw_mem {n : Nat} {E : Nat → (Nat → Int32) → va_E} {ad : Nat → Nat} {σ : Mem} {q : Nat × va_E} (h : q ∈ mw n E ad σ) : ∃ i, i < n ∧ q = (ad i, E i (σ i)) := by
  obtain ⟨k, hk⟩ := List.getElem?_of_mem h
  exact ⟨k, mw_inv hk⟩
theorem mw_len {n : Nat} {E : Nat → (Nat → Int32) → va_E} {ad : Nat → Nat} {σ : Mem} : (mw n E ad σ).length = n := by simp [mw]
def oC (cJ : ClassId) (o : Nat) (f : Nat → Int64) : va_W := [(o, .inl (cJ, 1, .inr (.inl f)))]
def kwsH (y : MethodName) (cc : ByteArray) (maxL : Nat) (hh : List (Nat × Nat × Nat × Nat)) : List Cond := Cond.codeWith y cc maxL (some .int) hh :: gt
def wA (ad : Nat → Nat) (o sz : Nat) : Nat → Prop := fun q => (∃ i, i < 25 ∧ q = ad i) ∨ q = o ∨ sz ≤ q
/-- the class's cells, and out -/
def wW (D : va_G) (cI cF cZ cJ : ClassId) (ad : Nat → Nat) (o : Nat) (σ : Mem) (f : Nat → Int64) (s : State) (A : Nat → Prop) (H0 H : Heap) (locs : List Loc) : Prop :=
  mW D clP (tyP cI cF cZ cJ) 25 (eP cI cF ad) ad σ s A H0 H locs ∧ va_P D clP (oC cJ o f) H ∧ A o ∧ ∀ i, i < 25 → ad i ≠ o
def nC (U : State) : Prop := va_Nc cIOB cISE U
def wPc (D : va_G) (cI cF cZ cJ : ClassId) (ad : Nat → Nat) (o : Nat) (σ : Mem) (f : Nat → Int64) (sz : Nat) (av : List Value) : Array Value → State → Prop :=
  va_Pc av (fun U => (U.heap.size = sz ∧ va_P D clP (mw 25 (eP cI cF ad) ad σ) U.heap ∧ va_K D clP (tyP cI cF cZ cJ) U ∧ va_D (fun _ => True) (mw 25 (eP cI cF ad) ad σ)) ∧ (va_P D clP (oC cJ o f) U.heap ∧ ∀ i, i < 25 → ad i ≠ o) ∧ tF (wA ad o sz) U U.heap ∧ nC U)
/-- what a wrapper answers: x is what the class does, g how its kinds are called -/
def wQ (D : va_G) (cI cF cZ cJ : ClassId) (ad : Nat → Nat) (o : Nat) (x : Nat × Int32 × Mem) (g : Nat → Nat) (ou : Bool) (A : Nat → Prop) : Array Value → State → Outcome → State → Prop :=
  va_Qi (fun (r : Int32) (u : Mem × (Nat → Int64)) => r = nI (g x.1) ∧ u.1 = x.2.2 ∧ (ou = true → x.1 = 0 → u.2 0 = x.2.1.toInt64)) (fun u t => KB D clP (tyP cI cF cZ cJ) 25 (eP cI cF ad) ad u.1 t ∧ va_P D clP (oC cJ o u.2) t.heap) A
def WO (l : Launch) (D : va_G) (cI cF cZ cJ : ClassId) (ad : Nat → Nat) (o : Nat) (y : MethodName) (cc : ByteArray) (maxL : Nat) (hh : List (Nat × Nat × Nat × Nat)) (rm : Room) (av : List Value) (σ : Mem) (x : Nat × Int32 × Mem) (g : Nat → Nat) (ou : Bool) : Prop :=
  ∀ (sz : Nat) (f : Nat → Int64), Met l y (kwsH y cc maxL hh) rm (wPc D cI cF cZ cJ ad o σ f sz av) (wQ D cI cF cZ cJ ad o x g ou (wA ad o sz)) rm.cells rm.slots (wA ad o sz)
theorem tF_blind {A : Nat → Prop} {U : State} {g : JFrame} {mk : MethodId} {a : Array Value} (qT : tF A U U.heap) : tF A (U.calling g mk a) (U.calling g mk a).heap := by
  obtain ⟨h1, h2, h3, h4⟩ := qT
  refine ⟨vx_Zq.moved (u := U) (U := U.calling g mk a) (Vm.Alike.refl U.vm) h1, vx_Zq.moved (u := U) (U := U.calling g mk a) (Vm.Alike.refl U.vm) h2, fun q hq => ?_, fun w hw => va_tabs (u := U) (U := U.calling g mk a) (tXw_ok w hw).1 rfl (h4 w hw)⟩
  obtain ⟨a9, ha⟩ := h3 q hq
  exact ⟨a9, vk_R.same rfl ha⟩
theorem wPc_blind {D : va_G} {cI cF cZ cJ : ClassId} {ad : Nat → Nat} {o : Nat} {σ : Mem} {f : Nat → Int64} {sz : Nat} {av : List Value} : FrameBlind (wPc D cI cF cZ cJ ad o σ f sz av) := by
  intro a U g mk q
  obtain ⟨q0, ⟨q1, qP, qK, qD⟩, qO, qT, qN⟩ := q
  exact ⟨q0, ⟨q1, qP, va_K.moved (u := U) (U := U.calling g mk a) (Vm.Alike.refl U.vm) qK, qD⟩, qO, tF_blind qT, va_Nc.moved (u := U) (U := U.calling g mk a) (Vm.Alike.refl U.vm) qN⟩
section WR
variable {p : Program} {l : Launch} {e : Env} {R : Room} {s : State} {m : MethodId} {args : Array Value} {below : List Frame} {meth : Method} {c : Code} {H : Heap} {locs : List Loc} {cells slots : Nat} {Q : State → Prop}
variable {cc : ByteArray} {pc : Nat} {ls : Array Slot} {rest : List Value} {D : va_G} {cI cF cZ cJ : ClassId} {A : Nat → Prop} {H0 : Heap} {ad : Nat → Nat} {o : Nat} {σ : Mem} {f : Nat → Int64} {nL : Nat} {Ts : List Cond} {own : String}
variable {y : MethodName} {bytes : ByteArray} {maxL index mc ms : Nat} {ret : Option FieldType} {rm : Room} {X : String → Prop} {hh : List (Nat × Nat × Nat × Nat)} {x : Nat × Int32 × Mem} {g : Nat → Nat} {ou : Bool}
theorem WO.of {av : List Value} (hy : plainName y.cls = true) (hL : (lg_sl av).length ≤ maxL)
    (body : ∀ p e s m args below meth c A ls f, CallFix p m c bytes maxL s args (kwsH y bytes maxL hh) y.cls → wW D cI cF cZ cJ ad o σ f s A s.heap s.heap [] → tF A s s.heap → nC s → lv_has ls maxL (lv_args 0 av) → meth.sig.returnType = some .int → meth.locks = false → c.exceptionTable.toList = tableOf hh →
      W p l e rm s m args below meth c s.heap [] 0 0 (MQ below (wQ D cI cF cZ cJ ad o x g ou A) args s rm.cells rm.slots A) (F0 m 0 ls [])) : WO l D cI cF cZ cJ ad o y bytes maxL hh rm av σ x g ou := by
  intro sz f
  refine MetFree.of_bodyS (code := bytes) (maxLocals := maxL) (ret := some .int) hy ?_ ?_
  · intro args s m h hn
    obtain ⟨m9, meth, c, hn9, h1, h2, h3, h4, -, h5, h6, -⟩ := Cond.codeWith_spec (atoms_spec (ws := kwsH y bytes maxL hh) h _ List.mem_cons_self)
    cases hn.symm.trans hn9
    exact ⟨meth, c, h1, h2, h3, h4, h5, h6⟩
  · intro p e s m args below meth c s₁ B hml hP9 _
    have hh0 : s₁.heap = s.heap := by rw [B.state]; rfl
    obtain ⟨rfl, ⟨hsz, hP, hK, hD0⟩, ⟨hO, hne⟩, hT, hN⟩ := hP9
    subst hsz
    have hts := atoms_spec (ws := kwsH y bytes maxL hh) B.pre
    have ht := vx_table (x := y) B (hts _ List.mem_cons_self)
    have hl := lv_entry av (n := maxL) hL
    have hD : va_D (wA ad o s.heap.size) (mw 25 (eP cI cF ad) ad σ) := ⟨hD0.1, fun k q hk => Or.inl ⟨k, (mw_inv hk).1, by rw [(mw_inv hk).2]⟩⟩
    have hb9 := body p e s m av.toArray below meth c (wA ad o s.heap.size) _ f ⟨B.exec, B.bytes, hml, findClass_of_methodNamed B.named, hts⟩ ⟨⟨hK, hP, hD, va_S.rf, fun q h => Or.inr (Or.inr h)⟩, hO, Or.inr (Or.inl rfl), hne⟩ hT hN hl B.returns B.notSynchronized ht
    rw [← lg_entry_eq] at hb9
    obtain ⟨t, a1, o9, b1, b2, b3⟩ := hb9 s₁ hh0 (Stand.of_body B)
    exact ⟨t, o9, a1, b1, b2, b3⟩
theorem wr_ret {f' : Nat → Int64} {σ' : Mem} {r : Int32} (F : CallFix p m c cc nL s args Ts own) (w : wW D cI cF cZ cJ ad o σ' f' s A s.heap H locs) (hr : meth.sig.returnType = some .int) (hlocks : meth.locks = false) (hc : cells ≤ mc) (hs : slots ≤ ms) (hp : r = nI (g x.1)) (hσ : σ' = x.2.2) (ho : ou = true → x.1 = 0 → f' 0 = x.2.1.toInt64) (hdg : decode cc pc = .ok (.ireturn, 1)) :
    W p l e R s m args below meth c H locs cells slots (MQ below (wQ D cI cF cZ cJ ad o x g ou A) args s mc ms A) (F0 m pc ls [.int r]) := by
  obtain ⟨hx, hb, hml, hown, hts⟩ := F
  obtain ⟨⟨hK, hP, hD, hS, hA9⟩, hO, hAo, hne⟩ := w
  refine W.widen hc hs ?_
  exact W.iret (v := r) hx hb hr (fun t ht hW => ⟨⟨r, (σ', f'), rfl, ⟨hp, hσ, ho⟩, ⟨by rw [ht]; exact hP, va_K.moved hW.alike hK⟩, by rw [ht]; exact hO⟩, hS.F ht⟩) hS.2.2 hdg hlocks
theorem oC_kept {H1 : Heap} (hO : va_P D clP (oC cJ o f) H) (hne : ∀ i, i < 25 → ad i ≠ o) (hk : ∀ q : Nat, q < H.size → ¬ va_A (mw 25 (eP cI cF ad) ad σ) H.size q → H1[q]? = H[q]?) : va_P D clP (oC cJ o f) H1 := by
  refine va_P.kept hO (fun k q hq => hk _ (hO k q hq).lt ?_)
  have hq1 : q = (o, .inl (cJ, 1, .inr (.inl f))) := List.mem_singleton.mp (List.mem_of_getElem? hq)
  have hlt := (hO k q hq).lt
  rintro (⟨i, e9, hi⟩ | h)
  · obtain ⟨h1, h2⟩ := mw_inv hi
    have h3 := congrArg Prod.fst h2
    rw [hq1] at h3
    exact hne i h1 h3.symm
  · omega
/-- the class's method is called: it returns or throws -/
theorem wr_xVi {As : List Value} {P : Int32 → Mem → Prop} {nA : Nat} (F : CallFix p m c cc nL s args Ts own) (w : wW D cI cF cZ cJ ad o σ f s A s.heap H locs) (hT : tF A s s.heap) (hsz : ls.size = nL)
    (hM : KXi l D clP (tyP cI cF cZ cJ) 25 (eP cI cF ad) ad y bytes maxL ret rm (.ref (ad 0) :: As) σ P X) (cw : CallW R s args own R_P index y bytes maxL ret (kws y bytes maxL ret) rm rm.cells rm.slots nA) (hn : As.length = nA)
    {st : List Value} (hst : st = As.reverse ++ .ref (ad 0) :: rest) (hroom : (rest.map fun v => v.category).sum ≤ 8) (hdg : decode cc pc = .ok (.invokevirtual index, 3)) (hf : cells + rm.cells ≤ R.cells ∧ slots + rm.slots ≤ R.slots)
    (kx : ∀ (E : String) (ce : Cell) (q9 : Addr) (H1 : Heap) (locs1 : List Loc), X E → wW D cI cF cZ cJ ad o σ f s A s.heap H1 locs1 → H1[q9]? = some ce → ce.vm = .none → s.vm.findClass E = some ce.cls → vx_W p l e R s m args below meth c H1 locs1 (cells + rm.cells) (slots + rm.slots) Q (F0 m pc ls rest) q9)
    (kk : ∀ (r : Int32) (σ' : Mem) (H1 : Heap) (locs1 : List Loc), P r σ' → wW D cI cF cZ cJ ad o σ' f s A s.heap H1 locs1 → W p l e R s m args below meth c H1 locs1 (cells + rm.cells) (slots + rm.slots) Q (F0 m (pc + 3) ls (.int r :: rest))) : W p l e R s m args below meth c H locs cells slots Q (F0 m pc ls st) := by
  obtain ⟨w, hO, hAo, hne⟩ := w
  exact vx_calli (vx_runV (As := As) (rest := rest) F (hM H.size) cw ⟨KPx_blind, va_recv w.1 w.2.1 (show clP[4]? = some (R_P, F_P, 5) from rfl) (by rw [mw_at (show 0 < 25 by decide)]; rfl), fun U hU hW => mW_prex w hT U hU hW⟩ rfl hn hsz hst (lv_room hroom) hdg hf) w.2.2.2.1 (fun q _ h => mW_sub w q h) (mW_sub w) (fun q _ h => mW_sub w q h)
    (fun Ec ce q9 u t H1 locs1 ht hvm hpx hBX hz1 hk1 hS1 hcell hv hcl => kx Ec ce q9 H1 locs1 hBX.1 ⟨mW_back w ht hBX.2 hS1, oC_kept hO hne hk1, hAo, hne⟩ hcell hv hcl)
    (fun r σ' t H1 locs1 ht hvm hp hB hz1 hk1 hS1 => kk r σ' H1 locs1 hp ⟨mW_back w ht hB hS1, oC_kept hO hne hk1, hAo, hne⟩)
theorem wr_xVv {As : List Value} {P : Mem → Prop} {nA : Nat} (F : CallFix p m c cc nL s args Ts own) (w : wW D cI cF cZ cJ ad o σ f s A s.heap H locs) (hT : tF A s s.heap) (hsz : ls.size = nL)
    (hM : KXv l D clP (tyP cI cF cZ cJ) 25 (eP cI cF ad) ad y bytes maxL rm (.ref (ad 0) :: As) σ P X) (cw : CallW R s args own R_P index y bytes maxL none (kws y bytes maxL none) rm rm.cells rm.slots nA) (hn : As.length = nA)
    {st : List Value} (hst : st = As.reverse ++ .ref (ad 0) :: rest) (hroom : (rest.map fun v => v.category).sum ≤ 8) (hdg : decode cc pc = .ok (.invokevirtual index, 3)) (hf : cells + rm.cells ≤ R.cells ∧ slots + rm.slots ≤ R.slots)
    (kx : ∀ (E : String) (ce : Cell) (q9 : Addr) (H1 : Heap) (locs1 : List Loc), X E → wW D cI cF cZ cJ ad o σ f s A s.heap H1 locs1 → H1[q9]? = some ce → ce.vm = .none → s.vm.findClass E = some ce.cls → vx_W p l e R s m args below meth c H1 locs1 (cells + rm.cells) (slots + rm.slots) Q (F0 m pc ls rest) q9)
    (kk : ∀ (σ' : Mem) (H1 : Heap) (locs1 : List Loc), P σ' → wW D cI cF cZ cJ ad o σ' f s A s.heap H1 locs1 → W p l e R s m args below meth c H1 locs1 (cells + rm.cells) (slots + rm.slots) Q (F0 m (pc + 3) ls rest)) : W p l e R s m args below meth c H locs cells slots Q (F0 m pc ls st) := by
  obtain ⟨w, hO, hAo, hne⟩ := w
  exact vx_callv (vx_runV (As := As) (rest := rest) F (hM H.size) cw ⟨KPx_blind, va_recv w.1 w.2.1 (show clP[4]? = some (R_P, F_P, 5) from rfl) (by rw [mw_at (show 0 < 25 by decide)]; rfl), fun U hU hW => mW_prex w hT U hU hW⟩ rfl hn hsz hst (lv_room hroom) hdg hf) w.2.2.2.1 (fun q _ h => mW_sub w q h) (mW_sub w) (fun q _ h => mW_sub w q h)
    (fun Ec ce q9 u t H1 locs1 ht hvm hpx hBX hz1 hk1 hS1 hcell hv hcl => kx Ec ce q9 H1 locs1 hBX.1 ⟨mW_back w ht hBX.2 hS1, oC_kept hO hne hk1, hAo, hne⟩ hcell hv hcl)
    (fun σ' t H1 locs1 ht hvm hp hB hz1 hk1 hS1 => kk σ' H1 locs1 hp ⟨mW_back w ht hB hS1, oC_kept hO hne hk1, hAo, hne⟩)
/-- out[0] = v -/
theorem wr_last {v : Int64} (F : CallFix p m c cc nL s args Ts own) (w : wW D cI cF cZ cJ ad o σ f s A H0 H locs) (hdg : decode cc pc = .ok (.lastore, 1))
    (kk : ∀ (f' : Nat → Int64) (H1 : Heap) (locs1 : List Loc), f' 0 = v → wW D cI cF cZ cJ ad o σ f' s A H0 H1 locs1 → W p l e R s m args below meth c H1 locs1 cells slots Q (F0 m (pc + 1) ls rest)) : W p l e R s m args below meth c H locs cells slots Q (F0 m pc ls (.long v :: .int 0 :: .ref o :: rest)) := by
  obtain ⟨hx, hb, hml, hown, hts⟩ := F
  obtain ⟨⟨hK, hP, hD, hS, hA9⟩, hO, hAo, hne⟩ := w
  have hD2 : va_D A (mw 25 (eP cI cF ad) ad σ ++ oC cJ o f) := va_Dapp hD (va_Done hAo) (fun p1 h1 q1 h2 => by
    obtain ⟨i, hi, rfl⟩ := mw_mem h1
    have h3 : q1 = (o, .inl (cJ, 1, .inr (.inl f))) := List.mem_singleton.mp h2
    rw [h3]; exact hne i hi)
  have hat : (mw 25 (eP cI cF ad) ad σ ++ oC cJ o f)[25]? = some (o, .inl (cJ, 1, .inr (.inl f))) := by
    rw [List.getElem?_append_right (by rw [mw_len]; exact Nat.le_refl _), mw_len]; rfl
  refine va_last hx hb hK (va_Papp.mpr ⟨hP, hO⟩) hD2 hS 25 3 hat (show (tyP cI cF cZ cJ)[3]? = some (cJ, .long) from rfl) (nI_0 ▸ vp_in_nI (show 0 < 1 by decide) (by decide)) hdg (fun H1 locs1 hP1 hD1 hS1 => ?_)
  rw [List.set_append_right _ _ (by rw [mw_len]; exact Nat.le_refl _), mw_len] at hP1
  obtain ⟨hP2, hO2⟩ := va_Papp.mp hP1
  exact kk _ H1 locs1 (show vp_updL f _ v 0 = v from if_pos rfl) ⟨⟨hK, hP2, hD, hS1, hA9⟩, hO2, hAo, hne⟩
end WR
theorem gd_gt {y : MethodName} {cc : ByteArray} {maxL : Nat} {ret : Option FieldType} {ws : List Cond} (hc : Cond.code y cc maxL ret ∈ gt) (h : GoodIn (kws y cc maxL ret) ws) : GoodIn gt ws :=
  fun w hw => ⟨(List.mem_cons.mp (h w hw).1).elim (fun e => e ▸ hc) id, (h w hw).2⟩
theorem gd_H {y : MethodName} {cc : ByteArray} {maxL : Nat} {hh : List (Nat × Nat × Nat × Nat)} {ws : List Cond} (h : GoodIn gt ws) : GoodIn (kwsH y cc maxL hh) ws :=
  fun w hw => ⟨List.mem_cons_of_mem _ (h w hw).1, (h w hw).2⟩
theorem gd_S {y : MethodName} {cc : ByteArray} {maxL idx : Nat} {hh : List (Nat × Nat × Nat × Nat)} {own : String} (h1 : Cond.methodLink own idx y ∈ gt) (h2 : Cond.static y ∈ gt) (h3 : Cond.initialized y.cls ∈ gt) (h4 : Cond.codeWith y cc maxL (some .int) hh ∈ gt) : GoodIn gt (va_wsS own idx y (kwsH y cc maxL hh)) := by
  have h : ∀ w ∈ va_wsS own idx y (kwsH y cc maxL hh), w ∈ gt := by
    intro w hw
    unfold va_wsS kwsH at hw
    simp only [List.cons_append, List.nil_append, List.mem_cons] at hw
    rcases hw with rfl | rfl | rfl | rfl | hw
    · exact h1
    · exact h2
    · exact h3
    · exact h4
    · exact hw
  exact fun w hw => ⟨h w hw, gt_good (h w hw)⟩
