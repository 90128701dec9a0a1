/-! Contracts over memories -/
def kws (y : MethodName) (cc : ByteArray) (maxL : Nat) (ret : Option FieldType) : List Cond := Cond.code y cc maxL ret :: gt
theorem kws_in {y : MethodName} {cc : ByteArray} {maxL : Nat} {ret : Option FieldType} {w : Cond} (h : w ∈ gt) : w ∈ kws y cc maxL ret := List.mem_cons_of_mem _ h
theorem kws_good {y0 y : MethodName} {cc0 cc : ByteArray} {L0 maxL : Nat} {r0 ret : Option FieldType} (hc : Cond.code y cc maxL ret ∈ gt) {ex : List Cond} (hex : ∀ w ∈ ex, w ∈ gt) : GoodIn (kws y0 cc0 L0 r0) (ex ++ kws y cc maxL ret) := by
  intro w hw
  have h1 : w ∈ gt := by
    rcases List.mem_append.mp hw with h | h
    · exact hex w h
    · rcases List.mem_cons.mp h with rfl | h
      · exact hc
      · exact h
  exact ⟨List.mem_cons_of_mem _ h1, gt_good h1⟩
def KPc (D : va_G) (cl : List vw_C) (tys : List (ClassId × FieldType)) (n : Nat) (E : Nat → (Nat → Int32) → va_E) (ad : Nat → Nat) (σ : Mem) (sz : Nat) (av : List Value) : Array Value → State → Prop :=
  va_Pc av (fun U => U.heap.size = sz ∧ va_P D cl (mw n E ad σ) U.heap ∧ va_K D cl tys U ∧ va_D (fun _ => True) (mw n E ad σ))
def KB (D : va_G) (cl : List vw_C) (tys : List (ClassId × FieldType)) (n : Nat) (E : Nat → (Nat → Int32) → va_E) (ad : Nat → Nat) : Mem → State → Prop := fun σ' t => va_P D cl (mw n E ad σ') t.heap ∧ va_K D cl tys t
/-- an answer that is an int (or a boolean) -/
def KI (l : Launch) (D : va_G) (cl : List vw_C) (tys : List (ClassId × FieldType)) (n : Nat) (E : Nat → (Nat → Int32) → va_E) (ad : Nat → Nat) (y : MethodName) (cc : ByteArray) (maxL : Nat) (ret : Option FieldType) (rm : Room) (av : List Value) (σ : Mem) (P : Int32 → Mem → Prop) : Prop :=
  ∀ sz, Met l y (kws y cc maxL ret) rm (KPc D cl tys n E ad σ sz av) (va_Qi P (KB D cl tys n E ad) (va_A (mw n E ad σ) sz)) 0 0 (va_A (mw n E ad σ) sz)
def KV (l : Launch) (D : va_G) (cl : List vw_C) (tys : List (ClassId × FieldType)) (n : Nat) (E : Nat → (Nat → Int32) → va_E) (ad : Nat → Nat) (y : MethodName) (cc : ByteArray) (maxL : Nat) (rm : Room) (av : List Value) (σ : Mem) (P : Mem → Prop) : Prop :=
  ∀ sz, Met l y (kws y cc maxL none) rm (KPc D cl tys n E ad σ sz av) (va_Qv P (KB D cl tys n E ad) (va_A (mw n E ad σ) sz)) 0 0 (va_A (mw n E ad σ) sz)
theorem KPc_blind {D : va_G} {cl : List vw_C} {tys : List (ClassId × FieldType)} {n : Nat} {E : Nat → (Nat → Int32) → va_E} {ad : Nat → Nat} {σ : Mem} {sz : Nat} {av : List Value} : FrameBlind (KPc D cl tys n E ad σ sz av) := by
  intro a U g mk q
  obtain ⟨q0, q1, qP, qK, qD⟩ := q
  exact ⟨q0, q1, qP, va_K.moved (u := U) (U := U.calling g mk a) (Vm.Alike.refl U.vm) qK, qD⟩
section KR
variable {p : Program} {l : Launch} {e : Env} {R : Room} {s : State} {m : MethodId} {args : Array Value} {below : List Frame} {meth : Method} {c : Code} {H : Heap} {locs : List Loc} {cells slots : Nat} {Q : State → Prop}
variable {cc : ByteArray} {pc : Nat} {ls : Array Slot} {rest : List Value} {D : va_G} {cl : List vw_C} {A : Nat → Prop} {tys : List (ClassId × FieldType)} {H0 : Heap} {n : Nat} {E : Nat → (Nat → Int32) → va_E} {ad : Nat → Nat} {σ : Mem} {nL : Nat} {Ts : List Cond} {own : String}
variable {y : MethodName} {bytes : ByteArray} {maxL index : Nat} {ret : Option FieldType} {rm : Room}
theorem KI.of {av : List Value} {P : Int32 → Mem → Prop} (hy : plainName y.cls = true) (hL : (lg_sl av).length ≤ maxL)
    (body : ∀ p e s m args below meth c A ls, CallFix p m c bytes maxL s args (kws y bytes maxL ret) y.cls → mW D cl tys n E ad σ s A s.heap s.heap [] → lv_has ls maxL (lv_args 0 av) → meth.sig.returnType = ret → meth.locks = false →
      W p l e rm s m args below meth c s.heap [] 0 0 (MQ below (va_Qi P (KB D cl tys n E ad) A) args s 0 0 A) (F0 m 0 ls [])) : KI l D cl tys n E ad y bytes maxL ret rm av σ P := by
  intro sz
  refine Met.ofW (cc := bytes) (maxL := maxL) (ret := ret) hy rfl ?_
  intro p e s m args below meth c s₁ B hml hv
  obtain ⟨rfl, hsz, hP, hK, hD0⟩ := hv
  subst hsz
  have hl := lv_entry av (n := maxL) hL
  rw [lg_entry_eq]
  exact body p e s m _ below meth c _ _ ⟨B.exec, B.bytes, hml, findClass_of_methodNamed B.named, atoms_spec (ws := kws y bytes maxL ret) B.pre⟩ ⟨hK, hP, hD0.self, va_S.rf, fun q h => Or.inr h⟩ hl B.returns B.notSynchronized
theorem KV.of {av : List Value} {P : Mem → Prop} (hy : plainName y.cls = true) (hL : (lg_sl av).length ≤ maxL)
    (body : ∀ p e s m args below meth c A ls, CallFix p m c bytes maxL s args (kws y bytes maxL none) y.cls → mW D cl tys n E ad σ s A s.heap s.heap [] → lv_has ls maxL (lv_args 0 av) → meth.sig.returnType = none → meth.locks = false →
      W p l e rm s m args below meth c s.heap [] 0 0 (MQ below (va_Qv P (KB D cl tys n E ad) A) args s 0 0 A) (F0 m 0 ls [])) : KV l D cl tys n E ad y bytes maxL rm av σ P := by
  intro sz
  refine Met.ofW (cc := bytes) (maxL := maxL) (ret := none) hy rfl ?_
  intro p e s m args below meth c s₁ B hml hv
  obtain ⟨rfl, hsz, hP, hK, hD0⟩ := hv
  subst hsz
  have hl := lv_entry av (n := maxL) hL
  rw [lg_entry_eq]
  exact body p e s m _ below meth c _ _ ⟨B.exec, B.bytes, hml, findClass_of_methodNamed B.named, atoms_spec (ws := kws y bytes maxL none) B.pre⟩ ⟨hK, hP, hD0.self, va_S.rf, fun q h => Or.inr h⟩ hl B.returns B.notSynchronized
theorem mr_iret {P : Int32 → Mem → Prop} {r : Int32} (F : CallFix p m c cc nL s args Ts own) (w : mW D cl tys n E ad σ s A s.heap H locs) (hr : meth.sig.returnType = some .int) (hlocks : meth.locks = false) (hp : P r σ) (hdg : decode cc pc = .ok (.ireturn, 1)) :
    W p l e R s m args below meth c H locs 0 0 (MQ below (va_Qi P (KB D cl tys n E ad) A) args s 0 0 A) (F0 m pc ls [.int r]) := by
  obtain ⟨hx, hb, hml, hown, hts⟩ := F
  obtain ⟨hK, hP, hD, hS, hA9⟩ := w
  exact W.iret (v := r) hx hb hr (fun t ht hW => ⟨⟨r, σ, rfl, hp, by rw [ht]; exact hP, va_K.moved hW.alike hK⟩, hS.F ht⟩) hS.2.2 hdg hlocks
theorem mr_zret {P : Int32 → Mem → Prop} {r : Int32} (F : CallFix p m c cc nL s args Ts own) (w : mW D cl tys n E ad σ s A s.heap H locs) (hr : meth.sig.returnType = some .boolean) (hlocks : meth.locks = false) (h01 : r = 0 ∨ r = 1) (hp : P r σ) (hdg : decode cc pc = .ok (.ireturn, 1)) :
    W p l e R s m args below meth c H locs 0 0 (MQ below (va_Qi P (KB D cl tys n E ad) A) args s 0 0 A) (F0 m pc ls [.int r]) := by
  obtain ⟨hx, hb, hml, hown, hts⟩ := F
  obtain ⟨hK, hP, hD, hS, hA9⟩ := w
  exact W.zret (v := r) (ty := .boolean) hx hb hr (by rcases h01 with rfl | rfl <;> rfl) (fun t ht hW => ⟨⟨r, σ, rfl, hp, by rw [ht]; exact hP, va_K.moved hW.alike hK⟩, hS.F ht⟩) hS.2.2 hdg hlocks
theorem mr_vret {P : Mem → Prop} (F : CallFix p m c cc nL s args Ts own) (w : mW D cl tys n E ad σ s A s.heap H locs) (hr : meth.sig.returnType = none) (hlocks : meth.locks = false) (hp : P σ) (hdg : decode cc pc = .ok (.return_, 1)) :
    W p l e R s m args below meth c H locs 0 0 (MQ below (va_Qv P (KB D cl tys n E ad) A) args s 0 0 A) (F0 m pc ls []) := by
  obtain ⟨hx, hb, hml, hown, hts⟩ := F
  obtain ⟨hK, hP, hD, hS, hA9⟩ := w
  exact W.vret hx hb hr (fun t ht hW => ⟨⟨σ, rfl, hp, by rw [ht]; exact hP, va_K.moved hW.alike hK⟩, hS.F ht⟩) hS.2.2 hdg hlocks
theorem mW_sub (w : mW D cl tys n E ad σ s A H0 H locs) : ∀ q, va_A (mw n E ad σ) H.size q → A q := by
  intro q hq
  rcases hq with ⟨k, e9, hk⟩ | h
  · exact w.2.2.1.2 k _ hk
  · exact w.2.2.2.2 q (Nat.le_trans w.2.2.2.1.1 h)
theorem mW_back {σ' : Mem} {t : State} {H1 : Heap} {locs1 : List Loc} (w : mW D cl tys n E ad σ s A H0 H locs) (ht : t.heap = H1) (hB : KB D cl tys n E ad σ' t) (hS : va_S A H0 H1 locs1) : mW D cl tys n E ad σ' s A H0 H1 locs1 :=
  ⟨w.1, by rw [← ht]; exact hB.1, mw_D w.2.2.1, hS, w.2.2.2.2⟩
theorem mW_pre (w : mW D cl tys n E ad σ s A H0 H locs) {av : List Value} (U : State) (hU : U.heap = H) (hW : s.WarmedH U.vm) : KPc D cl tys n E ad σ H.size av av.toArray U :=
  ⟨rfl, by rw [hU], by rw [hU]; exact w.2.1, va_K.moved hW.alike w.1, w.2.2.1.weaken (fun _ _ _ _ => trivial)⟩
/-- a call of a method of an object: the receiver is cell i -/
theorem mr_callVi {C : String} {T : u_T} {N ci i : Nat} {fs : List Value} {As : List Value} {P : Int32 → Mem → Prop} {nA : Nat} (F : CallFix p m c cc nL s args Ts own) (w : mW D cl tys n E ad σ s A H0 H locs) (hsz : ls.size = nL)
    (hM : KI l D cl tys n E ad y bytes maxL ret rm (.ref (ad i) :: As) σ P) (cw : CallW R s args own C index y bytes maxL ret (kws y bytes maxL ret) rm 0 0 nA) (hn : As.length = nA) (hi : i < n) (he : E i (σ i) = .inr (ci, fs)) (hc : cl[ci]? = some (C, T, N))
    {st : List Value} (hst : st = As.reverse ++ .ref (ad i) :: rest) (hroom : (rest.map fun v => v.category).sum ≤ 8) (hdg : decode cc pc = .ok (.invokevirtual index, 3)) (hf : cells ≤ R.cells ∧ slots ≤ R.slots)
    (kk : ∀ (r : Int32) (σ' : Mem) (H1 : Heap) (locs1 : List Loc), P r σ' → mW D cl tys n E ad σ' s A H0 H1 locs1 → W p l e R s m args below meth c H1 locs1 cells slots Q (F0 m (pc + 3) ls (.int r :: rest))) : W p l e R s m args below meth c H locs cells slots Q (F0 m pc ls st) :=
  va_calli (va_runV (As := As) (rest := rest) F (hM H.size) cw ⟨KPc_blind, va_recv w.1 w.2.1 hc (by rw [mw_at hi, he]), fun U hU hW => mW_pre w U hU hW⟩ rfl hn hsz hst (lv_room hroom) hdg hf) w.2.2.2.1 (fun q _ h => mW_sub w q h) (mW_sub w) (fun r σ' t H1 locs1 ht hvm hp hB hz1 hk1 hS => kk r σ' H1 locs1 hp (mW_back w ht hB hS))
theorem mr_callVv {C : String} {T : u_T} {N ci i : Nat} {fs : List Value} {As : List Value} {P : Mem → Prop} {nA : Nat} (F : CallFix p m c cc nL s args Ts own) (w : mW D cl tys n E ad σ s A H0 H locs) (hsz : ls.size = nL)
    (hM : KV l D cl tys n E ad y bytes maxL rm (.ref (ad i) :: As) σ P) (cw : CallW R s args own C index y bytes maxL none (kws y bytes maxL none) rm 0 0 nA) (hn : As.length = nA) (hi : i < n) (he : E i (σ i) = .inr (ci, fs)) (hc : cl[ci]? = some (C, T, N))
    {st : List Value} (hst : st = As.reverse ++ .ref (ad i) :: rest) (hroom : (rest.map fun v => v.category).sum ≤ 8) (hdg : decode cc pc = .ok (.invokevirtual index, 3)) (hf : cells ≤ R.cells ∧ slots ≤ R.slots)
    (kk : ∀ (σ' : Mem) (H1 : Heap) (locs1 : List Loc), P σ' → mW D cl tys n E ad σ' s A H0 H1 locs1 → W p l e R s m args below meth c H1 locs1 cells slots Q (F0 m (pc + 3) ls rest)) : W p l e R s m args below meth c H locs cells slots Q (F0 m pc ls st) :=
  va_callv (va_runV (As := As) (rest := rest) F (hM H.size) cw ⟨KPc_blind, va_recv w.1 w.2.1 hc (by rw [mw_at hi, he]), fun U hU hW => mW_pre w U hU hW⟩ rfl hn hsz hst (lv_room hroom) hdg hf) w.2.2.2.1 (fun q _ h => mW_sub w q h) (mW_sub w) (fun σ' t H1 locs1 ht hvm hp hB hz1 hk1 hS => kk σ' H1 locs1 hp (mW_back w ht hB hS))
theorem mr_callSi {As : List Value} {P : Int32 → Mem → Prop} {nA : Nat} (F : CallFix p m c cc nL s args Ts own) (w : mW D cl tys n E ad σ s A H0 H locs) (hsz : ls.size = nL)
    (hM : KI l D cl tys n E ad y bytes maxL ret rm As σ P) (cw : CallB R s args own index y bytes maxL ret (kws y bytes maxL ret) rm 0 0 nA ∧ (Cond.static y).before args s = true) (hn : As.length = nA)
    {st : List Value} (hst : st = As.reverse ++ rest) (hroom : (rest.map fun v => v.category).sum ≤ 8) (hdg : decode cc pc = .ok (.invokestatic index, 3)) (hf : cells ≤ R.cells ∧ slots ≤ R.slots)
    (kk : ∀ (r : Int32) (σ' : Mem) (H1 : Heap) (locs1 : List Loc), P r σ' → mW D cl tys n E ad σ' s A H0 H1 locs1 → W p l e R s m args below meth c H1 locs1 cells slots Q (F0 m (pc + 3) ls (.int r :: rest))) : W p l e R s m args below meth c H locs cells slots Q (F0 m pc ls st) :=
  va_calli (va_runS (As := As) (rest := rest) F (hM H.size) cw ⟨KPc_blind, fun U hU hW => mW_pre w U hU hW⟩ rfl hn hsz hst (lv_room hroom) hdg hf) w.2.2.2.1 (fun q _ h => mW_sub w q h) (mW_sub w) (fun r σ' t H1 locs1 ht hvm hp hB hz1 hk1 hS => kk r σ' H1 locs1 hp (mW_back w ht hB hS))
theorem mr_callSv {As : List Value} {P : Mem → Prop} {nA : Nat} (F : CallFix p m c cc nL s args Ts own) (w : mW D cl tys n E ad σ s A H0 H locs) (hsz : ls.size = nL)
    (hM : KV l D cl tys n E ad y bytes maxL rm As σ P) (cw : CallB R s args own index y bytes maxL none (kws y bytes maxL none) rm 0 0 nA ∧ (Cond.static y).before args s = true) (hn : As.length = nA)
    {st : List Value} (hst : st = As.reverse ++ rest) (hroom : (rest.map fun v => v.category).sum ≤ 8) (hdg : decode cc pc = .ok (.invokestatic index, 3)) (hf : cells ≤ R.cells ∧ slots ≤ R.slots)
    (kk : ∀ (σ' : Mem) (H1 : Heap) (locs1 : List Loc), P σ' → mW D cl tys n E ad σ' s A H0 H1 locs1 → W p l e R s m args below meth c H1 locs1 cells slots Q (F0 m (pc + 3) ls rest)) : W p l e R s m args below meth c H locs cells slots Q (F0 m pc ls st) :=
  va_callv (va_runS (As := As) (rest := rest) F (hM H.size) cw ⟨KPc_blind, fun U hU hW => mW_pre w U hU hW⟩ rfl hn hsz hst (lv_room hroom) hdg hf) w.2.2.2.1 (fun q _ h => mW_sub w q h) (mW_sub w) (fun σ' t H1 locs1 ht hvm hp hB hz1 hk1 hS => kk σ' H1 locs1 hp (mW_back w ht hB hS))
end KR
