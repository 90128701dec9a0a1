/-! Contracts of methods that return or throw, over memories: a throw leaves the memory as it was -/
abbrev cISE : String := "java/lang/IllegalStateException"
abbrev cIOB : String := "java/lang/IndexOutOfBoundsException"
abbrev cIAE : String := "java/lang/IllegalArgumentException"
abbrev upX : List String := ["java/lang/RuntimeException", "java/lang/Exception"]
def tXw : List Cond := (vx_atS R_P 92 cISE upX ++ (vx_atS R_P 67 cIOB upX ++ vx_atS R_P 160 cIAE upX)).filter (fun w => !goodWord w)
set_option maxRecDepth 20000 in
theorem tXw_ok : ∀ w ∈ tXw, w.onTables = true ∧ w.keepsFace = true := by decide +kernel
set_option maxRecDepth 20000 in
theorem tXg1 : ∀ w ∈ (vx_atS R_P 92 cISE upX).filter goodWord, w ∈ gt := by decide +kernel
set_option maxRecDepth 20000 in
theorem tXg2 : ∀ w ∈ (vx_atS R_P 67 cIOB upX).filter goodWord, w ∈ gt := by decide +kernel
set_option maxRecDepth 20000 in
theorem tXg3 : ∀ w ∈ (vx_atS R_P 160 cIAE upX).filter goodWord, w ∈ gt := by decide +kernel
set_option maxRecDepth 20000 in
theorem tXb1 : ∀ w ∈ (vx_atS R_P 92 cISE upX).filter (fun w => !goodWord w), w ∈ tXw := by decide +kernel
set_option maxRecDepth 20000 in
theorem tXb2 : ∀ w ∈ (vx_atS R_P 67 cIOB upX).filter (fun w => !goodWord w), w ∈ tXw := by decide +kernel
set_option maxRecDepth 20000 in
theorem tXb3 : ∀ w ∈ (vx_atS R_P 160 cIAE upX).filter (fun w => !goodWord w), w ∈ tXw := by decide +kernel
set_option maxRecDepth 20000 in
theorem tXo1 : ∀ w ∈ Cond.classLink R_P 88 cISE :: Cond.initialized cISE :: vx_atS R_P 92 cISE upX, vx_ot w = true := by decide +kernel
set_option maxRecDepth 20000 in
theorem tXo2 : ∀ w ∈ Cond.classLink R_P 63 cIOB :: Cond.initialized cIOB :: vx_atS R_P 67 cIOB upX, vx_ot w = true := by decide +kernel
set_option maxRecDepth 20000 in
theorem tXo3 : ∀ w ∈ Cond.classLink R_P 156 cIAE :: Cond.initialized cIAE :: vx_atS R_P 160 cIAE upX, vx_ot w = true := by decide +kernel
def strsP : List (Nat × String) := [(65, "the mark can't be changed"), (90, "the frame is empty"), (107, "a frame has no such thing"), (145, "the log has no such place"), (158, "fewer than no writes"), (170, "power is on"), (184, "power is off"), (186, "the frame has no pins"), (188, "no such page"), (190, "no such frame"), (192, "no such word")]
/-- what a throw stands on: two statics, texts, words of the tables -/
def tF (A : Nat → Prop) (U : State) (H : Heap) : Prop :=
  vx_Zq Bundle.tN "UNASSIGNED_STACK" Bundle.steD A U H ∧ vx_Zq Bundle.tN "SUPPRESSED_SENTINEL" Bundle.listD A U H ∧ (∀ q ∈ strsP, ∃ a, vk_R R_P q.1 q.2 a U) ∧ ∀ w ∈ tXw, w.before #[] U = true
theorem tw_at {args a' : Array Value} {s U : State} {w : Cond} (h1 : w.onTables = true) (h2 : w.keepsFace = true) (hW : s.WarmedH U.vm) (h : w.before args s = true) : w.before a' U = true :=
  va_tabs h1 (show (s.setVm U.vm).vm = U.vm from rfl) (Cond.before_shiftedFace (State.Shifted.of_warmed hW) w h2 h)
theorem tF.go {A B : Nat → Prop} {s U : State} {H : Heap} (h : tF A s s.heap) (hU : U.heap = H) (hW : s.WarmedH U.vm) (hk : ∀ a : Nat, a < s.heap.size → ¬ A a → H[a]? = s.heap[a]?) (hAB : ∀ q, B q → A q) : tF B U U.heap := by
  obtain ⟨h1, h2, h3, h4⟩ := h
  rw [hU]
  refine ⟨vx_Zq.moved hW.alike ((vx_Zq.kept h1 hk).narrow hAB), vx_Zq.moved hW.alike ((vx_Zq.kept h2 hk).narrow hAB), fun q hq => ?_, fun w hw => tw_at (tXw_ok w hw).1 (tXw_ok w hw).2 hW (h4 w hw)⟩
  obtain ⟨a, ha⟩ := h3 q hq
  exact ⟨a, vk_R.warm hW ha⟩
def KPx (D : va_G) (cl : List vw_C) (tys : List (ClassId × FieldType)) (n : Nat) (E : Nat → (Nat → Int32) → va_E) (ad : Nat → Nat) (σ : Mem) (sz : Nat) (av : List Value) : Array Value → State → Prop :=
  va_Pc av (fun U => (U.heap.size = sz ∧ va_P D cl (mw n E ad σ) U.heap ∧ va_K D cl tys U ∧ va_D (fun _ => True) (mw n E ad σ)) ∧ tF (va_A (mw n E ad σ) sz) U U.heap)
def XCf (D : va_G) (cl : List vw_C) (tys : List (ClassId × FieldType)) (n : Nat) (E : Nat → (Nat → Int32) → va_E) (ad : Nat → Nat) (σ : Mem) (X : String → Prop) (A : Nat → Prop) : String → State → State → Prop :=
  vx_X (fun _ : Unit => True) (fun C _ t => X C ∧ KB D cl tys n E ad σ t) A
def KXi (l : Launch) (D : va_G) (cl : List vw_C) (tys : List (ClassId × FieldType)) (n : Nat) (E : Nat → (Nat → Int32) → va_E) (ad : Nat → Nat) (y : MethodName) (cc : ByteArray) (maxL : Nat) (ret : Option FieldType) (rm : Room) (av : List Value) (σ : Mem) (P : Int32 → Mem → Prop) (X : String → Prop) : Prop :=
  ∀ sz, vx_Met l y (kws y cc maxL ret) rm (KPx D cl tys n E ad σ sz av) (va_Qi P (KB D cl tys n E ad) (va_A (mw n E ad σ) sz)) (XCf D cl tys n E ad σ X (va_A (mw n E ad σ) sz)) rm.cells rm.slots (va_A (mw n E ad σ) sz)
def KXv (l : Launch) (D : va_G) (cl : List vw_C) (tys : List (ClassId × FieldType)) (n : Nat) (E : Nat → (Nat → Int32) → va_E) (ad : Nat → Nat) (y : MethodName) (cc : ByteArray) (maxL : Nat) (rm : Room) (av : List Value) (σ : Mem) (P : Mem → Prop) (X : String → Prop) : Prop :=
  ∀ sz, vx_Met l y (kws y cc maxL none) rm (KPx D cl tys n E ad σ sz av) (va_Qv P (KB D cl tys n E ad) (va_A (mw n E ad σ) sz)) (XCf D cl tys n E ad σ X (va_A (mw n E ad σ) sz)) rm.cells rm.slots (va_A (mw n E ad σ) sz)
theorem KPx_blind {D : va_G} {cl : List vw_C} {tys : List (ClassId × FieldType)} {n : Nat} {E : Nat → (Nat → Int32) → va_E} {ad : Nat → Nat} {σ : Mem} {sz : Nat} {av : List Value} : FrameBlind (KPx D cl tys n E ad σ sz av) := by
  intro a U g mk q
  obtain ⟨q0, ⟨q1, qP, qK, qD⟩, qT⟩ := q
  refine ⟨q0, ⟨q1, qP, va_K.moved (u := U) (U := U.calling g mk a) (Vm.Alike.refl U.vm) qK, qD⟩, ?_⟩
  obtain ⟨h1, h2, h3, h4⟩ := qT
  refine ⟨vx_Zq.moved (u := U) (U := U.calling g mk a) (Vm.Alike.refl U.vm) h1, vx_Zq.moved (u := U) (U := U.calling g mk a) (Vm.Alike.refl U.vm) h2, fun q hq => ?_, fun w hw => va_tabs (u := U) (U := U.calling g mk a) (tXw_ok w hw).1 rfl (h4 w hw)⟩
  obtain ⟨a9, ha⟩ := h3 q hq
  exact ⟨a9, vk_R.same rfl ha⟩
section KXR
variable {p : Program} {l : Launch} {e : Env} {R : Room} {s : State} {m : MethodId} {args : Array Value} {below : List Frame} {meth : Method} {c : Code} {H : Heap} {locs : List Loc} {cells slots : Nat} {Q : State → Prop}
variable {cc : ByteArray} {pc : Nat} {ls : Array Slot} {rest : List Value} {D : va_G} {cl : List vw_C} {A : Nat → Prop} {tys : List (ClassId × FieldType)} {H0 : Heap} {n : Nat} {E : Nat → (Nat → Int32) → va_E} {ad : Nat → Nat} {σ σ' : Mem} {nL : Nat} {Ts : List Cond} {own : String}
variable {y : MethodName} {bytes : ByteArray} {maxL index mc ms : Nat} {ret : Option FieldType} {rm : Room} {X X' : String → Prop} {Qc : Array Value → State → Outcome → State → Prop}
theorem KXi.of {av : List Value} {P : Int32 → Mem → Prop} (hy : plainName y.cls = true) (hL : (lg_sl av).length ≤ maxL)
    (body : ∀ p e s m args below meth c A ls, CallFix p m c bytes maxL s args (kws y bytes maxL ret) y.cls → mW D cl tys n E ad σ s A s.heap s.heap [] → tF A s s.heap → lv_has ls maxL (lv_args 0 av) → meth.sig.returnType = ret → meth.locks = false → (∀ x ∈ c.exceptionTable.toList, False) →
      W p l e rm s m args below meth c s.heap [] 0 0 (vx_MQ below (va_Qi P (KB D cl tys n E ad) A) (XCf D cl tys n E ad σ X A) args s rm.cells rm.slots A) (F0 m 0 ls [])) : KXi l D cl tys n E ad y bytes maxL ret rm av σ P X := by
  intro sz
  refine vx_ofW (cc := bytes) (maxL := maxL) (ret := ret) hy rfl ?_
  intro p e s m args below meth c s₁ B hml ht hv
  obtain ⟨rfl, ⟨hsz, hP, hK, hD0⟩, hT⟩ := hv
  subst hsz
  have hl := lv_entry av (n := maxL) hL
  rw [lg_entry_eq]
  exact body p e s m _ below meth c _ _ ⟨B.exec, B.bytes, hml, findClass_of_methodNamed B.named, atoms_spec (ws := kws y bytes maxL ret) B.pre⟩ ⟨hK, hP, hD0.self, va_S.rf, fun q h => Or.inr h⟩ hT hl B.returns B.notSynchronized ht
theorem KXv.of {av : List Value} {P : Mem → Prop} (hy : plainName y.cls = true) (hL : (lg_sl av).length ≤ maxL)
    (body : ∀ p e s m args below meth c A ls, CallFix p m c bytes maxL s args (kws y bytes maxL none) y.cls → mW D cl tys n E ad σ s A s.heap s.heap [] → tF A s s.heap → lv_has ls maxL (lv_args 0 av) → meth.sig.returnType = none → meth.locks = false → (∀ x ∈ c.exceptionTable.toList, False) →
      W p l e rm s m args below meth c s.heap [] 0 0 (vx_MQ below (va_Qv P (KB D cl tys n E ad) A) (XCf D cl tys n E ad σ X A) args s rm.cells rm.slots A) (F0 m 0 ls [])) : KXv l D cl tys n E ad y bytes maxL rm av σ P X := by
  intro sz
  refine vx_ofW (cc := bytes) (maxL := maxL) (ret := none) hy rfl ?_
  intro p e s m args below meth c s₁ B hml ht hv
  obtain ⟨rfl, ⟨hsz, hP, hK, hD0⟩, hT⟩ := hv
  subst hsz
  have hl := lv_entry av (n := maxL) hL
  rw [lg_entry_eq]
  exact body p e s m _ below meth c _ _ ⟨B.exec, B.bytes, hml, findClass_of_methodNamed B.named, atoms_spec (ws := kws y bytes maxL none) B.pre⟩ ⟨hK, hP, hD0.self, va_S.rf, fun q h => Or.inr h⟩ hT hl B.returns B.notSynchronized ht
theorem mr_xiret {P : Int32 → Mem → Prop} {XC : String → State → State → Prop} {r : Int32} (F : CallFix p m c cc nL s args Ts own) (w : mW D cl tys n E ad σ s A s.heap H locs) (hr : meth.sig.returnType = some .int) (hlocks : meth.locks = false) (hc : cells ≤ mc) (hs : slots ≤ ms) (hp : P r σ) (hdg : decode cc pc = .ok (.ireturn, 1)) :
    W p l e R s m args below meth c H locs cells slots (vx_MQ below (va_Qi P (KB D cl tys n E ad) A) XC args s mc ms A) (F0 m pc ls [.int r]) := by
  obtain ⟨hx, hb, hml, hown, hts⟩ := F
  obtain ⟨hK, hP, hD, hS, hA9⟩ := w
  refine W.widen hc hs (vx_ret ?_)
  exact W.iret (v := r) hx hb hr (fun t ht hW => ⟨⟨r, σ, rfl, hp, by rw [ht]; exact hP, va_K.moved hW.alike hK⟩, hS.F ht⟩) hS.2.2 hdg hlocks
theorem mr_xvret {P : Mem → Prop} {XC : String → State → State → Prop} (F : CallFix p m c cc nL s args Ts own) (w : mW D cl tys n E ad σ s A s.heap H locs) (hr : meth.sig.returnType = none) (hlocks : meth.locks = false) (hc : cells ≤ mc) (hs : slots ≤ ms) (hp : P σ) (hdg : decode cc pc = .ok (.return_, 1)) :
    W p l e R s m args below meth c H locs cells slots (vx_MQ below (va_Qv P (KB D cl tys n E ad) A) XC args s mc ms A) (F0 m pc ls []) := by
  obtain ⟨hx, hb, hml, hown, hts⟩ := F
  obtain ⟨hK, hP, hD, hS, hA9⟩ := w
  refine W.widen hc hs (vx_ret ?_)
  exact W.vret hx hb hr (fun t ht hW => ⟨⟨σ, rfl, hp, by rw [ht]; exact hP, va_K.moved hW.alike hK⟩, hS.F ht⟩) hS.2.2 hdg hlocks
/-- throw new E("text") -/
theorem mr_throw {cls text : String} {ik is ic : Nat} (hl9 : l.stackTraces = false) (F : CallFix p m c cc nL s args (kws y bytes maxL ret) R_P) (w : mW D cl tys n E ad σ s A s.heap H locs) (hT : tF A s s.heap) (hsz : ls.size = nL)
    (hcls : Bundle.fit cls = true) (hk : Cond.classLink R_P ik cls ∈ gt) (hini : Cond.initialized cls ∈ gt) (hstr : (is, text) ∈ strsP) (hg : ∀ w ∈ (vx_atS R_P ic cls upX).filter goodWord, w ∈ gt) (hbd : ∀ w ∈ (vx_atS R_P ic cls upX).filter (fun w => !goodWord w), w ∈ tXw) (ho : ∀ w ∈ Cond.classLink R_P ik cls :: Cond.initialized cls :: vx_atS R_P ic cls upX, vx_ot w = true)
    (d0 : decode cc pc = .ok (.new ik, 3)) (d3 : decode cc (pc + 3) = .ok (.dup, 1)) (d4 : decode cc (pc + 4) = .ok (.ldc is, 2)) (d6 : decode cc (pc + 6) = .ok (.invokespecial ic, 3)) (d9 : decode cc (pc + 9) = .ok (.athrow, 1))
    (hout : ∀ x ∈ c.exceptionTable.toList, False) (hRf : 5 < R.frames) (hRl : (rest.map fun v => v.category).sum + 82 ≤ R.locals) (hRc : cells + 1 ≤ R.cells) (hRs : slots + 6 ≤ R.slots) (hlocks : meth.locks = false) (hc : cells + 1 ≤ mc) (hs : slots + 6 ≤ ms) (hX : X cls) :
    W p l e R s m args below meth c H locs cells slots (vx_MQ below Qc (XCf D cl tys n E ad σ X A) args s mc ms A) (F0 m pc ls rest) := by
  obtain ⟨hx, hb, hml, hown, hts⟩ := F
  obtain ⟨hK, hP, hD, hS, hA9⟩ := w
  obtain ⟨h1, h2, h3, h4⟩ := hT
  obtain ⟨sa, hsa⟩ := h3 _ hstr
  have hsame : ∀ w ∈ tXw, w.before args s = true := fun w hw => va_tabs (tXw_ok w hw).1 rfl (h4 w hw)
  exact vx_throwS hx hb hl9 (names := upX) hown hcls (by decide +kernel) (hts _ (kws_in hk)) (hts _ (kws_in hini)) hsa (vx_hat (fun w hw => hts _ (kws_in (hg w hw))) hbd hsame) ho h1 h2 hS (hsz.trans hml.symm) d0 d3 d4 d6 d9 (fun x hx9 => (hout x hx9).elim) hRf hRl hRc hRs hlocks
    (fun t hal hz hq => ⟨(), trivial, ⟨hX, va_P.kept hP (fun k q hk9 => hq _ (hP k q hk9).lt), va_K.moved hal hK⟩, Nat.le_trans hS.1 hz, fun q h9 h8 => by rw [hq q (Nat.lt_of_lt_of_le h9 hS.1)]; exact hS.2.1 q h9 h8⟩) hS.2.2 hc hs
theorem mW_prex (w : mW D cl tys n E ad σ s A s.heap H locs) (hT : tF A s s.heap) {av : List Value} (U : State) (hU : U.heap = H) (hW : s.WarmedH U.vm) : KPx D cl tys n E ad σ H.size av av.toArray U :=
  ⟨rfl, ⟨by rw [hU], by rw [hU]; exact w.2.1, va_K.moved hW.alike w.1, w.2.2.1.weaken (fun _ _ _ _ => trivial)⟩, tF.go hT hU hW w.2.2.2.1.2.1 (mW_sub w)⟩
theorem mr_xout {Ec : String} {ce : Cell} {q9 : Addr} {t : State} {H1 : Heap} {locs1 : List Loc} (w : mW D cl tys n E ad σ s A s.heap H locs) (ht : t.heap = H1) (hB : X Ec ∧ KB D cl tys n E ad σ t) (hXX : ∀ C, X C → X' C) (hS1 : va_S A s.heap H1 locs1) (hcell : H1[q9]? = some ce) (hv : ce.vm = .none) (hcl : s.vm.findClass Ec = some ce.cls) (hout : ∀ x ∈ c.exceptionTable.toList, False) (hlocks : meth.locks = false) (hc : cells ≤ mc) (hs : slots ≤ ms) :
    vx_W p l e R s m args below meth c H1 locs1 cells slots (vx_MQ below Qc (XCf D cl tys n E ad σ X' A) args s mc ms A) (F0 m pc ls rest) q9 :=
  vx_out (fun x hx9 => (hout x hx9).elim) hlocks hcell hv hcl (fun t' ht' hal => ⟨(), trivial, ⟨hXX _ hB.1, by rw [ht', ← ht]; exact hB.2.1, va_K.moved hal w.1⟩, hS1.F ht'⟩) hS1.2.2 hc hs
/-- a call of a method that returns nothing or throws -/
theorem mr_xVv {C : String} {T : u_T} {N ci i : Nat} {fs : List Value} {As : List Value} {P : Mem → Prop} {nA : Nat} (F : CallFix p m c cc nL s args Ts own) (w : mW D cl tys n E ad σ s A s.heap H locs) (hT : tF A s s.heap) (hsz : ls.size = nL)
    (hM : KXv l D cl tys n E ad y bytes maxL rm (.ref (ad i) :: As) σ P X) (cw : CallW R s args own C index y bytes maxL none (kws y bytes maxL none) rm rm.cells rm.slots nA) (hn : As.length = nA) (hi : i < n) (he : E i (σ i) = .inr (ci, fs)) (hc : cl[ci]? = some (C, T, N))
    {st : List Value} (hst : st = As.reverse ++ .ref (ad i) :: rest) (hroom : (rest.map fun v => v.category).sum ≤ 8) (hdg : decode cc pc = .ok (.invokevirtual index, 3)) (hf : cells + rm.cells ≤ R.cells ∧ slots + rm.slots ≤ R.slots)
    (hXX : ∀ C, X C → X' C) (hout : ∀ x ∈ c.exceptionTable.toList, False) (hlocks : meth.locks = false) (hcm : cells + rm.cells ≤ mc) (hsm : slots + rm.slots ≤ ms)
    (kk : ∀ (σ' : Mem) (H1 : Heap) (locs1 : List Loc), P σ' → mW D cl tys n E ad σ' s A s.heap H1 locs1 → W p l e R s m args below meth c H1 locs1 (cells + rm.cells) (slots + rm.slots) (vx_MQ below Qc (XCf D cl tys n E ad σ X' A) args s mc ms A) (F0 m (pc + 3) ls rest)) : W p l e R s m args below meth c H locs cells slots (vx_MQ below Qc (XCf D cl tys n E ad σ X' A) args s mc ms A) (F0 m pc ls st) :=
  vx_callv (vx_runV (As := As) (rest := rest) F (hM H.size) cw ⟨KPx_blind, va_recv w.1 w.2.1 hc (by rw [mw_at hi, he]), fun U hU hW => mW_prex w hT U hU hW⟩ rfl hn hsz hst (lv_room hroom) hdg hf) w.2.2.2.1 (fun q _ h => mW_sub w q h) (mW_sub w) (fun q _ h => mW_sub w q h)
    (fun Ec ce q9 u t H1 locs1 ht hvm hpx hBX hz1 hk1 hS1 hcell hv hcl => mr_xout w ht hBX hXX hS1 hcell hv hcl hout hlocks hcm hsm)
    (fun σ' t H1 locs1 ht hvm hp hB hz1 hk1 hS1 => kk σ' H1 locs1 hp (mW_back w ht hB hS1))
theorem mr_xSv {As : List Value} {P : Mem → Prop} {nA : Nat} (F : CallFix p m c cc nL s args Ts own) (w : mW D cl tys n E ad σ s A s.heap H locs) (hT : tF A s s.heap) (hsz : ls.size = nL)
    (hM : KXv l D cl tys n E ad y bytes maxL rm As σ P X) (cw : CallB R s args own index y bytes maxL none (kws y bytes maxL none) rm rm.cells rm.slots nA ∧ (Cond.static y).before args s = true) (hn : As.length = nA)
    {st : List Value} (hst : st = As.reverse ++ rest) (hroom : (rest.map fun v => v.category).sum ≤ 8) (hdg : decode cc pc = .ok (.invokestatic index, 3)) (hf : cells + rm.cells ≤ R.cells ∧ slots + rm.slots ≤ R.slots)
    (hXX : ∀ C, X C → X' C) (hout : ∀ x ∈ c.exceptionTable.toList, False) (hlocks : meth.locks = false) (hcm : cells + rm.cells ≤ mc) (hsm : slots + rm.slots ≤ ms)
    (kk : ∀ (σ' : Mem) (H1 : Heap) (locs1 : List Loc), P σ' → mW D cl tys n E ad σ' s A s.heap H1 locs1 → W p l e R s m args below meth c H1 locs1 (cells + rm.cells) (slots + rm.slots) (vx_MQ below Qc (XCf D cl tys n E ad σ X' A) args s mc ms A) (F0 m (pc + 3) ls rest)) : W p l e R s m args below meth c H locs cells slots (vx_MQ below Qc (XCf D cl tys n E ad σ X' A) args s mc ms A) (F0 m pc ls st) :=
  vx_callv (vx_runS (As := As) (rest := rest) F (hM H.size) cw ⟨KPx_blind, fun U hU hW => mW_prex w hT U hU hW⟩ rfl hn hsz hst (lv_room hroom) hdg hf) w.2.2.2.1 (fun q _ h => mW_sub w q h) (mW_sub w) (fun q _ h => mW_sub w q h)
    (fun Ec ce q9 u t H1 locs1 ht hvm hpx hBX hz1 hk1 hS1 hcell hv hcl => mr_xout w ht hBX hXX hS1 hcell hv hcl hout hlocks hcm hsm)
    (fun σ' t H1 locs1 ht hvm hp hB hz1 hk1 hS1 => kk σ' H1 locs1 hp (mW_back w ht hB hS1))
end KXR
