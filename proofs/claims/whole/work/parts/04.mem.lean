/-! A world as a memory: n cells at addresses ad, what cell i is stands in E i, its ints in σ i. -/
abbrev Mem : Type := Nat → Nat → Int32
def mset (σ : Mem) (i : Nat) (f : Nat → Int32) : Mem := fun j => if j = i then f else σ j
def mup (σ : Mem) (i k : Nat) (v : Int32) : Mem := mset σ i (upd (σ i) k v)
def mcp (σ : Mem) (src dst sp dp n : Nat) : Mem := mset σ dst (va_cpy (σ src) (σ dst) sp dp n)
theorem mset_s (σ : Mem) (i : Nat) (f : Nat → Int32) : mset σ i f i = f := by simp [mset]
theorem mset_n (σ : Mem) {i j : Nat} (f : Nat → Int32) (h : j ≠ i) : mset σ i f j = σ j := by simp [mset, h]
theorem mup_s (σ : Mem) (i k : Nat) (v : Int32) : mup σ i k v i = upd (σ i) k v := mset_s _ _ _
theorem mup_n (σ : Mem) {i j : Nat} (k : Nat) (v : Int32) (h : j ≠ i) : mup σ i k v j = σ j := mset_n _ _ h
def mw (n : Nat) (E : Nat → (Nat → Int32) → va_E) (ad : Nat → Nat) (σ : Mem) : va_W := (List.range n).map fun i => (ad i, E i (σ i))
theorem mw_at {n : Nat} {E : Nat → (Nat → Int32) → va_E} {ad : Nat → Nat} {σ : Mem} {i : Nat} (h : i < n) : (mw n E ad σ)[i]? = some (ad i, E i (σ i)) := by
  simp [mw, h]
theorem mw_inv {n : Nat} {E : Nat → (Nat → Int32) → va_E} {ad : Nat → Nat} {σ : Mem} {i : Nat} {q : Nat × va_E} (h : (mw n E ad σ)[i]? = some q) : i < n ∧ q = (ad i, E i (σ i)) := by
  have hl : i < (mw n E ad σ).length := (List.getElem?_eq_some_iff.mp h).1
  have hi : i < n := by simpa [mw] using hl
  rw [mw_at hi] at h
  exact ⟨hi, (Option.some.inj h).symm⟩
theorem mw_set {n : Nat} {E : Nat → (Nat → Int32) → va_E} {ad : Nat → Nat} {σ : Mem} {i : Nat} {e : va_E} (f : Nat → Int32) (he : E i f = e) : (mw n E ad σ).set i (ad i, e) = mw n E ad (mset σ i f) := by
  apply List.ext_getElem?
  intro j
  by_cases hj : j < n
  · rw [mw_at hj, List.getElem?_set]
    by_cases hij : i = j
    · subst hij
      rw [if_pos rfl, mset_s, he]
      simp [mw, hj]
    · rw [if_neg hij, mw_at hj, mset_n _ _ (fun q => hij q.symm)]
  · have h1 : ((mw n E ad σ).set i (ad i, e))[j]? = none := by
      rw [List.getElem?_eq_none_iff]; simp [mw]; omega
    have h2 : (mw n E ad (mset σ i f))[j]? = none := by
      rw [List.getElem?_eq_none_iff]; simp [mw]; omega
    rw [h1, h2]
theorem mw_D {n : Nat} {E : Nat → (Nat → Int32) → va_E} {ad : Nat → Nat} {σ σ' : Mem} {A : Nat → Prop} (h : va_D A (mw n E ad σ)) : va_D A (mw n E ad σ') := by
  refine ⟨fun i j p q hi hj e => ?_, fun k q hk => ?_⟩
  · obtain ⟨h1, rfl⟩ := mw_inv hi
    obtain ⟨h2, rfl⟩ := mw_inv hj
    exact h.1 i j _ _ (mw_at h1) (mw_at h2) e
  · obtain ⟨h1, rfl⟩ := mw_inv hk
    exact h.2 k (ad k, E k (σ k)) (mw_at h1)
theorem mw_A {n : Nat} {E : Nat → (Nat → Int32) → va_E} {ad : Nat → Nat} {σ σ' : Mem} {sz : Nat} : va_A (mw n E ad σ) sz = va_A (mw n E ad σ') sz := by
  funext q
  apply propext
  constructor <;>
  · intro h
    rcases h with ⟨k, e, hk⟩ | h
    · obtain ⟨h1, h2⟩ := mw_inv hk
      exact Or.inl ⟨k, _, by rw [mw_at h1]; exact congrArg some (by rw [show q = ad k from congrArg Prod.fst h2])⟩
    · exact Or.inr h
/-- the world: tables, cells, apart and within A, nothing else changed since H0 -/
def mW (D : va_G) (cl : List vw_C) (tys : List (ClassId × FieldType)) (n : Nat) (E : Nat → (Nat → Int32) → va_E) (ad : Nat → Nat) (σ : Mem) (s : State) (A : Nat → Prop) (H0 H : Heap) (locs : List Loc) : Prop :=
  va_K D cl tys s ∧ va_P D cl (mw n E ad σ) H ∧ va_D A (mw n E ad σ) ∧ va_S A H0 H locs ∧ ∀ q, H0.size ≤ q → A q
section MR
variable {p : Program} {l : Launch} {e : Env} {R : Room} {s : State} {m : MethodId} {args : Array Value} {below : List Frame} {meth : Method} {c : Code} {H : Heap} {locs : List Loc} {cells slots : Nat} {Q : State → Prop}
variable {cc : ByteArray} {pc : Nat} {ls : Array Slot} {rest : List Value} {D : va_G} {cl : List vw_C} {A : Nat → Prop} {tys : List (ClassId × FieldType)} {H0 : Heap} {n : Nat} {E : Nat → (Nat → Int32) → va_E} {ad : Nat → Nat} {σ : Mem} {nL : Nat} {Ts : List Cond} {own : String}
theorem mr_get (F : CallFix p m c cc nL s args Ts own) (w : mW D cl tys n E ad σ s A H0 H locs) {C ref : String} {T : u_T} {N ci index : Nat} (hin : ∀ w ∈ u_ws C T N, w ∈ Ts) (i : Nat) (hi : i < n) {fs : List Value} (he : E i (σ i) = .inr (ci, fs)) (hc : cl[ci]? = some (C, T, N)) (k : Nat) (hk : k < N)
    (hlink : Cond.fieldLink own index ref (T k).2.1 (T k).2.2.1 ∈ Ts) (hsame : ∀ x, s.fieldFound? (T k).1 (T k).2.1 (T k).2.2.1 = some x → s.fieldFound? ref (T k).2.1 (T k).2.2.1 = some x) {v : Value} (hv : fs[k]? = some v) (hdg : decode cc pc = .ok (.getfield index, 3))
    (kk : W p l e R s m args below meth c H locs cells slots Q (F0 m (pc + 3) ls (v :: rest))) : W p l e R s m args below meth c H locs cells slots Q (F0 m pc ls (.ref (ad i) :: rest)) := by
  obtain ⟨hx, hb, hml, hown, hts⟩ := F
  obtain ⟨hK, hP, hD, hS, hA9⟩ := w
  exact va_get hx hb hts hin hown hK hP i (by rw [mw_at hi, he]) hc k hk (hts _ hlink) hsame hv hdg kk
theorem mr_put (F : CallFix p m c cc nL s args Ts own) (w : mW D cl tys n E ad σ s A H0 H locs) {C ref : String} {T : u_T} {N ci index : Nat} (hin : ∀ w ∈ u_ws C T N, w ∈ Ts) (ty0 : Nat → FieldType) (hty : ∀ k, k < N → parseFieldDescriptor (T k).2.2.1 = some (ty0 k)) (hnm : ∀ a, a < N → ∀ b, b < N → a ≠ b → (T a).2.1 ≠ (T b).2.1) (i : Nat) (hi : i < n) {fs : List Value} (he : E i (σ i) = .inr (ci, fs)) (hc : cl[ci]? = some (C, T, N)) (k : Nat) (hk : k < N)
    (hlink : Cond.fieldLink own index ref (T k).2.1 (T k).2.2.1 ∈ Ts) (hsame : ∀ x, s.fieldFound? (T k).1 (T k).2.1 (T k).2.2.1 = some x → s.fieldFound? ref (T k).2.1 (T k).2.2.1 = some x) (hfin : (T k).2.2.2 = false) {v : Int32} (hn : narrow (ty0 k) (.int v) = .int v) (hfit : fits (ty0 k) (.int v) = true) (hl : k < fs.length) (hset : E i (upd (σ i) k v) = .inr (ci, fs.set k (.int v))) (hdg : decode cc pc = .ok (.putfield index, 3))
    (kk : ∀ (H1 : Heap) (locs1 : List Loc), mW D cl tys n E ad (mup σ i k v) s A H0 H1 locs1 → W p l e R s m args below meth c H1 locs1 cells slots Q (F0 m (pc + 3) ls rest)) : W p l e R s m args below meth c H locs cells slots Q (F0 m pc ls (.int v :: .ref (ad i) :: rest)) := by
  obtain ⟨hx, hb, hml, hown, hts⟩ := F
  obtain ⟨hK, hP, hD, hS, hA9⟩ := w
  refine va_put hx hb hts hin ty0 hty hnm hown hK hP hD hS i (by rw [mw_at hi, he]) hc k hk (hts _ hlink) hsame hfin (hty k hk) hn hfit hl hdg (fun H1 locs1 hP hD hS => ?_)
  rw [mw_set (upd (σ i) k v) hset] at hP hD
  exact kk H1 locs1 ⟨hK, hP, hD, hS, hA9⟩
theorem mr_iald (F : CallFix p m c cc nL s args Ts own) (w : mW D cl tys n E ad σ s A H0 H locs) (i t0 : Nat) (hi : i < n) {cA : ClassId} {N : Nat} {f : Nat → Int32} (he : E i (σ i) = .inl (cA, N, .inl f)) (ht : tys[t0]? = some (cA, .int)) {j : Int32} (hin : vp_in j N) (hdg : decode cc pc = .ok (.iaload, 1))
    (kk : W p l e R s m args below meth c H locs cells slots Q (F0 m (pc + 1) ls (.int (f j.toNatClampNeg) :: rest))) : W p l e R s m args below meth c H locs cells slots Q (F0 m pc ls (.int j :: .ref (ad i) :: rest)) := by
  obtain ⟨hx, hb, hml, hown, hts⟩ := F
  obtain ⟨hK, hP, hD, hS, hA9⟩ := w
  exact va_iald hx hb hK hP i t0 (by rw [mw_at hi, he]) ht hin hdg kk
theorem mr_iast (F : CallFix p m c cc nL s args Ts own) (w : mW D cl tys n E ad σ s A H0 H locs) (i t0 : Nat) (hi : i < n) {cA : ClassId} {N : Nat} (he : ∀ f, E i f = .inl (cA, N, .inl f)) (ht : tys[t0]? = some (cA, .int)) {j x : Int32} (hin : vp_in j N) (hdg : decode cc pc = .ok (.iastore, 1))
    (kk : ∀ (H1 : Heap) (locs1 : List Loc), mW D cl tys n E ad (mup σ i j.toNatClampNeg x) s A H0 H1 locs1 → W p l e R s m args below meth c H1 locs1 cells slots Q (F0 m (pc + 1) ls rest)) : W p l e R s m args below meth c H locs cells slots Q (F0 m pc ls (.int x :: .int j :: .ref (ad i) :: rest)) := by
  obtain ⟨hx, hb, hml, hown, hts⟩ := F
  obtain ⟨hK, hP, hD, hS, hA9⟩ := w
  refine va_iast hx hb hK hP hD hS i t0 (by rw [mw_at hi, he]) ht hin hdg (fun H1 locs1 hP hD hS => ?_)
  rw [mw_set (upd (σ i) j.toNatClampNeg x) (he _)] at hP hD
  exact kk H1 locs1 ⟨hK, hP, hD, hS, hA9⟩
theorem mr_aldq (F : CallFix p m c cc nL s args Ts own) (w : mW D cl tys n E ad σ s A H0 H locs) (i t0 : Nat) (hi : i < n) {cA : ClassId} {C : String} {N : Nat} {f : Nat → Option Nat} (he : E i (σ i) = .inl (cA, N, .inr (.inr (.inr (.inr f))))) (ht : tys[t0]? = some (cA, .object C)) (j : Nat) (hj : j < N) (hN : N < 2 ^ 31) {a : Nat} (hf : f j = some a) {x : Int32} (hx9 : x = nI j) (hdg : decode cc pc = .ok (.aaload, 1))
    (kk : W p l e R s m args below meth c H locs cells slots Q (F0 m (pc + 1) ls (.ref a :: rest))) : W p l e R s m args below meth c H locs cells slots Q (F0 m pc ls (.int x :: .ref (ad i) :: rest)) := by
  obtain ⟨hx, hb, hml, hown, hts⟩ := F
  obtain ⟨hK, hP, hD, hS, hA9⟩ := w
  subst hx9
  refine va_aldq hx hb hK hP i t0 (by rw [mw_at hi, he]) ht (vp_in_nI hj hN) hdg ?_
  rw [nI_clamp (by omega), hf]
  exact kk
theorem mr_copy (F : CallFix p m c cc nL s args Ts own) (w : mW D cl tys n E ad σ s A H0 H locs) (hsz : ls.size = nL) {index : Nat} (hlink : Cond.methodLink own index arraycopyName ∈ Ts) (hnat : Cond.native arraycopyName ∈ Ts) (hstat : Cond.static arraycopyName ∈ Ts) (hini : Cond.initialized "java/lang/System" ∈ Ts)
    (i j t0 : Nat) (hi : i < n) (hj : j < n) {cA : ClassId} {n0 n1 : Nat} (hei : ∀ f, E i f = .inl (cA, n0, .inl f)) (hej : ∀ f, E j f = .inl (cA, n1, .inl f)) (ht : tys[t0]? = some (cA, .int)) (sp dp k : Nat) (h4 : sp + k ≤ n0) (h5 : dp + k ≤ n1) (hn0 : n0 < 2 ^ 31) (hn1 : n1 < 2 ^ 31) {xs xd xk : Int32} (es : xs = nI sp) (ed : xd = nI dp) (ek : xk = nI k)
    (hframes : 1 ≤ R.frames) (hlocals : (rest.map fun v => v.category).sum + (nativeFrameWords "java/lang/System" "arraycopy" 5 + 11) ≤ R.locals) (hdg : decode cc pc = .ok (.invokestatic index, 3))
    (kk : ∀ (H1 : Heap) (locs1 : List Loc), mW D cl tys n E ad (mcp σ i j sp dp k) s A H0 H1 locs1 → W p l e R s m args below meth c H1 locs1 cells slots Q (F0 m (pc + 3) ls rest)) : W p l e R s m args below meth c H locs cells slots Q (F0 m pc ls (.int xk :: .int xd :: .ref (ad j) :: .int xs :: .ref (ad i) :: rest)) := by
  obtain ⟨hx, hb, hml, hown, hts⟩ := F
  obtain ⟨hK, hP, hD, hS, hA9⟩ := w
  subst es; subst ed; subst ek
  have c1 : (nI sp).toNatClampNeg = sp := nI_clamp (by omega)
  have c2 : (nI dp).toNatClampNeg = dp := nI_clamp (by omega)
  have c3 : (nI k).toNatClampNeg = k := nI_clamp (by omega)
  refine va_copyi hx hb (hml.trans hsz.symm) hown (hts _ hlink) (hts _ hnat) (hts _ hstat) (hts _ hini) hK hP hD hS i j t0 t0 (by rw [mw_at hi, hei]) (by rw [mw_at hj, hej]) ht ht rfl (nI_pos (by omega)) (nI_pos (by omega)) (nI_pos (by omega)) (by rw [c1, c3]; exact h4) (by rw [c2, c3]; exact h5) (fun _ _ => rfl) hframes hlocals hdg (fun H1 locs1 hP hD hS => ?_)
  rw [c1, c2, c3, mw_set (va_cpy (σ i) (σ j) sp dp k) (hej _)] at hP hD
  exact kk H1 locs1 ⟨hK, hP, hD, hS, hA9⟩
end MR
