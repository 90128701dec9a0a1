/-! Worlds as lists: fields read, arrays of references, another order; what the constructors make -/
section LR2
variable {p : Program} {l : Launch} {e : Env} {R : Room} {s : State} {m : MethodId} {args : Array Value} {below : List Frame} {meth : Method} {c : Code} {H : Heap} {locs : List Loc} {cells slots : Nat} {Q : State → Prop}
variable {cc : ByteArray} {pc : Nat} {ls : Array Slot} {rest : List Value} {D : va_G} {cl : List vw_C} {A : Nat → Prop} {tys : List (ClassId × FieldType)} {H0 : Heap} {ws : va_W} {nL : Nat} {Ts : List Cond} {own : String}
theorem li_get (F : CallFix p m c cc nL s args Ts own) (w : lW D cl tys ws s A H0 H locs) {C ref : String} {T : u_T} {N ci index a : Nat} (hin : ∀ w ∈ u_ws C T N, w ∈ Ts) (q0 : Nat) {fs : List Value} (he : ws[q0]? = some (a, .inr (ci, fs))) (hc : cl[ci]? = some (C, T, N)) (k : Nat) (hk : k < N)
    (hlink : Cond.fieldLink own index ref (T k).2.1 (T k).2.2.1 ∈ Ts) (hsame : ∀ x, s.fieldFound? (T k).1 (T k).2.1 (T k).2.2.1 = some x → s.fieldFound? ref (T k).2.1 (T k).2.2.1 = some x) {v : Value} (hv : fs[k]? = some v) (hdg : decode cc pc = .ok (.getfield index, 3))
    (kk : W p l e R s m args below meth c H locs cells slots Q (F0 m (pc + 3) ls (v :: rest))) : W p l e R s m args below meth c H locs cells slots Q (F0 m pc ls (.ref a :: rest)) := by
  obtain ⟨hx, hb, hml, hown, hts⟩ := F
  obtain ⟨hK, hP, hD, hS, hA9⟩ := w
  exact va_get hx hb hts hin hown hK hP q0 he hc k hk (hts _ hlink) hsame hv hdg kk
theorem li_astq (F : CallFix p m c cc nL s args Ts own) (w : lW D cl tys ws s A H0 H locs) (q0 t0 qk ci : Nat) {a : Nat} {cA : ClassId} {r : vw_C} {n v : Nat} {vs : List Value} {f : Nat → Option Nat} (ha : ws[q0]? = some (a, .inl (cA, n, .inr (.inr (.inr (.inr f)))))) (ht : tys[t0]? = some (cA, .object r.1)) (hv : ws[qk]? = some (v, .inr (ci, vs))) (hc : cl[ci]? = some r) {x : Int32} (j : Nat) (hx9 : x = nI j) (hj : j < n) (hn : n < 2 ^ 31) (hdg : decode cc pc = .ok (.aastore, 1))
    (kk : ∀ (H1 : Heap) (locs1 : List Loc), lW D cl tys (ws.set q0 (a, .inl (cA, n, .inr (.inr (.inr (.inr (va_up f j (some v)))))))) s A H0 H1 locs1 → W p l e R s m args below meth c H1 locs1 cells slots Q (F0 m (pc + 1) ls rest)) : W p l e R s m args below meth c H locs cells slots Q (F0 m pc ls (.ref v :: .int x :: .ref a :: rest)) := by
  obtain ⟨hx, hb, hml, hown, hts⟩ := F
  obtain ⟨hK, hP, hD, hS, hA9⟩ := w
  subst hx9
  refine va_astq hx hb hK hP hD hS q0 t0 qk ci ha ht hv hc (vp_in_nI hj hn) hdg (fun H1 locs1 hP hD hS => ?_)
  rw [nI_clamp (by omega)] at hP hD
  exact kk H1 locs1 ⟨hK, hP, hD, hS, hA9⟩
/-- two entries that say the same of a heap -/
def eSame (e1 e2 : va_E) : Prop := e1 = e2 ∨ ∃ (c : ClassId) (a1 a2 : vp_A), e1 = .inl (c, a1) ∧ e2 = .inl (c, a2) ∧ vp_cell c a1 = vp_cell c a2
theorem eSame.at {e1 e2 : va_E} (h : eSame e1 e2) {a : Nat} (h1 : va_at D cl (a, e1) H) : va_at D cl (a, e2) H := by
  rcases h with rfl | ⟨c, a1, a2, rfl, rfl, he⟩
  · exact h1
  · show H[a]? = some (vp_cell c a2)
    rw [← he]; exact h1
theorem eSame_q {c : ClassId} {n : Nat} {f g : Nat → Option Nat} (h : ∀ j, j < n → f j = g j) : eSame (.inl (c, n, .inr (.inr (.inr (.inr f))))) (.inl (c, n, .inr (.inr (.inr (.inr g))))) := by
  refine Or.inr ⟨c, _, _, rfl, rfl, ?_⟩
  rw [vp_cell_q, vp_cell_q]
  unfold arrV
  congr 1
  congr 1
  funext j
  show va_rf (f j.val) = va_rf (g j.val)
  rw [h j.val j.isLt]
theorem lW.conv {ws2 : va_W} (w : lW D cl tys ws s A H0 H locs) (ix : Nat → Nat) (hix : ∀ i j, i < ws2.length → j < ws2.length → ix i = ix j → i = j) (h : ∀ (k : Nat) (q : Nat × va_E), ws2[k]? = some q → ∃ e1, ws[ix k]? = some (q.1, e1) ∧ eSame e1 q.2) : lW D cl tys ws2 s A H0 H locs := by
  obtain ⟨hK, hP, hD, hS, hA9⟩ := w
  refine ⟨hK, fun k q hq => ?_, ⟨fun i j a b ha hb hab => ?_, fun k q hq => ?_⟩, hS, hA9⟩
  · obtain ⟨e1, h1, h2⟩ := h k q hq
    exact eSame.at h2 (hP _ _ h1)
  · obtain ⟨e1, h1, -⟩ := h i a ha
    obtain ⟨e2, h2, -⟩ := h j b hb
    exact hix i j (List.getElem?_eq_some_iff.mp ha).1 (List.getElem?_eq_some_iff.mp hb).1 (hD.1 _ _ _ _ h1 h2 hab)
  · obtain ⟨e1, h1, -⟩ := h k q hq
    exact hD.2 (ix k) (q.1, e1) h1
end LR2
/-- the class's memory, new -/
def mP0 : Mem := fun i k => if i = 1 then (if k = 0 then 1 else if k = 1 then -1 else 0) else if i < 9 then 0 else if i < 17 then (if k = 1 then -1 else if k = 4 then -1 else 0) else 0
/-- the reference's memory, before it forgets -/
def mR0 : Mem := fun i k => if i = 0 then (if k = 3 then -1 else if k = 4 then -1 else if k = 19 then -1 else 0) else 0
