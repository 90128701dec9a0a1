/-! Refusals: names of kinds, numbers in range, switches -/
def xn : Nat → String
  | 1 => cISE
  | 2 => cIOB
  | _ => cIAE
/-- x isn't a number below N -/
abbrev kBad (N : Nat) (x : Int32) : Prop := x < 0 ∨ ¬ x < nI N
theorem kBad_nat {N : Nat} {x : Int32} (h : ¬ kBad N x) (hN : N < 2 ^ 31) : nat0 N x := by
  have h1 : ¬ x < 0 := fun q => h (Or.inl q)
  have h2 : x < nI N := Classical.byContradiction fun q => h (Or.inr q)
  obtain ⟨j, hj, rfl⟩ := nI_of h1
  exact nat0_nI ((nI_ltI hj hN).mp h2) hN
section XR
variable {p : Program} {l : Launch} {e : Env} {R : Room} {s : State} {m : MethodId} {args : Array Value} {below : List Frame} {meth : Method} {c : Code} {H : Heap} {locs : List Loc} {cells slots : Nat} {Q : State → Prop}
variable {cc : ByteArray} {pc : Nat} {ls : Array Slot} {rest : List Value}
theorem nr_as {x : Int32} {k : Nat} (ex : x = nI k) (kk : W p l e R s m args below meth c H locs cells slots Q (F0 m pc ls (.int (nI k) :: rest))) : W p l e R s m args below meth c H locs cells slots Q (F0 m pc ls (.int x :: rest)) := by
  rw [ex]; exact kk
theorem nr_tabIn (hexec : p.tables.exec = Jvm.exec) (hb : c.code = cc) {dflt hi : Int} {offs : Array Int} {len : Nat} {x : Int32} {off : Int} {tgt k : Nat} (hdg : decode cc pc = .ok (.tableswitch dflt 0 hi offs, len)) (ex : x = nI k) (hk : k < 2 ^ 31) (h2 : (k : Int) ≤ hi) (ho : offs[k]? = some off) (ht : (pc : Int) + off = (tgt : Int))
    (kk : W p l e R s m args below meth c H locs cells slots Q (F0 m tgt ls rest)) : W p l e R s m args below meth c H locs cells slots Q (F0 m pc ls (.int x :: rest)) := by
  have e1 : x.toInt = (k : Int) := by rw [ex]; exact nI_toInt hk
  exact lv_tableIn hexec hb hdg (by rw [e1]; omega) (by rw [e1]; omega) (by rw [e1]; simpa using ho) ht kk
theorem tabOut {x : Int32} (n : Nat) (hn : n < 2 ^ 31) (h : ∀ k, k ≤ n → ¬ x = nI k) : x.toInt < 0 ∨ (n : Int) < x.toInt := by
  by_cases h0 : x < 0
  · exact Or.inl (by simpa using Int32.lt_iff_toInt_lt.mp h0)
  · obtain ⟨j, hj, rfl⟩ := nI_of h0
    rw [nI_toInt hj]
    by_cases hjn : j ≤ n
    · exact absurd rfl (h j hjn)
    · exact Or.inr (by omega)
end XR
