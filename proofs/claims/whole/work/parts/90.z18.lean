section
variable {p : Program} {l : Launch} {e : Env} {R : Room} {s : State} {m : MethodId} {args : Array Value} {below : List Frame} {meth : Method} {c : Code} {E : zE} {sa : Nat → Nat} {nL cells slots : Nat} {Q : State → Prop} {cc : ByteArray} {own : String} {Ts : List Cond} {pc : Nat} {lv : List (Option Value)} {st : List Value} {μ : zM} {ov : Nat → Int64}
/-- more cells and slots may be gone already than are -/
theorem z_widen {c2 s2 : Nat} (hc : cells ≤ c2) (hs : slots ≤ s2) (k : zW p l e R s m args below meth c E nL c2 s2 Q pc lv st μ ov) : zW p l e R s m args below meth c E nL cells slots Q pc lv st μ ov :=
  fun H locs ls hP hD hS hl => W.widen hc hs (k H locs ls hP hD hS hl)
end
theorem zR2.today {μ : zM} {t c nc n A : Nat} (h : zR2 μ μ t c nc n A) : μ 63 0 = μ 63 11 ∧ μ 63 6 = μ 63 14 := ⟨h.1.1.trans h.2.1.1.symm, h.1.2.2.1.1.trans h.2.1.2.2.1.1.symm⟩
