/-- the classes that the wrappers catch -/
def zHL : List Cond := [.classLink RL 13 zIA, .classLink RL 15 zIS, .classLink RL 21 zIO]
theorem zHL_g {A B : List Cond} (g : GoodIn A B) : GoodIn (A ++ zHL) B := fun w h => ⟨List.mem_append_left _ (g w h).1, (g w h).2⟩
theorem zHL_13 (A : List Cond) : Cond.classLink RL 13 zIA ∈ A ++ zHL := List.mem_append_right _ List.mem_cons_self
theorem zHL_15 (A : List Cond) : Cond.classLink RL 15 zIS ∈ A ++ zHL := List.mem_append_right _ (List.mem_cons_of_mem _ List.mem_cons_self)
theorem zHL_21 (A : List Cond) : Cond.classLink RL 21 zIO ∈ A ++ zHL := List.mem_append_right _ (List.mem_cons_of_mem _ (List.mem_cons_of_mem _ List.mem_cons_self))
section
variable {p : Program} {l : Launch} {e : Env} {R : Room} {s : State} {m : MethodId} {args : Array Value} {below : List Frame} {meth : Method} {c : Code} {E : zE} {sa : Nat → Nat} {nL cells slots : Nat} {Q : State → Prop} {cc : ByteArray} {own : String} {Ts : List Cond} {pc : Nat} {lv : List (Option Value)} {st : List Value} {μ : zM} {ov : Nat → Int64}
theorem z_astore6 (C : zC p s m args c E sa cc nL own Ts) {v0 v1 v2 v3 v4 v5 : Option Value} {o : Option Value} {r : List (Option Value)} {x : Nat} (hn : 6 < nL) (hc : ∀ w : Value, v5 = some w → ¬ w.category = 2) (d : decode cc pc = .ok (.astore 6, 2)) (k : zW p l e R s m args below meth c E nL cells slots Q (pc + 2) (v0 :: v1 :: v2 :: v3 :: v4 :: v5 :: some (.ref x) :: r) st μ ov) : zW p l e R s m args below meth c E nL cells slots Q pc (v0 :: v1 :: v2 :: v3 :: v4 :: v5 :: o :: r) (.ref x :: st) μ ov := by
  have hz : zc1 (v0 :: v1 :: v2 :: v3 :: v4 :: v5 :: o :: r) 6 := (fun j w hj hw => by (have hj9 : j = 5 := (by omega)); subst hj9; exact hc w (Option.some.inj hw))
  exact fun H locs ls hP hD hS hl => lv_astore C.1.1 C.1.2.1 d hl hn rfl (fun ls' hl' => k H locs ls' hP hD hS (zL_of hl' (zst1 hz)))
end
