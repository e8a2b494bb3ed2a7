/-! ===== rows of zW ===== -/
section ZROWS
variable {p : Program} {l : Launch} {e : Env} {R : Room} {s : State} {m : MethodId} {args : Array Value} {below : List Frame} {meth : Method} {c : Code} {E : zE} {sa : Nat → Nat} {nL cells slots : Nat} {Q : State → Prop} {cc : ByteArray} {own : String} {Ts : List Cond} {pc : Nat} {lv : List (Option Value)} {st : List Value} {μ : zM} {ov : Nat → Int64}
theorem z_iconst (C : zC p s m args c E sa cc nL own Ts) {n : Int} {v : Int32} (d : decode cc pc = .ok (.iconst n, 1)) (hv : Int32.ofInt n = v) (k : zW p l e R s m args below meth c E nL cells slots Q (pc + 1) lv (.int v :: st) μ ov) : zW p l e R s m args below meth c E nL cells slots Q pc lv (st) μ ov :=
  fun H locs ls hP hD hS hl => lv_iconst C.1.1 C.1.2.1 d hv (k H locs ls hP hD hS hl)
theorem z_bipush (C : zC p s m args c E sa cc nL own Ts) {n : Int} {v : Int32} (d : decode cc pc = .ok (.bipush n, 2)) (hv : (Int8.ofInt n).toInt32 = v) (k : zW p l e R s m args below meth c E nL cells slots Q (pc + 2) lv (.int v :: st) μ ov) : zW p l e R s m args below meth c E nL cells slots Q pc lv (st) μ ov :=
  fun H locs ls hP hD hS hl => lv_bipush C.1.1 C.1.2.1 d hv (k H locs ls hP hD hS hl)
theorem z_sipush (C : zC p s m args c E sa cc nL own Ts) {n : Int} {v : Int32} (d : decode cc pc = .ok (.sipush n, 3)) (hv : (Int16.ofInt n).toInt32 = v) (k : zW p l e R s m args below meth c E nL cells slots Q (pc + 3) lv (.int v :: st) μ ov) : zW p l e R s m args below meth c E nL cells slots Q pc lv (st) μ ov :=
  fun H locs ls hP hD hS hl => lv_sipush C.1.1 C.1.2.1 d hv (k H locs ls hP hD hS hl)
theorem z_lconst (C : zC p s m args c E sa cc nL own Ts) {n : Fin 2} {v : Int64} (d : decode cc pc = .ok (.lconst n, 1)) (hv : Int64.ofNat (n : Nat) = v) (k : zW p l e R s m args below meth c E nL cells slots Q (pc + 1) lv (.long v :: st) μ ov) : zW p l e R s m args below meth c E nL cells slots Q pc lv (st) μ ov :=
  fun H locs ls hP hD hS hl => lv_lconst C.1.1 C.1.2.1 d hv (k H locs ls hP hD hS hl)
theorem z_iloadn (C : zC p s m args c E sa cc nL own Ts) {k9 : Fin 4} {i : Nat} {x : Int32} (d : decode cc pc = .ok (.iload_n k9, 1)) (hi : (k9 : Nat) = i) (hv : lv[i]? = some (some (.int x))) (k : zW p l e R s m args below meth c E nL cells slots Q (pc + 1) lv (.int x :: st) μ ov) : zW p l e R s m args below meth c E nL cells slots Q pc lv (st) μ ov :=
  fun H locs ls hP hD hS hl => lv_iload_n C.1.1 C.1.2.1 d hi (zL_at hl hv) (k H locs ls hP hD hS hl)
theorem z_iload (C : zC p s m args c E sa cc nL own Ts) {i : Nat} {x : Int32} (d : decode cc pc = .ok (.iload i, 2)) (hv : lv[i]? = some (some (.int x))) (k : zW p l e R s m args below meth c E nL cells slots Q (pc + 2) lv (.int x :: st) μ ov) : zW p l e R s m args below meth c E nL cells slots Q pc lv (st) μ ov :=
  fun H locs ls hP hD hS hl => lv_iload C.1.1 C.1.2.1 d (zL_at hl hv) (k H locs ls hP hD hS hl)
theorem z_lloadn (C : zC p s m args c E sa cc nL own Ts) {k9 : Fin 4} {i : Nat} {x : Int64} (d : decode cc pc = .ok (.lload_n k9, 1)) (hi : (k9 : Nat) = i) (hv : lv[i]? = some (some (.long x))) (k : zW p l e R s m args below meth c E nL cells slots Q (pc + 1) lv (.long x :: st) μ ov) : zW p l e R s m args below meth c E nL cells slots Q pc lv (st) μ ov :=
  fun H locs ls hP hD hS hl => lv_lload_n C.1.1 C.1.2.1 d hi (zL_at hl hv) (k H locs ls hP hD hS hl)
theorem z_lload (C : zC p s m args c E sa cc nL own Ts) {i : Nat} {x : Int64} (d : decode cc pc = .ok (.lload i, 2)) (hv : lv[i]? = some (some (.long x))) (k : zW p l e R s m args below meth c E nL cells slots Q (pc + 2) lv (.long x :: st) μ ov) : zW p l e R s m args below meth c E nL cells slots Q pc lv (st) μ ov :=
  fun H locs ls hP hD hS hl => lv_lload C.1.1 C.1.2.1 d (zL_at hl hv) (k H locs ls hP hD hS hl)
theorem z_aloadn (C : zC p s m args c E sa cc nL own Ts) {k9 : Fin 4} {i : Nat} {x : Nat} (d : decode cc pc = .ok (.aload_n k9, 1)) (hi : (k9 : Nat) = i) (hv : lv[i]? = some (some (.ref x))) (k : zW p l e R s m args below meth c E nL cells slots Q (pc + 1) lv (.ref x :: st) μ ov) : zW p l e R s m args below meth c E nL cells slots Q pc lv (st) μ ov :=
  fun H locs ls hP hD hS hl => lv_aload_n C.1.1 C.1.2.1 d hi (zL_at hl hv) (k H locs ls hP hD hS hl)
theorem z_aload (C : zC p s m args c E sa cc nL own Ts) {i : Nat} {x : Nat} (d : decode cc pc = .ok (.aload i, 2)) (hv : lv[i]? = some (some (.ref x))) (k : zW p l e R s m args below meth c E nL cells slots Q (pc + 2) lv (.ref x :: st) μ ov) : zW p l e R s m args below meth c E nL cells slots Q pc lv (st) μ ov :=
  fun H locs ls hP hD hS hl => lv_aload C.1.1 C.1.2.1 d (zL_at hl hv) (k H locs ls hP hD hS hl)
theorem z_istore0 (C : zC p s m args c E sa cc nL own Ts) {o : Option Value} {r : List (Option Value)} {x : Int32} (hn : 0 < nL) (d : decode cc pc = .ok (.istore_n 0, 1)) (k : zW p l e R s m args below meth c E nL cells slots Q (pc + 1) (some (.int x) :: r) st μ ov) : zW p l e R s m args below meth c E nL cells slots Q pc (o :: r) (.int x :: st) μ ov := by
  have hz : zc1 (o :: r) 0 := (fun j w hj _ => by omega)
  exact fun H locs ls hP hD hS hl => lv_istore_n C.1.1 C.1.2.1 d rfl hl hn rfl (fun ls' hl' => k H locs ls' hP hD hS (zL_of hl' (zst1 hz)))
theorem z_istore1 (C : zC p s m args c E sa cc nL own Ts) {a : Option Value} {o : Option Value} {r : List (Option Value)} {x : Int32} (hn : 1 < nL) (hc : ∀ w : Value, a = some w → ¬ w.category = 2) (d : decode cc pc = .ok (.istore_n 1, 1)) (k : zW p l e R s m args below meth c E nL cells slots Q (pc + 1) (a :: some (.int x) :: r) st μ ov) : zW p l e R s m args below meth c E nL cells slots Q pc (a :: o :: r) (.int x :: st) μ ov := by
  have hz : zc1 (a :: o :: r) 1 := (fun j w hj hw => by obtain rfl : j = 0 := by omega
  exact hc w (Option.some.inj hw))
  exact fun H locs ls hP hD hS hl => lv_istore_n C.1.1 C.1.2.1 d rfl hl hn rfl (fun ls' hl' => k H locs ls' hP hD hS (zL_of hl' (zst1 hz)))
theorem z_istore2 (C : zC p s m args c E sa cc nL own Ts) {a b : Option Value} {o : Option Value} {r : List (Option Value)} {x : Int32} (hn : 2 < nL) (hc : ∀ w : Value, b = some w → ¬ w.category = 2) (d : decode cc pc = .ok (.istore_n 2, 1)) (k : zW p l e R s m args below meth c E nL cells slots Q (pc + 1) (a :: b :: some (.int x) :: r) st μ ov) : zW p l e R s m args below meth c E nL cells slots Q pc (a :: b :: o :: r) (.int x :: st) μ ov := by
  have hz : zc1 (a :: b :: o :: r) 2 := (fun j w hj hw => by obtain rfl : j = 1 := by omega
  exact hc w (Option.some.inj hw))
  exact fun H locs ls hP hD hS hl => lv_istore_n C.1.1 C.1.2.1 d rfl hl hn rfl (fun ls' hl' => k H locs ls' hP hD hS (zL_of hl' (zst1 hz)))
theorem z_istore3 (C : zC p s m args c E sa cc nL own Ts) {a b c : Option Value} {o : Option Value} {r : List (Option Value)} {x : Int32} (hn : 3 < nL) (hc : ∀ w : Value, c = some w → ¬ w.category = 2) (d : decode cc pc = .ok (.istore_n 3, 1)) (k : zW p l e R s m args below meth c E nL cells slots Q (pc + 1) (a :: b :: c :: some (.int x) :: r) st μ ov) : zW p l e R s m args below meth c E nL cells slots Q pc (a :: b :: c :: o :: r) (.int x :: st) μ ov := by
  have hz : zc1 (a :: b :: c :: o :: r) 3 := (fun j w hj hw => by obtain rfl : j = 2 := by omega
  exact hc w (Option.some.inj hw))
  exact fun H locs ls hP hD hS hl => lv_istore_n C.1.1 C.1.2.1 d rfl hl hn rfl (fun ls' hl' => k H locs ls' hP hD hS (zL_of hl' (zst1 hz)))
theorem z_istore4 (C : zC p s m args c E sa cc nL own Ts) {a b c d : Option Value} {o : Option Value} {r : List (Option Value)} {x : Int32} (hn : 4 < nL) (hc : ∀ w : Value, d = some w → ¬ w.category = 2) (d : decode cc pc = .ok (.istore 4, 2)) (k : zW p l e R s m args below meth c E nL cells slots Q (pc + 2) (a :: b :: c :: d :: some (.int x) :: r) st μ ov) : zW p l e R s m args below meth c E nL cells slots Q pc (a :: b :: c :: d :: o :: r) (.int x :: st) μ ov := by
  have hz : zc1 (a :: b :: c :: d :: o :: r) 4 := (fun j w hj hw => by obtain rfl : j = 3 := by omega
  exact hc w (Option.some.inj hw))
  exact fun H locs ls hP hD hS hl => lv_istore C.1.1 C.1.2.1 d hl hn rfl (fun ls' hl' => k H locs ls' hP hD hS (zL_of hl' (zst1 hz)))
theorem z_istore5 (C : zC p s m args c E sa cc nL own Ts) {a b c d f : Option Value} {o : Option Value} {r : List (Option Value)} {x : Int32} (hn : 5 < nL) (hc : ∀ w : Value, f = some w → ¬ w.category = 2) (d : decode cc pc = .ok (.istore 5, 2)) (k : zW p l e R s m args below meth c E nL cells slots Q (pc + 2) (a :: b :: c :: d :: f :: some (.int x) :: r) st μ ov) : zW p l e R s m args below meth c E nL cells slots Q pc (a :: b :: c :: d :: f :: o :: r) (.int x :: st) μ ov := by
  have hz : zc1 (a :: b :: c :: d :: f :: o :: r) 5 := (fun j w hj hw => by obtain rfl : j = 4 := by omega
  exact hc w (Option.some.inj hw))
  exact fun H locs ls hP hD hS hl => lv_istore C.1.1 C.1.2.1 d hl hn rfl (fun ls' hl' => k H locs ls' hP hD hS (zL_of hl' (zst1 hz)))
theorem z_istore6 (C : zC p s m args c E sa cc nL own Ts) {a b c d f g : Option Value} {o : Option Value} {r : List (Option Value)} {x : Int32} (hn : 6 < nL) (hc : ∀ w : Value, g = some w → ¬ w.category = 2) (d : decode cc pc = .ok (.istore 6, 2)) (k : zW p l e R s m args below meth c E nL cells slots Q (pc + 2) (a :: b :: c :: d :: f :: g :: some (.int x) :: r) st μ ov) : zW p l e R s m args below meth c E nL cells slots Q pc (a :: b :: c :: d :: f :: g :: o :: r) (.int x :: st) μ ov := by
  have hz : zc1 (a :: b :: c :: d :: f :: g :: o :: r) 6 := (fun j w hj hw => by obtain rfl : j = 5 := by omega
  exact hc w (Option.some.inj hw))
  exact fun H locs ls hP hD hS hl => lv_istore C.1.1 C.1.2.1 d hl hn rfl (fun ls' hl' => k H locs ls' hP hD hS (zL_of hl' (zst1 hz)))
theorem z_istore7 (C : zC p s m args c E sa cc nL own Ts) {a b c d f g h : Option Value} {o : Option Value} {r : List (Option Value)} {x : Int32} (hn : 7 < nL) (hc : ∀ w : Value, h = some w → ¬ w.category = 2) (d : decode cc pc = .ok (.istore 7, 2)) (k : zW p l e R s m args below meth c E nL cells slots Q (pc + 2) (a :: b :: c :: d :: f :: g :: h :: some (.int x) :: r) st μ ov) : zW p l e R s m args below meth c E nL cells slots Q pc (a :: b :: c :: d :: f :: g :: h :: o :: r) (.int x :: st) μ ov := by
  have hz : zc1 (a :: b :: c :: d :: f :: g :: h :: o :: r) 7 := (fun j w hj hw => by obtain rfl : j = 6 := by omega
  exact hc w (Option.some.inj hw))
  exact fun H locs ls hP hD hS hl => lv_istore C.1.1 C.1.2.1 d hl hn rfl (fun ls' hl' => k H locs ls' hP hD hS (zL_of hl' (zst1 hz)))
theorem z_istore8 (C : zC p s m args c E sa cc nL own Ts) {a b c d f g h i : Option Value} {o : Option Value} {r : List (Option Value)} {x : Int32} (hn : 8 < nL) (hc : ∀ w : Value, i = some w → ¬ w.category = 2) (d : decode cc pc = .ok (.istore 8, 2)) (k : zW p l e R s m args below meth c E nL cells slots Q (pc + 2) (a :: b :: c :: d :: f :: g :: h :: i :: some (.int x) :: r) st μ ov) : zW p l e R s m args below meth c E nL cells slots Q pc (a :: b :: c :: d :: f :: g :: h :: i :: o :: r) (.int x :: st) μ ov := by
  have hz : zc1 (a :: b :: c :: d :: f :: g :: h :: i :: o :: r) 8 := (fun j w hj hw => by obtain rfl : j = 7 := by omega
  exact hc w (Option.some.inj hw))
  exact fun H locs ls hP hD hS hl => lv_istore C.1.1 C.1.2.1 d hl hn rfl (fun ls' hl' => k H locs ls' hP hD hS (zL_of hl' (zst1 hz)))
theorem z_astore0 (C : zC p s m args c E sa cc nL own Ts) {o : Option Value} {r : List (Option Value)} {x : Nat} (hn : 0 < nL) (d : decode cc pc = .ok (.astore_n 0, 1)) (k : zW p l e R s m args below meth c E nL cells slots Q (pc + 1) (some (.ref x) :: r) st μ ov) : zW p l e R s m args below meth c E nL cells slots Q pc (o :: r) (.ref x :: st) μ ov := by
  have hz : zc1 (o :: r) 0 := (fun j w hj _ => by omega)
  exact fun H locs ls hP hD hS hl => lv_astore_n C.1.1 C.1.2.1 d rfl hl hn rfl (fun ls' hl' => k H locs ls' hP hD hS (zL_of hl' (zst1 hz)))
theorem z_astore1 (C : zC p s m args c E sa cc nL own Ts) {a : Option Value} {o : Option Value} {r : List (Option Value)} {x : Nat} (hn : 1 < nL) (hc : ∀ w : Value, a = some w → ¬ w.category = 2) (d : decode cc pc = .ok (.astore_n 1, 1)) (k : zW p l e R s m args below meth c E nL cells slots Q (pc + 1) (a :: some (.ref x) :: r) st μ ov) : zW p l e R s m args below meth c E nL cells slots Q pc (a :: o :: r) (.ref x :: st) μ ov := by
  have hz : zc1 (a :: o :: r) 1 := (fun j w hj hw => by obtain rfl : j = 0 := by omega
  exact hc w (Option.some.inj hw))
  exact fun H locs ls hP hD hS hl => lv_astore_n C.1.1 C.1.2.1 d rfl hl hn rfl (fun ls' hl' => k H locs ls' hP hD hS (zL_of hl' (zst1 hz)))
theorem z_astore2 (C : zC p s m args c E sa cc nL own Ts) {a b : Option Value} {o : Option Value} {r : List (Option Value)} {x : Nat} (hn : 2 < nL) (hc : ∀ w : Value, b = some w → ¬ w.category = 2) (d : decode cc pc = .ok (.astore_n 2, 1)) (k : zW p l e R s m args below meth c E nL cells slots Q (pc + 1) (a :: b :: some (.ref x) :: r) st μ ov) : zW p l e R s m args below meth c E nL cells slots Q pc (a :: b :: o :: r) (.ref x :: st) μ ov := by
  have hz : zc1 (a :: b :: o :: r) 2 := (fun j w hj hw => by obtain rfl : j = 1 := by omega
  exact hc w (Option.some.inj hw))
  exact fun H locs ls hP hD hS hl => lv_astore_n C.1.1 C.1.2.1 d rfl hl hn rfl (fun ls' hl' => k H locs ls' hP hD hS (zL_of hl' (zst1 hz)))
theorem z_astore3 (C : zC p s m args c E sa cc nL own Ts) {a b c : Option Value} {o : Option Value} {r : List (Option Value)} {x : Nat} (hn : 3 < nL) (hc : ∀ w : Value, c = some w → ¬ w.category = 2) (d : decode cc pc = .ok (.astore_n 3, 1)) (k : zW p l e R s m args below meth c E nL cells slots Q (pc + 1) (a :: b :: c :: some (.ref x) :: r) st μ ov) : zW p l e R s m args below meth c E nL cells slots Q pc (a :: b :: c :: o :: r) (.ref x :: st) μ ov := by
  have hz : zc1 (a :: b :: c :: o :: r) 3 := (fun j w hj hw => by obtain rfl : j = 2 := by omega
  exact hc w (Option.some.inj hw))
  exact fun H locs ls hP hD hS hl => lv_astore_n C.1.1 C.1.2.1 d rfl hl hn rfl (fun ls' hl' => k H locs ls' hP hD hS (zL_of hl' (zst1 hz)))
theorem z_astore4 (C : zC p s m args c E sa cc nL own Ts) {a b c d : Option Value} {o : Option Value} {r : List (Option Value)} {x : Nat} (hn : 4 < nL) (hc : ∀ w : Value, d = some w → ¬ w.category = 2) (d : decode cc pc = .ok (.astore 4, 2)) (k : zW p l e R s m args below meth c E nL cells slots Q (pc + 2) (a :: b :: c :: d :: some (.ref x) :: r) st μ ov) : zW p l e R s m args below meth c E nL cells slots Q pc (a :: b :: c :: d :: o :: r) (.ref x :: st) μ ov := by
  have hz : zc1 (a :: b :: c :: d :: o :: r) 4 := (fun j w hj hw => by obtain rfl : j = 3 := by omega
  exact hc w (Option.some.inj hw))
  exact fun H locs ls hP hD hS hl => lv_astore C.1.1 C.1.2.1 d hl hn rfl (fun ls' hl' => k H locs ls' hP hD hS (zL_of hl' (zst1 hz)))
theorem z_astore5 (C : zC p s m args c E sa cc nL own Ts) {a b c d f : Option Value} {o : Option Value} {r : List (Option Value)} {x : Nat} (hn : 5 < nL) (hc : ∀ w : Value, f = some w → ¬ w.category = 2) (d : decode cc pc = .ok (.astore 5, 2)) (k : zW p l e R s m args below meth c E nL cells slots Q (pc + 2) (a :: b :: c :: d :: f :: some (.ref x) :: r) st μ ov) : zW p l e R s m args below meth c E nL cells slots Q pc (a :: b :: c :: d :: f :: o :: r) (.ref x :: st) μ ov := by
  have hz : zc1 (a :: b :: c :: d :: f :: o :: r) 5 := (fun j w hj hw => by obtain rfl : j = 4 := by omega
  exact hc w (Option.some.inj hw))
  exact fun H locs ls hP hD hS hl => lv_astore C.1.1 C.1.2.1 d hl hn rfl (fun ls' hl' => k H locs ls' hP hD hS (zL_of hl' (zst1 hz)))
theorem z_lstore0 (C : zC p s m args c E sa cc nL own Ts) {o o2 : Option Value} {r : List (Option Value)} {x : Int64} (hn : 1 < nL) (d : decode cc pc = .ok (.lstore_n 0, 1)) (k : zW p l e R s m args below meth c E nL cells slots Q (pc + 1) (some (.long x) :: none :: r) st μ ov) : zW p l e R s m args below meth c E nL cells slots Q pc (o :: o2 :: r) (.long x :: st) μ ov := by
  have hz : zc1 (o :: o2 :: r) 0 := (fun j w hj _ => by omega)
  exact fun H locs ls hP hD hS hl => lv_lstore_n C.1.1 C.1.2.1 d rfl hl hn rfl (fun ls' hl' => k H locs ls' hP hD hS (zL_of hl' (zst2 hz)))
theorem z_lstore1 (C : zC p s m args c E sa cc nL own Ts) {a : Option Value} {o o2 : Option Value} {r : List (Option Value)} {x : Int64} (hn : 2 < nL) (hc : ∀ w : Value, a = some w → ¬ w.category = 2) (d : decode cc pc = .ok (.lstore_n 1, 1)) (k : zW p l e R s m args below meth c E nL cells slots Q (pc + 1) (a :: some (.long x) :: none :: r) st μ ov) : zW p l e R s m args below meth c E nL cells slots Q pc (a :: o :: o2 :: r) (.long x :: st) μ ov := by
  have hz : zc1 (a :: o :: o2 :: r) 1 := (fun j w hj hw => by obtain rfl : j = 0 := by omega
  exact hc w (Option.some.inj hw))
  exact fun H locs ls hP hD hS hl => lv_lstore_n C.1.1 C.1.2.1 d rfl hl hn rfl (fun ls' hl' => k H locs ls' hP hD hS (zL_of hl' (zst2 hz)))
theorem z_lstore2 (C : zC p s m args c E sa cc nL own Ts) {a b : Option Value} {o o2 : Option Value} {r : List (Option Value)} {x : Int64} (hn : 3 < nL) (hc : ∀ w : Value, b = some w → ¬ w.category = 2) (d : decode cc pc = .ok (.lstore_n 2, 1)) (k : zW p l e R s m args below meth c E nL cells slots Q (pc + 1) (a :: b :: some (.long x) :: none :: r) st μ ov) : zW p l e R s m args below meth c E nL cells slots Q pc (a :: b :: o :: o2 :: r) (.long x :: st) μ ov := by
  have hz : zc1 (a :: b :: o :: o2 :: r) 2 := (fun j w hj hw => by obtain rfl : j = 1 := by omega
  exact hc w (Option.some.inj hw))
  exact fun H locs ls hP hD hS hl => lv_lstore_n C.1.1 C.1.2.1 d rfl hl hn rfl (fun ls' hl' => k H locs ls' hP hD hS (zL_of hl' (zst2 hz)))
theorem z_lstore3 (C : zC p s m args c E sa cc nL own Ts) {a b c : Option Value} {o o2 : Option Value} {r : List (Option Value)} {x : Int64} (hn : 4 < nL) (hc : ∀ w : Value, c = some w → ¬ w.category = 2) (d : decode cc pc = .ok (.lstore_n 3, 1)) (k : zW p l e R s m args below meth c E nL cells slots Q (pc + 1) (a :: b :: c :: some (.long x) :: none :: r) st μ ov) : zW p l e R s m args below meth c E nL cells slots Q pc (a :: b :: c :: o :: o2 :: r) (.long x :: st) μ ov := by
  have hz : zc1 (a :: b :: c :: o :: o2 :: r) 3 := (fun j w hj hw => by obtain rfl : j = 2 := by omega
  exact hc w (Option.some.inj hw))
  exact fun H locs ls hP hD hS hl => lv_lstore_n C.1.1 C.1.2.1 d rfl hl hn rfl (fun ls' hl' => k H locs ls' hP hD hS (zL_of hl' (zst2 hz)))
theorem z_lstore4 (C : zC p s m args c E sa cc nL own Ts) {a b c d : Option Value} {o o2 : Option Value} {r : List (Option Value)} {x : Int64} (hn : 5 < nL) (hc : ∀ w : Value, d = some w → ¬ w.category = 2) (d : decode cc pc = .ok (.lstore 4, 2)) (k : zW p l e R s m args below meth c E nL cells slots Q (pc + 2) (a :: b :: c :: d :: some (.long x) :: none :: r) st μ ov) : zW p l e R s m args below meth c E nL cells slots Q pc (a :: b :: c :: d :: o :: o2 :: r) (.long x :: st) μ ov := by
  have hz : zc1 (a :: b :: c :: d :: o :: o2 :: r) 4 := (fun j w hj hw => by obtain rfl : j = 3 := by omega
  exact hc w (Option.some.inj hw))
  exact fun H locs ls hP hD hS hl => lv_lstore C.1.1 C.1.2.1 d hl hn rfl (fun ls' hl' => k H locs ls' hP hD hS (zL_of hl' (zst2 hz)))
theorem z_lstore5 (C : zC p s m args c E sa cc nL own Ts) {a b c d f : Option Value} {o o2 : Option Value} {r : List (Option Value)} {x : Int64} (hn : 6 < nL) (hc : ∀ w : Value, f = some w → ¬ w.category = 2) (d : decode cc pc = .ok (.lstore 5, 2)) (k : zW p l e R s m args below meth c E nL cells slots Q (pc + 2) (a :: b :: c :: d :: f :: some (.long x) :: none :: r) st μ ov) : zW p l e R s m args below meth c E nL cells slots Q pc (a :: b :: c :: d :: f :: o :: o2 :: r) (.long x :: st) μ ov := by
  have hz : zc1 (a :: b :: c :: d :: f :: o :: o2 :: r) 5 := (fun j w hj hw => by obtain rfl : j = 4 := by omega
  exact hc w (Option.some.inj hw))
  exact fun H locs ls hP hD hS hl => lv_lstore C.1.1 C.1.2.1 d hl hn rfl (fun ls' hl' => k H locs ls' hP hD hS (zL_of hl' (zst2 hz)))
theorem z_lstore6 (C : zC p s m args c E sa cc nL own Ts) {a b c d f g : Option Value} {o o2 : Option Value} {r : List (Option Value)} {x : Int64} (hn : 7 < nL) (hc : ∀ w : Value, g = some w → ¬ w.category = 2) (d : decode cc pc = .ok (.lstore 6, 2)) (k : zW p l e R s m args below meth c E nL cells slots Q (pc + 2) (a :: b :: c :: d :: f :: g :: some (.long x) :: none :: r) st μ ov) : zW p l e R s m args below meth c E nL cells slots Q pc (a :: b :: c :: d :: f :: g :: o :: o2 :: r) (.long x :: st) μ ov := by
  have hz : zc1 (a :: b :: c :: d :: f :: g :: o :: o2 :: r) 6 := (fun j w hj hw => by obtain rfl : j = 5 := by omega
  exact hc w (Option.some.inj hw))
  exact fun H locs ls hP hD hS hl => lv_lstore C.1.1 C.1.2.1 d hl hn rfl (fun ls' hl' => k H locs ls' hP hD hS (zL_of hl' (zst2 hz)))
theorem z_lstore7 (C : zC p s m args c E sa cc nL own Ts) {a b c d f g h : Option Value} {o o2 : Option Value} {r : List (Option Value)} {x : Int64} (hn : 8 < nL) (hc : ∀ w : Value, h = some w → ¬ w.category = 2) (d : decode cc pc = .ok (.lstore 7, 2)) (k : zW p l e R s m args below meth c E nL cells slots Q (pc + 2) (a :: b :: c :: d :: f :: g :: h :: some (.long x) :: none :: r) st μ ov) : zW p l e R s m args below meth c E nL cells slots Q pc (a :: b :: c :: d :: f :: g :: h :: o :: o2 :: r) (.long x :: st) μ ov := by
  have hz : zc1 (a :: b :: c :: d :: f :: g :: h :: o :: o2 :: r) 7 := (fun j w hj hw => by obtain rfl : j = 6 := by omega
  exact hc w (Option.some.inj hw))
  exact fun H locs ls hP hD hS hl => lv_lstore C.1.1 C.1.2.1 d hl hn rfl (fun ls' hl' => k H locs ls' hP hD hS (zL_of hl' (zst2 hz)))
theorem z_lstore8 (C : zC p s m args c E sa cc nL own Ts) {a b c d f g h i : Option Value} {o o2 : Option Value} {r : List (Option Value)} {x : Int64} (hn : 9 < nL) (hc : ∀ w : Value, i = some w → ¬ w.category = 2) (d : decode cc pc = .ok (.lstore 8, 2)) (k : zW p l e R s m args below meth c E nL cells slots Q (pc + 2) (a :: b :: c :: d :: f :: g :: h :: i :: some (.long x) :: none :: r) st μ ov) : zW p l e R s m args below meth c E nL cells slots Q pc (a :: b :: c :: d :: f :: g :: h :: i :: o :: o2 :: r) (.long x :: st) μ ov := by
  have hz : zc1 (a :: b :: c :: d :: f :: g :: h :: i :: o :: o2 :: r) 8 := (fun j w hj hw => by obtain rfl : j = 7 := by omega
  exact hc w (Option.some.inj hw))
  exact fun H locs ls hP hD hS hl => lv_lstore C.1.1 C.1.2.1 d hl hn rfl (fun ls' hl' => k H locs ls' hP hD hS (zL_of hl' (zst2 hz)))
theorem z_iinc0 (C : zC p s m args c E sa cc nL own Ts) {r : List (Option Value)} {x v : Int32} {n : Int} (hv : Int32.ofInt n = v) (hn : 0 < nL) (d : decode cc pc = .ok (.iinc 0 n, 3)) (k : zW p l e R s m args below meth c E nL cells slots Q (pc + 3) (some (.int (x + v)) :: r) st μ ov) : zW p l e R s m args below meth c E nL cells slots Q pc (some (.int x) :: r) st μ ov := by
  have hz : zc1 (some (.int x) :: r) 0 := (fun j w hj _ => by omega)
  intro H locs ls hP hD hS hl
  obtain ⟨k9, hk9⟩ := List.getElem?_of_mem ((zl_mem (some (.int x) :: r) 0 (0, .int x)).mpr ⟨Nat.zero_le _, rfl⟩)
  exact lv_iinc C.1.1 C.1.2.1 d hl hk9 (by rw [hv]) hn rfl (fun ls' hl' => k H locs ls' hP hD hS (zL_of hl' (zst1 hz)))
theorem z_iinc1 (C : zC p s m args c E sa cc nL own Ts) {a : Option Value} {r : List (Option Value)} {x v : Int32} {n : Int} (hv : Int32.ofInt n = v) (hn : 1 < nL) (hc : ∀ w : Value, a = some w → ¬ w.category = 2) (d : decode cc pc = .ok (.iinc 1 n, 3)) (k : zW p l e R s m args below meth c E nL cells slots Q (pc + 3) (a :: some (.int (x + v)) :: r) st μ ov) : zW p l e R s m args below meth c E nL cells slots Q pc (a :: some (.int x) :: r) st μ ov := by
  have hz : zc1 (a :: some (.int x) :: r) 1 := (fun j w hj hw => by obtain rfl : j = 0 := by omega
  exact hc w (Option.some.inj hw))
  intro H locs ls hP hD hS hl
  obtain ⟨k9, hk9⟩ := List.getElem?_of_mem ((zl_mem (a :: some (.int x) :: r) 0 (1, .int x)).mpr ⟨Nat.zero_le _, rfl⟩)
  exact lv_iinc C.1.1 C.1.2.1 d hl hk9 (by rw [hv]) hn rfl (fun ls' hl' => k H locs ls' hP hD hS (zL_of hl' (zst1 hz)))
theorem z_iinc2 (C : zC p s m args c E sa cc nL own Ts) {a b : Option Value} {r : List (Option Value)} {x v : Int32} {n : Int} (hv : Int32.ofInt n = v) (hn : 2 < nL) (hc : ∀ w : Value, b = some w → ¬ w.category = 2) (d : decode cc pc = .ok (.iinc 2 n, 3)) (k : zW p l e R s m args below meth c E nL cells slots Q (pc + 3) (a :: b :: some (.int (x + v)) :: r) st μ ov) : zW p l e R s m args below meth c E nL cells slots Q pc (a :: b :: some (.int x) :: r) st μ ov := by
  have hz : zc1 (a :: b :: some (.int x) :: r) 2 := (fun j w hj hw => by obtain rfl : j = 1 := by omega
  exact hc w (Option.some.inj hw))
  intro H locs ls hP hD hS hl
  obtain ⟨k9, hk9⟩ := List.getElem?_of_mem ((zl_mem (a :: b :: some (.int x) :: r) 0 (2, .int x)).mpr ⟨Nat.zero_le _, rfl⟩)
  exact lv_iinc C.1.1 C.1.2.1 d hl hk9 (by rw [hv]) hn rfl (fun ls' hl' => k H locs ls' hP hD hS (zL_of hl' (zst1 hz)))
theorem z_iinc3 (C : zC p s m args c E sa cc nL own Ts) {a b c : Option Value} {r : List (Option Value)} {x v : Int32} {n : Int} (hv : Int32.ofInt n = v) (hn : 3 < nL) (hc : ∀ w : Value, c = some w → ¬ w.category = 2) (d : decode cc pc = .ok (.iinc 3 n, 3)) (k : zW p l e R s m args below meth c E nL cells slots Q (pc + 3) (a :: b :: c :: some (.int (x + v)) :: r) st μ ov) : zW p l e R s m args below meth c E nL cells slots Q pc (a :: b :: c :: some (.int x) :: r) st μ ov := by
  have hz : zc1 (a :: b :: c :: some (.int x) :: r) 3 := (fun j w hj hw => by obtain rfl : j = 2 := by omega
  exact hc w (Option.some.inj hw))
  intro H locs ls hP hD hS hl
  obtain ⟨k9, hk9⟩ := List.getElem?_of_mem ((zl_mem (a :: b :: c :: some (.int x) :: r) 0 (3, .int x)).mpr ⟨Nat.zero_le _, rfl⟩)
  exact lv_iinc C.1.1 C.1.2.1 d hl hk9 (by rw [hv]) hn rfl (fun ls' hl' => k H locs ls' hP hD hS (zL_of hl' (zst1 hz)))
theorem z_iinc4 (C : zC p s m args c E sa cc nL own Ts) {a b c d : Option Value} {r : List (Option Value)} {x v : Int32} {n : Int} (hv : Int32.ofInt n = v) (hn : 4 < nL) (hc : ∀ w : Value, d = some w → ¬ w.category = 2) (d : decode cc pc = .ok (.iinc 4 n, 3)) (k : zW p l e R s m args below meth c E nL cells slots Q (pc + 3) (a :: b :: c :: d :: some (.int (x + v)) :: r) st μ ov) : zW p l e R s m args below meth c E nL cells slots Q pc (a :: b :: c :: d :: some (.int x) :: r) st μ ov := by
  have hz : zc1 (a :: b :: c :: d :: some (.int x) :: r) 4 := (fun j w hj hw => by obtain rfl : j = 3 := by omega
  exact hc w (Option.some.inj hw))
  intro H locs ls hP hD hS hl
  obtain ⟨k9, hk9⟩ := List.getElem?_of_mem ((zl_mem (a :: b :: c :: d :: some (.int x) :: r) 0 (4, .int x)).mpr ⟨Nat.zero_le _, rfl⟩)
  exact lv_iinc C.1.1 C.1.2.1 d hl hk9 (by rw [hv]) hn rfl (fun ls' hl' => k H locs ls' hP hD hS (zL_of hl' (zst1 hz)))
theorem z_iinc5 (C : zC p s m args c E sa cc nL own Ts) {a b c d f : Option Value} {r : List (Option Value)} {x v : Int32} {n : Int} (hv : Int32.ofInt n = v) (hn : 5 < nL) (hc : ∀ w : Value, f = some w → ¬ w.category = 2) (d : decode cc pc = .ok (.iinc 5 n, 3)) (k : zW p l e R s m args below meth c E nL cells slots Q (pc + 3) (a :: b :: c :: d :: f :: some (.int (x + v)) :: r) st μ ov) : zW p l e R s m args below meth c E nL cells slots Q pc (a :: b :: c :: d :: f :: some (.int x) :: r) st μ ov := by
  have hz : zc1 (a :: b :: c :: d :: f :: some (.int x) :: r) 5 := (fun j w hj hw => by obtain rfl : j = 4 := by omega
  exact hc w (Option.some.inj hw))
  intro H locs ls hP hD hS hl
  obtain ⟨k9, hk9⟩ := List.getElem?_of_mem ((zl_mem (a :: b :: c :: d :: f :: some (.int x) :: r) 0 (5, .int x)).mpr ⟨Nat.zero_le _, rfl⟩)
  exact lv_iinc C.1.1 C.1.2.1 d hl hk9 (by rw [hv]) hn rfl (fun ls' hl' => k H locs ls' hP hD hS (zL_of hl' (zst1 hz)))
theorem z_iinc6 (C : zC p s m args c E sa cc nL own Ts) {a b c d f g : Option Value} {r : List (Option Value)} {x v : Int32} {n : Int} (hv : Int32.ofInt n = v) (hn : 6 < nL) (hc : ∀ w : Value, g = some w → ¬ w.category = 2) (d : decode cc pc = .ok (.iinc 6 n, 3)) (k : zW p l e R s m args below meth c E nL cells slots Q (pc + 3) (a :: b :: c :: d :: f :: g :: some (.int (x + v)) :: r) st μ ov) : zW p l e R s m args below meth c E nL cells slots Q pc (a :: b :: c :: d :: f :: g :: some (.int x) :: r) st μ ov := by
  have hz : zc1 (a :: b :: c :: d :: f :: g :: some (.int x) :: r) 6 := (fun j w hj hw => by obtain rfl : j = 5 := by omega
  exact hc w (Option.some.inj hw))
  intro H locs ls hP hD hS hl
  obtain ⟨k9, hk9⟩ := List.getElem?_of_mem ((zl_mem (a :: b :: c :: d :: f :: g :: some (.int x) :: r) 0 (6, .int x)).mpr ⟨Nat.zero_le _, rfl⟩)
  exact lv_iinc C.1.1 C.1.2.1 d hl hk9 (by rw [hv]) hn rfl (fun ls' hl' => k H locs ls' hP hD hS (zL_of hl' (zst1 hz)))
theorem z_iinc7 (C : zC p s m args c E sa cc nL own Ts) {a b c d f g h : Option Value} {r : List (Option Value)} {x v : Int32} {n : Int} (hv : Int32.ofInt n = v) (hn : 7 < nL) (hc : ∀ w : Value, h = some w → ¬ w.category = 2) (d : decode cc pc = .ok (.iinc 7 n, 3)) (k : zW p l e R s m args below meth c E nL cells slots Q (pc + 3) (a :: b :: c :: d :: f :: g :: h :: some (.int (x + v)) :: r) st μ ov) : zW p l e R s m args below meth c E nL cells slots Q pc (a :: b :: c :: d :: f :: g :: h :: some (.int x) :: r) st μ ov := by
  have hz : zc1 (a :: b :: c :: d :: f :: g :: h :: some (.int x) :: r) 7 := (fun j w hj hw => by obtain rfl : j = 6 := by omega
  exact hc w (Option.some.inj hw))
  intro H locs ls hP hD hS hl
  obtain ⟨k9, hk9⟩ := List.getElem?_of_mem ((zl_mem (a :: b :: c :: d :: f :: g :: h :: some (.int x) :: r) 0 (7, .int x)).mpr ⟨Nat.zero_le _, rfl⟩)
  exact lv_iinc C.1.1 C.1.2.1 d hl hk9 (by rw [hv]) hn rfl (fun ls' hl' => k H locs ls' hP hD hS (zL_of hl' (zst1 hz)))
theorem z_iinc8 (C : zC p s m args c E sa cc nL own Ts) {a b c d f g h i : Option Value} {r : List (Option Value)} {x v : Int32} {n : Int} (hv : Int32.ofInt n = v) (hn : 8 < nL) (hc : ∀ w : Value, i = some w → ¬ w.category = 2) (d : decode cc pc = .ok (.iinc 8 n, 3)) (k : zW p l e R s m args below meth c E nL cells slots Q (pc + 3) (a :: b :: c :: d :: f :: g :: h :: i :: some (.int (x + v)) :: r) st μ ov) : zW p l e R s m args below meth c E nL cells slots Q pc (a :: b :: c :: d :: f :: g :: h :: i :: some (.int x) :: r) st μ ov := by
  have hz : zc1 (a :: b :: c :: d :: f :: g :: h :: i :: some (.int x) :: r) 8 := (fun j w hj hw => by obtain rfl : j = 7 := by omega
  exact hc w (Option.some.inj hw))
  intro H locs ls hP hD hS hl
  obtain ⟨k9, hk9⟩ := List.getElem?_of_mem ((zl_mem (a :: b :: c :: d :: f :: g :: h :: i :: some (.int x) :: r) 0 (8, .int x)).mpr ⟨Nat.zero_le _, rfl⟩)
  exact lv_iinc C.1.1 C.1.2.1 d hl hk9 (by rw [hv]) hn rfl (fun ls' hl' => k H locs ls' hP hD hS (zL_of hl' (zst1 hz)))
theorem z_iadd (C : zC p s m args c E sa cc nL own Ts) {x y : Int32} (d : decode cc pc = .ok (.iadd, 1)) (k : zW p l e R s m args below meth c E nL cells slots Q (pc + 1) lv (.int (x + y) :: st) μ ov) : zW p l e R s m args below meth c E nL cells slots Q pc lv (.int y :: .int x :: st) μ ov :=
  fun H locs ls hP hD hS hl => lv_iadd C.1.1 C.1.2.1 d (k H locs ls hP hD hS hl)
theorem z_isub (C : zC p s m args c E sa cc nL own Ts) {x y : Int32} (d : decode cc pc = .ok (.isub, 1)) (k : zW p l e R s m args below meth c E nL cells slots Q (pc + 1) lv (.int (x - y) :: st) μ ov) : zW p l e R s m args below meth c E nL cells slots Q pc lv (.int y :: .int x :: st) μ ov :=
  fun H locs ls hP hD hS hl => lv_isub C.1.1 C.1.2.1 d (k H locs ls hP hD hS hl)
theorem z_imul (C : zC p s m args c E sa cc nL own Ts) {x y : Int32} (d : decode cc pc = .ok (.imul, 1)) (k : zW p l e R s m args below meth c E nL cells slots Q (pc + 1) lv (.int (x * y) :: st) μ ov) : zW p l e R s m args below meth c E nL cells slots Q pc lv (.int y :: .int x :: st) μ ov :=
  fun H locs ls hP hD hS hl => lv_imul C.1.1 C.1.2.1 d (k H locs ls hP hD hS hl)
theorem z_iand (C : zC p s m args c E sa cc nL own Ts) {x y : Int32} (d : decode cc pc = .ok (.iand, 1)) (k : zW p l e R s m args below meth c E nL cells slots Q (pc + 1) lv (.int (x &&& y) :: st) μ ov) : zW p l e R s m args below meth c E nL cells slots Q pc lv (.int y :: .int x :: st) μ ov :=
  fun H locs ls hP hD hS hl => lv_iand C.1.1 C.1.2.1 d (k H locs ls hP hD hS hl)
theorem z_ior (C : zC p s m args c E sa cc nL own Ts) {x y : Int32} (d : decode cc pc = .ok (.ior, 1)) (k : zW p l e R s m args below meth c E nL cells slots Q (pc + 1) lv (.int (x ||| y) :: st) μ ov) : zW p l e R s m args below meth c E nL cells slots Q pc lv (.int y :: .int x :: st) μ ov :=
  fun H locs ls hP hD hS hl => lv_ior C.1.1 C.1.2.1 d (k H locs ls hP hD hS hl)
theorem z_ixor (C : zC p s m args c E sa cc nL own Ts) {x y : Int32} (d : decode cc pc = .ok (.ixor, 1)) (k : zW p l e R s m args below meth c E nL cells slots Q (pc + 1) lv (.int (x ^^^ y) :: st) μ ov) : zW p l e R s m args below meth c E nL cells slots Q pc lv (.int y :: .int x :: st) μ ov :=
  fun H locs ls hP hD hS hl => lv_ixor C.1.1 C.1.2.1 d (k H locs ls hP hD hS hl)
theorem z_ishl (C : zC p s m args c E sa cc nL own Ts) {x y : Int32} (d : decode cc pc = .ok (.ishl, 1)) (k : zW p l e R s m args below meth c E nL cells slots Q (pc + 1) lv (.int (x <<< (y &&& 31)) :: st) μ ov) : zW p l e R s m args below meth c E nL cells slots Q pc lv (.int y :: .int x :: st) μ ov :=
  fun H locs ls hP hD hS hl => lv_ishl C.1.1 C.1.2.1 d (k H locs ls hP hD hS hl)
theorem z_ishr (C : zC p s m args c E sa cc nL own Ts) {x y : Int32} (d : decode cc pc = .ok (.ishr, 1)) (k : zW p l e R s m args below meth c E nL cells slots Q (pc + 1) lv (.int (x >>> (y &&& 31)) :: st) μ ov) : zW p l e R s m args below meth c E nL cells slots Q pc lv (.int y :: .int x :: st) μ ov :=
  fun H locs ls hP hD hS hl => lv_ishr C.1.1 C.1.2.1 d (k H locs ls hP hD hS hl)
theorem z_idiv (C : zC p s m args c E sa cc nL own Ts) {x y : Int32} (d : decode cc pc = .ok (.idiv, 1)) (hne : ¬ y = 0) (k : zW p l e R s m args below meth c E nL cells slots Q (pc + 1) lv (.int (x / y) :: st) μ ov) : zW p l e R s m args below meth c E nL cells slots Q pc lv (.int y :: .int x :: st) μ ov :=
  fun H locs ls hP hD hS hl => lv_idiv C.1.1 C.1.2.1 d hne (k H locs ls hP hD hS hl)
theorem z_irem (C : zC p s m args c E sa cc nL own Ts) {x y : Int32} (d : decode cc pc = .ok (.irem, 1)) (hne : ¬ y = 0) (k : zW p l e R s m args below meth c E nL cells slots Q (pc + 1) lv (.int (x - x / y * y) :: st) μ ov) : zW p l e R s m args below meth c E nL cells slots Q pc lv (.int y :: .int x :: st) μ ov :=
  fun H locs ls hP hD hS hl => lv_irem C.1.1 C.1.2.1 d hne (k H locs ls hP hD hS hl)
theorem z_ineg (C : zC p s m args c E sa cc nL own Ts) {x : Int32} (d : decode cc pc = .ok (.ineg, 1)) (k : zW p l e R s m args below meth c E nL cells slots Q (pc + 1) lv (.int (-x) :: st) μ ov) : zW p l e R s m args below meth c E nL cells slots Q pc lv (.int x :: st) μ ov :=
  fun H locs ls hP hD hS hl => lv_ineg C.1.1 C.1.2.1 d (k H locs ls hP hD hS hl)
theorem z_ladd (C : zC p s m args c E sa cc nL own Ts) {x y : Int64} (d : decode cc pc = .ok (.ladd, 1)) (k : zW p l e R s m args below meth c E nL cells slots Q (pc + 1) lv (.long (x + y) :: st) μ ov) : zW p l e R s m args below meth c E nL cells slots Q pc lv (.long y :: .long x :: st) μ ov :=
  fun H locs ls hP hD hS hl => lv_ladd C.1.1 C.1.2.1 d (k H locs ls hP hD hS hl)
theorem z_lsub (C : zC p s m args c E sa cc nL own Ts) {x y : Int64} (d : decode cc pc = .ok (.lsub, 1)) (k : zW p l e R s m args below meth c E nL cells slots Q (pc + 1) lv (.long (x - y) :: st) μ ov) : zW p l e R s m args below meth c E nL cells slots Q pc lv (.long y :: .long x :: st) μ ov :=
  fun H locs ls hP hD hS hl => lv_lsub C.1.1 C.1.2.1 d (k H locs ls hP hD hS hl)
theorem z_lmul (C : zC p s m args c E sa cc nL own Ts) {x y : Int64} (d : decode cc pc = .ok (.lmul, 1)) (k : zW p l e R s m args below meth c E nL cells slots Q (pc + 1) lv (.long (x * y) :: st) μ ov) : zW p l e R s m args below meth c E nL cells slots Q pc lv (.long y :: .long x :: st) μ ov :=
  fun H locs ls hP hD hS hl => lv_lmul C.1.1 C.1.2.1 d (k H locs ls hP hD hS hl)
theorem z_ldiv (C : zC p s m args c E sa cc nL own Ts) {x y : Int64} (d : decode cc pc = .ok (.ldiv, 1)) (hne : ¬ y = 0) (k : zW p l e R s m args below meth c E nL cells slots Q (pc + 1) lv (.long (x / y) :: st) μ ov) : zW p l e R s m args below meth c E nL cells slots Q pc lv (.long y :: .long x :: st) μ ov :=
  fun H locs ls hP hD hS hl => lv_ldiv C.1.1 C.1.2.1 d hne (k H locs ls hP hD hS hl)
theorem z_i2l (C : zC p s m args c E sa cc nL own Ts) {x : Int32} (d : decode cc pc = .ok (.i2l, 1)) (k : zW p l e R s m args below meth c E nL cells slots Q (pc + 1) lv (.long x.toInt64 :: st) μ ov) : zW p l e R s m args below meth c E nL cells slots Q pc lv (.int x :: st) μ ov :=
  fun H locs ls hP hD hS hl => lv_i2l C.1.1 C.1.2.1 d rfl (k H locs ls hP hD hS hl)
theorem z_l2i (C : zC p s m args c E sa cc nL own Ts) {x : Int64} (d : decode cc pc = .ok (.l2i, 1)) (k : zW p l e R s m args below meth c E nL cells slots Q (pc + 1) lv (.int x.toInt32 :: st) μ ov) : zW p l e R s m args below meth c E nL cells slots Q pc lv (.long x :: st) μ ov :=
  fun H locs ls hP hD hS hl => lv_l2i C.1.1 C.1.2.1 d rfl (k H locs ls hP hD hS hl)
theorem z_dup (C : zC p s m args c E sa cc nL own Ts) {v : Value} (d : decode cc pc = .ok (.dup, 1)) (hv : v.category = 1) (k : zW p l e R s m args below meth c E nL cells slots Q (pc + 1) lv (v :: v :: st) μ ov) : zW p l e R s m args below meth c E nL cells slots Q pc lv (v :: st) μ ov :=
  fun H locs ls hP hD hS hl => lv_dup C.1.1 C.1.2.1 d hv (k H locs ls hP hD hS hl)
theorem z_dup2 (C : zC p s m args c E sa cc nL own Ts) {v w : Value} (d : decode cc pc = .ok (.dup2, 1)) (hv : v.category = 1) (hw : w.category = 1) (k : zW p l e R s m args below meth c E nL cells slots Q (pc + 1) lv (v :: w :: v :: w :: st) μ ov) : zW p l e R s m args below meth c E nL cells slots Q pc lv (v :: w :: st) μ ov :=
  fun H locs ls hP hD hS hl => lv_dup2_11 C.1.1 C.1.2.1 d hv hw (k H locs ls hP hD hS hl)
theorem z_ldc2 (C : zC p s m args c E sa cc nL own Ts) {index : Nat} {v : Int64} (d : decode cc pc = .ok (.ldc2_w index, 3)) (hc : (Jvm.Cond.constantLong own index v).before args s = true) (k : zW p l e R s m args below meth c E nL cells slots Q (pc + 3) lv (.long v :: st) μ ov) : zW p l e R s m args below meth c E nL cells slots Q pc lv (st) μ ov :=
  fun H locs ls hP hD hS hl => lv_ldc2 C.1.1 C.1.2.1 C.1.2.2.2.1 hc d (k H locs ls hP hD hS hl)
theorem z_if_eq (C : zC p s m args c E sa cc nL own Ts) {x : Int32} {off : Int} {tgt : Nat} (d : decode cc pc = .ok (.ifCond .eq off, 3)) (ht : (pc : Int) + off = (tgt : Int)) (kt : x = 0 → zW p l e R s m args below meth c E nL cells slots Q tgt lv st μ ov) (kf : ¬ (x = 0) → zW p l e R s m args below meth c E nL cells slots Q (pc + 3) lv st μ ov) : zW p l e R s m args below meth c E nL cells slots Q pc lv (.int x :: st) μ ov :=
  fun H locs ls hP hD hS hl => lv_if_eq C.1.1 C.1.2.1 d ht (fun h => kt h H locs ls hP hD hS hl) (fun h => kf h H locs ls hP hD hS hl)
theorem z_if_ne (C : zC p s m args c E sa cc nL own Ts) {x : Int32} {off : Int} {tgt : Nat} (d : decode cc pc = .ok (.ifCond .ne off, 3)) (ht : (pc : Int) + off = (tgt : Int)) (kt : ¬ x = 0 → zW p l e R s m args below meth c E nL cells slots Q tgt lv st μ ov) (kf : ¬ (¬ x = 0) → zW p l e R s m args below meth c E nL cells slots Q (pc + 3) lv st μ ov) : zW p l e R s m args below meth c E nL cells slots Q pc lv (.int x :: st) μ ov :=
  fun H locs ls hP hD hS hl => lv_if_ne C.1.1 C.1.2.1 d ht (fun h => kt h H locs ls hP hD hS hl) (fun h => kf h H locs ls hP hD hS hl)
theorem z_if_lt (C : zC p s m args c E sa cc nL own Ts) {x : Int32} {off : Int} {tgt : Nat} (d : decode cc pc = .ok (.ifCond .lt off, 3)) (ht : (pc : Int) + off = (tgt : Int)) (kt : x < 0 → zW p l e R s m args below meth c E nL cells slots Q tgt lv st μ ov) (kf : ¬ (x < 0) → zW p l e R s m args below meth c E nL cells slots Q (pc + 3) lv st μ ov) : zW p l e R s m args below meth c E nL cells slots Q pc lv (.int x :: st) μ ov :=
  fun H locs ls hP hD hS hl => lv_if_lt C.1.1 C.1.2.1 d ht (fun h => kt h H locs ls hP hD hS hl) (fun h => kf h H locs ls hP hD hS hl)
theorem z_if_ge (C : zC p s m args c E sa cc nL own Ts) {x : Int32} {off : Int} {tgt : Nat} (d : decode cc pc = .ok (.ifCond .ge off, 3)) (ht : (pc : Int) + off = (tgt : Int)) (kt : 0 ≤ x → zW p l e R s m args below meth c E nL cells slots Q tgt lv st μ ov) (kf : ¬ (0 ≤ x) → zW p l e R s m args below meth c E nL cells slots Q (pc + 3) lv st μ ov) : zW p l e R s m args below meth c E nL cells slots Q pc lv (.int x :: st) μ ov :=
  fun H locs ls hP hD hS hl => lv_if_ge C.1.1 C.1.2.1 d ht (fun h => kt h H locs ls hP hD hS hl) (fun h => kf h H locs ls hP hD hS hl)
theorem z_if_gt (C : zC p s m args c E sa cc nL own Ts) {x : Int32} {off : Int} {tgt : Nat} (d : decode cc pc = .ok (.ifCond .gt off, 3)) (ht : (pc : Int) + off = (tgt : Int)) (kt : 0 < x → zW p l e R s m args below meth c E nL cells slots Q tgt lv st μ ov) (kf : ¬ (0 < x) → zW p l e R s m args below meth c E nL cells slots Q (pc + 3) lv st μ ov) : zW p l e R s m args below meth c E nL cells slots Q pc lv (.int x :: st) μ ov :=
  fun H locs ls hP hD hS hl => lv_if_gt C.1.1 C.1.2.1 d ht (fun h => kt h H locs ls hP hD hS hl) (fun h => kf h H locs ls hP hD hS hl)
theorem z_if_le (C : zC p s m args c E sa cc nL own Ts) {x : Int32} {off : Int} {tgt : Nat} (d : decode cc pc = .ok (.ifCond .le off, 3)) (ht : (pc : Int) + off = (tgt : Int)) (kt : x ≤ 0 → zW p l e R s m args below meth c E nL cells slots Q tgt lv st μ ov) (kf : ¬ (x ≤ 0) → zW p l e R s m args below meth c E nL cells slots Q (pc + 3) lv st μ ov) : zW p l e R s m args below meth c E nL cells slots Q pc lv (.int x :: st) μ ov :=
  fun H locs ls hP hD hS hl => lv_if_le C.1.1 C.1.2.1 d ht (fun h => kt h H locs ls hP hD hS hl) (fun h => kf h H locs ls hP hD hS hl)
theorem z_icmp_eq (C : zC p s m args c E sa cc nL own Ts) {x y : Int32} {off : Int} {tgt : Nat} (d : decode cc pc = .ok (.if_icmp .eq off, 3)) (ht : (pc : Int) + off = (tgt : Int)) (kt : x = y → zW p l e R s m args below meth c E nL cells slots Q tgt lv st μ ov) (kf : ¬ (x = y) → zW p l e R s m args below meth c E nL cells slots Q (pc + 3) lv st μ ov) : zW p l e R s m args below meth c E nL cells slots Q pc lv (.int y :: .int x :: st) μ ov :=
  fun H locs ls hP hD hS hl => lv_icmp_eq C.1.1 C.1.2.1 d ht (fun h => kt h H locs ls hP hD hS hl) (fun h => kf h H locs ls hP hD hS hl)
theorem z_icmp_ne (C : zC p s m args c E sa cc nL own Ts) {x y : Int32} {off : Int} {tgt : Nat} (d : decode cc pc = .ok (.if_icmp .ne off, 3)) (ht : (pc : Int) + off = (tgt : Int)) (kt : ¬ x = y → zW p l e R s m args below meth c E nL cells slots Q tgt lv st μ ov) (kf : ¬ (¬ x = y) → zW p l e R s m args below meth c E nL cells slots Q (pc + 3) lv st μ ov) : zW p l e R s m args below meth c E nL cells slots Q pc lv (.int y :: .int x :: st) μ ov :=
  fun H locs ls hP hD hS hl => lv_icmp_ne C.1.1 C.1.2.1 d ht (fun h => kt h H locs ls hP hD hS hl) (fun h => kf h H locs ls hP hD hS hl)
theorem z_icmp_lt (C : zC p s m args c E sa cc nL own Ts) {x y : Int32} {off : Int} {tgt : Nat} (d : decode cc pc = .ok (.if_icmp .lt off, 3)) (ht : (pc : Int) + off = (tgt : Int)) (kt : x < y → zW p l e R s m args below meth c E nL cells slots Q tgt lv st μ ov) (kf : ¬ (x < y) → zW p l e R s m args below meth c E nL cells slots Q (pc + 3) lv st μ ov) : zW p l e R s m args below meth c E nL cells slots Q pc lv (.int y :: .int x :: st) μ ov :=
  fun H locs ls hP hD hS hl => lv_icmp_lt C.1.1 C.1.2.1 d ht (fun h => kt h H locs ls hP hD hS hl) (fun h => kf h H locs ls hP hD hS hl)
theorem z_icmp_ge (C : zC p s m args c E sa cc nL own Ts) {x y : Int32} {off : Int} {tgt : Nat} (d : decode cc pc = .ok (.if_icmp .ge off, 3)) (ht : (pc : Int) + off = (tgt : Int)) (kt : y ≤ x → zW p l e R s m args below meth c E nL cells slots Q tgt lv st μ ov) (kf : ¬ (y ≤ x) → zW p l e R s m args below meth c E nL cells slots Q (pc + 3) lv st μ ov) : zW p l e R s m args below meth c E nL cells slots Q pc lv (.int y :: .int x :: st) μ ov :=
  fun H locs ls hP hD hS hl => lv_icmp_ge C.1.1 C.1.2.1 d ht (fun h => kt h H locs ls hP hD hS hl) (fun h => kf h H locs ls hP hD hS hl)
theorem z_icmp_gt (C : zC p s m args c E sa cc nL own Ts) {x y : Int32} {off : Int} {tgt : Nat} (d : decode cc pc = .ok (.if_icmp .gt off, 3)) (ht : (pc : Int) + off = (tgt : Int)) (kt : y < x → zW p l e R s m args below meth c E nL cells slots Q tgt lv st μ ov) (kf : ¬ (y < x) → zW p l e R s m args below meth c E nL cells slots Q (pc + 3) lv st μ ov) : zW p l e R s m args below meth c E nL cells slots Q pc lv (.int y :: .int x :: st) μ ov :=
  fun H locs ls hP hD hS hl => lv_icmp_gt C.1.1 C.1.2.1 d ht (fun h => kt h H locs ls hP hD hS hl) (fun h => kf h H locs ls hP hD hS hl)
theorem z_icmp_le (C : zC p s m args c E sa cc nL own Ts) {x y : Int32} {off : Int} {tgt : Nat} (d : decode cc pc = .ok (.if_icmp .le off, 3)) (ht : (pc : Int) + off = (tgt : Int)) (kt : x ≤ y → zW p l e R s m args below meth c E nL cells slots Q tgt lv st μ ov) (kf : ¬ (x ≤ y) → zW p l e R s m args below meth c E nL cells slots Q (pc + 3) lv st μ ov) : zW p l e R s m args below meth c E nL cells slots Q pc lv (.int y :: .int x :: st) μ ov :=
  fun H locs ls hP hD hS hl => lv_icmp_le C.1.1 C.1.2.1 d ht (fun h => kt h H locs ls hP hD hS hl) (fun h => kf h H locs ls hP hD hS hl)
theorem z_goto (C : zC p s m args c E sa cc nL own Ts) {off : Int} {tgt : Nat} (d : decode cc pc = .ok (.goto off, 3)) (ht : (pc : Int) + off = (tgt : Int)) (k : zW p l e R s m args below meth c E nL cells slots Q tgt lv st μ ov) : zW p l e R s m args below meth c E nL cells slots Q pc lv st μ ov :=
  fun H locs ls hP hD hS hl => lv_goto C.1.1 C.1.2.1 d ht (k H locs ls hP hD hS hl)
theorem z_tableOut (C : zC p s m args c E sa cc nL own Ts) {dflt lo hi : Int} {offs : Array Int} {len : Nat} {x : Int32} {tgt : Nat} (d : decode cc pc = .ok (.tableswitch dflt lo hi offs, len)) (h : x.toInt < lo ∨ hi < x.toInt) (ht : (pc : Int) + dflt = (tgt : Int)) (k : zW p l e R s m args below meth c E nL cells slots Q tgt lv st μ ov) : zW p l e R s m args below meth c E nL cells slots Q pc lv (.int x :: st) μ ov :=
  fun H locs ls hP hD hS hl => lv_tableOut C.1.1 C.1.2.1 d h ht (k H locs ls hP hD hS hl)
theorem z_tableIn (C : zC p s m args c E sa cc nL own Ts) {dflt lo hi : Int} {offs : Array Int} {len : Nat} {x : Int32} {off : Int} {tgt : Nat} (d : decode cc pc = .ok (.tableswitch dflt lo hi offs, len)) (h1 : ¬ x.toInt < lo) (h2 : ¬ hi < x.toInt) (ho : offs[(x.toInt - lo).toNat]? = some off) (ht : (pc : Int) + off = (tgt : Int)) (k : zW p l e R s m args below meth c E nL cells slots Q tgt lv st μ ov) : zW p l e R s m args below meth c E nL cells slots Q pc lv (.int x :: st) μ ov :=
  fun H locs ls hP hD hS hl => lv_tableIn C.1.1 C.1.2.1 d h1 h2 ho ht (k H locs ls hP hD hS hl)
/-- fewer locals known -/
theorem z_weak {lv' : List (Option Value)} (hz : zle lv' lv) (k : zW p l e R s m args below meth c E nL cells slots Q pc lv' st μ ov) : zW p l e R s m args below meth c E nL cells slots Q pc lv st μ ov :=
  fun H locs ls hP hD hS hl => k H locs ls hP hD hS (zL_le hl hz)
/-- a name for the top of the stack, for the memory -/
theorem z_topi {x y : Int32} (h : x = y) (k : zW p l e R s m args below meth c E nL cells slots Q pc lv (.int y :: st) μ ov) : zW p l e R s m args below meth c E nL cells slots Q pc lv (.int x :: st) μ ov := by rw [h]; exact k
theorem z_topl {x y : Int64} (h : x = y) (k : zW p l e R s m args below meth c E nL cells slots Q pc lv (.long y :: st) μ ov) : zW p l e R s m args below meth c E nL cells slots Q pc lv (.long x :: st) μ ov := by rw [h]; exact k
theorem z_mem {μ' : zM} (h : μ = μ') (k : zW p l e R s m args below meth c E nL cells slots Q pc lv st μ' ov) : zW p l e R s m args below meth c E nL cells slots Q pc lv st μ ov := by rw [h]; exact k
/-! the heap -/
theorem z_get (C : zC p s m args c E sa cc nL own Ts) {ref Cn : String} {T : u_T} {N ci index : Nat} {a q0 : Nat} {fs : List Value} {v : Value} (k9 : Nat) (hq : q0 < 9) (he : (zO E μ ov)[q0]? = some (a, .inr (ci, fs))) (hc : vwCl[ci]? = some (Cn, T, N)) (hk : k9 < N) (hv : fs[k9]? = some v) (hin : ∀ w ∈ u_ws Cn T N, w ∈ Ts) (hlink : (Cond.fieldLink own index ref (T k9).2.1 (T k9).2.2.1).before args s = true) (href : (T k9).1 = ref) (d : decode cc pc = .ok (.getfield index, 3)) (k : zW p l e R s m args below meth c E nL cells slots Q (pc + 3) lv (v :: st) μ ov) : zW p l e R s m args below meth c E nL cells slots Q pc lv (.ref a :: st) μ ov :=
  fun H locs ls hP hD hS hl => va_get C.1.1 C.1.2.1 C.1.2.2.2.2 hin C.1.2.2.2.1 C.2.1 hP q0 ((zG_o E μ ov hq).trans he) hc k9 hk hlink (fun x h => by rw [← href]; exact h) hv d (k H locs ls hP hD hS hl)
theorem z_put (C : zC p s m args c E sa cc nL own Ts) {ref Cn : String} {T : u_T} {N ci index : Nat} {a q0 j : Nat} {fs : List Value} {x : Int32} {ty : FieldType} (k9 : Nat) (hq : q0 < 9) (he : (zO E μ ov)[q0]? = some (a, .inr (ci, fs))) (hc : vwCl[ci]? = some (Cn, T, N)) (hk : k9 < N) (hl9 : k9 < fs.length) (hset : (zO E μ ov).set q0 (a, .inr (ci, fs.set k9 (.int x))) = zO E (zu μ 63 j x) ov) (ty0 : Nat → FieldType) (hty : ∀ k, k < N → parseFieldDescriptor (T k).2.2.1 = some (ty0 k)) (hnm : ∀ a, a < N → ∀ b, b < N → a ≠ b → (T a).2.1 ≠ (T b).2.1) (hfin : (T k9).2.2.2 = false) (hd : parseFieldDescriptor (T k9).2.2.1 = some ty) (hn : narrow ty (.int x) = .int x) (hfit : fits ty (.int x) = true) (hin : ∀ w ∈ u_ws Cn T N, w ∈ Ts) (hlink : (Cond.fieldLink own index ref (T k9).2.1 (T k9).2.2.1).before args s = true) (href : (T k9).1 = ref) (d : decode cc pc = .ok (.putfield index, 3)) (k : zW p l e R s m args below meth c E nL cells slots Q (pc + 3) lv st (zu μ 63 j x) ov) : zW p l e R s m args below meth c E nL cells slots Q pc lv (.int x :: .ref a :: st) μ ov :=
  fun H locs ls hP hD hS hl => va_put C.1.1 C.1.2.1 C.1.2.2.2.2 hin ty0 hty hnm C.1.2.2.2.1 C.2.1 hP hD hS q0 ((zG_o E μ ov hq).trans he) hc k9 hk hlink (fun x h => by rw [← href]; exact h) hfin hd hn hfit hl9 d (fun H1 locs1 hP1 hD1 hS1 => by
    rw [zG_set_sc E μ ov hq hset] at hP1 hD1
    exact k H1 locs1 ls hP1 hD1 hS1 hl)
theorem z_iald (C : zC p s m args c E sa cc nL own Ts) (a9 j : Nat) {i : Int32} (hk : a9 < 63) (hd : zkd a9 = 0) (hi : i = nI j) (hj : j < zlen a9) (d : decode cc pc = .ok (.iaload, 1)) (k : zW p l e R s m args below meth c E nL cells slots Q (pc + 1) lv (.int (μ a9 j) :: st) μ ov) : zW p l e R s m args below meth c E nL cells slots Q pc lv (.int i :: .ref (zad E a9) :: st) μ ov := by
  intro H locs ls hP hD hS hl
  have h9 := zlen_lt a9 hk
  have ha : (zG E μ ov)[9 + a9]? = some (zad E a9, .inl (E.2.1 0, zlen a9, .inl (μ a9))) := by rw [zG_ar E μ ov hk, hd]
  refine va_iald C.1.1 C.1.2.1 C.2.1 hP (9 + a9) 0 ha rfl (by rw [hi]; exact vp_in_nI hj (by omega)) d ?_
  rw [hi, nI_clamp (by omega)]
  exact k H locs ls hP hD hS hl
theorem z_bald (C : zC p s m args c E sa cc nL own Ts) (a9 j : Nat) {i : Int32} (hk : a9 < 63) (hd : zkd a9 = 1) (hi : i = nI j) (hj : j < zlen a9) (d : decode cc pc = .ok (.baload, 1)) (k : zW p l e R s m args below meth c E nL cells slots Q (pc + 1) lv (.int (μ a9 j) :: st) μ ov) : zW p l e R s m args below meth c E nL cells slots Q pc lv (.int i :: .ref (zad E a9) :: st) μ ov := by
  intro H locs ls hP hD hS hl
  have h9 := zlen_lt a9 hk
  have ha : (zG E μ ov)[9 + a9]? = some (zad E a9, .inl (E.2.1 1, zlen a9, .inl (μ a9))) := by rw [zG_ar E μ ov hk, hd]
  refine va_zald C.1.1 C.1.2.1 C.2.1 hP (9 + a9) 1 ha rfl (by rw [hi]; exact vp_in_nI hj (by omega)) d ?_
  rw [hi, nI_clamp (by omega)]
  exact k H locs ls hP hD hS hl
theorem z_iast (C : zC p s m args c E sa cc nL own Ts) (a9 j : Nat) {i x : Int32} (hk : a9 < 63) (hd : zkd a9 = 0) (hi : i = nI j) (hj : j < zlen a9) (d : decode cc pc = .ok (.iastore, 1)) (k : zW p l e R s m args below meth c E nL cells slots Q (pc + 1) lv st (zu μ a9 j x) ov) : zW p l e R s m args below meth c E nL cells slots Q pc lv (.int x :: .int i :: .ref (zad E a9) :: st) μ ov := by
  intro H locs ls hP hD hS hl
  have h9 := zlen_lt a9 hk
  have ha : (zG E μ ov)[9 + a9]? = some (zad E a9, .inl (E.2.1 0, zlen a9, .inl (μ a9))) := by rw [zG_ar E μ ov hk, hd]
  have hst := zG_set_ar E μ ov hk (upd (μ a9) j x)
  rw [hd] at hst
  refine va_iast C.1.1 C.1.2.1 C.2.1 hP hD hS (9 + a9) 0 ha rfl (by rw [hi]; exact vp_in_nI hj (by omega)) d (fun H1 locs1 hP1 hD1 hS1 => ?_)
  rw [hi, nI_clamp (by omega), hst] at hP1 hD1
  exact k H1 locs1 ls hP1 hD1 hS1 hl
theorem z_bast (C : zC p s m args c E sa cc nL own Ts) (a9 j : Nat) {i x : Int32} (hk : a9 < 63) (hd : zkd a9 = 1) (hi : i = nI j) (hj : j < zlen a9) (hx : vp_nar .boolean x = x) (d : decode cc pc = .ok (.bastore, 1)) (k : zW p l e R s m args below meth c E nL cells slots Q (pc + 1) lv st (zu μ a9 j x) ov) : zW p l e R s m args below meth c E nL cells slots Q pc lv (.int x :: .int i :: .ref (zad E a9) :: st) μ ov := by
  intro H locs ls hP hD hS hl
  have h9 := zlen_lt a9 hk
  have ha : (zG E μ ov)[9 + a9]? = some (zad E a9, .inl (E.2.1 1, zlen a9, .inl (μ a9))) := by rw [zG_ar E μ ov hk, hd]
  have hst := zG_set_ar E μ ov hk (upd (μ a9) j x)
  rw [hd] at hst
  refine va_zast C.1.1 C.1.2.1 C.2.1 hP hD hS (9 + a9) 1 ha rfl (by rw [hi]; exact vp_in_nI hj (by omega)) d (fun H1 locs1 hP1 hD1 hS1 => ?_)
  rw [hi, nI_clamp (by omega), hx, hst] at hP1 hD1
  exact k H1 locs1 ls hP1 hD1 hS1 hl
theorem z_aaldG (C : zC p s m args c E sa cc nL own Ts) {q0 r : Nat} (j : Nat) {i : Int32} (hq : q0 < 9) (ha : (zO E μ ov)[q0]? = some (zob E q0, .inl (E.2.1 3, 8, .inr (.inr (.inr (.inr (zrow E r))))))) (hi : i = nI j) (hj : j < 8) (d : decode cc pc = .ok (.aaload, 1)) (k : zW p l e R s m args below meth c E nL cells slots Q (pc + 1) lv (.ref (zad E (r + j)) :: st) μ ov) : zW p l e R s m args below meth c E nL cells slots Q pc lv (.int i :: .ref (zob E q0) :: st) μ ov := by
  intro H locs ls hP hD hS hl
  have hin : vp_in i 8 := by rw [hi]; exact vp_in_nI hj (by decide)
  have hlt : i.toNatClampNeg < 8 := Nat.not_le.mp fun q => hin (Or.inr q)
  have hz : va_rf (zrow E r i.toNatClampNeg) = .ref (zad E (r + j)) := by
    rw [hi, nI_clamp (by omega)]
    unfold zrow
    rw [if_pos hj]
    rfl
  refine W.aald (v := va_rf (zrow E r i.toNatClampNeg)) (ty := .array .int) C.1.1 C.1.2.1 (hP q0 _ ((zG_o E μ ov hq).trans ha)) ((C.2.1.2 3 _ rfl).1 8 (fun j => va_rf (zrow E r j))) rfl (fun q => by cases q) (by show ¬ (i < 0 ∨ (arrV _ _ _).slots.size ≤ _); rw [arrV_size]; exact hin) (by show (arrV _ _ _).slots[_]? = _; rw [arrV_read _ _ hlt]) rfl rfl d ?_
  rw [hz]
  exact k H locs ls hP hD hS hl
theorem z_aald5 (C : zC p s m args c E sa cc nL own Ts) (j : Nat) {i : Int32} (hi : i = nI j) (hj : j < 8) (d : decode cc pc = .ok (.aaload, 1)) (k : zW p l e R s m args below meth c E nL cells slots Q (pc + 1) lv (.ref (zad E (22 + j)) :: st) μ ov) : zW p l e R s m args below meth c E nL cells slots Q pc lv (.int i :: .ref (zob E 5) :: st) μ ov := z_aaldG C j (by decide) rfl hi hj d k
theorem z_aald6 (C : zC p s m args c E sa cc nL own Ts) (j : Nat) {i : Int32} (hi : i = nI j) (hj : j < 8) (d : decode cc pc = .ok (.aaload, 1)) (k : zW p l e R s m args below meth c E nL cells slots Q (pc + 1) lv (.ref (zad E (30 + j)) :: st) μ ov) : zW p l e R s m args below meth c E nL cells slots Q pc lv (.int i :: .ref (zob E 6) :: st) μ ov := z_aaldG C j (by decide) rfl hi hj d k
theorem z_last (C : zC p s m args c E sa cc nL own Ts) {i : Int32} {x : Int64} (hi : i = 0) (d : decode cc pc = .ok (.lastore, 1)) (k : zW p l e R s m args below meth c E nL cells slots Q (pc + 1) lv st μ (vp_updL ov 0 x)) : zW p l e R s m args below meth c E nL cells slots Q pc lv (.long x :: .int i :: .ref (zob E 8) :: st) μ ov := by
  intro H locs ls hP hD hS hl
  subst hi
  refine va_last C.1.1 C.1.2.1 C.2.1 hP hD hS 8 2 (zG_o E μ ov (by decide)) rfl (by decide) d (fun H1 locs1 hP1 hD1 hS1 => ?_)
  exact k H1 locs1 ls hP1 hD1 hS1 hl
theorem z_lald (C : zC p s m args c E sa cc nL own Ts) {i : Int32} (hi : i = 0) (d : decode cc pc = .ok (.laload, 1)) (k : zW p l e R s m args below meth c E nL cells slots Q (pc + 1) lv (.long (ov 0) :: st) μ ov) : zW p l e R s m args below meth c E nL cells slots Q pc lv (.int i :: .ref (zob E 8) :: st) μ ov := by
  intro H locs ls hP hD hS hl
  subst hi
  exact va_lald C.1.1 C.1.2.1 C.2.1 hP 8 2 (zG_o E μ ov (by decide)) rfl (by decide) d (k H locs ls hP hD hS hl)
/-! Math -/
theorem z_mmax (C : zC p s m args c E sa cc nL own Ts) {index : Nat} (hlink : (Cond.methodLink own index Lib.Math.max.name).before args s = true) (hstat : (Cond.static Lib.Math.max.name).before args s = true) (hini : (Cond.initialized "java/lang/Math").before args s = true) (hcode : (Cond.code Lib.Math.max.name Lib.Math.max.code 2 (some .int)).before args s = true) (hframes : 1 ≤ R.frames) (hlocals : (st.map fun v => v.category).sum + 13 ≤ R.locals) (hc : cells ≤ R.cells) (hs : slots ≤ R.slots) {x y : Int32} (d : decode cc pc = .ok (.invokestatic index, 3)) (k : zW p l e R s m args below meth c E nL cells slots Q (pc + 3) lv (.int (if x < y then y else x) :: st) μ ov) : zW p l e R s m args below meth c E nL cells slots Q pc lv (.int y :: .int x :: st) μ ov :=
  fun H locs ls hP hD hS hl => va_mmax C.1.1 C.1.2.1 (C.1.2.2.1.trans hl.1.symm) C.1.2.2.2.1 hlink hstat hini hcode hframes hlocals hc hs d (k H locs ls hP hD hS hl)
theorem z_mmin (C : zC p s m args c E sa cc nL own Ts) {index : Nat} (hlink : (Cond.methodLink own index Lib.Math.min.name).before args s = true) (hstat : (Cond.static Lib.Math.min.name).before args s = true) (hini : (Cond.initialized "java/lang/Math").before args s = true) (hcode : (Cond.code Lib.Math.min.name Lib.Math.min.code 2 (some .int)).before args s = true) (hframes : 1 ≤ R.frames) (hlocals : (st.map fun v => v.category).sum + 13 ≤ R.locals) (hc : cells ≤ R.cells) (hs : slots ≤ R.slots) {x y : Int32} (d : decode cc pc = .ok (.invokestatic index, 3)) (k : zW p l e R s m args below meth c E nL cells slots Q (pc + 3) lv (.int (if y < x then y else x) :: st) μ ov) : zW p l e R s m args below meth c E nL cells slots Q pc lv (.int y :: .int x :: st) μ ov :=
  fun H locs ls hP hD hS hl => va_mmin C.1.1 C.1.2.1 (C.1.2.2.1.trans hl.1.symm) C.1.2.2.2.1 hlink hstat hini hcode hframes hlocals hc hs d (k H locs ls hP hD hS hl)
theorem z_mabs (C : zC p s m args c E sa cc nL own Ts) {index : Nat} (hlink : (Cond.methodLink own index Lib.Math.abs.name).before args s = true) (hstat : (Cond.static Lib.Math.abs.name).before args s = true) (hini : (Cond.initialized "java/lang/Math").before args s = true) (hcode : (Cond.code Lib.Math.abs.name Lib.Math.abs.code 1 (some .int)).before args s = true) (hframes : 1 ≤ R.frames) (hlocals : (st.map fun v => v.category).sum + 13 ≤ R.locals) (hc : cells ≤ R.cells) (hs : slots ≤ R.slots) {x : Int32} (d : decode cc pc = .ok (.invokestatic index, 3)) (k : zW p l e R s m args below meth c E nL cells slots Q (pc + 3) lv (.int (if 0 ≤ x then x else 0 - x) :: st) μ ov) : zW p l e R s m args below meth c E nL cells slots Q pc lv (.int x :: st) μ ov :=
  fun H locs ls hP hD hS hl => va_mabs C.1.1 C.1.2.1 (C.1.2.2.1.trans hl.1.symm) C.1.2.2.2.1 hlink hstat hini hcode hframes hlocals hc hs d (k H locs ls hP hD hS hl)
end ZROWS
