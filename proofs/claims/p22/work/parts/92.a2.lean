/-! ===== constructors: a walk over a list of cells that grows ===== -/
def zkT (ty : Nat → ClassId) : List (ClassId × FieldType) := [(ty 0, .int), (ty 1, .boolean), (ty 3, .array .int)]
/-- what stays fixed -/
def zkC (p : Program) (s : State) (m : MethodId) (args : Array Value) (c : Code) (D : va_G) (ty : Nat → ClassId) (sa : Nat → Nat) (A : Nat → Prop) (cc : ByteArray) (nL : Nat) (own : String) (Ts : List Cond) : Prop :=
  CallFix p m c cc nL s args Ts own ∧ va_K D vwCl (zkT ty) s ∧ zWd sa s ∧ ∀ q : Nat, s.heap.size ≤ q → A q
def zkW (p : Program) (l : Launch) (e : Env) (R : Room) (s : State) (m : MethodId) (args : Array Value) (below : List Frame) (meth : Method) (c : Code) (D : va_G) (A : Nat → Prop) (nL cells slots : Nat) (Q : State → Prop) (pc : Nat) (lv : List (Option Value)) (st : List Value) (ws : va_W) : Prop :=
  ∀ (H : Heap) (locs : List Loc) (ls : Array Slot), va_P D vwCl ws H → va_D A ws → va_S A s.heap H locs → zL ls nL lv → W p l e R s m args below meth c H locs cells slots Q (F0 m pc ls st)
/-- a constructor's contract: from the cells w0 to the cells w1 of some addresses -/
abbrev zkS : Type := Nat → Nat → Nat
def zkM (l : Launch) (D : va_G) (ty : Nat → ClassId) (sa : Nat → Nat) (y : MethodName) (ws : List Cond) (fr lo mc ms : Nat) (h0 : Nat) (w0 : va_W) (w1 : zkS → va_W) : Prop :=
  ∀ sz, Met l y ws (zR fr lo mc ms) (va_Pc [.ref h0] (fun U => U.heap.size = sz ∧ va_P D vwCl w0 U.heap ∧ va_K D vwCl (zkT ty) U ∧ va_D (fun _ => True) w0 ∧ zWd sa U)) (va_Qv (S := zkS) (fun _ => True) (fun u t => va_P D vwCl (w1 u) t.heap ∧ va_D (va_A w0 sz) (w1 u)) (va_A w0 sz)) mc ms (va_A w0 sz)
theorem zk_pl {r : Nat → Nat} {f : Nat → va_E} {e : va_E} : va_pl ([] ++ (List.range 8).map r) (vr_up f ((List.range 8).map r) e) = [(r 0, e), (r 1, e), (r 2, e), (r 3, e), (r 4, e), (r 5, e), (r 6, e), (r 7, e)] := by
  have h : va_pl ([] ++ (List.range 8).map r) (vr_up f ((List.range 8).map r) e) = ((List.range 8).map r).map (fun a => (a, e)) := by
    unfold va_pl
    rw [List.nil_append]
    apply List.map_congr_left
    intro a ha
    rw [vr_up_in ha]
  rw [h]
  rfl
section ZKROWS
variable {p : Program} {l : Launch} {e : Env} {R : Room} {s : State} {m : MethodId} {args : Array Value} {below : List Frame} {meth : Method} {c : Code} {D : va_G} {ty : Nat → ClassId} {sa : Nat → Nat} {A : Nat → Prop} {nL cells slots : Nat} {Q : State → Prop} {cc : ByteArray} {own : String} {Ts : List Cond} {pc : Nat} {lv : List (Option Value)} {st : List Value} {ws : va_W}
theorem zk_iconst (C : zkC p s m args c D ty sa A cc nL own Ts) {n : Int} {v : Int32} (d : decode cc pc = .ok (.iconst n, 1)) (hv : Int32.ofInt n = v) (k : zkW p l e R s m args below meth c D A nL cells slots Q (pc + 1) lv (.int v :: st) ws) : zkW p l e R s m args below meth c D A nL cells slots Q pc lv st ws :=
  fun H locs ls hP hD hS hl => lv_iconst C.1.1 C.1.2.1 d hv (k H locs ls hP hD hS hl)
theorem zk_bipush (C : zkC p s m args c D ty sa A cc nL own Ts) {n : Int} {v : Int32} (d : decode cc pc = .ok (.bipush n, 2)) (hv : (Int8.ofInt n).toInt32 = v) (k : zkW p l e R s m args below meth c D A nL cells slots Q (pc + 2) lv (.int v :: st) ws) : zkW p l e R s m args below meth c D A nL cells slots Q pc lv st ws :=
  fun H locs ls hP hD hS hl => lv_bipush C.1.1 C.1.2.1 d hv (k H locs ls hP hD hS hl)
theorem zk_sipush (C : zkC p s m args c D ty sa A cc nL own Ts) {n : Int} {v : Int32} (d : decode cc pc = .ok (.sipush n, 3)) (hv : (Int16.ofInt n).toInt32 = v) (k : zkW p l e R s m args below meth c D A nL cells slots Q (pc + 3) lv (.int v :: st) ws) : zkW p l e R s m args below meth c D A nL cells slots Q pc lv st ws :=
  fun H locs ls hP hD hS hl => lv_sipush C.1.1 C.1.2.1 d hv (k H locs ls hP hD hS hl)
theorem zk_aloadn (C : zkC p s m args c D ty sa A cc nL own Ts) {k9 : Fin 4} {i : Nat} {x : Nat} (d : decode cc pc = .ok (.aload_n k9, 1)) (hi : (k9 : Nat) = i) (hv : lv[i]? = some (some (.ref x))) (k : zkW p l e R s m args below meth c D A nL cells slots Q (pc + 1) lv (.ref x :: st) ws) : zkW p l e R s m args below meth c D A nL cells slots Q pc lv st ws :=
  fun H locs ls hP hD hS hl => lv_aload_n C.1.1 C.1.2.1 d hi (zL_at hl hv) (k H locs ls hP hD hS hl)
theorem zk_dup (C : zkC p s m args c D ty sa A cc nL own Ts) {v : Value} (d : decode cc pc = .ok (.dup, 1)) (hv : v.category = 1) (k : zkW p l e R s m args below meth c D A nL cells slots Q (pc + 1) lv (v :: v :: st) ws) : zkW p l e R s m args below meth c D A nL cells slots Q pc lv (v :: st) ws :=
  fun H locs ls hP hD hS hl => lv_dup C.1.1 C.1.2.1 d hv (k H locs ls hP hD hS hl)
theorem zk_astore1 (C : zkC p s m args c D ty sa A cc nL own Ts) {v0 : Option Value} {o : Option Value} {r : List (Option Value)} {x : Nat} (hn : 1 < nL) (hc : ∀ w : Value, v0 = some w → ¬ w.category = 2) (d : decode cc pc = .ok (.astore_n 1, 1)) (k : zkW p l e R s m args below meth c D A nL cells slots Q (pc + 1) (v0 :: some (.ref x) :: r) st ws) : zkW p l e R s m args below meth c D A nL cells slots Q pc (v0 :: o :: r) (.ref x :: st) ws := by
  have hz : zc1 (v0 :: o :: r) 1 := (fun j w hj hw => by (have hj9 : j = 0 := (by omega)); subst hj9; exact hc w (Option.some.inj hw))
  exact fun H locs ls hP hD hS hl => lv_astore_n C.1.1 C.1.2.1 d rfl hl hn rfl (fun ls' hl' => k H locs ls' hP hD hS (zL_of hl' (zst1 hz)))
theorem zk_astore2 (C : zkC p s m args c D ty sa A cc nL own Ts) {v0 v1 : Option Value} {o : Option Value} {r : List (Option Value)} {x : Nat} (hn : 2 < nL) (hc : ∀ w : Value, v1 = some w → ¬ w.category = 2) (d : decode cc pc = .ok (.astore_n 2, 1)) (k : zkW p l e R s m args below meth c D A nL cells slots Q (pc + 1) (v0 :: v1 :: some (.ref x) :: r) st ws) : zkW p l e R s m args below meth c D A nL cells slots Q pc (v0 :: v1 :: o :: r) (.ref x :: st) ws := by
  have hz : zc1 (v0 :: v1 :: o :: r) 2 := (fun j w hj hw => by (have hj9 : j = 1 := (by omega)); subst hj9; exact hc w (Option.some.inj hw))
  exact fun H locs ls hP hD hS hl => lv_astore_n C.1.1 C.1.2.1 d rfl hl hn rfl (fun ls' hl' => k H locs ls' hP hD hS (zL_of hl' (zst1 hz)))
theorem zk_astore3 (C : zkC p s m args c D ty sa A cc nL own Ts) {v0 v1 v2 : Option Value} {o : Option Value} {r : List (Option Value)} {x : Nat} (hn : 3 < nL) (hc : ∀ w : Value, v2 = some w → ¬ w.category = 2) (d : decode cc pc = .ok (.astore_n 3, 1)) (k : zkW p l e R s m args below meth c D A nL cells slots Q (pc + 1) (v0 :: v1 :: v2 :: some (.ref x) :: r) st ws) : zkW p l e R s m args below meth c D A nL cells slots Q pc (v0 :: v1 :: v2 :: o :: r) (.ref x :: st) ws := by
  have hz : zc1 (v0 :: v1 :: v2 :: o :: r) 3 := (fun j w hj hw => by (have hj9 : j = 2 := (by omega)); subst hj9; exact hc w (Option.some.inj hw))
  exact fun H locs ls hP hD hS hl => lv_astore_n C.1.1 C.1.2.1 d rfl hl hn rfl (fun ls' hl' => k H locs ls' hP hD hS (zL_of hl' (zst1 hz)))
theorem zk_objInit (C : zkC p s m args c D ty sa A cc nL own Ts) {idx : Nat} {a : Nat} (hlink : (Cond.methodLink own idx Lib.objectInit).before args s = true) (hinst : (Cond.instanceMethod Lib.objectInit).before args s = true) (hcode : (Cond.code Lib.objectInit ⟨#[0xb1]⟩ 1 none).before args s = true) (hf : 1 ≤ R.frames) (hlo : (st.map fun v => v.category).sum + 12 ≤ R.locals) (d : decode cc pc = .ok (.invokespecial idx, 3)) (k : zkW p l e R s m args below meth c D A nL cells slots Q (pc + 3) lv st ws) : zkW p l e R s m args below meth c D A nL cells slots Q pc lv (.ref a :: st) ws := by
  intro H locs ls hP hD hS hl
  refine W.objInit C.1.1 C.1.2.1 C.1.2.2.2.1 hlink hinst hcode rfl (hl.1.trans C.1.2.2.1.symm) rfl d hf ?_ ?_
  · show 2 * 0 + (st.map fun v => v.category).sum + 12 ≤ R.locals
    omega
  · exact W.eq (g2 := F0 m (pc + 3) ls st) rfl (k H locs ls hP hD hS hl)
theorem zk_new (C : zkC p s m args c D ty sa A cc nL own Ts) {Cn : String} {T : u_T} {N ci index : Nat} (hin : ∀ w ∈ u_ws Cn T N, w ∈ Ts) (ty0 : Nat → FieldType) (hty : ∀ k, k < N → parseFieldDescriptor (T k).2.2.1 = some (ty0 k)) (hcl : (Cond.classLink own index Cn).before args s = true) (hinst : (Cond.instantiable Cn N).before args s = true) (hini : (Cond.initialized Cn).before args s = true) (hc : vwCl[ci]? = some (Cn, T, N)) {fs : List Value} (hfs : ∀ j, j < N → defaultValue (ty0 j) = vp_V fs j) (hcells : cells + 1 ≤ R.cells) (hslots : slots + N ≤ R.slots) (d : decode cc pc = .ok (.new index, 3)) (k : ∀ q : Nat, zkW p l e R s m args below meth c D A nL (cells + 1) (slots + N) Q (pc + 3) lv (.ref q :: st) (ws ++ [(q, .inr (ci, fs))])) : zkW p l e R s m args below meth c D A nL cells slots Q pc lv st ws :=
  fun H locs ls hP hD hS hl => va_new C.1.1 C.1.2.1 C.1.2.2.2.2 hin ty0 hty C.1.2.2.2.1 hcl hinst hini C.2.1 hP hD hS C.2.2.2 hc hfs hcells hslots d (fun q H1 hP1 hD1 hS1 => k q H1 locs ls hP1 hD1 hS1 hl)
theorem zk_newi (C : zkC p s m args c D ty sa A cc nL own Ts) {n : Int32} {N : Nat} (harr : (Cond.arrayClass .int).before args s = true) (hn : n = nI N) (hN : N < 5000) (hcells : cells + 1 ≤ R.cells) (hslots : slots + N ≤ R.slots) (d : decode cc pc = .ok (.newarray .int, 2)) (k : ∀ q : Nat, zkW p l e R s m args below meth c D A nL (cells + 1) (slots + N) Q (pc + 2) lv (.ref q :: st) (ws ++ [(q, .inl (ty 0, N, .inl (fun _ => 0)))])) : zkW p l e R s m args below meth c D A nL cells slots Q pc lv (.int n :: st) ws := by
  intro H locs ls hP hD hS hl
  subst hn
  refine va_newa (atype := .int) (ty := .int) (a0 := (N, .inl (fun _ => 0))) C.1.1 C.1.2.1 harr rfl C.2.1 hP hD hS C.2.2.2 (fun _ => rfl) (nI_pos (by omega)) (nI_clamp (by omega)) (by show N * 4 ≤ _; omega) hcells hslots d (fun q cA H1 hK1 hP1 hD1 hS1 => ?_)
  have e1 := (hK1.2 3 _ rfl).2
  have e0 := (C.2.1.2 0 _ rfl).2
  have e : some cA = some (ty 0) := e1.symm.trans e0
  cases e
  exact k q H1 locs ls hP1 hD1 hS1 hl
theorem zk_newz (C : zkC p s m args c D ty sa A cc nL own Ts) {n : Int32} {N : Nat} (harr : (Cond.arrayClass .boolean).before args s = true) (hn : n = nI N) (hN : N < 5000) (hcells : cells + 1 ≤ R.cells) (hslots : slots + N ≤ R.slots) (d : decode cc pc = .ok (.newarray .boolean, 2)) (k : ∀ q : Nat, zkW p l e R s m args below meth c D A nL (cells + 1) (slots + N) Q (pc + 2) lv (.ref q :: st) (ws ++ [(q, .inl (ty 1, N, .inl (fun _ => 0)))])) : zkW p l e R s m args below meth c D A nL cells slots Q pc lv (.int n :: st) ws := by
  intro H locs ls hP hD hS hl
  subst hn
  refine va_newa (atype := .boolean) (ty := .boolean) (a0 := (N, .inl (fun _ => 0))) C.1.1 C.1.2.1 harr rfl C.2.1 hP hD hS C.2.2.2 (fun _ => rfl) (nI_pos (by omega)) (nI_clamp (by omega)) (by show N * 1 ≤ _; omega) hcells hslots d (fun q cA H1 hK1 hP1 hD1 hS1 => ?_)
  have e1 := (hK1.2 3 _ rfl).2
  have e0 := (C.2.1.2 1 _ rfl).2
  have e : some cA = some (ty 1) := e1.symm.trans e0
  cases e
  exact k q H1 locs ls hP1 hD1 hS1 hl
/-- new int[8][501] -/
theorem zk_mna (C : zkC p s m args c D ty sa A cc nL own Ts) {index : Nat} {n9 k9 : Int32} (hn9 : n9 = nI 8) (hk9 : k9 = nI 501) (hclink : (Cond.classLink own index "[[I").before args s = true) (harr : (Cond.arrayClass .int).before args s = true) (hcells : cells + 9 ≤ R.cells) (hslots : slots + 4016 ≤ R.slots) (d : decode cc pc = .ok (.multianewarray index 2, 4))
    (k : ∀ (q : Nat) (r : Nat → Nat), zkW p l e R s m args below meth c D A nL (cells + 9) (slots + 4016) Q (pc + 4) lv (.ref q :: st) (ws ++ [(q, .inl (ty 3, 8, .inr (.inr (.inr (.inr (fun i => if i < 8 then some (r i) else none)))))), (r 0, .inl (ty 0, 501, .inl (fun _ => 0))), (r 1, .inl (ty 0, 501, .inl (fun _ => 0))), (r 2, .inl (ty 0, 501, .inl (fun _ => 0))), (r 3, .inl (ty 0, 501, .inl (fun _ => 0))), (r 4, .inl (ty 0, 501, .inl (fun _ => 0))), (r 5, .inl (ty 0, 501, .inl (fun _ => 0))), (r 6, .inl (ty 0, 501, .inl (fun _ => 0))), (r 7, .inl (ty 0, 501, .inl (fun _ => 0)))])) : zkW p l e R s m args below meth c D A nL cells slots Q pc lv (.int k9 :: .int n9 :: st) ws := by
  intro H locs ls hP hD hS hl
  subst hn9
  subst hk9
  have e9 : "[[I" = "[" ++ (FieldType.array .int).toString := by decide +kernel
  rw [e9] at hclink
  have hP0 : va_P D vwCl (ws ++ va_pl [] (fun _ => .inl (0, 0, .inl (fun _ => 0)))) H := by
    rw [show va_pl [] (fun _ => (.inl (0, 0, .inl (fun _ => 0)) : va_E)) = [] from rfl, List.append_nil]; exact hP
  have hD0 : va_D A (ws ++ va_pl [] (fun _ => .inl (0, 0, .inl (fun _ => 0)))) := by
    rw [show va_pl [] (fun _ => (.inl (0, 0, .inl (fun _ => 0)) : va_E)) = [] from rfl, List.append_nil]; exact hD
  refine va_mna (ty := .int) (cy := ty 0) (N' := 8) (K' := 501) (z := (501, .inl (fun _ => 0))) C.1.1 C.1.2.1 C.1.2.2.2.1 hclink C.2.2.1.2.1 harr (C.2.1.2 0 _ rfl).2 C.2.1 hP0 hD0 hS C.2.2.2 (by decide) (by decide) (by decide) (by decide) (Nat.le_of_ble_eq_true rfl) (Nat.le_of_ble_eq_true rfl) (Nat.le_of_ble_eq_true rfl) rfl rfl (by omega) (by omega) (fun c => arrV_new _ _ _) d (fun q r cA H1 _ _ hK1 hP1 hD1 hS1 => ?_)
  have e1 := (hK1.2 3 _ rfl).2
  have e0 := (C.2.1.2 2 _ rfl).2
  have e : some cA = some (ty 3) := e1.symm.trans e0
  cases e
  rw [zk_pl, List.append_assoc] at hP1 hD1
  exact W.widen (by omega) (by omega) (k q r H1 locs ls hP1 hD1 hS1 hl)
theorem zk_putF (C : zkC p s m args c D ty sa A cc nL own Ts) {ref Cn : String} {T : u_T} {N ci index : Nat} {a q0 : Nat} {fs : List Value} {v : Value} {ty1 : FieldType} {ws' : va_W} (k9 : Nat) (he : ws[q0]? = some (a, .inr (ci, fs))) (hc : vwCl[ci]? = some (Cn, T, N)) (hk : k9 < N) (hl9 : k9 < fs.length) (hws : ws.set q0 (a, .inr (ci, fs.set k9 v)) = ws') (ty0 : Nat → FieldType) (hty : ∀ k, k < N → parseFieldDescriptor (T k).2.2.1 = some (ty0 k)) (hnm : ∀ a, a < N → ∀ b, b < N → a ≠ b → (T a).2.1 ≠ (T b).2.1) (hfin : (T k9).2.2.2 = true) (hin2 : meth.name = "<init>") (hdecl : (T k9).1 = own) (hd : parseFieldDescriptor (T k9).2.2.1 = some ty1) (hn : narrow ty1 v = v) (hfit : fits ty1 v = true) (hin : ∀ w ∈ u_ws Cn T N, w ∈ Ts) (hlink : (Cond.fieldLink own index ref (T k9).2.1 (T k9).2.2.1).before args s = true) (href : (T k9).1 = ref) (d : decode cc pc = .ok (.putfield index, 3)) (k : zkW p l e R s m args below meth c D A nL cells slots Q (pc + 3) lv st ws') : zkW p l e R s m args below meth c D A nL cells slots Q pc lv (v :: .ref a :: st) ws := by
  subst hws
  exact fun H locs ls hP hD hS hl => va_putF C.1.1 C.1.2.1 C.1.2.2.2.2 hin ty0 hty hnm C.1.2.2.2.1 C.2.1 hP hD hS q0 he hc k9 hk hlink (fun x h => by rw [← href]; exact h) hfin hin2 hdecl hd hn hfit hl9 d (fun H1 locs1 hP1 hD1 hS1 => k H1 locs1 ls hP1 hD1 hS1 hl)
theorem zk_put (C : zkC p s m args c D ty sa A cc nL own Ts) {ref Cn : String} {T : u_T} {N ci index : Nat} {a q0 : Nat} {fs : List Value} {v : Value} {ty1 : FieldType} {ws' : va_W} (k9 : Nat) (he : ws[q0]? = some (a, .inr (ci, fs))) (hc : vwCl[ci]? = some (Cn, T, N)) (hk : k9 < N) (hl9 : k9 < fs.length) (hws : ws.set q0 (a, .inr (ci, fs.set k9 v)) = ws') (ty0 : Nat → FieldType) (hty : ∀ k, k < N → parseFieldDescriptor (T k).2.2.1 = some (ty0 k)) (hnm : ∀ a, a < N → ∀ b, b < N → a ≠ b → (T a).2.1 ≠ (T b).2.1) (hfin : (T k9).2.2.2 = false) (hd : parseFieldDescriptor (T k9).2.2.1 = some ty1) (hn : narrow ty1 v = v) (hfit : fits ty1 v = true) (hin : ∀ w ∈ u_ws Cn T N, w ∈ Ts) (hlink : (Cond.fieldLink own index ref (T k9).2.1 (T k9).2.2.1).before args s = true) (href : (T k9).1 = ref) (d : decode cc pc = .ok (.putfield index, 3)) (k : zkW p l e R s m args below meth c D A nL cells slots Q (pc + 3) lv st ws') : zkW p l e R s m args below meth c D A nL cells slots Q pc lv (v :: .ref a :: st) ws := by
  subst hws
  exact fun H locs ls hP hD hS hl => va_put C.1.1 C.1.2.1 C.1.2.2.2.2 hin ty0 hty hnm C.1.2.2.2.1 C.2.1 hP hD hS q0 he hc k9 hk hlink (fun x h => by rw [← href]; exact h) hfin hd hn hfit hl9 d (fun H1 locs1 hP1 hD1 hS1 => k H1 locs1 ls hP1 hD1 hS1 hl)
/-- the cells of a call, and the rest -/
theorem zk_sub {isC : List Nat} {w0 : va_W} {H : Heap} (hP : va_P D vwCl ws H) (hC : isC.map (fun i => ws[i]?) = w0.map some) : va_P D vwCl w0 H := by
  intro k q hq
  have h1 : (isC.map (fun i => ws[i]?))[k]? = some (some q) := by rw [hC, List.getElem?_map, hq]; rfl
  rw [List.getElem?_map] at h1
  cases hi : isC[k]? with
  | none => rw [hi] at h1; cases h1
  | some i => rw [hi] at h1; exact hP i q (Option.some.inj h1)
theorem zk_blind {av : List Value} {sz : Nat} {w0 : va_W} : FrameBlind (va_Pc av (fun U => U.heap.size = sz ∧ va_P D vwCl w0 U.heap ∧ va_K D vwCl (zkT ty) U ∧ va_D (fun _ => True) w0 ∧ zWd sa U)) := by
  intro a U g mk q
  obtain ⟨q0, q1, qP, qK, qD, qW⟩ := q
  exact ⟨q0, q1, qP, va_K.moved (u := U) (U := U.calling g mk a) (Vm.Alike.refl U.vm) qK, qD, zWd.same (s := U) (U := U.calling g mk a) rfl qW⟩
/-- a call of a constructor, of a nest mate and of any other -/
theorem zk_callIN (C : zkC p s m args c D ty sa A cc nL own Ts) {y : MethodName} {cws cws' : List Cond} {fr lo mc ms b index maxL : Nat} {bytes : ByteArray} {w0 : va_W} {w1 : zkS → va_W} {rest : List Value} (hM : zkM l D ty sa y cws fr lo mc ms b w0 w1) (g : GoodIn Ts cws) (hnest : (own, index, y) ∈ zNs) (hini : (Cond.initialized y.cls).before args s = true) (hinm : (Cond.instanceMethod y).before args s = true) (hy1 : y.name = "<init>") (hw : cws = Cond.code y bytes maxL none :: cws') (hd : y.cls ≠ "java/lang/invoke/MethodHandle" ∧ y.cls ≠ "java/lang/invoke/VarHandle" ∧ (parseMethodDescriptor y.desc).map (fun d => d.parameters.length) = some 0) (hR : fr + 1 ≤ R.frames ∧ 8 + (maxL + 11) + lo ≤ R.locals) (hW : (rest.map fun v => v.category).sum ≤ 8) (hf : cells + mc ≤ R.cells ∧ slots + ms ≤ R.slots) (isC isR : List Nat) {wr : va_W} (hC : isC.map (fun i => ws[i]?) = w0.map some) (hCn : va_nd isC = true) (hRr : isR.map (fun i => ws[i]?) = wr.map some) (hn : va_nd isR = true) (hdis : ∀ i ∈ isR, i ∉ isC) (d : decode cc pc = .ok (.invokespecial index, 3)) (k : ∀ u : zkS, zkW p l e R s m args below meth c D A nL (cells + mc) (slots + ms) Q (pc + 3) lv rest (wr ++ w1 u)) : zkW p l e R s m args below meth c D A nL cells slots Q pc lv (.ref b :: rest) ws := by
  intro H locs ls hP hD hS hl
  have hPc := zk_sub hP hC
  have hDc := hD.sub isC hCn hC
  have hFc := va_free (wc := w0) hD hS C.2.2.2 isC hC
  have hr := va_runIN (e := e) (below := below) (meth := meth) (locs := locs) (As := []) (rest := rest) (g := F0 m pc ls (.ref b :: rest)) C.1 (hM H.size) ⟨va_cnB 0 C.1.2.2.2.2 g hw rfl rfl (C.2.2.1.1 _ hnest) hini hd hR, hy1, hinm⟩ ⟨zk_blind, fun U hU hW => ⟨rfl, by rw [hU], by rw [hU]; exact hPc, va_K.moved hW.alike C.2.1, hDc.weaken (fun _ _ _ _ => trivial), C.2.2.1.warm hW⟩⟩ rfl rfl hl.1 rfl (lv_room hW) d hf
  refine va_callv hr hS (fun q _ h => hFc q h) hFc (fun u t H1 locs1 ht hvm hp hB hz hk hS1 => ?_)
  obtain ⟨hP1, hD1⟩ := hB
  rw [ht] at hP1
  obtain ⟨hP2, hD2⟩ := va_join hP hD isC isR hC hRr hn hdis hk hFc hP1 hD1
  exact k u H1 locs1 ls hP2 hD2 hS1 hl
theorem zk_callI (C : zkC p s m args c D ty sa A cc nL own Ts) {y : MethodName} {cws cws' : List Cond} {fr lo mc ms b index maxL : Nat} {bytes : ByteArray} {w0 : va_W} {w1 : zkS → va_W} {rest : List Value} (hM : zkM l D ty sa y cws fr lo mc ms b w0 w1) (g : GoodIn Ts cws) (hlink : (Cond.methodLink own index y).before args s = true) (hini : (Cond.initialized y.cls).before args s = true) (hinm : (Cond.instanceMethod y).before args s = true) (hy1 : y.name = "<init>") (hw : cws = Cond.code y bytes maxL none :: cws') (hd : y.cls ≠ "java/lang/invoke/MethodHandle" ∧ y.cls ≠ "java/lang/invoke/VarHandle" ∧ (parseMethodDescriptor y.desc).map (fun d => d.parameters.length) = some 0) (hR : fr + 1 ≤ R.frames ∧ 8 + (maxL + 11) + lo ≤ R.locals) (hW : (rest.map fun v => v.category).sum ≤ 8) (hf : cells + mc ≤ R.cells ∧ slots + ms ≤ R.slots) (isC isR : List Nat) {wr : va_W} (hC : isC.map (fun i => ws[i]?) = w0.map some) (hCn : va_nd isC = true) (hRr : isR.map (fun i => ws[i]?) = wr.map some) (hn : va_nd isR = true) (hdis : ∀ i ∈ isR, i ∉ isC) (d : decode cc pc = .ok (.invokespecial index, 3)) (k : ∀ u : zkS, zkW p l e R s m args below meth c D A nL (cells + mc) (slots + ms) Q (pc + 3) lv rest (wr ++ w1 u)) : zkW p l e R s m args below meth c D A nL cells slots Q pc lv (.ref b :: rest) ws := by
  intro H locs ls hP hD hS hl
  have hPc := zk_sub hP hC
  have hDc := hD.sub isC hCn hC
  have hFc := va_free (wc := w0) hD hS C.2.2.2 isC hC
  have hr := va_runI (e := e) (below := below) (meth := meth) (locs := locs) (As := []) (rest := rest) (g := F0 m pc ls (.ref b :: rest)) C.1 (hM H.size) (cwI 0 C.1.2.2.2.2 g hw rfl rfl hini hlink hinm hy1 hd hR) ⟨zk_blind, fun U hU hW => ⟨rfl, by rw [hU], by rw [hU]; exact hPc, va_K.moved hW.alike C.2.1, hDc.weaken (fun _ _ _ _ => trivial), C.2.2.1.warm hW⟩⟩ rfl rfl hl.1 rfl (lv_room hW) d hf
  refine va_callv hr hS (fun q _ h => hFc q h) hFc (fun u t H1 locs1 ht hvm hp hB hz hk hS1 => ?_)
  obtain ⟨hP1, hD1⟩ := hB
  rw [ht] at hP1
  obtain ⟨hP2, hD2⟩ := va_join hP hD isC isR hC hRr hn hdis hk hFc hP1 hD1
  exact k u H1 locs1 ls hP2 hD2 hS1 hl
/-- the cells in another order -/
theorem zk_ord (is : List Nat) {ws' : va_W} (hs : is.map (fun i => ws[i]?) = ws'.map some) (hn : va_nd is = true) (k : zkW p l e R s m args below meth c D A nL cells slots Q pc lv st ws') : zkW p l e R s m args below meth c D A nL cells slots Q pc lv st ws :=
  fun H locs ls hP hD hS hl => k H locs ls (zk_sub hP hs) (hD.sub is hn hs) hS hl
theorem zk_eq {ws' : va_W} (h : ws = ws') (k : zkW p l e R s m args below meth c D A nL cells slots Q pc lv st ws') : zkW p l e R s m args below meth c D A nL cells slots Q pc lv st ws := by rw [h]; exact k
theorem zk_widen {c2 s2 : Nat} (hc : cells ≤ c2) (hs : slots ≤ s2) (k : zkW p l e R s m args below meth c D A nL c2 s2 Q pc lv st ws) : zkW p l e R s m args below meth c D A nL cells slots Q pc lv st ws :=
  fun H locs ls hP hD hS hl => W.widen hc hs (k H locs ls hP hD hS hl)
end ZKROWS
/-- a constructor's end -/
theorem zk_vret {p : Program} {l : Launch} {e : Env} {R : Room} {s : State} {m : MethodId} {args : Array Value} {below : List Frame} {meth : Method} {c : Code} {D : va_G} {ty : Nat → ClassId} {sa : Nat → Nat} {nL cells slots mc ms : Nat} {cc : ByteArray} {own : String} {Ts : List Cond} {pc : Nat} {lv : List (Option Value)} {ws w0 : va_W} {w1 : zkS → va_W} (C : zkC p s m args c D ty sa (va_A w0 s.heap.size) cc nL own Ts) (hr : meth.sig.returnType = none) (hlk : meth.locks = false) (u : zkS) (hu : ws = w1 u) (hc : cells ≤ mc) (hs : slots ≤ ms) (d : decode cc pc = .ok (.return_, 1)) : zkW p l e R s m args below meth c D (va_A w0 s.heap.size) nL cells slots (MQ below (va_Qv (S := zkS) (fun _ => True) (fun u t => va_P D vwCl (w1 u) t.heap ∧ va_D (va_A w0 s.heap.size) (w1 u)) (va_A w0 s.heap.size)) args s mc ms (va_A w0 s.heap.size)) pc lv [] ws := by
  subst hu
  exact fun H locs ls hP hD hS hl => W.widen hc hs (W.vret C.1.1 C.1.2.1 hr (fun t ht hW => ⟨⟨u, rfl, trivial, by rw [ht]; exact hP, hD⟩, hS.F ht⟩) hS.2.2 d hlk)
/-- a constructor's start -/
theorem zk_of {l : Launch} {D : va_G} {ty : Nat → ClassId} {sa : Nat → Nat} {y : MethodName} {ws ws' : List Cond} {fr lo mc ms nL h0 : Nat} {w0 : va_W} {w1 : zkS → va_W} {cc : ByteArray} {own : String} (hy : plainName y.cls = true) (hw : ws = Cond.code y cc nL none :: ws') (hlen : 1 ≤ nL) (ho : y.cls = own) (hni : y.name = "<init>")
    (body : ∀ (p : Program) (e : Env) (s : State) (m : MethodId) (below : List Frame) (meth : Method) (c : Code), zkC p s m [Value.ref h0].toArray c D ty sa (va_A w0 s.heap.size) cc nL own ws → meth.sig.returnType = none → meth.locks = false → meth.name = "<init>" → zkW p l e (zR fr lo mc ms) s m [Value.ref h0].toArray below meth c D (va_A w0 s.heap.size) nL 0 0 (MQ below (va_Qv (S := zkS) (fun _ => True) (fun u t => va_P D vwCl (w1 u) t.heap ∧ va_D (va_A w0 s.heap.size) (w1 u)) (va_A w0 s.heap.size)) [Value.ref h0].toArray s mc ms (va_A w0 s.heap.size)) 0 (zin nL [.ref h0]) [] w0) : zkM l D ty sa y ws fr lo mc ms h0 w0 w1 := by
  intro sz
  refine Met.ofW (cc := cc) (maxL := nL) (ret := none) hy hw ?_
  intro p e s m args below meth c s₁ B hml hv
  obtain ⟨rfl, hsz, hP, hK, hD0, hWd⟩ := hv
  subst hsz
  subst ho
  have hl := lv_entry [Value.ref h0] (n := nL) (by show 1 ≤ nL; exact hlen)
  rw [lg_entry_eq]
  exact body p e s m below meth c ⟨⟨B.exec, B.bytes, hml, findClass_of_methodNamed B.named, atoms_spec (ws := ws) B.pre⟩, hK, hWd, fun q h => Or.inr h⟩ B.returns B.notSynchronized ((name_of_methodNamed B.named B.method).1.trans hni) s.heap [] _ hP hD0.self va_S.rf (zL_in (fun v hv => by rw [List.mem_singleton.mp hv]; rfl) hl)
