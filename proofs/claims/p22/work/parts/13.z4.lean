/-! ===== calls, returns, starts of zW ===== -/
/-- the object b of the memory is of the class C -/
def zRec (E : zE) (Cn : String) (b : Nat) : Prop := ∀ (μ : zM) (ov : Nat → Int64), ∃ (q0 ci : Nat) (fs : List Value) (r : vw_C), q0 < 7 ∧ (zO E μ ov)[q0]? = some (b, .inr (ci, fs)) ∧ vwCl[ci]? = some r ∧ r.1 = Cn
theorem zRec_X4 (E : zE) : zRec E RX4 (zob E 0) := fun μ ov => ⟨0, 4, zfs E μ 0, (RX4, TX4, 10), by decide, rfl, rfl, rfl⟩
theorem zRec_X1 (E : zE) : zRec E RX1 (zob E 1) := fun μ ov => ⟨1, 1, zfs E μ 1, (RX1, TX1, 6), by decide, rfl, rfl, rfl⟩
theorem zRec_X2 (E : zE) : zRec E RX2 (zob E 2) := fun μ ov => ⟨2, 2, zfs E μ 2, (RX2, TX2, 9), by decide, rfl, rfl, rfl⟩
theorem zRec_X0 (E : zE) : zRec E RX0 (zob E 3) := fun μ ov => ⟨3, 0, zfs E μ 3, (RX0, TX0, 2), by decide, rfl, rfl, rfl⟩
theorem zRec_X3 (E : zE) : zRec E RX3 (zob E 4) := fun μ ov => ⟨4, 3, zfs E μ 4, (RX3, TX3, 12), by decide, rfl, rfl, rfl⟩
theorem zRec.recv {E : zE} {Cn : String} {b : Nat} (h : zRec E Cn b) {s : State} {H : Heap} {μ : zM} {ov : Nat → Int64} (hK : va_K E.1 vwCl (zT E) s) (hP : va_P E.1 vwCl (zG E μ ov) H) : ∃ cell : Cell, H[b]? = some cell ∧ cell.vm.isStatics = false ∧ s.vm.findClass Cn = some cell.cls := by
  obtain ⟨q0, ci, fs, r, h1, h2, h3, h4⟩ := h μ ov
  subst h4
  exact va_recv hK hP h3 ((zG_o E μ ov h1).trans h2)
section ZCALLS
variable {p : Program} {l : Launch} {e : Env} {R : Room} {s : State} {m : MethodId} {args : Array Value} {below : List Frame} {meth : Method} {c : Code} {E : zE} {sa : Nat → Nat} {nL cells slots : Nat} {Q : State → Prop} {cc : ByteArray} {own : String} {Ts : List Cond} {pc : Nat} {lv : List (Option Value)} {st : List Value} {μ : zM} {ov : Nat → Int64}
variable {y : MethodName} {bytes : ByteArray} {maxL n index fr lo mc ms : Nat} {ret : Option FieldType} {ws ws' : List Cond} {C2 host : String} {b : Nat} {As rest : List Value}
theorem zC.pre (C : zC p s m args c E sa cc nL own Ts) {H : Heap} {locs : List Loc} (hP : va_P E.1 vwCl (zG E μ ov) H) (hD : va_D (zA E s.heap.size) (zG E μ ov)) (hS : va_S (zA E s.heap.size) s.heap H locs) (av : List Value) : ∀ U : State, U.heap = H → s.WarmedH U.vm → zPre E sa H.size av μ ov av.toArray U :=
  fun U hU hW => ⟨rfl, by rw [hU], by rw [hU]; exact hP, va_K.moved hW.alike C.2.1, hD.weaken (fun _ _ _ _ => trivial), C.2.2.1.warm hW, by rw [hU]; exact C.2.2.2.go hW.alike hS hS.1⟩
/-- the machine with q9 thrown, of the class X, at pc -/
def zWx (p : Program) (l : Launch) (e : Env) (R : Room) (s : State) (m : MethodId) (args : Array Value) (below : List Frame) (meth : Method) (c : Code) (E : zE) (nL cells slots : Nat) (Q : State → Prop) (pc : Nat) (lv : List (Option Value)) (st : List Value) (μ : zM) (ov : Nat → Int64) (X : String) (q9 : Addr) : Prop :=
  ∀ (H : Heap) (locs : List Loc) (ls : Array Slot) (ce : Cell), va_P E.1 vwCl (zG E μ ov) H → va_D (zA E s.heap.size) (zG E μ ov) → va_S (zA E s.heap.size) s.heap H locs → zL ls nL lv → H[q9]? = some ce → ce.vm = .none → s.vm.findClass X = some ce.cls → vx_W p l e R s m args below meth c H locs cells slots Q (F0 m pc ls st) q9
theorem zcwS (n : Nat) (ht : ∀ w ∈ Ts, w.before args s = true) (hT : GoodIn Ts (va_wsS own index y ws)) {rm : Room} (hw : ws = Cond.code y bytes maxL ret :: ws') (hrc : rm.cells = mc) (hrs : rm.slots = ms) (hd : y.cls ≠ "java/lang/invoke/MethodHandle" ∧ y.cls ≠ "java/lang/invoke/VarHandle" ∧ (parseMethodDescriptor y.desc).map (fun d => d.parameters.length) = some n) (hR : rm.frames + 1 ≤ R.frames ∧ 8 + (maxL + 11) + rm.locals ≤ R.locals) :
    CallB R s args own index y bytes maxL ret ws rm mc ms n ∧ (Cond.static y).before args s = true := by
  have ok : ∀ w ∈ va_wsS own index y ws, w.before args s = true := fun w h => ht w (hT w h).1
  exact ⟨callB_of n ht (fun w h => hT w (by unfold va_wsS; exact List.mem_append_right _ h)) hw hrc hrs (ok _ (by simp [va_wsS])) (ok _ (by simp [va_wsS])) hd hR, ok _ (by simp [va_wsS])⟩
theorem z_callVi (C : zC p s m args c E sa cc nL own Ts) {post : Int32 → zM → (Nat → Int64) → Prop} (hM : zMi l E sa y ws fr lo mc ms (.ref b :: As) μ ov post) (g : GoodIn Ts (wsV own index C2 y ws)) (hw : ws = Cond.code y bytes maxL ret :: ws') (hd : y.cls = C2 ∧ y.cls ≠ "java/lang/invoke/MethodHandle" ∧ y.cls ≠ "java/lang/invoke/VarHandle" ∧ (parseMethodDescriptor y.desc).map (fun d => d.parameters.length) = some n) (hR : fr + 1 ≤ R.frames ∧ 8 + (maxL + 11) + lo ≤ R.locals) (hn : As.length = n) (hrec : zRec E C2 b) (hst : st = As.reverse ++ .ref b :: rest) (hW : (rest.map fun v => v.category).sum ≤ 8) (hf : cells + mc ≤ R.cells ∧ slots + ms ≤ R.slots) (d : decode cc pc = .ok (.invokevirtual index, 3)) (k : ∀ (r : Int32) (μ1 : zM) (ov1 : Nat → Int64), post r μ1 ov1 → zW p l e R s m args below meth c E nL (cells + mc) (slots + ms) Q (pc + 3) lv (.int r :: rest) μ1 ov1) : zW p l e R s m args below meth c E nL cells slots Q pc lv st μ ov := by
  intro H locs ls hP hD hS hl
  have hr := va_runV (e := e) (below := below) (meth := meth) (locs := locs) (As := As) (rest := rest) (g := F0 m pc ls st) C.1 (hM H.size) (cwV n C.1.2.2.2.2 g hw rfl rfl hd hR) ⟨zPre.blind, hrec.recv C.2.1 hP, C.pre hP hD hS (.ref b :: As)⟩ rfl hn hl.1 hst (lv_room hW) d hf
  exact va_calli hr hS (fun q _ h => zA_mono hS.1 q h) (fun q h => zA_mono hS.1 q h) (fun r u t H1 locs1 ht hvm hp hB hz hk hS1 => k r u.1 u.2 hp H1 locs1 ls (by rw [← ht]; exact hB.1) (hB.2.weaken (fun _ q _ h => zA_mono hS.1 _ h)) hS1 hl)
theorem z_callVv (C : zC p s m args c E sa cc nL own Ts) {post : zM → (Nat → Int64) → Prop} (hM : zMv l E sa y ws fr lo mc ms (.ref b :: As) μ ov post) (g : GoodIn Ts (wsV own index C2 y ws)) (hw : ws = Cond.code y bytes maxL ret :: ws') (hd : y.cls = C2 ∧ y.cls ≠ "java/lang/invoke/MethodHandle" ∧ y.cls ≠ "java/lang/invoke/VarHandle" ∧ (parseMethodDescriptor y.desc).map (fun d => d.parameters.length) = some n) (hR : fr + 1 ≤ R.frames ∧ 8 + (maxL + 11) + lo ≤ R.locals) (hn : As.length = n) (hrec : zRec E C2 b) (hst : st = As.reverse ++ .ref b :: rest) (hW : (rest.map fun v => v.category).sum ≤ 8) (hf : cells + mc ≤ R.cells ∧ slots + ms ≤ R.slots) (d : decode cc pc = .ok (.invokevirtual index, 3)) (k : ∀ (μ1 : zM) (ov1 : Nat → Int64), post μ1 ov1 → zW p l e R s m args below meth c E nL (cells + mc) (slots + ms) Q (pc + 3) lv (rest) μ1 ov1) : zW p l e R s m args below meth c E nL cells slots Q pc lv st μ ov := by
  intro H locs ls hP hD hS hl
  have hr := va_runV (e := e) (below := below) (meth := meth) (locs := locs) (As := As) (rest := rest) (g := F0 m pc ls st) C.1 (hM H.size) (cwV n C.1.2.2.2.2 g hw rfl rfl hd hR) ⟨zPre.blind, hrec.recv C.2.1 hP, C.pre hP hD hS (.ref b :: As)⟩ rfl hn hl.1 hst (lv_room hW) d hf
  exact va_callv hr hS (fun q _ h => zA_mono hS.1 q h) (fun q h => zA_mono hS.1 q h) (fun u t H1 locs1 ht hvm hp hB hz hk hS1 => k u.1 u.2 hp H1 locs1 ls (by rw [← ht]; exact hB.1) (hB.2.weaken (fun _ q _ h => zA_mono hS.1 _ h)) hS1 hl)
theorem z_callSi (C : zC p s m args c E sa cc nL own Ts) {post : Int32 → zM → (Nat → Int64) → Prop} (hM : zMi l E sa y ws fr lo mc ms As μ ov post) (g : GoodIn Ts (va_wsS own index y ws)) (hw : ws = Cond.code y bytes maxL ret :: ws') (hd : y.cls ≠ "java/lang/invoke/MethodHandle" ∧ y.cls ≠ "java/lang/invoke/VarHandle" ∧ (parseMethodDescriptor y.desc).map (fun d => d.parameters.length) = some n) (hR : fr + 1 ≤ R.frames ∧ 8 + (maxL + 11) + lo ≤ R.locals) (hn : As.length = n) (hst : st = As.reverse ++ rest) (hW : (rest.map fun v => v.category).sum ≤ 8) (hf : cells + mc ≤ R.cells ∧ slots + ms ≤ R.slots) (d : decode cc pc = .ok (.invokestatic index, 3)) (k : ∀ (r : Int32) (μ1 : zM) (ov1 : Nat → Int64), post r μ1 ov1 → zW p l e R s m args below meth c E nL (cells + mc) (slots + ms) Q (pc + 3) lv (.int r :: rest) μ1 ov1) : zW p l e R s m args below meth c E nL cells slots Q pc lv st μ ov := by
  intro H locs ls hP hD hS hl
  have hr := va_runS (e := e) (below := below) (meth := meth) (locs := locs) (As := As) (rest := rest) (g := F0 m pc ls st) C.1 (hM H.size) (zcwS n C.1.2.2.2.2 g hw rfl rfl hd hR) ⟨zPre.blind, C.pre hP hD hS As⟩ rfl hn hl.1 hst (lv_room hW) d hf
  exact va_calli hr hS (fun q _ h => zA_mono hS.1 q h) (fun q h => zA_mono hS.1 q h) (fun r u t H1 locs1 ht hvm hp hB hz hk hS1 => k r u.1 u.2 hp H1 locs1 ls (by rw [← ht]; exact hB.1) (hB.2.weaken (fun _ q _ h => zA_mono hS.1 _ h)) hS1 hl)
theorem z_callSv (C : zC p s m args c E sa cc nL own Ts) {post : zM → (Nat → Int64) → Prop} (hM : zMv l E sa y ws fr lo mc ms As μ ov post) (g : GoodIn Ts (va_wsS own index y ws)) (hw : ws = Cond.code y bytes maxL ret :: ws') (hd : y.cls ≠ "java/lang/invoke/MethodHandle" ∧ y.cls ≠ "java/lang/invoke/VarHandle" ∧ (parseMethodDescriptor y.desc).map (fun d => d.parameters.length) = some n) (hR : fr + 1 ≤ R.frames ∧ 8 + (maxL + 11) + lo ≤ R.locals) (hn : As.length = n) (hst : st = As.reverse ++ rest) (hW : (rest.map fun v => v.category).sum ≤ 8) (hf : cells + mc ≤ R.cells ∧ slots + ms ≤ R.slots) (d : decode cc pc = .ok (.invokestatic index, 3)) (k : ∀ (μ1 : zM) (ov1 : Nat → Int64), post μ1 ov1 → zW p l e R s m args below meth c E nL (cells + mc) (slots + ms) Q (pc + 3) lv (rest) μ1 ov1) : zW p l e R s m args below meth c E nL cells slots Q pc lv st μ ov := by
  intro H locs ls hP hD hS hl
  have hr := va_runS (e := e) (below := below) (meth := meth) (locs := locs) (As := As) (rest := rest) (g := F0 m pc ls st) C.1 (hM H.size) (zcwS n C.1.2.2.2.2 g hw rfl rfl hd hR) ⟨zPre.blind, C.pre hP hD hS As⟩ rfl hn hl.1 hst (lv_room hW) d hf
  exact va_callv hr hS (fun q _ h => zA_mono hS.1 q h) (fun q h => zA_mono hS.1 q h) (fun u t H1 locs1 ht hvm hp hB hz hk hS1 => k u.1 u.2 hp H1 locs1 ls (by rw [← ht]; exact hB.1) (hB.2.weaken (fun _ q _ h => zA_mono hS.1 _ h)) hS1 hl)
theorem z_callSNi (C : zC p s m args c E sa cc nL own Ts) {post : Int32 → zM → (Nat → Int64) → Prop} (hM : zMi l E sa y ws fr lo mc ms As μ ov post) (g : GoodIn Ts ws) (hnest : (own, index, y) ∈ zNs) (hstat : (Cond.static y).before args s = true) (hini : (Cond.initialized y.cls).before args s = true) (hw : ws = Cond.code y bytes maxL ret :: ws') (hd : y.cls ≠ "java/lang/invoke/MethodHandle" ∧ y.cls ≠ "java/lang/invoke/VarHandle" ∧ (parseMethodDescriptor y.desc).map (fun d => d.parameters.length) = some n) (hR : fr + 1 ≤ R.frames ∧ 8 + (maxL + 11) + lo ≤ R.locals) (hn : As.length = n) (hst : st = As.reverse ++ rest) (hW : (rest.map fun v => v.category).sum ≤ 8) (hf : cells + mc ≤ R.cells ∧ slots + ms ≤ R.slots) (d : decode cc pc = .ok (.invokestatic index, 3)) (k : ∀ (r : Int32) (μ1 : zM) (ov1 : Nat → Int64), post r μ1 ov1 → zW p l e R s m args below meth c E nL (cells + mc) (slots + ms) Q (pc + 3) lv (.int r :: rest) μ1 ov1) : zW p l e R s m args below meth c E nL cells slots Q pc lv st μ ov := by
  intro H locs ls hP hD hS hl
  have hr := va_runSN (e := e) (below := below) (meth := meth) (locs := locs) (As := As) (rest := rest) (g := F0 m pc ls st) C.1 (hM H.size) ⟨va_cnB n C.1.2.2.2.2 g hw rfl rfl (C.2.2.1.1 _ hnest) hini hd hR, hstat, trivial⟩ ⟨zPre.blind, C.pre hP hD hS As⟩ rfl hn hl.1 hst (lv_room hW) d hf
  exact va_calli hr hS (fun q _ h => zA_mono hS.1 q h) (fun q h => zA_mono hS.1 q h) (fun r u t H1 locs1 ht hvm hp hB hz hk hS1 => k r u.1 u.2 hp H1 locs1 ls (by rw [← ht]; exact hB.1) (hB.2.weaken (fun _ q _ h => zA_mono hS.1 _ h)) hS1 hl)
theorem z_callSWi (C : zC p s m args c E sa cc nL own Ts) {post : Int32 → zM → (Nat → Int64) → Prop} (hM : zMi l E sa y ws fr lo mc ms As μ ov post) {hh : List (Nat × Nat × Nat × Nat)} (g : GoodIn Ts (va_wsS own index y ws)) (hw : ws = Cond.codeWith y bytes maxL ret hh :: ws') (hd : y.cls ≠ "java/lang/invoke/MethodHandle" ∧ y.cls ≠ "java/lang/invoke/VarHandle" ∧ (parseMethodDescriptor y.desc).map (fun d => d.parameters.length) = some n) (hR : fr + 1 ≤ R.frames ∧ 8 + (maxL + 11) + lo ≤ R.locals) (hn : As.length = n) (hst : st = As.reverse ++ rest) (hW : (rest.map fun v => v.category).sum ≤ 8) (hf : cells + mc ≤ R.cells ∧ slots + ms ≤ R.slots) (d : decode cc pc = .ok (.invokestatic index, 3)) (k : ∀ (r : Int32) (μ1 : zM) (ov1 : Nat → Int64), post r μ1 ov1 → zW p l e R s m args below meth c E nL (cells + mc) (slots + ms) Q (pc + 3) lv (.int r :: rest) μ1 ov1) : zW p l e R s m args below meth c E nL cells slots Q pc lv st μ ov := by
  intro H locs ls hP hD hS hl
  have hr := vx_runSW (e := e) (below := below) (meth := meth) (locs := locs) (As := As) (rest := rest) (g := F0 m pc ls st) C.1 (hM H.size) (vx_cwSW n C.1.2.2.2.2 g hw rfl rfl hd hR) ⟨zPre.blind, C.pre hP hD hS As⟩ rfl hn hl.1 hst (lv_room hW) d hf
  exact va_calli hr hS (fun q _ h => zA_mono hS.1 q h) (fun q h => zA_mono hS.1 q h) (fun r u t H1 locs1 ht hvm hp hB hz hk hS1 => k r u.1 u.2 hp H1 locs1 ls (by rw [← ht]; exact hB.1) (hB.2.weaken (fun _ q _ h => zA_mono hS.1 _ h)) hS1 hl)
theorem z_callXVi (C : zC p s m args c E sa cc nL own Ts) {post : Int32 → zM → (Nat → Int64) → Prop} {px : String → Prop} (hM : zXi l E sa y ws fr lo mc ms (.ref b :: As) μ ov post px) (g : GoodIn Ts (wsV own index C2 y ws)) (hw : ws = Cond.code y bytes maxL ret :: ws') (hd : y.cls = C2 ∧ y.cls ≠ "java/lang/invoke/MethodHandle" ∧ y.cls ≠ "java/lang/invoke/VarHandle" ∧ (parseMethodDescriptor y.desc).map (fun d => d.parameters.length) = some n) (hR : fr + 1 ≤ R.frames ∧ 8 + (maxL + 11) + lo ≤ R.locals) (hn : As.length = n) (hrec : zRec E C2 b) (hst : st = As.reverse ++ .ref b :: rest) (hW : (rest.map fun v => v.category).sum ≤ 8) (hf : cells + mc ≤ R.cells ∧ slots + ms ≤ R.slots) (d : decode cc pc = .ok (.invokevirtual index, 3)) (kx : ∀ (X : String) (q9 : Addr), px X → zWx p l e R s m args below meth c E nL (cells + mc) (slots + ms) Q pc lv rest μ ov X q9) (k : ∀ (r : Int32) (μ1 : zM) (ov1 : Nat → Int64), post r μ1 ov1 → zW p l e R s m args below meth c E nL (cells + mc) (slots + ms) Q (pc + 3) lv (.int r :: rest) μ1 ov1) : zW p l e R s m args below meth c E nL cells slots Q pc lv st μ ov := by
  intro H locs ls hP hD hS hl
  have hr := vx_runV (e := e) (below := below) (meth := meth) (locs := locs) (As := As) (rest := rest) (g := F0 m pc ls st) C.1 (hM H.size) (cwV n C.1.2.2.2.2 g hw rfl rfl hd hR) ⟨zPre.blind, hrec.recv C.2.1 hP, C.pre hP hD hS (.ref b :: As)⟩ rfl hn hl.1 hst (lv_room hW) d hf
  exact vx_calli hr hS (fun q _ h => zA_mono hS.1 q h) (fun q h => zA_mono hS.1 q h) (fun q _ h => zA_mono hS.1 q h)
    (fun X ce q9 u t H1 locs1 ht hvm _ hB hz hk hS1 h1 h2 h3 => kx X q9 hB.1 H1 locs1 ls ce (by rw [← ht]; exact hB.2.1) (hB.2.2.weaken (fun _ q _ h => zA_mono hS.1 _ h)) hS1 hl h1 h2 h3)
    (fun r u t H1 locs1 ht hvm hp hB hz hk hS1 => k r u.1 u.2 hp H1 locs1 ls (by rw [← ht]; exact hB.1) (hB.2.weaken (fun _ q _ h => zA_mono hS.1 _ h)) hS1 hl)
theorem z_callXVv (C : zC p s m args c E sa cc nL own Ts) {post : zM → (Nat → Int64) → Prop} {px : String → Prop} (hM : zXv l E sa y ws fr lo mc ms (.ref b :: As) μ ov post px) (g : GoodIn Ts (wsV own index C2 y ws)) (hw : ws = Cond.code y bytes maxL ret :: ws') (hd : y.cls = C2 ∧ y.cls ≠ "java/lang/invoke/MethodHandle" ∧ y.cls ≠ "java/lang/invoke/VarHandle" ∧ (parseMethodDescriptor y.desc).map (fun d => d.parameters.length) = some n) (hR : fr + 1 ≤ R.frames ∧ 8 + (maxL + 11) + lo ≤ R.locals) (hn : As.length = n) (hrec : zRec E C2 b) (hst : st = As.reverse ++ .ref b :: rest) (hW : (rest.map fun v => v.category).sum ≤ 8) (hf : cells + mc ≤ R.cells ∧ slots + ms ≤ R.slots) (d : decode cc pc = .ok (.invokevirtual index, 3)) (kx : ∀ (X : String) (q9 : Addr), px X → zWx p l e R s m args below meth c E nL (cells + mc) (slots + ms) Q pc lv rest μ ov X q9) (k : ∀ (μ1 : zM) (ov1 : Nat → Int64), post μ1 ov1 → zW p l e R s m args below meth c E nL (cells + mc) (slots + ms) Q (pc + 3) lv (rest) μ1 ov1) : zW p l e R s m args below meth c E nL cells slots Q pc lv st μ ov := by
  intro H locs ls hP hD hS hl
  have hr := vx_runV (e := e) (below := below) (meth := meth) (locs := locs) (As := As) (rest := rest) (g := F0 m pc ls st) C.1 (hM H.size) (cwV n C.1.2.2.2.2 g hw rfl rfl hd hR) ⟨zPre.blind, hrec.recv C.2.1 hP, C.pre hP hD hS (.ref b :: As)⟩ rfl hn hl.1 hst (lv_room hW) d hf
  exact vx_callv hr hS (fun q _ h => zA_mono hS.1 q h) (fun q h => zA_mono hS.1 q h) (fun q _ h => zA_mono hS.1 q h)
    (fun X ce q9 u t H1 locs1 ht hvm _ hB hz hk hS1 h1 h2 h3 => kx X q9 hB.1 H1 locs1 ls ce (by rw [← ht]; exact hB.2.1) (hB.2.2.weaken (fun _ q _ h => zA_mono hS.1 _ h)) hS1 hl h1 h2 h3)
    (fun u t H1 locs1 ht hvm hp hB hz hk hS1 => k u.1 u.2 hp H1 locs1 ls (by rw [← ht]; exact hB.1) (hB.2.weaken (fun _ q _ h => zA_mono hS.1 _ h)) hS1 hl)
theorem z_catch (C : zC p s m args c E sa cc nL own Ts) {X name : String} {q9 : Addr} (pre : List ExceptionTableEntry) (x : ExceptionTableEntry) (suf : List ExceptionTableEntry) (hsplit : c.exceptionTable.toList = pre ++ x :: suf) (hpass : ∀ z ∈ pre, covers z pc = false ∨ (z.catchType ≠ 0 ∧ ∃ nm : String, (Cond.classLink own z.catchType nm).before args s = true ∧ va_Nc X nm s)) (hx : covers x pc = true) (h0 : x.catchType ≠ 0) (hlink : (Cond.classLink own x.catchType name).before args s = true) (hcast : va_Nw (.castable X name) s) (k : zW p l e R s m args below meth c E nL cells slots Q x.handlerPc lv [.ref q9] μ ov) : zWx p l e R s m args below meth c E nL cells slots Q pc lv st μ ov X q9 :=
  fun H locs ls ce hP hD hS hl h1 h2 h3 => vx_catch C.1.2.2.2.1 pre x suf hsplit hpass hx h0 hlink (va_Nw.use rfl hcast) h1 h2 h3 (k H locs ls hP hD hS hl)
/-! ends -/
theorem z_iret (C : zC p s m args c E sa cc nL own Ts) (hr : meth.sig.returnType = some .int) (hlk : meth.locks = false) {post : Int32 → zM → (Nat → Int64) → Prop} {r : Int32} (hp : post r μ ov) (hc : cells ≤ mc) (hs : slots ≤ ms) (d : decode cc pc = .ok (.ireturn, 1)) : zW p l e R s m args below meth c E nL cells slots (MQ below (zQi E s.heap.size post) args s mc ms (zA E s.heap.size)) pc lv [.int r] μ ov :=
  fun H locs ls hP hD hS hl => W.widen hc hs (W.iret C.1.1 C.1.2.1 hr (fun t ht hW => ⟨⟨r, (μ, ov), rfl, hp, by rw [ht]; exact hP, hD⟩, hS.F ht⟩) hS.2.2 d hlk)
theorem z_zret (C : zC p s m args c E sa cc nL own Ts) (hr : meth.sig.returnType = some .boolean) (hlk : meth.locks = false) {post : Int32 → zM → (Nat → Int64) → Prop} {r : Int32} (hb : narrow .boolean (.int r) = .int r) (hp : post r μ ov) (hc : cells ≤ mc) (hs : slots ≤ ms) (d : decode cc pc = .ok (.ireturn, 1)) : zW p l e R s m args below meth c E nL cells slots (MQ below (zQi E s.heap.size post) args s mc ms (zA E s.heap.size)) pc lv [.int r] μ ov :=
  fun H locs ls hP hD hS hl => W.widen hc hs (W.zret C.1.1 C.1.2.1 hr hb (fun t ht hW => ⟨⟨r, (μ, ov), rfl, hp, by rw [ht]; exact hP, hD⟩, hS.F ht⟩) hS.2.2 d hlk)
theorem z_vret (C : zC p s m args c E sa cc nL own Ts) (hr : meth.sig.returnType = none) (hlk : meth.locks = false) {post : zM → (Nat → Int64) → Prop} (hp : post μ ov) (hc : cells ≤ mc) (hs : slots ≤ ms) (d : decode cc pc = .ok (.return_, 1)) : zW p l e R s m args below meth c E nL cells slots (MQ below (zQv E s.heap.size post) args s mc ms (zA E s.heap.size)) pc lv [] μ ov :=
  fun H locs ls hP hD hS hl => W.widen hc hs (W.vret C.1.1 C.1.2.1 hr (fun t ht hW => ⟨⟨(μ, ov), rfl, hp, by rw [ht]; exact hP, hD⟩, hS.F ht⟩) hS.2.2 d hlk)
/-- a body that may throw, where it doesn't -/
theorem z_retX {Qc : Array Value → State → Outcome → State → Prop} {XC : String → State → State → Prop} {free : Addr → Prop} (k : zW p l e R s m args below meth c E nL cells slots (MQ below Qc args s mc ms free) pc lv st μ ov) : zW p l e R s m args below meth c E nL cells slots (vx_MQ below Qc XC args s mc ms free) pc lv st μ ov :=
  fun H locs ls hP hD hS hl => vx_ret (k H locs ls hP hD hS hl)
def zBd (X : String) : List Cond := [.castable X X, .declares (Bundle.initS "java/lang/RuntimeException"), .declares (Bundle.initS "java/lang/Exception"), .declares (Bundle.initS Bundle.tN)]
theorem zBd_ok {X : String} {s : State} {args : Array Value} (h1 : va_Nw (.castable X X) s) (h2 : ∀ y ∈ zDs, va_Nw (.declares (Bundle.initS y)) s) : ∀ w ∈ zBd X, w.before args s = true :=
  vx_c (va_Nw.use rfl h1) (vx_c (va_Nw.use rfl (h2 _ (by simp [zDs]))) (vx_c (va_Nw.use rfl (h2 _ (by simp [zDs]))) (vx_c (va_Nw.use rfl (h2 _ (by simp [zDs]))) vx_n)))
def zNm : List String := ["java/lang/RuntimeException", "java/lang/Exception"]
/-- 'throw new X("text")' in the class TickFall -/
theorem z_throw (C : zC p s m args c E sa cc nL RX4 Ts) (hfl : l.stackTraces = false) {X text : String} {ik ss ic : Nat} {Qc : Array Value → State → Outcome → State → Prop} {px : String → Prop} (hX : X ∈ zEx) (htx : (ss, text) ∈ zTx) (hcls : Bundle.fit X = true) (hk : (Cond.classLink RX4 ik X).before args s = true) (hini : (Cond.initialized X).before args s = true)
    (h1 : ∀ w ∈ (vx_atS RX4 ic X zNm).filter goodWord, w ∈ Ts) (h2 : ∀ w ∈ (vx_atS RX4 ic X zNm).filter (fun w => !goodWord w), w ∈ zBd X) (hgood : ∀ w ∈ Cond.classLink RX4 ik X :: Cond.initialized X :: vx_atS RX4 ic X zNm, vx_ot w = true)
    (d0 : decode cc pc = .ok (.new ik, 3)) (d3 : decode cc (pc + 3) = .ok (.dup, 1)) (d4 : decode cc (pc + 4) = .ok (.ldc ss, 2)) (d6 : decode cc (pc + 6) = .ok (.invokespecial ic, 3)) (d9 : decode cc (pc + 9) = .ok (.athrow, 1))
    (hout : ∀ x ∈ c.exceptionTable.toList, False) (hRframes : 5 < R.frames) (hRlocals : (st.map fun v => v.category).sum + 82 ≤ R.locals) (hRcells : cells + 1 ≤ R.cells) (hRslots : slots + 6 ≤ R.slots) (hlk : meth.locks = false) (hp : px X) (hc : cells + 1 ≤ mc) (hs : slots + 6 ≤ ms) :
    zW p l e R s m args below meth c E nL cells slots (vx_MQ below Qc (zXC E s.heap.size μ ov px) args s mc ms (zA E s.heap.size)) pc lv st μ ov := by
  intro H locs ls hP hD hS hl
  have hat : ∀ w ∈ vx_atS RX4 ic X zNm, w.before args s = true := vx_hat (fun w hw => C.1.2.2.2.2 w (h1 w hw)) h2 (zBd_ok (C.2.2.1.2.2.1 X hX).1 (C.2.2.1.2.2.1 X hX).2)
  refine vx_throwS C.1.1 C.1.2.1 hfl (names := zNm) C.1.2.2.2.1 hcls (by decide +kernel) hk hini (C.2.2.1.2.2.2.2 _ htx) hat hgood C.2.2.2.1 C.2.2.2.2 hS (hl.1.trans C.1.2.2.1.symm) d0 d3 d4 d6 d9 (fun x hx => (hout x hx).elim) hRframes hRlocals hRcells hRslots hlk (fun t hvm hz hq => ⟨(), trivial, ⟨hp, ?_, hD⟩, ?_⟩) hS.2.2 hc hs
  · exact hP.kept (fun k q hk => hq q.1 ((hP k q hk).lt))
  · exact ⟨Nat.le_trans hS.1 hz, fun q h3 h4 => (hq q (Nat.lt_of_lt_of_le h3 hS.1)).trans (hS.2.1 q h3 h4)⟩
end ZCALLS
section ZSTART
variable {l : Launch} {E : zE} {sa : Nat → Nat} {y : MethodName} {ws ws' : List Cond} {fr lo mc ms nL : Nat} {av : List Value} {μ : zM} {ov : Nat → Int64} {cc : ByteArray} {ret : Option FieldType} {own : String}
theorem z_ofMi {post : Int32 → zM → (Nat → Int64) → Prop} (hy : plainName y.cls = true) (hw : ws = Cond.code y cc nL ret :: ws') (hcat : ∀ v ∈ av, v.category = 1) (hlen : (lg_sl av).length ≤ nL) (ho : y.cls = own)
    (body : ∀ (p : Program) (e : Env) (s : State) (m : MethodId) (below : List Frame) (meth : Method) (c : Code), zC p s m av.toArray c E sa cc nL own ws → meth.sig.returnType = ret → meth.locks = false → zW p l e (zR fr lo mc ms) s m av.toArray below meth c E nL 0 0 (MQ below (zQi E s.heap.size post) av.toArray s mc ms (zA E s.heap.size)) 0 (zin nL av) [] μ ov) : zMi l E sa y ws fr lo mc ms av μ ov post := by
  intro sz
  refine Met.ofW (cc := cc) (maxL := nL) (ret := ret) hy hw ?_
  intro p e s m args below meth c s₁ B hml hv
  obtain ⟨rfl, hsz, hP, hK, hD0, hWd, hSt⟩ := hv
  subst hsz
  subst ho
  have hl := lv_entry av (n := nL) hlen
  rw [lg_entry_eq]
  exact body p e s m below meth c ⟨⟨B.exec, B.bytes, hml, findClass_of_methodNamed B.named, atoms_spec (ws := ws) B.pre⟩, hK, hWd, hSt⟩ B.returns B.notSynchronized s.heap [] _ hP (hD0.weaken (fun k q hk _ => zG_in hk)) va_S.rf (zL_in hcat hl)
theorem z_ofMv {post : zM → (Nat → Int64) → Prop} (hy : plainName y.cls = true) (hw : ws = Cond.code y cc nL ret :: ws') (hcat : ∀ v ∈ av, v.category = 1) (hlen : (lg_sl av).length ≤ nL) (ho : y.cls = own)
    (body : ∀ (p : Program) (e : Env) (s : State) (m : MethodId) (below : List Frame) (meth : Method) (c : Code), zC p s m av.toArray c E sa cc nL own ws → meth.sig.returnType = ret → meth.locks = false → zW p l e (zR fr lo mc ms) s m av.toArray below meth c E nL 0 0 (MQ below (zQv E s.heap.size post) av.toArray s mc ms (zA E s.heap.size)) 0 (zin nL av) [] μ ov) : zMv l E sa y ws fr lo mc ms av μ ov post := by
  intro sz
  refine Met.ofW (cc := cc) (maxL := nL) (ret := ret) hy hw ?_
  intro p e s m args below meth c s₁ B hml hv
  obtain ⟨rfl, hsz, hP, hK, hD0, hWd, hSt⟩ := hv
  subst hsz
  subst ho
  have hl := lv_entry av (n := nL) hlen
  rw [lg_entry_eq]
  exact body p e s m below meth c ⟨⟨B.exec, B.bytes, hml, findClass_of_methodNamed B.named, atoms_spec (ws := ws) B.pre⟩, hK, hWd, hSt⟩ B.returns B.notSynchronized s.heap [] _ hP (hD0.weaken (fun k q hk _ => zG_in hk)) va_S.rf (zL_in hcat hl)
theorem z_ofXi {post : Int32 → zM → (Nat → Int64) → Prop} {px : String → Prop} (hy : plainName y.cls = true) (hw : ws = Cond.code y cc nL ret :: ws') (hcat : ∀ v ∈ av, v.category = 1) (hlen : (lg_sl av).length ≤ nL) (ho : y.cls = own)
    (body : ∀ (p : Program) (e : Env) (s : State) (m : MethodId) (below : List Frame) (meth : Method) (c : Code), zC p s m av.toArray c E sa cc nL own ws → meth.sig.returnType = ret → meth.locks = false → (∀ x ∈ c.exceptionTable.toList, False) → zW p l e (zR fr lo mc ms) s m av.toArray below meth c E nL 0 0 (vx_MQ below (zQi E s.heap.size post) (zXC E s.heap.size μ ov px) av.toArray s mc ms (zA E s.heap.size)) 0 (zin nL av) [] μ ov) : zXi l E sa y ws fr lo mc ms av μ ov post px := by
  intro sz
  refine vx_ofW (cc := cc) (maxL := nL) (ret := ret) hy hw ?_
  intro p e s m args below meth c s₁ B hml htab hv
  obtain ⟨rfl, hsz, hP, hK, hD0, hWd, hSt⟩ := hv
  subst hsz
  subst ho
  have hl := lv_entry av (n := nL) hlen
  rw [lg_entry_eq]
  exact body p e s m below meth c ⟨⟨B.exec, B.bytes, hml, findClass_of_methodNamed B.named, atoms_spec (ws := ws) B.pre⟩, hK, hWd, hSt⟩ B.returns B.notSynchronized htab s.heap [] _ hP (hD0.weaken (fun k q hk _ => zG_in hk)) va_S.rf (zL_in hcat hl)
theorem z_ofXv {post : zM → (Nat → Int64) → Prop} {px : String → Prop} (hy : plainName y.cls = true) (hw : ws = Cond.code y cc nL ret :: ws') (hcat : ∀ v ∈ av, v.category = 1) (hlen : (lg_sl av).length ≤ nL) (ho : y.cls = own)
    (body : ∀ (p : Program) (e : Env) (s : State) (m : MethodId) (below : List Frame) (meth : Method) (c : Code), zC p s m av.toArray c E sa cc nL own ws → meth.sig.returnType = ret → meth.locks = false → (∀ x ∈ c.exceptionTable.toList, False) → zW p l e (zR fr lo mc ms) s m av.toArray below meth c E nL 0 0 (vx_MQ below (zQv E s.heap.size post) (zXC E s.heap.size μ ov px) av.toArray s mc ms (zA E s.heap.size)) 0 (zin nL av) [] μ ov) : zXv l E sa y ws fr lo mc ms av μ ov post px := by
  intro sz
  refine vx_ofW (cc := cc) (maxL := nL) (ret := ret) hy hw ?_
  intro p e s m args below meth c s₁ B hml htab hv
  obtain ⟨rfl, hsz, hP, hK, hD0, hWd, hSt⟩ := hv
  subst hsz
  subst ho
  have hl := lv_entry av (n := nL) hlen
  rw [lg_entry_eq]
  exact body p e s m below meth c ⟨⟨B.exec, B.bytes, hml, findClass_of_methodNamed B.named, atoms_spec (ws := ws) B.pre⟩, hK, hWd, hSt⟩ B.returns B.notSynchronized htab s.heap [] _ hP (hD0.weaken (fun k q hk _ => zG_in hk)) va_S.rf (zL_in hcat hl)
/-- a method with a table of handlers that throws nothing -/
theorem z_ofWi {hh : List (Nat × Nat × Nat × Nat)} {post : Int32 → zM → (Nat → Int64) → Prop} (hy : plainName y.cls = true) (hw : ws = Cond.codeWith y cc nL ret hh :: ws') (hcat : ∀ v ∈ av, v.category = 1) (hlen : (lg_sl av).length ≤ nL) (ho : y.cls = own)
    (body : ∀ (p : Program) (e : Env) (s : State) (m : MethodId) (below : List Frame) (meth : Method) (c : Code), zC p s m av.toArray c E sa cc nL own ws → meth.sig.returnType = ret → meth.locks = false → c.exceptionTable.toList = tableOf hh → zW p l e (zR fr lo mc ms) s m av.toArray below meth c E nL 0 0 (MQ below (zQi E s.heap.size post) av.toArray s mc ms (zA E s.heap.size)) 0 (zin nL av) [] μ ov) : zMi l E sa y ws fr lo mc ms av μ ov post := by
  intro sz
  refine MetFree.of_bodyS (code := cc) (maxLocals := nL) (ret := ret) hy ?_ ?_
  · intro args s m h hn
    obtain ⟨m9, meth, c, hn9, h1, h2, h3, h4, -, h5, h6, -⟩ := Cond.codeWith_spec (atoms_spec (ws := ws) h _ (by rw [hw]; exact List.mem_cons_self))
    cases hn.symm.trans hn9
    exact ⟨meth, c, h1, h2, h3, h4, h5, h6⟩
  · intro p e s m args below meth c s₁ B hml hv _
    have hh0 : s₁.heap = s.heap := by rw [B.state]; rfl
    have htab := vx_table (x := y) B (atoms_spec (ws := ws) B.pre _ (by rw [hw]; exact List.mem_cons_self))
    obtain ⟨rfl, hsz, hP, hK, hD0, hWd, hSt⟩ := hv
    subst hsz
    subst ho
    have hl := lv_entry av (n := nL) hlen
    have key := body p e s m below meth c ⟨⟨B.exec, B.bytes, hml, findClass_of_methodNamed B.named, atoms_spec (ws := ws) B.pre⟩, hK, hWd, hSt⟩ B.returns B.notSynchronized htab s.heap [] _ hP (hD0.weaken (fun k q hk _ => zG_in hk)) va_S.rf (zL_in hcat hl)
    rw [← lg_entry_eq] at key
    obtain ⟨t, a1, o, b1, b2, b3⟩ := key s₁ hh0 (Stand.of_body B)
    exact ⟨t, o, a1, b1, b2, ⟨b3.1, b3.2⟩⟩
end ZSTART
