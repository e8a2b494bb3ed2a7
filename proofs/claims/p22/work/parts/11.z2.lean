/-! ===== what every method finds in the tables and in the statics, beside its own words ===== -/
def zTx : List (Nat × String) := [(65, "rate or height is out of range"), (76, "there are 6 clocks"), (89, "there is no such clock"), (92, "drift or weight is out of range"), (102, "both clocks are the same, or asymmetry is out of range"), (105, "there are 8 links"), (110, "day or kind is out of range"), (113, "there is no such clock or link"), (120, "amount is out of range, or 40 events are to come"), (125, "there is no such link"), (127, "from, to or amount is out of range"), (132, "the link has 10 calibrations"), (137, "doubt or step is out of range"), (139, "days is out of range"), (141, "the day would be above 500"), (146, "there is no such house"), (151, "it was adopted, or no day has passed"), (165, "what is out of range"), (170, "there is no such link, or it did not measure on that day"), (178, "there is no such link, or one did not measure on that day"), (183, "the links are no ring"), (199, "there was no such day"), (208, "there was no such day, or there is no clock")]
def zIA : String := "java/lang/IllegalArgumentException"
def zIS : String := "java/lang/IllegalStateException"
def zIO : String := "java/lang/IndexOutOfBoundsException"
def zEx : List String := [zIA, zIS, zIO]
def zDs : List String := ["java/lang/RuntimeException", "java/lang/Exception", Bundle.tN]
def zNs : List (String × Nat × MethodName) := [(RX4, 9, yX1_init), (RX4, 18, yX2_init), (RX4, 25, yX0_init), (RX4, 32, yX3_init), (RX1, 31, yX4_held)]
def zWd (sa : Nat → Nat) (U : State) : Prop :=
  (∀ x ∈ zNs, va_Nw (.methodLinkNest x.1 x.2.1 x.2.2 RX4) U) ∧ va_AOA .int U ∧ (∀ x ∈ zEx, va_Nw (.castable x x) U ∧ ∀ y ∈ zDs, va_Nw (.declares (Bundle.initS y)) U) ∧ (∀ x ∈ zEx, ∀ y ∈ zEx, x ≠ y → va_Nc x y U) ∧ ∀ x ∈ zTx, vk_R RX4 x.1 x.2 (sa x.1) U
theorem va_AOA.spec {ty : FieldType} {U : State} (h : va_AOA ty U) : ∃ comp c k, U.vm.findClass (FieldType.array ty).toString = some comp ∧ (U.vm.classes.findIdx? fun (x : Class) => match x.kind with | .array component _ => component == comp | _ => false) = some c ∧ U.vm.classes[c]? = some k ∧ k.kind = .array comp (.array ty) ∧ U.vm.findClass ("[" ++ (FieldType.array ty).toString) = some c := by
  unfold va_AOA Cond.before Cond.holds at h
  simp only [Cond.value, beq_iff_eq] at h
  cases hc : U.vm.findClass (FieldType.array ty).toString with
  | none => simp [hc] at h
  | some comp =>
    simp only [hc, Option.bind_some, Option.bind_eq_some_iff, Option.map_eq_some_iff] at h
    obtain ⟨c, hi, k, hk, hb⟩ := h
    obtain ⟨hlt, hp, -⟩ := Array.findIdx?_eq_some_iff_getElem.mp hi
    have hkk : U.vm.classes[c] = k := (Array.getElem?_eq_some_iff.mp hk).2
    rw [hkk] at hp
    cases hkind : k.kind with
    | array component ty2 =>
      rw [hkind] at hb hp
      simp at hb hp
      exact ⟨comp, c, k, rfl, hi, hk, by rw [hkind, hp, hb.1], hb.2⟩
    | _ => rw [hkind] at hb; simp at hb
theorem va_AOA.moved {ty : FieldType} {u U : State} (hvm : u.vm.Alike U.vm) (h : va_AOA ty u) : va_AOA ty U := by
  obtain ⟨comp, c, k, h1, h2, h3, h4, h5⟩ := h.spec
  obtain ⟨k', hk', he⟩ := hvm.2.2 _ _ h3
  have hi : (U.vm.classes.findIdx? fun (x : Class) => match x.kind with | .array component _ => component == comp | _ => false) = some c := by
    have e1 := va_idx_bare U.vm comp
    have e2 := va_idx_bare u.vm comp
    have eb : U.vm.bare = u.vm.bare := by first | exact hvm.bare_eq | exact hvm.bare_eq.symm
    rw [eb] at e1
    exact e1.symm.trans (e2.trans h2)
  have hkind : k'.kind = .array comp (.array ty) := by rw [he]; exact h4
  have f1 : U.vm.findClass (FieldType.array ty).toString = some comp := by rw [hvm.findClass]; exact h1
  have f2 : U.vm.findClass ("[" ++ (FieldType.array ty).toString) = some c := by rw [hvm.findClass]; exact h5
  unfold va_AOA Cond.before Cond.holds
  simp only [Cond.value]
  rw [f1, Option.bind_some]
  refine (congrArg (fun o : Option Nat => (o.bind (fun c => (U.vm.classes[c]?).map fun (k : Class) => match k.kind with | .array _ t2 => decide (t2 = FieldType.array ty) && decide (U.vm.findClass ("[" ++ (FieldType.array ty).toString) = some c) | _ => false) == some true)) hi).trans ?_
  simp [hk', hkind, f2]
theorem zWd.warm {sa : Nat → Nat} {s U : State} (hW : s.WarmedH U.vm) (h : zWd sa s) : zWd sa U :=
  ⟨fun x hx => va_Nw.warmM hW (h.1 x hx), h.2.1.moved hW.alike, fun x hx => ⟨va_Nw.warmC hW (h.2.2.1 x hx).1, fun y hy => va_Nw.warmD hW ((h.2.2.1 x hx).2 y hy)⟩, fun x hx y hy n => (h.2.2.2.1 x hx y hy n).moved hW.alike, fun x hx => vk_R.warm hW (h.2.2.2.2 x hx)⟩
theorem zWd.same {sa : Nat → Nat} {s U : State} (hv : U.vm = s.vm) (h : zWd sa s) : zWd sa U :=
  ⟨fun x hx => va_Nw.same rfl hv.symm (h.1 x hx), h.2.1.moved (by rw [hv]; exact Vm.Alike.refl _), fun x hx => ⟨va_Nw.same rfl hv.symm (h.2.2.1 x hx).1, fun y hy => va_Nw.same rfl hv.symm ((h.2.2.1 x hx).2 y hy)⟩, fun x hx y hy n => (h.2.2.2.1 x hx y hy n).moved (by rw [hv]; exact Vm.Alike.refl _), fun x hx => vk_R.same hv (h.2.2.2.2 x hx)⟩
/-- the two statics of Throwable, outside what may change -/
def zSt (E : zE) (sz : Nat) (U : State) (H : Heap) : Prop := vx_Zq Bundle.tN "UNASSIGNED_STACK" Bundle.steD (zA E sz) U H ∧ vx_Zq Bundle.tN "SUPPRESSED_SENTINEL" Bundle.listD (zA E sz) U H
theorem zSt.go {E : zE} {sz sz1 : Nat} {s U : State} {H0 H : Heap} {locs : List Loc} (hvm : s.vm.Alike U.vm) (hS : va_S (zA E sz) H0 H locs) (hz : sz ≤ sz1) (h : zSt E sz s H0) : zSt E sz1 U H :=
  ⟨((h.1.kept hS.2.1).narrow (zA_mono hz)).moved hvm, ((h.2.kept hS.2.1).narrow (zA_mono hz)).moved hvm⟩
/-- a method's start -/
def zPre (E : zE) (sa : Nat → Nat) (sz : Nat) (av : List Value) (μ : zM) (ov : Nat → Int64) : Array Value → State → Prop :=
  va_Pc av (fun U => U.heap.size = sz ∧ va_P E.1 vwCl (zG E μ ov) U.heap ∧ va_K E.1 vwCl (zT E) U ∧ va_D (fun _ => True) (zG E μ ov) ∧ zWd sa U ∧ zSt E sz U U.heap)
theorem zPre.blind {E : zE} {sa : Nat → Nat} {sz : Nat} {av : List Value} {μ : zM} {ov : Nat → Int64} : FrameBlind (zPre E sa sz av μ ov) := by
  intro a U g mk q
  obtain ⟨q0, q1, qP, qK, qD, qW, qS⟩ := q
  exact ⟨q0, q1, qP, va_K.moved (u := U) (U := U.calling g mk a) (Vm.Alike.refl U.vm) qK, qD, zWd.same (s := U) (U := U.calling g mk a) rfl qW, ⟨vx_Zq.moved (u := U) (U := U.calling g mk a) (Vm.Alike.refl U.vm) qS.1, vx_Zq.moved (u := U) (U := U.calling g mk a) (Vm.Alike.refl U.vm) qS.2⟩⟩
/-- a method's end -/
def zBack (E : zE) (sz : Nat) (μ : zM) (ov : Nat → Int64) (t : State) : Prop := va_P E.1 vwCl (zG E μ ov) t.heap ∧ va_D (zA E sz) (zG E μ ov)
def zQi (E : zE) (sz : Nat) (post : Int32 → zM → (Nat → Int64) → Prop) : Array Value → State → Outcome → State → Prop := va_Qi (S := zM × (Nat → Int64)) (fun r u => post r u.1 u.2) (fun u t => zBack E sz u.1 u.2 t) (zA E sz)
def zQv (E : zE) (sz : Nat) (post : zM → (Nat → Int64) → Prop) : Array Value → State → Outcome → State → Prop := va_Qv (S := zM × (Nat → Int64)) (fun u => post u.1 u.2) (fun u t => zBack E sz u.1 u.2 t) (zA E sz)
def zR (fr lo mc ms : Nat) : Room := { frames := fr, cells := mc, slots := ms, locals := lo }
/-- contracts: 'from this memory the method comes back, with an answer and a memory of which post holds' -/
def zMi (l : Launch) (E : zE) (sa : Nat → Nat) (y : MethodName) (ws : List Cond) (fr lo mc ms : Nat) (av : List Value) (μ : zM) (ov : Nat → Int64) (post : Int32 → zM → (Nat → Int64) → Prop) : Prop :=
  ∀ sz, Met l y ws (zR fr lo mc ms) (zPre E sa sz av μ ov) (zQi E sz post) mc ms (zA E sz)
def zMv (l : Launch) (E : zE) (sa : Nat → Nat) (y : MethodName) (ws : List Cond) (fr lo mc ms : Nat) (av : List Value) (μ : zM) (ov : Nat → Int64) (post : zM → (Nat → Int64) → Prop) : Prop :=
  ∀ sz, Met l y ws (zR fr lo mc ms) (zPre E sa sz av μ ov) (zQv E sz post) mc ms (zA E sz)
/-- what it throws, nothing changed -/
def zXC (E : zE) (sz : Nat) (μ : zM) (ov : Nat → Int64) (px : String → Prop) : String → State → State → Prop := vx_X (S := Unit) (fun _ => True) (fun X _ t => px X ∧ zBack E sz μ ov t) (zA E sz)
def zXi (l : Launch) (E : zE) (sa : Nat → Nat) (y : MethodName) (ws : List Cond) (fr lo mc ms : Nat) (av : List Value) (μ : zM) (ov : Nat → Int64) (post : Int32 → zM → (Nat → Int64) → Prop) (px : String → Prop) : Prop :=
  ∀ sz, vx_Met l y ws (zR fr lo mc ms) (zPre E sa sz av μ ov) (zQi E sz post) (zXC E sz μ ov px) mc ms (zA E sz)
def zXv (l : Launch) (E : zE) (sa : Nat → Nat) (y : MethodName) (ws : List Cond) (fr lo mc ms : Nat) (av : List Value) (μ : zM) (ov : Nat → Int64) (post : zM → (Nat → Int64) → Prop) (px : String → Prop) : Prop :=
  ∀ sz, vx_Met l y ws (zR fr lo mc ms) (zPre E sa sz av μ ov) (zQv E sz post) (zXC E sz μ ov px) mc ms (zA E sz)
/-- what stays fixed while a method runs -/
def zC (p : Program) (s : State) (m : MethodId) (args : Array Value) (c : Code) (E : zE) (sa : Nat → Nat) (cc : ByteArray) (nL : Nat) (own : String) (Ts : List Cond) : Prop :=
  CallFix p m c cc nL s args Ts own ∧ va_K E.1 vwCl (zT E) s ∧ zWd sa s ∧ zSt E s.heap.size s s.heap
/-- the machine at pc, with these locals, this stack, this memory, comes to a state with Q -/
def zW (p : Program) (l : Launch) (e : Env) (R : Room) (s : State) (m : MethodId) (args : Array Value) (below : List Frame) (meth : Method) (c : Code) (E : zE) (nL cells slots : Nat) (Q : State → Prop) (pc : Nat) (lv : List (Option Value)) (st : List Value) (μ : zM) (ov : Nat → Int64) : Prop :=
  ∀ (H : Heap) (locs : List Loc) (ls : Array Slot), va_P E.1 vwCl (zG E μ ov) H → va_D (zA E s.heap.size) (zG E μ ov) → va_S (zA E s.heap.size) s.heap H locs → zL ls nL lv → W p l e R s m args below meth c H locs cells slots Q (F0 m pc ls st)
