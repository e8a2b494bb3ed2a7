/-! ===== rows of the law: stores, constants, the script ===== -/
section
variable {p : Program} {l : Launch} {e : Env} {R : Room} {s : State} {m : MethodId} {args : Array Value} {below : List Frame} {meth : Method} {c : Code} {E : zE} {sa : Nat → Nat} {nL cells slots : Nat} {Q : State → Prop} {cc : ByteArray} {own : String} {Ts : List Cond} {pc : Nat} {lv : List (Option Value)} {st : List Value} {μ : zM} {ov : Nat → Int64}
theorem z_istore9 (C : zC p s m args c E sa cc nL own Ts) {v0 v1 v2 v3 v4 v5 v6 v7 v8 : Option Value} {o : Option Value} {r : List (Option Value)} {x : Int32} (hn : 9 < nL) (hc : ∀ w : Value, v8 = some w → ¬ w.category = 2) (d : decode cc pc = .ok (.istore 9, 2)) (k : zW p l e R s m args below meth c E nL cells slots Q (pc + 2) (v0 :: v1 :: v2 :: v3 :: v4 :: v5 :: v6 :: v7 :: v8 :: some (.int x) :: r) st μ ov) : zW p l e R s m args below meth c E nL cells slots Q pc (v0 :: v1 :: v2 :: v3 :: v4 :: v5 :: v6 :: v7 :: v8 :: o :: r) (.int x :: st) μ ov := by
  have hz : zc1 (v0 :: v1 :: v2 :: v3 :: v4 :: v5 :: v6 :: v7 :: v8 :: o :: r) 9 := (fun j w hj hw => by (have hj9 : j = 8 := (by omega)); subst hj9; exact hc w (Option.some.inj hw))
  exact fun H locs ls hP hD hS hl => lv_istore C.1.1 C.1.2.1 d hl hn rfl (fun ls' hl' => k H locs ls' hP hD hS (zL_of hl' (zst1 hz)))
theorem z_istore10 (C : zC p s m args c E sa cc nL own Ts) {v0 v1 v2 v3 v4 v5 v6 v7 v8 v9 : Option Value} {o : Option Value} {r : List (Option Value)} {x : Int32} (hn : 10 < nL) (hc : ∀ w : Value, v9 = some w → ¬ w.category = 2) (d : decode cc pc = .ok (.istore 10, 2)) (k : zW p l e R s m args below meth c E nL cells slots Q (pc + 2) (v0 :: v1 :: v2 :: v3 :: v4 :: v5 :: v6 :: v7 :: v8 :: v9 :: some (.int x) :: r) st μ ov) : zW p l e R s m args below meth c E nL cells slots Q pc (v0 :: v1 :: v2 :: v3 :: v4 :: v5 :: v6 :: v7 :: v8 :: v9 :: o :: r) (.int x :: st) μ ov := by
  have hz : zc1 (v0 :: v1 :: v2 :: v3 :: v4 :: v5 :: v6 :: v7 :: v8 :: v9 :: o :: r) 10 := (fun j w hj hw => by (have hj9 : j = 9 := (by omega)); subst hj9; exact hc w (Option.some.inj hw))
  exact fun H locs ls hP hD hS hl => lv_istore C.1.1 C.1.2.1 d hl hn rfl (fun ls' hl' => k H locs ls' hP hD hS (zL_of hl' (zst1 hz)))
theorem z_istore11 (C : zC p s m args c E sa cc nL own Ts) {v0 v1 v2 v3 v4 v5 v6 v7 v8 v9 v10 : Option Value} {o : Option Value} {r : List (Option Value)} {x : Int32} (hn : 11 < nL) (hc : ∀ w : Value, v10 = some w → ¬ w.category = 2) (d : decode cc pc = .ok (.istore 11, 2)) (k : zW p l e R s m args below meth c E nL cells slots Q (pc + 2) (v0 :: v1 :: v2 :: v3 :: v4 :: v5 :: v6 :: v7 :: v8 :: v9 :: v10 :: some (.int x) :: r) st μ ov) : zW p l e R s m args below meth c E nL cells slots Q pc (v0 :: v1 :: v2 :: v3 :: v4 :: v5 :: v6 :: v7 :: v8 :: v9 :: v10 :: o :: r) (.int x :: st) μ ov := by
  have hz : zc1 (v0 :: v1 :: v2 :: v3 :: v4 :: v5 :: v6 :: v7 :: v8 :: v9 :: v10 :: o :: r) 11 := (fun j w hj hw => by (have hj9 : j = 10 := (by omega)); subst hj9; exact hc w (Option.some.inj hw))
  exact fun H locs ls hP hD hS hl => lv_istore C.1.1 C.1.2.1 d hl hn rfl (fun ls' hl' => k H locs ls' hP hD hS (zL_of hl' (zst1 hz)))
theorem z_istore12 (C : zC p s m args c E sa cc nL own Ts) {v0 v1 v2 v3 v4 v5 v6 v7 v8 v9 v10 v11 : Option Value} {o : Option Value} {r : List (Option Value)} {x : Int32} (hn : 12 < nL) (hc : ∀ w : Value, v11 = some w → ¬ w.category = 2) (d : decode cc pc = .ok (.istore 12, 2)) (k : zW p l e R s m args below meth c E nL cells slots Q (pc + 2) (v0 :: v1 :: v2 :: v3 :: v4 :: v5 :: v6 :: v7 :: v8 :: v9 :: v10 :: v11 :: some (.int x) :: r) st μ ov) : zW p l e R s m args below meth c E nL cells slots Q pc (v0 :: v1 :: v2 :: v3 :: v4 :: v5 :: v6 :: v7 :: v8 :: v9 :: v10 :: v11 :: o :: r) (.int x :: st) μ ov := by
  have hz : zc1 (v0 :: v1 :: v2 :: v3 :: v4 :: v5 :: v6 :: v7 :: v8 :: v9 :: v10 :: v11 :: o :: r) 12 := (fun j w hj hw => by (have hj9 : j = 11 := (by omega)); subst hj9; exact hc w (Option.some.inj hw))
  exact fun H locs ls hP hD hS hl => lv_istore C.1.1 C.1.2.1 d hl hn rfl (fun ls' hl' => k H locs ls' hP hD hS (zL_of hl' (zst1 hz)))
theorem z_iinc9 (C : zC p s m args c E sa cc nL own Ts) {v0 v1 v2 v3 v4 v5 v6 v7 v8 : Option Value} {r : List (Option Value)} {x v : Int32} {n : Int} (hv : Int32.ofInt n = v) (hn : 9 < nL) (hc : ∀ w : Value, v8 = some w → ¬ w.category = 2) (d : decode cc pc = .ok (.iinc 9 n, 3)) (k : zW p l e R s m args below meth c E nL cells slots Q (pc + 3) (v0 :: v1 :: v2 :: v3 :: v4 :: v5 :: v6 :: v7 :: v8 :: some (.int (x + v)) :: r) st μ ov) : zW p l e R s m args below meth c E nL cells slots Q pc (v0 :: v1 :: v2 :: v3 :: v4 :: v5 :: v6 :: v7 :: v8 :: some (.int x) :: r) st μ ov := by
  have hz : zc1 (v0 :: v1 :: v2 :: v3 :: v4 :: v5 :: v6 :: v7 :: v8 :: some (.int x) :: r) 9 := (fun j w hj hw => by (have hj9 : j = 8 := (by omega)); subst hj9; exact hc w (Option.some.inj hw))
  intro H locs ls hP hD hS hl
  obtain ⟨k9, hk9⟩ := List.getElem?_of_mem ((zl_mem (v0 :: v1 :: v2 :: v3 :: v4 :: v5 :: v6 :: v7 :: v8 :: some (.int x) :: r) 0 (9, .int x)).mpr ⟨Nat.zero_le _, rfl⟩)
  exact lv_iinc C.1.1 C.1.2.1 d hl hk9 (by rw [hv]) hn rfl (fun ls' hl' => k H locs ls' hP hD hS (zL_of hl' (zst1 hz)))
theorem z_ldc (C : zC p s m args c E sa cc nL own Ts) {index : Nat} {v : Int32} (d : decode cc pc = .ok (.ldc index, 2)) (hc : (Jvm.Cond.constant own index v).before args s = true) (k : zW p l e R s m args below meth c E nL cells slots Q (pc + 2) lv (.int v :: st) μ ov) : zW p l e R s m args below meth c E nL cells slots Q pc lv st μ ov :=
  fun H locs ls hP hD hS hl => lv_ldc C.1.1 C.1.2.1 C.1.2.2.2.1 hc d (k H locs ls hP hD hS hl)
theorem z_widen {c2 s2 : Nat} (hc : cells ≤ c2) (hs : slots ≤ s2) (k : zW p l e R s m args below meth c E nL c2 s2 Q pc lv st μ ov) : zW p l e R s m args below meth c E nL cells slots Q pc lv st μ ov :=
  fun H locs ls hP hD hS hl => W.widen hc hs (k H locs ls hP hD hS hl)
theorem z_sld (C : zC p s m args c E sa cc nL own Ts) {b L : Nat} {xs : Nat → Int32} (hX : va_X b L xs s s.heap) (hbl : b < s.heap.size) (hbA : ¬ zA E s.heap.size b) {i : Int32} (j : Nat) (hi : i = nI j) (hj : j < L) (hL : L ≤ 2560) (d : decode cc pc = .ok (.iaload, 1)) (k : zW p l e R s m args below meth c E nL cells slots Q (pc + 1) lv (.int (xs j) :: st) μ ov) : zW p l e R s m args below meth c E nL cells slots Q pc lv (.int i :: .ref b :: st) μ ov := by
  intro H locs ls hP hD hS hl
  subst hi
  have h := k H locs ls hP hD hS hl
  rw [← nI_clamp (n := j) (by omega)] at h
  exact va_sld C.1.1 C.1.2.1 hX hbl hbA hS (vp_in_nI hj (by omega)) d h
theorem z_slen (C : zC p s m args c E sa cc nL own Ts) {b L : Nat} {xs : Nat → Int32} (hX : va_X b L xs s s.heap) (hbl : b < s.heap.size) (hbA : ¬ zA E s.heap.size b) (d : decode cc pc = .ok (.arraylength, 1)) (k : zW p l e R s m args below meth c E nL cells slots Q (pc + 1) lv (.int (nI L) :: st) μ ov) : zW p l e R s m args below meth c E nL cells slots Q pc lv (.ref b :: st) μ ov :=
  fun H locs ls hP hD hS hl => va_slen C.1.1 C.1.2.1 hX hbl hbA hS d (k H locs ls hP hD hS hl)
end
/-- the start of 'at': as any method's, and the script lies there -/
def zPat (E : zE) (sa : Nat → Nat) (sz b L : Nat) (xs : Nat → Int32) (av : List Value) (μ : zM) (ov : Nat → Int64) : Array Value → State → Prop := fun a U => zPre E sa sz av μ ov a U ∧ va_X b L xs U U.heap ∧ b < sz ∧ ¬ zA E sz b
theorem zPat.blind {E : zE} {sa : Nat → Nat} {sz b L : Nat} {xs : Nat → Int32} {av : List Value} {μ : zM} {ov : Nat → Int64} : FrameBlind (zPat E sa sz b L xs av μ ov) := by
  intro a U g mk q
  obtain ⟨q0, q1, q2, q3⟩ := q
  exact ⟨zPre.blind a U g mk q0, va_X.moved (u := U) (U := U.calling g mk a) (Vm.Alike.refl U.vm) q1, q2, q3⟩
set_option maxHeartbeats 1000000 in
set_option maxRecDepth 100000 in
theorem c_L_at (l : Launch) (E : zE) (sa : Nat → Nat) {μ : zM} {ov : Nat → Int64} {b L : Nat} {xs : Nat → Int32} (hL : L ≤ 2560) {k : Int32} (j : Nat) (hk : k = nI j) (hj : j < 1000) : ∀ sz, Met l yL_at wsL_at (zR 0 0 0 0) (zPat E sa sz b L xs [.ref b, .int k] μ ov) (zQi E sz (fun _ μ1 ov1 => μ1 = μ ∧ ov1 = ov)) 0 0 (zA E sz) := by
  intro sz
  refine Met.ofW (cc := cL_at) (maxL := 2) (ret := some .int) zfp_L_at rfl ?_
  intro p e s m args below meth c s₁ B hml hv
  obtain ⟨⟨rfl, hsz, hP, hK, hD0, hWd, hSt⟩, hX, hbl, hbA⟩ := hv
  subst hsz
  have hl := lv_entry [.ref b, .int k] (n := 2) (Nat.le_of_ble_eq_true rfl)
  rw [lg_entry_eq]
  have C : zC p s m [Value.ref b, .int k].toArray c E sa cL_at 2 RL wsL_at := ⟨⟨B.exec, B.bytes, hml, findClass_of_methodNamed B.named, atoms_spec (ws := wsL_at) B.pre⟩, hK, hWd, hSt⟩
  have hr := B.returns
  have hlk := B.notSynchronized
  have key : zW p l e (zR 0 0 0 0) s m [Value.ref b, .int k].toArray below meth c E 2 0 0 (MQ below (zQi E s.heap.size (fun _ μ1 ov1 => μ1 = μ ∧ ov1 = ov)) [Value.ref b, Value.int k].toArray s 0 0 (zA E s.heap.size)) 0 [some (.ref b), some (.int k)] [] μ ov := by
    refine z_iloadn (i := 1) (pc := 0) C dL_at_0 rfl rfl ?_
    refine z_aloadn (i := 0) (pc := 1) C dL_at_1 rfl rfl ?_
    refine z_slen (pc := 2) C hX hbl hbA dL_at_2 ?_
    refine z_icmp_ge (tgt := 12) (pc := 3) C dL_at_3 (by decide) (fun _ => ?_) (fun c1 => ?_)
    · refine z_ldc (v := 1877071305) (pc := 12) C dL_at_12 (C.1.2.2.2.2 (.constant RL 7 1877071305) (by decide +kernel)) ?_
      refine z_iloadn (i := 1) (pc := 14) C dL_at_14 rfl rfl ?_
      refine z_iconst (v := 1) (pc := 15) C dL_at_15 (by decide) ?_
      refine z_iadd (pc := 16) C dL_at_16 ?_
      refine z_imul (pc := 17) C dL_at_17 ?_
      refine z_ldc (v := 903328243) (pc := 18) C dL_at_18 (C.1.2.2.2.2 (.constant RL 8 903328243) (by decide +kernel)) ?_
      refine z_iadd (pc := 20) C dL_at_20 ?_
      exact z_iret (pc := 21) C hr hlk ⟨rfl, rfl⟩ (Nat.zero_le _) (Nat.zero_le _) dL_at_21
    · have hjL : j < L := by
        have h := znot_le c1
        rw [hk] at h
        exact (nI_ltI (by omega) (by omega)).mp h
      refine z_aloadn (i := 0) (pc := 6) C dL_at_6 rfl rfl ?_
      refine z_iloadn (i := 1) (pc := 7) C dL_at_7 rfl rfl ?_
      refine z_sld (pc := 8) C hX hbl hbA j hk hjL hL dL_at_8 ?_
      refine z_goto (tgt := 21) (pc := 9) C dL_at_9 (by decide) ?_
      exact z_iret (pc := 21) C hr hlk ⟨rfl, rfl⟩ (Nat.zero_le _) (Nat.zero_le _) dL_at_21
  exact key s.heap [] _ hP (hD0.weaken (fun k q hk _ => zG_in hk)) va_S.rf (zL_in (fun v hv => by rcases List.mem_cons.mp hv with h | h; (rw [h]; rfl); (rw [List.mem_singleton.mp h]; rfl)) hl)
section
variable {p : Program} {l : Launch} {e : Env} {R : Room} {s : State} {m : MethodId} {args : Array Value} {below : List Frame} {meth : Method} {c : Code} {E : zE} {sa : Nat → Nat} {nL cells slots : Nat} {Q : State → Prop} {cc : ByteArray} {own : String} {Ts : List Cond} {pc : Nat} {lv : List (Option Value)} {st : List Value} {μ : zM} {ov : Nat → Int64}
theorem z_callAt (C : zC p s m args c E sa cc nL own Ts) {y : MethodName} {bytes : ByteArray} {maxL n index fr lo mc ms : Nat} {ret : Option FieldType} {ws ws' : List Cond} {As rest : List Value} {b L : Nat} {xs : Nat → Int32} (hX : va_X b L xs s s.heap) (hbl : b < s.heap.size) (hbA : ¬ zA E s.heap.size b) {post : Int32 → zM → (Nat → Int64) → Prop} (hM : ∀ sz, Met l y ws (zR fr lo mc ms) (zPat E sa sz b L xs As μ ov) (zQi E sz post) mc ms (zA E sz)) (g : GoodIn Ts (va_wsS own index y ws)) (hw : ws = Cond.code y bytes maxL ret :: ws') (hd : y.cls ≠ "java/lang/invoke/MethodHandle" ∧ y.cls ≠ "java/lang/invoke/VarHandle" ∧ (parseMethodDescriptor y.desc).map (fun d => d.parameters.length) = some n) (hR : fr + 1 ≤ R.frames ∧ 8 + (maxL + 11) + lo ≤ R.locals) (hn : As.length = n) (hst : st = As.reverse ++ rest) (hW : (rest.map fun v => v.category).sum ≤ 8) (hf : cells + mc ≤ R.cells ∧ slots + ms ≤ R.slots) (d : decode cc pc = .ok (.invokestatic index, 3)) (k : ∀ (r : Int32) (μ1 : zM) (ov1 : Nat → Int64), post r μ1 ov1 → zW p l e R s m args below meth c E nL (cells + mc) (slots + ms) Q (pc + 3) lv (.int r :: rest) μ1 ov1) : zW p l e R s m args below meth c E nL cells slots Q pc lv st μ ov := by
  intro H locs ls hP hD hS hl
  have hpre : ∀ U : State, U.heap = H → s.WarmedH U.vm → zPat E sa H.size b L xs As μ ov As.toArray U := fun U hU hW => by
    refine ⟨C.pre hP hD hS As U hU hW, ?_, Nat.lt_of_lt_of_le hbl hS.1, fun h => hbA (zA_mono hS.1 b h)⟩
    rw [hU]
    exact (hX.kept (hS.2.1 b hbl hbA)).moved hW.alike
  have hr := va_runS (e := e) (below := below) (meth := meth) (locs := locs) (As := As) (rest := rest) (g := F0 m pc ls st) C.1 (hM H.size) (zcwS n C.1.2.2.2.2 g hw rfl rfl hd hR) ⟨zPat.blind, hpre⟩ rfl hn hl.1 hst (lv_room hW) d hf
  exact va_calli hr hS (fun q _ h => zA_mono hS.1 q h) (fun q h => zA_mono hS.1 q h) (fun r u t H1 locs1 ht hvm hp hB hz hk hS1 => k r u.1 u.2 hp H1 locs1 ls (by rw [← ht]; exact hB.1) (hB.2.weaken (fun _ q _ h => zA_mono hS.1 _ h)) hS1 hl)
end
theorem zEx_IA : zIA ∈ zEx := by unfold zEx; exact List.mem_cons_self
theorem zEx_IS : zIS ∈ zEx := by unfold zEx; exact List.mem_cons_of_mem _ List.mem_cons_self
theorem zEx_IO : zIO ∈ zEx := by unfold zEx; exact List.mem_cons_of_mem _ (List.mem_cons_of_mem _ List.mem_cons_self)
