/-- the cells of a new X0 -/
def zw0 (ty : Nat → ClassId) (h0 : Nat) (u : zkS) : va_W := [(h0, .inr (0, [.ref (u 0 0), .int 0])), (u 0 0, .inl (ty 0, 40, .inl (fun _ => 0)))]
set_option maxHeartbeats 4000000 in
set_option maxRecDepth 100000 in
theorem c_X0_init (l : Launch) (D : va_G) (ty : Nat → ClassId) (sa : Nat → Nat) (h0 : Nat) : zkM l D ty sa yX0_init wsX0_init 1 24 1 40 h0 [(h0, .inr (0, [.null, .int 0]))] (zw0 ty h0) := by
  refine zk_of (cc := cX0_init) (nL := 1) (own := RX0) zfp_X0_init rfl (by decide) rfl rfl ?_
  intro p e s m below meth c C hr hlk hin2
  have hoi : Cond.code objectInit ⟨#[0xb1]⟩ 1 none ∈ wsX0_init := List.mem_of_getElem? (i := 3) rfl
  show zkW p l e (zR 1 24 1 40) s m [Value.ref h0].toArray below meth c D (va_A [(h0, .inr (0, [.null, .int 0]))] s.heap.size) 1 0 0 (MQ below (va_Qv (S := zkS) (fun _ => True) (fun u t => va_P D vwCl (zw0 ty h0 u) t.heap ∧ va_D (va_A [(h0, .inr (0, [.null, .int 0]))] s.heap.size) (zw0 ty h0 u)) (va_A [(h0, .inr (0, [.null, .int 0]))] s.heap.size)) [Value.ref h0].toArray s 1 40 (va_A [(h0, .inr (0, [.null, .int 0]))] s.heap.size)) 0 [some (.ref h0)] [] [(h0, .inr (0, [.null, .int 0]))]
  have iX0 : ∀ w ∈ wsX00, w ∈ wsX0_init := by decide +kernel
  have f11 := C.1.2.2.2.2 (.fieldLink RX0 11 "TickFall$Agenda" "rows" "[I") (by decide +kernel)
  have f15 := C.1.2.2.2.2 (.fieldLink RX0 15 "TickFall$Agenda" "count" "I") (by decide +kernel)
  have gi := C.1.2.2.2.2 (.arrayClass .int) (by decide +kernel)
  refine zk_aloadn (i := 0) (pc := 0) C dX0_init_0 rfl rfl ?_
  refine zk_objInit (pc := 1) C (C.1.2.2.2.2 (.methodLink RX0 5 objectInit) (by decide +kernel)) (C.1.2.2.2.2 (.instanceMethod objectInit) (by decide +kernel)) (C.1.2.2.2.2 _ hoi) (Nat.le_of_ble_eq_true rfl) (Nat.le_of_ble_eq_true rfl) dX0_init_1 ?_
  refine zk_aloadn (i := 0) (pc := 4) C dX0_init_4 rfl rfl ?_
  refine zk_bipush (v := 40) (pc := 5) C dX0_init_5 (by decide) ?_
  refine zk_newi (N := 40) (pc := 7) C gi rfl (by decide) (Nat.le_of_ble_eq_true rfl) (Nat.le_of_ble_eq_true rfl) dX0_init_7 (fun q7 => ?_)
  refine zk_eq (ws' := [(h0, .inr (0, [.null, .int 0])), (q7, .inl (ty 0, 40, .inl (fun _ => 0)))]) rfl ?_
  refine zk_widen (c2 := 1) (s2 := 40) (Nat.le_of_ble_eq_true rfl) (Nat.le_of_ble_eq_true rfl) ?_
  refine zk_putF (ty1 := (.array .int)) (ws' := [(h0, .inr (0, [.ref q7, .int 0])), (q7, .inl (ty 0, 40, .inl (fun _ => 0)))]) (q0 := 0) (ci := 0) (pc := 9) C 0 rfl rfl (by decide) (Nat.le_of_ble_eq_true rfl) rfl tyX0 tyX0_ok nmX0 rfl hin2 rfl (by decide +kernel) rfl rfl iX0 f11 rfl dX0_init_9 ?_
  refine zk_aloadn (i := 0) (pc := 12) C dX0_init_12 rfl rfl ?_
  refine zk_iconst (v := 0) (pc := 13) C dX0_init_13 (by decide) ?_
  refine zk_put (ty1 := .int) (ws' := [(h0, .inr (0, [.ref q7, .int 0])), (q7, .inl (ty 0, 40, .inl (fun _ => 0)))]) (q0 := 0) (ci := 0) (pc := 14) C 1 rfl rfl (by decide) (Nat.le_of_ble_eq_true rfl) rfl tyX0 tyX0_ok nmX0 rfl (by decide +kernel) rfl rfl iX0 f15 rfl dX0_init_14 ?_
  exact zk_vret (pc := 17) C hr hlk (fun _ i => [q7].getD i 0) rfl (Nat.le_of_ble_eq_true rfl) (Nat.le_of_ble_eq_true rfl) dX0_init_17
/-- the cells of a new X1 -/
def zw1 (ty : Nat → ClassId) (h0 : Nat) (u : zkS) : va_W := [(h0, .inr (1, [.ref (u 0 0), .ref (u 0 1), .ref (u 0 2), .ref (u 0 3), .ref (u 0 4), .int 0])), (u 0 0, .inl (ty 0, 6, .inl (fun _ => 0))), (u 0 1, .inl (ty 0, 6, .inl (fun _ => 0))), (u 0 2, .inl (ty 0, 6, .inl (fun _ => 0))), (u 0 3, .inl (ty 0, 6, .inl (fun _ => 0))), (u 0 4, .inl (ty 0, 6, .inl (fun _ => 0)))]
set_option maxHeartbeats 4000000 in
set_option maxRecDepth 100000 in
theorem c_X1_init (l : Launch) (D : va_G) (ty : Nat → ClassId) (sa : Nat → Nat) (h0 : Nat) : zkM l D ty sa yX1_init wsX1_init 1 24 5 30 h0 [(h0, .inr (1, [.null, .null, .null, .null, .null, .int 0]))] (zw1 ty h0) := by
  refine zk_of (cc := cX1_init) (nL := 1) (own := RX1) zfp_X1_init rfl (by decide) rfl rfl ?_
  intro p e s m below meth c C hr hlk hin2
  have hoi : Cond.code objectInit ⟨#[0xb1]⟩ 1 none ∈ wsX1_init := List.mem_of_getElem? (i := 3) rfl
  show zkW p l e (zR 1 24 5 30) s m [Value.ref h0].toArray below meth c D (va_A [(h0, .inr (1, [.null, .null, .null, .null, .null, .int 0]))] s.heap.size) 1 0 0 (MQ below (va_Qv (S := zkS) (fun _ => True) (fun u t => va_P D vwCl (zw1 ty h0 u) t.heap ∧ va_D (va_A [(h0, .inr (1, [.null, .null, .null, .null, .null, .int 0]))] s.heap.size) (zw1 ty h0 u)) (va_A [(h0, .inr (1, [.null, .null, .null, .null, .null, .int 0]))] s.heap.size)) [Value.ref h0].toArray s 5 30 (va_A [(h0, .inr (1, [.null, .null, .null, .null, .null, .int 0]))] s.heap.size)) 0 [some (.ref h0)] [] [(h0, .inr (1, [.null, .null, .null, .null, .null, .int 0]))]
  have iX1 : ∀ w ∈ wsX10, w ∈ wsX1_init := by decide +kernel
  have f9 := C.1.2.2.2.2 (.fieldLink RX1 9 "TickFall$Clocks" "rates" "[I") (by decide +kernel)
  have f15 := C.1.2.2.2.2 (.fieldLink RX1 15 "TickFall$Clocks" "drifts" "[I") (by decide +kernel)
  have f18 := C.1.2.2.2.2 (.fieldLink RX1 18 "TickFall$Clocks" "weights" "[I") (by decide +kernel)
  have f21 := C.1.2.2.2.2 (.fieldLink RX1 21 "TickFall$Clocks" "heights" "[I") (by decide +kernel)
  have f24 := C.1.2.2.2.2 (.fieldLink RX1 24 "TickFall$Clocks" "phases" "[I") (by decide +kernel)
  have f27 := C.1.2.2.2.2 (.fieldLink RX1 27 "TickFall$Clocks" "count" "I") (by decide +kernel)
  have gi := C.1.2.2.2.2 (.arrayClass .int) (by decide +kernel)
  refine zk_aloadn (i := 0) (pc := 0) C dX1_init_0 rfl rfl ?_
  refine zk_objInit (pc := 1) C (C.1.2.2.2.2 (.methodLink RX1 3 objectInit) (by decide +kernel)) (C.1.2.2.2.2 (.instanceMethod objectInit) (by decide +kernel)) (C.1.2.2.2.2 _ hoi) (Nat.le_of_ble_eq_true rfl) (Nat.le_of_ble_eq_true rfl) dX1_init_1 ?_
  refine zk_aloadn (i := 0) (pc := 4) C dX1_init_4 rfl rfl ?_
  refine zk_bipush (v := 6) (pc := 5) C dX1_init_5 (by decide) ?_
  refine zk_newi (N := 6) (pc := 7) C gi rfl (by decide) (Nat.le_of_ble_eq_true rfl) (Nat.le_of_ble_eq_true rfl) dX1_init_7 (fun q7 => ?_)
  refine zk_eq (ws' := [(h0, .inr (1, [.null, .null, .null, .null, .null, .int 0])), (q7, .inl (ty 0, 6, .inl (fun _ => 0)))]) rfl ?_
  refine zk_widen (c2 := 1) (s2 := 6) (Nat.le_of_ble_eq_true rfl) (Nat.le_of_ble_eq_true rfl) ?_
  refine zk_putF (ty1 := (.array .int)) (ws' := [(h0, .inr (1, [.ref q7, .null, .null, .null, .null, .int 0])), (q7, .inl (ty 0, 6, .inl (fun _ => 0)))]) (q0 := 0) (ci := 1) (pc := 9) C 0 rfl rfl (by decide) (Nat.le_of_ble_eq_true rfl) rfl tyX1 tyX1_ok nmX1 rfl hin2 rfl (by decide +kernel) rfl rfl iX1 f9 rfl dX1_init_9 ?_
  refine zk_aloadn (i := 0) (pc := 12) C dX1_init_12 rfl rfl ?_
  refine zk_bipush (v := 6) (pc := 13) C dX1_init_13 (by decide) ?_
  refine zk_newi (N := 6) (pc := 15) C gi rfl (by decide) (Nat.le_of_ble_eq_true rfl) (Nat.le_of_ble_eq_true rfl) dX1_init_15 (fun q15 => ?_)
  refine zk_eq (ws' := [(h0, .inr (1, [.ref q7, .null, .null, .null, .null, .int 0])), (q7, .inl (ty 0, 6, .inl (fun _ => 0))), (q15, .inl (ty 0, 6, .inl (fun _ => 0)))]) rfl ?_
  refine zk_widen (c2 := 2) (s2 := 12) (Nat.le_of_ble_eq_true rfl) (Nat.le_of_ble_eq_true rfl) ?_
  refine zk_putF (ty1 := (.array .int)) (ws' := [(h0, .inr (1, [.ref q7, .ref q15, .null, .null, .null, .int 0])), (q7, .inl (ty 0, 6, .inl (fun _ => 0))), (q15, .inl (ty 0, 6, .inl (fun _ => 0)))]) (q0 := 0) (ci := 1) (pc := 17) C 1 rfl rfl (by decide) (Nat.le_of_ble_eq_true rfl) rfl tyX1 tyX1_ok nmX1 rfl hin2 rfl (by decide +kernel) rfl rfl iX1 f15 rfl dX1_init_17 ?_
  refine zk_aloadn (i := 0) (pc := 20) C dX1_init_20 rfl rfl ?_
  refine zk_bipush (v := 6) (pc := 21) C dX1_init_21 (by decide) ?_
  refine zk_newi (N := 6) (pc := 23) C gi rfl (by decide) (Nat.le_of_ble_eq_true rfl) (Nat.le_of_ble_eq_true rfl) dX1_init_23 (fun q23 => ?_)
  refine zk_eq (ws' := [(h0, .inr (1, [.ref q7, .ref q15, .null, .null, .null, .int 0])), (q7, .inl (ty 0, 6, .inl (fun _ => 0))), (q15, .inl (ty 0, 6, .inl (fun _ => 0))), (q23, .inl (ty 0, 6, .inl (fun _ => 0)))]) rfl ?_
  refine zk_widen (c2 := 3) (s2 := 18) (Nat.le_of_ble_eq_true rfl) (Nat.le_of_ble_eq_true rfl) ?_
  refine zk_putF (ty1 := (.array .int)) (ws' := [(h0, .inr (1, [.ref q7, .ref q15, .ref q23, .null, .null, .int 0])), (q7, .inl (ty 0, 6, .inl (fun _ => 0))), (q15, .inl (ty 0, 6, .inl (fun _ => 0))), (q23, .inl (ty 0, 6, .inl (fun _ => 0)))]) (q0 := 0) (ci := 1) (pc := 25) C 2 rfl rfl (by decide) (Nat.le_of_ble_eq_true rfl) rfl tyX1 tyX1_ok nmX1 rfl hin2 rfl (by decide +kernel) rfl rfl iX1 f18 rfl dX1_init_25 ?_
  refine zk_aloadn (i := 0) (pc := 28) C dX1_init_28 rfl rfl ?_
  refine zk_bipush (v := 6) (pc := 29) C dX1_init_29 (by decide) ?_
  refine zk_newi (N := 6) (pc := 31) C gi rfl (by decide) (Nat.le_of_ble_eq_true rfl) (Nat.le_of_ble_eq_true rfl) dX1_init_31 (fun q31 => ?_)
  refine zk_eq (ws' := [(h0, .inr (1, [.ref q7, .ref q15, .ref q23, .null, .null, .int 0])), (q7, .inl (ty 0, 6, .inl (fun _ => 0))), (q15, .inl (ty 0, 6, .inl (fun _ => 0))), (q23, .inl (ty 0, 6, .inl (fun _ => 0))), (q31, .inl (ty 0, 6, .inl (fun _ => 0)))]) rfl ?_
  refine zk_widen (c2 := 4) (s2 := 24) (Nat.le_of_ble_eq_true rfl) (Nat.le_of_ble_eq_true rfl) ?_
  refine zk_putF (ty1 := (.array .int)) (ws' := [(h0, .inr (1, [.ref q7, .ref q15, .ref q23, .ref q31, .null, .int 0])), (q7, .inl (ty 0, 6, .inl (fun _ => 0))), (q15, .inl (ty 0, 6, .inl (fun _ => 0))), (q23, .inl (ty 0, 6, .inl (fun _ => 0))), (q31, .inl (ty 0, 6, .inl (fun _ => 0)))]) (q0 := 0) (ci := 1) (pc := 33) C 3 rfl rfl (by decide) (Nat.le_of_ble_eq_true rfl) rfl tyX1 tyX1_ok nmX1 rfl hin2 rfl (by decide +kernel) rfl rfl iX1 f21 rfl dX1_init_33 ?_
  refine zk_aloadn (i := 0) (pc := 36) C dX1_init_36 rfl rfl ?_
  refine zk_bipush (v := 6) (pc := 37) C dX1_init_37 (by decide) ?_
  refine zk_newi (N := 6) (pc := 39) C gi rfl (by decide) (Nat.le_of_ble_eq_true rfl) (Nat.le_of_ble_eq_true rfl) dX1_init_39 (fun q39 => ?_)
  refine zk_eq (ws' := [(h0, .inr (1, [.ref q7, .ref q15, .ref q23, .ref q31, .null, .int 0])), (q7, .inl (ty 0, 6, .inl (fun _ => 0))), (q15, .inl (ty 0, 6, .inl (fun _ => 0))), (q23, .inl (ty 0, 6, .inl (fun _ => 0))), (q31, .inl (ty 0, 6, .inl (fun _ => 0))), (q39, .inl (ty 0, 6, .inl (fun _ => 0)))]) rfl ?_
  refine zk_widen (c2 := 5) (s2 := 30) (Nat.le_of_ble_eq_true rfl) (Nat.le_of_ble_eq_true rfl) ?_
  refine zk_putF (ty1 := (.array .int)) (ws' := [(h0, .inr (1, [.ref q7, .ref q15, .ref q23, .ref q31, .ref q39, .int 0])), (q7, .inl (ty 0, 6, .inl (fun _ => 0))), (q15, .inl (ty 0, 6, .inl (fun _ => 0))), (q23, .inl (ty 0, 6, .inl (fun _ => 0))), (q31, .inl (ty 0, 6, .inl (fun _ => 0))), (q39, .inl (ty 0, 6, .inl (fun _ => 0)))]) (q0 := 0) (ci := 1) (pc := 41) C 4 rfl rfl (by decide) (Nat.le_of_ble_eq_true rfl) rfl tyX1 tyX1_ok nmX1 rfl hin2 rfl (by decide +kernel) rfl rfl iX1 f24 rfl dX1_init_41 ?_
  refine zk_aloadn (i := 0) (pc := 44) C dX1_init_44 rfl rfl ?_
  refine zk_iconst (v := 0) (pc := 45) C dX1_init_45 (by decide) ?_
  refine zk_put (ty1 := .int) (ws' := [(h0, .inr (1, [.ref q7, .ref q15, .ref q23, .ref q31, .ref q39, .int 0])), (q7, .inl (ty 0, 6, .inl (fun _ => 0))), (q15, .inl (ty 0, 6, .inl (fun _ => 0))), (q23, .inl (ty 0, 6, .inl (fun _ => 0))), (q31, .inl (ty 0, 6, .inl (fun _ => 0))), (q39, .inl (ty 0, 6, .inl (fun _ => 0)))]) (q0 := 0) (ci := 1) (pc := 46) C 5 rfl rfl (by decide) (Nat.le_of_ble_eq_true rfl) rfl tyX1 tyX1_ok nmX1 rfl (by decide +kernel) rfl rfl iX1 f27 rfl dX1_init_46 ?_
  exact zk_vret (pc := 49) C hr hlk (fun _ i => [q7, q15, q23, q31, q39].getD i 0) rfl (Nat.le_of_ble_eq_true rfl) (Nat.le_of_ble_eq_true rfl) dX1_init_49
/-- the cells of a new X2 -/
def zw2 (ty : Nat → ClassId) (h0 : Nat) (u : zkS) : va_W := [(h0, .inr (2, [.ref (u 0 0), .ref (u 0 1), .ref (u 0 2), .ref (u 0 3), .ref (u 0 4), .ref (u 0 5), .ref (u 0 6), .ref (u 0 7), .int 0])), (u 0 0, .inl (ty 0, 8, .inl (fun _ => 0))), (u 0 1, .inl (ty 0, 8, .inl (fun _ => 0))), (u 0 2, .inl (ty 0, 8, .inl (fun _ => 0))), (u 0 3, .inl (ty 0, 8, .inl (fun _ => 0))), (u 0 4, .inl (ty 0, 8, .inl (fun _ => 0))), (u 0 5, .inl (ty 0, 8, .inl (fun _ => 0))), (u 0 6, .inl (ty 3, 8, .inr (.inr (.inr (.inr (fun i => if i < 8 then some (u 1 i) else none)))))), (u 1 0, .inl (ty 0, 501, .inl (fun _ => 0))), (u 1 1, .inl (ty 0, 501, .inl (fun _ => 0))), (u 1 2, .inl (ty 0, 501, .inl (fun _ => 0))), (u 1 3, .inl (ty 0, 501, .inl (fun _ => 0))), (u 1 4, .inl (ty 0, 501, .inl (fun _ => 0))), (u 1 5, .inl (ty 0, 501, .inl (fun _ => 0))), (u 1 6, .inl (ty 0, 501, .inl (fun _ => 0))), (u 1 7, .inl (ty 0, 501, .inl (fun _ => 0))), (u 0 7, .inl (ty 3, 8, .inr (.inr (.inr (.inr (fun i => if i < 8 then some (u 2 i) else none)))))), (u 2 0, .inl (ty 0, 501, .inl (fun _ => 0))), (u 2 1, .inl (ty 0, 501, .inl (fun _ => 0))), (u 2 2, .inl (ty 0, 501, .inl (fun _ => 0))), (u 2 3, .inl (ty 0, 501, .inl (fun _ => 0))), (u 2 4, .inl (ty 0, 501, .inl (fun _ => 0))), (u 2 5, .inl (ty 0, 501, .inl (fun _ => 0))), (u 2 6, .inl (ty 0, 501, .inl (fun _ => 0))), (u 2 7, .inl (ty 0, 501, .inl (fun _ => 0)))]
set_option maxHeartbeats 4000000 in
set_option maxRecDepth 100000 in
theorem c_X2_init (l : Launch) (D : va_G) (ty : Nat → ClassId) (sa : Nat → Nat) (h0 : Nat) : zkM l D ty sa yX2_init wsX2_init 1 24 24 8080 h0 [(h0, .inr (2, [.null, .null, .null, .null, .null, .null, .null, .null, .int 0]))] (zw2 ty h0) := by
  refine zk_of (cc := cX2_init) (nL := 1) (own := RX2) zfp_X2_init rfl (by decide) rfl rfl ?_
  intro p e s m below meth c C hr hlk hin2
  have hoi : Cond.code objectInit ⟨#[0xb1]⟩ 1 none ∈ wsX2_init := List.mem_of_getElem? (i := 3) rfl
  show zkW p l e (zR 1 24 24 8080) s m [Value.ref h0].toArray below meth c D (va_A [(h0, .inr (2, [.null, .null, .null, .null, .null, .null, .null, .null, .int 0]))] s.heap.size) 1 0 0 (MQ below (va_Qv (S := zkS) (fun _ => True) (fun u t => va_P D vwCl (zw2 ty h0 u) t.heap ∧ va_D (va_A [(h0, .inr (2, [.null, .null, .null, .null, .null, .null, .null, .null, .int 0]))] s.heap.size) (zw2 ty h0 u)) (va_A [(h0, .inr (2, [.null, .null, .null, .null, .null, .null, .null, .null, .int 0]))] s.heap.size)) [Value.ref h0].toArray s 24 8080 (va_A [(h0, .inr (2, [.null, .null, .null, .null, .null, .null, .null, .null, .int 0]))] s.heap.size)) 0 [some (.ref h0)] [] [(h0, .inr (2, [.null, .null, .null, .null, .null, .null, .null, .null, .int 0]))]
  have iX2 : ∀ w ∈ wsX20, w ∈ wsX2_init := by decide +kernel
  have f9 := C.1.2.2.2.2 (.fieldLink RX2 9 "TickFall$Links" "firsts" "[I") (by decide +kernel)
  have f15 := C.1.2.2.2.2 (.fieldLink RX2 15 "TickFall$Links" "seconds" "[I") (by decide +kernel)
  have f18 := C.1.2.2.2.2 (.fieldLink RX2 18 "TickFall$Links" "asymmetries" "[I") (by decide +kernel)
  have f21 := C.1.2.2.2.2 (.fieldLink RX2 21 "TickFall$Links" "cycles" "[I") (by decide +kernel)
  have f24 := C.1.2.2.2.2 (.fieldLink RX2 24 "TickFall$Links" "laidOn" "[I") (by decide +kernel)
  have f27 := C.1.2.2.2.2 (.fieldLink RX2 27 "TickFall$Links" "calibrations" "[I") (by decide +kernel)
  have f32 := C.1.2.2.2.2 (.fieldLink RX2 32 "TickFall$Links" "raw" "[[I") (by decide +kernel)
  have f35 := C.1.2.2.2.2 (.fieldLink RX2 35 "TickFall$Links" "offsets" "[[I") (by decide +kernel)
  have f38 := C.1.2.2.2.2 (.fieldLink RX2 38 "TickFall$Links" "count" "I") (by decide +kernel)
  have gi := C.1.2.2.2.2 (.arrayClass .int) (by decide +kernel)
  refine zk_aloadn (i := 0) (pc := 0) C dX2_init_0 rfl rfl ?_
  refine zk_objInit (pc := 1) C (C.1.2.2.2.2 (.methodLink RX2 3 objectInit) (by decide +kernel)) (C.1.2.2.2.2 (.instanceMethod objectInit) (by decide +kernel)) (C.1.2.2.2.2 _ hoi) (Nat.le_of_ble_eq_true rfl) (Nat.le_of_ble_eq_true rfl) dX2_init_1 ?_
  refine zk_aloadn (i := 0) (pc := 4) C dX2_init_4 rfl rfl ?_
  refine zk_bipush (v := 8) (pc := 5) C dX2_init_5 (by decide) ?_
  refine zk_newi (N := 8) (pc := 7) C gi rfl (by decide) (Nat.le_of_ble_eq_true rfl) (Nat.le_of_ble_eq_true rfl) dX2_init_7 (fun q7 => ?_)
  refine zk_eq (ws' := [(h0, .inr (2, [.null, .null, .null, .null, .null, .null, .null, .null, .int 0])), (q7, .inl (ty 0, 8, .inl (fun _ => 0)))]) rfl ?_
  refine zk_widen (c2 := 1) (s2 := 8) (Nat.le_of_ble_eq_true rfl) (Nat.le_of_ble_eq_true rfl) ?_
  refine zk_putF (ty1 := (.array .int)) (ws' := [(h0, .inr (2, [.ref q7, .null, .null, .null, .null, .null, .null, .null, .int 0])), (q7, .inl (ty 0, 8, .inl (fun _ => 0)))]) (q0 := 0) (ci := 2) (pc := 9) C 0 rfl rfl (by decide) (Nat.le_of_ble_eq_true rfl) rfl tyX2 tyX2_ok nmX2 rfl hin2 rfl (by decide +kernel) rfl rfl iX2 f9 rfl dX2_init_9 ?_
  refine zk_aloadn (i := 0) (pc := 12) C dX2_init_12 rfl rfl ?_
  refine zk_bipush (v := 8) (pc := 13) C dX2_init_13 (by decide) ?_
  refine zk_newi (N := 8) (pc := 15) C gi rfl (by decide) (Nat.le_of_ble_eq_true rfl) (Nat.le_of_ble_eq_true rfl) dX2_init_15 (fun q15 => ?_)
  refine zk_eq (ws' := [(h0, .inr (2, [.ref q7, .null, .null, .null, .null, .null, .null, .null, .int 0])), (q7, .inl (ty 0, 8, .inl (fun _ => 0))), (q15, .inl (ty 0, 8, .inl (fun _ => 0)))]) rfl ?_
  refine zk_widen (c2 := 2) (s2 := 16) (Nat.le_of_ble_eq_true rfl) (Nat.le_of_ble_eq_true rfl) ?_
  refine zk_putF (ty1 := (.array .int)) (ws' := [(h0, .inr (2, [.ref q7, .ref q15, .null, .null, .null, .null, .null, .null, .int 0])), (q7, .inl (ty 0, 8, .inl (fun _ => 0))), (q15, .inl (ty 0, 8, .inl (fun _ => 0)))]) (q0 := 0) (ci := 2) (pc := 17) C 1 rfl rfl (by decide) (Nat.le_of_ble_eq_true rfl) rfl tyX2 tyX2_ok nmX2 rfl hin2 rfl (by decide +kernel) rfl rfl iX2 f15 rfl dX2_init_17 ?_
  refine zk_aloadn (i := 0) (pc := 20) C dX2_init_20 rfl rfl ?_
  refine zk_bipush (v := 8) (pc := 21) C dX2_init_21 (by decide) ?_
  refine zk_newi (N := 8) (pc := 23) C gi rfl (by decide) (Nat.le_of_ble_eq_true rfl) (Nat.le_of_ble_eq_true rfl) dX2_init_23 (fun q23 => ?_)
  refine zk_eq (ws' := [(h0, .inr (2, [.ref q7, .ref q15, .null, .null, .null, .null, .null, .null, .int 0])), (q7, .inl (ty 0, 8, .inl (fun _ => 0))), (q15, .inl (ty 0, 8, .inl (fun _ => 0))), (q23, .inl (ty 0, 8, .inl (fun _ => 0)))]) rfl ?_
  refine zk_widen (c2 := 3) (s2 := 24) (Nat.le_of_ble_eq_true rfl) (Nat.le_of_ble_eq_true rfl) ?_
  refine zk_putF (ty1 := (.array .int)) (ws' := [(h0, .inr (2, [.ref q7, .ref q15, .ref q23, .null, .null, .null, .null, .null, .int 0])), (q7, .inl (ty 0, 8, .inl (fun _ => 0))), (q15, .inl (ty 0, 8, .inl (fun _ => 0))), (q23, .inl (ty 0, 8, .inl (fun _ => 0)))]) (q0 := 0) (ci := 2) (pc := 25) C 2 rfl rfl (by decide) (Nat.le_of_ble_eq_true rfl) rfl tyX2 tyX2_ok nmX2 rfl hin2 rfl (by decide +kernel) rfl rfl iX2 f18 rfl dX2_init_25 ?_
  refine zk_aloadn (i := 0) (pc := 28) C dX2_init_28 rfl rfl ?_
  refine zk_bipush (v := 8) (pc := 29) C dX2_init_29 (by decide) ?_
  refine zk_newi (N := 8) (pc := 31) C gi rfl (by decide) (Nat.le_of_ble_eq_true rfl) (Nat.le_of_ble_eq_true rfl) dX2_init_31 (fun q31 => ?_)
  refine zk_eq (ws' := [(h0, .inr (2, [.ref q7, .ref q15, .ref q23, .null, .null, .null, .null, .null, .int 0])), (q7, .inl (ty 0, 8, .inl (fun _ => 0))), (q15, .inl (ty 0, 8, .inl (fun _ => 0))), (q23, .inl (ty 0, 8, .inl (fun _ => 0))), (q31, .inl (ty 0, 8, .inl (fun _ => 0)))]) rfl ?_
  refine zk_widen (c2 := 4) (s2 := 32) (Nat.le_of_ble_eq_true rfl) (Nat.le_of_ble_eq_true rfl) ?_
  refine zk_putF (ty1 := (.array .int)) (ws' := [(h0, .inr (2, [.ref q7, .ref q15, .ref q23, .ref q31, .null, .null, .null, .null, .int 0])), (q7, .inl (ty 0, 8, .inl (fun _ => 0))), (q15, .inl (ty 0, 8, .inl (fun _ => 0))), (q23, .inl (ty 0, 8, .inl (fun _ => 0))), (q31, .inl (ty 0, 8, .inl (fun _ => 0)))]) (q0 := 0) (ci := 2) (pc := 33) C 3 rfl rfl (by decide) (Nat.le_of_ble_eq_true rfl) rfl tyX2 tyX2_ok nmX2 rfl hin2 rfl (by decide +kernel) rfl rfl iX2 f21 rfl dX2_init_33 ?_
  refine zk_aloadn (i := 0) (pc := 36) C dX2_init_36 rfl rfl ?_
  refine zk_bipush (v := 8) (pc := 37) C dX2_init_37 (by decide) ?_
  refine zk_newi (N := 8) (pc := 39) C gi rfl (by decide) (Nat.le_of_ble_eq_true rfl) (Nat.le_of_ble_eq_true rfl) dX2_init_39 (fun q39 => ?_)
  refine zk_eq (ws' := [(h0, .inr (2, [.ref q7, .ref q15, .ref q23, .ref q31, .null, .null, .null, .null, .int 0])), (q7, .inl (ty 0, 8, .inl (fun _ => 0))), (q15, .inl (ty 0, 8, .inl (fun _ => 0))), (q23, .inl (ty 0, 8, .inl (fun _ => 0))), (q31, .inl (ty 0, 8, .inl (fun _ => 0))), (q39, .inl (ty 0, 8, .inl (fun _ => 0)))]) rfl ?_
  refine zk_widen (c2 := 5) (s2 := 40) (Nat.le_of_ble_eq_true rfl) (Nat.le_of_ble_eq_true rfl) ?_
  refine zk_putF (ty1 := (.array .int)) (ws' := [(h0, .inr (2, [.ref q7, .ref q15, .ref q23, .ref q31, .ref q39, .null, .null, .null, .int 0])), (q7, .inl (ty 0, 8, .inl (fun _ => 0))), (q15, .inl (ty 0, 8, .inl (fun _ => 0))), (q23, .inl (ty 0, 8, .inl (fun _ => 0))), (q31, .inl (ty 0, 8, .inl (fun _ => 0))), (q39, .inl (ty 0, 8, .inl (fun _ => 0)))]) (q0 := 0) (ci := 2) (pc := 41) C 4 rfl rfl (by decide) (Nat.le_of_ble_eq_true rfl) rfl tyX2 tyX2_ok nmX2 rfl hin2 rfl (by decide +kernel) rfl rfl iX2 f24 rfl dX2_init_41 ?_
  refine zk_aloadn (i := 0) (pc := 44) C dX2_init_44 rfl rfl ?_
  refine zk_bipush (v := 8) (pc := 45) C dX2_init_45 (by decide) ?_
  refine zk_newi (N := 8) (pc := 47) C gi rfl (by decide) (Nat.le_of_ble_eq_true rfl) (Nat.le_of_ble_eq_true rfl) dX2_init_47 (fun q47 => ?_)
  refine zk_eq (ws' := [(h0, .inr (2, [.ref q7, .ref q15, .ref q23, .ref q31, .ref q39, .null, .null, .null, .int 0])), (q7, .inl (ty 0, 8, .inl (fun _ => 0))), (q15, .inl (ty 0, 8, .inl (fun _ => 0))), (q23, .inl (ty 0, 8, .inl (fun _ => 0))), (q31, .inl (ty 0, 8, .inl (fun _ => 0))), (q39, .inl (ty 0, 8, .inl (fun _ => 0))), (q47, .inl (ty 0, 8, .inl (fun _ => 0)))]) rfl ?_
  refine zk_widen (c2 := 6) (s2 := 48) (Nat.le_of_ble_eq_true rfl) (Nat.le_of_ble_eq_true rfl) ?_
  refine zk_putF (ty1 := (.array .int)) (ws' := [(h0, .inr (2, [.ref q7, .ref q15, .ref q23, .ref q31, .ref q39, .ref q47, .null, .null, .int 0])), (q7, .inl (ty 0, 8, .inl (fun _ => 0))), (q15, .inl (ty 0, 8, .inl (fun _ => 0))), (q23, .inl (ty 0, 8, .inl (fun _ => 0))), (q31, .inl (ty 0, 8, .inl (fun _ => 0))), (q39, .inl (ty 0, 8, .inl (fun _ => 0))), (q47, .inl (ty 0, 8, .inl (fun _ => 0)))]) (q0 := 0) (ci := 2) (pc := 49) C 5 rfl rfl (by decide) (Nat.le_of_ble_eq_true rfl) rfl tyX2 tyX2_ok nmX2 rfl hin2 rfl (by decide +kernel) rfl rfl iX2 f27 rfl dX2_init_49 ?_
  refine zk_aloadn (i := 0) (pc := 52) C dX2_init_52 rfl rfl ?_
  refine zk_bipush (v := 8) (pc := 53) C dX2_init_53 (by decide) ?_
  refine zk_sipush (v := 501) (pc := 55) C dX2_init_55 (by decide) ?_
  refine zk_mna (pc := 58) C rfl rfl (C.1.2.2.2.2 (.classLink RX2 30 "[[I") (by decide +kernel)) gi (Nat.le_of_ble_eq_true rfl) (Nat.le_of_ble_eq_true rfl) dX2_init_58 (fun q58 r58 => ?_)
  refine zk_eq (ws' := [(h0, .inr (2, [.ref q7, .ref q15, .ref q23, .ref q31, .ref q39, .ref q47, .null, .null, .int 0])), (q7, .inl (ty 0, 8, .inl (fun _ => 0))), (q15, .inl (ty 0, 8, .inl (fun _ => 0))), (q23, .inl (ty 0, 8, .inl (fun _ => 0))), (q31, .inl (ty 0, 8, .inl (fun _ => 0))), (q39, .inl (ty 0, 8, .inl (fun _ => 0))), (q47, .inl (ty 0, 8, .inl (fun _ => 0))), (q58, .inl (ty 3, 8, .inr (.inr (.inr (.inr (fun i => if i < 8 then some (r58 i) else none)))))), (r58 0, .inl (ty 0, 501, .inl (fun _ => 0))), (r58 1, .inl (ty 0, 501, .inl (fun _ => 0))), (r58 2, .inl (ty 0, 501, .inl (fun _ => 0))), (r58 3, .inl (ty 0, 501, .inl (fun _ => 0))), (r58 4, .inl (ty 0, 501, .inl (fun _ => 0))), (r58 5, .inl (ty 0, 501, .inl (fun _ => 0))), (r58 6, .inl (ty 0, 501, .inl (fun _ => 0))), (r58 7, .inl (ty 0, 501, .inl (fun _ => 0)))]) rfl ?_
  refine zk_widen (c2 := 15) (s2 := 4064) (Nat.le_of_ble_eq_true rfl) (Nat.le_of_ble_eq_true rfl) ?_
  refine zk_putF (ty1 := (.array (.array .int))) (ws' := [(h0, .inr (2, [.ref q7, .ref q15, .ref q23, .ref q31, .ref q39, .ref q47, .ref q58, .null, .int 0])), (q7, .inl (ty 0, 8, .inl (fun _ => 0))), (q15, .inl (ty 0, 8, .inl (fun _ => 0))), (q23, .inl (ty 0, 8, .inl (fun _ => 0))), (q31, .inl (ty 0, 8, .inl (fun _ => 0))), (q39, .inl (ty 0, 8, .inl (fun _ => 0))), (q47, .inl (ty 0, 8, .inl (fun _ => 0))), (q58, .inl (ty 3, 8, .inr (.inr (.inr (.inr (fun i => if i < 8 then some (r58 i) else none)))))), (r58 0, .inl (ty 0, 501, .inl (fun _ => 0))), (r58 1, .inl (ty 0, 501, .inl (fun _ => 0))), (r58 2, .inl (ty 0, 501, .inl (fun _ => 0))), (r58 3, .inl (ty 0, 501, .inl (fun _ => 0))), (r58 4, .inl (ty 0, 501, .inl (fun _ => 0))), (r58 5, .inl (ty 0, 501, .inl (fun _ => 0))), (r58 6, .inl (ty 0, 501, .inl (fun _ => 0))), (r58 7, .inl (ty 0, 501, .inl (fun _ => 0)))]) (q0 := 0) (ci := 2) (pc := 62) C 6 rfl rfl (by decide) (Nat.le_of_ble_eq_true rfl) rfl tyX2 tyX2_ok nmX2 rfl hin2 rfl (by decide +kernel) rfl rfl iX2 f32 rfl dX2_init_62 ?_
  refine zk_aloadn (i := 0) (pc := 65) C dX2_init_65 rfl rfl ?_
  refine zk_bipush (v := 8) (pc := 66) C dX2_init_66 (by decide) ?_
  refine zk_sipush (v := 501) (pc := 68) C dX2_init_68 (by decide) ?_
  refine zk_mna (pc := 71) C rfl rfl (C.1.2.2.2.2 (.classLink RX2 30 "[[I") (by decide +kernel)) gi (Nat.le_of_ble_eq_true rfl) (Nat.le_of_ble_eq_true rfl) dX2_init_71 (fun q71 r71 => ?_)
  refine zk_eq (ws' := [(h0, .inr (2, [.ref q7, .ref q15, .ref q23, .ref q31, .ref q39, .ref q47, .ref q58, .null, .int 0])), (q7, .inl (ty 0, 8, .inl (fun _ => 0))), (q15, .inl (ty 0, 8, .inl (fun _ => 0))), (q23, .inl (ty 0, 8, .inl (fun _ => 0))), (q31, .inl (ty 0, 8, .inl (fun _ => 0))), (q39, .inl (ty 0, 8, .inl (fun _ => 0))), (q47, .inl (ty 0, 8, .inl (fun _ => 0))), (q58, .inl (ty 3, 8, .inr (.inr (.inr (.inr (fun i => if i < 8 then some (r58 i) else none)))))), (r58 0, .inl (ty 0, 501, .inl (fun _ => 0))), (r58 1, .inl (ty 0, 501, .inl (fun _ => 0))), (r58 2, .inl (ty 0, 501, .inl (fun _ => 0))), (r58 3, .inl (ty 0, 501, .inl (fun _ => 0))), (r58 4, .inl (ty 0, 501, .inl (fun _ => 0))), (r58 5, .inl (ty 0, 501, .inl (fun _ => 0))), (r58 6, .inl (ty 0, 501, .inl (fun _ => 0))), (r58 7, .inl (ty 0, 501, .inl (fun _ => 0))), (q71, .inl (ty 3, 8, .inr (.inr (.inr (.inr (fun i => if i < 8 then some (r71 i) else none)))))), (r71 0, .inl (ty 0, 501, .inl (fun _ => 0))), (r71 1, .inl (ty 0, 501, .inl (fun _ => 0))), (r71 2, .inl (ty 0, 501, .inl (fun _ => 0))), (r71 3, .inl (ty 0, 501, .inl (fun _ => 0))), (r71 4, .inl (ty 0, 501, .inl (fun _ => 0))), (r71 5, .inl (ty 0, 501, .inl (fun _ => 0))), (r71 6, .inl (ty 0, 501, .inl (fun _ => 0))), (r71 7, .inl (ty 0, 501, .inl (fun _ => 0)))]) rfl ?_
  refine zk_widen (c2 := 24) (s2 := 8080) (Nat.le_of_ble_eq_true rfl) (Nat.le_of_ble_eq_true rfl) ?_
  refine zk_putF (ty1 := (.array (.array .int))) (ws' := [(h0, .inr (2, [.ref q7, .ref q15, .ref q23, .ref q31, .ref q39, .ref q47, .ref q58, .ref q71, .int 0])), (q7, .inl (ty 0, 8, .inl (fun _ => 0))), (q15, .inl (ty 0, 8, .inl (fun _ => 0))), (q23, .inl (ty 0, 8, .inl (fun _ => 0))), (q31, .inl (ty 0, 8, .inl (fun _ => 0))), (q39, .inl (ty 0, 8, .inl (fun _ => 0))), (q47, .inl (ty 0, 8, .inl (fun _ => 0))), (q58, .inl (ty 3, 8, .inr (.inr (.inr (.inr (fun i => if i < 8 then some (r58 i) else none)))))), (r58 0, .inl (ty 0, 501, .inl (fun _ => 0))), (r58 1, .inl (ty 0, 501, .inl (fun _ => 0))), (r58 2, .inl (ty 0, 501, .inl (fun _ => 0))), (r58 3, .inl (ty 0, 501, .inl (fun _ => 0))), (r58 4, .inl (ty 0, 501, .inl (fun _ => 0))), (r58 5, .inl (ty 0, 501, .inl (fun _ => 0))), (r58 6, .inl (ty 0, 501, .inl (fun _ => 0))), (r58 7, .inl (ty 0, 501, .inl (fun _ => 0))), (q71, .inl (ty 3, 8, .inr (.inr (.inr (.inr (fun i => if i < 8 then some (r71 i) else none)))))), (r71 0, .inl (ty 0, 501, .inl (fun _ => 0))), (r71 1, .inl (ty 0, 501, .inl (fun _ => 0))), (r71 2, .inl (ty 0, 501, .inl (fun _ => 0))), (r71 3, .inl (ty 0, 501, .inl (fun _ => 0))), (r71 4, .inl (ty 0, 501, .inl (fun _ => 0))), (r71 5, .inl (ty 0, 501, .inl (fun _ => 0))), (r71 6, .inl (ty 0, 501, .inl (fun _ => 0))), (r71 7, .inl (ty 0, 501, .inl (fun _ => 0)))]) (q0 := 0) (ci := 2) (pc := 75) C 7 rfl rfl (by decide) (Nat.le_of_ble_eq_true rfl) rfl tyX2 tyX2_ok nmX2 rfl hin2 rfl (by decide +kernel) rfl rfl iX2 f35 rfl dX2_init_75 ?_
  refine zk_aloadn (i := 0) (pc := 78) C dX2_init_78 rfl rfl ?_
  refine zk_iconst (v := 0) (pc := 79) C dX2_init_79 (by decide) ?_
  refine zk_put (ty1 := .int) (ws' := [(h0, .inr (2, [.ref q7, .ref q15, .ref q23, .ref q31, .ref q39, .ref q47, .ref q58, .ref q71, .int 0])), (q7, .inl (ty 0, 8, .inl (fun _ => 0))), (q15, .inl (ty 0, 8, .inl (fun _ => 0))), (q23, .inl (ty 0, 8, .inl (fun _ => 0))), (q31, .inl (ty 0, 8, .inl (fun _ => 0))), (q39, .inl (ty 0, 8, .inl (fun _ => 0))), (q47, .inl (ty 0, 8, .inl (fun _ => 0))), (q58, .inl (ty 3, 8, .inr (.inr (.inr (.inr (fun i => if i < 8 then some (r58 i) else none)))))), (r58 0, .inl (ty 0, 501, .inl (fun _ => 0))), (r58 1, .inl (ty 0, 501, .inl (fun _ => 0))), (r58 2, .inl (ty 0, 501, .inl (fun _ => 0))), (r58 3, .inl (ty 0, 501, .inl (fun _ => 0))), (r58 4, .inl (ty 0, 501, .inl (fun _ => 0))), (r58 5, .inl (ty 0, 501, .inl (fun _ => 0))), (r58 6, .inl (ty 0, 501, .inl (fun _ => 0))), (r58 7, .inl (ty 0, 501, .inl (fun _ => 0))), (q71, .inl (ty 3, 8, .inr (.inr (.inr (.inr (fun i => if i < 8 then some (r71 i) else none)))))), (r71 0, .inl (ty 0, 501, .inl (fun _ => 0))), (r71 1, .inl (ty 0, 501, .inl (fun _ => 0))), (r71 2, .inl (ty 0, 501, .inl (fun _ => 0))), (r71 3, .inl (ty 0, 501, .inl (fun _ => 0))), (r71 4, .inl (ty 0, 501, .inl (fun _ => 0))), (r71 5, .inl (ty 0, 501, .inl (fun _ => 0))), (r71 6, .inl (ty 0, 501, .inl (fun _ => 0))), (r71 7, .inl (ty 0, 501, .inl (fun _ => 0)))]) (q0 := 0) (ci := 2) (pc := 80) C 8 rfl rfl (by decide) (Nat.le_of_ble_eq_true rfl) rfl tyX2 tyX2_ok nmX2 rfl (by decide +kernel) rfl rfl iX2 f38 rfl dX2_init_80 ?_
  exact zk_vret (pc := 83) C hr hlk (fun a i => match a with | 0 => [q7, q15, q23, q31, q39, q47, q58, q71].getD i 0 | 1 => r58 i | _ => r71 i) rfl (Nat.le_of_ble_eq_true rfl) (Nat.le_of_ble_eq_true rfl) dX2_init_83
/-- the cells of a new X3 -/
def zw3 (ty : Nat → ClassId) (h0 : Nat) (u : zkS) : va_W := [(h0, .inr (3, [.ref (u 0 0), .ref (u 0 1), .ref (u 0 2), .ref (u 0 3), .ref (u 0 4), .ref (u 0 5), .int 0, .ref (u 0 6), .ref (u 0 7), .int 0, .int 0, .int (-1)])), (u 0 0, .inl (ty 0, 56, .inl (fun _ => 0))), (u 0 1, .inl (ty 0, 56, .inl (fun _ => 0))), (u 0 2, .inl (ty 0, 56, .inl (fun _ => 0))), (u 0 3, .inl (ty 0, 56, .inl (fun _ => 0))), (u 0 4, .inl (ty 0, 56, .inl (fun _ => 0))), (u 0 5, .inl (ty 0, 56, .inl (fun _ => 0))), (u 0 6, .inl (ty 1, 8, .inl (fun _ => 0))), (u 0 7, .inl (ty 0, 8, .inl (fun _ => 0)))]
set_option maxHeartbeats 4000000 in
set_option maxRecDepth 100000 in
theorem c_X3_init (l : Launch) (D : va_G) (ty : Nat → ClassId) (sa : Nat → Nat) (h0 : Nat) : zkM l D ty sa yX3_init wsX3_init 1 24 8 352 h0 [(h0, .inr (3, [.null, .null, .null, .null, .null, .null, .int 0, .null, .null, .int 0, .int 0, .int 0]))] (zw3 ty h0) := by
  refine zk_of (cc := cX3_init) (nL := 1) (own := RX3) zfp_X3_init rfl (by decide) rfl rfl ?_
  intro p e s m below meth c C hr hlk hin2
  have hoi : Cond.code objectInit ⟨#[0xb1]⟩ 1 none ∈ wsX3_init := List.mem_of_getElem? (i := 3) rfl
  show zkW p l e (zR 1 24 8 352) s m [Value.ref h0].toArray below meth c D (va_A [(h0, .inr (3, [.null, .null, .null, .null, .null, .null, .int 0, .null, .null, .int 0, .int 0, .int 0]))] s.heap.size) 1 0 0 (MQ below (va_Qv (S := zkS) (fun _ => True) (fun u t => va_P D vwCl (zw3 ty h0 u) t.heap ∧ va_D (va_A [(h0, .inr (3, [.null, .null, .null, .null, .null, .null, .int 0, .null, .null, .int 0, .int 0, .int 0]))] s.heap.size) (zw3 ty h0 u)) (va_A [(h0, .inr (3, [.null, .null, .null, .null, .null, .null, .int 0, .null, .null, .int 0, .int 0, .int 0]))] s.heap.size)) [Value.ref h0].toArray s 8 352 (va_A [(h0, .inr (3, [.null, .null, .null, .null, .null, .null, .int 0, .null, .null, .int 0, .int 0, .int 0]))] s.heap.size)) 0 [some (.ref h0)] [] [(h0, .inr (3, [.null, .null, .null, .null, .null, .null, .int 0, .null, .null, .int 0, .int 0, .int 0]))]
  have iX3 : ∀ w ∈ wsX30, w ∈ wsX3_init := by decide +kernel
  have f9 := C.1.2.2.2.2 (.fieldLink RX3 9 "TickFall$Rings" "lowest" "[I") (by decide +kernel)
  have f15 := C.1.2.2.2.2 (.fieldLink RX3 15 "TickFall$Rings" "between" "[I") (by decide +kernel)
  have f18 := C.1.2.2.2.2 (.fieldLink RX3 18 "TickFall$Rings" "highest" "[I") (by decide +kernel)
  have f21 := C.1.2.2.2.2 (.fieldLink RX3 21 "TickFall$Rings" "betweenSigns" "[I") (by decide +kernel)
  have f24 := C.1.2.2.2.2 (.fieldLink RX3 24 "TickFall$Rings" "highestSigns" "[I") (by decide +kernel)
  have f27 := C.1.2.2.2.2 (.fieldLink RX3 27 "TickFall$Rings" "sums" "[I") (by decide +kernel)
  have f30 := C.1.2.2.2.2 (.fieldLink RX3 30 "TickFall$Rings" "count" "I") (by decide +kernel)
  have f34 := C.1.2.2.2.2 (.fieldLink RX3 34 "TickFall$Rings" "isInRing" "[Z") (by decide +kernel)
  have f38 := C.1.2.2.2.2 (.fieldLink RX3 38 "TickFall$Rings" "taken" "[I") (by decide +kernel)
  have f41 := C.1.2.2.2.2 (.fieldLink RX3 41 "TickFall$Rings" "doubt" "I") (by decide +kernel)
  have f44 := C.1.2.2.2.2 (.fieldLink RX3 44 "TickFall$Rings" "fewest" "I") (by decide +kernel)
  have f47 := C.1.2.2.2.2 (.fieldLink RX3 47 "TickFall$Rings" "found" "I") (by decide +kernel)
  have gi := C.1.2.2.2.2 (.arrayClass .int) (by decide +kernel)
  have gz := C.1.2.2.2.2 (.arrayClass .boolean) (by decide +kernel)
  refine zk_aloadn (i := 0) (pc := 0) C dX3_init_0 rfl rfl ?_
  refine zk_objInit (pc := 1) C (C.1.2.2.2.2 (.methodLink RX3 3 objectInit) (by decide +kernel)) (C.1.2.2.2.2 (.instanceMethod objectInit) (by decide +kernel)) (C.1.2.2.2.2 _ hoi) (Nat.le_of_ble_eq_true rfl) (Nat.le_of_ble_eq_true rfl) dX3_init_1 ?_
  refine zk_aloadn (i := 0) (pc := 4) C dX3_init_4 rfl rfl ?_
  refine zk_bipush (v := 56) (pc := 5) C dX3_init_5 (by decide) ?_
  refine zk_newi (N := 56) (pc := 7) C gi rfl (by decide) (Nat.le_of_ble_eq_true rfl) (Nat.le_of_ble_eq_true rfl) dX3_init_7 (fun q7 => ?_)
  refine zk_eq (ws' := [(h0, .inr (3, [.null, .null, .null, .null, .null, .null, .int 0, .null, .null, .int 0, .int 0, .int 0])), (q7, .inl (ty 0, 56, .inl (fun _ => 0)))]) rfl ?_
  refine zk_widen (c2 := 1) (s2 := 56) (Nat.le_of_ble_eq_true rfl) (Nat.le_of_ble_eq_true rfl) ?_
  refine zk_putF (ty1 := (.array .int)) (ws' := [(h0, .inr (3, [.ref q7, .null, .null, .null, .null, .null, .int 0, .null, .null, .int 0, .int 0, .int 0])), (q7, .inl (ty 0, 56, .inl (fun _ => 0)))]) (q0 := 0) (ci := 3) (pc := 9) C 0 rfl rfl (by decide) (Nat.le_of_ble_eq_true rfl) rfl tyX3 tyX3_ok nmX3 rfl hin2 rfl (by decide +kernel) rfl rfl iX3 f9 rfl dX3_init_9 ?_
  refine zk_aloadn (i := 0) (pc := 12) C dX3_init_12 rfl rfl ?_
  refine zk_bipush (v := 56) (pc := 13) C dX3_init_13 (by decide) ?_
  refine zk_newi (N := 56) (pc := 15) C gi rfl (by decide) (Nat.le_of_ble_eq_true rfl) (Nat.le_of_ble_eq_true rfl) dX3_init_15 (fun q15 => ?_)
  refine zk_eq (ws' := [(h0, .inr (3, [.ref q7, .null, .null, .null, .null, .null, .int 0, .null, .null, .int 0, .int 0, .int 0])), (q7, .inl (ty 0, 56, .inl (fun _ => 0))), (q15, .inl (ty 0, 56, .inl (fun _ => 0)))]) rfl ?_
  refine zk_widen (c2 := 2) (s2 := 112) (Nat.le_of_ble_eq_true rfl) (Nat.le_of_ble_eq_true rfl) ?_
  refine zk_putF (ty1 := (.array .int)) (ws' := [(h0, .inr (3, [.ref q7, .ref q15, .null, .null, .null, .null, .int 0, .null, .null, .int 0, .int 0, .int 0])), (q7, .inl (ty 0, 56, .inl (fun _ => 0))), (q15, .inl (ty 0, 56, .inl (fun _ => 0)))]) (q0 := 0) (ci := 3) (pc := 17) C 1 rfl rfl (by decide) (Nat.le_of_ble_eq_true rfl) rfl tyX3 tyX3_ok nmX3 rfl hin2 rfl (by decide +kernel) rfl rfl iX3 f15 rfl dX3_init_17 ?_
  refine zk_aloadn (i := 0) (pc := 20) C dX3_init_20 rfl rfl ?_
  refine zk_bipush (v := 56) (pc := 21) C dX3_init_21 (by decide) ?_
  refine zk_newi (N := 56) (pc := 23) C gi rfl (by decide) (Nat.le_of_ble_eq_true rfl) (Nat.le_of_ble_eq_true rfl) dX3_init_23 (fun q23 => ?_)
  refine zk_eq (ws' := [(h0, .inr (3, [.ref q7, .ref q15, .null, .null, .null, .null, .int 0, .null, .null, .int 0, .int 0, .int 0])), (q7, .inl (ty 0, 56, .inl (fun _ => 0))), (q15, .inl (ty 0, 56, .inl (fun _ => 0))), (q23, .inl (ty 0, 56, .inl (fun _ => 0)))]) rfl ?_
  refine zk_widen (c2 := 3) (s2 := 168) (Nat.le_of_ble_eq_true rfl) (Nat.le_of_ble_eq_true rfl) ?_
  refine zk_putF (ty1 := (.array .int)) (ws' := [(h0, .inr (3, [.ref q7, .ref q15, .ref q23, .null, .null, .null, .int 0, .null, .null, .int 0, .int 0, .int 0])), (q7, .inl (ty 0, 56, .inl (fun _ => 0))), (q15, .inl (ty 0, 56, .inl (fun _ => 0))), (q23, .inl (ty 0, 56, .inl (fun _ => 0)))]) (q0 := 0) (ci := 3) (pc := 25) C 2 rfl rfl (by decide) (Nat.le_of_ble_eq_true rfl) rfl tyX3 tyX3_ok nmX3 rfl hin2 rfl (by decide +kernel) rfl rfl iX3 f18 rfl dX3_init_25 ?_
  refine zk_aloadn (i := 0) (pc := 28) C dX3_init_28 rfl rfl ?_
  refine zk_bipush (v := 56) (pc := 29) C dX3_init_29 (by decide) ?_
  refine zk_newi (N := 56) (pc := 31) C gi rfl (by decide) (Nat.le_of_ble_eq_true rfl) (Nat.le_of_ble_eq_true rfl) dX3_init_31 (fun q31 => ?_)
  refine zk_eq (ws' := [(h0, .inr (3, [.ref q7, .ref q15, .ref q23, .null, .null, .null, .int 0, .null, .null, .int 0, .int 0, .int 0])), (q7, .inl (ty 0, 56, .inl (fun _ => 0))), (q15, .inl (ty 0, 56, .inl (fun _ => 0))), (q23, .inl (ty 0, 56, .inl (fun _ => 0))), (q31, .inl (ty 0, 56, .inl (fun _ => 0)))]) rfl ?_
  refine zk_widen (c2 := 4) (s2 := 224) (Nat.le_of_ble_eq_true rfl) (Nat.le_of_ble_eq_true rfl) ?_
  refine zk_putF (ty1 := (.array .int)) (ws' := [(h0, .inr (3, [.ref q7, .ref q15, .ref q23, .ref q31, .null, .null, .int 0, .null, .null, .int 0, .int 0, .int 0])), (q7, .inl (ty 0, 56, .inl (fun _ => 0))), (q15, .inl (ty 0, 56, .inl (fun _ => 0))), (q23, .inl (ty 0, 56, .inl (fun _ => 0))), (q31, .inl (ty 0, 56, .inl (fun _ => 0)))]) (q0 := 0) (ci := 3) (pc := 33) C 3 rfl rfl (by decide) (Nat.le_of_ble_eq_true rfl) rfl tyX3 tyX3_ok nmX3 rfl hin2 rfl (by decide +kernel) rfl rfl iX3 f21 rfl dX3_init_33 ?_
  refine zk_aloadn (i := 0) (pc := 36) C dX3_init_36 rfl rfl ?_
  refine zk_bipush (v := 56) (pc := 37) C dX3_init_37 (by decide) ?_
  refine zk_newi (N := 56) (pc := 39) C gi rfl (by decide) (Nat.le_of_ble_eq_true rfl) (Nat.le_of_ble_eq_true rfl) dX3_init_39 (fun q39 => ?_)
  refine zk_eq (ws' := [(h0, .inr (3, [.ref q7, .ref q15, .ref q23, .ref q31, .null, .null, .int 0, .null, .null, .int 0, .int 0, .int 0])), (q7, .inl (ty 0, 56, .inl (fun _ => 0))), (q15, .inl (ty 0, 56, .inl (fun _ => 0))), (q23, .inl (ty 0, 56, .inl (fun _ => 0))), (q31, .inl (ty 0, 56, .inl (fun _ => 0))), (q39, .inl (ty 0, 56, .inl (fun _ => 0)))]) rfl ?_
  refine zk_widen (c2 := 5) (s2 := 280) (Nat.le_of_ble_eq_true rfl) (Nat.le_of_ble_eq_true rfl) ?_
  refine zk_putF (ty1 := (.array .int)) (ws' := [(h0, .inr (3, [.ref q7, .ref q15, .ref q23, .ref q31, .ref q39, .null, .int 0, .null, .null, .int 0, .int 0, .int 0])), (q7, .inl (ty 0, 56, .inl (fun _ => 0))), (q15, .inl (ty 0, 56, .inl (fun _ => 0))), (q23, .inl (ty 0, 56, .inl (fun _ => 0))), (q31, .inl (ty 0, 56, .inl (fun _ => 0))), (q39, .inl (ty 0, 56, .inl (fun _ => 0)))]) (q0 := 0) (ci := 3) (pc := 41) C 4 rfl rfl (by decide) (Nat.le_of_ble_eq_true rfl) rfl tyX3 tyX3_ok nmX3 rfl hin2 rfl (by decide +kernel) rfl rfl iX3 f24 rfl dX3_init_41 ?_
  refine zk_aloadn (i := 0) (pc := 44) C dX3_init_44 rfl rfl ?_
  refine zk_bipush (v := 56) (pc := 45) C dX3_init_45 (by decide) ?_
  refine zk_newi (N := 56) (pc := 47) C gi rfl (by decide) (Nat.le_of_ble_eq_true rfl) (Nat.le_of_ble_eq_true rfl) dX3_init_47 (fun q47 => ?_)
  refine zk_eq (ws' := [(h0, .inr (3, [.ref q7, .ref q15, .ref q23, .ref q31, .ref q39, .null, .int 0, .null, .null, .int 0, .int 0, .int 0])), (q7, .inl (ty 0, 56, .inl (fun _ => 0))), (q15, .inl (ty 0, 56, .inl (fun _ => 0))), (q23, .inl (ty 0, 56, .inl (fun _ => 0))), (q31, .inl (ty 0, 56, .inl (fun _ => 0))), (q39, .inl (ty 0, 56, .inl (fun _ => 0))), (q47, .inl (ty 0, 56, .inl (fun _ => 0)))]) rfl ?_
  refine zk_widen (c2 := 6) (s2 := 336) (Nat.le_of_ble_eq_true rfl) (Nat.le_of_ble_eq_true rfl) ?_
  refine zk_putF (ty1 := (.array .int)) (ws' := [(h0, .inr (3, [.ref q7, .ref q15, .ref q23, .ref q31, .ref q39, .ref q47, .int 0, .null, .null, .int 0, .int 0, .int 0])), (q7, .inl (ty 0, 56, .inl (fun _ => 0))), (q15, .inl (ty 0, 56, .inl (fun _ => 0))), (q23, .inl (ty 0, 56, .inl (fun _ => 0))), (q31, .inl (ty 0, 56, .inl (fun _ => 0))), (q39, .inl (ty 0, 56, .inl (fun _ => 0))), (q47, .inl (ty 0, 56, .inl (fun _ => 0)))]) (q0 := 0) (ci := 3) (pc := 49) C 5 rfl rfl (by decide) (Nat.le_of_ble_eq_true rfl) rfl tyX3 tyX3_ok nmX3 rfl hin2 rfl (by decide +kernel) rfl rfl iX3 f27 rfl dX3_init_49 ?_
  refine zk_aloadn (i := 0) (pc := 52) C dX3_init_52 rfl rfl ?_
  refine zk_iconst (v := 0) (pc := 53) C dX3_init_53 (by decide) ?_
  refine zk_put (ty1 := .int) (ws' := [(h0, .inr (3, [.ref q7, .ref q15, .ref q23, .ref q31, .ref q39, .ref q47, .int 0, .null, .null, .int 0, .int 0, .int 0])), (q7, .inl (ty 0, 56, .inl (fun _ => 0))), (q15, .inl (ty 0, 56, .inl (fun _ => 0))), (q23, .inl (ty 0, 56, .inl (fun _ => 0))), (q31, .inl (ty 0, 56, .inl (fun _ => 0))), (q39, .inl (ty 0, 56, .inl (fun _ => 0))), (q47, .inl (ty 0, 56, .inl (fun _ => 0)))]) (q0 := 0) (ci := 3) (pc := 54) C 6 rfl rfl (by decide) (Nat.le_of_ble_eq_true rfl) rfl tyX3 tyX3_ok nmX3 rfl (by decide +kernel) rfl rfl iX3 f30 rfl dX3_init_54 ?_
  refine zk_aloadn (i := 0) (pc := 57) C dX3_init_57 rfl rfl ?_
  refine zk_bipush (v := 8) (pc := 58) C dX3_init_58 (by decide) ?_
  refine zk_newz (N := 8) (pc := 60) C gz rfl (by decide) (Nat.le_of_ble_eq_true rfl) (Nat.le_of_ble_eq_true rfl) dX3_init_60 (fun q60 => ?_)
  refine zk_eq (ws' := [(h0, .inr (3, [.ref q7, .ref q15, .ref q23, .ref q31, .ref q39, .ref q47, .int 0, .null, .null, .int 0, .int 0, .int 0])), (q7, .inl (ty 0, 56, .inl (fun _ => 0))), (q15, .inl (ty 0, 56, .inl (fun _ => 0))), (q23, .inl (ty 0, 56, .inl (fun _ => 0))), (q31, .inl (ty 0, 56, .inl (fun _ => 0))), (q39, .inl (ty 0, 56, .inl (fun _ => 0))), (q47, .inl (ty 0, 56, .inl (fun _ => 0))), (q60, .inl (ty 1, 8, .inl (fun _ => 0)))]) rfl ?_
  refine zk_widen (c2 := 7) (s2 := 344) (Nat.le_of_ble_eq_true rfl) (Nat.le_of_ble_eq_true rfl) ?_
  refine zk_putF (ty1 := (.array .boolean)) (ws' := [(h0, .inr (3, [.ref q7, .ref q15, .ref q23, .ref q31, .ref q39, .ref q47, .int 0, .ref q60, .null, .int 0, .int 0, .int 0])), (q7, .inl (ty 0, 56, .inl (fun _ => 0))), (q15, .inl (ty 0, 56, .inl (fun _ => 0))), (q23, .inl (ty 0, 56, .inl (fun _ => 0))), (q31, .inl (ty 0, 56, .inl (fun _ => 0))), (q39, .inl (ty 0, 56, .inl (fun _ => 0))), (q47, .inl (ty 0, 56, .inl (fun _ => 0))), (q60, .inl (ty 1, 8, .inl (fun _ => 0)))]) (q0 := 0) (ci := 3) (pc := 62) C 7 rfl rfl (by decide) (Nat.le_of_ble_eq_true rfl) rfl tyX3 tyX3_ok nmX3 rfl hin2 rfl (by decide +kernel) rfl rfl iX3 f34 rfl dX3_init_62 ?_
  refine zk_aloadn (i := 0) (pc := 65) C dX3_init_65 rfl rfl ?_
  refine zk_bipush (v := 8) (pc := 66) C dX3_init_66 (by decide) ?_
  refine zk_newi (N := 8) (pc := 68) C gi rfl (by decide) (Nat.le_of_ble_eq_true rfl) (Nat.le_of_ble_eq_true rfl) dX3_init_68 (fun q68 => ?_)
  refine zk_eq (ws' := [(h0, .inr (3, [.ref q7, .ref q15, .ref q23, .ref q31, .ref q39, .ref q47, .int 0, .ref q60, .null, .int 0, .int 0, .int 0])), (q7, .inl (ty 0, 56, .inl (fun _ => 0))), (q15, .inl (ty 0, 56, .inl (fun _ => 0))), (q23, .inl (ty 0, 56, .inl (fun _ => 0))), (q31, .inl (ty 0, 56, .inl (fun _ => 0))), (q39, .inl (ty 0, 56, .inl (fun _ => 0))), (q47, .inl (ty 0, 56, .inl (fun _ => 0))), (q60, .inl (ty 1, 8, .inl (fun _ => 0))), (q68, .inl (ty 0, 8, .inl (fun _ => 0)))]) rfl ?_
  refine zk_widen (c2 := 8) (s2 := 352) (Nat.le_of_ble_eq_true rfl) (Nat.le_of_ble_eq_true rfl) ?_
  refine zk_putF (ty1 := (.array .int)) (ws' := [(h0, .inr (3, [.ref q7, .ref q15, .ref q23, .ref q31, .ref q39, .ref q47, .int 0, .ref q60, .ref q68, .int 0, .int 0, .int 0])), (q7, .inl (ty 0, 56, .inl (fun _ => 0))), (q15, .inl (ty 0, 56, .inl (fun _ => 0))), (q23, .inl (ty 0, 56, .inl (fun _ => 0))), (q31, .inl (ty 0, 56, .inl (fun _ => 0))), (q39, .inl (ty 0, 56, .inl (fun _ => 0))), (q47, .inl (ty 0, 56, .inl (fun _ => 0))), (q60, .inl (ty 1, 8, .inl (fun _ => 0))), (q68, .inl (ty 0, 8, .inl (fun _ => 0)))]) (q0 := 0) (ci := 3) (pc := 70) C 8 rfl rfl (by decide) (Nat.le_of_ble_eq_true rfl) rfl tyX3 tyX3_ok nmX3 rfl hin2 rfl (by decide +kernel) rfl rfl iX3 f38 rfl dX3_init_70 ?_
  refine zk_aloadn (i := 0) (pc := 73) C dX3_init_73 rfl rfl ?_
  refine zk_iconst (v := 0) (pc := 74) C dX3_init_74 (by decide) ?_
  refine zk_put (ty1 := .int) (ws' := [(h0, .inr (3, [.ref q7, .ref q15, .ref q23, .ref q31, .ref q39, .ref q47, .int 0, .ref q60, .ref q68, .int 0, .int 0, .int 0])), (q7, .inl (ty 0, 56, .inl (fun _ => 0))), (q15, .inl (ty 0, 56, .inl (fun _ => 0))), (q23, .inl (ty 0, 56, .inl (fun _ => 0))), (q31, .inl (ty 0, 56, .inl (fun _ => 0))), (q39, .inl (ty 0, 56, .inl (fun _ => 0))), (q47, .inl (ty 0, 56, .inl (fun _ => 0))), (q60, .inl (ty 1, 8, .inl (fun _ => 0))), (q68, .inl (ty 0, 8, .inl (fun _ => 0)))]) (q0 := 0) (ci := 3) (pc := 75) C 9 rfl rfl (by decide) (Nat.le_of_ble_eq_true rfl) rfl tyX3 tyX3_ok nmX3 rfl (by decide +kernel) rfl rfl iX3 f41 rfl dX3_init_75 ?_
  refine zk_aloadn (i := 0) (pc := 78) C dX3_init_78 rfl rfl ?_
  refine zk_iconst (v := 0) (pc := 79) C dX3_init_79 (by decide) ?_
  refine zk_put (ty1 := .int) (ws' := [(h0, .inr (3, [.ref q7, .ref q15, .ref q23, .ref q31, .ref q39, .ref q47, .int 0, .ref q60, .ref q68, .int 0, .int 0, .int 0])), (q7, .inl (ty 0, 56, .inl (fun _ => 0))), (q15, .inl (ty 0, 56, .inl (fun _ => 0))), (q23, .inl (ty 0, 56, .inl (fun _ => 0))), (q31, .inl (ty 0, 56, .inl (fun _ => 0))), (q39, .inl (ty 0, 56, .inl (fun _ => 0))), (q47, .inl (ty 0, 56, .inl (fun _ => 0))), (q60, .inl (ty 1, 8, .inl (fun _ => 0))), (q68, .inl (ty 0, 8, .inl (fun _ => 0)))]) (q0 := 0) (ci := 3) (pc := 80) C 10 rfl rfl (by decide) (Nat.le_of_ble_eq_true rfl) rfl tyX3 tyX3_ok nmX3 rfl (by decide +kernel) rfl rfl iX3 f44 rfl dX3_init_80 ?_
  refine zk_aloadn (i := 0) (pc := 83) C dX3_init_83 rfl rfl ?_
  refine zk_iconst (v := -1) (pc := 84) C dX3_init_84 (by decide) ?_
  refine zk_put (ty1 := .int) (ws' := [(h0, .inr (3, [.ref q7, .ref q15, .ref q23, .ref q31, .ref q39, .ref q47, .int 0, .ref q60, .ref q68, .int 0, .int 0, .int (-1)])), (q7, .inl (ty 0, 56, .inl (fun _ => 0))), (q15, .inl (ty 0, 56, .inl (fun _ => 0))), (q23, .inl (ty 0, 56, .inl (fun _ => 0))), (q31, .inl (ty 0, 56, .inl (fun _ => 0))), (q39, .inl (ty 0, 56, .inl (fun _ => 0))), (q47, .inl (ty 0, 56, .inl (fun _ => 0))), (q60, .inl (ty 1, 8, .inl (fun _ => 0))), (q68, .inl (ty 0, 8, .inl (fun _ => 0)))]) (q0 := 0) (ci := 3) (pc := 85) C 11 rfl rfl (by decide) (Nat.le_of_ble_eq_true rfl) rfl tyX3 tyX3_ok nmX3 rfl (by decide +kernel) rfl rfl iX3 f47 rfl dX3_init_85 ?_
  exact zk_vret (pc := 88) C hr hlk (fun _ i => [q7, q15, q23, q31, q39, q47, q60, q68].getD i 0) rfl (Nat.le_of_ble_eq_true rfl) (Nat.le_of_ble_eq_true rfl) dX3_init_88
