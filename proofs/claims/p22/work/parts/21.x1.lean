/-- what running a clock does -/
def zrunS (t : Int32) (i : Nat) (μ : zM) : zM :=
  if t - t / 10 * 10 = 0 then zu (zu μ 6 i (μ 6 i + (μ 2 i + μ 5 i / 100))) 2 i (zheld (zu μ 6 i (μ 6 i + (μ 2 i + μ 5 i / 100)) 2 i + zu μ 6 i (μ 6 i + (μ 2 i + μ 5 i / 100)) 3 i) 5000)
  else zu μ 6 i (μ 6 i + (μ 2 i + μ 5 i / 100))
theorem zrunS_k (t : Int32) (i : Nat) (μ : zM) {b : Nat} (h6 : b ≠ 6) (h2 : b ≠ 2) : zrunS t i μ b = μ b := by
  unfold zrunS
  split
  · rw [zu_n _ _ _ h2, zu_n _ _ _ h6]
  · rw [zu_n _ _ _ h6]
set_option maxHeartbeats 4000000 in
set_option maxRecDepth 100000 in
theorem c_X1_run (l : Launch) (E : zE) (sa : Nat → Nat) {μ : zM} {ov : Nat → Int64} {t : Int32} (n : Nat) (hn : n ≤ 6) (hc : μ 63 4 = nI n) : zMv l E sa yX1_run wsX1_run 3 67 0 0 [.ref (zob E 1), .int t] μ ov (fun μ1 ov1 => μ1 = zitr (zrunS t) n μ ∧ ov1 = ov) := by
  refine z_ofMv (cc := cX1_run) (nL := 3) (ret := none) (own := RX1) zfp_X1_run rfl (by simp [Value.category]) (Nat.le_of_ble_eq_true rfl) rfl ?_
  intro p e s m below meth c C hr hlk
  have iX1 : ∀ w ∈ wsX10, w ∈ wsX1_run := by decide +kernel
  have f9 := C.1.2.2.2.2 (.fieldLink RX1 9 "TickFall$Clocks" "rates" "[I") (by decide +kernel)
  have f15 := C.1.2.2.2.2 (.fieldLink RX1 15 "TickFall$Clocks" "drifts" "[I") (by decide +kernel)
  have f21 := C.1.2.2.2.2 (.fieldLink RX1 21 "TickFall$Clocks" "heights" "[I") (by decide +kernel)
  have f24 := C.1.2.2.2.2 (.fieldLink RX1 24 "TickFall$Clocks" "phases" "[I") (by decide +kernel)
  have f27 := C.1.2.2.2.2 (.fieldLink RX1 27 "TickFall$Clocks" "count" "I") (by decide +kernel)
  show zW p l e (zR 3 67 0 0) s m [Value.ref (zob E 1), Value.int t].toArray below meth c E 3 0 0 (MQ below (zQv E s.heap.size (fun μ1 ov1 => μ1 = zitr (zrunS t) n μ ∧ ov1 = ov)) [Value.ref (zob E 1), Value.int t].toArray s 0 0 (zA E s.heap.size)) 0 [some (.ref (zob E 1)), some (.int (t)), none] [] μ ov
  refine z_iconst (v := 0) (pc := 0) C dX1_run_0 (by decide) ?_
  refine z_istore2 (pc := 1) C (by decide) (fun w hw => by cases hw; exact (show ¬ (1 = 2) from by decide)) dX1_run_1 ?_
  have loop : ∀ (f i : Nat), i + f = n → zW p l e (zR 3 67 0 0) s m [Value.ref (zob E 1), Value.int t].toArray below meth c E 3 0 0 (MQ below (zQv E s.heap.size (fun μ1 ov1 => μ1 = zitr (zrunS t) n μ ∧ ov1 = ov)) [Value.ref (zob E 1), Value.int t].toArray s 0 0 (zA E s.heap.size)) 2 [some (.ref (zob E 1)), some (.int (t)), some (.int (nI i))] [] (zitr (zrunS t) i μ) ov := by
    intro f
    induction f with
    | zero =>
      intro i hi
      have h63 : zitr (zrunS t) i μ 63 4 = nI n := by rw [zitr_k (fun i μ => zrunS_k t i μ (by decide) (by decide))]; exact hc
      refine z_iloadn (i := 2) (pc := 2) C dX1_run_2 rfl rfl ?_
      refine z_aloadn (i := 0) (pc := 3) C dX1_run_3 rfl rfl ?_
      refine zg_X1_count (pc := 4) C dX1_run_4 iX1 f27 ?_
      refine z_icmp_ge (tgt := 59) (pc := 7) C dX1_run_7 (by decide) (fun c_l => ?_) (fun c_l => ?_)
      · exact z_vret (pc := 59) C hr hlk ⟨by rw [show i = n by omega], rfl⟩ (Nat.zero_le _) (Nat.zero_le _) dX1_run_59
      · exact absurd (by rw [h63, show i = n by omega]; exact Int32.le_refl _) c_l
    | succ f ih =>
      intro i hi
      have h63 : zitr (zrunS t) i μ 63 4 = nI n := by rw [zitr_k (fun i μ => zrunS_k t i μ (by decide) (by decide))]; exact hc
      refine z_iloadn (i := 2) (pc := 2) C dX1_run_2 rfl rfl ?_
      refine z_aloadn (i := 0) (pc := 3) C dX1_run_3 rfl rfl ?_
      refine zg_X1_count (pc := 4) C dX1_run_4 iX1 f27 ?_
      refine z_icmp_ge (tgt := 59) (pc := 7) C dX1_run_7 (by decide) (fun c_l => ?_) (fun c_l => ?_)
      · exact absurd c_l (by rw [h63]; exact nI_ge (by omega) (by omega))
      · refine z_aloadn (i := 0) (pc := 10) C dX1_run_10 rfl rfl ?_
        refine zg_X1_phases (pc := 11) C dX1_run_11 iX1 f24 ?_
        refine z_iloadn (i := 2) (pc := 14) C dX1_run_14 rfl rfl ?_
        refine z_dup2 (pc := 15) C dX1_run_15 rfl rfl ?_
        refine z_iald (pc := 16) C 6 i (by decide) rfl rfl (show i < 6 from by omega) dX1_run_16 ?_
        refine z_aloadn (i := 0) (pc := 17) C dX1_run_17 rfl rfl ?_
        refine zg_X1_rates (pc := 18) C dX1_run_18 iX1 f9 ?_
        refine z_iloadn (i := 2) (pc := 21) C dX1_run_21 rfl rfl ?_
        refine z_iald (pc := 22) C 2 i (by decide) rfl rfl (show i < 6 from by omega) dX1_run_22 ?_
        refine z_aloadn (i := 0) (pc := 23) C dX1_run_23 rfl rfl ?_
        refine zg_X1_heights (pc := 24) C dX1_run_24 iX1 f21 ?_
        refine z_iloadn (i := 2) (pc := 27) C dX1_run_27 rfl rfl ?_
        refine z_iald (pc := 28) C 5 i (by decide) rfl rfl (show i < 6 from by omega) dX1_run_28 ?_
        refine z_bipush (v := 100) (pc := 29) C dX1_run_29 (by decide) ?_
        refine z_idiv (pc := 31) C dX1_run_31 (by decide) ?_
        refine z_iadd (pc := 32) C dX1_run_32 ?_
        refine z_iadd (pc := 33) C dX1_run_33 ?_
        refine z_iast (pc := 34) C 6 i (by decide) rfl rfl (show i < 6 from by omega) dX1_run_34 ?_
        refine z_iloadn (i := 1) (pc := 35) C dX1_run_35 rfl rfl ?_
        refine z_bipush (v := 10) (pc := 36) C dX1_run_36 (by decide) ?_
        refine z_irem (pc := 38) C dX1_run_38 (by decide) ?_
        refine z_if_ne (tgt := 53) (pc := 39) C dX1_run_39 (by decide) (fun c_t => ?_) (fun c_t => ?_)
        · refine z_mem (μ' := zitr (zrunS t) (i + 1) μ) (if_neg c_t).symm ?_
          refine z_iinc2 (v := 1) (pc := 53) C (by decide) (by decide) (fun w hw => by cases hw; exact (show ¬ (1 = 2) from by decide)) dX1_run_53 ?_
          rw [nI_1]
          refine z_goto (tgt := 2) (pc := 56) C dX1_run_56 (by decide) ?_
          exact ih (i + 1) (by omega)
        · refine z_aloadn (i := 0) (pc := 42) C dX1_run_42 rfl rfl ?_
          refine z_iloadn (i := 2) (pc := 43) C dX1_run_43 rfl rfl ?_
          refine z_aloadn (i := 0) (pc := 44) C dX1_run_44 rfl rfl ?_
          refine zg_X1_drifts (pc := 45) C dX1_run_45 iX1 f15 ?_
          refine z_iloadn (i := 2) (pc := 48) C dX1_run_48 rfl rfl ?_
          refine z_iald (pc := 49) C 3 i (by decide) rfl rfl (show i < 6 from by omega) dX1_run_49 ?_
          refine z_callVv (pc := 50) (n := 2) (As := [.int (nI i), .int ((zu (zitr (zrunS t) i μ) 6 i (((zitr (zrunS t) i μ) 6 i) + (((zitr (zrunS t) i μ) 2 i) + (((zitr (zrunS t) i μ) 5 i) / 100)))) 3 i)]) (rest := []) C (c_X1_addToRate l E sa (μ := (zu (zitr (zrunS t) i μ) 6 i ((zitr (zrunS t) i μ) 6 i + ((zitr (zrunS t) i μ) 2 i + (zitr (zrunS t) i μ) 5 i / 100)))) i rfl (by omega)) gX1_run_X1_addToRate rfl zfV_X1_addToRate ⟨Nat.le_of_ble_eq_true rfl, Nat.le_of_ble_eq_true rfl⟩ rfl (zRec_X1 E) rfl (Nat.le_of_ble_eq_true rfl) ⟨Nat.zero_le _, Nat.zero_le _⟩ dX1_run_50 (fun μ9 ov9 hp => ?_)
          have e2 := hp.1.symm
          have e3 := hp.2.symm
          clear hp
          subst e2 e3
          refine z_mem (μ' := zitr (zrunS t) (i + 1) μ) (if_pos c_t).symm ?_
          refine z_iinc2 (v := 1) (pc := 53) C (by decide) (by decide) (fun w hw => by cases hw; exact (show ¬ (1 = 2) from by decide)) dX1_run_53 ?_
          rw [nI_1]
          refine z_goto (tgt := 2) (pc := 56) C dX1_run_56 (by decide) ?_
          exact ih (i + 1) (by omega)
  exact loop n 0 (by omega)
