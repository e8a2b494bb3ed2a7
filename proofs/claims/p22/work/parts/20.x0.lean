set_option maxHeartbeats 4000000 in
set_option maxRecDepth 100000 in
theorem c_X4_isWithin (l : Launch) (E : zE) (sa : Nat → Nat) {μ : zM} {ov : Nat → Int64} (n a b : Int32) : zMi l E sa yX4_isWithin wsX4_isWithin 0 0 0 0 [.int n, .int a, .int b] μ ov (fun r μ1 ov1 => r = zb (a ≤ n ∧ n ≤ b) ∧ μ1 = μ ∧ ov1 = ov) := by
  refine z_ofMi (cc := cX4_isWithin) (nL := 3) (ret := (some .boolean)) (own := RX4) zfp_X4_isWithin rfl (by simp [Value.category]) (Nat.le_of_ble_eq_true rfl) rfl ?_
  intro p e s m below meth c C hr hlk
  show zW p l e (zR 0 0 0 0) s m [Value.int n, Value.int a, Value.int b].toArray below meth c E 3 0 0 (MQ below (zQi E s.heap.size (fun r μ1 ov1 => r = zb (a ≤ n ∧ n ≤ b) ∧ μ1 = μ ∧ ov1 = ov)) [Value.int n, Value.int a, Value.int b].toArray s 0 0 (zA E s.heap.size)) 0 [some (.int (n)), some (.int (a)), some (.int (b))] [] μ ov
  refine z_iloadn (i := 0) (pc := 0) C dX4_isWithin_0 rfl rfl ?_
  refine z_iloadn (i := 1) (pc := 1) C dX4_isWithin_1 rfl rfl ?_
  refine z_icmp_lt (tgt := 14) (pc := 2) C dX4_isWithin_2 (by decide) (fun c1 => ?_) (fun c1 => ?_)
  · refine z_iconst (v := 0) (pc := 14) C dX4_isWithin_14 (by decide) ?_
    exact z_zret (pc := 15) C hr hlk (by decide) ⟨by first | exact (zb_t ⟨znot_lt ‹¬ n < a›, znot_lt ‹¬ b < n›⟩).symm | exact (zb_f (fun h => absurd ((zle2 _ _).mp h.1) (by have := (zlt _ _).mp ‹n < a›; omega))).symm | exact (zb_f (fun h => absurd ((zle2 _ _).mp h.2) (by have := (zlt _ _).mp ‹b < n›; omega))).symm, rfl, rfl⟩ (Nat.zero_le _) (Nat.zero_le _) dX4_isWithin_15
  · refine z_iloadn (i := 0) (pc := 5) C dX4_isWithin_5 rfl rfl ?_
    refine z_iloadn (i := 2) (pc := 6) C dX4_isWithin_6 rfl rfl ?_
    refine z_icmp_gt (tgt := 14) (pc := 7) C dX4_isWithin_7 (by decide) (fun c2 => ?_) (fun c2 => ?_)
    · refine z_iconst (v := 0) (pc := 14) C dX4_isWithin_14 (by decide) ?_
      exact z_zret (pc := 15) C hr hlk (by decide) ⟨by first | exact (zb_t ⟨znot_lt ‹¬ n < a›, znot_lt ‹¬ b < n›⟩).symm | exact (zb_f (fun h => absurd ((zle2 _ _).mp h.1) (by have := (zlt _ _).mp ‹n < a›; omega))).symm | exact (zb_f (fun h => absurd ((zle2 _ _).mp h.2) (by have := (zlt _ _).mp ‹b < n›; omega))).symm, rfl, rfl⟩ (Nat.zero_le _) (Nat.zero_le _) dX4_isWithin_15
    · refine z_iconst (v := 1) (pc := 10) C dX4_isWithin_10 (by decide) ?_
      refine z_goto (tgt := 15) (pc := 11) C dX4_isWithin_11 (by decide) ?_
      exact z_zret (pc := 15) C hr hlk (by decide) ⟨by first | exact (zb_t ⟨znot_lt ‹¬ n < a›, znot_lt ‹¬ b < n›⟩).symm | exact (zb_f (fun h => absurd ((zle2 _ _).mp h.1) (by have := (zlt _ _).mp ‹n < a›; omega))).symm | exact (zb_f (fun h => absurd ((zle2 _ _).mp h.2) (by have := (zlt _ _).mp ‹b < n›; omega))).symm, rfl, rfl⟩ (Nat.zero_le _) (Nat.zero_le _) dX4_isWithin_15
set_option maxHeartbeats 4000000 in
set_option maxRecDepth 100000 in
theorem c_X4_held (l : Launch) (E : zE) (sa : Nat → Nat) {μ : zM} {ov : Nat → Int64} (n b : Int32) (hb : 0 ≤ b) : zMi l E sa yX4_held wsX4_held 1 24 0 0 [.int n, .int b] μ ov (fun r μ1 ov1 => r = zheld n b ∧ μ1 = μ ∧ ov1 = ov) := by
  refine z_ofMi (cc := cX4_held) (nL := 2) (ret := (some .int)) (own := RX4) zfp_X4_held rfl (by simp [Value.category]) (Nat.le_of_ble_eq_true rfl) rfl ?_
  intro p e s m below meth c C hr hlk
  show zW p l e (zR 1 24 0 0) s m [Value.int n, Value.int b].toArray below meth c E 2 0 0 (MQ below (zQi E s.heap.size (fun r μ1 ov1 => r = zheld n b ∧ μ1 = μ ∧ ov1 = ov)) [Value.int n, Value.int b].toArray s 0 0 (zA E s.heap.size)) 0 [some (.int (n)), some (.int (b))] [] μ ov
  refine z_iloadn (i := 1) (pc := 0) C dX4_held_0 rfl rfl ?_
  refine z_ineg (pc := 1) C dX4_held_1 ?_
  refine z_iloadn (i := 1) (pc := 2) C dX4_held_2 rfl rfl ?_
  refine z_iloadn (i := 0) (pc := 3) C dX4_held_3 rfl rfl ?_
  refine z_mmin (pc := 4) C (C.1.2.2.2.2 (.methodLink RX4 185 Lib.Math.min.name) (by decide +kernel)) (C.1.2.2.2.2 (.static Lib.Math.min.name) (by decide +kernel)) (C.1.2.2.2.2 (.initialized "java/lang/Math") (by decide +kernel)) (C.1.2.2.2.2 (.code Lib.Math.min.name Lib.Math.min.code 2 (some .int)) (by decide +kernel)) (Nat.le_of_ble_eq_true rfl) (Nat.le_of_ble_eq_true rfl) (Nat.zero_le _) (Nat.zero_le _) dX4_held_4 ?_
  refine z_mmax (pc := 7) C (C.1.2.2.2.2 (.methodLink RX4 190 Lib.Math.max.name) (by decide +kernel)) (C.1.2.2.2.2 (.static Lib.Math.max.name) (by decide +kernel)) (C.1.2.2.2.2 (.initialized "java/lang/Math") (by decide +kernel)) (C.1.2.2.2.2 (.code Lib.Math.max.name Lib.Math.max.code 2 (some .int)) (by decide +kernel)) (Nat.le_of_ble_eq_true rfl) (Nat.le_of_ble_eq_true rfl) (Nat.zero_le _) (Nat.zero_le _) dX4_held_7 ?_
  exact z_iret (pc := 10) C hr hlk ⟨zheld_mm hb, rfl, rfl⟩ (Nat.zero_le _) (Nat.zero_le _) dX4_held_10
set_option maxHeartbeats 4000000 in
set_option maxRecDepth 100000 in
theorem c_X1_count (l : Launch) (E : zE) (sa : Nat → Nat) {μ : zM} {ov : Nat → Int64} : zMi l E sa yX1_count wsX1_count 0 0 0 0 [.ref (zob E 1)] μ ov (fun r μ1 ov1 => r = μ 63 4 ∧ μ1 = μ ∧ ov1 = ov) := by
  refine z_ofMi (cc := cX1_count) (nL := 1) (ret := (some .int)) (own := RX1) zfp_X1_count rfl (by simp [Value.category]) (Nat.le_of_ble_eq_true rfl) rfl ?_
  intro p e s m below meth c C hr hlk
  have iX1 : ∀ w ∈ wsX10, w ∈ wsX1_count := by decide +kernel
  have f27 := C.1.2.2.2.2 (.fieldLink RX1 27 "TickFall$Clocks" "count" "I") (by decide +kernel)
  show zW p l e (zR 0 0 0 0) s m [Value.ref (zob E 1)].toArray below meth c E 1 0 0 (MQ below (zQi E s.heap.size (fun r μ1 ov1 => r = μ 63 4 ∧ μ1 = μ ∧ ov1 = ov)) [Value.ref (zob E 1)].toArray s 0 0 (zA E s.heap.size)) 0 [some (.ref (zob E 1))] [] μ ov
  refine z_aloadn (i := 0) (pc := 0) C dX1_count_0 rfl rfl ?_
  refine zg_X1_count (pc := 1) C dX1_count_1 iX1 f27 ?_
  exact z_iret (pc := 4) C hr hlk ⟨rfl, rfl, rfl⟩ (Nat.zero_le _) (Nat.zero_le _) dX1_count_4
set_option maxHeartbeats 4000000 in
set_option maxRecDepth 100000 in
theorem c_X1_has (l : Launch) (E : zE) (sa : Nat → Nat) {μ : zM} {ov : Nat → Int64} (i : Int32) : zMi l E sa yX1_has wsX1_has 0 0 0 0 [.ref (zob E 1), .int i] μ ov (fun r μ1 ov1 => r = zb (0 ≤ i ∧ i < μ 63 4) ∧ μ1 = μ ∧ ov1 = ov) := by
  refine z_ofMi (cc := cX1_has) (nL := 2) (ret := (some .boolean)) (own := RX1) zfp_X1_has rfl (by simp [Value.category]) (Nat.le_of_ble_eq_true rfl) rfl ?_
  intro p e s m below meth c C hr hlk
  have iX1 : ∀ w ∈ wsX10, w ∈ wsX1_has := by decide +kernel
  have f27 := C.1.2.2.2.2 (.fieldLink RX1 27 "TickFall$Clocks" "count" "I") (by decide +kernel)
  show zW p l e (zR 0 0 0 0) s m [Value.ref (zob E 1), Value.int i].toArray below meth c E 2 0 0 (MQ below (zQi E s.heap.size (fun r μ1 ov1 => r = zb (0 ≤ i ∧ i < μ 63 4) ∧ μ1 = μ ∧ ov1 = ov)) [Value.ref (zob E 1), Value.int i].toArray s 0 0 (zA E s.heap.size)) 0 [some (.ref (zob E 1)), some (.int (i))] [] μ ov
  refine z_iloadn (i := 1) (pc := 0) C dX1_has_0 rfl rfl ?_
  refine z_if_lt (tgt := 16) (pc := 1) C dX1_has_1 (by decide) (fun c1 => ?_) (fun c1 => ?_)
  · refine z_iconst (v := 0) (pc := 16) C dX1_has_16 (by decide) ?_
    exact z_zret (pc := 17) C hr hlk (by decide) ⟨by first | exact (zb_t ⟨znot_lt ‹¬ i < 0›, znot_le ‹¬ μ 63 4 ≤ i›⟩).symm | exact (zb_f (fun h => absurd ((zle2 _ _).mp h.1) (by have := (zlt _ _).mp ‹i < 0›; omega))).symm | exact (zb_f (fun h => absurd ((zlt _ _).mp h.2) (by have := (zle2 _ _).mp ‹μ 63 4 ≤ i›; omega))).symm, rfl, rfl⟩ (Nat.zero_le _) (Nat.zero_le _) dX1_has_17
  · refine z_iloadn (i := 1) (pc := 4) C dX1_has_4 rfl rfl ?_
    refine z_aloadn (i := 0) (pc := 5) C dX1_has_5 rfl rfl ?_
    refine zg_X1_count (pc := 6) C dX1_has_6 iX1 f27 ?_
    refine z_icmp_ge (tgt := 16) (pc := 9) C dX1_has_9 (by decide) (fun c2 => ?_) (fun c2 => ?_)
    · refine z_iconst (v := 0) (pc := 16) C dX1_has_16 (by decide) ?_
      exact z_zret (pc := 17) C hr hlk (by decide) ⟨by first | exact (zb_t ⟨znot_lt ‹¬ i < 0›, znot_le ‹¬ μ 63 4 ≤ i›⟩).symm | exact (zb_f (fun h => absurd ((zle2 _ _).mp h.1) (by have := (zlt _ _).mp ‹i < 0›; omega))).symm | exact (zb_f (fun h => absurd ((zlt _ _).mp h.2) (by have := (zle2 _ _).mp ‹μ 63 4 ≤ i›; omega))).symm, rfl, rfl⟩ (Nat.zero_le _) (Nat.zero_le _) dX1_has_17
    · refine z_iconst (v := 1) (pc := 12) C dX1_has_12 (by decide) ?_
      refine z_goto (tgt := 17) (pc := 13) C dX1_has_13 (by decide) ?_
      exact z_zret (pc := 17) C hr hlk (by decide) ⟨by first | exact (zb_t ⟨znot_lt ‹¬ i < 0›, znot_le ‹¬ μ 63 4 ≤ i›⟩).symm | exact (zb_f (fun h => absurd ((zle2 _ _).mp h.1) (by have := (zlt _ _).mp ‹i < 0›; omega))).symm | exact (zb_f (fun h => absurd ((zlt _ _).mp h.2) (by have := (zle2 _ _).mp ‹μ 63 4 ≤ i›; omega))).symm, rfl, rfl⟩ (Nat.zero_le _) (Nat.zero_le _) dX1_has_17
set_option maxHeartbeats 4000000 in
set_option maxRecDepth 100000 in
theorem c_X1_phaseOf (l : Launch) (E : zE) (sa : Nat → Nat) {μ : zM} {ov : Nat → Int64} {i : Int32} (k : Nat) (hi : i = nI k) (hk : k < 6) : zMi l E sa yX1_phaseOf wsX1_phaseOf 0 0 0 0 [.ref (zob E 1), .int i] μ ov (fun r μ1 ov1 => r = μ 6 k ∧ μ1 = μ ∧ ov1 = ov) := by
  refine z_ofMi (cc := cX1_phaseOf) (nL := 2) (ret := (some .int)) (own := RX1) zfp_X1_phaseOf rfl (by simp [Value.category]) (Nat.le_of_ble_eq_true rfl) rfl ?_
  intro p e s m below meth c C hr hlk
  have iX1 : ∀ w ∈ wsX10, w ∈ wsX1_phaseOf := by decide +kernel
  have f24 := C.1.2.2.2.2 (.fieldLink RX1 24 "TickFall$Clocks" "phases" "[I") (by decide +kernel)
  show zW p l e (zR 0 0 0 0) s m [Value.ref (zob E 1), Value.int i].toArray below meth c E 2 0 0 (MQ below (zQi E s.heap.size (fun r μ1 ov1 => r = μ 6 k ∧ μ1 = μ ∧ ov1 = ov)) [Value.ref (zob E 1), Value.int i].toArray s 0 0 (zA E s.heap.size)) 0 [some (.ref (zob E 1)), some (.int (i))] [] μ ov
  refine z_aloadn (i := 0) (pc := 0) C dX1_phaseOf_0 rfl rfl ?_
  refine zg_X1_phases (pc := 1) C dX1_phaseOf_1 iX1 f24 ?_
  refine z_iloadn (i := 1) (pc := 4) C dX1_phaseOf_4 rfl rfl ?_
  refine z_iald (pc := 5) C 6 k (by decide) rfl hi (show k < 6 from by omega) dX1_phaseOf_5 ?_
  exact z_iret (pc := 6) C hr hlk ⟨rfl, rfl, rfl⟩ (Nat.zero_le _) (Nat.zero_le _) dX1_phaseOf_6
set_option maxHeartbeats 4000000 in
set_option maxRecDepth 100000 in
theorem c_X1_rateOf (l : Launch) (E : zE) (sa : Nat → Nat) {μ : zM} {ov : Nat → Int64} {i : Int32} (k : Nat) (hi : i = nI k) (hk : k < 6) : zMi l E sa yX1_rateOf wsX1_rateOf 0 0 0 0 [.ref (zob E 1), .int i] μ ov (fun r μ1 ov1 => r = μ 2 k ∧ μ1 = μ ∧ ov1 = ov) := by
  refine z_ofMi (cc := cX1_rateOf) (nL := 2) (ret := (some .int)) (own := RX1) zfp_X1_rateOf rfl (by simp [Value.category]) (Nat.le_of_ble_eq_true rfl) rfl ?_
  intro p e s m below meth c C hr hlk
  have iX1 : ∀ w ∈ wsX10, w ∈ wsX1_rateOf := by decide +kernel
  have f9 := C.1.2.2.2.2 (.fieldLink RX1 9 "TickFall$Clocks" "rates" "[I") (by decide +kernel)
  show zW p l e (zR 0 0 0 0) s m [Value.ref (zob E 1), Value.int i].toArray below meth c E 2 0 0 (MQ below (zQi E s.heap.size (fun r μ1 ov1 => r = μ 2 k ∧ μ1 = μ ∧ ov1 = ov)) [Value.ref (zob E 1), Value.int i].toArray s 0 0 (zA E s.heap.size)) 0 [some (.ref (zob E 1)), some (.int (i))] [] μ ov
  refine z_aloadn (i := 0) (pc := 0) C dX1_rateOf_0 rfl rfl ?_
  refine zg_X1_rates (pc := 1) C dX1_rateOf_1 iX1 f9 ?_
  refine z_iloadn (i := 1) (pc := 4) C dX1_rateOf_4 rfl rfl ?_
  refine z_iald (pc := 5) C 2 k (by decide) rfl hi (show k < 6 from by omega) dX1_rateOf_5 ?_
  exact z_iret (pc := 6) C hr hlk ⟨rfl, rfl, rfl⟩ (Nat.zero_le _) (Nat.zero_le _) dX1_rateOf_6
set_option maxHeartbeats 4000000 in
set_option maxRecDepth 100000 in
theorem c_X1_heightOf (l : Launch) (E : zE) (sa : Nat → Nat) {μ : zM} {ov : Nat → Int64} {i : Int32} (k : Nat) (hi : i = nI k) (hk : k < 6) : zMi l E sa yX1_heightOf wsX1_heightOf 0 0 0 0 [.ref (zob E 1), .int i] μ ov (fun r μ1 ov1 => r = μ 5 k ∧ μ1 = μ ∧ ov1 = ov) := by
  refine z_ofMi (cc := cX1_heightOf) (nL := 2) (ret := (some .int)) (own := RX1) zfp_X1_heightOf rfl (by simp [Value.category]) (Nat.le_of_ble_eq_true rfl) rfl ?_
  intro p e s m below meth c C hr hlk
  have iX1 : ∀ w ∈ wsX10, w ∈ wsX1_heightOf := by decide +kernel
  have f21 := C.1.2.2.2.2 (.fieldLink RX1 21 "TickFall$Clocks" "heights" "[I") (by decide +kernel)
  show zW p l e (zR 0 0 0 0) s m [Value.ref (zob E 1), Value.int i].toArray below meth c E 2 0 0 (MQ below (zQi E s.heap.size (fun r μ1 ov1 => r = μ 5 k ∧ μ1 = μ ∧ ov1 = ov)) [Value.ref (zob E 1), Value.int i].toArray s 0 0 (zA E s.heap.size)) 0 [some (.ref (zob E 1)), some (.int (i))] [] μ ov
  refine z_aloadn (i := 0) (pc := 0) C dX1_heightOf_0 rfl rfl ?_
  refine zg_X1_heights (pc := 1) C dX1_heightOf_1 iX1 f21 ?_
  refine z_iloadn (i := 1) (pc := 4) C dX1_heightOf_4 rfl rfl ?_
  refine z_iald (pc := 5) C 5 k (by decide) rfl hi (show k < 6 from by omega) dX1_heightOf_5 ?_
  exact z_iret (pc := 6) C hr hlk ⟨rfl, rfl, rfl⟩ (Nat.zero_le _) (Nat.zero_le _) dX1_heightOf_6
set_option maxHeartbeats 4000000 in
set_option maxRecDepth 100000 in
theorem c_X1_weightOf (l : Launch) (E : zE) (sa : Nat → Nat) {μ : zM} {ov : Nat → Int64} {i : Int32} (k : Nat) (hi : i = nI k) (hk : k < 6) : zMi l E sa yX1_weightOf wsX1_weightOf 0 0 0 0 [.ref (zob E 1), .int i] μ ov (fun r μ1 ov1 => r = μ 4 k ∧ μ1 = μ ∧ ov1 = ov) := by
  refine z_ofMi (cc := cX1_weightOf) (nL := 2) (ret := (some .int)) (own := RX1) zfp_X1_weightOf rfl (by simp [Value.category]) (Nat.le_of_ble_eq_true rfl) rfl ?_
  intro p e s m below meth c C hr hlk
  have iX1 : ∀ w ∈ wsX10, w ∈ wsX1_weightOf := by decide +kernel
  have f18 := C.1.2.2.2.2 (.fieldLink RX1 18 "TickFall$Clocks" "weights" "[I") (by decide +kernel)
  show zW p l e (zR 0 0 0 0) s m [Value.ref (zob E 1), Value.int i].toArray below meth c E 2 0 0 (MQ below (zQi E s.heap.size (fun r μ1 ov1 => r = μ 4 k ∧ μ1 = μ ∧ ov1 = ov)) [Value.ref (zob E 1), Value.int i].toArray s 0 0 (zA E s.heap.size)) 0 [some (.ref (zob E 1)), some (.int (i))] [] μ ov
  refine z_aloadn (i := 0) (pc := 0) C dX1_weightOf_0 rfl rfl ?_
  refine zg_X1_weights (pc := 1) C dX1_weightOf_1 iX1 f18 ?_
  refine z_iloadn (i := 1) (pc := 4) C dX1_weightOf_4 rfl rfl ?_
  refine z_iald (pc := 5) C 4 k (by decide) rfl hi (show k < 6 from by omega) dX1_weightOf_5 ?_
  exact z_iret (pc := 6) C hr hlk ⟨rfl, rfl, rfl⟩ (Nat.zero_le _) (Nat.zero_le _) dX1_weightOf_6
set_option maxHeartbeats 4000000 in
set_option maxRecDepth 100000 in
theorem c_X1_setDriftAndWeight (l : Launch) (E : zE) (sa : Nat → Nat) {μ : zM} {ov : Nat → Int64} {i d w : Int32} (k : Nat) (hi : i = nI k) (hk : k < 6) : zMv l E sa yX1_setDriftAndWeight wsX1_setDriftAndWeight 0 0 0 0 [.ref (zob E 1), .int i, .int d, .int w] μ ov (fun μ1 ov1 => μ1 = zu (zu μ 3 k d) 4 k w ∧ ov1 = ov) := by
  refine z_ofMv (cc := cX1_setDriftAndWeight) (nL := 4) (ret := none) (own := RX1) zfp_X1_setDriftAndWeight rfl (by simp [Value.category]) (Nat.le_of_ble_eq_true rfl) rfl ?_
  intro p e s m below meth c C hr hlk
  have iX1 : ∀ w ∈ wsX10, w ∈ wsX1_setDriftAndWeight := by decide +kernel
  have f15 := C.1.2.2.2.2 (.fieldLink RX1 15 "TickFall$Clocks" "drifts" "[I") (by decide +kernel)
  have f18 := C.1.2.2.2.2 (.fieldLink RX1 18 "TickFall$Clocks" "weights" "[I") (by decide +kernel)
  show zW p l e (zR 0 0 0 0) s m [Value.ref (zob E 1), Value.int i, Value.int d, Value.int w].toArray below meth c E 4 0 0 (MQ below (zQv E s.heap.size (fun μ1 ov1 => μ1 = zu (zu μ 3 k d) 4 k w ∧ ov1 = ov)) [Value.ref (zob E 1), Value.int i, Value.int d, Value.int w].toArray s 0 0 (zA E s.heap.size)) 0 [some (.ref (zob E 1)), some (.int (i)), some (.int (d)), some (.int (w))] [] μ ov
  refine z_aloadn (i := 0) (pc := 0) C dX1_setDriftAndWeight_0 rfl rfl ?_
  refine zg_X1_drifts (pc := 1) C dX1_setDriftAndWeight_1 iX1 f15 ?_
  refine z_iloadn (i := 1) (pc := 4) C dX1_setDriftAndWeight_4 rfl rfl ?_
  refine z_iloadn (i := 2) (pc := 5) C dX1_setDriftAndWeight_5 rfl rfl ?_
  refine z_iast (pc := 6) C 3 k (by decide) rfl hi (show k < 6 from by omega) dX1_setDriftAndWeight_6 ?_
  refine z_aloadn (i := 0) (pc := 7) C dX1_setDriftAndWeight_7 rfl rfl ?_
  refine zg_X1_weights (pc := 8) C dX1_setDriftAndWeight_8 iX1 f18 ?_
  refine z_iloadn (i := 1) (pc := 11) C dX1_setDriftAndWeight_11 rfl rfl ?_
  refine z_iloadn (i := 3) (pc := 12) C dX1_setDriftAndWeight_12 rfl rfl ?_
  refine z_iast (pc := 13) C 4 k (by decide) rfl hi (show k < 6 from by omega) dX1_setDriftAndWeight_13 ?_
  exact z_vret (pc := 14) C hr hlk ⟨rfl, rfl⟩ (Nat.zero_le _) (Nat.zero_le _) dX1_setDriftAndWeight_14
set_option maxHeartbeats 4000000 in
set_option maxRecDepth 100000 in
theorem c_X1_setHeight (l : Launch) (E : zE) (sa : Nat → Nat) {μ : zM} {ov : Nat → Int64} {i d : Int32} (k : Nat) (hi : i = nI k) (hk : k < 6) : zMv l E sa yX1_setHeight wsX1_setHeight 0 0 0 0 [.ref (zob E 1), .int i, .int d] μ ov (fun μ1 ov1 => μ1 = zu μ 5 k d ∧ ov1 = ov) := by
  refine z_ofMv (cc := cX1_setHeight) (nL := 3) (ret := none) (own := RX1) zfp_X1_setHeight rfl (by simp [Value.category]) (Nat.le_of_ble_eq_true rfl) rfl ?_
  intro p e s m below meth c C hr hlk
  have iX1 : ∀ w ∈ wsX10, w ∈ wsX1_setHeight := by decide +kernel
  have f21 := C.1.2.2.2.2 (.fieldLink RX1 21 "TickFall$Clocks" "heights" "[I") (by decide +kernel)
  show zW p l e (zR 0 0 0 0) s m [Value.ref (zob E 1), Value.int i, Value.int d].toArray below meth c E 3 0 0 (MQ below (zQv E s.heap.size (fun μ1 ov1 => μ1 = zu μ 5 k d ∧ ov1 = ov)) [Value.ref (zob E 1), Value.int i, Value.int d].toArray s 0 0 (zA E s.heap.size)) 0 [some (.ref (zob E 1)), some (.int (i)), some (.int (d))] [] μ ov
  refine z_aloadn (i := 0) (pc := 0) C dX1_setHeight_0 rfl rfl ?_
  refine zg_X1_heights (pc := 1) C dX1_setHeight_1 iX1 f21 ?_
  refine z_iloadn (i := 1) (pc := 4) C dX1_setHeight_4 rfl rfl ?_
  refine z_iloadn (i := 2) (pc := 5) C dX1_setHeight_5 rfl rfl ?_
  refine z_iast (pc := 6) C 5 k (by decide) rfl hi (show k < 6 from by omega) dX1_setHeight_6 ?_
  exact z_vret (pc := 7) C hr hlk ⟨rfl, rfl⟩ (Nat.zero_le _) (Nat.zero_le _) dX1_setHeight_7
set_option maxHeartbeats 4000000 in
set_option maxRecDepth 100000 in
theorem c_X1_addToRate (l : Launch) (E : zE) (sa : Nat → Nat) {μ : zM} {ov : Nat → Int64} {i d : Int32} (k : Nat) (hi : i = nI k) (hk : k < 6) : zMv l E sa yX1_addToRate wsX1_addToRate 2 45 0 0 [.ref (zob E 1), .int i, .int d] μ ov (fun μ1 ov1 => μ1 = zu μ 2 k (zheld (μ 2 k + d) 5000) ∧ ov1 = ov) := by
  refine z_ofMv (cc := cX1_addToRate) (nL := 3) (ret := none) (own := RX1) zfp_X1_addToRate rfl (by simp [Value.category]) (Nat.le_of_ble_eq_true rfl) rfl ?_
  intro p e s m below meth c C hr hlk
  have iX1 : ∀ w ∈ wsX10, w ∈ wsX1_addToRate := by decide +kernel
  have f9 := C.1.2.2.2.2 (.fieldLink RX1 9 "TickFall$Clocks" "rates" "[I") (by decide +kernel)
  show zW p l e (zR 2 45 0 0) s m [Value.ref (zob E 1), Value.int i, Value.int d].toArray below meth c E 3 0 0 (MQ below (zQv E s.heap.size (fun μ1 ov1 => μ1 = zu μ 2 k (zheld (μ 2 k + d) 5000) ∧ ov1 = ov)) [Value.ref (zob E 1), Value.int i, Value.int d].toArray s 0 0 (zA E s.heap.size)) 0 [some (.ref (zob E 1)), some (.int (i)), some (.int (d))] [] μ ov
  refine z_aloadn (i := 0) (pc := 0) C dX1_addToRate_0 rfl rfl ?_
  refine zg_X1_rates (pc := 1) C dX1_addToRate_1 iX1 f9 ?_
  refine z_iloadn (i := 1) (pc := 4) C dX1_addToRate_4 rfl rfl ?_
  refine z_aloadn (i := 0) (pc := 5) C dX1_addToRate_5 rfl rfl ?_
  refine zg_X1_rates (pc := 6) C dX1_addToRate_6 iX1 f9 ?_
  refine z_iloadn (i := 1) (pc := 9) C dX1_addToRate_9 rfl rfl ?_
  refine z_iald (pc := 10) C 2 k (by decide) rfl hi (show k < 6 from by omega) dX1_addToRate_10 ?_
  refine z_iloadn (i := 2) (pc := 11) C dX1_addToRate_11 rfl rfl ?_
  refine z_iadd (pc := 12) C dX1_addToRate_12 ?_
  refine z_sipush (v := 5000) (pc := 13) C dX1_addToRate_13 (by decide) ?_
  refine z_callSNi (pc := 16) (n := 2) (As := [.int ((μ 2 k) + d), .int (5000)]) (rest := [.int (i), .ref (zad E 2)]) C (c_X4_held l E sa (μ 2 k + d) 5000 (by decide)) gX1_addToRate_X4_held_n31 (by decide +kernel) (C.1.2.2.2.2 (.static yX4_held) (by decide +kernel)) (C.1.2.2.2.2 (.initialized yX4_held.cls) (by decide +kernel)) rfl zfV_X4_held.2 ⟨Nat.le_of_ble_eq_true rfl, Nat.le_of_ble_eq_true rfl⟩ rfl rfl (Nat.le_of_ble_eq_true rfl) ⟨Nat.zero_le _, Nat.zero_le _⟩ dX1_addToRate_16 (fun r9 μ9 ov9 hp => ?_)
  have e1 := hp.1.symm
  have e2 := hp.2.1.symm
  have e3 := hp.2.2.symm
  clear hp
  subst e1 e2 e3
  refine z_iast (pc := 19) C 2 k (by decide) rfl hi (show k < 6 from by omega) dX1_addToRate_19 ?_
  exact z_vret (pc := 20) C hr hlk ⟨rfl, rfl⟩ (Nat.zero_le _) (Nat.zero_le _) dX1_addToRate_20
set_option maxHeartbeats 4000000 in
set_option maxRecDepth 100000 in
theorem c_X1_add (l : Launch) (E : zE) (sa : Nat → Nat) {μ : zM} {ov : Nat → Int64} {a b : Int32} (n : Nat) (hc : μ 63 4 = nI n) (hn : n < 6) : zMi l E sa yX1_add wsX1_add 0 0 0 0 [.ref (zob E 1), .int a, .int b] μ ov (fun r μ1 ov1 => r = nI n ∧ μ1 = zu (zu (zu (zu μ 2 n a) 5 n b) 4 n 1) 63 4 (nI (n + 1)) ∧ ov1 = ov) := by
  refine z_ofMi (cc := cX1_add) (nL := 4) (ret := (some .int)) (own := RX1) zfp_X1_add rfl (by simp [Value.category]) (Nat.le_of_ble_eq_true rfl) rfl ?_
  intro p e s m below meth c C hr hlk
  have iX1 : ∀ w ∈ wsX10, w ∈ wsX1_add := by decide +kernel
  have f9 := C.1.2.2.2.2 (.fieldLink RX1 9 "TickFall$Clocks" "rates" "[I") (by decide +kernel)
  have f18 := C.1.2.2.2.2 (.fieldLink RX1 18 "TickFall$Clocks" "weights" "[I") (by decide +kernel)
  have f21 := C.1.2.2.2.2 (.fieldLink RX1 21 "TickFall$Clocks" "heights" "[I") (by decide +kernel)
  have f27 := C.1.2.2.2.2 (.fieldLink RX1 27 "TickFall$Clocks" "count" "I") (by decide +kernel)
  show zW p l e (zR 0 0 0 0) s m [Value.ref (zob E 1), Value.int a, Value.int b].toArray below meth c E 4 0 0 (MQ below (zQi E s.heap.size (fun r μ1 ov1 => r = nI n ∧ μ1 = zu (zu (zu (zu μ 2 n a) 5 n b) 4 n 1) 63 4 (nI (n + 1)) ∧ ov1 = ov)) [Value.ref (zob E 1), Value.int a, Value.int b].toArray s 0 0 (zA E s.heap.size)) 0 [some (.ref (zob E 1)), some (.int (a)), some (.int (b)), none] [] μ ov
  refine z_aloadn (i := 0) (pc := 0) C dX1_add_0 rfl rfl ?_
  refine zg_X1_count (pc := 1) C dX1_add_1 iX1 f27 ?_
  refine z_topi (y := nI n) hc ?_
  refine z_istore3 (pc := 4) C (by decide) (fun w hw => by cases hw; exact (show ¬ (1 = 2) from by decide)) dX1_add_4 ?_
  refine z_aloadn (i := 0) (pc := 5) C dX1_add_5 rfl rfl ?_
  refine zg_X1_rates (pc := 6) C dX1_add_6 iX1 f9 ?_
  refine z_iloadn (i := 3) (pc := 9) C dX1_add_9 rfl rfl ?_
  refine z_iloadn (i := 1) (pc := 10) C dX1_add_10 rfl rfl ?_
  refine z_iast (pc := 11) C 2 n (by decide) rfl rfl (show n < 6 from by omega) dX1_add_11 ?_
  refine z_aloadn (i := 0) (pc := 12) C dX1_add_12 rfl rfl ?_
  refine zg_X1_heights (pc := 13) C dX1_add_13 iX1 f21 ?_
  refine z_iloadn (i := 3) (pc := 16) C dX1_add_16 rfl rfl ?_
  refine z_iloadn (i := 2) (pc := 17) C dX1_add_17 rfl rfl ?_
  refine z_iast (pc := 18) C 5 n (by decide) rfl rfl (show n < 6 from by omega) dX1_add_18 ?_
  refine z_aloadn (i := 0) (pc := 19) C dX1_add_19 rfl rfl ?_
  refine zg_X1_weights (pc := 20) C dX1_add_20 iX1 f18 ?_
  refine z_iloadn (i := 3) (pc := 23) C dX1_add_23 rfl rfl ?_
  refine z_iconst (v := 1) (pc := 24) C dX1_add_24 (by decide) ?_
  refine z_iast (pc := 25) C 4 n (by decide) rfl rfl (show n < 6 from by omega) dX1_add_25 ?_
  refine z_aloadn (i := 0) (pc := 26) C dX1_add_26 rfl rfl ?_
  refine z_dup (pc := 27) C dX1_add_27 rfl ?_
  refine zg_X1_count (pc := 28) C dX1_add_28 iX1 f27 ?_
  refine z_iconst (v := 1) (pc := 31) C dX1_add_31 (by decide) ?_
  refine z_iadd (pc := 32) C dX1_add_32 ?_
  refine z_topi (y := nI (n + 1)) (by show zu (zu (zu μ 2 n a) 5 n b) 4 n 1 63 4 + 1 = nI (n + 1); rw [zu_n _ _ _ (by decide), zu_n _ _ _ (by decide), zu_n _ _ _ (by decide), hc]; exact nI_1 n) ?_
  refine zp_X1_count (pc := 33) C dX1_add_33 iX1 f27 ?_
  refine z_iloadn (i := 3) (pc := 36) C dX1_add_36 rfl rfl ?_
  exact z_iret (pc := 37) C hr hlk ⟨rfl, rfl, rfl⟩ (Nat.zero_le _) (Nat.zero_le _) dX1_add_37
