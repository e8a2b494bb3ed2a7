/-- the two clocks of a link as bits -/
def zbits (a b : Int32) : Int32 := 1 <<< (a &&& 31) ||| 1 <<< (b &&& 31)
/-- the sign of a link gone through behind another -/
def zsgn (μ : zM) (k j : Nat) : Int32 := if μ 7 j = μ 8 k ∨ μ 8 j = μ 7 k then 1 else -1
def zcorX (μ : zM) (k t : Nat) : Int32 := μ (22 + k) t - μ (30 + k) t
set_option maxHeartbeats 4000000 in
set_option maxRecDepth 100000 in
theorem c_X2_count (l : Launch) (E : zE) (sa : Nat → Nat) {μ : zM} {ov : Nat → Int64} : zMi l E sa yX2_count wsX2_count 0 0 0 0 [.ref (zob E 2)] μ ov (fun r μ1 ov1 => r = μ 63 5 ∧ μ1 = μ ∧ ov1 = ov) := by
  refine z_ofMi (cc := cX2_count) (nL := 1) (ret := (some .int)) (own := RX2) zfp_X2_count rfl (by simp [Value.category]) (Nat.le_of_ble_eq_true rfl) rfl ?_
  intro p e s m below meth c C hr hlk
  have iX2 : ∀ w ∈ wsX20, w ∈ wsX2_count := by decide +kernel
  have f38 := C.1.2.2.2.2 (.fieldLink RX2 38 "TickFall$Links" "count" "I") (by decide +kernel)
  show zW p l e (zR 0 0 0 0) s m [Value.ref (zob E 2)].toArray below meth c E 1 0 0 (MQ below (zQi E s.heap.size (fun r μ1 ov1 => r = μ 63 5 ∧ μ1 = μ ∧ ov1 = ov)) [Value.ref (zob E 2)].toArray s 0 0 (zA E s.heap.size)) 0 [some (.ref (zob E 2))] [] μ ov
  refine z_aloadn (i := 0) (pc := 0) C dX2_count_0 rfl rfl ?_
  refine zg_X2_count (pc := 1) C dX2_count_1 iX2 f38 ?_
  exact z_iret (pc := 4) C hr hlk ⟨rfl, rfl, rfl⟩ (Nat.zero_le _) (Nat.zero_le _) dX2_count_4
set_option maxHeartbeats 4000000 in
set_option maxRecDepth 100000 in
theorem c_X2_has (l : Launch) (E : zE) (sa : Nat → Nat) {μ : zM} {ov : Nat → Int64} (i : Int32) : zMi l E sa yX2_has wsX2_has 0 0 0 0 [.ref (zob E 2), .int i] μ ov (fun r μ1 ov1 => r = zb (0 ≤ i ∧ i < μ 63 5) ∧ μ1 = μ ∧ ov1 = ov) := by
  refine z_ofMi (cc := cX2_has) (nL := 2) (ret := (some .boolean)) (own := RX2) zfp_X2_has rfl (by simp [Value.category]) (Nat.le_of_ble_eq_true rfl) rfl ?_
  intro p e s m below meth c C hr hlk
  have iX2 : ∀ w ∈ wsX20, w ∈ wsX2_has := by decide +kernel
  have f38 := C.1.2.2.2.2 (.fieldLink RX2 38 "TickFall$Links" "count" "I") (by decide +kernel)
  show zW p l e (zR 0 0 0 0) s m [Value.ref (zob E 2), Value.int i].toArray below meth c E 2 0 0 (MQ below (zQi E s.heap.size (fun r μ1 ov1 => r = zb (0 ≤ i ∧ i < μ 63 5) ∧ μ1 = μ ∧ ov1 = ov)) [Value.ref (zob E 2), Value.int i].toArray s 0 0 (zA E s.heap.size)) 0 [some (.ref (zob E 2)), some (.int (i))] [] μ ov
  refine z_iloadn (i := 1) (pc := 0) C dX2_has_0 rfl rfl ?_
  refine z_if_lt (tgt := 16) (pc := 1) C dX2_has_1 (by decide) (fun c1 => ?_) (fun c1 => ?_)
  · refine z_iconst (v := 0) (pc := 16) C dX2_has_16 (by decide) ?_
    exact z_zret (pc := 17) C hr hlk (by decide) ⟨by first | exact (zb_t ⟨znot_lt ‹¬ i < 0›, znot_le ‹¬ μ 63 5 ≤ i›⟩).symm | exact (zb_f (fun h => absurd ((zle2 _ _).mp h.1) (by have := (zlt _ _).mp ‹i < 0›; omega))).symm | exact (zb_f (fun h => absurd ((zlt _ _).mp h.2) (by have := (zle2 _ _).mp ‹μ 63 5 ≤ i›; omega))).symm, rfl, rfl⟩ (Nat.zero_le _) (Nat.zero_le _) dX2_has_17
  · refine z_iloadn (i := 1) (pc := 4) C dX2_has_4 rfl rfl ?_
    refine z_aloadn (i := 0) (pc := 5) C dX2_has_5 rfl rfl ?_
    refine zg_X2_count (pc := 6) C dX2_has_6 iX2 f38 ?_
    refine z_icmp_ge (tgt := 16) (pc := 9) C dX2_has_9 (by decide) (fun c2 => ?_) (fun c2 => ?_)
    · refine z_iconst (v := 0) (pc := 16) C dX2_has_16 (by decide) ?_
      exact z_zret (pc := 17) C hr hlk (by decide) ⟨by first | exact (zb_t ⟨znot_lt ‹¬ i < 0›, znot_le ‹¬ μ 63 5 ≤ i›⟩).symm | exact (zb_f (fun h => absurd ((zle2 _ _).mp h.1) (by have := (zlt _ _).mp ‹i < 0›; omega))).symm | exact (zb_f (fun h => absurd ((zlt _ _).mp h.2) (by have := (zle2 _ _).mp ‹μ 63 5 ≤ i›; omega))).symm, rfl, rfl⟩ (Nat.zero_le _) (Nat.zero_le _) dX2_has_17
    · refine z_iconst (v := 1) (pc := 12) C dX2_has_12 (by decide) ?_
      refine z_goto (tgt := 17) (pc := 13) C dX2_has_13 (by decide) ?_
      exact z_zret (pc := 17) C hr hlk (by decide) ⟨by first | exact (zb_t ⟨znot_lt ‹¬ i < 0›, znot_le ‹¬ μ 63 5 ≤ i›⟩).symm | exact (zb_f (fun h => absurd ((zle2 _ _).mp h.1) (by have := (zlt _ _).mp ‹i < 0›; omega))).symm | exact (zb_f (fun h => absurd ((zlt _ _).mp h.2) (by have := (zle2 _ _).mp ‹μ 63 5 ≤ i›; omega))).symm, rfl, rfl⟩ (Nat.zero_le _) (Nat.zero_le _) dX2_has_17
set_option maxHeartbeats 4000000 in
set_option maxRecDepth 100000 in
theorem c_X2_isLaidBefore (l : Launch) (E : zE) (sa : Nat → Nat) {μ : zM} {ov : Nat → Int64} {i : Int32} (k : Nat) (hi : i = nI k) (hk : k < 8) (d : Int32) : zMi l E sa yX2_isLaidBefore wsX2_isLaidBefore 0 0 0 0 [.ref (zob E 2), .int i, .int d] μ ov (fun r μ1 ov1 => r = zb (μ 11 k < d) ∧ μ1 = μ ∧ ov1 = ov) := by
  refine z_ofMi (cc := cX2_isLaidBefore) (nL := 3) (ret := (some .boolean)) (own := RX2) zfp_X2_isLaidBefore rfl (by simp [Value.category]) (Nat.le_of_ble_eq_true rfl) rfl ?_
  intro p e s m below meth c C hr hlk
  have iX2 : ∀ w ∈ wsX20, w ∈ wsX2_isLaidBefore := by decide +kernel
  have f24 := C.1.2.2.2.2 (.fieldLink RX2 24 "TickFall$Links" "laidOn" "[I") (by decide +kernel)
  show zW p l e (zR 0 0 0 0) s m [Value.ref (zob E 2), Value.int i, Value.int d].toArray below meth c E 3 0 0 (MQ below (zQi E s.heap.size (fun r μ1 ov1 => r = zb (μ 11 k < d) ∧ μ1 = μ ∧ ov1 = ov)) [Value.ref (zob E 2), Value.int i, Value.int d].toArray s 0 0 (zA E s.heap.size)) 0 [some (.ref (zob E 2)), some (.int (i)), some (.int (d))] [] μ ov
  refine z_aloadn (i := 0) (pc := 0) C dX2_isLaidBefore_0 rfl rfl ?_
  refine zg_X2_laidOn (pc := 1) C dX2_isLaidBefore_1 iX2 f24 ?_
  refine z_iloadn (i := 1) (pc := 4) C dX2_isLaidBefore_4 rfl rfl ?_
  refine z_iald (pc := 5) C 11 k (by decide) rfl hi (show k < 8 from by omega) dX2_isLaidBefore_5 ?_
  refine z_iloadn (i := 2) (pc := 6) C dX2_isLaidBefore_6 rfl rfl ?_
  refine z_icmp_ge (tgt := 14) (pc := 7) C dX2_isLaidBefore_7 (by decide) (fun c1 => ?_) (fun c1 => ?_)
  · refine z_iconst (v := 0) (pc := 14) C dX2_isLaidBefore_14 (by decide) ?_
    exact z_zret (pc := 15) C hr hlk (by decide) ⟨by first | exact (zb_t (znot_le ‹¬ d ≤ μ 11 k›)).symm | exact (zb_f (fun h => absurd ((zlt _ _).mp h) (by have := (zle2 _ _).mp ‹d ≤ μ 11 k›; omega))).symm, rfl, rfl⟩ (Nat.zero_le _) (Nat.zero_le _) dX2_isLaidBefore_15
  · refine z_iconst (v := 1) (pc := 10) C dX2_isLaidBefore_10 (by decide) ?_
    refine z_goto (tgt := 15) (pc := 11) C dX2_isLaidBefore_11 (by decide) ?_
    exact z_zret (pc := 15) C hr hlk (by decide) ⟨by first | exact (zb_t (znot_le ‹¬ d ≤ μ 11 k›)).symm | exact (zb_f (fun h => absurd ((zlt _ _).mp h) (by have := (zle2 _ _).mp ‹d ≤ μ 11 k›; omega))).symm, rfl, rfl⟩ (Nat.zero_le _) (Nat.zero_le _) dX2_isLaidBefore_15
set_option maxHeartbeats 4000000 in
set_option maxRecDepth 100000 in
theorem c_X2_setAsymmetry (l : Launch) (E : zE) (sa : Nat → Nat) {μ : zM} {ov : Nat → Int64} {i : Int32} (k : Nat) (hi : i = nI k) (hk : k < 8) (a : Int32) : zMv l E sa yX2_setAsymmetry wsX2_setAsymmetry 0 0 0 0 [.ref (zob E 2), .int i, .int a] μ ov (fun μ1 ov1 => μ1 = zu μ 9 k a ∧ ov1 = ov) := by
  refine z_ofMv (cc := cX2_setAsymmetry) (nL := 3) (ret := none) (own := RX2) zfp_X2_setAsymmetry rfl (by simp [Value.category]) (Nat.le_of_ble_eq_true rfl) rfl ?_
  intro p e s m below meth c C hr hlk
  have iX2 : ∀ w ∈ wsX20, w ∈ wsX2_setAsymmetry := by decide +kernel
  have f18 := C.1.2.2.2.2 (.fieldLink RX2 18 "TickFall$Links" "asymmetries" "[I") (by decide +kernel)
  show zW p l e (zR 0 0 0 0) s m [Value.ref (zob E 2), Value.int i, Value.int a].toArray below meth c E 3 0 0 (MQ below (zQv E s.heap.size (fun μ1 ov1 => μ1 = zu μ 9 k a ∧ ov1 = ov)) [Value.ref (zob E 2), Value.int i, Value.int a].toArray s 0 0 (zA E s.heap.size)) 0 [some (.ref (zob E 2)), some (.int (i)), some (.int (a))] [] μ ov
  refine z_aloadn (i := 0) (pc := 0) C dX2_setAsymmetry_0 rfl rfl ?_
  refine zg_X2_asymmetries (pc := 1) C dX2_setAsymmetry_1 iX2 f18 ?_
  refine z_iloadn (i := 1) (pc := 4) C dX2_setAsymmetry_4 rfl rfl ?_
  refine z_iloadn (i := 2) (pc := 5) C dX2_setAsymmetry_5 rfl rfl ?_
  refine z_iast (pc := 6) C 9 k (by decide) rfl hi (show k < 8 from by omega) dX2_setAsymmetry_6 ?_
  exact z_vret (pc := 7) C hr hlk ⟨rfl, rfl⟩ (Nat.zero_le _) (Nat.zero_le _) dX2_setAsymmetry_7
set_option maxHeartbeats 4000000 in
set_option maxRecDepth 100000 in
theorem c_X2_addCycles (l : Launch) (E : zE) (sa : Nat → Nat) {μ : zM} {ov : Nat → Int64} {i : Int32} (k : Nat) (hi : i = nI k) (hk : k < 8) (a : Int32) : zMv l E sa yX2_addCycles wsX2_addCycles 0 0 0 0 [.ref (zob E 2), .int i, .int a] μ ov (fun μ1 ov1 => μ1 = zu μ 10 k (μ 10 k + a) ∧ ov1 = ov) := by
  refine z_ofMv (cc := cX2_addCycles) (nL := 3) (ret := none) (own := RX2) zfp_X2_addCycles rfl (by simp [Value.category]) (Nat.le_of_ble_eq_true rfl) rfl ?_
  intro p e s m below meth c C hr hlk
  have iX2 : ∀ w ∈ wsX20, w ∈ wsX2_addCycles := by decide +kernel
  have f21 := C.1.2.2.2.2 (.fieldLink RX2 21 "TickFall$Links" "cycles" "[I") (by decide +kernel)
  show zW p l e (zR 0 0 0 0) s m [Value.ref (zob E 2), Value.int i, Value.int a].toArray below meth c E 3 0 0 (MQ below (zQv E s.heap.size (fun μ1 ov1 => μ1 = zu μ 10 k (μ 10 k + a) ∧ ov1 = ov)) [Value.ref (zob E 2), Value.int i, Value.int a].toArray s 0 0 (zA E s.heap.size)) 0 [some (.ref (zob E 2)), some (.int (i)), some (.int (a))] [] μ ov
  refine z_aloadn (i := 0) (pc := 0) C dX2_addCycles_0 rfl rfl ?_
  refine zg_X2_cycles (pc := 1) C dX2_addCycles_1 iX2 f21 ?_
  refine z_iloadn (i := 1) (pc := 4) C dX2_addCycles_4 rfl rfl ?_
  refine z_dup2 (pc := 5) C dX2_addCycles_5 rfl rfl ?_
  refine z_iald (pc := 6) C 10 k (by decide) rfl hi (show k < 8 from by omega) dX2_addCycles_6 ?_
  refine z_iloadn (i := 2) (pc := 7) C dX2_addCycles_7 rfl rfl ?_
  refine z_iadd (pc := 8) C dX2_addCycles_8 ?_
  refine z_iast (pc := 9) C 10 k (by decide) rfl hi (show k < 8 from by omega) dX2_addCycles_9 ?_
  exact z_vret (pc := 10) C hr hlk ⟨rfl, rfl⟩ (Nat.zero_le _) (Nat.zero_le _) dX2_addCycles_10
set_option maxHeartbeats 4000000 in
set_option maxRecDepth 100000 in
theorem c_X2_calibrationsOf (l : Launch) (E : zE) (sa : Nat → Nat) {μ : zM} {ov : Nat → Int64} {i : Int32} (k : Nat) (hi : i = nI k) (hk : k < 8) : zMi l E sa yX2_calibrationsOf wsX2_calibrationsOf 0 0 0 0 [.ref (zob E 2), .int i] μ ov (fun r μ1 ov1 => r = μ 12 k ∧ μ1 = μ ∧ ov1 = ov) := by
  refine z_ofMi (cc := cX2_calibrationsOf) (nL := 2) (ret := (some .int)) (own := RX2) zfp_X2_calibrationsOf rfl (by simp [Value.category]) (Nat.le_of_ble_eq_true rfl) rfl ?_
  intro p e s m below meth c C hr hlk
  have iX2 : ∀ w ∈ wsX20, w ∈ wsX2_calibrationsOf := by decide +kernel
  have f27 := C.1.2.2.2.2 (.fieldLink RX2 27 "TickFall$Links" "calibrations" "[I") (by decide +kernel)
  show zW p l e (zR 0 0 0 0) s m [Value.ref (zob E 2), Value.int i].toArray below meth c E 2 0 0 (MQ below (zQi E s.heap.size (fun r μ1 ov1 => r = μ 12 k ∧ μ1 = μ ∧ ov1 = ov)) [Value.ref (zob E 2), Value.int i].toArray s 0 0 (zA E s.heap.size)) 0 [some (.ref (zob E 2)), some (.int (i))] [] μ ov
  refine z_aloadn (i := 0) (pc := 0) C dX2_calibrationsOf_0 rfl rfl ?_
  refine zg_X2_calibrations (pc := 1) C dX2_calibrationsOf_1 iX2 f27 ?_
  refine z_iloadn (i := 1) (pc := 4) C dX2_calibrationsOf_4 rfl rfl ?_
  refine z_iald (pc := 5) C 12 k (by decide) rfl hi (show k < 8 from by omega) dX2_calibrationsOf_5 ?_
  exact z_iret (pc := 6) C hr hlk ⟨rfl, rfl, rfl⟩ (Nat.zero_le _) (Nat.zero_le _) dX2_calibrationsOf_6
set_option maxHeartbeats 4000000 in
set_option maxRecDepth 100000 in
theorem c_X2_rawOf (l : Launch) (E : zE) (sa : Nat → Nat) {μ : zM} {ov : Nat → Int64} {i : Int32} (k : Nat) (hi : i = nI k) (hk : k < 8) {d : Int32} (t : Nat) (hd : d = nI t) (ht : t < 501) : zMi l E sa yX2_rawOf wsX2_rawOf 0 0 0 0 [.ref (zob E 2), .int i, .int d] μ ov (fun r μ1 ov1 => r = μ (22 + k) t ∧ μ1 = μ ∧ ov1 = ov) := by
  refine z_ofMi (cc := cX2_rawOf) (nL := 3) (ret := (some .int)) (own := RX2) zfp_X2_rawOf rfl (by simp [Value.category]) (Nat.le_of_ble_eq_true rfl) rfl ?_
  intro p e s m below meth c C hr hlk
  have iX2 : ∀ w ∈ wsX20, w ∈ wsX2_rawOf := by decide +kernel
  have f32 := C.1.2.2.2.2 (.fieldLink RX2 32 "TickFall$Links" "raw" "[[I") (by decide +kernel)
  show zW p l e (zR 0 0 0 0) s m [Value.ref (zob E 2), Value.int i, Value.int d].toArray below meth c E 3 0 0 (MQ below (zQi E s.heap.size (fun r μ1 ov1 => r = μ (22 + k) t ∧ μ1 = μ ∧ ov1 = ov)) [Value.ref (zob E 2), Value.int i, Value.int d].toArray s 0 0 (zA E s.heap.size)) 0 [some (.ref (zob E 2)), some (.int (i)), some (.int (d))] [] μ ov
  refine z_aloadn (i := 0) (pc := 0) C dX2_rawOf_0 rfl rfl ?_
  refine zg_X2_raw (pc := 1) C dX2_rawOf_1 iX2 f32 ?_
  refine z_iloadn (i := 1) (pc := 4) C dX2_rawOf_4 rfl rfl ?_
  refine z_aald5 (pc := 5) C k hi (by omega) dX2_rawOf_5 ?_
  refine z_iloadn (i := 2) (pc := 6) C dX2_rawOf_6 rfl rfl ?_
  refine z_iald (pc := 7) C (22 + k) t (by omega) (zkd22 (by omega)) hd (zix22 (by omega) (by omega)) dX2_rawOf_7 ?_
  exact z_iret (pc := 8) C hr hlk ⟨rfl, rfl, rfl⟩ (Nat.zero_le _) (Nat.zero_le _) dX2_rawOf_8
set_option maxHeartbeats 4000000 in
set_option maxRecDepth 100000 in
theorem c_X2_correctedOf (l : Launch) (E : zE) (sa : Nat → Nat) {μ : zM} {ov : Nat → Int64} {i : Int32} (k : Nat) (hi : i = nI k) (hk : k < 8) {d : Int32} (t : Nat) (hd : d = nI t) (ht : t < 501) : zMi l E sa yX2_correctedOf wsX2_correctedOf 0 0 0 0 [.ref (zob E 2), .int i, .int d] μ ov (fun r μ1 ov1 => r = μ (22 + k) t - μ (30 + k) t ∧ μ1 = μ ∧ ov1 = ov) := by
  refine z_ofMi (cc := cX2_correctedOf) (nL := 3) (ret := (some .int)) (own := RX2) zfp_X2_correctedOf rfl (by simp [Value.category]) (Nat.le_of_ble_eq_true rfl) rfl ?_
  intro p e s m below meth c C hr hlk
  have iX2 : ∀ w ∈ wsX20, w ∈ wsX2_correctedOf := by decide +kernel
  have f32 := C.1.2.2.2.2 (.fieldLink RX2 32 "TickFall$Links" "raw" "[[I") (by decide +kernel)
  have f35 := C.1.2.2.2.2 (.fieldLink RX2 35 "TickFall$Links" "offsets" "[[I") (by decide +kernel)
  show zW p l e (zR 0 0 0 0) s m [Value.ref (zob E 2), Value.int i, Value.int d].toArray below meth c E 3 0 0 (MQ below (zQi E s.heap.size (fun r μ1 ov1 => r = μ (22 + k) t - μ (30 + k) t ∧ μ1 = μ ∧ ov1 = ov)) [Value.ref (zob E 2), Value.int i, Value.int d].toArray s 0 0 (zA E s.heap.size)) 0 [some (.ref (zob E 2)), some (.int (i)), some (.int (d))] [] μ ov
  refine z_aloadn (i := 0) (pc := 0) C dX2_correctedOf_0 rfl rfl ?_
  refine zg_X2_raw (pc := 1) C dX2_correctedOf_1 iX2 f32 ?_
  refine z_iloadn (i := 1) (pc := 4) C dX2_correctedOf_4 rfl rfl ?_
  refine z_aald5 (pc := 5) C k hi (by omega) dX2_correctedOf_5 ?_
  refine z_iloadn (i := 2) (pc := 6) C dX2_correctedOf_6 rfl rfl ?_
  refine z_iald (pc := 7) C (22 + k) t (by omega) (zkd22 (by omega)) hd (zix22 (by omega) (by omega)) dX2_correctedOf_7 ?_
  refine z_aloadn (i := 0) (pc := 8) C dX2_correctedOf_8 rfl rfl ?_
  refine zg_X2_offsets (pc := 9) C dX2_correctedOf_9 iX2 f35 ?_
  refine z_iloadn (i := 1) (pc := 12) C dX2_correctedOf_12 rfl rfl ?_
  refine z_aald6 (pc := 13) C k hi (by omega) dX2_correctedOf_13 ?_
  refine z_iloadn (i := 2) (pc := 14) C dX2_correctedOf_14 rfl rfl ?_
  refine z_iald (pc := 15) C (30 + k) t (by omega) (zkd30 (by omega)) hd (zix30 (by omega) (by omega)) dX2_correctedOf_15 ?_
  refine z_isub (pc := 16) C dX2_correctedOf_16 ?_
  exact z_iret (pc := 17) C hr hlk ⟨rfl, rfl, rfl⟩ (Nat.zero_le _) (Nat.zero_le _) dX2_correctedOf_17
set_option maxHeartbeats 4000000 in
set_option maxRecDepth 100000 in
theorem c_X2_otherThanZero (l : Launch) (E : zE) (sa : Nat → Nat) {μ : zM} {ov : Nat → Int64} {i : Int32} (k : Nat) (hi : i = nI k) (hk : k < 8) : zMi l E sa yX2_otherThanZero wsX2_otherThanZero 0 0 0 0 [.ref (zob E 2), .int i] μ ov (fun r μ1 ov1 => r = (if μ 7 k = 0 then μ 8 k else if μ 8 k = 0 then μ 7 k else -1) ∧ μ1 = μ ∧ ov1 = ov) := by
  refine z_ofMi (cc := cX2_otherThanZero) (nL := 2) (ret := (some .int)) (own := RX2) zfp_X2_otherThanZero rfl (by simp [Value.category]) (Nat.le_of_ble_eq_true rfl) rfl ?_
  intro p e s m below meth c C hr hlk
  have iX2 : ∀ w ∈ wsX20, w ∈ wsX2_otherThanZero := by decide +kernel
  have f9 := C.1.2.2.2.2 (.fieldLink RX2 9 "TickFall$Links" "firsts" "[I") (by decide +kernel)
  have f15 := C.1.2.2.2.2 (.fieldLink RX2 15 "TickFall$Links" "seconds" "[I") (by decide +kernel)
  show zW p l e (zR 0 0 0 0) s m [Value.ref (zob E 2), Value.int i].toArray below meth c E 2 0 0 (MQ below (zQi E s.heap.size (fun r μ1 ov1 => r = (if μ 7 k = 0 then μ 8 k else if μ 8 k = 0 then μ 7 k else -1) ∧ μ1 = μ ∧ ov1 = ov)) [Value.ref (zob E 2), Value.int i].toArray s 0 0 (zA E s.heap.size)) 0 [some (.ref (zob E 2)), some (.int (i))] [] μ ov
  refine z_aloadn (i := 0) (pc := 0) C dX2_otherThanZero_0 rfl rfl ?_
  refine zg_X2_firsts (pc := 1) C dX2_otherThanZero_1 iX2 f9 ?_
  refine z_iloadn (i := 1) (pc := 4) C dX2_otherThanZero_4 rfl rfl ?_
  refine z_iald (pc := 5) C 7 k (by decide) rfl hi (show k < 8 from by omega) dX2_otherThanZero_5 ?_
  refine z_if_ne (tgt := 16) (pc := 6) C dX2_otherThanZero_6 (by decide) (fun c_1 => ?_) (fun c_1 => ?_)
  · refine z_aloadn (i := 0) (pc := 16) C dX2_otherThanZero_16 rfl rfl ?_
    refine zg_X2_seconds (pc := 17) C dX2_otherThanZero_17 iX2 f15 ?_
    refine z_iloadn (i := 1) (pc := 20) C dX2_otherThanZero_20 rfl rfl ?_
    refine z_iald (pc := 21) C 8 k (by decide) rfl hi (show k < 8 from by omega) dX2_otherThanZero_21 ?_
    refine z_if_ne (tgt := 34) (pc := 22) C dX2_otherThanZero_22 (by decide) (fun c_2 => ?_) (fun c_2 => ?_)
    · refine z_iconst (v := -1) (pc := 34) C dX2_otherThanZero_34 (by decide) ?_
      exact z_iret (pc := 35) C hr hlk ⟨by first | rw [if_neg c_1, if_pos c_2] | rw [if_neg c_1, if_neg c_2], rfl, rfl⟩ (Nat.zero_le _) (Nat.zero_le _) dX2_otherThanZero_35
    · refine z_aloadn (i := 0) (pc := 25) C dX2_otherThanZero_25 rfl rfl ?_
      refine zg_X2_firsts (pc := 26) C dX2_otherThanZero_26 iX2 f9 ?_
      refine z_iloadn (i := 1) (pc := 29) C dX2_otherThanZero_29 rfl rfl ?_
      refine z_iald (pc := 30) C 7 k (by decide) rfl hi (show k < 8 from by omega) dX2_otherThanZero_30 ?_
      refine z_goto (tgt := 35) (pc := 31) C dX2_otherThanZero_31 (by decide) ?_
      exact z_iret (pc := 35) C hr hlk ⟨by first | rw [if_neg c_1, if_pos c_2] | rw [if_neg c_1, if_neg c_2], rfl, rfl⟩ (Nat.zero_le _) (Nat.zero_le _) dX2_otherThanZero_35
  · refine z_aloadn (i := 0) (pc := 9) C dX2_otherThanZero_9 rfl rfl ?_
    refine zg_X2_seconds (pc := 10) C dX2_otherThanZero_10 iX2 f15 ?_
    refine z_iloadn (i := 1) (pc := 13) C dX2_otherThanZero_13 rfl rfl ?_
    refine z_iald (pc := 14) C 8 k (by decide) rfl hi (show k < 8 from by omega) dX2_otherThanZero_14 ?_
    exact z_iret (pc := 15) C hr hlk ⟨by rw [if_pos c_1], rfl, rfl⟩ (Nat.zero_le _) (Nat.zero_le _) dX2_otherThanZero_15
set_option maxHeartbeats 4000000 in
set_option maxRecDepth 100000 in
theorem c_X2_aheadOfZero (l : Launch) (E : zE) (sa : Nat → Nat) {μ : zM} {ov : Nat → Int64} {i : Int32} (k : Nat) (hi : i = nI k) (hk : k < 8) {d : Int32} (t : Nat) (hd : d = nI t) (ht : t < 501) : zMi l E sa yX2_aheadOfZero wsX2_aheadOfZero 1 22 0 0 [.ref (zob E 2), .int i, .int d] μ ov (fun r μ1 ov1 => r = (if μ 7 k = 0 then -(μ (22 + k) t - μ (30 + k) t) else μ (22 + k) t - μ (30 + k) t) ∧ μ1 = μ ∧ ov1 = ov) := by
  refine z_ofMi (cc := cX2_aheadOfZero) (nL := 4) (ret := (some .int)) (own := RX2) zfp_X2_aheadOfZero rfl (by simp [Value.category]) (Nat.le_of_ble_eq_true rfl) rfl ?_
  intro p e s m below meth c C hr hlk
  have iX2 : ∀ w ∈ wsX20, w ∈ wsX2_aheadOfZero := by decide +kernel
  have f9 := C.1.2.2.2.2 (.fieldLink RX2 9 "TickFall$Links" "firsts" "[I") (by decide +kernel)
  show zW p l e (zR 1 22 0 0) s m [Value.ref (zob E 2), Value.int i, Value.int d].toArray below meth c E 4 0 0 (MQ below (zQi E s.heap.size (fun r μ1 ov1 => r = (if μ 7 k = 0 then -(μ (22 + k) t - μ (30 + k) t) else μ (22 + k) t - μ (30 + k) t) ∧ μ1 = μ ∧ ov1 = ov)) [Value.ref (zob E 2), Value.int i, Value.int d].toArray s 0 0 (zA E s.heap.size)) 0 [some (.ref (zob E 2)), some (.int (i)), some (.int (d)), none] [] μ ov
  refine z_aloadn (i := 0) (pc := 0) C dX2_aheadOfZero_0 rfl rfl ?_
  refine z_iloadn (i := 1) (pc := 1) C dX2_aheadOfZero_1 rfl rfl ?_
  refine z_iloadn (i := 2) (pc := 2) C dX2_aheadOfZero_2 rfl rfl ?_
  refine z_callVi (pc := 3) (n := 2) (As := [.int (i), .int (d)]) (rest := []) C (c_X2_correctedOf l E sa k hi hk t hd ht) gX2_aheadOfZero_X2_correctedOf rfl zfV_X2_correctedOf ⟨Nat.le_of_ble_eq_true rfl, Nat.le_of_ble_eq_true rfl⟩ rfl (zRec_X2 E) rfl (Nat.le_of_ble_eq_true rfl) ⟨Nat.zero_le _, Nat.zero_le _⟩ dX2_aheadOfZero_3 (fun r9 μ9 ov9 hp => ?_)
  have e1 := hp.1.symm
  have e2 := hp.2.1.symm
  have e3 := hp.2.2.symm
  clear hp
  subst e1 e2 e3
  refine z_istore3 (pc := 6) C (by decide) (fun w hw => by cases hw; exact (show ¬ (1 = 2) from by decide)) dX2_aheadOfZero_6 ?_
  refine z_aloadn (i := 0) (pc := 7) C dX2_aheadOfZero_7 rfl rfl ?_
  refine zg_X2_firsts (pc := 8) C dX2_aheadOfZero_8 iX2 f9 ?_
  refine z_iloadn (i := 1) (pc := 11) C dX2_aheadOfZero_11 rfl rfl ?_
  refine z_iald (pc := 12) C 7 k (by decide) rfl hi (show k < 8 from by omega) dX2_aheadOfZero_12 ?_
  refine z_if_ne (tgt := 21) (pc := 13) C dX2_aheadOfZero_13 (by decide) (fun c_1 => ?_) (fun c_1 => ?_)
  · refine z_iloadn (i := 3) (pc := 21) C dX2_aheadOfZero_21 rfl rfl ?_
    exact z_iret (pc := 22) C hr hlk ⟨by first | rw [if_pos c_1] | rw [if_neg c_1], rfl, rfl⟩ (Nat.zero_le _) (Nat.zero_le _) dX2_aheadOfZero_22
  · refine z_iloadn (i := 3) (pc := 16) C dX2_aheadOfZero_16 rfl rfl ?_
    refine z_ineg (pc := 17) C dX2_aheadOfZero_17 ?_
    refine z_goto (tgt := 22) (pc := 18) C dX2_aheadOfZero_18 (by decide) ?_
    exact z_iret (pc := 22) C hr hlk ⟨by first | rw [if_pos c_1] | rw [if_neg c_1], rfl, rfl⟩ (Nat.zero_le _) (Nat.zero_le _) dX2_aheadOfZero_22
set_option maxHeartbeats 4000000 in
set_option maxRecDepth 100000 in
theorem c_X2_bothBits (l : Launch) (E : zE) (sa : Nat → Nat) {μ : zM} {ov : Nat → Int64} {i : Int32} (k : Nat) (hi : i = nI k) (hk : k < 8) : zMi l E sa yX2_bothBits wsX2_bothBits 0 0 0 0 [.ref (zob E 2), .int i] μ ov (fun r μ1 ov1 => r = zbits (μ 7 k) (μ 8 k) ∧ μ1 = μ ∧ ov1 = ov) := by
  refine z_ofMi (cc := cX2_bothBits) (nL := 2) (ret := (some .int)) (own := RX2) zfp_X2_bothBits rfl (by simp [Value.category]) (Nat.le_of_ble_eq_true rfl) rfl ?_
  intro p e s m below meth c C hr hlk
  have iX2 : ∀ w ∈ wsX20, w ∈ wsX2_bothBits := by decide +kernel
  have f9 := C.1.2.2.2.2 (.fieldLink RX2 9 "TickFall$Links" "firsts" "[I") (by decide +kernel)
  have f15 := C.1.2.2.2.2 (.fieldLink RX2 15 "TickFall$Links" "seconds" "[I") (by decide +kernel)
  show zW p l e (zR 0 0 0 0) s m [Value.ref (zob E 2), Value.int i].toArray below meth c E 2 0 0 (MQ below (zQi E s.heap.size (fun r μ1 ov1 => r = zbits (μ 7 k) (μ 8 k) ∧ μ1 = μ ∧ ov1 = ov)) [Value.ref (zob E 2), Value.int i].toArray s 0 0 (zA E s.heap.size)) 0 [some (.ref (zob E 2)), some (.int (i))] [] μ ov
  refine z_iconst (v := 1) (pc := 0) C dX2_bothBits_0 (by decide) ?_
  refine z_aloadn (i := 0) (pc := 1) C dX2_bothBits_1 rfl rfl ?_
  refine zg_X2_firsts (pc := 2) C dX2_bothBits_2 iX2 f9 ?_
  refine z_iloadn (i := 1) (pc := 5) C dX2_bothBits_5 rfl rfl ?_
  refine z_iald (pc := 6) C 7 k (by decide) rfl hi (show k < 8 from by omega) dX2_bothBits_6 ?_
  refine z_ishl (pc := 7) C dX2_bothBits_7 ?_
  refine z_iconst (v := 1) (pc := 8) C dX2_bothBits_8 (by decide) ?_
  refine z_aloadn (i := 0) (pc := 9) C dX2_bothBits_9 rfl rfl ?_
  refine zg_X2_seconds (pc := 10) C dX2_bothBits_10 iX2 f15 ?_
  refine z_iloadn (i := 1) (pc := 13) C dX2_bothBits_13 rfl rfl ?_
  refine z_iald (pc := 14) C 8 k (by decide) rfl hi (show k < 8 from by omega) dX2_bothBits_14 ?_
  refine z_ishl (pc := 15) C dX2_bothBits_15 ?_
  refine z_ior (pc := 16) C dX2_bothBits_16 ?_
  exact z_iret (pc := 17) C hr hlk ⟨rfl, rfl, rfl⟩ (Nat.zero_le _) (Nat.zero_le _) dX2_bothBits_17
set_option maxHeartbeats 4000000 in
set_option maxRecDepth 100000 in
theorem c_X2_areRing (l : Launch) (E : zE) (sa : Nat → Nat) {μ : zM} {ov : Nat → Int64} {i1 i2 i3 : Int32} (k1 k2 k3 : Nat) (h1 : i1 = nI k1) (h2 : i2 = nI k2) (h3 : i3 = nI k3) (g1 : k1 < 8) (g2 : k2 < 8) (g3 : k3 < 8) : zMi l E sa yX2_areRing wsX2_areRing 1 21 0 0 [.ref (zob E 2), .int i1, .int i2, .int i3] μ ov (fun r μ1 ov1 => r = zb (zbits (μ 7 k1) (μ 8 k1) ^^^ zbits (μ 7 k2) (μ 8 k2) ^^^ zbits (μ 7 k3) (μ 8 k3) = 0) ∧ μ1 = μ ∧ ov1 = ov) := by
  refine z_ofMi (cc := cX2_areRing) (nL := 4) (ret := (some .boolean)) (own := RX2) zfp_X2_areRing rfl (by simp [Value.category]) (Nat.le_of_ble_eq_true rfl) rfl ?_
  intro p e s m below meth c C hr hlk
  show zW p l e (zR 1 21 0 0) s m [Value.ref (zob E 2), Value.int i1, Value.int i2, Value.int i3].toArray below meth c E 4 0 0 (MQ below (zQi E s.heap.size (fun r μ1 ov1 => r = zb (zbits (μ 7 k1) (μ 8 k1) ^^^ zbits (μ 7 k2) (μ 8 k2) ^^^ zbits (μ 7 k3) (μ 8 k3) = 0) ∧ μ1 = μ ∧ ov1 = ov)) [Value.ref (zob E 2), Value.int i1, Value.int i2, Value.int i3].toArray s 0 0 (zA E s.heap.size)) 0 [some (.ref (zob E 2)), some (.int (i1)), some (.int (i2)), some (.int (i3))] [] μ ov
  refine z_aloadn (i := 0) (pc := 0) C dX2_areRing_0 rfl rfl ?_
  refine z_iloadn (i := 1) (pc := 1) C dX2_areRing_1 rfl rfl ?_
  refine z_callVi (pc := 2) (n := 1) (As := [.int (i1)]) (rest := []) C (c_X2_bothBits l E sa k1 h1 g1) gX2_areRing_X2_bothBits rfl zfV_X2_bothBits ⟨Nat.le_of_ble_eq_true rfl, Nat.le_of_ble_eq_true rfl⟩ rfl (zRec_X2 E) rfl (Nat.le_of_ble_eq_true rfl) ⟨Nat.zero_le _, Nat.zero_le _⟩ dX2_areRing_2 (fun r9 μ9 ov9 hp => ?_)
  have e1 := hp.1.symm
  have e2 := hp.2.1.symm
  have e3 := hp.2.2.symm
  clear hp
  subst e1 e2 e3
  refine z_aloadn (i := 0) (pc := 5) C dX2_areRing_5 rfl rfl ?_
  refine z_iloadn (i := 2) (pc := 6) C dX2_areRing_6 rfl rfl ?_
  refine z_callVi (pc := 7) (n := 1) (As := [.int (i2)]) (rest := [.int (zbits (μ 7 k1) (μ 8 k1))]) C (c_X2_bothBits l E sa k2 h2 g2) gX2_areRing_X2_bothBits rfl zfV_X2_bothBits ⟨Nat.le_of_ble_eq_true rfl, Nat.le_of_ble_eq_true rfl⟩ rfl (zRec_X2 E) rfl (Nat.le_of_ble_eq_true rfl) ⟨Nat.zero_le _, Nat.zero_le _⟩ dX2_areRing_7 (fun r9 μ9 ov9 hp => ?_)
  have e1 := hp.1.symm
  have e2 := hp.2.1.symm
  have e3 := hp.2.2.symm
  clear hp
  subst e1 e2 e3
  refine z_ixor (pc := 10) C dX2_areRing_10 ?_
  refine z_aloadn (i := 0) (pc := 11) C dX2_areRing_11 rfl rfl ?_
  refine z_iloadn (i := 3) (pc := 12) C dX2_areRing_12 rfl rfl ?_
  refine z_callVi (pc := 13) (n := 1) (As := [.int (i3)]) (rest := [.int ((zbits (μ 7 k1) (μ 8 k1)) ^^^ (zbits (μ 7 k2) (μ 8 k2)))]) C (c_X2_bothBits l E sa k3 h3 g3) gX2_areRing_X2_bothBits rfl zfV_X2_bothBits ⟨Nat.le_of_ble_eq_true rfl, Nat.le_of_ble_eq_true rfl⟩ rfl (zRec_X2 E) rfl (Nat.le_of_ble_eq_true rfl) ⟨Nat.zero_le _, Nat.zero_le _⟩ dX2_areRing_13 (fun r9 μ9 ov9 hp => ?_)
  have e1 := hp.1.symm
  have e2 := hp.2.1.symm
  have e3 := hp.2.2.symm
  clear hp
  subst e1 e2 e3
  refine z_ixor (pc := 16) C dX2_areRing_16 ?_
  refine z_if_ne (tgt := 24) (pc := 17) C dX2_areRing_17 (by decide) (fun c_1 => ?_) (fun c_1 => ?_)
  · refine z_iconst (v := 0) (pc := 24) C dX2_areRing_24 (by decide) ?_
    exact z_zret (pc := 25) C hr hlk (by decide) ⟨by first | exact (zb_t c_1).symm | exact (zb_f c_1).symm, rfl, rfl⟩ (Nat.zero_le _) (Nat.zero_le _) dX2_areRing_25
  · refine z_iconst (v := 1) (pc := 20) C dX2_areRing_20 (by decide) ?_
    refine z_goto (tgt := 25) (pc := 21) C dX2_areRing_21 (by decide) ?_
    exact z_zret (pc := 25) C hr hlk (by decide) ⟨by first | exact (zb_t c_1).symm | exact (zb_f c_1).symm, rfl, rfl⟩ (Nat.zero_le _) (Nat.zero_le _) dX2_areRing_25
set_option maxHeartbeats 4000000 in
set_option maxRecDepth 100000 in
theorem c_X2_signBehind (l : Launch) (E : zE) (sa : Nat → Nat) {μ : zM} {ov : Nat → Int64} {i1 i2 : Int32} (k1 k2 : Nat) (h1 : i1 = nI k1) (h2 : i2 = nI k2) (g1 : k1 < 8) (g2 : k2 < 8) : zMi l E sa yX2_signBehind wsX2_signBehind 0 0 0 0 [.ref (zob E 2), .int i1, .int i2] μ ov (fun r μ1 ov1 => r = zsgn μ k1 k2 ∧ μ1 = μ ∧ ov1 = ov) := by
  refine z_ofMi (cc := cX2_signBehind) (nL := 3) (ret := (some .int)) (own := RX2) zfp_X2_signBehind rfl (by simp [Value.category]) (Nat.le_of_ble_eq_true rfl) rfl ?_
  intro p e s m below meth c C hr hlk
  have iX2 : ∀ w ∈ wsX20, w ∈ wsX2_signBehind := by decide +kernel
  have f9 := C.1.2.2.2.2 (.fieldLink RX2 9 "TickFall$Links" "firsts" "[I") (by decide +kernel)
  have f15 := C.1.2.2.2.2 (.fieldLink RX2 15 "TickFall$Links" "seconds" "[I") (by decide +kernel)
  show zW p l e (zR 0 0 0 0) s m [Value.ref (zob E 2), Value.int i1, Value.int i2].toArray below meth c E 3 0 0 (MQ below (zQi E s.heap.size (fun r μ1 ov1 => r = zsgn μ k1 k2 ∧ μ1 = μ ∧ ov1 = ov)) [Value.ref (zob E 2), Value.int i1, Value.int i2].toArray s 0 0 (zA E s.heap.size)) 0 [some (.ref (zob E 2)), some (.int (i1)), some (.int (i2))] [] μ ov
  refine z_aloadn (i := 0) (pc := 0) C dX2_signBehind_0 rfl rfl ?_
  refine zg_X2_firsts (pc := 1) C dX2_signBehind_1 iX2 f9 ?_
  refine z_iloadn (i := 2) (pc := 4) C dX2_signBehind_4 rfl rfl ?_
  refine z_iald (pc := 5) C 7 k2 (by decide) rfl h2 (show k2 < 8 from by omega) dX2_signBehind_5 ?_
  refine z_aloadn (i := 0) (pc := 6) C dX2_signBehind_6 rfl rfl ?_
  refine zg_X2_seconds (pc := 7) C dX2_signBehind_7 iX2 f15 ?_
  refine z_iloadn (i := 1) (pc := 10) C dX2_signBehind_10 rfl rfl ?_
  refine z_iald (pc := 11) C 8 k1 (by decide) rfl h1 (show k1 < 8 from by omega) dX2_signBehind_11 ?_
  refine z_icmp_eq (tgt := 30) (pc := 12) C dX2_signBehind_12 (by decide) (fun c_1 => ?_) (fun c_1 => ?_)
  · refine z_iconst (v := 1) (pc := 30) C dX2_signBehind_30 (by decide) ?_
    refine z_goto (tgt := 35) (pc := 31) C dX2_signBehind_31 (by decide) ?_
    exact z_iret (pc := 35) C hr hlk ⟨by unfold zsgn; first | rw [if_pos (Or.inl c_1)] | rw [if_pos (Or.inr c_2)] | rw [if_neg (fun h => h.elim c_1 c_2)], rfl, rfl⟩ (Nat.zero_le _) (Nat.zero_le _) dX2_signBehind_35
  · refine z_aloadn (i := 0) (pc := 15) C dX2_signBehind_15 rfl rfl ?_
    refine zg_X2_seconds (pc := 16) C dX2_signBehind_16 iX2 f15 ?_
    refine z_iloadn (i := 2) (pc := 19) C dX2_signBehind_19 rfl rfl ?_
    refine z_iald (pc := 20) C 8 k2 (by decide) rfl h2 (show k2 < 8 from by omega) dX2_signBehind_20 ?_
    refine z_aloadn (i := 0) (pc := 21) C dX2_signBehind_21 rfl rfl ?_
    refine zg_X2_firsts (pc := 22) C dX2_signBehind_22 iX2 f9 ?_
    refine z_iloadn (i := 1) (pc := 25) C dX2_signBehind_25 rfl rfl ?_
    refine z_iald (pc := 26) C 7 k1 (by decide) rfl h1 (show k1 < 8 from by omega) dX2_signBehind_26 ?_
    refine z_icmp_ne (tgt := 34) (pc := 27) C dX2_signBehind_27 (by decide) (fun c_2 => ?_) (fun c_2 => ?_)
    · refine z_iconst (v := -1) (pc := 34) C dX2_signBehind_34 (by decide) ?_
      exact z_iret (pc := 35) C hr hlk ⟨by unfold zsgn; first | rw [if_pos (Or.inl c_1)] | rw [if_pos (Or.inr c_2)] | rw [if_neg (fun h => h.elim c_1 c_2)], rfl, rfl⟩ (Nat.zero_le _) (Nat.zero_le _) dX2_signBehind_35
    · refine z_iconst (v := 1) (pc := 30) C dX2_signBehind_30 (by decide) ?_
      refine z_goto (tgt := 35) (pc := 31) C dX2_signBehind_31 (by decide) ?_
      exact z_iret (pc := 35) C hr hlk ⟨by unfold zsgn; first | rw [if_pos (Or.inl c_1)] | rw [if_pos (Or.inr c_2)] | rw [if_neg (fun h => h.elim c_1 c_2)], rfl, rfl⟩ (Nat.zero_le _) (Nat.zero_le _) dX2_signBehind_35
set_option maxHeartbeats 4000000 in
set_option maxRecDepth 100000 in
theorem c_X2_around (l : Launch) (E : zE) (sa : Nat → Nat) {μ : zM} {ov : Nat → Int64} {i1 i2 i3 : Int32} (k1 k2 k3 : Nat) (h1 : i1 = nI k1) (h2 : i2 = nI k2) (h3 : i3 = nI k3) (g1 : k1 < 8) (g2 : k2 < 8) (g3 : k3 < 8) {d : Int32} (t : Nat) (hd : d = nI t) (ht : t < 501) : zMi l E sa yX2_around wsX2_around 1 22 0 0 [.ref (zob E 2), .int i1, .int i2, .int i3, .int d] μ ov (fun r μ1 ov1 => r = zcorX μ k1 t + zsgn μ k1 k2 * zcorX μ k2 t + zsgn μ k1 k3 * zcorX μ k3 t ∧ μ1 = μ ∧ ov1 = ov) := by
  refine z_ofMi (cc := cX2_around) (nL := 5) (ret := (some .int)) (own := RX2) zfp_X2_around rfl (by simp [Value.category]) (Nat.le_of_ble_eq_true rfl) rfl ?_
  intro p e s m below meth c C hr hlk
  show zW p l e (zR 1 22 0 0) s m [Value.ref (zob E 2), Value.int i1, Value.int i2, Value.int i3, Value.int d].toArray below meth c E 5 0 0 (MQ below (zQi E s.heap.size (fun r μ1 ov1 => r = zcorX μ k1 t + zsgn μ k1 k2 * zcorX μ k2 t + zsgn μ k1 k3 * zcorX μ k3 t ∧ μ1 = μ ∧ ov1 = ov)) [Value.ref (zob E 2), Value.int i1, Value.int i2, Value.int i3, Value.int d].toArray s 0 0 (zA E s.heap.size)) 0 [some (.ref (zob E 2)), some (.int (i1)), some (.int (i2)), some (.int (i3)), some (.int (d))] [] μ ov
  refine z_aloadn (i := 0) (pc := 0) C dX2_around_0 rfl rfl ?_
  refine z_iloadn (i := 1) (pc := 1) C dX2_around_1 rfl rfl ?_
  refine z_iload (i := 4) (pc := 2) C dX2_around_2 rfl ?_
  refine z_callVi (pc := 4) (n := 2) (As := [.int (i1), .int (d)]) (rest := []) C (c_X2_correctedOf l E sa k1 h1 g1 t hd ht) gX2_around_X2_correctedOf rfl zfV_X2_correctedOf ⟨Nat.le_of_ble_eq_true rfl, Nat.le_of_ble_eq_true rfl⟩ rfl (zRec_X2 E) rfl (Nat.le_of_ble_eq_true rfl) ⟨Nat.zero_le _, Nat.zero_le _⟩ dX2_around_4 (fun r9 μ9 ov9 hp => ?_)
  have e1 := hp.1.symm
  have e2 := hp.2.1.symm
  have e3 := hp.2.2.symm
  clear hp
  subst e1 e2 e3
  refine z_aloadn (i := 0) (pc := 7) C dX2_around_7 rfl rfl ?_
  refine z_iloadn (i := 1) (pc := 8) C dX2_around_8 rfl rfl ?_
  refine z_iloadn (i := 2) (pc := 9) C dX2_around_9 rfl rfl ?_
  refine z_callVi (pc := 10) (n := 2) (As := [.int (i1), .int (i2)]) (rest := [.int (zcorX μ k1 t)]) C (c_X2_signBehind l E sa k1 k2 h1 h2 g1 g2) gX2_around_X2_signBehind rfl zfV_X2_signBehind ⟨Nat.le_of_ble_eq_true rfl, Nat.le_of_ble_eq_true rfl⟩ rfl (zRec_X2 E) rfl (Nat.le_of_ble_eq_true rfl) ⟨Nat.zero_le _, Nat.zero_le _⟩ dX2_around_10 (fun r9 μ9 ov9 hp => ?_)
  have e1 := hp.1.symm
  have e2 := hp.2.1.symm
  have e3 := hp.2.2.symm
  clear hp
  subst e1 e2 e3
  refine z_aloadn (i := 0) (pc := 13) C dX2_around_13 rfl rfl ?_
  refine z_iloadn (i := 2) (pc := 14) C dX2_around_14 rfl rfl ?_
  refine z_iload (i := 4) (pc := 15) C dX2_around_15 rfl ?_
  refine z_callVi (pc := 17) (n := 2) (As := [.int (i2), .int (d)]) (rest := [.int (zsgn μ k1 k2), .int (zcorX μ k1 t)]) C (c_X2_correctedOf l E sa k2 h2 g2 t hd ht) gX2_around_X2_correctedOf rfl zfV_X2_correctedOf ⟨Nat.le_of_ble_eq_true rfl, Nat.le_of_ble_eq_true rfl⟩ rfl (zRec_X2 E) rfl (Nat.le_of_ble_eq_true rfl) ⟨Nat.zero_le _, Nat.zero_le _⟩ dX2_around_17 (fun r9 μ9 ov9 hp => ?_)
  have e1 := hp.1.symm
  have e2 := hp.2.1.symm
  have e3 := hp.2.2.symm
  clear hp
  subst e1 e2 e3
  refine z_imul (pc := 20) C dX2_around_20 ?_
  refine z_iadd (pc := 21) C dX2_around_21 ?_
  refine z_aloadn (i := 0) (pc := 22) C dX2_around_22 rfl rfl ?_
  refine z_iloadn (i := 1) (pc := 23) C dX2_around_23 rfl rfl ?_
  refine z_iloadn (i := 3) (pc := 24) C dX2_around_24 rfl rfl ?_
  refine z_callVi (pc := 25) (n := 2) (As := [.int (i1), .int (i3)]) (rest := [.int ((zcorX μ k1 t) + ((zsgn μ k1 k2) * (zcorX μ k2 t)))]) C (c_X2_signBehind l E sa k1 k3 h1 h3 g1 g3) gX2_around_X2_signBehind rfl zfV_X2_signBehind ⟨Nat.le_of_ble_eq_true rfl, Nat.le_of_ble_eq_true rfl⟩ rfl (zRec_X2 E) rfl (Nat.le_of_ble_eq_true rfl) ⟨Nat.zero_le _, Nat.zero_le _⟩ dX2_around_25 (fun r9 μ9 ov9 hp => ?_)
  have e1 := hp.1.symm
  have e2 := hp.2.1.symm
  have e3 := hp.2.2.symm
  clear hp
  subst e1 e2 e3
  refine z_aloadn (i := 0) (pc := 28) C dX2_around_28 rfl rfl ?_
  refine z_iloadn (i := 3) (pc := 29) C dX2_around_29 rfl rfl ?_
  refine z_iload (i := 4) (pc := 30) C dX2_around_30 rfl ?_
  refine z_callVi (pc := 32) (n := 2) (As := [.int (i3), .int (d)]) (rest := [.int (zsgn μ k1 k3), .int ((zcorX μ k1 t) + ((zsgn μ k1 k2) * (zcorX μ k2 t)))]) C (c_X2_correctedOf l E sa k3 h3 g3 t hd ht) gX2_around_X2_correctedOf rfl zfV_X2_correctedOf ⟨Nat.le_of_ble_eq_true rfl, Nat.le_of_ble_eq_true rfl⟩ rfl (zRec_X2 E) rfl (Nat.le_of_ble_eq_true rfl) ⟨Nat.zero_le _, Nat.zero_le _⟩ dX2_around_32 (fun r9 μ9 ov9 hp => ?_)
  have e1 := hp.1.symm
  have e2 := hp.2.1.symm
  have e3 := hp.2.2.symm
  clear hp
  subst e1 e2 e3
  refine z_imul (pc := 35) C dX2_around_35 ?_
  refine z_iadd (pc := 36) C dX2_around_36 ?_
  exact z_iret (pc := 37) C hr hlk ⟨rfl, rfl, rfl⟩ (Nat.zero_le _) (Nat.zero_le _) dX2_around_37
set_option maxHeartbeats 4000000 in
set_option maxRecDepth 100000 in
theorem c_X2_add (l : Launch) (E : zE) (sa : Nat → Nat) {μ : zM} {ov : Nat → Int64} {a b c9 t : Int32} (n : Nat) (hc : μ 63 5 = nI n) (hn : n < 8) : zMi l E sa yX2_add wsX2_add 0 0 0 0 [.ref (zob E 2), .int a, .int b, .int c9, .int t] μ ov (fun r μ1 ov1 => r = nI n ∧ μ1 = zu (zu (zu (zu (zu μ 7 n a) 8 n b) 9 n c9) 11 n t) 63 5 (nI (n + 1)) ∧ ov1 = ov) := by
  refine z_ofMi (cc := cX2_add) (nL := 6) (ret := (some .int)) (own := RX2) zfp_X2_add rfl (by simp [Value.category]) (Nat.le_of_ble_eq_true rfl) rfl ?_
  intro p e s m below meth c C hr hlk
  have iX2 : ∀ w ∈ wsX20, w ∈ wsX2_add := by decide +kernel
  have f9 := C.1.2.2.2.2 (.fieldLink RX2 9 "TickFall$Links" "firsts" "[I") (by decide +kernel)
  have f15 := C.1.2.2.2.2 (.fieldLink RX2 15 "TickFall$Links" "seconds" "[I") (by decide +kernel)
  have f18 := C.1.2.2.2.2 (.fieldLink RX2 18 "TickFall$Links" "asymmetries" "[I") (by decide +kernel)
  have f24 := C.1.2.2.2.2 (.fieldLink RX2 24 "TickFall$Links" "laidOn" "[I") (by decide +kernel)
  have f38 := C.1.2.2.2.2 (.fieldLink RX2 38 "TickFall$Links" "count" "I") (by decide +kernel)
  show zW p l e (zR 0 0 0 0) s m [Value.ref (zob E 2), Value.int a, Value.int b, Value.int c9, Value.int t].toArray below meth c E 6 0 0 (MQ below (zQi E s.heap.size (fun r μ1 ov1 => r = nI n ∧ μ1 = zu (zu (zu (zu (zu μ 7 n a) 8 n b) 9 n c9) 11 n t) 63 5 (nI (n + 1)) ∧ ov1 = ov)) [Value.ref (zob E 2), Value.int a, Value.int b, Value.int c9, Value.int t].toArray s 0 0 (zA E s.heap.size)) 0 [some (.ref (zob E 2)), some (.int (a)), some (.int (b)), some (.int (c9)), some (.int (t)), none] [] μ ov
  refine z_aloadn (i := 0) (pc := 0) C dX2_add_0 rfl rfl ?_
  refine zg_X2_count (pc := 1) C dX2_add_1 iX2 f38 ?_
  refine z_topi (y := nI n) hc ?_
  refine z_istore5 (pc := 4) C (by decide) (fun w hw => by cases hw; exact (show ¬ (1 = 2) from by decide)) dX2_add_4 ?_
  refine z_aloadn (i := 0) (pc := 6) C dX2_add_6 rfl rfl ?_
  refine zg_X2_firsts (pc := 7) C dX2_add_7 iX2 f9 ?_
  refine z_iload (i := 5) (pc := 10) C dX2_add_10 rfl ?_
  refine z_iloadn (i := 1) (pc := 12) C dX2_add_12 rfl rfl ?_
  refine z_iast (pc := 13) C 7 n (by decide) rfl rfl (show n < 8 from by omega) dX2_add_13 ?_
  refine z_aloadn (i := 0) (pc := 14) C dX2_add_14 rfl rfl ?_
  refine zg_X2_seconds (pc := 15) C dX2_add_15 iX2 f15 ?_
  refine z_iload (i := 5) (pc := 18) C dX2_add_18 rfl ?_
  refine z_iloadn (i := 2) (pc := 20) C dX2_add_20 rfl rfl ?_
  refine z_iast (pc := 21) C 8 n (by decide) rfl rfl (show n < 8 from by omega) dX2_add_21 ?_
  refine z_aloadn (i := 0) (pc := 22) C dX2_add_22 rfl rfl ?_
  refine zg_X2_asymmetries (pc := 23) C dX2_add_23 iX2 f18 ?_
  refine z_iload (i := 5) (pc := 26) C dX2_add_26 rfl ?_
  refine z_iloadn (i := 3) (pc := 28) C dX2_add_28 rfl rfl ?_
  refine z_iast (pc := 29) C 9 n (by decide) rfl rfl (show n < 8 from by omega) dX2_add_29 ?_
  refine z_aloadn (i := 0) (pc := 30) C dX2_add_30 rfl rfl ?_
  refine zg_X2_laidOn (pc := 31) C dX2_add_31 iX2 f24 ?_
  refine z_iload (i := 5) (pc := 34) C dX2_add_34 rfl ?_
  refine z_iload (i := 4) (pc := 36) C dX2_add_36 rfl ?_
  refine z_iast (pc := 38) C 11 n (by decide) rfl rfl (show n < 8 from by omega) dX2_add_38 ?_
  refine z_aloadn (i := 0) (pc := 39) C dX2_add_39 rfl rfl ?_
  refine z_dup (pc := 40) C dX2_add_40 rfl ?_
  refine zg_X2_count (pc := 41) C dX2_add_41 iX2 f38 ?_
  refine z_iconst (v := 1) (pc := 44) C dX2_add_44 (by decide) ?_
  refine z_iadd (pc := 45) C dX2_add_45 ?_
  refine z_topi (y := nI (n + 1)) (by rw [zu_n _ _ _ (by decide), zu_n _ _ _ (by decide), zu_n _ _ _ (by decide), zu_n _ _ _ (by decide), hc]; exact nI_1 n) ?_
  refine zp_X2_count (pc := 46) C dX2_add_46 iX2 f38 ?_
  refine z_iload (i := 5) (pc := 49) C dX2_add_49 rfl ?_
  exact z_iret (pc := 51) C hr hlk ⟨rfl, rfl, rfl⟩ (Nat.zero_le _) (Nat.zero_le _) dX2_add_51
set_option maxHeartbeats 4000000 in
set_option maxRecDepth 100000 in
theorem c_X2_addCalibration (l : Launch) (E : zE) (sa : Nat → Nat) {μ : zM} {ov : Nat → Int64} {i : Int32} (k : Nat) (hi : i = nI k) (hk : k < 8) {a b x : Int32} (f t : Nat) (ha : a = nI f) (hb : b = nI t) (hft : f ≤ t) (ht : t < 501) : zMi l E sa yX2_addCalibration wsX2_addCalibration 0 0 0 0 [.ref (zob E 2), .int i, .int a, .int b, .int x] μ ov (fun r μ1 ov1 => r = μ 12 k + 1 ∧ μ1 = zu (zitr (fun j μ => zu μ (30 + k) (f + j) (μ (30 + k) (f + j) + x)) (t + 1 - f) μ) 12 k (μ 12 k + 1) ∧ ov1 = ov) := by
  refine z_ofMi (cc := cX2_addCalibration) (nL := 6) (ret := (some .int)) (own := RX2) zfp_X2_addCalibration rfl (by simp [Value.category]) (Nat.le_of_ble_eq_true rfl) rfl ?_
  intro p e s m below meth c C hr hlk
  have iX2 : ∀ w ∈ wsX20, w ∈ wsX2_addCalibration := by decide +kernel
  have f27 := C.1.2.2.2.2 (.fieldLink RX2 27 "TickFall$Links" "calibrations" "[I") (by decide +kernel)
  have f35 := C.1.2.2.2.2 (.fieldLink RX2 35 "TickFall$Links" "offsets" "[[I") (by decide +kernel)
  show zW p l e (zR 0 0 0 0) s m [Value.ref (zob E 2), Value.int i, Value.int a, Value.int b, Value.int x].toArray below meth c E 6 0 0 (MQ below (zQi E s.heap.size (fun r μ1 ov1 => r = μ 12 k + 1 ∧ μ1 = zu (zitr (fun j μ => zu μ (30 + k) (f + j) (μ (30 + k) (f + j) + x)) (t + 1 - f) μ) 12 k (μ 12 k + 1) ∧ ov1 = ov)) [Value.ref (zob E 2), Value.int i, Value.int a, Value.int b, Value.int x].toArray s 0 0 (zA E s.heap.size)) 0 [some (.ref (zob E 2)), some (.int (i)), some (.int (a)), some (.int (b)), some (.int (x)), none] [] μ ov
  refine z_iloadn (i := 2) (pc := 0) C dX2_addCalibration_0 rfl rfl ?_
  refine z_istore5 (pc := 1) C (by decide) (fun w hw => by cases hw; exact (show ¬ (1 = 2) from by decide)) dX2_addCalibration_1 ?_
  have loop : ∀ (g j : Nat), j + g = t + 1 - f → zW p l e (zR 0 0 0 0) s m [Value.ref (zob E 2), Value.int i, Value.int a, Value.int b, Value.int x].toArray below meth c E 6 0 0 (MQ below (zQi E s.heap.size (fun r μ1 ov1 => r = μ 12 k + 1 ∧ μ1 = zu (zitr (fun j μ => zu μ (30 + k) (f + j) (μ (30 + k) (f + j) + x)) (t + 1 - f) μ) 12 k (μ 12 k + 1) ∧ ov1 = ov)) [Value.ref (zob E 2), Value.int i, Value.int a, Value.int b, Value.int x].toArray s 0 0 (zA E s.heap.size)) 3 [some (.ref (zob E 2)), some (.int (i)), some (.int (a)), some (.int (b)), some (.int (x)), some (.int (nI (f + j)))] [] (zitr (fun j μ => zu μ (30 + k) (f + j) (μ (30 + k) (f + j) + x)) j μ) ov := by
    intro g
    induction g with
    | zero =>
      intro j hj
      have h12 : zitr (fun j μ => zu μ (30 + k) (f + j) (μ (30 + k) (f + j) + x)) j μ 12 = μ 12 := zitr_k (fun j μ => zu_n _ _ _ (by omega))
      refine z_iload (i := 5) (pc := 3) C dX2_addCalibration_3 rfl ?_
      refine z_iloadn (i := 3) (pc := 5) C dX2_addCalibration_5 rfl rfl ?_
      refine z_icmp_gt (tgt := 29) (pc := 6) C dX2_addCalibration_6 (by decide) (fun c_l => ?_) (fun c_l => ?_)
      · refine z_aloadn (i := 0) (pc := 29) C dX2_addCalibration_29 rfl rfl ?_
        refine zg_X2_calibrations (pc := 30) C dX2_addCalibration_30 iX2 f27 ?_
        refine z_iloadn (i := 1) (pc := 33) C dX2_addCalibration_33 rfl rfl ?_
        refine z_dup2 (pc := 34) C dX2_addCalibration_34 rfl rfl ?_
        refine z_iald (pc := 35) C 12 k (by decide) rfl hi (show k < 8 from by omega) dX2_addCalibration_35 ?_
        refine z_iconst (v := 1) (pc := 36) C dX2_addCalibration_36 (by decide) ?_
        refine z_iadd (pc := 37) C dX2_addCalibration_37 ?_
        refine z_iast (pc := 38) C 12 k (by decide) rfl hi (show k < 8 from by omega) dX2_addCalibration_38 ?_
        refine z_aloadn (i := 0) (pc := 39) C dX2_addCalibration_39 rfl rfl ?_
        refine zg_X2_calibrations (pc := 40) C dX2_addCalibration_40 iX2 f27 ?_
        refine z_iloadn (i := 1) (pc := 43) C dX2_addCalibration_43 rfl rfl ?_
        refine z_iald (pc := 44) C 12 k (by decide) rfl hi (show k < 8 from by omega) dX2_addCalibration_44 ?_
        exact z_iret (pc := 45) C hr hlk ⟨by rw [zu_s, upd_s, h12], by rw [h12, show j = t + 1 - f by omega], rfl⟩ (Nat.zero_le _) (Nat.zero_le _) dX2_addCalibration_45
      · exact absurd (by rw [hb]; exact nI_lt (by omega) (by omega)) c_l
    | succ g ih =>
      intro j hj
      refine z_iload (i := 5) (pc := 3) C dX2_addCalibration_3 rfl ?_
      refine z_iloadn (i := 3) (pc := 5) C dX2_addCalibration_5 rfl rfl ?_
      refine z_icmp_gt (tgt := 29) (pc := 6) C dX2_addCalibration_6 (by decide) (fun c_l => ?_) (fun c_l => ?_)
      · exact absurd c_l (by rw [hb]; exact nI_nlt (by omega) (by omega))
      · refine z_aloadn (i := 0) (pc := 9) C dX2_addCalibration_9 rfl rfl ?_
        refine zg_X2_offsets (pc := 10) C dX2_addCalibration_10 iX2 f35 ?_
        refine z_iloadn (i := 1) (pc := 13) C dX2_addCalibration_13 rfl rfl ?_
        refine z_aald6 (pc := 14) C k hi (by omega) dX2_addCalibration_14 ?_
        refine z_iload (i := 5) (pc := 15) C dX2_addCalibration_15 rfl ?_
        refine z_dup2 (pc := 17) C dX2_addCalibration_17 rfl rfl ?_
        refine z_iald (pc := 18) C (30 + k) (f + j) (by omega) (zkd30 (by omega)) rfl (zix30 hk (by omega)) dX2_addCalibration_18 ?_
        refine z_iload (i := 4) (pc := 19) C dX2_addCalibration_19 rfl ?_
        refine z_iadd (pc := 21) C dX2_addCalibration_21 ?_
        refine z_iast (pc := 22) C (30 + k) (f + j) (by omega) (zkd30 (by omega)) rfl (zix30 hk (by omega)) dX2_addCalibration_22 ?_
        refine z_mem (μ' := (zitr (fun j μ => zu μ (30 + k) (f + j) (μ (30 + k) (f + j) + x)) (j + 1) μ)) rfl ?_
        refine z_iinc5 (v := 1) (pc := 23) C (by decide) (by decide) (fun w hw => by cases hw; exact (show ¬ (1 = 2) from by decide)) dX2_addCalibration_23 ?_
        rw [nI_1]
        refine z_goto (tgt := 3) (pc := 26) C dX2_addCalibration_26 (by decide) ?_
        exact ih (j + 1) (by omega)
  rw [ha]
  subst ha
  exact loop (t + 1 - f) 0 (by omega)
def zmeaS (t i : Nat) (μ : zM) : zM := zu μ (22 + i) t (μ 6 (μ 7 i).toNatClampNeg - μ 6 (μ 8 i).toNatClampNeg + μ 9 i + 1000 * μ 10 i)
theorem zmeaS_k (t i : Nat) (μ : zM) {b : Nat} (h : b < 22 ∨ 62 < b) (hi : i < 8) : zmeaS t i μ b = μ b := zu_n _ _ _ (by omega)
set_option maxHeartbeats 4000000 in
set_option maxRecDepth 100000 in
theorem c_X2_measureAll (l : Launch) (E : zE) (sa : Nat → Nat) {μ : zM} {ov : Nat → Int64} {d : Int32} (t n : Nat) (hd : d = nI t) (ht : t < 501) (hn : n ≤ 8) (hc : μ 63 5 = nI n) (hf : ∀ j, j < n → ∃ a b, a < 6 ∧ b < 6 ∧ μ 7 j = nI a ∧ μ 8 j = nI b) : zMv l E sa yX2_measureAll wsX2_measureAll 1 21 0 0 [.ref (zob E 2), .ref (zob E 1), .int d] μ ov (fun μ1 ov1 => μ1 = zitr (zmeaS t) n μ ∧ ov1 = ov) := by
  refine z_ofMv (cc := cX2_measureAll) (nL := 5) (ret := none) (own := RX2) zfp_X2_measureAll rfl (by simp [Value.category]) (Nat.le_of_ble_eq_true rfl) rfl ?_
  intro p e s m below meth c C hr hlk
  have iX2 : ∀ w ∈ wsX20, w ∈ wsX2_measureAll := by decide +kernel
  have f9 := C.1.2.2.2.2 (.fieldLink RX2 9 "TickFall$Links" "firsts" "[I") (by decide +kernel)
  have f15 := C.1.2.2.2.2 (.fieldLink RX2 15 "TickFall$Links" "seconds" "[I") (by decide +kernel)
  have f18 := C.1.2.2.2.2 (.fieldLink RX2 18 "TickFall$Links" "asymmetries" "[I") (by decide +kernel)
  have f21 := C.1.2.2.2.2 (.fieldLink RX2 21 "TickFall$Links" "cycles" "[I") (by decide +kernel)
  have f32 := C.1.2.2.2.2 (.fieldLink RX2 32 "TickFall$Links" "raw" "[[I") (by decide +kernel)
  have f38 := C.1.2.2.2.2 (.fieldLink RX2 38 "TickFall$Links" "count" "I") (by decide +kernel)
  show zW p l e (zR 1 21 0 0) s m [Value.ref (zob E 2), Value.ref (zob E 1), Value.int d].toArray below meth c E 5 0 0 (MQ below (zQv E s.heap.size (fun μ1 ov1 => μ1 = zitr (zmeaS t) n μ ∧ ov1 = ov)) [Value.ref (zob E 2), Value.ref (zob E 1), Value.int d].toArray s 0 0 (zA E s.heap.size)) 0 [some (.ref (zob E 2)), some (.ref (zob E 1)), some (.int (d)), none, none] [] μ ov
  refine z_iconst (v := 0) (pc := 0) C dX2_measureAll_0 (by decide) ?_
  refine z_istore3 (pc := 1) C (by decide) (fun w hw => by cases hw; exact (show ¬ (1 = 2) from by decide)) dX2_measureAll_1 ?_
  have loop : ∀ (f i : Nat), i + f = n → zW p l e (zR 1 21 0 0) s m [Value.ref (zob E 2), Value.ref (zob E 1), Value.int d].toArray below meth c E 5 0 0 (MQ below (zQv E s.heap.size (fun μ1 ov1 => μ1 = zitr (zmeaS t) n μ ∧ ov1 = ov)) [Value.ref (zob E 2), Value.ref (zob E 1), Value.int d].toArray s 0 0 (zA E s.heap.size)) 2 [some (.ref (zob E 2)), some (.ref (zob E 1)), some (.int (d)), some (.int (nI i)), none] [] (zitr (zmeaS t) i μ) ov := by
    intro f
    induction f with
    | zero =>
      intro i hi
      have hk9 : ∀ b, b < 22 ∨ 62 < b → zitr (zmeaS t) i μ b = μ b := fun b hb => zitr_b (fun j μ hj => zmeaS_k t j μ hb (by omega))
      have h63 : zitr (zmeaS t) i μ 63 5 = nI n := by rw [hk9 _ (by omega)]; exact hc
      refine z_iloadn (i := 3) (pc := 2) C dX2_measureAll_2 rfl rfl ?_
      refine z_aloadn (i := 0) (pc := 3) C dX2_measureAll_3 rfl rfl ?_
      refine zg_X2_count (pc := 4) C dX2_measureAll_4 iX2 f38 ?_
      refine z_icmp_ge (tgt := 67) (pc := 7) C dX2_measureAll_7 (by decide) (fun c_l => ?_) (fun c_l => ?_)
      · exact z_vret (pc := 67) C hr hlk ⟨by rw [show i = n by omega], rfl⟩ (Nat.zero_le _) (Nat.zero_le _) dX2_measureAll_67
      · exact absurd (by rw [h63, show i = n by omega]; exact Int32.le_refl _) c_l
    | succ f ih =>
      intro i hi
      have hk9 : ∀ b, b < 22 ∨ 62 < b → zitr (zmeaS t) i μ b = μ b := fun b hb => zitr_b (fun j μ hj => zmeaS_k t j μ hb (by omega))
      have h63 : zitr (zmeaS t) i μ 63 5 = nI n := by rw [hk9 _ (by omega)]; exact hc
      refine z_iloadn (i := 3) (pc := 2) C dX2_measureAll_2 rfl rfl ?_
      refine z_aloadn (i := 0) (pc := 3) C dX2_measureAll_3 rfl rfl ?_
      refine zg_X2_count (pc := 4) C dX2_measureAll_4 iX2 f38 ?_
      refine z_icmp_ge (tgt := 67) (pc := 7) C dX2_measureAll_7 (by decide) (fun c_l => ?_) (fun c_l => ?_)
      · exact absurd c_l (by rw [h63]; exact nI_ge (by omega) (by omega))
      · obtain ⟨a, b, ha6, hb6, ha, hb⟩ := hf i (by omega)
        have ha2 : (zitr (zmeaS t) i μ) 7 i = nI a := by rw [hk9 _ (by omega)]; exact ha
        have hb2 : (zitr (zmeaS t) i μ) 8 i = nI b := by rw [hk9 _ (by omega)]; exact hb
        refine z_aloadn (i := 1) (pc := 10) C dX2_measureAll_10 rfl rfl ?_
        refine z_aloadn (i := 0) (pc := 11) C dX2_measureAll_11 rfl rfl ?_
        refine zg_X2_firsts (pc := 12) C dX2_measureAll_12 iX2 f9 ?_
        refine z_iloadn (i := 3) (pc := 15) C dX2_measureAll_15 rfl rfl ?_
        refine z_iald (pc := 16) C 7 i (by decide) rfl rfl (show i < 8 from by omega) dX2_measureAll_16 ?_
        refine z_callVi (pc := 17) (n := 1) (As := [.int ((zitr (zmeaS t) i μ) 7 i)]) (rest := []) C (c_X1_phaseOf l E sa (μ := (zitr (zmeaS t) i μ)) a ha2 ha6) gX2_measureAll_X1_phaseOf rfl zfV_X1_phaseOf ⟨Nat.le_of_ble_eq_true rfl, Nat.le_of_ble_eq_true rfl⟩ rfl (zRec_X1 E) rfl (Nat.le_of_ble_eq_true rfl) ⟨Nat.zero_le _, Nat.zero_le _⟩ dX2_measureAll_17 (fun r9 μ9 ov9 hp => ?_)
        have e1 := hp.1.symm
        have e2 := hp.2.1.symm
        have e3 := hp.2.2.symm
        clear hp
        subst e1 e2 e3
        refine z_aloadn (i := 1) (pc := 20) C dX2_measureAll_20 rfl rfl ?_
        refine z_aloadn (i := 0) (pc := 21) C dX2_measureAll_21 rfl rfl ?_
        refine zg_X2_seconds (pc := 22) C dX2_measureAll_22 iX2 f15 ?_
        refine z_iloadn (i := 3) (pc := 25) C dX2_measureAll_25 rfl rfl ?_
        refine z_iald (pc := 26) C 8 i (by decide) rfl rfl (show i < 8 from by omega) dX2_measureAll_26 ?_
        refine z_callVi (pc := 27) (n := 1) (As := [.int ((zitr (zmeaS t) i μ) 8 i)]) (rest := [.int ((zitr (zmeaS t) i μ) 6 a)]) C (c_X1_phaseOf l E sa (μ := (zitr (zmeaS t) i μ)) b hb2 hb6) gX2_measureAll_X1_phaseOf rfl zfV_X1_phaseOf ⟨Nat.le_of_ble_eq_true rfl, Nat.le_of_ble_eq_true rfl⟩ rfl (zRec_X1 E) rfl (Nat.le_of_ble_eq_true rfl) ⟨Nat.zero_le _, Nat.zero_le _⟩ dX2_measureAll_27 (fun r9 μ9 ov9 hp => ?_)
        have e1 := hp.1.symm
        have e2 := hp.2.1.symm
        have e3 := hp.2.2.symm
        clear hp
        subst e1 e2 e3
        refine z_isub (pc := 30) C dX2_measureAll_30 ?_
        refine z_istore4 (pc := 31) C (by decide) (fun w hw => by cases hw; exact (show ¬ (1 = 2) from by decide)) dX2_measureAll_31 ?_
        refine z_aloadn (i := 0) (pc := 33) C dX2_measureAll_33 rfl rfl ?_
        refine zg_X2_raw (pc := 34) C dX2_measureAll_34 iX2 f32 ?_
        refine z_iloadn (i := 3) (pc := 37) C dX2_measureAll_37 rfl rfl ?_
        refine z_aald5 (pc := 38) C i rfl (by omega) dX2_measureAll_38 ?_
        refine z_iloadn (i := 2) (pc := 39) C dX2_measureAll_39 rfl rfl ?_
        refine z_iload (i := 4) (pc := 40) C dX2_measureAll_40 rfl ?_
        refine z_aloadn (i := 0) (pc := 42) C dX2_measureAll_42 rfl rfl ?_
        refine zg_X2_asymmetries (pc := 43) C dX2_measureAll_43 iX2 f18 ?_
        refine z_iloadn (i := 3) (pc := 46) C dX2_measureAll_46 rfl rfl ?_
        refine z_iald (pc := 47) C 9 i (by decide) rfl rfl (show i < 8 from by omega) dX2_measureAll_47 ?_
        refine z_iadd (pc := 48) C dX2_measureAll_48 ?_
        refine z_sipush (v := 1000) (pc := 49) C dX2_measureAll_49 (by decide) ?_
        refine z_aloadn (i := 0) (pc := 52) C dX2_measureAll_52 rfl rfl ?_
        refine zg_X2_cycles (pc := 53) C dX2_measureAll_53 iX2 f21 ?_
        refine z_iloadn (i := 3) (pc := 56) C dX2_measureAll_56 rfl rfl ?_
        refine z_iald (pc := 57) C 10 i (by decide) rfl rfl (show i < 8 from by omega) dX2_measureAll_57 ?_
        refine z_imul (pc := 58) C dX2_measureAll_58 ?_
        refine z_iadd (pc := 59) C dX2_measureAll_59 ?_
        refine z_iast (pc := 60) C (22 + i) t (by omega) (zkd22 (by omega)) hd (zix22 (by omega) ht) dX2_measureAll_60 ?_
        refine z_mem (μ' := (zitr (zmeaS t) (i + 1) μ)) (by show _ = zmeaS t i _; rw [zmeaS, ha2, hb2, nI_clamp (by omega), nI_clamp (by omega)]) ?_
        refine z_iinc3 (v := 1) (pc := 61) C (by decide) (by decide) (fun w hw => by cases hw; exact (show ¬ (1 = 2) from by decide)) dX2_measureAll_61 ?_
        rw [nI_1]
        refine z_weak (lv' := [some (.ref (zob E 2)), some (.ref (zob E 1)), some (.int (d)), some (.int (nI (i + 1))), none]) ⟨rfl, rfl, rfl, rfl, trivial⟩ ?_
        refine z_goto (tgt := 2) (pc := 64) C dX2_measureAll_64 (by decide) ?_
        exact ih (i + 1) (by omega)
  exact loop n 0 (by omega)
