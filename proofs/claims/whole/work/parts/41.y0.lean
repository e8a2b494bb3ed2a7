set_option maxHeartbeats 4000000 in
set_option maxRecDepth 100000 in
theorem c_X5_thrown (l : Launch) (E : zE) (sa : Nat → Nat) {μ : zM} {ov : Nat → Int64} : zMi l E sa yX5_thrown wsX5_thrown 0 0 0 0 [.ref (zob E 7)] μ ov (fun r μ1 ov1 => r = μ 63 19 ∧ μ1 = μ ∧ ov1 = ov) := by
  refine z_ofMi (cc := cX5_thrown) (nL := 1) (ret := (some .int)) (own := RX5) zfp_X5_thrown rfl (by simp [Value.category]) (Nat.le_of_ble_eq_true rfl) rfl ?_
  intro p e s m below meth c C hr hlk
  have iX5 : ∀ w ∈ wsX50, w ∈ wsX5_thrown := by decide +kernel
  have f93 := C.1.2.2.2.2 (.fieldLink RX5 93 "TickFallModel" "thrown" "I") (by decide +kernel)
  show zW p l e (zR 0 0 0 0) s m [Value.ref (zob E 7)].toArray below meth c E 1 0 0 (MQ below (zQi E s.heap.size (fun r μ1 ov1 => r = μ 63 19 ∧ μ1 = μ ∧ ov1 = ov)) [Value.ref (zob E 7)].toArray s 0 0 (zA E s.heap.size)) 0 [some (.ref (zob E 7))] [] μ ov
  refine z_aloadn (i := 0) (pc := 0) C dX5_thrown_0 rfl rfl ?_
  refine zg_X5_thrown (pc := 1) C dX5_thrown_1 iX5 f93 ?_
  exact z_iret (pc := 4) C hr hlk ⟨rfl, rfl, rfl⟩ (Nat.zero_le _) (Nat.zero_le _) dX5_thrown_4
set_option maxHeartbeats 4000000 in
set_option maxRecDepth 100000 in
theorem c_X5_isDay (l : Launch) (E : zE) (sa : Nat → Nat) {μ : zM} {ov : Nat → Int64} (d : Int32) : zMi l E sa yX5_isDay wsX5_isDay 1 22 0 0 [.ref (zob E 7), .int d] μ ov (fun r μ1 ov1 => r = zb (1 ≤ d ∧ d ≤ μ 63 11) ∧ μ1 = μ ∧ ov1 = ov) := by
  refine z_ofMi (cc := cX5_isDay) (nL := 2) (ret := (some .boolean)) (own := RX5) zfp_X5_isDay rfl (by simp [Value.category]) (Nat.le_of_ble_eq_true rfl) rfl ?_
  intro p e s m below meth c C hr hlk
  have iX5 : ∀ w ∈ wsX50, w ∈ wsX5_isDay := by decide +kernel
  have f106 := C.1.2.2.2.2 (.fieldLink RX5 106 "TickFallModel" "day" "I") (by decide +kernel)
  show zW p l e (zR 1 22 0 0) s m [Value.ref (zob E 7), Value.int d].toArray below meth c E 2 0 0 (MQ below (zQi E s.heap.size (fun r μ1 ov1 => r = zb (1 ≤ d ∧ d ≤ μ 63 11) ∧ μ1 = μ ∧ ov1 = ov)) [Value.ref (zob E 7), Value.int d].toArray s 0 0 (zA E s.heap.size)) 0 [some (.ref (zob E 7)), some (.int (d))] [] μ ov
  refine z_iloadn (i := 1) (pc := 0) C dX5_isDay_0 rfl rfl ?_
  refine z_iconst (v := 1) (pc := 1) C dX5_isDay_1 (by decide) ?_
  refine z_aloadn (i := 0) (pc := 2) C dX5_isDay_2 rfl rfl ?_
  refine zg_X5_day (pc := 3) C dX5_isDay_3 iX5 f106 ?_
  refine z_callSi (pc := 6) (n := 3) (As := [.int (d), .int (1), .int (μ 63 11)]) (rest := []) C (c_X5_in l E sa (μ := μ) (ov := ov) (d) (1) (μ 63 11)) gX5_isDay_X5_in rfl zfV_X5_in.2 ⟨Nat.le_of_ble_eq_true rfl, Nat.le_of_ble_eq_true rfl⟩ rfl rfl (Nat.le_of_ble_eq_true rfl) ⟨Nat.zero_le _, Nat.zero_le _⟩ dX5_isDay_6 (fun r9 μ9 ov9 hp => ?_)
  have e1 := hp.1.symm
  have e2 := hp.2.1.symm
  have e3 := hp.2.2.symm
  clear hp
  subst e1 e2 e3
  exact z_zret (pc := 9) C hr hlk (znarz zb_01) ⟨rfl, rfl, rfl⟩ (Nat.zero_le _) (Nat.zero_le _) dX5_isDay_9
set_option maxHeartbeats 4000000 in
set_option maxRecDepth 100000 in
theorem c_X5_isClock (l : Launch) (E : zE) (sa : Nat → Nat) {μ : zM} {ov : Nat → Int64} (i : Int32) (n : Nat) (hc : μ 63 12 = nI n) (hn : n ≤ 6) : zMi l E sa yX5_isClock wsX5_isClock 1 22 0 0 [.ref (zob E 7), .int i] μ ov (fun r μ1 ov1 => r = zb (0 ≤ i ∧ i < μ 63 12) ∧ μ1 = μ ∧ ov1 = ov) := by
  refine z_ofMi (cc := cX5_isClock) (nL := 2) (ret := (some .boolean)) (own := RX5) zfp_X5_isClock rfl (by simp [Value.category]) (Nat.le_of_ble_eq_true rfl) rfl ?_
  intro p e s m below meth c C hr hlk
  have iX5 : ∀ w ∈ wsX50, w ∈ wsX5_isClock := by decide +kernel
  have f96 := C.1.2.2.2.2 (.fieldLink RX5 96 "TickFallModel" "clocks" "I") (by decide +kernel)
  show zW p l e (zR 1 22 0 0) s m [Value.ref (zob E 7), Value.int i].toArray below meth c E 2 0 0 (MQ below (zQi E s.heap.size (fun r μ1 ov1 => r = zb (0 ≤ i ∧ i < μ 63 12) ∧ μ1 = μ ∧ ov1 = ov)) [Value.ref (zob E 7), Value.int i].toArray s 0 0 (zA E s.heap.size)) 0 [some (.ref (zob E 7)), some (.int (i))] [] μ ov
  refine z_iloadn (i := 1) (pc := 0) C dX5_isClock_0 rfl rfl ?_
  refine z_iconst (v := 0) (pc := 1) C dX5_isClock_1 (by decide) ?_
  refine z_aloadn (i := 0) (pc := 2) C dX5_isClock_2 rfl rfl ?_
  refine zg_X5_clocks (pc := 3) C dX5_isClock_3 iX5 f96 ?_
  refine z_iconst (v := 1) (pc := 6) C dX5_isClock_6 (by decide) ?_
  refine z_isub (pc := 7) C dX5_isClock_7 ?_
  refine z_callSi (pc := 8) (n := 3) (As := [.int (i), .int (0), .int ((μ 63 12) - 1)]) (rest := []) C (c_X5_in l E sa (μ := μ) (ov := ov) (i) (0) (μ 63 12 - 1)) gX5_isClock_X5_in rfl zfV_X5_in.2 ⟨Nat.le_of_ble_eq_true rfl, Nat.le_of_ble_eq_true rfl⟩ rfl rfl (Nat.le_of_ble_eq_true rfl) ⟨Nat.zero_le _, Nat.zero_le _⟩ dX5_isClock_8 (fun r9 μ9 ov9 hp => ?_)
  have e1 := hp.1.symm
  have e2 := hp.2.1.symm
  have e3 := hp.2.2.symm
  clear hp
  subst e1 e2 e3
  exact z_zret (pc := 11) C hr hlk (znarz zb_01) ⟨by rw [hc]; exact zb_cg (zm1 (by omega) i), rfl, rfl⟩ (Nat.zero_le _) (Nat.zero_le _) dX5_isClock_11
set_option maxHeartbeats 4000000 in
set_option maxRecDepth 100000 in
theorem c_X5_isLink (l : Launch) (E : zE) (sa : Nat → Nat) {μ : zM} {ov : Nat → Int64} (i : Int32) (n : Nat) (hc : μ 63 13 = nI n) (hn : n ≤ 8) : zMi l E sa yX5_isLink wsX5_isLink 1 22 0 0 [.ref (zob E 7), .int i] μ ov (fun r μ1 ov1 => r = zb (0 ≤ i ∧ i < μ 63 13) ∧ μ1 = μ ∧ ov1 = ov) := by
  refine z_ofMi (cc := cX5_isLink) (nL := 2) (ret := (some .boolean)) (own := RX5) zfp_X5_isLink rfl (by simp [Value.category]) (Nat.le_of_ble_eq_true rfl) rfl ?_
  intro p e s m below meth c C hr hlk
  have iX5 : ∀ w ∈ wsX50, w ∈ wsX5_isLink := by decide +kernel
  have f103 := C.1.2.2.2.2 (.fieldLink RX5 103 "TickFallModel" "links" "I") (by decide +kernel)
  show zW p l e (zR 1 22 0 0) s m [Value.ref (zob E 7), Value.int i].toArray below meth c E 2 0 0 (MQ below (zQi E s.heap.size (fun r μ1 ov1 => r = zb (0 ≤ i ∧ i < μ 63 13) ∧ μ1 = μ ∧ ov1 = ov)) [Value.ref (zob E 7), Value.int i].toArray s 0 0 (zA E s.heap.size)) 0 [some (.ref (zob E 7)), some (.int (i))] [] μ ov
  refine z_iloadn (i := 1) (pc := 0) C dX5_isLink_0 rfl rfl ?_
  refine z_iconst (v := 0) (pc := 1) C dX5_isLink_1 (by decide) ?_
  refine z_aloadn (i := 0) (pc := 2) C dX5_isLink_2 rfl rfl ?_
  refine zg_X5_links (pc := 3) C dX5_isLink_3 iX5 f103 ?_
  refine z_iconst (v := 1) (pc := 6) C dX5_isLink_6 (by decide) ?_
  refine z_isub (pc := 7) C dX5_isLink_7 ?_
  refine z_callSi (pc := 8) (n := 3) (As := [.int (i), .int (0), .int ((μ 63 13) - 1)]) (rest := []) C (c_X5_in l E sa (μ := μ) (ov := ov) (i) (0) (μ 63 13 - 1)) gX5_isLink_X5_in rfl zfV_X5_in.2 ⟨Nat.le_of_ble_eq_true rfl, Nat.le_of_ble_eq_true rfl⟩ rfl rfl (Nat.le_of_ble_eq_true rfl) ⟨Nat.zero_le _, Nat.zero_le _⟩ dX5_isLink_8 (fun r9 μ9 ov9 hp => ?_)
  have e1 := hp.1.symm
  have e2 := hp.2.1.symm
  have e3 := hp.2.2.symm
  clear hp
  subst e1 e2 e3
  exact z_zret (pc := 11) C hr hlk (znarz zb_01) ⟨by rw [hc]; exact zb_cg (zm1 (by omega) i), rfl, rfl⟩ (Nat.zero_le _) (Nat.zero_le _) dX5_isLink_11
set_option maxHeartbeats 4000000 in
set_option maxRecDepth 100000 in
theorem c_X5_goes (l : Launch) (E : zE) (sa : Nat → Nat) {μ : zM} {ov : Nat → Int64} {f9 s9 t9 : Int32} (P Q S : Prop) [Decidable P] [Decidable Q] [Decidable S] (hf : f9 = zb P) (hs : s9 = zb Q) (ht : t9 = zb S) : zMi l E sa yX5_goes wsX5_goes 0 0 0 0 [.ref (zob E 7), .int f9, .int s9, .int t9] μ ov (fun r μ1 ov1 => r = zb (P ∧ Q ∧ S) ∧ μ1 = zu μ 63 19 (zgo P Q S) ∧ ov1 = ov) := by
  refine z_ofMi (cc := cX5_goes) (nL := 4) (ret := (some .boolean)) (own := RX5) zfp_X5_goes rfl (by simp [Value.category]) (Nat.le_of_ble_eq_true rfl) rfl ?_
  intro p e s m below meth c C hr hlk
  have iX5 : ∀ w ∈ wsX50, w ∈ wsX5_goes := by decide +kernel
  have f93 := C.1.2.2.2.2 (.fieldLink RX5 93 "TickFallModel" "thrown" "I") (by decide +kernel)
  show zW p l e (zR 0 0 0 0) s m [Value.ref (zob E 7), Value.int f9, Value.int s9, Value.int t9].toArray below meth c E 4 0 0 (MQ below (zQi E s.heap.size (fun r μ1 ov1 => r = zb (P ∧ Q ∧ S) ∧ μ1 = zu μ 63 19 (zgo P Q S) ∧ ov1 = ov)) [Value.ref (zob E 7), Value.int f9, Value.int s9, Value.int t9].toArray s 0 0 (zA E s.heap.size)) 0 [some (.ref (zob E 7)), some (.int (f9)), some (.int (s9)), some (.int (t9))] [] μ ov
  subst hf hs ht
  show zW p l e (zR 0 0 0 0) s m [Value.ref (zob E 7), Value.int (zb P), Value.int (zb Q), Value.int (zb S)].toArray below meth c E 4 0 0 (MQ below (zQi E s.heap.size (fun r μ1 ov1 => r = zb (P ∧ Q ∧ S) ∧ μ1 = zu μ 63 19 (zgo P Q S) ∧ ov1 = ov)) [Value.ref (zob E 7), Value.int (zb P), Value.int (zb Q), Value.int (zb S)].toArray s 0 0 (zA E s.heap.size)) 0 [some (.ref (zob E 7)), some (.int (zb P)), some (.int (zb Q)), some (.int (zb S))] [] μ ov
  refine z_aloadn (i := 0) (pc := 0) C dX5_goes_0 rfl rfl ?_
  refine z_iloadn (i := 1) (pc := 1) C dX5_goes_1 rfl rfl ?_
  refine z_if_ne (tgt := 9) (pc := 2) C dX5_goes_2 (by decide) (fun c_1 => ?_) (fun c_1 => ?_)
  · rw [zb_ne0] at c_1
    refine z_iloadn (i := 2) (pc := 9) C dX5_goes_9 rfl rfl ?_
    refine z_if_ne (tgt := 17) (pc := 10) C dX5_goes_10 (by decide) (fun c_2 => ?_) (fun c_2 => ?_)
    · rw [zb_ne0] at c_2
      refine z_iloadn (i := 3) (pc := 17) C dX5_goes_17 rfl rfl ?_
      refine z_if_ne (tgt := 25) (pc := 18) C dX5_goes_18 (by decide) (fun c_3 => ?_) (fun c_3 => ?_)
      · rw [zb_ne0] at c_3
        refine z_iconst (v := 0) (pc := 25) C dX5_goes_25 (by decide) ?_
        refine z_topi (y := zgo P Q S) (by rw [zgo, if_pos c_1, if_pos c_2, if_pos c_3]) ?_
        refine zp_X5_thrown (pc := 26) C dX5_goes_26 iX5 f93 ?_
        refine z_aloadn (i := 0) (pc := 29) C dX5_goes_29 rfl rfl ?_
        refine zg_X5_thrown (pc := 30) C dX5_goes_30 iX5 f93 ?_
        refine z_if_ne (tgt := 40) (pc := 33) C dX5_goes_33 (by decide) (fun c_4 => ?_) (fun c_4 => ?_)
        · rw [zu_s, upd_s] at c_4
          exact absurd (zgo_t ⟨c_1, c_2, c_3⟩) c_4
        · rw [zu_s, upd_s] at c_4
          refine z_iconst (v := 1) (pc := 36) C dX5_goes_36 (by decide) ?_
          refine z_goto (tgt := 41) (pc := 37) C dX5_goes_37 (by decide) ?_
          exact z_zret (pc := 41) C hr hlk (by decide) ⟨(zb_t ⟨c_1, c_2, c_3⟩).symm, rfl, rfl⟩ (Nat.zero_le _) (Nat.zero_le _) dX5_goes_41
      · rw [zb_eq0] at c_3
        refine z_iconst (v := 3) (pc := 21) C dX5_goes_21 (by decide) ?_
        refine z_goto (tgt := 26) (pc := 22) C dX5_goes_22 (by decide) ?_
        refine z_topi (y := zgo P Q S) (by rw [zgo, if_pos c_1, if_pos c_2, if_neg c_3]) ?_
        refine zp_X5_thrown (pc := 26) C dX5_goes_26 iX5 f93 ?_
        refine z_aloadn (i := 0) (pc := 29) C dX5_goes_29 rfl rfl ?_
        refine zg_X5_thrown (pc := 30) C dX5_goes_30 iX5 f93 ?_
        refine z_if_ne (tgt := 40) (pc := 33) C dX5_goes_33 (by decide) (fun c_4 => ?_) (fun c_4 => ?_)
        · rw [zu_s, upd_s] at c_4
          refine z_iconst (v := 0) (pc := 40) C dX5_goes_40 (by decide) ?_
          exact z_zret (pc := 41) C hr hlk (by decide) ⟨(zb_f (fun h => c_3 h.2.2)).symm, rfl, rfl⟩ (Nat.zero_le _) (Nat.zero_le _) dX5_goes_41
        · rw [zu_s, upd_s] at c_4
          (rw [zgo, if_pos c_1, if_pos c_2, if_neg c_3] at c_4; exact absurd c_4 (by decide))
    · rw [zb_eq0] at c_2
      refine z_iconst (v := 2) (pc := 13) C dX5_goes_13 (by decide) ?_
      refine z_goto (tgt := 26) (pc := 14) C dX5_goes_14 (by decide) ?_
      refine z_topi (y := zgo P Q S) (by rw [zgo, if_pos c_1, if_neg c_2]) ?_
      refine zp_X5_thrown (pc := 26) C dX5_goes_26 iX5 f93 ?_
      refine z_aloadn (i := 0) (pc := 29) C dX5_goes_29 rfl rfl ?_
      refine zg_X5_thrown (pc := 30) C dX5_goes_30 iX5 f93 ?_
      refine z_if_ne (tgt := 40) (pc := 33) C dX5_goes_33 (by decide) (fun c_4 => ?_) (fun c_4 => ?_)
      · rw [zu_s, upd_s] at c_4
        refine z_iconst (v := 0) (pc := 40) C dX5_goes_40 (by decide) ?_
        exact z_zret (pc := 41) C hr hlk (by decide) ⟨(zb_f (fun h => c_2 h.2.1)).symm, rfl, rfl⟩ (Nat.zero_le _) (Nat.zero_le _) dX5_goes_41
      · rw [zu_s, upd_s] at c_4
        (rw [zgo, if_pos c_1, if_neg c_2] at c_4; exact absurd c_4 (by decide))
  · rw [zb_eq0] at c_1
    refine z_iconst (v := 1) (pc := 5) C dX5_goes_5 (by decide) ?_
    refine z_goto (tgt := 26) (pc := 6) C dX5_goes_6 (by decide) ?_
    refine z_topi (y := zgo P Q S) (by rw [zgo, if_neg c_1]) ?_
    refine zp_X5_thrown (pc := 26) C dX5_goes_26 iX5 f93 ?_
    refine z_aloadn (i := 0) (pc := 29) C dX5_goes_29 rfl rfl ?_
    refine zg_X5_thrown (pc := 30) C dX5_goes_30 iX5 f93 ?_
    refine z_if_ne (tgt := 40) (pc := 33) C dX5_goes_33 (by decide) (fun c_4 => ?_) (fun c_4 => ?_)
    · rw [zu_s, upd_s] at c_4
      refine z_iconst (v := 0) (pc := 40) C dX5_goes_40 (by decide) ?_
      exact z_zret (pc := 41) C hr hlk (by decide) ⟨(zb_f (fun h => c_1 h.1)).symm, rfl, rfl⟩ (Nat.zero_le _) (Nat.zero_le _) dX5_goes_41
    · rw [zu_s, upd_s] at c_4
      (rw [zgo, if_neg c_1] at c_4; exact absurd c_4 (by decide))
set_option maxHeartbeats 4000000 in
set_option maxRecDepth 100000 in
theorem c_X5_hasMeasured (l : Launch) (E : zE) (sa : Nat → Nat) {μ : zM} {ov : Nat → Int64} (i d : Int32) (n : Nat) (hc : μ 63 13 = nI n) (hn : n ≤ 8) : zMi l E sa yX5_hasMeasured wsX5_hasMeasured 2 43 0 0 [.ref (zob E 7), .int i, .int d] μ ov (fun r μ1 ov1 => r = zb (zmeaM μ i d) ∧ μ1 = μ ∧ ov1 = ov) := by
  refine z_ofMi (cc := cX5_hasMeasured) (nL := 3) (ret := (some .boolean)) (own := RX5) zfp_X5_hasMeasured rfl (by simp [Value.category]) (Nat.le_of_ble_eq_true rfl) rfl ?_
  intro p e s m below meth c C hr hlk
  have iX5 : ∀ w ∈ wsX50, w ∈ wsX5_hasMeasured := by decide +kernel
  have f37 := C.1.2.2.2.2 (.fieldLink RX5 37 "TickFallModel" "laid" "[I") (by decide +kernel)
  show zW p l e (zR 2 43 0 0) s m [Value.ref (zob E 7), Value.int i, Value.int d].toArray below meth c E 3 0 0 (MQ below (zQi E s.heap.size (fun r μ1 ov1 => r = zb (zmeaM μ i d) ∧ μ1 = μ ∧ ov1 = ov)) [Value.ref (zob E 7), Value.int i, Value.int d].toArray s 0 0 (zA E s.heap.size)) 0 [some (.ref (zob E 7)), some (.int (i)), some (.int (d))] [] μ ov
  refine z_aloadn (i := 0) (pc := 0) C dX5_hasMeasured_0 rfl rfl ?_
  refine z_iloadn (i := 1) (pc := 1) C dX5_hasMeasured_1 rfl rfl ?_
  refine z_callVi (pc := 2) (n := 1) (As := [.int (i)]) (rest := []) C (c_X5_isLink l E sa (μ := μ) (ov := ov) i n hc hn) gX5_hasMeasured_X5_isLink rfl zfV_X5_isLink ⟨Nat.le_of_ble_eq_true rfl, Nat.le_of_ble_eq_true rfl⟩ rfl (zRec_X5 E) rfl (Nat.le_of_ble_eq_true rfl) ⟨Nat.zero_le _, Nat.zero_le _⟩ dX5_hasMeasured_2 (fun r9 μ9 ov9 hp => ?_)
  have e1 := hp.1.symm
  have e2 := hp.2.1.symm
  have e3 := hp.2.2.symm
  clear hp
  subst e1 e2 e3
  refine z_if_eq (tgt := 30) (pc := 5) C dX5_hasMeasured_5 (by decide) (fun c_1 => ?_) (fun c_1 => ?_)
  · rw [zb_eq0] at c_1
    refine z_iconst (v := 0) (pc := 30) C dX5_hasMeasured_30 (by decide) ?_
    exact z_zret (pc := 31) C hr hlk (by decide) ⟨by first | exact (zb_f (fun h => c_1 h.2.1)).symm | exact (zb_f (fun h => c_2 h.1)).symm | exact (zb_f (fun h => absurd ((zlt _ _).mp h.2.2) (by rw [hi, nI_clamp (by omega)]; have := (zle2 _ _).mp c_3; omega))).symm | exact (zb_t ⟨c_2, c_1, by rw [hi, nI_clamp (by omega)]; exact znot_le c_3⟩).symm, rfl, rfl⟩ (Nat.zero_le _) (Nat.zero_le _) dX5_hasMeasured_31
  · rw [zb_ne0] at c_1
    refine z_aloadn (i := 0) (pc := 8) C dX5_hasMeasured_8 rfl rfl ?_
    refine z_iloadn (i := 2) (pc := 9) C dX5_hasMeasured_9 rfl rfl ?_
    refine z_callVi (pc := 10) (n := 1) (As := [.int (d)]) (rest := []) C (c_X5_isDay l E sa (μ := μ) (ov := ov) d) gX5_hasMeasured_X5_isDay rfl zfV_X5_isDay ⟨Nat.le_of_ble_eq_true rfl, Nat.le_of_ble_eq_true rfl⟩ rfl (zRec_X5 E) rfl (Nat.le_of_ble_eq_true rfl) ⟨Nat.zero_le _, Nat.zero_le _⟩ dX5_hasMeasured_10 (fun r9 μ9 ov9 hp => ?_)
    have e1 := hp.1.symm
    have e2 := hp.2.1.symm
    have e3 := hp.2.2.symm
    clear hp
    subst e1 e2 e3
    refine z_if_eq (tgt := 30) (pc := 13) C dX5_hasMeasured_13 (by decide) (fun c_2 => ?_) (fun c_2 => ?_)
    · rw [zb_eq0] at c_2
      refine z_iconst (v := 0) (pc := 30) C dX5_hasMeasured_30 (by decide) ?_
      exact z_zret (pc := 31) C hr hlk (by decide) ⟨by first | exact (zb_f (fun h => c_1 h.2.1)).symm | exact (zb_f (fun h => c_2 h.1)).symm | exact (zb_f (fun h => absurd ((zlt _ _).mp h.2.2) (by rw [hi, nI_clamp (by omega)]; have := (zle2 _ _).mp c_3; omega))).symm | exact (zb_t ⟨c_2, c_1, by rw [hi, nI_clamp (by omega)]; exact znot_le c_3⟩).symm, rfl, rfl⟩ (Nat.zero_le _) (Nat.zero_le _) dX5_hasMeasured_31
    · rw [zb_ne0] at c_2
      obtain ⟨k, hk, hi⟩ := znat (n := n) c_1.1 (by rw [← hc]; exact c_1.2) (by omega)
      refine z_iloadn (i := 2) (pc := 16) C dX5_hasMeasured_16 rfl rfl ?_
      refine z_aloadn (i := 0) (pc := 17) C dX5_hasMeasured_17 rfl rfl ?_
      refine zg_X5_laid (pc := 18) C dX5_hasMeasured_18 iX5 f37 ?_
      refine z_iloadn (i := 1) (pc := 21) C dX5_hasMeasured_21 rfl rfl ?_
      refine z_iald (pc := 22) C 47 k (by decide) rfl hi (show k < 8 by omega) dX5_hasMeasured_22 ?_
      refine z_icmp_le (tgt := 30) (pc := 23) C dX5_hasMeasured_23 (by decide) (fun c_3 => ?_) (fun c_3 => ?_)
      · refine z_iconst (v := 0) (pc := 30) C dX5_hasMeasured_30 (by decide) ?_
        exact z_zret (pc := 31) C hr hlk (by decide) ⟨by first | exact (zb_f (fun h => c_1 h.2.1)).symm | exact (zb_f (fun h => c_2 h.1)).symm | exact (zb_f (fun h => absurd ((zlt _ _).mp h.2.2) (by rw [hi, nI_clamp (by omega)]; have := (zle2 _ _).mp c_3; omega))).symm | exact (zb_t ⟨c_2, c_1, by rw [hi, nI_clamp (by omega)]; exact znot_le c_3⟩).symm, rfl, rfl⟩ (Nat.zero_le _) (Nat.zero_le _) dX5_hasMeasured_31
      · refine z_iconst (v := 1) (pc := 26) C dX5_hasMeasured_26 (by decide) ?_
        refine z_goto (tgt := 31) (pc := 27) C dX5_hasMeasured_27 (by decide) ?_
        exact z_zret (pc := 31) C hr hlk (by decide) ⟨by first | exact (zb_f (fun h => c_1 h.2.1)).symm | exact (zb_f (fun h => c_2 h.1)).symm | exact (zb_f (fun h => absurd ((zlt _ _).mp h.2.2) (by rw [hi, nI_clamp (by omega)]; have := (zle2 _ _).mp c_3; omega))).symm | exact (zb_t ⟨c_2, c_1, by rw [hi, nI_clamp (by omega)]; exact znot_le c_3⟩).symm, rfl, rfl⟩ (Nat.zero_le _) (Nat.zero_le _) dX5_hasMeasured_31
set_option maxHeartbeats 4000000 in
set_option maxRecDepth 100000 in
theorem c_X5_corrected (l : Launch) (E : zE) (sa : Nat → Nat) {μ : zM} {ov : Nat → Int64} {i d : Int32} (k q : Nat) (hi : i = nI k) (hk : k < 8) (hd : d = nI q) (h1 : 1 ≤ q) (hq : q < 501) (hg : zGv μ) : zMi l E sa yX5_corrected wsX5_corrected 1 22 0 0 [.ref (zob E 7), .int i, .int d] μ ov (fun r μ1 ov1 => r = zcorM μ k q ∧ μ1 = μ ∧ ov1 = ov) := by
  refine z_ofMi (cc := cX5_corrected) (nL := 5) (ret := (some .int)) (own := RX5) zfp_X5_corrected rfl (by simp [Value.category]) (Nat.le_of_ble_eq_true rfl) rfl ?_
  intro p e s m below meth c C hr hlk
  have iX5 : ∀ w ∈ wsX50, w ∈ wsX5_corrected := by decide +kernel
  have f40 := C.1.2.2.2.2 (.fieldLink RX5 40 "TickFallModel" "counts" "[I") (by decide +kernel)
  have f55 := C.1.2.2.2.2 (.fieldLink RX5 55 "TickFallModel" "given" "[I") (by decide +kernel)
  have f58 := C.1.2.2.2.2 (.fieldLink RX5 58 "TickFallModel" "from" "[I") (by decide +kernel)
  have f61 := C.1.2.2.2.2 (.fieldLink RX5 61 "TickFallModel" "to" "[I") (by decide +kernel)
  have f64 := C.1.2.2.2.2 (.fieldLink RX5 64 "TickFallModel" "takes" "[I") (by decide +kernel)
  show zW p l e (zR 1 22 0 0) s m [Value.ref (zob E 7), Value.int i, Value.int d].toArray below meth c E 5 0 0 (MQ below (zQi E s.heap.size (fun r μ1 ov1 => r = zcorM μ k q ∧ μ1 = μ ∧ ov1 = ov)) [Value.ref (zob E 7), Value.int i, Value.int d].toArray s 0 0 (zA E s.heap.size)) 0 [some (.ref (zob E 7)), some (.int (i)), some (.int (d)), none, none] [] μ ov
  obtain ⟨g9, hg10, eg⟩ := hg k hk
  have eg9 : (μ 53 k).toNatClampNeg = g9 := by rw [eg, nI_clamp (by omega)]
  refine z_aloadn (i := 0) (pc := 0) C dX5_corrected_0 rfl rfl ?_
  refine zg_X5_counts (pc := 1) C dX5_corrected_1 iX5 f40 ?_
  refine z_bipush (v := 8) (pc := 4) C dX5_corrected_4 (by decide) ?_
  refine z_iloadn (i := 2) (pc := 6) C dX5_corrected_6 rfl rfl ?_
  refine z_iconst (v := 1) (pc := 7) C dX5_corrected_7 (by decide) ?_
  refine z_isub (pc := 8) C dX5_corrected_8 ?_
  refine z_imul (pc := 9) C dX5_corrected_9 ?_
  refine z_iloadn (i := 1) (pc := 10) C dX5_corrected_10 rfl rfl ?_
  refine z_iadd (pc := 11) C dX5_corrected_11 ?_
  refine z_iald (pc := 12) C 48 (8 * (q - 1) + k) (by decide) rfl (zix8 hi hd h1) (show 8 * (q - 1) + k < 4008 by omega) dX5_corrected_12 ?_
  refine z_istore3 (pc := 13) C (by decide) (fun w hw => by cases hw; exact (show ¬ (1 = 2) from by decide)) dX5_corrected_13 ?_
  refine z_bipush (v := 10) (pc := 14) C dX5_corrected_14 (by decide) ?_
  refine z_iloadn (i := 1) (pc := 16) C dX5_corrected_16 rfl rfl ?_
  refine z_imul (pc := 17) C dX5_corrected_17 ?_
  refine z_topi (y := nI (10 * k + 0)) (by rw [hi, show (10 : Int32) = nI 10 from rfl, pk_mul]; rfl) ?_
  refine z_istore4 (pc := 18) C (by decide) (fun w hw => by cases hw; exact (show ¬ (1 = 2) from by decide)) dX5_corrected_18 ?_
  have h10 : 10 * i + μ 53 k = nI (10 * k + g9) := by rw [hi, eg, show (10 : Int32) = nI 10 from rfl, pk_mul, nI_add]
  have loop : ∀ (f j : Nat), j + f = g9 → zW p l e (zR 1 22 0 0) s m [Value.ref (zob E 7), Value.int i, Value.int d].toArray below meth c E 5 0 0 (MQ below (zQi E s.heap.size (fun r μ1 ov1 => r = zcorM μ k q ∧ μ1 = μ ∧ ov1 = ov)) [Value.ref (zob E 7), Value.int i, Value.int d].toArray s 0 0 (zA E s.heap.size)) 20 [some (.ref (zob E 7)), some (.int (i)), some (.int (d)), some (.int (zcoM μ k q j)), some (.int (nI (10 * k + j)))] [] μ ov := by
    intro f
    induction f with
    | zero =>
      intro j hj
      refine z_iload (i := 4) (pc := 20) C dX5_corrected_20 rfl ?_
      refine z_bipush (v := 10) (pc := 22) C dX5_corrected_22 (by decide) ?_
      refine z_iloadn (i := 1) (pc := 24) C dX5_corrected_24 rfl rfl ?_
      refine z_imul (pc := 25) C dX5_corrected_25 ?_
      refine z_aloadn (i := 0) (pc := 26) C dX5_corrected_26 rfl rfl ?_
      refine zg_X5_given (pc := 27) C dX5_corrected_27 iX5 f55 ?_
      refine z_iloadn (i := 1) (pc := 30) C dX5_corrected_30 rfl rfl ?_
      refine z_iald (pc := 31) C 53 k (by decide) rfl hi (show k < 8 from by omega) dX5_corrected_31 ?_
      refine z_iadd (pc := 32) C dX5_corrected_32 ?_
      refine z_topi (y := nI (10 * k + g9)) h10 ?_
      refine z_icmp_ge (tgt := 77) (pc := 33) C dX5_corrected_33 (by decide) (fun c_l => ?_) (fun c_l => ?_)
      · refine z_iloadn (i := 3) (pc := 77) C dX5_corrected_77 rfl rfl ?_
        exact z_iret (pc := 78) C hr hlk ⟨by rw [zcorM, eg9, show j = g9 by omega], rfl, rfl⟩ (Nat.zero_le _) (Nat.zero_le _) dX5_corrected_78
      · exact absurd (nI_le (by omega) (by omega)) c_l
    | succ f ih =>
      intro j hj
      have go : ∀ v : Int32, v = zcoM μ k q (j + 1) → zW p l e (zR 1 22 0 0) s m [Value.ref (zob E 7), Value.int i, Value.int d].toArray below meth c E 5 0 0 (MQ below (zQi E s.heap.size (fun r μ1 ov1 => r = zcorM μ k q ∧ μ1 = μ ∧ ov1 = ov)) [Value.ref (zob E 7), Value.int i, Value.int d].toArray s 0 0 (zA E s.heap.size)) 71 [some (.ref (zob E 7)), some (.int (i)), some (.int (d)), some (.int (v)), some (.int (nI (10 * k + j)))] [] μ ov := by
        intro v hv
        subst hv
        refine z_iinc4 (v := 1) (pc := 71) C (by decide) (by decide) (fun w hw => by cases hw; exact (show ¬ (1 = 2) from by decide)) dX5_corrected_71 ?_
        rw [nI_1]
        refine z_goto (tgt := 20) (pc := 74) C dX5_corrected_74 (by decide) ?_
        exact ih (j + 1) (by omega)
      refine z_iload (i := 4) (pc := 20) C dX5_corrected_20 rfl ?_
      refine z_bipush (v := 10) (pc := 22) C dX5_corrected_22 (by decide) ?_
      refine z_iloadn (i := 1) (pc := 24) C dX5_corrected_24 rfl rfl ?_
      refine z_imul (pc := 25) C dX5_corrected_25 ?_
      refine z_aloadn (i := 0) (pc := 26) C dX5_corrected_26 rfl rfl ?_
      refine zg_X5_given (pc := 27) C dX5_corrected_27 iX5 f55 ?_
      refine z_iloadn (i := 1) (pc := 30) C dX5_corrected_30 rfl rfl ?_
      refine z_iald (pc := 31) C 53 k (by decide) rfl hi (show k < 8 from by omega) dX5_corrected_31 ?_
      refine z_iadd (pc := 32) C dX5_corrected_32 ?_
      refine z_topi (y := nI (10 * k + g9)) h10 ?_
      refine z_icmp_ge (tgt := 77) (pc := 33) C dX5_corrected_33 (by decide) (fun c_l => ?_) (fun c_l => ?_)
      · exact absurd c_l (nI_ge (by omega) (by omega))
      · refine z_iloadn (i := 3) (pc := 36) C dX5_corrected_36 rfl rfl ?_
        refine z_iloadn (i := 2) (pc := 37) C dX5_corrected_37 rfl rfl ?_
        refine z_aloadn (i := 0) (pc := 38) C dX5_corrected_38 rfl rfl ?_
        refine zg_X5_from (pc := 39) C dX5_corrected_39 iX5 f58 ?_
        refine z_iload (i := 4) (pc := 42) C dX5_corrected_42 rfl ?_
        refine z_iald (pc := 44) C 54 (10 * k + j) (by decide) rfl rfl (show 10 * k + j < 80 by omega) dX5_corrected_44 ?_
        refine z_aloadn (i := 0) (pc := 45) C dX5_corrected_45 rfl rfl ?_
        refine zg_X5_to (pc := 46) C dX5_corrected_46 iX5 f61 ?_
        refine z_iload (i := 4) (pc := 49) C dX5_corrected_49 rfl ?_
        refine z_iald (pc := 51) C 55 (10 * k + j) (by decide) rfl rfl (show 10 * k + j < 80 by omega) dX5_corrected_51 ?_
        refine z_callSi (pc := 52) (n := 3) (As := [.int (d), .int (μ 54 (10 * k + j)), .int (μ 55 (10 * k + j))]) (rest := [.int (zcoM μ k q j)]) C (c_X5_in l E sa (μ := μ) (ov := ov) (d) (μ 54 (10 * k + j)) (μ 55 (10 * k + j))) gX5_corrected_X5_in rfl zfV_X5_in.2 ⟨Nat.le_of_ble_eq_true rfl, Nat.le_of_ble_eq_true rfl⟩ rfl rfl (Nat.le_of_ble_eq_true rfl) ⟨Nat.zero_le _, Nat.zero_le _⟩ dX5_corrected_52 (fun r9 μ9 ov9 hp => ?_)
        have e1 := hp.1.symm
        have e2 := hp.2.1.symm
        have e3 := hp.2.2.symm
        clear hp
        subst e1 e2 e3
        refine z_if_eq (tgt := 68) (pc := 55) C dX5_corrected_55 (by decide) (fun c_1 => ?_) (fun c_1 => ?_)
        · rw [zb_eq0] at c_1
          refine z_iconst (v := 0) (pc := 68) C dX5_corrected_68 (by decide) ?_
          refine z_isub (pc := 69) C dX5_corrected_69 ?_
          refine z_istore3 (pc := 70) C (by decide) (fun w hw => by cases hw; exact (show ¬ (1 = 2) from by decide)) dX5_corrected_70 ?_
          exact go _ (by rw [zcoM, ← hd]; first | rw [if_pos c_1] | rw [if_neg c_1])
        · rw [zb_ne0] at c_1
          refine z_aloadn (i := 0) (pc := 58) C dX5_corrected_58 rfl rfl ?_
          refine zg_X5_takes (pc := 59) C dX5_corrected_59 iX5 f64 ?_
          refine z_iload (i := 4) (pc := 62) C dX5_corrected_62 rfl ?_
          refine z_iald (pc := 64) C 56 (10 * k + j) (by decide) rfl rfl (show 10 * k + j < 80 by omega) dX5_corrected_64 ?_
          refine z_goto (tgt := 69) (pc := 65) C dX5_corrected_65 (by decide) ?_
          refine z_isub (pc := 69) C dX5_corrected_69 ?_
          refine z_istore3 (pc := 70) C (by decide) (fun w hw => by cases hw; exact (show ¬ (1 = 2) from by decide)) dX5_corrected_70 ?_
          exact go _ (by rw [zcoM, ← hd]; first | rw [if_pos c_1] | rw [if_neg c_1])
  exact loop g9 0 (by omega)
set_option maxHeartbeats 4000000 in
set_option maxRecDepth 100000 in
theorem c_X5_otherEnd (l : Launch) (E : zE) (sa : Nat → Nat) {μ : zM} {ov : Nat → Int64} {i : Int32} (k : Nat) (hi : i = nI k) (hk : k < 8) (d : Int32) : zMi l E sa yX5_otherEnd wsX5_otherEnd 0 0 0 0 [.ref (zob E 7), .int i, .int d] μ ov (fun r μ1 ov1 => r = zoeM μ k d ∧ μ1 = μ ∧ ov1 = ov) := by
  refine z_ofMi (cc := cX5_otherEnd) (nL := 3) (ret := (some .int)) (own := RX5) zfp_X5_otherEnd rfl (by simp [Value.category]) (Nat.le_of_ble_eq_true rfl) rfl ?_
  intro p e s m below meth c C hr hlk
  have iX5 : ∀ w ∈ wsX50, w ∈ wsX5_otherEnd := by decide +kernel
  have f25 := C.1.2.2.2.2 (.fieldLink RX5 25 "TickFallModel" "one" "[I") (by decide +kernel)
  have f28 := C.1.2.2.2.2 (.fieldLink RX5 28 "TickFallModel" "two" "[I") (by decide +kernel)
  show zW p l e (zR 0 0 0 0) s m [Value.ref (zob E 7), Value.int i, Value.int d].toArray below meth c E 3 0 0 (MQ below (zQi E s.heap.size (fun r μ1 ov1 => r = zoeM μ k d ∧ μ1 = μ ∧ ov1 = ov)) [Value.ref (zob E 7), Value.int i, Value.int d].toArray s 0 0 (zA E s.heap.size)) 0 [some (.ref (zob E 7)), some (.int (i)), some (.int (d))] [] μ ov
  refine z_aloadn (i := 0) (pc := 0) C dX5_otherEnd_0 rfl rfl ?_
  refine zg_X5_one (pc := 1) C dX5_otherEnd_1 iX5 f25 ?_
  refine z_iloadn (i := 1) (pc := 4) C dX5_otherEnd_4 rfl rfl ?_
  refine z_iald (pc := 5) C 43 k (by decide) rfl hi (show k < 8 from by omega) dX5_otherEnd_5 ?_
  refine z_iloadn (i := 2) (pc := 6) C dX5_otherEnd_6 rfl rfl ?_
  refine z_icmp_ne (tgt := 19) (pc := 7) C dX5_otherEnd_7 (by decide) (fun c_1 => ?_) (fun c_1 => ?_)
  · refine z_aloadn (i := 0) (pc := 19) C dX5_otherEnd_19 rfl rfl ?_
    refine zg_X5_two (pc := 20) C dX5_otherEnd_20 iX5 f28 ?_
    refine z_iloadn (i := 1) (pc := 23) C dX5_otherEnd_23 rfl rfl ?_
    refine z_iald (pc := 24) C 44 k (by decide) rfl hi (show k < 8 from by omega) dX5_otherEnd_24 ?_
    refine z_iloadn (i := 2) (pc := 25) C dX5_otherEnd_25 rfl rfl ?_
    refine z_icmp_ne (tgt := 38) (pc := 26) C dX5_otherEnd_26 (by decide) (fun c_2 => ?_) (fun c_2 => ?_)
    · refine z_iconst (v := -1) (pc := 38) C dX5_otherEnd_38 (by decide) ?_
      exact z_iret (pc := 39) C hr hlk ⟨by first | rw [zoeM, if_pos c_1] | rw [zoeM, if_neg c_1, if_pos c_2] | rw [zoeM, if_neg c_1, if_neg c_2], rfl, rfl⟩ (Nat.zero_le _) (Nat.zero_le _) dX5_otherEnd_39
    · refine z_aloadn (i := 0) (pc := 29) C dX5_otherEnd_29 rfl rfl ?_
      refine zg_X5_one (pc := 30) C dX5_otherEnd_30 iX5 f25 ?_
      refine z_iloadn (i := 1) (pc := 33) C dX5_otherEnd_33 rfl rfl ?_
      refine z_iald (pc := 34) C 43 k (by decide) rfl hi (show k < 8 from by omega) dX5_otherEnd_34 ?_
      refine z_goto (tgt := 39) (pc := 35) C dX5_otherEnd_35 (by decide) ?_
      exact z_iret (pc := 39) C hr hlk ⟨by first | rw [zoeM, if_pos c_1] | rw [zoeM, if_neg c_1, if_pos c_2] | rw [zoeM, if_neg c_1, if_neg c_2], rfl, rfl⟩ (Nat.zero_le _) (Nat.zero_le _) dX5_otherEnd_39
  · refine z_aloadn (i := 0) (pc := 10) C dX5_otherEnd_10 rfl rfl ?_
    refine zg_X5_two (pc := 11) C dX5_otherEnd_11 iX5 f28 ?_
    refine z_iloadn (i := 1) (pc := 14) C dX5_otherEnd_14 rfl rfl ?_
    refine z_iald (pc := 15) C 44 k (by decide) rfl hi (show k < 8 from by omega) dX5_otherEnd_15 ?_
    refine z_goto (tgt := 39) (pc := 16) C dX5_otherEnd_16 (by decide) ?_
    exact z_iret (pc := 39) C hr hlk ⟨by first | rw [zoeM, if_pos c_1] | rw [zoeM, if_neg c_1, if_pos c_2] | rw [zoeM, if_neg c_1, if_neg c_2], rfl, rfl⟩ (Nat.zero_le _) (Nat.zero_le _) dX5_otherEnd_39
set_option maxHeartbeats 4000000 in
set_option maxRecDepth 100000 in
theorem c_X5_isRing (l : Launch) (E : zE) (sa : Nat → Nat) {μ : zM} {ov : Nat → Int64} {i1 i2 i3 : Int32} (a b c8 : Nat) (h1 : i1 = nI a) (h2 : i2 = nI b) (h3 : i3 = nI c8) (g1 : a < 8) (g2 : b < 8) (g3 : c8 < 8) : zMi l E sa yX5_isRing wsX5_isRing 1 22 0 0 [.ref (zob E 7), .int i1, .int i2, .int i3] μ ov (fun r μ1 ov1 => r = zb (zriM μ a b c8) ∧ μ1 = μ ∧ ov1 = ov) := by
  refine z_ofMi (cc := cX5_isRing) (nL := 7) (ret := (some .boolean)) (own := RX5) zfp_X5_isRing rfl (by simp [Value.category]) (Nat.le_of_ble_eq_true rfl) rfl ?_
  intro p e s m below meth c C hr hlk
  have iX5 : ∀ w ∈ wsX50, w ∈ wsX5_isRing := by decide +kernel
  have f25 := C.1.2.2.2.2 (.fieldLink RX5 25 "TickFallModel" "one" "[I") (by decide +kernel)
  have f28 := C.1.2.2.2.2 (.fieldLink RX5 28 "TickFallModel" "two" "[I") (by decide +kernel)
  show zW p l e (zR 1 22 0 0) s m [Value.ref (zob E 7), Value.int i1, Value.int i2, Value.int i3].toArray below meth c E 7 0 0 (MQ below (zQi E s.heap.size (fun r μ1 ov1 => r = zb (zriM μ a b c8) ∧ μ1 = μ ∧ ov1 = ov)) [Value.ref (zob E 7), Value.int i1, Value.int i2, Value.int i3].toArray s 0 0 (zA E s.heap.size)) 0 [some (.ref (zob E 7)), some (.int (i1)), some (.int (i2)), some (.int (i3)), none, none, none] [] μ ov
  refine z_aloadn (i := 0) (pc := 0) C dX5_isRing_0 rfl rfl ?_
  refine z_iloadn (i := 2) (pc := 1) C dX5_isRing_1 rfl rfl ?_
  refine z_aloadn (i := 0) (pc := 2) C dX5_isRing_2 rfl rfl ?_
  refine zg_X5_two (pc := 3) C dX5_isRing_3 iX5 f28 ?_
  refine z_iloadn (i := 1) (pc := 6) C dX5_isRing_6 rfl rfl ?_
  refine z_iald (pc := 7) C 44 a (by decide) rfl h1 (show a < 8 from by omega) dX5_isRing_7 ?_
  refine z_callVi (pc := 8) (n := 2) (As := [.int (i2), .int (μ 44 a)]) (rest := []) C (c_X5_otherEnd l E sa (μ := μ) (ov := ov) (b) h2 g2 (μ 44 a)) gX5_isRing_X5_otherEnd rfl zfV_X5_otherEnd ⟨Nat.le_of_ble_eq_true rfl, Nat.le_of_ble_eq_true rfl⟩ rfl (zRec_X5 E) rfl (Nat.le_of_ble_eq_true rfl) ⟨Nat.zero_le _, Nat.zero_le _⟩ dX5_isRing_8 (fun r9 μ9 ov9 hp => ?_)
  have e1 := hp.1.symm
  have e2 := hp.2.1.symm
  have e3 := hp.2.2.symm
  clear hp
  subst e1 e2 e3
  refine z_iconst (v := -1) (pc := 11) C dX5_isRing_11 (by decide) ?_
  refine z_icmp_eq (tgt := 19) (pc := 12) C dX5_isRing_12 (by decide) (fun c_1 => ?_) (fun c_1 => ?_)
  · have en : zneM μ a b c8 = c8 := if_pos c_1
    refine z_iloadn (i := 3) (pc := 19) C dX5_isRing_19 rfl rfl ?_
    refine z_topi (y := nI (zneM μ a b c8)) (by rw [en]; exact h3) ?_
    have gn : zneM μ a b c8 < 8 := by rw [en]; assumption
    refine z_istore4 (pc := 20) C (by decide) (fun w hw => by cases hw; exact (show ¬ (1 = 2) from by decide)) dX5_isRing_20 ?_
    refine z_iload (i := 4) (pc := 22) C dX5_isRing_22 rfl ?_
    refine z_iloadn (i := 2) (pc := 24) C dX5_isRing_24 rfl rfl ?_
    refine z_icmp_ne (tgt := 32) (pc := 25) C dX5_isRing_25 (by decide) (fun c_2 => ?_) (fun c_2 => ?_)
    · have el : zlaM μ a b c8 = b := if_neg (fun e => c_2 (by rw [e]; exact h2.symm))
      refine z_iloadn (i := 2) (pc := 32) C dX5_isRing_32 rfl rfl ?_
      refine z_topi (y := nI (zlaM μ a b c8)) (by rw [el]; exact h2) ?_
      have gl : zlaM μ a b c8 < 8 := by rw [el]; assumption
      refine z_istore5 (pc := 33) C (by decide) (fun w hw => by cases hw; exact (show ¬ (1 = 2) from by decide)) dX5_isRing_33 ?_
      refine z_aloadn (i := 0) (pc := 35) C dX5_isRing_35 rfl rfl ?_
      refine z_iload (i := 4) (pc := 36) C dX5_isRing_36 rfl ?_
      refine z_aloadn (i := 0) (pc := 38) C dX5_isRing_38 rfl rfl ?_
      refine zg_X5_two (pc := 39) C dX5_isRing_39 iX5 f28 ?_
      refine z_iloadn (i := 1) (pc := 42) C dX5_isRing_42 rfl rfl ?_
      refine z_iald (pc := 43) C 44 a (by decide) rfl h1 (show a < 8 from by omega) dX5_isRing_43 ?_
      refine z_callVi (pc := 44) (n := 2) (As := [.int (nI (zneM μ a b c8)), .int (μ 44 a)]) (rest := []) C (c_X5_otherEnd l E sa (μ := μ) (ov := ov) (zneM μ a b c8) rfl gn (μ 44 a)) gX5_isRing_X5_otherEnd rfl zfV_X5_otherEnd ⟨Nat.le_of_ble_eq_true rfl, Nat.le_of_ble_eq_true rfl⟩ rfl (zRec_X5 E) rfl (Nat.le_of_ble_eq_true rfl) ⟨Nat.zero_le _, Nat.zero_le _⟩ dX5_isRing_44 (fun r9 μ9 ov9 hp => ?_)
      have e1 := hp.1.symm
      have e2 := hp.2.1.symm
      have e3 := hp.2.2.symm
      clear hp
      subst e1 e2 e3
      refine z_istore6 (pc := 47) C (by decide) (fun w hw => by cases hw; exact (show ¬ (1 = 2) from by decide)) dX5_isRing_47 ?_
      refine z_iload (i := 6) (pc := 49) C dX5_isRing_49 rfl ?_
      refine z_iconst (v := -1) (pc := 51) C dX5_isRing_51 (by decide) ?_
      refine z_icmp_eq (tgt := 87) (pc := 52) C dX5_isRing_52 (by decide) (fun c_3 => ?_) (fun c_3 => ?_)
      · refine z_iconst (v := 0) (pc := 87) C dX5_isRing_87 (by decide) ?_
        exact z_zret (pc := 88) C hr hlk (by decide) ⟨(zb_f (fun h => h.1 c_3)).symm, rfl, rfl⟩ (Nat.zero_le _) (Nat.zero_le _) dX5_isRing_88
      · refine z_iload (i := 6) (pc := 55) C dX5_isRing_55 rfl ?_
        refine z_aloadn (i := 0) (pc := 57) C dX5_isRing_57 rfl rfl ?_
        refine zg_X5_one (pc := 58) C dX5_isRing_58 iX5 f25 ?_
        refine z_iloadn (i := 1) (pc := 61) C dX5_isRing_61 rfl rfl ?_
        refine z_iald (pc := 62) C 43 a (by decide) rfl h1 (show a < 8 from by omega) dX5_isRing_62 ?_
        refine z_icmp_eq (tgt := 87) (pc := 63) C dX5_isRing_63 (by decide) (fun c_4 => ?_) (fun c_4 => ?_)
        · refine z_iconst (v := 0) (pc := 87) C dX5_isRing_87 (by decide) ?_
          exact z_zret (pc := 88) C hr hlk (by decide) ⟨(zb_f (fun h => h.2.1 c_4)).symm, rfl, rfl⟩ (Nat.zero_le _) (Nat.zero_le _) dX5_isRing_88
        · refine z_aloadn (i := 0) (pc := 66) C dX5_isRing_66 rfl rfl ?_
          refine z_iload (i := 5) (pc := 67) C dX5_isRing_67 rfl ?_
          refine z_iload (i := 6) (pc := 69) C dX5_isRing_69 rfl ?_
          refine z_callVi (pc := 71) (n := 2) (As := [.int (nI (zlaM μ a b c8)), .int (zoeM μ (zneM μ a b c8) (μ 44 a))]) (rest := []) C (c_X5_otherEnd l E sa (μ := μ) (ov := ov) (zlaM μ a b c8) rfl gl (zoeM μ (zneM μ a b c8) (μ 44 a))) gX5_isRing_X5_otherEnd rfl zfV_X5_otherEnd ⟨Nat.le_of_ble_eq_true rfl, Nat.le_of_ble_eq_true rfl⟩ rfl (zRec_X5 E) rfl (Nat.le_of_ble_eq_true rfl) ⟨Nat.zero_le _, Nat.zero_le _⟩ dX5_isRing_71 (fun r9 μ9 ov9 hp => ?_)
          have e1 := hp.1.symm
          have e2 := hp.2.1.symm
          have e3 := hp.2.2.symm
          clear hp
          subst e1 e2 e3
          refine z_aloadn (i := 0) (pc := 74) C dX5_isRing_74 rfl rfl ?_
          refine zg_X5_one (pc := 75) C dX5_isRing_75 iX5 f25 ?_
          refine z_iloadn (i := 1) (pc := 78) C dX5_isRing_78 rfl rfl ?_
          refine z_iald (pc := 79) C 43 a (by decide) rfl h1 (show a < 8 from by omega) dX5_isRing_79 ?_
          refine z_icmp_ne (tgt := 87) (pc := 80) C dX5_isRing_80 (by decide) (fun c_5 => ?_) (fun c_5 => ?_)
          · refine z_iconst (v := 0) (pc := 87) C dX5_isRing_87 (by decide) ?_
            exact z_zret (pc := 88) C hr hlk (by decide) ⟨(zb_f (fun h => c_5 h.2.2)).symm, rfl, rfl⟩ (Nat.zero_le _) (Nat.zero_le _) dX5_isRing_88
          · refine z_iconst (v := 1) (pc := 83) C dX5_isRing_83 (by decide) ?_
            refine z_goto (tgt := 88) (pc := 84) C dX5_isRing_84 (by decide) ?_
            exact z_zret (pc := 88) C hr hlk (by decide) ⟨(zb_t ⟨c_3, c_4, c_5⟩).symm, rfl, rfl⟩ (Nat.zero_le _) (Nat.zero_le _) dX5_isRing_88
    · have el : zlaM μ a b c8 = c8 := if_pos (by have e := c_2; rw [h2, nI_eq (by omega) (by omega)] at e; exact e)
      refine z_iloadn (i := 3) (pc := 28) C dX5_isRing_28 rfl rfl ?_
      refine z_goto (tgt := 33) (pc := 29) C dX5_isRing_29 (by decide) ?_
      refine z_topi (y := nI (zlaM μ a b c8)) (by rw [el]; exact h3) ?_
      have gl : zlaM μ a b c8 < 8 := by rw [el]; assumption
      refine z_istore5 (pc := 33) C (by decide) (fun w hw => by cases hw; exact (show ¬ (1 = 2) from by decide)) dX5_isRing_33 ?_
      refine z_aloadn (i := 0) (pc := 35) C dX5_isRing_35 rfl rfl ?_
      refine z_iload (i := 4) (pc := 36) C dX5_isRing_36 rfl ?_
      refine z_aloadn (i := 0) (pc := 38) C dX5_isRing_38 rfl rfl ?_
      refine zg_X5_two (pc := 39) C dX5_isRing_39 iX5 f28 ?_
      refine z_iloadn (i := 1) (pc := 42) C dX5_isRing_42 rfl rfl ?_
      refine z_iald (pc := 43) C 44 a (by decide) rfl h1 (show a < 8 from by omega) dX5_isRing_43 ?_
      refine z_callVi (pc := 44) (n := 2) (As := [.int (nI (zneM μ a b c8)), .int (μ 44 a)]) (rest := []) C (c_X5_otherEnd l E sa (μ := μ) (ov := ov) (zneM μ a b c8) rfl gn (μ 44 a)) gX5_isRing_X5_otherEnd rfl zfV_X5_otherEnd ⟨Nat.le_of_ble_eq_true rfl, Nat.le_of_ble_eq_true rfl⟩ rfl (zRec_X5 E) rfl (Nat.le_of_ble_eq_true rfl) ⟨Nat.zero_le _, Nat.zero_le _⟩ dX5_isRing_44 (fun r9 μ9 ov9 hp => ?_)
      have e1 := hp.1.symm
      have e2 := hp.2.1.symm
      have e3 := hp.2.2.symm
      clear hp
      subst e1 e2 e3
      refine z_istore6 (pc := 47) C (by decide) (fun w hw => by cases hw; exact (show ¬ (1 = 2) from by decide)) dX5_isRing_47 ?_
      refine z_iload (i := 6) (pc := 49) C dX5_isRing_49 rfl ?_
      refine z_iconst (v := -1) (pc := 51) C dX5_isRing_51 (by decide) ?_
      refine z_icmp_eq (tgt := 87) (pc := 52) C dX5_isRing_52 (by decide) (fun c_3 => ?_) (fun c_3 => ?_)
      · refine z_iconst (v := 0) (pc := 87) C dX5_isRing_87 (by decide) ?_
        exact z_zret (pc := 88) C hr hlk (by decide) ⟨(zb_f (fun h => h.1 c_3)).symm, rfl, rfl⟩ (Nat.zero_le _) (Nat.zero_le _) dX5_isRing_88
      · refine z_iload (i := 6) (pc := 55) C dX5_isRing_55 rfl ?_
        refine z_aloadn (i := 0) (pc := 57) C dX5_isRing_57 rfl rfl ?_
        refine zg_X5_one (pc := 58) C dX5_isRing_58 iX5 f25 ?_
        refine z_iloadn (i := 1) (pc := 61) C dX5_isRing_61 rfl rfl ?_
        refine z_iald (pc := 62) C 43 a (by decide) rfl h1 (show a < 8 from by omega) dX5_isRing_62 ?_
        refine z_icmp_eq (tgt := 87) (pc := 63) C dX5_isRing_63 (by decide) (fun c_4 => ?_) (fun c_4 => ?_)
        · refine z_iconst (v := 0) (pc := 87) C dX5_isRing_87 (by decide) ?_
          exact z_zret (pc := 88) C hr hlk (by decide) ⟨(zb_f (fun h => h.2.1 c_4)).symm, rfl, rfl⟩ (Nat.zero_le _) (Nat.zero_le _) dX5_isRing_88
        · refine z_aloadn (i := 0) (pc := 66) C dX5_isRing_66 rfl rfl ?_
          refine z_iload (i := 5) (pc := 67) C dX5_isRing_67 rfl ?_
          refine z_iload (i := 6) (pc := 69) C dX5_isRing_69 rfl ?_
          refine z_callVi (pc := 71) (n := 2) (As := [.int (nI (zlaM μ a b c8)), .int (zoeM μ (zneM μ a b c8) (μ 44 a))]) (rest := []) C (c_X5_otherEnd l E sa (μ := μ) (ov := ov) (zlaM μ a b c8) rfl gl (zoeM μ (zneM μ a b c8) (μ 44 a))) gX5_isRing_X5_otherEnd rfl zfV_X5_otherEnd ⟨Nat.le_of_ble_eq_true rfl, Nat.le_of_ble_eq_true rfl⟩ rfl (zRec_X5 E) rfl (Nat.le_of_ble_eq_true rfl) ⟨Nat.zero_le _, Nat.zero_le _⟩ dX5_isRing_71 (fun r9 μ9 ov9 hp => ?_)
          have e1 := hp.1.symm
          have e2 := hp.2.1.symm
          have e3 := hp.2.2.symm
          clear hp
          subst e1 e2 e3
          refine z_aloadn (i := 0) (pc := 74) C dX5_isRing_74 rfl rfl ?_
          refine zg_X5_one (pc := 75) C dX5_isRing_75 iX5 f25 ?_
          refine z_iloadn (i := 1) (pc := 78) C dX5_isRing_78 rfl rfl ?_
          refine z_iald (pc := 79) C 43 a (by decide) rfl h1 (show a < 8 from by omega) dX5_isRing_79 ?_
          refine z_icmp_ne (tgt := 87) (pc := 80) C dX5_isRing_80 (by decide) (fun c_5 => ?_) (fun c_5 => ?_)
          · refine z_iconst (v := 0) (pc := 87) C dX5_isRing_87 (by decide) ?_
            exact z_zret (pc := 88) C hr hlk (by decide) ⟨(zb_f (fun h => c_5 h.2.2)).symm, rfl, rfl⟩ (Nat.zero_le _) (Nat.zero_le _) dX5_isRing_88
          · refine z_iconst (v := 1) (pc := 83) C dX5_isRing_83 (by decide) ?_
            refine z_goto (tgt := 88) (pc := 84) C dX5_isRing_84 (by decide) ?_
            exact z_zret (pc := 88) C hr hlk (by decide) ⟨(zb_t ⟨c_3, c_4, c_5⟩).symm, rfl, rfl⟩ (Nat.zero_le _) (Nat.zero_le _) dX5_isRing_88
  · have en : zneM μ a b c8 = b := if_neg c_1
    refine z_iloadn (i := 2) (pc := 15) C dX5_isRing_15 rfl rfl ?_
    refine z_goto (tgt := 20) (pc := 16) C dX5_isRing_16 (by decide) ?_
    refine z_topi (y := nI (zneM μ a b c8)) (by rw [en]; exact h2) ?_
    have gn : zneM μ a b c8 < 8 := by rw [en]; assumption
    refine z_istore4 (pc := 20) C (by decide) (fun w hw => by cases hw; exact (show ¬ (1 = 2) from by decide)) dX5_isRing_20 ?_
    refine z_iload (i := 4) (pc := 22) C dX5_isRing_22 rfl ?_
    refine z_iloadn (i := 2) (pc := 24) C dX5_isRing_24 rfl rfl ?_
    refine z_icmp_ne (tgt := 32) (pc := 25) C dX5_isRing_25 (by decide) (fun c_2 => ?_) (fun c_2 => ?_)
    · have el : zlaM μ a b c8 = b := if_neg (fun e => c_2 (by rw [e]; exact h2.symm))
      refine z_iloadn (i := 2) (pc := 32) C dX5_isRing_32 rfl rfl ?_
      refine z_topi (y := nI (zlaM μ a b c8)) (by rw [el]; exact h2) ?_
      have gl : zlaM μ a b c8 < 8 := by rw [el]; assumption
      refine z_istore5 (pc := 33) C (by decide) (fun w hw => by cases hw; exact (show ¬ (1 = 2) from by decide)) dX5_isRing_33 ?_
      refine z_aloadn (i := 0) (pc := 35) C dX5_isRing_35 rfl rfl ?_
      refine z_iload (i := 4) (pc := 36) C dX5_isRing_36 rfl ?_
      refine z_aloadn (i := 0) (pc := 38) C dX5_isRing_38 rfl rfl ?_
      refine zg_X5_two (pc := 39) C dX5_isRing_39 iX5 f28 ?_
      refine z_iloadn (i := 1) (pc := 42) C dX5_isRing_42 rfl rfl ?_
      refine z_iald (pc := 43) C 44 a (by decide) rfl h1 (show a < 8 from by omega) dX5_isRing_43 ?_
      refine z_callVi (pc := 44) (n := 2) (As := [.int (nI (zneM μ a b c8)), .int (μ 44 a)]) (rest := []) C (c_X5_otherEnd l E sa (μ := μ) (ov := ov) (zneM μ a b c8) rfl gn (μ 44 a)) gX5_isRing_X5_otherEnd rfl zfV_X5_otherEnd ⟨Nat.le_of_ble_eq_true rfl, Nat.le_of_ble_eq_true rfl⟩ rfl (zRec_X5 E) rfl (Nat.le_of_ble_eq_true rfl) ⟨Nat.zero_le _, Nat.zero_le _⟩ dX5_isRing_44 (fun r9 μ9 ov9 hp => ?_)
      have e1 := hp.1.symm
      have e2 := hp.2.1.symm
      have e3 := hp.2.2.symm
      clear hp
      subst e1 e2 e3
      refine z_istore6 (pc := 47) C (by decide) (fun w hw => by cases hw; exact (show ¬ (1 = 2) from by decide)) dX5_isRing_47 ?_
      refine z_iload (i := 6) (pc := 49) C dX5_isRing_49 rfl ?_
      refine z_iconst (v := -1) (pc := 51) C dX5_isRing_51 (by decide) ?_
      refine z_icmp_eq (tgt := 87) (pc := 52) C dX5_isRing_52 (by decide) (fun c_3 => ?_) (fun c_3 => ?_)
      · refine z_iconst (v := 0) (pc := 87) C dX5_isRing_87 (by decide) ?_
        exact z_zret (pc := 88) C hr hlk (by decide) ⟨(zb_f (fun h => h.1 c_3)).symm, rfl, rfl⟩ (Nat.zero_le _) (Nat.zero_le _) dX5_isRing_88
      · refine z_iload (i := 6) (pc := 55) C dX5_isRing_55 rfl ?_
        refine z_aloadn (i := 0) (pc := 57) C dX5_isRing_57 rfl rfl ?_
        refine zg_X5_one (pc := 58) C dX5_isRing_58 iX5 f25 ?_
        refine z_iloadn (i := 1) (pc := 61) C dX5_isRing_61 rfl rfl ?_
        refine z_iald (pc := 62) C 43 a (by decide) rfl h1 (show a < 8 from by omega) dX5_isRing_62 ?_
        refine z_icmp_eq (tgt := 87) (pc := 63) C dX5_isRing_63 (by decide) (fun c_4 => ?_) (fun c_4 => ?_)
        · refine z_iconst (v := 0) (pc := 87) C dX5_isRing_87 (by decide) ?_
          exact z_zret (pc := 88) C hr hlk (by decide) ⟨(zb_f (fun h => h.2.1 c_4)).symm, rfl, rfl⟩ (Nat.zero_le _) (Nat.zero_le _) dX5_isRing_88
        · refine z_aloadn (i := 0) (pc := 66) C dX5_isRing_66 rfl rfl ?_
          refine z_iload (i := 5) (pc := 67) C dX5_isRing_67 rfl ?_
          refine z_iload (i := 6) (pc := 69) C dX5_isRing_69 rfl ?_
          refine z_callVi (pc := 71) (n := 2) (As := [.int (nI (zlaM μ a b c8)), .int (zoeM μ (zneM μ a b c8) (μ 44 a))]) (rest := []) C (c_X5_otherEnd l E sa (μ := μ) (ov := ov) (zlaM μ a b c8) rfl gl (zoeM μ (zneM μ a b c8) (μ 44 a))) gX5_isRing_X5_otherEnd rfl zfV_X5_otherEnd ⟨Nat.le_of_ble_eq_true rfl, Nat.le_of_ble_eq_true rfl⟩ rfl (zRec_X5 E) rfl (Nat.le_of_ble_eq_true rfl) ⟨Nat.zero_le _, Nat.zero_le _⟩ dX5_isRing_71 (fun r9 μ9 ov9 hp => ?_)
          have e1 := hp.1.symm
          have e2 := hp.2.1.symm
          have e3 := hp.2.2.symm
          clear hp
          subst e1 e2 e3
          refine z_aloadn (i := 0) (pc := 74) C dX5_isRing_74 rfl rfl ?_
          refine zg_X5_one (pc := 75) C dX5_isRing_75 iX5 f25 ?_
          refine z_iloadn (i := 1) (pc := 78) C dX5_isRing_78 rfl rfl ?_
          refine z_iald (pc := 79) C 43 a (by decide) rfl h1 (show a < 8 from by omega) dX5_isRing_79 ?_
          refine z_icmp_ne (tgt := 87) (pc := 80) C dX5_isRing_80 (by decide) (fun c_5 => ?_) (fun c_5 => ?_)
          · refine z_iconst (v := 0) (pc := 87) C dX5_isRing_87 (by decide) ?_
            exact z_zret (pc := 88) C hr hlk (by decide) ⟨(zb_f (fun h => c_5 h.2.2)).symm, rfl, rfl⟩ (Nat.zero_le _) (Nat.zero_le _) dX5_isRing_88
          · refine z_iconst (v := 1) (pc := 83) C dX5_isRing_83 (by decide) ?_
            refine z_goto (tgt := 88) (pc := 84) C dX5_isRing_84 (by decide) ?_
            exact z_zret (pc := 88) C hr hlk (by decide) ⟨(zb_t ⟨c_3, c_4, c_5⟩).symm, rfl, rfl⟩ (Nat.zero_le _) (Nat.zero_le _) dX5_isRing_88
    · have el : zlaM μ a b c8 = c8 := if_pos (by have e := c_2; rw [h2, nI_eq (by omega) (by omega)] at e; exact e)
      refine z_iloadn (i := 3) (pc := 28) C dX5_isRing_28 rfl rfl ?_
      refine z_goto (tgt := 33) (pc := 29) C dX5_isRing_29 (by decide) ?_
      refine z_topi (y := nI (zlaM μ a b c8)) (by rw [el]; exact h3) ?_
      have gl : zlaM μ a b c8 < 8 := by rw [el]; assumption
      refine z_istore5 (pc := 33) C (by decide) (fun w hw => by cases hw; exact (show ¬ (1 = 2) from by decide)) dX5_isRing_33 ?_
      refine z_aloadn (i := 0) (pc := 35) C dX5_isRing_35 rfl rfl ?_
      refine z_iload (i := 4) (pc := 36) C dX5_isRing_36 rfl ?_
      refine z_aloadn (i := 0) (pc := 38) C dX5_isRing_38 rfl rfl ?_
      refine zg_X5_two (pc := 39) C dX5_isRing_39 iX5 f28 ?_
      refine z_iloadn (i := 1) (pc := 42) C dX5_isRing_42 rfl rfl ?_
      refine z_iald (pc := 43) C 44 a (by decide) rfl h1 (show a < 8 from by omega) dX5_isRing_43 ?_
      refine z_callVi (pc := 44) (n := 2) (As := [.int (nI (zneM μ a b c8)), .int (μ 44 a)]) (rest := []) C (c_X5_otherEnd l E sa (μ := μ) (ov := ov) (zneM μ a b c8) rfl gn (μ 44 a)) gX5_isRing_X5_otherEnd rfl zfV_X5_otherEnd ⟨Nat.le_of_ble_eq_true rfl, Nat.le_of_ble_eq_true rfl⟩ rfl (zRec_X5 E) rfl (Nat.le_of_ble_eq_true rfl) ⟨Nat.zero_le _, Nat.zero_le _⟩ dX5_isRing_44 (fun r9 μ9 ov9 hp => ?_)
      have e1 := hp.1.symm
      have e2 := hp.2.1.symm
      have e3 := hp.2.2.symm
      clear hp
      subst e1 e2 e3
      refine z_istore6 (pc := 47) C (by decide) (fun w hw => by cases hw; exact (show ¬ (1 = 2) from by decide)) dX5_isRing_47 ?_
      refine z_iload (i := 6) (pc := 49) C dX5_isRing_49 rfl ?_
      refine z_iconst (v := -1) (pc := 51) C dX5_isRing_51 (by decide) ?_
      refine z_icmp_eq (tgt := 87) (pc := 52) C dX5_isRing_52 (by decide) (fun c_3 => ?_) (fun c_3 => ?_)
      · refine z_iconst (v := 0) (pc := 87) C dX5_isRing_87 (by decide) ?_
        exact z_zret (pc := 88) C hr hlk (by decide) ⟨(zb_f (fun h => h.1 c_3)).symm, rfl, rfl⟩ (Nat.zero_le _) (Nat.zero_le _) dX5_isRing_88
      · refine z_iload (i := 6) (pc := 55) C dX5_isRing_55 rfl ?_
        refine z_aloadn (i := 0) (pc := 57) C dX5_isRing_57 rfl rfl ?_
        refine zg_X5_one (pc := 58) C dX5_isRing_58 iX5 f25 ?_
        refine z_iloadn (i := 1) (pc := 61) C dX5_isRing_61 rfl rfl ?_
        refine z_iald (pc := 62) C 43 a (by decide) rfl h1 (show a < 8 from by omega) dX5_isRing_62 ?_
        refine z_icmp_eq (tgt := 87) (pc := 63) C dX5_isRing_63 (by decide) (fun c_4 => ?_) (fun c_4 => ?_)
        · refine z_iconst (v := 0) (pc := 87) C dX5_isRing_87 (by decide) ?_
          exact z_zret (pc := 88) C hr hlk (by decide) ⟨(zb_f (fun h => h.2.1 c_4)).symm, rfl, rfl⟩ (Nat.zero_le _) (Nat.zero_le _) dX5_isRing_88
        · refine z_aloadn (i := 0) (pc := 66) C dX5_isRing_66 rfl rfl ?_
          refine z_iload (i := 5) (pc := 67) C dX5_isRing_67 rfl ?_
          refine z_iload (i := 6) (pc := 69) C dX5_isRing_69 rfl ?_
          refine z_callVi (pc := 71) (n := 2) (As := [.int (nI (zlaM μ a b c8)), .int (zoeM μ (zneM μ a b c8) (μ 44 a))]) (rest := []) C (c_X5_otherEnd l E sa (μ := μ) (ov := ov) (zlaM μ a b c8) rfl gl (zoeM μ (zneM μ a b c8) (μ 44 a))) gX5_isRing_X5_otherEnd rfl zfV_X5_otherEnd ⟨Nat.le_of_ble_eq_true rfl, Nat.le_of_ble_eq_true rfl⟩ rfl (zRec_X5 E) rfl (Nat.le_of_ble_eq_true rfl) ⟨Nat.zero_le _, Nat.zero_le _⟩ dX5_isRing_71 (fun r9 μ9 ov9 hp => ?_)
          have e1 := hp.1.symm
          have e2 := hp.2.1.symm
          have e3 := hp.2.2.symm
          clear hp
          subst e1 e2 e3
          refine z_aloadn (i := 0) (pc := 74) C dX5_isRing_74 rfl rfl ?_
          refine zg_X5_one (pc := 75) C dX5_isRing_75 iX5 f25 ?_
          refine z_iloadn (i := 1) (pc := 78) C dX5_isRing_78 rfl rfl ?_
          refine z_iald (pc := 79) C 43 a (by decide) rfl h1 (show a < 8 from by omega) dX5_isRing_79 ?_
          refine z_icmp_ne (tgt := 87) (pc := 80) C dX5_isRing_80 (by decide) (fun c_5 => ?_) (fun c_5 => ?_)
          · refine z_iconst (v := 0) (pc := 87) C dX5_isRing_87 (by decide) ?_
            exact z_zret (pc := 88) C hr hlk (by decide) ⟨(zb_f (fun h => c_5 h.2.2)).symm, rfl, rfl⟩ (Nat.zero_le _) (Nat.zero_le _) dX5_isRing_88
          · refine z_iconst (v := 1) (pc := 83) C dX5_isRing_83 (by decide) ?_
            refine z_goto (tgt := 88) (pc := 84) C dX5_isRing_84 (by decide) ?_
            exact z_zret (pc := 88) C hr hlk (by decide) ⟨(zb_t ⟨c_3, c_4, c_5⟩).symm, rfl, rfl⟩ (Nat.zero_le _) (Nat.zero_le _) dX5_isRing_88
set_option maxHeartbeats 4000000 in
set_option maxRecDepth 100000 in
theorem c_X5_isAmount (l : Launch) (E : zE) (sa : Nat → Nat) {μ : zM} {ov : Nat → Int64} (k a : Int32) : zMi l E sa yX5_isAmount wsX5_isAmount 1 22 0 0 [.int k, .int a] μ ov (fun r μ1 ov1 => r = (if k = 0 then zb (-500 ≤ a ∧ a ≤ 500) else if k = 1 then zb (0 ≤ a ∧ a ≤ 5000) else if k = 2 then zb (-50 ≤ a ∧ a ≤ 50) else zb (-3 ≤ a ∧ a ≤ 3)) ∧ μ1 = μ ∧ ov1 = ov) := by
  refine z_ofMi (cc := cX5_isAmount) (nL := 2) (ret := (some .boolean)) (own := RX5) zfp_X5_isAmount rfl (by simp [Value.category]) (Nat.le_of_ble_eq_true rfl) rfl ?_
  intro p e s m below meth c C hr hlk
  show zW p l e (zR 1 22 0 0) s m [Value.int k, Value.int a].toArray below meth c E 2 0 0 (MQ below (zQi E s.heap.size (fun r μ1 ov1 => r = (if k = 0 then zb (-500 ≤ a ∧ a ≤ 500) else if k = 1 then zb (0 ≤ a ∧ a ≤ 5000) else if k = 2 then zb (-50 ≤ a ∧ a ≤ 50) else zb (-3 ≤ a ∧ a ≤ 3)) ∧ μ1 = μ ∧ ov1 = ov)) [Value.int k, Value.int a].toArray s 0 0 (zA E s.heap.size)) 0 [some (.int (k)), some (.int (a))] [] μ ov
  refine z_iloadn (i := 0) (pc := 0) C dX5_isAmount_0 rfl rfl ?_
  refine z_if_ne (tgt := 17) (pc := 1) C dX5_isAmount_1 (by decide) (fun c_0 => ?_) (fun c_0 => ?_)
  · refine z_iloadn (i := 0) (pc := 17) C dX5_isAmount_17 rfl rfl ?_
    refine z_iconst (v := 1) (pc := 18) C dX5_isAmount_18 (by decide) ?_
    refine z_icmp_ne (tgt := 33) (pc := 19) C dX5_isAmount_19 (by decide) (fun c_1 => ?_) (fun c_1 => ?_)
    · refine z_iloadn (i := 0) (pc := 33) C dX5_isAmount_33 rfl rfl ?_
      refine z_iconst (v := 2) (pc := 34) C dX5_isAmount_34 (by decide) ?_
      refine z_icmp_ne (tgt := 49) (pc := 35) C dX5_isAmount_35 (by decide) (fun c_2 => ?_) (fun c_2 => ?_)
      · refine z_iloadn (i := 1) (pc := 49) C dX5_isAmount_49 rfl rfl ?_
        refine z_bipush (v := -3) (pc := 50) C dX5_isAmount_50 (by decide) ?_
        refine z_iconst (v := 3) (pc := 52) C dX5_isAmount_52 (by decide) ?_
        refine z_callSi (pc := 53) (n := 3) (As := [.int (a), .int (-3), .int (3)]) (rest := []) C (c_X5_in l E sa (μ := μ) (ov := ov) (a) (-3) (3)) gX5_isAmount_X5_in rfl zfV_X5_in.2 ⟨Nat.le_of_ble_eq_true rfl, Nat.le_of_ble_eq_true rfl⟩ rfl rfl (Nat.le_of_ble_eq_true rfl) ⟨Nat.zero_le _, Nat.zero_le _⟩ dX5_isAmount_53 (fun r9 μ9 ov9 hp => ?_)
        have e1 := hp.1.symm
        have e2 := hp.2.1.symm
        have e3 := hp.2.2.symm
        clear hp
        subst e1 e2 e3
        exact z_zret (pc := 56) C hr hlk (znarz zb_01) ⟨by first | rw [if_pos c_0] | rw [if_neg c_0, if_pos c_1] | rw [if_neg c_0, if_neg c_1, if_pos c_2] | rw [if_neg c_0, if_neg c_1, if_neg c_2], rfl, rfl⟩ (Nat.zero_le _) (Nat.zero_le _) dX5_isAmount_56
      · refine z_iloadn (i := 1) (pc := 38) C dX5_isAmount_38 rfl rfl ?_
        refine z_bipush (v := -50) (pc := 39) C dX5_isAmount_39 (by decide) ?_
        refine z_bipush (v := 50) (pc := 41) C dX5_isAmount_41 (by decide) ?_
        refine z_callSi (pc := 43) (n := 3) (As := [.int (a), .int (-50), .int (50)]) (rest := []) C (c_X5_in l E sa (μ := μ) (ov := ov) (a) (-50) (50)) gX5_isAmount_X5_in rfl zfV_X5_in.2 ⟨Nat.le_of_ble_eq_true rfl, Nat.le_of_ble_eq_true rfl⟩ rfl rfl (Nat.le_of_ble_eq_true rfl) ⟨Nat.zero_le _, Nat.zero_le _⟩ dX5_isAmount_43 (fun r9 μ9 ov9 hp => ?_)
        have e1 := hp.1.symm
        have e2 := hp.2.1.symm
        have e3 := hp.2.2.symm
        clear hp
        subst e1 e2 e3
        refine z_goto (tgt := 56) (pc := 46) C dX5_isAmount_46 (by decide) ?_
        exact z_zret (pc := 56) C hr hlk (znarz zb_01) ⟨by first | rw [if_pos c_0] | rw [if_neg c_0, if_pos c_1] | rw [if_neg c_0, if_neg c_1, if_pos c_2] | rw [if_neg c_0, if_neg c_1, if_neg c_2], rfl, rfl⟩ (Nat.zero_le _) (Nat.zero_le _) dX5_isAmount_56
    · refine z_iloadn (i := 1) (pc := 22) C dX5_isAmount_22 rfl rfl ?_
      refine z_iconst (v := 0) (pc := 23) C dX5_isAmount_23 (by decide) ?_
      refine z_sipush (v := 5000) (pc := 24) C dX5_isAmount_24 (by decide) ?_
      refine z_callSi (pc := 27) (n := 3) (As := [.int (a), .int (0), .int (5000)]) (rest := []) C (c_X5_in l E sa (μ := μ) (ov := ov) (a) (0) (5000)) gX5_isAmount_X5_in rfl zfV_X5_in.2 ⟨Nat.le_of_ble_eq_true rfl, Nat.le_of_ble_eq_true rfl⟩ rfl rfl (Nat.le_of_ble_eq_true rfl) ⟨Nat.zero_le _, Nat.zero_le _⟩ dX5_isAmount_27 (fun r9 μ9 ov9 hp => ?_)
      have e1 := hp.1.symm
      have e2 := hp.2.1.symm
      have e3 := hp.2.2.symm
      clear hp
      subst e1 e2 e3
      refine z_goto (tgt := 56) (pc := 30) C dX5_isAmount_30 (by decide) ?_
      exact z_zret (pc := 56) C hr hlk (znarz zb_01) ⟨by first | rw [if_pos c_0] | rw [if_neg c_0, if_pos c_1] | rw [if_neg c_0, if_neg c_1, if_pos c_2] | rw [if_neg c_0, if_neg c_1, if_neg c_2], rfl, rfl⟩ (Nat.zero_le _) (Nat.zero_le _) dX5_isAmount_56
  · refine z_iloadn (i := 1) (pc := 4) C dX5_isAmount_4 rfl rfl ?_
    refine z_sipush (v := -500) (pc := 5) C dX5_isAmount_5 (by decide) ?_
    refine z_sipush (v := 500) (pc := 8) C dX5_isAmount_8 (by decide) ?_
    refine z_callSi (pc := 11) (n := 3) (As := [.int (a), .int (-500), .int (500)]) (rest := []) C (c_X5_in l E sa (μ := μ) (ov := ov) (a) (-500) (500)) gX5_isAmount_X5_in rfl zfV_X5_in.2 ⟨Nat.le_of_ble_eq_true rfl, Nat.le_of_ble_eq_true rfl⟩ rfl rfl (Nat.le_of_ble_eq_true rfl) ⟨Nat.zero_le _, Nat.zero_le _⟩ dX5_isAmount_11 (fun r9 μ9 ov9 hp => ?_)
    have e1 := hp.1.symm
    have e2 := hp.2.1.symm
    have e3 := hp.2.2.symm
    clear hp
    subst e1 e2 e3
    refine z_goto (tgt := 56) (pc := 14) C dX5_isAmount_14 (by decide) ?_
    exact z_zret (pc := 56) C hr hlk (znarz zb_01) ⟨by first | rw [if_pos c_0] | rw [if_neg c_0, if_pos c_1] | rw [if_neg c_0, if_neg c_1, if_pos c_2] | rw [if_neg c_0, if_neg c_1, if_neg c_2], rfl, rfl⟩ (Nat.zero_le _) (Nat.zero_le _) dX5_isAmount_56
def zhoM (μ : zM) (j : Nat) : Bool := decide (¬ μ 58 j = 0)
set_option maxHeartbeats 4000000 in
set_option maxRecDepth 100000 in
theorem c_X5_forIt (l : Launch) (E : zE) (sa : Nat → Nat) {μ : zM} {ov : Nat → Int64} : zMi l E sa yX5_forIt wsX5_forIt 0 0 0 0 [.ref (zob E 7)] μ ov (fun r μ1 ov1 => r = nI (zcnt (zhoM μ) 7) ∧ μ1 = μ ∧ ov1 = ov) := by
  refine z_ofMi (cc := cX5_forIt) (nL := 3) (ret := (some .int)) (own := RX5) zfp_X5_forIt rfl (by simp [Value.category]) (Nat.le_of_ble_eq_true rfl) rfl ?_
  intro p e s m below meth c C hr hlk
  have iX5 : ∀ w ∈ wsX50, w ∈ wsX5_forIt := by decide +kernel
  have f70 := C.1.2.2.2.2 (.fieldLink RX5 70 "TickFallModel" "isFor" "[Z") (by decide +kernel)
  show zW p l e (zR 0 0 0 0) s m [Value.ref (zob E 7)].toArray below meth c E 3 0 0 (MQ below (zQi E s.heap.size (fun r μ1 ov1 => r = nI (zcnt (zhoM μ) 7) ∧ μ1 = μ ∧ ov1 = ov)) [Value.ref (zob E 7)].toArray s 0 0 (zA E s.heap.size)) 0 [some (.ref (zob E 7)), none, none] [] μ ov
  refine z_iconst (v := 0) (pc := 0) C dX5_forIt_0 (by decide) ?_
  refine z_istore1 (pc := 1) C (by decide) (fun w hw => by cases hw; exact (show ¬ (1 = 2) from by decide)) dX5_forIt_1 ?_
  refine z_iconst (v := 0) (pc := 2) C dX5_forIt_2 (by decide) ?_
  refine z_istore2 (pc := 3) C (by decide) (fun w hw => by cases hw; exact (show ¬ (1 = 2) from by decide)) dX5_forIt_3 ?_
  have loop : ∀ (f i : Nat), i + f = 7 → zW p l e (zR 0 0 0 0) s m [Value.ref (zob E 7)].toArray below meth c E 3 0 0 (MQ below (zQi E s.heap.size (fun r μ1 ov1 => r = nI (zcnt (zhoM μ) 7) ∧ μ1 = μ ∧ ov1 = ov)) [Value.ref (zob E 7)].toArray s 0 0 (zA E s.heap.size)) 4 [some (.ref (zob E 7)), some (.int (nI (zcnt (zhoM μ) i))), some (.int (nI i))] [] μ ov := by
    intro f
    induction f with
    | zero =>
      intro i hi
      obtain rfl : i = 7 := by omega
      refine z_iloadn (i := 2) (pc := 4) C dX5_forIt_4 rfl rfl ?_
      refine z_bipush (v := 7) (pc := 5) C dX5_forIt_5 (by decide) ?_
      refine z_icmp_ge (tgt := 33) (pc := 7) C dX5_forIt_7 (by decide) (fun c_l => ?_) (fun c_l => ?_)
      · refine z_iloadn (i := 1) (pc := 33) C dX5_forIt_33 rfl rfl ?_
        exact z_iret (pc := 34) C hr hlk ⟨rfl, rfl, rfl⟩ (Nat.zero_le _) (Nat.zero_le _) dX5_forIt_34
      · exact absurd (by decide) c_l
    | succ f ih =>
      intro i hi
      have go : ∀ v : Int32, v = nI (zcnt (zhoM μ) (i + 1)) → zW p l e (zR 0 0 0 0) s m [Value.ref (zob E 7)].toArray below meth c E 3 0 0 (MQ below (zQi E s.heap.size (fun r μ1 ov1 => r = nI (zcnt (zhoM μ) 7) ∧ μ1 = μ ∧ ov1 = ov)) [Value.ref (zob E 7)].toArray s 0 0 (zA E s.heap.size)) 27 [some (.ref (zob E 7)), some (.int (v)), some (.int (nI i))] [] μ ov := by
        intro v hv
        subst hv
        refine z_iinc2 (v := 1) (pc := 27) C (by decide) (by decide) (fun w hw => by cases hw; exact (show ¬ (1 = 2) from by decide)) dX5_forIt_27 ?_
        rw [nI_1]
        refine z_goto (tgt := 4) (pc := 30) C dX5_forIt_30 (by decide) ?_
        exact ih (i + 1) (by omega)
      refine z_iloadn (i := 2) (pc := 4) C dX5_forIt_4 rfl rfl ?_
      refine z_bipush (v := 7) (pc := 5) C dX5_forIt_5 (by decide) ?_
      refine z_icmp_ge (tgt := 33) (pc := 7) C dX5_forIt_7 (by decide) (fun c_l => ?_) (fun c_l => ?_)
      · exact absurd c_l (nI_ge (b := 7) (by omega) (by omega))
      · refine z_iloadn (i := 1) (pc := 10) C dX5_forIt_10 rfl rfl ?_
        refine z_aloadn (i := 0) (pc := 11) C dX5_forIt_11 rfl rfl ?_
        refine zg_X5_isFor (pc := 12) C dX5_forIt_12 iX5 f70 ?_
        refine z_iloadn (i := 2) (pc := 15) C dX5_forIt_15 rfl rfl ?_
        refine z_bald (pc := 16) C 58 i (by decide) rfl rfl (show i < 7 from by omega) dX5_forIt_16 ?_
        refine z_if_eq (tgt := 24) (pc := 17) C dX5_forIt_17 (by decide) (fun c_1 => ?_) (fun c_1 => ?_)
        · refine z_iconst (v := 0) (pc := 24) C dX5_forIt_24 (by decide) ?_
          refine z_iadd (pc := 25) C dX5_forIt_25 ?_
          refine z_istore1 (pc := 26) C (by decide) (fun w hw => by cases hw; exact (show ¬ (1 = 2) from by decide)) dX5_forIt_26 ?_
          exact go _ (by rw [zcnt]; first | (rw [if_pos (by unfold zhoM; rw [decide_eq_true_eq]; exact c_1)]; exact nI_1 _) | (rw [if_neg (by unfold zhoM; rw [decide_eq_true_eq]; exact fun h => h c_1)]; exact Int32.add_zero _))
        · refine z_iconst (v := 1) (pc := 20) C dX5_forIt_20 (by decide) ?_
          refine z_goto (tgt := 25) (pc := 21) C dX5_forIt_21 (by decide) ?_
          refine z_iadd (pc := 25) C dX5_forIt_25 ?_
          refine z_istore1 (pc := 26) C (by decide) (fun w hw => by cases hw; exact (show ¬ (1 = 2) from by decide)) dX5_forIt_26 ?_
          exact go _ (by rw [zcnt]; first | (rw [if_pos (by unfold zhoM; rw [decide_eq_true_eq]; exact c_1)]; exact nI_1 _) | (rw [if_neg (by unfold zhoM; rw [decide_eq_true_eq]; exact fun h => h c_1)]; exact Int32.add_zero _))
  exact loop 7 0 (by omega)
def zlst (a b c : Int32) : Int32 := if a < b then (if a < c then a else c) else if b < c then b else c
set_option maxHeartbeats 4000000 in
set_option maxRecDepth 100000 in
theorem c_X5_least (l : Launch) (E : zE) (sa : Nat → Nat) {μ : zM} {ov : Nat → Int64} (a b c8 : Int32) : zMi l E sa yX5_least wsX5_least 0 0 0 0 [.int a, .int b, .int c8] μ ov (fun r μ1 ov1 => r = zlst a b c8 ∧ μ1 = μ ∧ ov1 = ov) := by
  refine z_ofMi (cc := cX5_least) (nL := 3) (ret := (some .int)) (own := RX5) zfp_X5_least rfl (by simp [Value.category]) (Nat.le_of_ble_eq_true rfl) rfl ?_
  intro p e s m below meth c C hr hlk
  show zW p l e (zR 0 0 0 0) s m [Value.int a, Value.int b, Value.int c8].toArray below meth c E 3 0 0 (MQ below (zQi E s.heap.size (fun r μ1 ov1 => r = zlst a b c8 ∧ μ1 = μ ∧ ov1 = ov)) [Value.int a, Value.int b, Value.int c8].toArray s 0 0 (zA E s.heap.size)) 0 [some (.int (a)), some (.int (b)), some (.int (c8))] [] μ ov
  refine z_iloadn (i := 0) (pc := 0) C dX5_least_0 rfl rfl ?_
  refine z_iloadn (i := 1) (pc := 1) C dX5_least_1 rfl rfl ?_
  refine z_icmp_ge (tgt := 18) (pc := 2) C dX5_least_2 (by decide) (fun c_1 => ?_) (fun c_1 => ?_)
  · refine z_iloadn (i := 1) (pc := 18) C dX5_least_18 rfl rfl ?_
    refine z_iloadn (i := 2) (pc := 19) C dX5_least_19 rfl rfl ?_
    refine z_icmp_ge (tgt := 27) (pc := 20) C dX5_least_20 (by decide) (fun c_3 => ?_) (fun c_3 => ?_)
    · refine z_iloadn (i := 2) (pc := 27) C dX5_least_27 rfl rfl ?_
      exact z_iret (pc := 28) C hr hlk ⟨by unfold zlst; first | rw [if_pos (znot_le c_1), if_pos (znot_le c_2)] | rw [if_pos (znot_le c_1), if_neg (fun h => by have h1 := (zlt _ _).mp h; have h2 := (zle2 _ _).mp c_2; omega)] | rw [if_neg (fun h => by have h1 := (zlt _ _).mp h; have h2 := (zle2 _ _).mp c_1; omega), if_pos (znot_le c_3)] | rw [if_neg (fun h => by have h1 := (zlt _ _).mp h; have h2 := (zle2 _ _).mp c_1; omega), if_neg (fun h => by have h1 := (zlt _ _).mp h; have h2 := (zle2 _ _).mp c_3; omega)], rfl, rfl⟩ (Nat.zero_le _) (Nat.zero_le _) dX5_least_28
    · refine z_iloadn (i := 1) (pc := 23) C dX5_least_23 rfl rfl ?_
      refine z_goto (tgt := 28) (pc := 24) C dX5_least_24 (by decide) ?_
      exact z_iret (pc := 28) C hr hlk ⟨by unfold zlst; first | rw [if_pos (znot_le c_1), if_pos (znot_le c_2)] | rw [if_pos (znot_le c_1), if_neg (fun h => by have h1 := (zlt _ _).mp h; have h2 := (zle2 _ _).mp c_2; omega)] | rw [if_neg (fun h => by have h1 := (zlt _ _).mp h; have h2 := (zle2 _ _).mp c_1; omega), if_pos (znot_le c_3)] | rw [if_neg (fun h => by have h1 := (zlt _ _).mp h; have h2 := (zle2 _ _).mp c_1; omega), if_neg (fun h => by have h1 := (zlt _ _).mp h; have h2 := (zle2 _ _).mp c_3; omega)], rfl, rfl⟩ (Nat.zero_le _) (Nat.zero_le _) dX5_least_28
  · refine z_iloadn (i := 0) (pc := 5) C dX5_least_5 rfl rfl ?_
    refine z_iloadn (i := 2) (pc := 6) C dX5_least_6 rfl rfl ?_
    refine z_icmp_ge (tgt := 14) (pc := 7) C dX5_least_7 (by decide) (fun c_2 => ?_) (fun c_2 => ?_)
    · refine z_iloadn (i := 2) (pc := 14) C dX5_least_14 rfl rfl ?_
      refine z_goto (tgt := 28) (pc := 15) C dX5_least_15 (by decide) ?_
      exact z_iret (pc := 28) C hr hlk ⟨by unfold zlst; first | rw [if_pos (znot_le c_1), if_pos (znot_le c_2)] | rw [if_pos (znot_le c_1), if_neg (fun h => by have h1 := (zlt _ _).mp h; have h2 := (zle2 _ _).mp c_2; omega)] | rw [if_neg (fun h => by have h1 := (zlt _ _).mp h; have h2 := (zle2 _ _).mp c_1; omega), if_pos (znot_le c_3)] | rw [if_neg (fun h => by have h1 := (zlt _ _).mp h; have h2 := (zle2 _ _).mp c_1; omega), if_neg (fun h => by have h1 := (zlt _ _).mp h; have h2 := (zle2 _ _).mp c_3; omega)], rfl, rfl⟩ (Nat.zero_le _) (Nat.zero_le _) dX5_least_28
    · refine z_iloadn (i := 0) (pc := 10) C dX5_least_10 rfl rfl ?_
      refine z_goto (tgt := 28) (pc := 11) C dX5_least_11 (by decide) ?_
      exact z_iret (pc := 28) C hr hlk ⟨by unfold zlst; first | rw [if_pos (znot_le c_1), if_pos (znot_le c_2)] | rw [if_pos (znot_le c_1), if_neg (fun h => by have h1 := (zlt _ _).mp h; have h2 := (zle2 _ _).mp c_2; omega)] | rw [if_neg (fun h => by have h1 := (zlt _ _).mp h; have h2 := (zle2 _ _).mp c_1; omega), if_pos (znot_le c_3)] | rw [if_neg (fun h => by have h1 := (zlt _ _).mp h; have h2 := (zle2 _ _).mp c_1; omega), if_neg (fun h => by have h1 := (zlt _ _).mp h; have h2 := (zle2 _ _).mp c_3; omega)], rfl, rfl⟩ (Nat.zero_le _) (Nat.zero_le _) dX5_least_28
set_option maxHeartbeats 4000000 in
set_option maxRecDepth 100000 in
theorem c_X5_most (l : Launch) (E : zE) (sa : Nat → Nat) {μ : zM} {ov : Nat → Int64} (a b c8 : Int32) : zMi l E sa yX5_most wsX5_most 1 22 0 0 [.int a, .int b, .int c8] μ ov (fun r μ1 ov1 => r = -zlst (-a) (-b) (-c8) ∧ μ1 = μ ∧ ov1 = ov) := by
  refine z_ofMi (cc := cX5_most) (nL := 3) (ret := (some .int)) (own := RX5) zfp_X5_most rfl (by simp [Value.category]) (Nat.le_of_ble_eq_true rfl) rfl ?_
  intro p e s m below meth c C hr hlk
  show zW p l e (zR 1 22 0 0) s m [Value.int a, Value.int b, Value.int c8].toArray below meth c E 3 0 0 (MQ below (zQi E s.heap.size (fun r μ1 ov1 => r = -zlst (-a) (-b) (-c8) ∧ μ1 = μ ∧ ov1 = ov)) [Value.int a, Value.int b, Value.int c8].toArray s 0 0 (zA E s.heap.size)) 0 [some (.int (a)), some (.int (b)), some (.int (c8))] [] μ ov
  refine z_iloadn (i := 0) (pc := 0) C dX5_most_0 rfl rfl ?_
  refine z_ineg (pc := 1) C dX5_most_1 ?_
  refine z_iloadn (i := 1) (pc := 2) C dX5_most_2 rfl rfl ?_
  refine z_ineg (pc := 3) C dX5_most_3 ?_
  refine z_iloadn (i := 2) (pc := 4) C dX5_most_4 rfl rfl ?_
  refine z_ineg (pc := 5) C dX5_most_5 ?_
  refine z_callSi (pc := 6) (n := 3) (As := [.int (-a), .int (-b), .int (-c8)]) (rest := []) C (c_X5_least l E sa (μ := μ) (ov := ov) (-a) (-b) (-c8)) gX5_most_X5_least rfl zfV_X5_least.2 ⟨Nat.le_of_ble_eq_true rfl, Nat.le_of_ble_eq_true rfl⟩ rfl rfl (Nat.le_of_ble_eq_true rfl) ⟨Nat.zero_le _, Nat.zero_le _⟩ dX5_most_6 (fun r9 μ9 ov9 hp => ?_)
  have e1 := hp.1.symm
  have e2 := hp.2.1.symm
  have e3 := hp.2.2.symm
  clear hp
  subst e1 e2 e3
  refine z_ineg (pc := 9) C dX5_most_9 ?_
  exact z_iret (pc := 10) C hr hlk ⟨rfl, rfl, rfl⟩ (Nat.zero_le _) (Nat.zero_le _) dX5_most_10
set_option maxHeartbeats 4000000 in
set_option maxRecDepth 100000 in
theorem c_X5_day (l : Launch) (E : zE) (sa : Nat → Nat) {μ : zM} {ov : Nat → Int64} : zMi l E sa yX5_day wsX5_day 0 0 0 0 [.ref (zob E 7)] μ ov (fun r μ1 ov1 => r = μ 63 11 ∧ μ1 = zu μ 63 19 0 ∧ ov1 = ov) := by
  refine z_ofMi (cc := cX5_day) (nL := 1) (ret := (some .int)) (own := RX5) zfp_X5_day rfl (by simp [Value.category]) (Nat.le_of_ble_eq_true rfl) rfl ?_
  intro p e s m below meth c C hr hlk
  have iX5 : ∀ w ∈ wsX50, w ∈ wsX5_day := by decide +kernel
  have f93 := C.1.2.2.2.2 (.fieldLink RX5 93 "TickFallModel" "thrown" "I") (by decide +kernel)
  have f106 := C.1.2.2.2.2 (.fieldLink RX5 106 "TickFallModel" "day" "I") (by decide +kernel)
  show zW p l e (zR 0 0 0 0) s m [Value.ref (zob E 7)].toArray below meth c E 1 0 0 (MQ below (zQi E s.heap.size (fun r μ1 ov1 => r = μ 63 11 ∧ μ1 = zu μ 63 19 0 ∧ ov1 = ov)) [Value.ref (zob E 7)].toArray s 0 0 (zA E s.heap.size)) 0 [some (.ref (zob E 7))] [] μ ov
  refine z_aloadn (i := 0) (pc := 0) C dX5_day_0 rfl rfl ?_
  refine z_iconst (v := 0) (pc := 1) C dX5_day_1 (by decide) ?_
  refine zp_X5_thrown (pc := 2) C dX5_day_2 iX5 f93 ?_
  refine z_aloadn (i := 0) (pc := 5) C dX5_day_5 rfl rfl ?_
  refine zg_X5_day (pc := 6) C dX5_day_6 iX5 f106 ?_
  exact z_iret (pc := 9) C hr hlk ⟨by rw [zu_s, upd_n _ _ (by decide)], rfl, rfl⟩ (Nat.zero_le _) (Nat.zero_le _) dX5_day_9
set_option maxHeartbeats 4000000 in
set_option maxRecDepth 100000 in
theorem c_X5_events (l : Launch) (E : zE) (sa : Nat → Nat) {μ : zM} {ov : Nat → Int64} : zMi l E sa yX5_events wsX5_events 0 0 0 0 [.ref (zob E 7)] μ ov (fun r μ1 ov1 => r = μ 63 14 ∧ μ1 = zu μ 63 19 0 ∧ ov1 = ov) := by
  refine z_ofMi (cc := cX5_events) (nL := 1) (ret := (some .int)) (own := RX5) zfp_X5_events rfl (by simp [Value.category]) (Nat.le_of_ble_eq_true rfl) rfl ?_
  intro p e s m below meth c C hr hlk
  have iX5 : ∀ w ∈ wsX50, w ∈ wsX5_events := by decide +kernel
  have f93 := C.1.2.2.2.2 (.fieldLink RX5 93 "TickFallModel" "thrown" "I") (by decide +kernel)
  have f124 := C.1.2.2.2.2 (.fieldLink RX5 124 "TickFallModel" "events" "I") (by decide +kernel)
  show zW p l e (zR 0 0 0 0) s m [Value.ref (zob E 7)].toArray below meth c E 1 0 0 (MQ below (zQi E s.heap.size (fun r μ1 ov1 => r = μ 63 14 ∧ μ1 = zu μ 63 19 0 ∧ ov1 = ov)) [Value.ref (zob E 7)].toArray s 0 0 (zA E s.heap.size)) 0 [some (.ref (zob E 7))] [] μ ov
  refine z_aloadn (i := 0) (pc := 0) C dX5_events_0 rfl rfl ?_
  refine z_iconst (v := 0) (pc := 1) C dX5_events_1 (by decide) ?_
  refine zp_X5_thrown (pc := 2) C dX5_events_2 iX5 f93 ?_
  refine z_aloadn (i := 0) (pc := 5) C dX5_events_5 rfl rfl ?_
  refine zg_X5_events (pc := 6) C dX5_events_6 iX5 f124 ?_
  exact z_iret (pc := 9) C hr hlk ⟨by rw [zu_s, upd_n _ _ (by decide)], rfl, rfl⟩ (Nat.zero_le _) (Nat.zero_le _) dX5_events_9
