set_option maxHeartbeats 4000000 in
set_option maxRecDepth 100000 in
theorem c_X3_findSlips (l : Launch) (E : zE) (sa : Nat → Nat) {μ : zM} {ov : Nat → Int64} {i d : Int32} (c9 n : Nat) (hi : i = nI n) (hn : n ≤ 8) (H : zH c9 μ) : zMi l E sa yX3_findSlips wsX3_findSlips 14 400 0 0 [.ref (zob E 4), .int i, .int d] μ ov (fun r μ1 ov1 => r = zdfs c9 n (zu (zu (zu μ 63 8 d) 63 9 (nI (n + 1))) 63 10 (-1)) 0 0 63 10 ∧ μ1 = zdfs c9 n (zu (zu (zu μ 63 8 d) 63 9 (nI (n + 1))) 63 10 (-1)) 0 0 ∧ ov1 = ov) := by
  refine z_ofMi (cc := cX3_findSlips) (nL := 3) (ret := (some .int)) (own := RX3) zfp_X3_findSlips rfl (by simp [Value.category]) (Nat.le_of_ble_eq_true rfl) rfl ?_
  intro p e s m below meth c C hr hlk
  have iX3 : ∀ w ∈ wsX30, w ∈ wsX3_findSlips := by decide +kernel
  have f41 := C.1.2.2.2.2 (.fieldLink RX3 41 "TickFall$Rings" "doubt" "I") (by decide +kernel)
  have f44 := C.1.2.2.2.2 (.fieldLink RX3 44 "TickFall$Rings" "fewest" "I") (by decide +kernel)
  have f47 := C.1.2.2.2.2 (.fieldLink RX3 47 "TickFall$Rings" "found" "I") (by decide +kernel)
  show zW p l e (zR 14 400 0 0) s m [Value.ref (zob E 4), Value.int i, Value.int d].toArray below meth c E 3 0 0 (MQ below (zQi E s.heap.size (fun r μ1 ov1 => r = zdfs c9 n (zu (zu (zu μ 63 8 d) 63 9 (nI (n + 1))) 63 10 (-1)) 0 0 63 10 ∧ μ1 = zdfs c9 n (zu (zu (zu μ 63 8 d) 63 9 (nI (n + 1))) 63 10 (-1)) 0 0 ∧ ov1 = ov)) [Value.ref (zob E 4), Value.int i, Value.int d].toArray s 0 0 (zA E s.heap.size)) 0 [some (.ref (zob E 4)), some (.int (i)), some (.int (d))] [] μ ov
  refine z_aloadn (i := 0) (pc := 0) C dX3_findSlips_0 rfl rfl ?_
  refine z_iloadn (i := 2) (pc := 1) C dX3_findSlips_1 rfl rfl ?_
  refine zp_X3_doubt (pc := 2) C dX3_findSlips_2 iX3 f41 ?_
  refine z_aloadn (i := 0) (pc := 5) C dX3_findSlips_5 rfl rfl ?_
  refine z_iloadn (i := 1) (pc := 6) C dX3_findSlips_6 rfl rfl ?_
  refine z_iconst (v := 1) (pc := 7) C dX3_findSlips_7 (by decide) ?_
  refine z_iadd (pc := 8) C dX3_findSlips_8 ?_
  refine z_topi (y := nI (n + 1)) (by rw [hi]; exact nI_1 n) ?_
  refine zp_X3_fewest (pc := 9) C dX3_findSlips_9 iX3 f44 ?_
  refine z_aloadn (i := 0) (pc := 12) C dX3_findSlips_12 rfl rfl ?_
  refine z_iconst (v := -1) (pc := 13) C dX3_findSlips_13 (by decide) ?_
  refine zp_X3_found (pc := 14) C dX3_findSlips_14 iX3 f47 ?_
  refine z_aloadn (i := 0) (pc := 17) C dX3_findSlips_17 rfl rfl ?_
  refine z_iloadn (i := 1) (pc := 18) C dX3_findSlips_18 rfl rfl ?_
  refine z_iconst (v := 1) (pc := 19) C dX3_findSlips_19 (by decide) ?_
  refine z_isub (pc := 20) C dX3_findSlips_20 ?_
  refine z_iconst (v := 0) (pc := 21) C dX3_findSlips_21 (by decide) ?_
  refine z_iconst (v := 0) (pc := 22) C dX3_findSlips_22 (by decide) ?_
  have H3 : zH c9 (zu (zu (zu μ 63 8 d) 63 9 (nI (n + 1))) 63 10 (-1)) := ((H.t63 (by decide) _).t63 (by decide) _).t63 (by decide) _
  have key : ∀ ν : zM, ν = zdfs c9 n (zu (zu (zu μ 63 8 d) 63 9 (nI (n + 1))) 63 10 (-1)) 0 0 → zW p l e (zR 14 400 0 0) s m [Value.ref (zob E 4), Value.int i, Value.int d].toArray below meth c E 3 0 0 (MQ below (zQi E s.heap.size (fun r μ1 ov1 => r = zdfs c9 n (zu (zu (zu μ 63 8 d) 63 9 (nI (n + 1))) 63 10 (-1)) 0 0 63 10 ∧ μ1 = zdfs c9 n (zu (zu (zu μ 63 8 d) 63 9 (nI (n + 1))) 63 10 (-1)) 0 0 ∧ ov1 = ov)) [Value.ref (zob E 4), Value.int i, Value.int d].toArray s 0 0 (zA E s.heap.size)) 26 [some (.ref (zob E 4)), some (.int (i)), some (.int (d))] [] ν ov := by
    intro ν hν
    refine z_aloadn (i := 0) (pc := 26) C dX3_findSlips_26 rfl rfl ?_
    refine zg_X3_found (pc := 27) C dX3_findSlips_27 iX3 f47 ?_
    exact z_iret (pc := 30) C hr hlk ⟨by rw [hν], hν, rfl⟩ (Nat.zero_le _) (Nat.zero_le _) dX3_findSlips_30
  rcases (show n = 0 ∨ n = 1 ∨ n = 2 ∨ n = 3 ∨ n = 4 ∨ n = 5 ∨ n = 6 ∨ n = 7 ∨ n = 8 by omega) with h_n | h_n | h_n | h_n | h_n | h_n | h_n | h_n | h_n
  · subst h_n
    refine z_callSv (pc := 23) (n := 4) (As := [.ref (zob E 4), .int (i - 1), .int (0), .int (0)]) (rest := []) C (c_X3_tryFrom_0 l E sa (μ := (zu (zu (zu μ 63 8 d) 63 9 (nI (0 + 1))) 63 10 (-1))) c9 (by rw [hi]; rfl) H3) gX3_findSlips_X3_tryFrom rfl zfV_X3_tryFrom.2 ⟨Nat.le_of_ble_eq_true rfl, Nat.le_of_ble_eq_true rfl⟩ rfl rfl (Nat.le_of_ble_eq_true rfl) ⟨Nat.zero_le _, Nat.zero_le _⟩ dX3_findSlips_23 (fun ν ov9 hp => ?_)
    obtain ⟨hν, e3⟩ := hp
    have e3 := e3.symm
    subst e3
    exact key ν hν
  · subst h_n
    refine z_callSv (pc := 23) (n := 4) (As := [.ref (zob E 4), .int (i - 1), .int (0), .int (0)]) (rest := []) C (c_X3_tryFrom_1 l E sa (μ := (zu (zu (zu μ 63 8 d) 63 9 (nI (1 + 1))) 63 10 (-1))) c9 (by rw [hi]; rfl) H3) gX3_findSlips_X3_tryFrom rfl zfV_X3_tryFrom.2 ⟨Nat.le_of_ble_eq_true rfl, Nat.le_of_ble_eq_true rfl⟩ rfl rfl (Nat.le_of_ble_eq_true rfl) ⟨Nat.zero_le _, Nat.zero_le _⟩ dX3_findSlips_23 (fun ν ov9 hp => ?_)
    obtain ⟨hν, e3⟩ := hp
    have e3 := e3.symm
    subst e3
    exact key ν hν
  · subst h_n
    refine z_callSv (pc := 23) (n := 4) (As := [.ref (zob E 4), .int (i - 1), .int (0), .int (0)]) (rest := []) C (c_X3_tryFrom_2 l E sa (μ := (zu (zu (zu μ 63 8 d) 63 9 (nI (2 + 1))) 63 10 (-1))) c9 (by rw [hi]; rfl) H3) gX3_findSlips_X3_tryFrom rfl zfV_X3_tryFrom.2 ⟨Nat.le_of_ble_eq_true rfl, Nat.le_of_ble_eq_true rfl⟩ rfl rfl (Nat.le_of_ble_eq_true rfl) ⟨Nat.zero_le _, Nat.zero_le _⟩ dX3_findSlips_23 (fun ν ov9 hp => ?_)
    obtain ⟨hν, e3⟩ := hp
    have e3 := e3.symm
    subst e3
    exact key ν hν
  · subst h_n
    refine z_callSv (pc := 23) (n := 4) (As := [.ref (zob E 4), .int (i - 1), .int (0), .int (0)]) (rest := []) C (c_X3_tryFrom_3 l E sa (μ := (zu (zu (zu μ 63 8 d) 63 9 (nI (3 + 1))) 63 10 (-1))) c9 (by rw [hi]; rfl) H3) gX3_findSlips_X3_tryFrom rfl zfV_X3_tryFrom.2 ⟨Nat.le_of_ble_eq_true rfl, Nat.le_of_ble_eq_true rfl⟩ rfl rfl (Nat.le_of_ble_eq_true rfl) ⟨Nat.zero_le _, Nat.zero_le _⟩ dX3_findSlips_23 (fun ν ov9 hp => ?_)
    obtain ⟨hν, e3⟩ := hp
    have e3 := e3.symm
    subst e3
    exact key ν hν
  · subst h_n
    refine z_callSv (pc := 23) (n := 4) (As := [.ref (zob E 4), .int (i - 1), .int (0), .int (0)]) (rest := []) C (c_X3_tryFrom_4 l E sa (μ := (zu (zu (zu μ 63 8 d) 63 9 (nI (4 + 1))) 63 10 (-1))) c9 (by rw [hi]; rfl) H3) gX3_findSlips_X3_tryFrom rfl zfV_X3_tryFrom.2 ⟨Nat.le_of_ble_eq_true rfl, Nat.le_of_ble_eq_true rfl⟩ rfl rfl (Nat.le_of_ble_eq_true rfl) ⟨Nat.zero_le _, Nat.zero_le _⟩ dX3_findSlips_23 (fun ν ov9 hp => ?_)
    obtain ⟨hν, e3⟩ := hp
    have e3 := e3.symm
    subst e3
    exact key ν hν
  · subst h_n
    refine z_callSv (pc := 23) (n := 4) (As := [.ref (zob E 4), .int (i - 1), .int (0), .int (0)]) (rest := []) C (c_X3_tryFrom_5 l E sa (μ := (zu (zu (zu μ 63 8 d) 63 9 (nI (5 + 1))) 63 10 (-1))) c9 (by rw [hi]; rfl) H3) gX3_findSlips_X3_tryFrom rfl zfV_X3_tryFrom.2 ⟨Nat.le_of_ble_eq_true rfl, Nat.le_of_ble_eq_true rfl⟩ rfl rfl (Nat.le_of_ble_eq_true rfl) ⟨Nat.zero_le _, Nat.zero_le _⟩ dX3_findSlips_23 (fun ν ov9 hp => ?_)
    obtain ⟨hν, e3⟩ := hp
    have e3 := e3.symm
    subst e3
    exact key ν hν
  · subst h_n
    refine z_callSv (pc := 23) (n := 4) (As := [.ref (zob E 4), .int (i - 1), .int (0), .int (0)]) (rest := []) C (c_X3_tryFrom_6 l E sa (μ := (zu (zu (zu μ 63 8 d) 63 9 (nI (6 + 1))) 63 10 (-1))) c9 (by rw [hi]; rfl) H3) gX3_findSlips_X3_tryFrom rfl zfV_X3_tryFrom.2 ⟨Nat.le_of_ble_eq_true rfl, Nat.le_of_ble_eq_true rfl⟩ rfl rfl (Nat.le_of_ble_eq_true rfl) ⟨Nat.zero_le _, Nat.zero_le _⟩ dX3_findSlips_23 (fun ν ov9 hp => ?_)
    obtain ⟨hν, e3⟩ := hp
    have e3 := e3.symm
    subst e3
    exact key ν hν
  · subst h_n
    refine z_callSv (pc := 23) (n := 4) (As := [.ref (zob E 4), .int (i - 1), .int (0), .int (0)]) (rest := []) C (c_X3_tryFrom_7 l E sa (μ := (zu (zu (zu μ 63 8 d) 63 9 (nI (7 + 1))) 63 10 (-1))) c9 (by rw [hi]; rfl) H3) gX3_findSlips_X3_tryFrom rfl zfV_X3_tryFrom.2 ⟨Nat.le_of_ble_eq_true rfl, Nat.le_of_ble_eq_true rfl⟩ rfl rfl (Nat.le_of_ble_eq_true rfl) ⟨Nat.zero_le _, Nat.zero_le _⟩ dX3_findSlips_23 (fun ν ov9 hp => ?_)
    obtain ⟨hν, e3⟩ := hp
    have e3 := e3.symm
    subst e3
    exact key ν hν
  · subst h_n
    refine z_callSv (pc := 23) (n := 4) (As := [.ref (zob E 4), .int (i - 1), .int (0), .int (0)]) (rest := []) C (c_X3_tryFrom_8 l E sa (μ := (zu (zu (zu μ 63 8 d) 63 9 (nI (8 + 1))) 63 10 (-1))) c9 (by rw [hi]; rfl) H3) gX3_findSlips_X3_tryFrom rfl zfV_X3_tryFrom.2 ⟨Nat.le_of_ble_eq_true rfl, Nat.le_of_ble_eq_true rfl⟩ rfl rfl (Nat.le_of_ble_eq_true rfl) ⟨Nat.zero_le _, Nat.zero_le _⟩ dX3_findSlips_23 (fun ν ov9 hp => ?_)
    obtain ⟨hν, e3⟩ := hp
    have e3 := e3.symm
    subst e3
    exact key ν hν
set_option maxHeartbeats 4000000 in
set_option maxRecDepth 100000 in
theorem c_X4_isAmountOf (l : Launch) (E : zE) (sa : Nat → Nat) {μ : zM} {ov : Nat → Int64} (k a : Int32) : zMi l E sa yX4_isAmountOf wsX4_isAmountOf 1 22 0 0 [.int k, .int a] μ ov (fun r μ1 ov1 => r = zb (zamt k a) ∧ μ1 = μ ∧ ov1 = ov) := by
  refine z_ofMi (cc := cX4_isAmountOf) (nL := 2) (ret := (some .boolean)) (own := RX4) zfp_X4_isAmountOf rfl (by simp [Value.category]) (Nat.le_of_ble_eq_true rfl) rfl ?_
  intro p e s m below meth c C hr hlk
  show zW p l e (zR 1 22 0 0) s m [Value.int k, Value.int a].toArray below meth c E 2 0 0 (MQ below (zQi E s.heap.size (fun r μ1 ov1 => r = zb (zamt k a) ∧ μ1 = μ ∧ ov1 = ov)) [Value.int k, Value.int a].toArray s 0 0 (zA E s.heap.size)) 0 [some (.int (k)), some (.int (a))] [] μ ov
  refine z_iloadn (i := 0) (pc := 0) C dX4_isAmountOf_0 rfl rfl ?_
  rcases zsw4 k with h_k | h_k | h_k | h_k | h_k
  · refine z_topi (y := 0) h_k ?_
    refine z_tableIn (off := 31) (tgt := 32) (pc := 1) C dX4_isAmountOf_1 (by decide) (by decide) (by decide) (by decide) ?_
    refine z_iloadn (i := 1) (pc := 32) C dX4_isAmountOf_32 rfl rfl ?_
    refine z_sipush (v := -500) (pc := 33) C dX4_isAmountOf_33 (by decide) ?_
    refine z_sipush (v := 500) (pc := 36) C dX4_isAmountOf_36 (by decide) ?_
    refine z_callSi (pc := 39) (n := 3) (As := [.int (a), .int (-500), .int (500)]) (rest := []) C (c_X4_isWithin l E sa (μ := μ) (ov := ov) (a) (-500) (500)) gX4_isAmountOf_X4_isWithin rfl zfV_X4_isWithin.2 ⟨Nat.le_of_ble_eq_true rfl, Nat.le_of_ble_eq_true rfl⟩ rfl rfl (Nat.le_of_ble_eq_true rfl) ⟨Nat.zero_le _, Nat.zero_le _⟩ dX4_isAmountOf_39 (fun r9 μ9 ov9 hp => ?_)
    have e1 := hp.1.symm
    have e2 := hp.2.1.symm
    have e3 := hp.2.2.symm
    clear hp
    subst e1 e2 e3
    exact z_zret (pc := 42) C hr hlk (znarz zb_01) ⟨by unfold zb; simp [zamt, h_k], rfl, rfl⟩ (Nat.zero_le _) (Nat.zero_le _) dX4_isAmountOf_42
  · refine z_topi (y := 1) h_k ?_
    refine z_tableIn (off := 42) (tgt := 43) (pc := 1) C dX4_isAmountOf_1 (by decide) (by decide) (by decide) (by decide) ?_
    refine z_iloadn (i := 1) (pc := 43) C dX4_isAmountOf_43 rfl rfl ?_
    refine z_iconst (v := 0) (pc := 44) C dX4_isAmountOf_44 (by decide) ?_
    refine z_sipush (v := 5000) (pc := 45) C dX4_isAmountOf_45 (by decide) ?_
    refine z_callSi (pc := 48) (n := 3) (As := [.int (a), .int (0), .int (5000)]) (rest := []) C (c_X4_isWithin l E sa (μ := μ) (ov := ov) (a) (0) (5000)) gX4_isAmountOf_X4_isWithin rfl zfV_X4_isWithin.2 ⟨Nat.le_of_ble_eq_true rfl, Nat.le_of_ble_eq_true rfl⟩ rfl rfl (Nat.le_of_ble_eq_true rfl) ⟨Nat.zero_le _, Nat.zero_le _⟩ dX4_isAmountOf_48 (fun r9 μ9 ov9 hp => ?_)
    have e1 := hp.1.symm
    have e2 := hp.2.1.symm
    have e3 := hp.2.2.symm
    clear hp
    subst e1 e2 e3
    exact z_zret (pc := 51) C hr hlk (znarz zb_01) ⟨by unfold zb; simp [zamt, h_k], rfl, rfl⟩ (Nat.zero_le _) (Nat.zero_le _) dX4_isAmountOf_51
  · refine z_topi (y := 2) h_k ?_
    refine z_tableIn (off := 51) (tgt := 52) (pc := 1) C dX4_isAmountOf_1 (by decide) (by decide) (by decide) (by decide) ?_
    refine z_iloadn (i := 1) (pc := 52) C dX4_isAmountOf_52 rfl rfl ?_
    refine z_bipush (v := -50) (pc := 53) C dX4_isAmountOf_53 (by decide) ?_
    refine z_bipush (v := 50) (pc := 55) C dX4_isAmountOf_55 (by decide) ?_
    refine z_callSi (pc := 57) (n := 3) (As := [.int (a), .int (-50), .int (50)]) (rest := []) C (c_X4_isWithin l E sa (μ := μ) (ov := ov) (a) (-50) (50)) gX4_isAmountOf_X4_isWithin rfl zfV_X4_isWithin.2 ⟨Nat.le_of_ble_eq_true rfl, Nat.le_of_ble_eq_true rfl⟩ rfl rfl (Nat.le_of_ble_eq_true rfl) ⟨Nat.zero_le _, Nat.zero_le _⟩ dX4_isAmountOf_57 (fun r9 μ9 ov9 hp => ?_)
    have e1 := hp.1.symm
    have e2 := hp.2.1.symm
    have e3 := hp.2.2.symm
    clear hp
    subst e1 e2 e3
    exact z_zret (pc := 60) C hr hlk (znarz zb_01) ⟨by unfold zb; simp [zamt, h_k], rfl, rfl⟩ (Nat.zero_le _) (Nat.zero_le _) dX4_isAmountOf_60
  · refine z_topi (y := 3) h_k ?_
    refine z_tableIn (off := 60) (tgt := 61) (pc := 1) C dX4_isAmountOf_1 (by decide) (by decide) (by decide) (by decide) ?_
    refine z_iloadn (i := 1) (pc := 61) C dX4_isAmountOf_61 rfl rfl ?_
    refine z_bipush (v := -3) (pc := 62) C dX4_isAmountOf_62 (by decide) ?_
    refine z_iconst (v := 3) (pc := 64) C dX4_isAmountOf_64 (by decide) ?_
    refine z_callSi (pc := 65) (n := 3) (As := [.int (a), .int (-3), .int (3)]) (rest := []) C (c_X4_isWithin l E sa (μ := μ) (ov := ov) (a) (-3) (3)) gX4_isAmountOf_X4_isWithin rfl zfV_X4_isWithin.2 ⟨Nat.le_of_ble_eq_true rfl, Nat.le_of_ble_eq_true rfl⟩ rfl rfl (Nat.le_of_ble_eq_true rfl) ⟨Nat.zero_le _, Nat.zero_le _⟩ dX4_isAmountOf_65 (fun r9 μ9 ov9 hp => ?_)
    have e1 := hp.1.symm
    have e2 := hp.2.1.symm
    have e3 := hp.2.2.symm
    clear hp
    subst e1 e2 e3
    exact z_zret (pc := 68) C hr hlk (znarz zb_01) ⟨by unfold zb; simp [zamt, h_k], rfl, rfl⟩ (Nat.zero_le _) (Nat.zero_le _) dX4_isAmountOf_68
  · refine z_tableOut (tgt := 69) (pc := 1) C dX4_isAmountOf_1 h_k (by decide) ?_
    refine z_iconst (v := 0) (pc := 69) C dX4_isAmountOf_69 (by decide) ?_
    exact z_zret (pc := 70) C hr hlk (by decide) ⟨(zb_f (fun h => by rcases h with h | h | h | h <;> exact zout (by rfl) h_k (by decide) (by decide) h.1)).symm, rfl, rfl⟩ (Nat.zero_le _) (Nat.zero_le _) dX4_isAmountOf_70
set_option maxHeartbeats 4000000 in
set_option maxRecDepth 100000 in
theorem c_X4_hasPassed (l : Launch) (E : zE) (sa : Nat → Nat) {μ : zM} {ov : Nat → Int64} (d : Int32) : zMi l E sa yX4_hasPassed wsX4_hasPassed 1 22 0 0 [.ref (zob E 0), .int d] μ ov (fun r μ1 ov1 => r = zb (1 ≤ d ∧ d ≤ μ 63 0) ∧ μ1 = μ ∧ ov1 = ov) := by
  refine z_ofMi (cc := cX4_hasPassed) (nL := 2) (ret := (some .boolean)) (own := RX4) zfp_X4_hasPassed rfl (by simp [Value.category]) (Nat.le_of_ble_eq_true rfl) rfl ?_
  intro p e s m below meth c C hr hlk
  have iX4 : ∀ w ∈ wsX40, w ∈ wsX4_hasPassed := by decide +kernel
  have f45 := C.1.2.2.2.2 (.fieldLink RX4 45 "TickFall" "today" "I") (by decide +kernel)
  show zW p l e (zR 1 22 0 0) s m [Value.ref (zob E 0), Value.int d].toArray below meth c E 2 0 0 (MQ below (zQi E s.heap.size (fun r μ1 ov1 => r = zb (1 ≤ d ∧ d ≤ μ 63 0) ∧ μ1 = μ ∧ ov1 = ov)) [Value.ref (zob E 0), Value.int d].toArray s 0 0 (zA E s.heap.size)) 0 [some (.ref (zob E 0)), some (.int (d))] [] μ ov
  refine z_iloadn (i := 1) (pc := 0) C dX4_hasPassed_0 rfl rfl ?_
  refine z_iconst (v := 1) (pc := 1) C dX4_hasPassed_1 (by decide) ?_
  refine z_aloadn (i := 0) (pc := 2) C dX4_hasPassed_2 rfl rfl ?_
  refine zg_X4_today (pc := 3) C dX4_hasPassed_3 iX4 f45 ?_
  refine z_callSi (pc := 6) (n := 3) (As := [.int (d), .int (1), .int (μ 63 0)]) (rest := []) C (c_X4_isWithin l E sa (μ := μ) (ov := ov) (d) (1) (μ 63 0)) gX4_hasPassed_X4_isWithin rfl zfV_X4_isWithin.2 ⟨Nat.le_of_ble_eq_true rfl, Nat.le_of_ble_eq_true rfl⟩ rfl rfl (Nat.le_of_ble_eq_true rfl) ⟨Nat.zero_le _, Nat.zero_le _⟩ dX4_hasPassed_6 (fun r9 μ9 ov9 hp => ?_)
  have e1 := hp.1.symm
  have e2 := hp.2.1.symm
  have e3 := hp.2.2.symm
  clear hp
  subst e1 e2 e3
  exact z_zret (pc := 9) C hr hlk (znarz zb_01) ⟨rfl, rfl, rfl⟩ (Nat.zero_le _) (Nat.zero_le _) dX4_hasPassed_9
set_option maxHeartbeats 4000000 in
set_option maxRecDepth 100000 in
theorem c_X4_hasMeasured (l : Launch) (E : zE) (sa : Nat → Nat) {μ : zM} {ov : Nat → Int64} (i d : Int32) (n : Nat) (hc : μ 63 5 = nI n) (hn : n ≤ 8) : zMi l E sa yX4_hasMeasured wsX4_hasMeasured 2 43 0 0 [.ref (zob E 0), .int i, .int d] μ ov (fun r μ1 ov1 => r = zb (zmea μ i d) ∧ μ1 = μ ∧ ov1 = ov) := by
  refine z_ofMi (cc := cX4_hasMeasured) (nL := 3) (ret := (some .boolean)) (own := RX4) zfp_X4_hasMeasured rfl (by simp [Value.category]) (Nat.le_of_ble_eq_true rfl) rfl ?_
  intro p e s m below meth c C hr hlk
  have iX4 : ∀ w ∈ wsX40, w ∈ wsX4_hasMeasured := by decide +kernel
  have f19 := C.1.2.2.2.2 (.fieldLink RX4 19 "TickFall" "links" "LTickFall$Links;") (by decide +kernel)
  show zW p l e (zR 2 43 0 0) s m [Value.ref (zob E 0), Value.int i, Value.int d].toArray below meth c E 3 0 0 (MQ below (zQi E s.heap.size (fun r μ1 ov1 => r = zb (zmea μ i d) ∧ μ1 = μ ∧ ov1 = ov)) [Value.ref (zob E 0), Value.int i, Value.int d].toArray s 0 0 (zA E s.heap.size)) 0 [some (.ref (zob E 0)), some (.int (i)), some (.int (d))] [] μ ov
  refine z_aloadn (i := 0) (pc := 0) C dX4_hasMeasured_0 rfl rfl ?_
  refine z_iloadn (i := 2) (pc := 1) C dX4_hasMeasured_1 rfl rfl ?_
  refine z_callVi (pc := 2) (n := 1) (As := [.int (d)]) (rest := []) C (c_X4_hasPassed l E sa (μ := μ) (ov := ov) d) gX4_hasMeasured_X4_hasPassed rfl zfV_X4_hasPassed ⟨Nat.le_of_ble_eq_true rfl, Nat.le_of_ble_eq_true rfl⟩ rfl (zRec_X4 E) rfl (Nat.le_of_ble_eq_true rfl) ⟨Nat.zero_le _, Nat.zero_le _⟩ dX4_hasMeasured_2 (fun r9 μ9 ov9 hp => ?_)
  have e1 := hp.1.symm
  have e2 := hp.2.1.symm
  have e3 := hp.2.2.symm
  clear hp
  subst e1 e2 e3
  refine z_if_eq (tgt := 35) (pc := 5) C dX4_hasMeasured_5 (by decide) (fun c_1 => ?_) (fun c_1 => ?_)
  · rw [zb_eq0] at c_1
    refine z_iconst (v := 0) (pc := 35) C dX4_hasMeasured_35 (by decide) ?_
    exact z_zret (pc := 36) C hr hlk (by decide) ⟨by first | exact (zb_f (fun h => c_1 h.1)).symm | exact (zb_f (fun h => c_2 h.2.1)).symm | exact (zb_f (fun h => c_3 (by have := h.2.2; rw [hi, nI_clamp (by omega)] at this; exact this))).symm | exact (zb_t ⟨c_1, c_2, by rw [hi, nI_clamp (by omega)]; exact c_3⟩).symm, rfl, rfl⟩ (Nat.zero_le _) (Nat.zero_le _) dX4_hasMeasured_36
  · rw [zb_ne0] at c_1
    refine z_aloadn (i := 0) (pc := 8) C dX4_hasMeasured_8 rfl rfl ?_
    refine zg_X4_links (pc := 9) C dX4_hasMeasured_9 iX4 f19 ?_
    refine z_iloadn (i := 1) (pc := 12) C dX4_hasMeasured_12 rfl rfl ?_
    refine z_callVi (pc := 13) (n := 1) (As := [.int (i)]) (rest := []) C (c_X2_has l E sa (μ := μ) (ov := ov) i) gX4_hasMeasured_X2_has rfl zfV_X2_has ⟨Nat.le_of_ble_eq_true rfl, Nat.le_of_ble_eq_true rfl⟩ rfl (zRec_X2 E) rfl (Nat.le_of_ble_eq_true rfl) ⟨Nat.zero_le _, Nat.zero_le _⟩ dX4_hasMeasured_13 (fun r9 μ9 ov9 hp => ?_)
    have e1 := hp.1.symm
    have e2 := hp.2.1.symm
    have e3 := hp.2.2.symm
    clear hp
    subst e1 e2 e3
    refine z_if_eq (tgt := 35) (pc := 16) C dX4_hasMeasured_16 (by decide) (fun c_2 => ?_) (fun c_2 => ?_)
    · rw [zb_eq0] at c_2
      refine z_iconst (v := 0) (pc := 35) C dX4_hasMeasured_35 (by decide) ?_
      exact z_zret (pc := 36) C hr hlk (by decide) ⟨by first | exact (zb_f (fun h => c_1 h.1)).symm | exact (zb_f (fun h => c_2 h.2.1)).symm | exact (zb_f (fun h => c_3 (by have := h.2.2; rw [hi, nI_clamp (by omega)] at this; exact this))).symm | exact (zb_t ⟨c_1, c_2, by rw [hi, nI_clamp (by omega)]; exact c_3⟩).symm, rfl, rfl⟩ (Nat.zero_le _) (Nat.zero_le _) dX4_hasMeasured_36
    · rw [zb_ne0] at c_2
      obtain ⟨k, hk, hi⟩ := znat (n := n) c_2.1 (by rw [← hc]; exact c_2.2) (by omega)
      refine z_aloadn (i := 0) (pc := 19) C dX4_hasMeasured_19 rfl rfl ?_
      refine zg_X4_links (pc := 20) C dX4_hasMeasured_20 iX4 f19 ?_
      refine z_iloadn (i := 1) (pc := 23) C dX4_hasMeasured_23 rfl rfl ?_
      refine z_iloadn (i := 2) (pc := 24) C dX4_hasMeasured_24 rfl rfl ?_
      refine z_callVi (pc := 25) (n := 2) (As := [.int (i), .int (d)]) (rest := []) C (c_X2_isLaidBefore l E sa (μ := μ) (ov := ov) k hi (by omega) d) gX4_hasMeasured_X2_isLaidBefore rfl zfV_X2_isLaidBefore ⟨Nat.le_of_ble_eq_true rfl, Nat.le_of_ble_eq_true rfl⟩ rfl (zRec_X2 E) rfl (Nat.le_of_ble_eq_true rfl) ⟨Nat.zero_le _, Nat.zero_le _⟩ dX4_hasMeasured_25 (fun r9 μ9 ov9 hp => ?_)
      have e1 := hp.1.symm
      have e2 := hp.2.1.symm
      have e3 := hp.2.2.symm
      clear hp
      subst e1 e2 e3
      refine z_if_eq (tgt := 35) (pc := 28) C dX4_hasMeasured_28 (by decide) (fun c_3 => ?_) (fun c_3 => ?_)
      · rw [zb_eq0] at c_3
        refine z_iconst (v := 0) (pc := 35) C dX4_hasMeasured_35 (by decide) ?_
        exact z_zret (pc := 36) C hr hlk (by decide) ⟨by first | exact (zb_f (fun h => c_1 h.1)).symm | exact (zb_f (fun h => c_2 h.2.1)).symm | exact (zb_f (fun h => c_3 (by have := h.2.2; rw [hi, nI_clamp (by omega)] at this; exact this))).symm | exact (zb_t ⟨c_1, c_2, by rw [hi, nI_clamp (by omega)]; exact c_3⟩).symm, rfl, rfl⟩ (Nat.zero_le _) (Nat.zero_le _) dX4_hasMeasured_36
      · rw [zb_ne0] at c_3
        refine z_iconst (v := 1) (pc := 31) C dX4_hasMeasured_31 (by decide) ?_
        refine z_goto (tgt := 36) (pc := 32) C dX4_hasMeasured_32 (by decide) ?_
        exact z_zret (pc := 36) C hr hlk (by decide) ⟨by first | exact (zb_f (fun h => c_1 h.1)).symm | exact (zb_f (fun h => c_2 h.2.1)).symm | exact (zb_f (fun h => c_3 (by have := h.2.2; rw [hi, nI_clamp (by omega)] at this; exact this))).symm | exact (zb_t ⟨c_1, c_2, by rw [hi, nI_clamp (by omega)]; exact c_3⟩).symm, rfl, rfl⟩ (Nat.zero_le _) (Nat.zero_le _) dX4_hasMeasured_36
set_option maxHeartbeats 4000000 in
set_option maxRecDepth 100000 in
theorem c_X4_happen (l : Launch) (E : zE) (sa : Nat → Nat) {μ : zM} {ov : Nat → Int64} {e9 : Int32} (hok : zevok e9) : zMv l E sa yX4_happen wsX4_happen 3 67 0 0 [.ref (zob E 0), .int e9] μ ov (fun μ1 ov1 => μ1 = zhap μ e9 ∧ ov1 = ov) := by
  refine z_ofMv (cc := cX4_happen) (nL := 4) (ret := none) (own := RX4) zfp_X4_happen rfl (by simp [Value.category]) (Nat.le_of_ble_eq_true rfl) rfl ?_
  intro p e s m below meth c C hr hlk
  have iX4 : ∀ w ∈ wsX40, w ∈ wsX4_happen := by decide +kernel
  have f10 := C.1.2.2.2.2 (.fieldLink RX4 10 "TickFall" "clocks" "LTickFall$Clocks;") (by decide +kernel)
  have f19 := C.1.2.2.2.2 (.fieldLink RX4 19 "TickFall" "links" "LTickFall$Links;") (by decide +kernel)
  show zW p l e (zR 3 67 0 0) s m [Value.ref (zob E 0), Value.int e9].toArray below meth c E 4 0 0 (MQ below (zQv E s.heap.size (fun μ1 ov1 => μ1 = zhap μ e9 ∧ ov1 = ov)) [Value.ref (zob E 0), Value.int e9].toArray s 0 0 (zA E s.heap.size)) 0 [some (.ref (zob E 0)), some (.int (e9)), none, none] [] μ ov
  obtain ⟨k, hk8, hn, hk6⟩ := hok
  refine z_iloadn (i := 1) (pc := 0) C dX4_happen_0 rfl rfl ?_
  refine z_callSi (pc := 1) (n := 1) (As := [.int (e9)]) (rest := []) C (c_X0_numberOf l E sa (μ := μ) (ov := ov) e9) gX4_happen_X0_numberOf rfl zfV_X0_numberOf.2 ⟨Nat.le_of_ble_eq_true rfl, Nat.le_of_ble_eq_true rfl⟩ rfl rfl (Nat.le_of_ble_eq_true rfl) ⟨Nat.zero_le _, Nat.zero_le _⟩ dX4_happen_1 (fun r9 μ9 ov9 hp => ?_)
  have e1 := hp.1.symm
  have e2 := hp.2.1.symm
  have e3 := hp.2.2.symm
  clear hp
  subst e1 e2 e3
  refine z_istore2 (pc := 4) C (by decide) (fun w hw => by cases hw; exact (show ¬ (1 = 2) from by decide)) dX4_happen_4 ?_
  refine z_iloadn (i := 1) (pc := 5) C dX4_happen_5 rfl rfl ?_
  refine z_callSi (pc := 6) (n := 1) (As := [.int (e9)]) (rest := []) C (c_X0_amountOf l E sa (μ := μ) (ov := ov) e9) gX4_happen_X0_amountOf rfl zfV_X0_amountOf.2 ⟨Nat.le_of_ble_eq_true rfl, Nat.le_of_ble_eq_true rfl⟩ rfl rfl (Nat.le_of_ble_eq_true rfl) ⟨Nat.zero_le _, Nat.zero_le _⟩ dX4_happen_6 (fun r9 μ9 ov9 hp => ?_)
  have e1 := hp.1.symm
  have e2 := hp.2.1.symm
  have e3 := hp.2.2.symm
  clear hp
  subst e1 e2 e3
  refine z_istore3 (pc := 9) C (by decide) (fun w hw => by cases hw; exact (show ¬ (1 = 2) from by decide)) dX4_happen_9 ?_
  refine z_iloadn (i := 1) (pc := 10) C dX4_happen_10 rfl rfl ?_
  refine z_callSi (pc := 11) (n := 1) (As := [.int (e9)]) (rest := []) C (c_X0_kindOf l E sa (μ := μ) (ov := ov) e9) gX4_happen_X0_kindOf rfl zfV_X0_kindOf.2 ⟨Nat.le_of_ble_eq_true rfl, Nat.le_of_ble_eq_true rfl⟩ rfl rfl (Nat.le_of_ble_eq_true rfl) ⟨Nat.zero_le _, Nat.zero_le _⟩ dX4_happen_11 (fun r9 μ9 ov9 hp => ?_)
  have e1 := hp.1.symm
  have e2 := hp.2.1.symm
  have e3 := hp.2.2.symm
  clear hp
  subst e1 e2 e3
  rcases zsw3 (zeK e9) with h_k | h_k | h_k | h_k
  · refine z_topi (y := 0) h_k ?_
    refine z_tableIn (off := 26) (tgt := 40) (pc := 14) C dX4_happen_14 (by decide) (by decide) (by decide) (by decide) ?_
    refine z_aloadn (i := 0) (pc := 40) C dX4_happen_40 rfl rfl ?_
    refine zg_X4_clocks (pc := 41) C dX4_happen_41 iX4 f10 ?_
    refine z_iloadn (i := 2) (pc := 44) C dX4_happen_44 rfl rfl ?_
    refine z_iloadn (i := 3) (pc := 45) C dX4_happen_45 rfl rfl ?_
    refine z_callVv (pc := 46) (n := 2) (As := [.int (zeN e9), .int (zeA e9)]) (rest := []) C (c_X1_addToRate l E sa (μ := μ) (ov := ov) k hn (hk6 (Or.inl h_k))) gX4_happen_X1_addToRate rfl zfV_X1_addToRate ⟨Nat.le_of_ble_eq_true rfl, Nat.le_of_ble_eq_true rfl⟩ rfl (zRec_X1 E) rfl (Nat.le_of_ble_eq_true rfl) ⟨Nat.zero_le _, Nat.zero_le _⟩ dX4_happen_46 (fun μ9 ov9 hp => ?_)
    have e2 := hp.1.symm
    have e3 := hp.2.symm
    clear hp
    subst e2 e3
    refine z_goto (tgt := 85) (pc := 49) C dX4_happen_49 (by decide) ?_
    exact z_vret (pc := 85) C hr hlk ⟨by rw [zhap, if_pos h_k, hn, nI_clamp (by omega)], rfl⟩ (Nat.zero_le _) (Nat.zero_le _) dX4_happen_85
  · refine z_topi (y := 1) h_k ?_
    refine z_tableIn (off := 38) (tgt := 52) (pc := 14) C dX4_happen_14 (by decide) (by decide) (by decide) (by decide) ?_
    refine z_aloadn (i := 0) (pc := 52) C dX4_happen_52 rfl rfl ?_
    refine zg_X4_clocks (pc := 53) C dX4_happen_53 iX4 f10 ?_
    refine z_iloadn (i := 2) (pc := 56) C dX4_happen_56 rfl rfl ?_
    refine z_iloadn (i := 3) (pc := 57) C dX4_happen_57 rfl rfl ?_
    refine z_callVv (pc := 58) (n := 2) (As := [.int (zeN e9), .int (zeA e9)]) (rest := []) C (c_X1_setHeight l E sa (μ := μ) (ov := ov) k hn (hk6 (Or.inr h_k))) gX4_happen_X1_setHeight rfl zfV_X1_setHeight ⟨Nat.le_of_ble_eq_true rfl, Nat.le_of_ble_eq_true rfl⟩ rfl (zRec_X1 E) rfl (Nat.le_of_ble_eq_true rfl) ⟨Nat.zero_le _, Nat.zero_le _⟩ dX4_happen_58 (fun μ9 ov9 hp => ?_)
    have e2 := hp.1.symm
    have e3 := hp.2.symm
    clear hp
    subst e2 e3
    refine z_goto (tgt := 85) (pc := 61) C dX4_happen_61 (by decide) ?_
    exact z_vret (pc := 85) C hr hlk ⟨by rw [zhap, if_neg (by rw [h_k]; decide), if_pos h_k, hn, nI_clamp (by omega)], rfl⟩ (Nat.zero_le _) (Nat.zero_le _) dX4_happen_85
  · refine z_topi (y := 2) h_k ?_
    refine z_tableIn (off := 50) (tgt := 64) (pc := 14) C dX4_happen_14 (by decide) (by decide) (by decide) (by decide) ?_
    refine z_aloadn (i := 0) (pc := 64) C dX4_happen_64 rfl rfl ?_
    refine zg_X4_links (pc := 65) C dX4_happen_65 iX4 f19 ?_
    refine z_iloadn (i := 2) (pc := 68) C dX4_happen_68 rfl rfl ?_
    refine z_iloadn (i := 3) (pc := 69) C dX4_happen_69 rfl rfl ?_
    refine z_callVv (pc := 70) (n := 2) (As := [.int (zeN e9), .int (zeA e9)]) (rest := []) C (c_X2_setAsymmetry l E sa (μ := μ) (ov := ov) k hn hk8 (zeA e9)) gX4_happen_X2_setAsymmetry rfl zfV_X2_setAsymmetry ⟨Nat.le_of_ble_eq_true rfl, Nat.le_of_ble_eq_true rfl⟩ rfl (zRec_X2 E) rfl (Nat.le_of_ble_eq_true rfl) ⟨Nat.zero_le _, Nat.zero_le _⟩ dX4_happen_70 (fun μ9 ov9 hp => ?_)
    have e2 := hp.1.symm
    have e3 := hp.2.symm
    clear hp
    subst e2 e3
    refine z_goto (tgt := 85) (pc := 73) C dX4_happen_73 (by decide) ?_
    exact z_vret (pc := 85) C hr hlk ⟨by rw [zhap, if_neg (by rw [h_k]; decide), if_neg (by rw [h_k]; decide), if_pos h_k, hn, nI_clamp (by omega)], rfl⟩ (Nat.zero_le _) (Nat.zero_le _) dX4_happen_85
  · refine z_tableOut (tgt := 76) (pc := 14) C dX4_happen_14 h_k (by decide) ?_
    refine z_aloadn (i := 0) (pc := 76) C dX4_happen_76 rfl rfl ?_
    refine zg_X4_links (pc := 77) C dX4_happen_77 iX4 f19 ?_
    refine z_iloadn (i := 2) (pc := 80) C dX4_happen_80 rfl rfl ?_
    refine z_iloadn (i := 3) (pc := 81) C dX4_happen_81 rfl rfl ?_
    refine z_callVv (pc := 82) (n := 2) (As := [.int (zeN e9), .int (zeA e9)]) (rest := []) C (c_X2_addCycles l E sa (μ := μ) (ov := ov) k hn hk8 (zeA e9)) gX4_happen_X2_addCycles rfl zfV_X2_addCycles ⟨Nat.le_of_ble_eq_true rfl, Nat.le_of_ble_eq_true rfl⟩ rfl (zRec_X2 E) rfl (Nat.le_of_ble_eq_true rfl) ⟨Nat.zero_le _, Nat.zero_le _⟩ dX4_happen_82 (fun μ9 ov9 hp => ?_)
    have e2 := hp.1.symm
    have e3 := hp.2.symm
    clear hp
    subst e2 e3
    exact z_vret (pc := 85) C hr hlk ⟨by rw [zhap, if_neg (zout (by rfl) h_k (by decide) (by decide)), if_neg (zout (by rfl) h_k (by decide) (by decide)), if_neg (zout (by rfl) h_k (by decide) (by decide)), hn, nI_clamp (by omega)], rfl⟩ (Nat.zero_le _) (Nat.zero_le _) dX4_happen_85
def zhou (μ : zM) (j : Nat) : Bool := decide (¬ μ 1 j = 0)
set_option maxHeartbeats 4000000 in
set_option maxRecDepth 100000 in
theorem c_X4_housesFor (l : Launch) (E : zE) (sa : Nat → Nat) {μ : zM} {ov : Nat → Int64} : zMi l E sa yX4_housesFor wsX4_housesFor 0 0 0 0 [.ref (zob E 0)] μ ov (fun r μ1 ov1 => r = nI (zcnt (zhou μ) 7) ∧ μ1 = μ ∧ ov1 = ov) := by
  refine z_ofMi (cc := cX4_housesFor) (nL := 3) (ret := (some .int)) (own := RX4) zfp_X4_housesFor rfl (by simp [Value.category]) (Nat.le_of_ble_eq_true rfl) rfl ?_
  intro p e s m below meth c C hr hlk
  have iX4 : ∀ w ∈ wsX40, w ∈ wsX4_housesFor := by decide +kernel
  have f41 := C.1.2.2.2.2 (.fieldLink RX4 41 "TickFall" "votes" "[Z") (by decide +kernel)
  show zW p l e (zR 0 0 0 0) s m [Value.ref (zob E 0)].toArray below meth c E 3 0 0 (MQ below (zQi E s.heap.size (fun r μ1 ov1 => r = nI (zcnt (zhou μ) 7) ∧ μ1 = μ ∧ ov1 = ov)) [Value.ref (zob E 0)].toArray s 0 0 (zA E s.heap.size)) 0 [some (.ref (zob E 0)), none, none] [] μ ov
  refine z_iconst (v := 0) (pc := 0) C dX4_housesFor_0 (by decide) ?_
  refine z_istore1 (pc := 1) C (by decide) (fun w hw => by cases hw; exact (show ¬ (1 = 2) from by decide)) dX4_housesFor_1 ?_
  refine z_iconst (v := 0) (pc := 2) C dX4_housesFor_2 (by decide) ?_
  refine z_istore2 (pc := 3) C (by decide) (fun w hw => by cases hw; exact (show ¬ (1 = 2) from by decide)) dX4_housesFor_3 ?_
  have loop : ∀ (f i : Nat), i + f = 7 → zW p l e (zR 0 0 0 0) s m [Value.ref (zob E 0)].toArray below meth c E 3 0 0 (MQ below (zQi E s.heap.size (fun r μ1 ov1 => r = nI (zcnt (zhou μ) 7) ∧ μ1 = μ ∧ ov1 = ov)) [Value.ref (zob E 0)].toArray s 0 0 (zA E s.heap.size)) 4 [some (.ref (zob E 0)), some (.int (nI (zcnt (zhou μ) i))), some (.int (nI i))] [] μ ov := by
    intro f
    induction f with
    | zero =>
      intro i hi
      obtain rfl : i = 7 := by omega
      refine z_iloadn (i := 2) (pc := 4) C dX4_housesFor_4 rfl rfl ?_
      refine z_bipush (v := 7) (pc := 5) C dX4_housesFor_5 (by decide) ?_
      refine z_icmp_ge (tgt := 28) (pc := 7) C dX4_housesFor_7 (by decide) (fun c_l => ?_) (fun c_l => ?_)
      · refine z_iloadn (i := 1) (pc := 28) C dX4_housesFor_28 rfl rfl ?_
        exact z_iret (pc := 29) C hr hlk ⟨rfl, rfl, rfl⟩ (Nat.zero_le _) (Nat.zero_le _) dX4_housesFor_29
      · exact absurd (by decide) c_l
    | succ f ih =>
      intro i hi
      have go : zW p l e (zR 0 0 0 0) s m [Value.ref (zob E 0)].toArray below meth c E 3 0 0 (MQ below (zQi E s.heap.size (fun r μ1 ov1 => r = nI (zcnt (zhou μ) 7) ∧ μ1 = μ ∧ ov1 = ov)) [Value.ref (zob E 0)].toArray s 0 0 (zA E s.heap.size)) 22 [some (.ref (zob E 0)), some (.int (nI (zcnt (zhou μ) (i + 1)))), some (.int (nI i))] [] μ ov := by
        refine z_iinc2 (v := 1) (pc := 22) C (by decide) (by decide) (fun w hw => by cases hw; exact (show ¬ (1 = 2) from by decide)) dX4_housesFor_22 ?_
        rw [nI_1]
        refine z_goto (tgt := 4) (pc := 25) C dX4_housesFor_25 (by decide) ?_
        exact ih (i + 1) (by omega)
      refine z_iloadn (i := 2) (pc := 4) C dX4_housesFor_4 rfl rfl ?_
      refine z_bipush (v := 7) (pc := 5) C dX4_housesFor_5 (by decide) ?_
      refine z_icmp_ge (tgt := 28) (pc := 7) C dX4_housesFor_7 (by decide) (fun c_l => ?_) (fun c_l => ?_)
      · exact absurd c_l (nI_ge (b := 7) (by omega) (by omega))
      · refine z_aloadn (i := 0) (pc := 10) C dX4_housesFor_10 rfl rfl ?_
        refine zg_X4_votes (pc := 11) C dX4_housesFor_11 iX4 f41 ?_
        refine z_iloadn (i := 2) (pc := 14) C dX4_housesFor_14 rfl rfl ?_
        refine z_bald (pc := 15) C 1 i (by decide) rfl rfl (show i < 7 from by omega) dX4_housesFor_15 ?_
        refine z_if_eq (tgt := 22) (pc := 16) C dX4_housesFor_16 (by decide) (fun c_1 => ?_) (fun c_1 => ?_)
        · have e : zcnt (zhou μ) (i + 1) = zcnt (zhou μ) i := by rw [zcnt, if_neg (by unfold zhou; rw [decide_eq_true_eq]; exact fun h => h c_1)]; rfl
          rw [e] at go
          exact go
        · refine z_iinc1 (v := 1) (pc := 19) C (by decide) (by decide) (fun w hw => by cases hw; exact (show ¬ (1 = 2) from by decide)) dX4_housesFor_19 ?_
          have e : zcnt (zhou μ) (i + 1) = zcnt (zhou μ) i + 1 := by rw [zcnt, if_pos (by unfold zhou; rw [decide_eq_true_eq]; exact c_1)]
          rw [e, ← nI_1] at go
          exact go
  exact loop 7 0 (by omega)
set_option maxHeartbeats 4000000 in
set_option maxRecDepth 100000 in
theorem c_X4_openRings (l : Launch) (E : zE) (sa : Nat → Nat) {μ : zM} {ov : Nat → Int64} {d : Int32} (t n : Nat) (hd : d = nI t) (ht : t < 501) (hn : n ≤ 8) (hc : μ 63 5 = nI n) : zMi l E sa yX4_openRings wsX4_openRings 5 119 0 0 [.ref (zob E 0), .int d] μ ov (fun r μ1 ov1 => r = nI (zopen μ t n) ∧ zScr μ μ1 ∧ ov1 = ov) := by
  refine z_ofMi (cc := cX4_openRings) (nL := 2) (ret := (some .int)) (own := RX4) zfp_X4_openRings rfl (by simp [Value.category]) (Nat.le_of_ble_eq_true rfl) rfl ?_
  intro p e s m below meth c C hr hlk
  have iX4 : ∀ w ∈ wsX40, w ∈ wsX4_openRings := by decide +kernel
  have f19 := C.1.2.2.2.2 (.fieldLink RX4 19 "TickFall" "links" "LTickFall$Links;") (by decide +kernel)
  have f33 := C.1.2.2.2.2 (.fieldLink RX4 33 "TickFall" "rings" "LTickFall$Rings;") (by decide +kernel)
  have f49 := C.1.2.2.2.2 (.fieldLink RX4 49 "TickFall" "doubt" "I") (by decide +kernel)
  show zW p l e (zR 5 119 0 0) s m [Value.ref (zob E 0), Value.int d].toArray below meth c E 2 0 0 (MQ below (zQi E s.heap.size (fun r μ1 ov1 => r = nI (zopen μ t n) ∧ zScr μ μ1 ∧ ov1 = ov)) [Value.ref (zob E 0), Value.int d].toArray s 0 0 (zA E s.heap.size)) 0 [some (.ref (zob E 0)), some (.int (d))] [] μ ov
  refine z_aloadn (i := 0) (pc := 0) C dX4_openRings_0 rfl rfl ?_
  refine zg_X4_rings (pc := 1) C dX4_openRings_1 iX4 f33 ?_
  refine z_aloadn (i := 0) (pc := 4) C dX4_openRings_4 rfl rfl ?_
  refine zg_X4_links (pc := 5) C dX4_openRings_5 iX4 f19 ?_
  refine z_iloadn (i := 1) (pc := 8) C dX4_openRings_8 rfl rfl ?_
  refine z_callVv (pc := 9) (n := 2) (As := [.ref (zob E 2), .int (d)]) (rest := []) C (c_X3_gather l E sa (μ := μ) (ov := ov) t n hd ht hn hc) gX4_openRings_X3_gather rfl zfV_X3_gather ⟨Nat.le_of_ble_eq_true rfl, Nat.le_of_ble_eq_true rfl⟩ rfl (zRec_X3 E) rfl (Nat.le_of_ble_eq_true rfl) ⟨Nat.zero_le _, Nat.zero_le _⟩ dX4_openRings_9 (fun ν ov9 hp => ?_)
  obtain ⟨hi, e3⟩ := hp
  have e3 := e3.symm
  subst e3
  refine z_aloadn (i := 0) (pc := 12) C dX4_openRings_12 rfl rfl ?_
  refine zg_X4_rings (pc := 13) C dX4_openRings_13 iX4 f33 ?_
  refine z_aloadn (i := 0) (pc := 16) C dX4_openRings_16 rfl rfl ?_
  refine zg_X4_doubt (pc := 17) C dX4_openRings_17 iX4 f49 ?_
  refine z_callVi (pc := 20) (n := 1) (As := [.int (ν 63 1)]) (rest := []) C (c_X3_countOpen l E sa (μ := ν) (ov := ov) (d := ν 63 1) (zgat μ t n n).length hi.2.2.1 (zgat_56 μ hn)) gX4_openRings_X3_countOpen rfl zfV_X3_countOpen ⟨Nat.le_of_ble_eq_true rfl, Nat.le_of_ble_eq_true rfl⟩ rfl (zRec_X3 E) rfl (Nat.le_of_ble_eq_true rfl) ⟨Nat.zero_le _, Nat.zero_le _⟩ dX4_openRings_20 (fun r9 μ9 ov9 hp => ?_)
  have e1 := hp.1.symm
  have e2 := hp.2.1.symm
  have e3 := hp.2.2.symm
  clear hp
  subst e1 e2 e3
  exact z_iret (pc := 23) C hr hlk ⟨by rw [hi.opn, hi.2.1 1 (by decide)]; rfl, hi.scr, rfl⟩ (Nat.zero_le _) (Nat.zero_le _) dX4_openRings_23
