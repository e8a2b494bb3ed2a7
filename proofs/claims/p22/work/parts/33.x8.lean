set_option maxHeartbeats 4000000 in
set_option maxRecDepth 100000 in
theorem c_X4_clock (l : Launch) (hfl : l.stackTraces = false) (E : zE) (sa : Nat → Nat) {μ : zM} {ov : Nat → Int64} {a b : Int32} (t c9 nc n : Nat) (H : zCI μ t c9 nc n) : zXi l E sa yX4_clock wsX4_clock 6 90 1 6 [.ref (zob E 0), .int a, .int b] μ ov (fun r μ1 ov1 => ((-500 ≤ a ∧ a ≤ 500) ∧ 0 ≤ b ∧ b ≤ 5000) ∧ (nc < 6) ∧ r = nI nc ∧ μ1 = zu (zu (zu (zu μ 2 nc a) 5 nc b) 4 nc 1) 63 4 (nI (nc + 1)) ∧ ov1 = ov) (fun X => (¬ ((-500 ≤ a ∧ a ≤ 500) ∧ 0 ≤ b ∧ b ≤ 5000) ∧ X = zIA) ∨ (((-500 ≤ a ∧ a ≤ 500) ∧ 0 ≤ b ∧ b ≤ 5000) ∧ ¬ (nc < 6) ∧ X = zIS)) := by
  refine z_ofXi (cc := cX4_clock) (nL := 3) (ret := (some .int)) (own := RX4) zfp_X4_clock rfl (by simp [Value.category]) (Nat.le_of_ble_eq_true rfl) rfl ?_
  intro p e s m below meth c C hr hlk htab
  have iX4 : ∀ w ∈ wsX40, w ∈ wsX4_clock := by decide +kernel
  have f10 := C.1.2.2.2.2 (.fieldLink RX4 10 "TickFall" "clocks" "LTickFall$Clocks;") (by decide +kernel)
  show zW p l e (zR 6 90 1 6) s m [Value.ref (zob E 0), Value.int a, Value.int b].toArray below meth c E 3 0 0 (vx_MQ below (zQi E s.heap.size (fun r μ1 ov1 => ((-500 ≤ a ∧ a ≤ 500) ∧ 0 ≤ b ∧ b ≤ 5000) ∧ (nc < 6) ∧ r = nI nc ∧ μ1 = zu (zu (zu (zu μ 2 nc a) 5 nc b) 4 nc 1) 63 4 (nI (nc + 1)) ∧ ov1 = ov)) (zXC E s.heap.size μ ov (fun X => (¬ ((-500 ≤ a ∧ a ≤ 500) ∧ 0 ≤ b ∧ b ≤ 5000) ∧ X = zIA) ∨ (((-500 ≤ a ∧ a ≤ 500) ∧ 0 ≤ b ∧ b ≤ 5000) ∧ ¬ (nc < 6) ∧ X = zIS))) [Value.ref (zob E 0), Value.int a, Value.int b].toArray s 1 6 (zA E s.heap.size)) 0 [some (.ref (zob E 0)), some (.int (a)), some (.int (b))] [] μ ov
  obtain ⟨H1, H2, H3, H4, H5, H6, H7, H8, H9⟩ := id H
  refine z_iloadn (i := 1) (pc := 0) C dX4_clock_0 rfl rfl ?_
  refine z_sipush (v := -500) (pc := 1) C dX4_clock_1 (by decide) ?_
  refine z_sipush (v := 500) (pc := 4) C dX4_clock_4 (by decide) ?_
  refine z_callSi (pc := 7) (n := 3) (As := [.int (a), .int (-500), .int (500)]) (rest := []) C (c_X4_isWithin l E sa (μ := μ) (ov := ov) (a) (-500) (500)) gX4_clock_X4_isWithin rfl zfV_X4_isWithin.2 ⟨Nat.le_of_ble_eq_true rfl, Nat.le_of_ble_eq_true rfl⟩ rfl rfl (Nat.le_of_ble_eq_true rfl) ⟨Nat.zero_le _, Nat.zero_le _⟩ dX4_clock_7 (fun r9 μ9 ov9 hp => ?_)
  have e1 := hp.1.symm
  have e2 := hp.2.1.symm
  have e3 := hp.2.2.symm
  clear hp
  subst e1 e2 e3
  refine z_if_eq (tgt := 24) (pc := 10) C dX4_clock_10 (by decide) (fun c_1 => ?_) (fun c_1 => ?_)
  · rw [zb_eq0] at c_1
    exact z_throw (pc := 24) (X := "java/lang/IllegalArgumentException") (ic := 67) C hfl (by decide +kernel) (ztx_65) (by decide +kernel) (C.1.2.2.2.2 (.classLink RX4 63 "java/lang/IllegalArgumentException") (by decide +kernel)) (C.1.2.2.2.2 (.initialized "java/lang/IllegalArgumentException") (by decide +kernel)) (by decide +kernel) zth_67 ztg_67 dX4_clock_24 dX4_clock_27 dX4_clock_28 dX4_clock_30 dX4_clock_33 htab (Nat.le_of_ble_eq_true rfl) (Nat.le_of_ble_eq_true rfl) (Nat.le_of_ble_eq_true rfl) (Nat.le_of_ble_eq_true rfl) hlk (Or.inl ⟨fun h => by first | exact c_1 h.1 | exact c_2 h.2, rfl⟩) (Nat.le_of_ble_eq_true rfl) (Nat.le_of_ble_eq_true rfl)
  · rw [zb_ne0] at c_1
    refine z_iloadn (i := 2) (pc := 13) C dX4_clock_13 rfl rfl ?_
    refine z_iconst (v := 0) (pc := 14) C dX4_clock_14 (by decide) ?_
    refine z_sipush (v := 5000) (pc := 15) C dX4_clock_15 (by decide) ?_
    refine z_callSi (pc := 18) (n := 3) (As := [.int (b), .int (0), .int (5000)]) (rest := []) C (c_X4_isWithin l E sa (μ := μ) (ov := ov) (b) (0) (5000)) gX4_clock_X4_isWithin rfl zfV_X4_isWithin.2 ⟨Nat.le_of_ble_eq_true rfl, Nat.le_of_ble_eq_true rfl⟩ rfl rfl (Nat.le_of_ble_eq_true rfl) ⟨Nat.zero_le _, Nat.zero_le _⟩ dX4_clock_18 (fun r9 μ9 ov9 hp => ?_)
    have e1 := hp.1.symm
    have e2 := hp.2.1.symm
    have e3 := hp.2.2.symm
    clear hp
    subst e1 e2 e3
    refine z_if_ne (tgt := 34) (pc := 21) C dX4_clock_21 (by decide) (fun c_2 => ?_) (fun c_2 => ?_)
    · rw [zb_ne0] at c_2
      refine z_aloadn (i := 0) (pc := 34) C dX4_clock_34 rfl rfl ?_
      refine zg_X4_clocks (pc := 35) C dX4_clock_35 iX4 f10 ?_
      refine z_callVi (pc := 38) (n := 0) (As := []) (rest := []) C (c_X1_count l E sa (μ := μ) (ov := ov)) gX4_clock_X1_count rfl zfV_X1_count ⟨Nat.le_of_ble_eq_true rfl, Nat.le_of_ble_eq_true rfl⟩ rfl (zRec_X1 E) rfl (Nat.le_of_ble_eq_true rfl) ⟨Nat.zero_le _, Nat.zero_le _⟩ dX4_clock_38 (fun r9 μ9 ov9 hp => ?_)
      have e1 := hp.1.symm
      have e2 := hp.2.1.symm
      have e3 := hp.2.2.symm
      clear hp
      subst e1 e2 e3
      refine z_bipush (v := 6) (pc := 41) C dX4_clock_41 (by decide) ?_
      refine z_icmp_lt (tgt := 56) (pc := 43) C dX4_clock_43 (by decide) (fun c_3 => ?_) (fun c_3 => ?_)
      · have h3 : nc < 6 := by rw [H4, show (6 : Int32) = nI 6 from rfl, nI_ltI (by omega) (by omega)] at c_3; exact c_3
        refine z_aloadn (i := 0) (pc := 56) C dX4_clock_56 rfl rfl ?_
        refine zg_X4_clocks (pc := 57) C dX4_clock_57 iX4 f10 ?_
        refine z_iloadn (i := 1) (pc := 60) C dX4_clock_60 rfl rfl ?_
        refine z_iloadn (i := 2) (pc := 61) C dX4_clock_61 rfl rfl ?_
        refine z_callVi (pc := 62) (n := 2) (As := [.int (a), .int (b)]) (rest := []) C (c_X1_add l E sa (μ := μ) (ov := ov) (a := a) (b := b) nc H4 h3) gX4_clock_X1_add rfl zfV_X1_add ⟨Nat.le_of_ble_eq_true rfl, Nat.le_of_ble_eq_true rfl⟩ rfl (zRec_X1 E) rfl (Nat.le_of_ble_eq_true rfl) ⟨Nat.zero_le _, Nat.zero_le _⟩ dX4_clock_62 (fun r9 μ9 ov9 hp => ?_)
        have e1 := hp.1.symm
        have e2 := hp.2.1.symm
        have e3 := hp.2.2.symm
        clear hp
        subst e1 e2 e3
        exact z_retX (z_iret (pc := 65) C hr hlk ⟨⟨c_1, c_2⟩, h3, rfl, rfl, rfl⟩ (Nat.zero_le _) (Nat.zero_le _) dX4_clock_65)
      · have h3 : ¬ nc < 6 := by rw [H4, show (6 : Int32) = nI 6 from rfl, nI_ltI (by omega) (by omega)] at c_3; exact c_3
        exact z_throw (pc := 46) (X := "java/lang/IllegalStateException") (ic := 78) C hfl (by decide +kernel) (ztx_76) (by decide +kernel) (C.1.2.2.2.2 (.classLink RX4 74 "java/lang/IllegalStateException") (by decide +kernel)) (C.1.2.2.2.2 (.initialized "java/lang/IllegalStateException") (by decide +kernel)) (by decide +kernel) zth_78 ztg_78 dX4_clock_46 dX4_clock_49 dX4_clock_50 dX4_clock_52 dX4_clock_55 htab (Nat.le_of_ble_eq_true rfl) (Nat.le_of_ble_eq_true rfl) (Nat.le_of_ble_eq_true rfl) (Nat.le_of_ble_eq_true rfl) hlk (Or.inr ⟨⟨c_1, c_2⟩, h3, rfl⟩) (Nat.le_of_ble_eq_true rfl) (Nat.le_of_ble_eq_true rfl)
    · rw [zb_eq0] at c_2
      exact z_throw (pc := 24) (X := "java/lang/IllegalArgumentException") (ic := 67) C hfl (by decide +kernel) (ztx_65) (by decide +kernel) (C.1.2.2.2.2 (.classLink RX4 63 "java/lang/IllegalArgumentException") (by decide +kernel)) (C.1.2.2.2.2 (.initialized "java/lang/IllegalArgumentException") (by decide +kernel)) (by decide +kernel) zth_67 ztg_67 dX4_clock_24 dX4_clock_27 dX4_clock_28 dX4_clock_30 dX4_clock_33 htab (Nat.le_of_ble_eq_true rfl) (Nat.le_of_ble_eq_true rfl) (Nat.le_of_ble_eq_true rfl) (Nat.le_of_ble_eq_true rfl) hlk (Or.inl ⟨fun h => by first | exact c_1 h.1 | exact c_2 h.2, rfl⟩) (Nat.le_of_ble_eq_true rfl) (Nat.le_of_ble_eq_true rfl)
set_option maxHeartbeats 4000000 in
set_option maxRecDepth 100000 in
theorem c_X4_tell (l : Launch) (hfl : l.stackTraces = false) (E : zE) (sa : Nat → Nat) {μ : zM} {ov : Nat → Int64} {i d w : Int32} (t c9 nc n : Nat) (H : zCI μ t c9 nc n) : zXi l E sa yX4_tell wsX4_tell 6 90 1 6 [.ref (zob E 0), .int i, .int d, .int w] μ ov (fun r μ1 ov1 => (0 ≤ i ∧ i < μ 63 4) ∧ ((-20 ≤ d ∧ d ≤ 20) ∧ 0 ≤ w ∧ w ≤ 100) ∧ r = μ 4 i.toNatClampNeg ∧ μ1 = zu (zu μ 3 i.toNatClampNeg d) 4 i.toNatClampNeg w ∧ ov1 = ov) (fun X => (¬ (0 ≤ i ∧ i < μ 63 4) ∧ X = zIO) ∨ ((0 ≤ i ∧ i < μ 63 4) ∧ ¬ ((-20 ≤ d ∧ d ≤ 20) ∧ 0 ≤ w ∧ w ≤ 100) ∧ X = zIA)) := by
  refine z_ofXi (cc := cX4_tell) (nL := 5) (ret := (some .int)) (own := RX4) zfp_X4_tell rfl (by simp [Value.category]) (Nat.le_of_ble_eq_true rfl) rfl ?_
  intro p e s m below meth c C hr hlk htab
  have iX4 : ∀ w ∈ wsX40, w ∈ wsX4_tell := by decide +kernel
  have f10 := C.1.2.2.2.2 (.fieldLink RX4 10 "TickFall" "clocks" "LTickFall$Clocks;") (by decide +kernel)
  show zW p l e (zR 6 90 1 6) s m [Value.ref (zob E 0), Value.int i, Value.int d, Value.int w].toArray below meth c E 5 0 0 (vx_MQ below (zQi E s.heap.size (fun r μ1 ov1 => (0 ≤ i ∧ i < μ 63 4) ∧ ((-20 ≤ d ∧ d ≤ 20) ∧ 0 ≤ w ∧ w ≤ 100) ∧ r = μ 4 i.toNatClampNeg ∧ μ1 = zu (zu μ 3 i.toNatClampNeg d) 4 i.toNatClampNeg w ∧ ov1 = ov)) (zXC E s.heap.size μ ov (fun X => (¬ (0 ≤ i ∧ i < μ 63 4) ∧ X = zIO) ∨ ((0 ≤ i ∧ i < μ 63 4) ∧ ¬ ((-20 ≤ d ∧ d ≤ 20) ∧ 0 ≤ w ∧ w ≤ 100) ∧ X = zIA))) [Value.ref (zob E 0), Value.int i, Value.int d, Value.int w].toArray s 1 6 (zA E s.heap.size)) 0 [some (.ref (zob E 0)), some (.int (i)), some (.int (d)), some (.int (w)), none] [] μ ov
  obtain ⟨H1, H2, H3, H4, H5, H6, H7, H8, H9⟩ := id H
  refine z_aloadn (i := 0) (pc := 0) C dX4_tell_0 rfl rfl ?_
  refine zg_X4_clocks (pc := 1) C dX4_tell_1 iX4 f10 ?_
  refine z_iloadn (i := 1) (pc := 4) C dX4_tell_4 rfl rfl ?_
  refine z_callVi (pc := 5) (n := 1) (As := [.int (i)]) (rest := []) C (c_X1_has l E sa (μ := μ) (ov := ov) i) gX4_tell_X1_has rfl zfV_X1_has ⟨Nat.le_of_ble_eq_true rfl, Nat.le_of_ble_eq_true rfl⟩ rfl (zRec_X1 E) rfl (Nat.le_of_ble_eq_true rfl) ⟨Nat.zero_le _, Nat.zero_le _⟩ dX4_tell_5 (fun r9 μ9 ov9 hp => ?_)
  have e1 := hp.1.symm
  have e2 := hp.2.1.symm
  have e3 := hp.2.2.symm
  clear hp
  subst e1 e2 e3
  refine z_if_ne (tgt := 21) (pc := 8) C dX4_tell_8 (by decide) (fun c_1 => ?_) (fun c_1 => ?_)
  · rw [zb_ne0] at c_1
    refine z_iloadn (i := 2) (pc := 21) C dX4_tell_21 rfl rfl ?_
    refine z_bipush (v := -20) (pc := 22) C dX4_tell_22 (by decide) ?_
    refine z_bipush (v := 20) (pc := 24) C dX4_tell_24 (by decide) ?_
    refine z_callSi (pc := 26) (n := 3) (As := [.int (d), .int (-20), .int (20)]) (rest := []) C (c_X4_isWithin l E sa (μ := μ) (ov := ov) (d) (-20) (20)) gX4_tell_X4_isWithin rfl zfV_X4_isWithin.2 ⟨Nat.le_of_ble_eq_true rfl, Nat.le_of_ble_eq_true rfl⟩ rfl rfl (Nat.le_of_ble_eq_true rfl) ⟨Nat.zero_le _, Nat.zero_le _⟩ dX4_tell_26 (fun r9 μ9 ov9 hp => ?_)
    have e1 := hp.1.symm
    have e2 := hp.2.1.symm
    have e3 := hp.2.2.symm
    clear hp
    subst e1 e2 e3
    refine z_if_eq (tgt := 42) (pc := 29) C dX4_tell_29 (by decide) (fun c_2 => ?_) (fun c_2 => ?_)
    · rw [zb_eq0] at c_2
      exact z_throw (pc := 42) (X := "java/lang/IllegalArgumentException") (ic := 67) C hfl (by decide +kernel) (ztx_92) (by decide +kernel) (C.1.2.2.2.2 (.classLink RX4 63 "java/lang/IllegalArgumentException") (by decide +kernel)) (C.1.2.2.2.2 (.initialized "java/lang/IllegalArgumentException") (by decide +kernel)) (by decide +kernel) zth_67 ztg_67 dX4_tell_42 dX4_tell_45 dX4_tell_46 dX4_tell_48 dX4_tell_51 htab (Nat.le_of_ble_eq_true rfl) (Nat.le_of_ble_eq_true rfl) (Nat.le_of_ble_eq_true rfl) (Nat.le_of_ble_eq_true rfl) hlk (Or.inr ⟨c_1, fun h => by first | exact c_2 h.1 | exact c_3 h.2, rfl⟩) (Nat.le_of_ble_eq_true rfl) (Nat.le_of_ble_eq_true rfl)
    · rw [zb_ne0] at c_2
      refine z_iloadn (i := 3) (pc := 32) C dX4_tell_32 rfl rfl ?_
      refine z_iconst (v := 0) (pc := 33) C dX4_tell_33 (by decide) ?_
      refine z_bipush (v := 100) (pc := 34) C dX4_tell_34 (by decide) ?_
      refine z_callSi (pc := 36) (n := 3) (As := [.int (w), .int (0), .int (100)]) (rest := []) C (c_X4_isWithin l E sa (μ := μ) (ov := ov) (w) (0) (100)) gX4_tell_X4_isWithin rfl zfV_X4_isWithin.2 ⟨Nat.le_of_ble_eq_true rfl, Nat.le_of_ble_eq_true rfl⟩ rfl rfl (Nat.le_of_ble_eq_true rfl) ⟨Nat.zero_le _, Nat.zero_le _⟩ dX4_tell_36 (fun r9 μ9 ov9 hp => ?_)
      have e1 := hp.1.symm
      have e2 := hp.2.1.symm
      have e3 := hp.2.2.symm
      clear hp
      subst e1 e2 e3
      refine z_if_ne (tgt := 52) (pc := 39) C dX4_tell_39 (by decide) (fun c_3 => ?_) (fun c_3 => ?_)
      · rw [zb_ne0] at c_3
        obtain ⟨k, hk, hi⟩ := znat (n := nc) c_1.1 (by rw [← H4]; exact c_1.2) (by omega)
        have hik : i.toNatClampNeg = k := by rw [hi, nI_clamp (by omega)]
        refine z_aloadn (i := 0) (pc := 52) C dX4_tell_52 rfl rfl ?_
        refine zg_X4_clocks (pc := 53) C dX4_tell_53 iX4 f10 ?_
        refine z_iloadn (i := 1) (pc := 56) C dX4_tell_56 rfl rfl ?_
        refine z_callVi (pc := 57) (n := 1) (As := [.int (i)]) (rest := []) C (c_X1_weightOf l E sa (μ := μ) (ov := ov) k hi (by omega)) gX4_tell_X1_weightOf rfl zfV_X1_weightOf ⟨Nat.le_of_ble_eq_true rfl, Nat.le_of_ble_eq_true rfl⟩ rfl (zRec_X1 E) rfl (Nat.le_of_ble_eq_true rfl) ⟨Nat.zero_le _, Nat.zero_le _⟩ dX4_tell_57 (fun r9 μ9 ov9 hp => ?_)
        have e1 := hp.1.symm
        have e2 := hp.2.1.symm
        have e3 := hp.2.2.symm
        clear hp
        subst e1 e2 e3
        refine z_istore4 (pc := 60) C (by decide) (fun w hw => by cases hw; exact (show ¬ (1 = 2) from by decide)) dX4_tell_60 ?_
        refine z_aloadn (i := 0) (pc := 62) C dX4_tell_62 rfl rfl ?_
        refine zg_X4_clocks (pc := 63) C dX4_tell_63 iX4 f10 ?_
        refine z_iloadn (i := 1) (pc := 66) C dX4_tell_66 rfl rfl ?_
        refine z_iloadn (i := 2) (pc := 67) C dX4_tell_67 rfl rfl ?_
        refine z_iloadn (i := 3) (pc := 68) C dX4_tell_68 rfl rfl ?_
        refine z_callVv (pc := 69) (n := 3) (As := [.int (i), .int (d), .int (w)]) (rest := []) C (c_X1_setDriftAndWeight l E sa (μ := μ) (ov := ov) (d := d) (w := w) k hi (by omega)) gX4_tell_X1_setDriftAndWeight rfl zfV_X1_setDriftAndWeight ⟨Nat.le_of_ble_eq_true rfl, Nat.le_of_ble_eq_true rfl⟩ rfl (zRec_X1 E) rfl (Nat.le_of_ble_eq_true rfl) ⟨Nat.zero_le _, Nat.zero_le _⟩ dX4_tell_69 (fun μ9 ov9 hp => ?_)
        have e2 := hp.1.symm
        have e3 := hp.2.symm
        clear hp
        subst e2 e3
        refine z_iload (i := 4) (pc := 72) C dX4_tell_72 rfl ?_
        exact z_retX (z_iret (pc := 74) C hr hlk ⟨c_1, ⟨c_2, c_3⟩, by rw [hik], by rw [hik], rfl⟩ (Nat.zero_le _) (Nat.zero_le _) dX4_tell_74)
      · rw [zb_eq0] at c_3
        exact z_throw (pc := 42) (X := "java/lang/IllegalArgumentException") (ic := 67) C hfl (by decide +kernel) (ztx_92) (by decide +kernel) (C.1.2.2.2.2 (.classLink RX4 63 "java/lang/IllegalArgumentException") (by decide +kernel)) (C.1.2.2.2.2 (.initialized "java/lang/IllegalArgumentException") (by decide +kernel)) (by decide +kernel) zth_67 ztg_67 dX4_tell_42 dX4_tell_45 dX4_tell_46 dX4_tell_48 dX4_tell_51 htab (Nat.le_of_ble_eq_true rfl) (Nat.le_of_ble_eq_true rfl) (Nat.le_of_ble_eq_true rfl) (Nat.le_of_ble_eq_true rfl) hlk (Or.inr ⟨c_1, fun h => by first | exact c_2 h.1 | exact c_3 h.2, rfl⟩) (Nat.le_of_ble_eq_true rfl) (Nat.le_of_ble_eq_true rfl)
  · rw [zb_eq0] at c_1
    exact z_throw (pc := 11) (X := "java/lang/IndexOutOfBoundsException") (ic := 91) C hfl (by decide +kernel) (ztx_89) (by decide +kernel) (C.1.2.2.2.2 (.classLink RX4 87 "java/lang/IndexOutOfBoundsException") (by decide +kernel)) (C.1.2.2.2.2 (.initialized "java/lang/IndexOutOfBoundsException") (by decide +kernel)) (by decide +kernel) zth_91 ztg_91 dX4_tell_11 dX4_tell_14 dX4_tell_15 dX4_tell_17 dX4_tell_20 htab (Nat.le_of_ble_eq_true rfl) (Nat.le_of_ble_eq_true rfl) (Nat.le_of_ble_eq_true rfl) (Nat.le_of_ble_eq_true rfl) hlk (Or.inl ⟨c_1, rfl⟩) (Nat.le_of_ble_eq_true rfl) (Nat.le_of_ble_eq_true rfl)
set_option maxHeartbeats 4000000 in
set_option maxRecDepth 100000 in
theorem c_X4_link (l : Launch) (hfl : l.stackTraces = false) (E : zE) (sa : Nat → Nat) {μ : zM} {ov : Nat → Int64} {i j d : Int32} (t c9 nc n : Nat) (H : zCI μ t c9 nc n) : zXi l E sa yX4_link wsX4_link 6 90 1 6 [.ref (zob E 0), .int i, .int j, .int d] μ ov (fun r μ1 ov1 => ((0 ≤ i ∧ i < μ 63 4) ∧ 0 ≤ j ∧ j < μ 63 4) ∧ (¬ i = j ∧ -50 ≤ d ∧ d ≤ 50) ∧ (n < 8) ∧ r = nI n ∧ μ1 = zu (zu (zu (zu (zu μ 7 n i) 8 n j) 9 n d) 11 n (μ 63 0)) 63 5 (nI (n + 1)) ∧ ov1 = ov) (fun X => (¬ ((0 ≤ i ∧ i < μ 63 4) ∧ 0 ≤ j ∧ j < μ 63 4) ∧ X = zIO) ∨ (((0 ≤ i ∧ i < μ 63 4) ∧ 0 ≤ j ∧ j < μ 63 4) ∧ ¬ (¬ i = j ∧ -50 ≤ d ∧ d ≤ 50) ∧ X = zIA) ∨ (((0 ≤ i ∧ i < μ 63 4) ∧ 0 ≤ j ∧ j < μ 63 4) ∧ (¬ i = j ∧ -50 ≤ d ∧ d ≤ 50) ∧ ¬ (n < 8) ∧ X = zIS)) := by
  refine z_ofXi (cc := cX4_link) (nL := 4) (ret := (some .int)) (own := RX4) zfp_X4_link rfl (by simp [Value.category]) (Nat.le_of_ble_eq_true rfl) rfl ?_
  intro p e s m below meth c C hr hlk htab
  have iX4 : ∀ w ∈ wsX40, w ∈ wsX4_link := by decide +kernel
  have f10 := C.1.2.2.2.2 (.fieldLink RX4 10 "TickFall" "clocks" "LTickFall$Clocks;") (by decide +kernel)
  have f19 := C.1.2.2.2.2 (.fieldLink RX4 19 "TickFall" "links" "LTickFall$Links;") (by decide +kernel)
  have f45 := C.1.2.2.2.2 (.fieldLink RX4 45 "TickFall" "today" "I") (by decide +kernel)
  show zW p l e (zR 6 90 1 6) s m [Value.ref (zob E 0), Value.int i, Value.int j, Value.int d].toArray below meth c E 4 0 0 (vx_MQ below (zQi E s.heap.size (fun r μ1 ov1 => ((0 ≤ i ∧ i < μ 63 4) ∧ 0 ≤ j ∧ j < μ 63 4) ∧ (¬ i = j ∧ -50 ≤ d ∧ d ≤ 50) ∧ (n < 8) ∧ r = nI n ∧ μ1 = zu (zu (zu (zu (zu μ 7 n i) 8 n j) 9 n d) 11 n (μ 63 0)) 63 5 (nI (n + 1)) ∧ ov1 = ov)) (zXC E s.heap.size μ ov (fun X => (¬ ((0 ≤ i ∧ i < μ 63 4) ∧ 0 ≤ j ∧ j < μ 63 4) ∧ X = zIO) ∨ (((0 ≤ i ∧ i < μ 63 4) ∧ 0 ≤ j ∧ j < μ 63 4) ∧ ¬ (¬ i = j ∧ -50 ≤ d ∧ d ≤ 50) ∧ X = zIA) ∨ (((0 ≤ i ∧ i < μ 63 4) ∧ 0 ≤ j ∧ j < μ 63 4) ∧ (¬ i = j ∧ -50 ≤ d ∧ d ≤ 50) ∧ ¬ (n < 8) ∧ X = zIS))) [Value.ref (zob E 0), Value.int i, Value.int j, Value.int d].toArray s 1 6 (zA E s.heap.size)) 0 [some (.ref (zob E 0)), some (.int (i)), some (.int (j)), some (.int (d))] [] μ ov
  obtain ⟨H1, H2, H3, H4, H5, H6, H7, H8, H9⟩ := id H
  refine z_aloadn (i := 0) (pc := 0) C dX4_link_0 rfl rfl ?_
  refine zg_X4_clocks (pc := 1) C dX4_link_1 iX4 f10 ?_
  refine z_iloadn (i := 1) (pc := 4) C dX4_link_4 rfl rfl ?_
  refine z_callVi (pc := 5) (n := 1) (As := [.int (i)]) (rest := []) C (c_X1_has l E sa (μ := μ) (ov := ov) i) gX4_link_X1_has rfl zfV_X1_has ⟨Nat.le_of_ble_eq_true rfl, Nat.le_of_ble_eq_true rfl⟩ rfl (zRec_X1 E) rfl (Nat.le_of_ble_eq_true rfl) ⟨Nat.zero_le _, Nat.zero_le _⟩ dX4_link_5 (fun r9 μ9 ov9 hp => ?_)
  have e1 := hp.1.symm
  have e2 := hp.2.1.symm
  have e3 := hp.2.2.symm
  clear hp
  subst e1 e2 e3
  refine z_if_eq (tgt := 22) (pc := 8) C dX4_link_8 (by decide) (fun c_1 => ?_) (fun c_1 => ?_)
  · rw [zb_eq0] at c_1
    exact z_throw (pc := 22) (X := "java/lang/IndexOutOfBoundsException") (ic := 91) C hfl (by decide +kernel) (ztx_89) (by decide +kernel) (C.1.2.2.2.2 (.classLink RX4 87 "java/lang/IndexOutOfBoundsException") (by decide +kernel)) (C.1.2.2.2.2 (.initialized "java/lang/IndexOutOfBoundsException") (by decide +kernel)) (by decide +kernel) zth_91 ztg_91 dX4_link_22 dX4_link_25 dX4_link_26 dX4_link_28 dX4_link_31 htab (Nat.le_of_ble_eq_true rfl) (Nat.le_of_ble_eq_true rfl) (Nat.le_of_ble_eq_true rfl) (Nat.le_of_ble_eq_true rfl) hlk (Or.inl ⟨fun h => by first | exact c_1 h.1 | exact c_2 h.2, rfl⟩) (Nat.le_of_ble_eq_true rfl) (Nat.le_of_ble_eq_true rfl)
  · rw [zb_ne0] at c_1
    refine z_aloadn (i := 0) (pc := 11) C dX4_link_11 rfl rfl ?_
    refine zg_X4_clocks (pc := 12) C dX4_link_12 iX4 f10 ?_
    refine z_iloadn (i := 2) (pc := 15) C dX4_link_15 rfl rfl ?_
    refine z_callVi (pc := 16) (n := 1) (As := [.int (j)]) (rest := []) C (c_X1_has l E sa (μ := μ) (ov := ov) j) gX4_link_X1_has rfl zfV_X1_has ⟨Nat.le_of_ble_eq_true rfl, Nat.le_of_ble_eq_true rfl⟩ rfl (zRec_X1 E) rfl (Nat.le_of_ble_eq_true rfl) ⟨Nat.zero_le _, Nat.zero_le _⟩ dX4_link_16 (fun r9 μ9 ov9 hp => ?_)
    have e1 := hp.1.symm
    have e2 := hp.2.1.symm
    have e3 := hp.2.2.symm
    clear hp
    subst e1 e2 e3
    refine z_if_ne (tgt := 32) (pc := 19) C dX4_link_19 (by decide) (fun c_2 => ?_) (fun c_2 => ?_)
    · rw [zb_ne0] at c_2
      refine z_iloadn (i := 1) (pc := 32) C dX4_link_32 rfl rfl ?_
      refine z_iloadn (i := 2) (pc := 33) C dX4_link_33 rfl rfl ?_
      refine z_icmp_eq (tgt := 48) (pc := 34) C dX4_link_34 (by decide) (fun c_3 => ?_) (fun c_3 => ?_)
      · exact z_throw (pc := 48) (X := "java/lang/IllegalArgumentException") (ic := 67) C hfl (by decide +kernel) (ztx_102) (by decide +kernel) (C.1.2.2.2.2 (.classLink RX4 63 "java/lang/IllegalArgumentException") (by decide +kernel)) (C.1.2.2.2.2 (.initialized "java/lang/IllegalArgumentException") (by decide +kernel)) (by decide +kernel) zth_67 ztg_67 dX4_link_48 dX4_link_51 dX4_link_52 dX4_link_54 dX4_link_57 htab (Nat.le_of_ble_eq_true rfl) (Nat.le_of_ble_eq_true rfl) (Nat.le_of_ble_eq_true rfl) (Nat.le_of_ble_eq_true rfl) hlk (Or.inr (Or.inl ⟨⟨c_1, c_2⟩, fun h => by first | exact h.1 c_3 | exact c_4 h.2, rfl⟩)) (Nat.le_of_ble_eq_true rfl) (Nat.le_of_ble_eq_true rfl)
      · refine z_iloadn (i := 3) (pc := 37) C dX4_link_37 rfl rfl ?_
        refine z_bipush (v := -50) (pc := 38) C dX4_link_38 (by decide) ?_
        refine z_bipush (v := 50) (pc := 40) C dX4_link_40 (by decide) ?_
        refine z_callSi (pc := 42) (n := 3) (As := [.int (d), .int (-50), .int (50)]) (rest := []) C (c_X4_isWithin l E sa (μ := μ) (ov := ov) (d) (-50) (50)) gX4_link_X4_isWithin rfl zfV_X4_isWithin.2 ⟨Nat.le_of_ble_eq_true rfl, Nat.le_of_ble_eq_true rfl⟩ rfl rfl (Nat.le_of_ble_eq_true rfl) ⟨Nat.zero_le _, Nat.zero_le _⟩ dX4_link_42 (fun r9 μ9 ov9 hp => ?_)
        have e1 := hp.1.symm
        have e2 := hp.2.1.symm
        have e3 := hp.2.2.symm
        clear hp
        subst e1 e2 e3
        refine z_if_ne (tgt := 58) (pc := 45) C dX4_link_45 (by decide) (fun c_4 => ?_) (fun c_4 => ?_)
        · rw [zb_ne0] at c_4
          refine z_aloadn (i := 0) (pc := 58) C dX4_link_58 rfl rfl ?_
          refine zg_X4_links (pc := 59) C dX4_link_59 iX4 f19 ?_
          refine z_callVi (pc := 62) (n := 0) (As := []) (rest := []) C (c_X2_count l E sa (μ := μ) (ov := ov)) gX4_link_X2_count rfl zfV_X2_count ⟨Nat.le_of_ble_eq_true rfl, Nat.le_of_ble_eq_true rfl⟩ rfl (zRec_X2 E) rfl (Nat.le_of_ble_eq_true rfl) ⟨Nat.zero_le _, Nat.zero_le _⟩ dX4_link_62 (fun r9 μ9 ov9 hp => ?_)
          have e1 := hp.1.symm
          have e2 := hp.2.1.symm
          have e3 := hp.2.2.symm
          clear hp
          subst e1 e2 e3
          refine z_bipush (v := 8) (pc := 65) C dX4_link_65 (by decide) ?_
          refine z_icmp_lt (tgt := 80) (pc := 67) C dX4_link_67 (by decide) (fun c_5 => ?_) (fun c_5 => ?_)
          · have h5 : n < 8 := by rw [H6, show (8 : Int32) = nI 8 from rfl, nI_ltI (by omega) (by omega)] at c_5; exact c_5
            refine z_aloadn (i := 0) (pc := 80) C dX4_link_80 rfl rfl ?_
            refine zg_X4_links (pc := 81) C dX4_link_81 iX4 f19 ?_
            refine z_iloadn (i := 1) (pc := 84) C dX4_link_84 rfl rfl ?_
            refine z_iloadn (i := 2) (pc := 85) C dX4_link_85 rfl rfl ?_
            refine z_iloadn (i := 3) (pc := 86) C dX4_link_86 rfl rfl ?_
            refine z_aloadn (i := 0) (pc := 87) C dX4_link_87 rfl rfl ?_
            refine zg_X4_today (pc := 88) C dX4_link_88 iX4 f45 ?_
            refine z_callVi (pc := 91) (n := 4) (As := [.int (i), .int (j), .int (d), .int (μ 63 0)]) (rest := []) C (c_X2_add l E sa (μ := μ) (ov := ov) (a := i) (b := j) (c9 := d) (t := μ 63 0) n H6 h5) gX4_link_X2_add rfl zfV_X2_add ⟨Nat.le_of_ble_eq_true rfl, Nat.le_of_ble_eq_true rfl⟩ rfl (zRec_X2 E) rfl (Nat.le_of_ble_eq_true rfl) ⟨Nat.zero_le _, Nat.zero_le _⟩ dX4_link_91 (fun r9 μ9 ov9 hp => ?_)
            have e1 := hp.1.symm
            have e2 := hp.2.1.symm
            have e3 := hp.2.2.symm
            clear hp
            subst e1 e2 e3
            exact z_retX (z_iret (pc := 94) C hr hlk ⟨⟨c_1, c_2⟩, ⟨c_3, c_4⟩, h5, rfl, rfl, rfl⟩ (Nat.zero_le _) (Nat.zero_le _) dX4_link_94)
          · have h5 : ¬ n < 8 := by rw [H6, show (8 : Int32) = nI 8 from rfl, nI_ltI (by omega) (by omega)] at c_5; exact c_5
            exact z_throw (pc := 70) (X := "java/lang/IllegalStateException") (ic := 78) C hfl (by decide +kernel) (ztx_105) (by decide +kernel) (C.1.2.2.2.2 (.classLink RX4 74 "java/lang/IllegalStateException") (by decide +kernel)) (C.1.2.2.2.2 (.initialized "java/lang/IllegalStateException") (by decide +kernel)) (by decide +kernel) zth_78 ztg_78 dX4_link_70 dX4_link_73 dX4_link_74 dX4_link_76 dX4_link_79 htab (Nat.le_of_ble_eq_true rfl) (Nat.le_of_ble_eq_true rfl) (Nat.le_of_ble_eq_true rfl) (Nat.le_of_ble_eq_true rfl) hlk (Or.inr (Or.inr ⟨⟨c_1, c_2⟩, ⟨c_3, c_4⟩, h5, rfl⟩)) (Nat.le_of_ble_eq_true rfl) (Nat.le_of_ble_eq_true rfl)
        · rw [zb_eq0] at c_4
          exact z_throw (pc := 48) (X := "java/lang/IllegalArgumentException") (ic := 67) C hfl (by decide +kernel) (ztx_102) (by decide +kernel) (C.1.2.2.2.2 (.classLink RX4 63 "java/lang/IllegalArgumentException") (by decide +kernel)) (C.1.2.2.2.2 (.initialized "java/lang/IllegalArgumentException") (by decide +kernel)) (by decide +kernel) zth_67 ztg_67 dX4_link_48 dX4_link_51 dX4_link_52 dX4_link_54 dX4_link_57 htab (Nat.le_of_ble_eq_true rfl) (Nat.le_of_ble_eq_true rfl) (Nat.le_of_ble_eq_true rfl) (Nat.le_of_ble_eq_true rfl) hlk (Or.inr (Or.inl ⟨⟨c_1, c_2⟩, fun h => by first | exact h.1 c_3 | exact c_4 h.2, rfl⟩)) (Nat.le_of_ble_eq_true rfl) (Nat.le_of_ble_eq_true rfl)
    · rw [zb_eq0] at c_2
      exact z_throw (pc := 22) (X := "java/lang/IndexOutOfBoundsException") (ic := 91) C hfl (by decide +kernel) (ztx_89) (by decide +kernel) (C.1.2.2.2.2 (.classLink RX4 87 "java/lang/IndexOutOfBoundsException") (by decide +kernel)) (C.1.2.2.2.2 (.initialized "java/lang/IndexOutOfBoundsException") (by decide +kernel)) (by decide +kernel) zth_91 ztg_91 dX4_link_22 dX4_link_25 dX4_link_26 dX4_link_28 dX4_link_31 htab (Nat.le_of_ble_eq_true rfl) (Nat.le_of_ble_eq_true rfl) (Nat.le_of_ble_eq_true rfl) (Nat.le_of_ble_eq_true rfl) hlk (Or.inl ⟨fun h => by first | exact c_1 h.1 | exact c_2 h.2, rfl⟩) (Nat.le_of_ble_eq_true rfl) (Nat.le_of_ble_eq_true rfl)
set_option maxHeartbeats 4000000 in
set_option maxRecDepth 100000 in
theorem c_X4_bounds (l : Launch) (hfl : l.stackTraces = false) (E : zE) (sa : Nat → Nat) {μ : zM} {ov : Nat → Int64} {a b : Int32} (t c9 nc n : Nat) (H : zCI μ t c9 nc n) : zXv l E sa yX4_bounds wsX4_bounds 6 90 1 6 [.ref (zob E 0), .int a, .int b] μ ov (fun μ1 ov1 => ((0 ≤ a ∧ a ≤ 499) ∧ 1 ≤ b ∧ b ≤ 1000) ∧ μ1 = zu (zu μ 63 1 a) 63 2 b ∧ ov1 = ov) (fun X => (¬ ((0 ≤ a ∧ a ≤ 499) ∧ 1 ≤ b ∧ b ≤ 1000) ∧ X = zIA)) := by
  refine z_ofXv (cc := cX4_bounds) (nL := 3) (ret := none) (own := RX4) zfp_X4_bounds rfl (by simp [Value.category]) (Nat.le_of_ble_eq_true rfl) rfl ?_
  intro p e s m below meth c C hr hlk htab
  have iX4 : ∀ w ∈ wsX40, w ∈ wsX4_bounds := by decide +kernel
  have f49 := C.1.2.2.2.2 (.fieldLink RX4 49 "TickFall" "doubt" "I") (by decide +kernel)
  have f52 := C.1.2.2.2.2 (.fieldLink RX4 52 "TickFall" "step" "I") (by decide +kernel)
  show zW p l e (zR 6 90 1 6) s m [Value.ref (zob E 0), Value.int a, Value.int b].toArray below meth c E 3 0 0 (vx_MQ below (zQv E s.heap.size (fun μ1 ov1 => ((0 ≤ a ∧ a ≤ 499) ∧ 1 ≤ b ∧ b ≤ 1000) ∧ μ1 = zu (zu μ 63 1 a) 63 2 b ∧ ov1 = ov)) (zXC E s.heap.size μ ov (fun X => (¬ ((0 ≤ a ∧ a ≤ 499) ∧ 1 ≤ b ∧ b ≤ 1000) ∧ X = zIA))) [Value.ref (zob E 0), Value.int a, Value.int b].toArray s 1 6 (zA E s.heap.size)) 0 [some (.ref (zob E 0)), some (.int (a)), some (.int (b))] [] μ ov
  obtain ⟨H1, H2, H3, H4, H5, H6, H7, H8, H9⟩ := id H
  refine z_iloadn (i := 1) (pc := 0) C dX4_bounds_0 rfl rfl ?_
  refine z_iconst (v := 0) (pc := 1) C dX4_bounds_1 (by decide) ?_
  refine z_sipush (v := 499) (pc := 2) C dX4_bounds_2 (by decide) ?_
  refine z_callSi (pc := 5) (n := 3) (As := [.int (a), .int (0), .int (499)]) (rest := []) C (c_X4_isWithin l E sa (μ := μ) (ov := ov) (a) (0) (499)) gX4_bounds_X4_isWithin rfl zfV_X4_isWithin.2 ⟨Nat.le_of_ble_eq_true rfl, Nat.le_of_ble_eq_true rfl⟩ rfl rfl (Nat.le_of_ble_eq_true rfl) ⟨Nat.zero_le _, Nat.zero_le _⟩ dX4_bounds_5 (fun r9 μ9 ov9 hp => ?_)
  have e1 := hp.1.symm
  have e2 := hp.2.1.symm
  have e3 := hp.2.2.symm
  clear hp
  subst e1 e2 e3
  refine z_if_eq (tgt := 22) (pc := 8) C dX4_bounds_8 (by decide) (fun c_1 => ?_) (fun c_1 => ?_)
  · rw [zb_eq0] at c_1
    exact z_throw (pc := 22) (X := "java/lang/IllegalArgumentException") (ic := 67) C hfl (by decide +kernel) (ztx_137) (by decide +kernel) (C.1.2.2.2.2 (.classLink RX4 63 "java/lang/IllegalArgumentException") (by decide +kernel)) (C.1.2.2.2.2 (.initialized "java/lang/IllegalArgumentException") (by decide +kernel)) (by decide +kernel) zth_67 ztg_67 dX4_bounds_22 dX4_bounds_25 dX4_bounds_26 dX4_bounds_28 dX4_bounds_31 htab (Nat.le_of_ble_eq_true rfl) (Nat.le_of_ble_eq_true rfl) (Nat.le_of_ble_eq_true rfl) (Nat.le_of_ble_eq_true rfl) hlk ⟨fun h => by first | exact c_1 h.1 | exact c_2 h.2, rfl⟩ (Nat.le_of_ble_eq_true rfl) (Nat.le_of_ble_eq_true rfl)
  · rw [zb_ne0] at c_1
    refine z_iloadn (i := 2) (pc := 11) C dX4_bounds_11 rfl rfl ?_
    refine z_iconst (v := 1) (pc := 12) C dX4_bounds_12 (by decide) ?_
    refine z_sipush (v := 1000) (pc := 13) C dX4_bounds_13 (by decide) ?_
    refine z_callSi (pc := 16) (n := 3) (As := [.int (b), .int (1), .int (1000)]) (rest := []) C (c_X4_isWithin l E sa (μ := μ) (ov := ov) (b) (1) (1000)) gX4_bounds_X4_isWithin rfl zfV_X4_isWithin.2 ⟨Nat.le_of_ble_eq_true rfl, Nat.le_of_ble_eq_true rfl⟩ rfl rfl (Nat.le_of_ble_eq_true rfl) ⟨Nat.zero_le _, Nat.zero_le _⟩ dX4_bounds_16 (fun r9 μ9 ov9 hp => ?_)
    have e1 := hp.1.symm
    have e2 := hp.2.1.symm
    have e3 := hp.2.2.symm
    clear hp
    subst e1 e2 e3
    refine z_if_ne (tgt := 32) (pc := 19) C dX4_bounds_19 (by decide) (fun c_2 => ?_) (fun c_2 => ?_)
    · rw [zb_ne0] at c_2
      refine z_aloadn (i := 0) (pc := 32) C dX4_bounds_32 rfl rfl ?_
      refine z_iloadn (i := 1) (pc := 33) C dX4_bounds_33 rfl rfl ?_
      refine zp_X4_doubt (pc := 34) C dX4_bounds_34 iX4 f49 ?_
      refine z_aloadn (i := 0) (pc := 37) C dX4_bounds_37 rfl rfl ?_
      refine z_iloadn (i := 2) (pc := 38) C dX4_bounds_38 rfl rfl ?_
      refine zp_X4_step (pc := 39) C dX4_bounds_39 iX4 f52 ?_
      exact z_retX (z_vret (pc := 42) C hr hlk ⟨⟨c_1, c_2⟩, rfl, rfl⟩ (Nat.zero_le _) (Nat.zero_le _) dX4_bounds_42)
    · rw [zb_eq0] at c_2
      exact z_throw (pc := 22) (X := "java/lang/IllegalArgumentException") (ic := 67) C hfl (by decide +kernel) (ztx_137) (by decide +kernel) (C.1.2.2.2.2 (.classLink RX4 63 "java/lang/IllegalArgumentException") (by decide +kernel)) (C.1.2.2.2.2 (.initialized "java/lang/IllegalArgumentException") (by decide +kernel)) (by decide +kernel) zth_67 ztg_67 dX4_bounds_22 dX4_bounds_25 dX4_bounds_26 dX4_bounds_28 dX4_bounds_31 htab (Nat.le_of_ble_eq_true rfl) (Nat.le_of_ble_eq_true rfl) (Nat.le_of_ble_eq_true rfl) (Nat.le_of_ble_eq_true rfl) hlk ⟨fun h => by first | exact c_1 h.1 | exact c_2 h.2, rfl⟩ (Nat.le_of_ble_eq_true rfl) (Nat.le_of_ble_eq_true rfl)
set_option maxHeartbeats 4000000 in
set_option maxRecDepth 100000 in
theorem c_X4_calibrate (l : Launch) (hfl : l.stackTraces = false) (E : zE) (sa : Nat → Nat) {μ : zM} {ov : Nat → Int64} {i a b x : Int32} (t c9 nc n : Nat) (H : zCI μ t c9 nc n) : zXi l E sa yX4_calibrate wsX4_calibrate 6 90 1 6 [.ref (zob E 0), .int i, .int a, .int b, .int x] μ ov (fun r μ1 ov1 => (0 ≤ i ∧ i < μ 63 5) ∧ ((0 ≤ a ∧ a ≤ 500) ∧ (a ≤ b ∧ b ≤ 500) ∧ -10000 ≤ x ∧ x ≤ 10000) ∧ (μ 12 i.toNatClampNeg < 10) ∧ r = μ 12 i.toNatClampNeg + 1 ∧ μ1 = zu (zitr (fun j μ => zu μ (30 + i.toNatClampNeg) (a.toNatClampNeg + j) (μ (30 + i.toNatClampNeg) (a.toNatClampNeg + j) + x)) (b.toNatClampNeg + 1 - a.toNatClampNeg) μ) 12 i.toNatClampNeg (μ 12 i.toNatClampNeg + 1) ∧ ov1 = ov) (fun X => (¬ (0 ≤ i ∧ i < μ 63 5) ∧ X = zIO) ∨ ((0 ≤ i ∧ i < μ 63 5) ∧ ¬ ((0 ≤ a ∧ a ≤ 500) ∧ (a ≤ b ∧ b ≤ 500) ∧ -10000 ≤ x ∧ x ≤ 10000) ∧ X = zIA) ∨ ((0 ≤ i ∧ i < μ 63 5) ∧ ((0 ≤ a ∧ a ≤ 500) ∧ (a ≤ b ∧ b ≤ 500) ∧ -10000 ≤ x ∧ x ≤ 10000) ∧ ¬ (μ 12 i.toNatClampNeg < 10) ∧ X = zIS)) := by
  refine z_ofXi (cc := cX4_calibrate) (nL := 5) (ret := (some .int)) (own := RX4) zfp_X4_calibrate rfl (by simp [Value.category]) (Nat.le_of_ble_eq_true rfl) rfl ?_
  intro p e s m below meth c C hr hlk htab
  have iX4 : ∀ w ∈ wsX40, w ∈ wsX4_calibrate := by decide +kernel
  have f19 := C.1.2.2.2.2 (.fieldLink RX4 19 "TickFall" "links" "LTickFall$Links;") (by decide +kernel)
  show zW p l e (zR 6 90 1 6) s m [Value.ref (zob E 0), Value.int i, Value.int a, Value.int b, Value.int x].toArray below meth c E 5 0 0 (vx_MQ below (zQi E s.heap.size (fun r μ1 ov1 => (0 ≤ i ∧ i < μ 63 5) ∧ ((0 ≤ a ∧ a ≤ 500) ∧ (a ≤ b ∧ b ≤ 500) ∧ -10000 ≤ x ∧ x ≤ 10000) ∧ (μ 12 i.toNatClampNeg < 10) ∧ r = μ 12 i.toNatClampNeg + 1 ∧ μ1 = zu (zitr (fun j μ => zu μ (30 + i.toNatClampNeg) (a.toNatClampNeg + j) (μ (30 + i.toNatClampNeg) (a.toNatClampNeg + j) + x)) (b.toNatClampNeg + 1 - a.toNatClampNeg) μ) 12 i.toNatClampNeg (μ 12 i.toNatClampNeg + 1) ∧ ov1 = ov)) (zXC E s.heap.size μ ov (fun X => (¬ (0 ≤ i ∧ i < μ 63 5) ∧ X = zIO) ∨ ((0 ≤ i ∧ i < μ 63 5) ∧ ¬ ((0 ≤ a ∧ a ≤ 500) ∧ (a ≤ b ∧ b ≤ 500) ∧ -10000 ≤ x ∧ x ≤ 10000) ∧ X = zIA) ∨ ((0 ≤ i ∧ i < μ 63 5) ∧ ((0 ≤ a ∧ a ≤ 500) ∧ (a ≤ b ∧ b ≤ 500) ∧ -10000 ≤ x ∧ x ≤ 10000) ∧ ¬ (μ 12 i.toNatClampNeg < 10) ∧ X = zIS))) [Value.ref (zob E 0), Value.int i, Value.int a, Value.int b, Value.int x].toArray s 1 6 (zA E s.heap.size)) 0 [some (.ref (zob E 0)), some (.int (i)), some (.int (a)), some (.int (b)), some (.int (x))] [] μ ov
  obtain ⟨H1, H2, H3, H4, H5, H6, H7, H8, H9⟩ := id H
  refine z_aloadn (i := 0) (pc := 0) C dX4_calibrate_0 rfl rfl ?_
  refine zg_X4_links (pc := 1) C dX4_calibrate_1 iX4 f19 ?_
  refine z_iloadn (i := 1) (pc := 4) C dX4_calibrate_4 rfl rfl ?_
  refine z_callVi (pc := 5) (n := 1) (As := [.int (i)]) (rest := []) C (c_X2_has l E sa (μ := μ) (ov := ov) i) gX4_calibrate_X2_has rfl zfV_X2_has ⟨Nat.le_of_ble_eq_true rfl, Nat.le_of_ble_eq_true rfl⟩ rfl (zRec_X2 E) rfl (Nat.le_of_ble_eq_true rfl) ⟨Nat.zero_le _, Nat.zero_le _⟩ dX4_calibrate_5 (fun r9 μ9 ov9 hp => ?_)
  have e1 := hp.1.symm
  have e2 := hp.2.1.symm
  have e3 := hp.2.2.symm
  clear hp
  subst e1 e2 e3
  refine z_if_ne (tgt := 21) (pc := 8) C dX4_calibrate_8 (by decide) (fun c_1 => ?_) (fun c_1 => ?_)
  · rw [zb_ne0] at c_1
    refine z_iloadn (i := 2) (pc := 21) C dX4_calibrate_21 rfl rfl ?_
    refine z_iconst (v := 0) (pc := 22) C dX4_calibrate_22 (by decide) ?_
    refine z_sipush (v := 500) (pc := 23) C dX4_calibrate_23 (by decide) ?_
    refine z_callSi (pc := 26) (n := 3) (As := [.int (a), .int (0), .int (500)]) (rest := []) C (c_X4_isWithin l E sa (μ := μ) (ov := ov) (a) (0) (500)) gX4_calibrate_X4_isWithin rfl zfV_X4_isWithin.2 ⟨Nat.le_of_ble_eq_true rfl, Nat.le_of_ble_eq_true rfl⟩ rfl rfl (Nat.le_of_ble_eq_true rfl) ⟨Nat.zero_le _, Nat.zero_le _⟩ dX4_calibrate_26 (fun r9 μ9 ov9 hp => ?_)
    have e1 := hp.1.symm
    have e2 := hp.2.1.symm
    have e3 := hp.2.2.symm
    clear hp
    subst e1 e2 e3
    refine z_if_eq (tgt := 57) (pc := 29) C dX4_calibrate_29 (by decide) (fun c_2 => ?_) (fun c_2 => ?_)
    · rw [zb_eq0] at c_2
      exact z_throw (pc := 57) (X := "java/lang/IllegalArgumentException") (ic := 67) C hfl (by decide +kernel) (ztx_127) (by decide +kernel) (C.1.2.2.2.2 (.classLink RX4 63 "java/lang/IllegalArgumentException") (by decide +kernel)) (C.1.2.2.2.2 (.initialized "java/lang/IllegalArgumentException") (by decide +kernel)) (by decide +kernel) zth_67 ztg_67 dX4_calibrate_57 dX4_calibrate_60 dX4_calibrate_61 dX4_calibrate_63 dX4_calibrate_66 htab (Nat.le_of_ble_eq_true rfl) (Nat.le_of_ble_eq_true rfl) (Nat.le_of_ble_eq_true rfl) (Nat.le_of_ble_eq_true rfl) hlk (Or.inr (Or.inl ⟨c_1, fun h => by first | exact c_2 h.1 | exact c_3 h.2.1 | exact c_4 h.2.2, rfl⟩)) (Nat.le_of_ble_eq_true rfl) (Nat.le_of_ble_eq_true rfl)
    · rw [zb_ne0] at c_2
      refine z_iloadn (i := 3) (pc := 32) C dX4_calibrate_32 rfl rfl ?_
      refine z_iloadn (i := 2) (pc := 33) C dX4_calibrate_33 rfl rfl ?_
      refine z_sipush (v := 500) (pc := 34) C dX4_calibrate_34 (by decide) ?_
      refine z_callSi (pc := 37) (n := 3) (As := [.int (b), .int (a), .int (500)]) (rest := []) C (c_X4_isWithin l E sa (μ := μ) (ov := ov) (b) (a) (500)) gX4_calibrate_X4_isWithin rfl zfV_X4_isWithin.2 ⟨Nat.le_of_ble_eq_true rfl, Nat.le_of_ble_eq_true rfl⟩ rfl rfl (Nat.le_of_ble_eq_true rfl) ⟨Nat.zero_le _, Nat.zero_le _⟩ dX4_calibrate_37 (fun r9 μ9 ov9 hp => ?_)
      have e1 := hp.1.symm
      have e2 := hp.2.1.symm
      have e3 := hp.2.2.symm
      clear hp
      subst e1 e2 e3
      refine z_if_eq (tgt := 57) (pc := 40) C dX4_calibrate_40 (by decide) (fun c_3 => ?_) (fun c_3 => ?_)
      · rw [zb_eq0] at c_3
        exact z_throw (pc := 57) (X := "java/lang/IllegalArgumentException") (ic := 67) C hfl (by decide +kernel) (ztx_127) (by decide +kernel) (C.1.2.2.2.2 (.classLink RX4 63 "java/lang/IllegalArgumentException") (by decide +kernel)) (C.1.2.2.2.2 (.initialized "java/lang/IllegalArgumentException") (by decide +kernel)) (by decide +kernel) zth_67 ztg_67 dX4_calibrate_57 dX4_calibrate_60 dX4_calibrate_61 dX4_calibrate_63 dX4_calibrate_66 htab (Nat.le_of_ble_eq_true rfl) (Nat.le_of_ble_eq_true rfl) (Nat.le_of_ble_eq_true rfl) (Nat.le_of_ble_eq_true rfl) hlk (Or.inr (Or.inl ⟨c_1, fun h => by first | exact c_2 h.1 | exact c_3 h.2.1 | exact c_4 h.2.2, rfl⟩)) (Nat.le_of_ble_eq_true rfl) (Nat.le_of_ble_eq_true rfl)
      · rw [zb_ne0] at c_3
        refine z_iload (i := 4) (pc := 43) C dX4_calibrate_43 rfl ?_
        refine z_sipush (v := -10000) (pc := 45) C dX4_calibrate_45 (by decide) ?_
        refine z_sipush (v := 10000) (pc := 48) C dX4_calibrate_48 (by decide) ?_
        refine z_callSi (pc := 51) (n := 3) (As := [.int (x), .int (-10000), .int (10000)]) (rest := []) C (c_X4_isWithin l E sa (μ := μ) (ov := ov) (x) (-10000) (10000)) gX4_calibrate_X4_isWithin rfl zfV_X4_isWithin.2 ⟨Nat.le_of_ble_eq_true rfl, Nat.le_of_ble_eq_true rfl⟩ rfl rfl (Nat.le_of_ble_eq_true rfl) ⟨Nat.zero_le _, Nat.zero_le _⟩ dX4_calibrate_51 (fun r9 μ9 ov9 hp => ?_)
        have e1 := hp.1.symm
        have e2 := hp.2.1.symm
        have e3 := hp.2.2.symm
        clear hp
        subst e1 e2 e3
        refine z_if_ne (tgt := 67) (pc := 54) C dX4_calibrate_54 (by decide) (fun c_4 => ?_) (fun c_4 => ?_)
        · rw [zb_ne0] at c_4
          obtain ⟨k, hk, hi⟩ := znat (n := n) c_1.1 (by rw [← H6]; exact c_1.2) (by omega)
          have hik : i.toNatClampNeg = k := by rw [hi, nI_clamp (by omega)]
          obtain ⟨f, hf, ha⟩ := nI_of2 (x := a) (M := 500) (n := 500) rfl (fun h => by have := c_2.1; rw [zlt] at h; rw [zle2] at this; omega) c_2.2
          obtain ⟨g, hg, hb⟩ := nI_of2 (x := b) (M := 500) (n := 500) rfl (fun h => by have h1 := c_2.1; have h2 := c_3.1; rw [zlt] at h; rw [zle2] at h1 h2; omega) c_3.2
          have hfg : f ≤ g := by have h2 := c_3.1; rw [ha, hb, nI_leI (by omega) (by omega)] at h2; exact h2
          have haf : a.toNatClampNeg = f := by rw [ha, nI_clamp (by omega)]
          have hbg : b.toNatClampNeg = g := by rw [hb, nI_clamp (by omega)]
          refine z_aloadn (i := 0) (pc := 67) C dX4_calibrate_67 rfl rfl ?_
          refine zg_X4_links (pc := 68) C dX4_calibrate_68 iX4 f19 ?_
          refine z_iloadn (i := 1) (pc := 71) C dX4_calibrate_71 rfl rfl ?_
          refine z_callVi (pc := 72) (n := 1) (As := [.int (i)]) (rest := []) C (c_X2_calibrationsOf l E sa (μ := μ) (ov := ov) k hi (by omega)) gX4_calibrate_X2_calibrationsOf rfl zfV_X2_calibrationsOf ⟨Nat.le_of_ble_eq_true rfl, Nat.le_of_ble_eq_true rfl⟩ rfl (zRec_X2 E) rfl (Nat.le_of_ble_eq_true rfl) ⟨Nat.zero_le _, Nat.zero_le _⟩ dX4_calibrate_72 (fun r9 μ9 ov9 hp => ?_)
          have e1 := hp.1.symm
          have e2 := hp.2.1.symm
          have e3 := hp.2.2.symm
          clear hp
          subst e1 e2 e3
          refine z_bipush (v := 10) (pc := 75) C dX4_calibrate_75 (by decide) ?_
          refine z_icmp_lt (tgt := 90) (pc := 77) C dX4_calibrate_77 (by decide) (fun c_5 => ?_) (fun c_5 => ?_)
          · refine z_aloadn (i := 0) (pc := 90) C dX4_calibrate_90 rfl rfl ?_
            refine zg_X4_links (pc := 91) C dX4_calibrate_91 iX4 f19 ?_
            refine z_iloadn (i := 1) (pc := 94) C dX4_calibrate_94 rfl rfl ?_
            refine z_iloadn (i := 2) (pc := 95) C dX4_calibrate_95 rfl rfl ?_
            refine z_iloadn (i := 3) (pc := 96) C dX4_calibrate_96 rfl rfl ?_
            refine z_iload (i := 4) (pc := 97) C dX4_calibrate_97 rfl ?_
            refine z_callVi (pc := 99) (n := 4) (As := [.int (i), .int (a), .int (b), .int (x)]) (rest := []) C (c_X2_addCalibration l E sa (μ := μ) (ov := ov) (x := x) k hi (by omega) f g ha hb hfg (by omega)) gX4_calibrate_X2_addCalibration rfl zfV_X2_addCalibration ⟨Nat.le_of_ble_eq_true rfl, Nat.le_of_ble_eq_true rfl⟩ rfl (zRec_X2 E) rfl (Nat.le_of_ble_eq_true rfl) ⟨Nat.zero_le _, Nat.zero_le _⟩ dX4_calibrate_99 (fun r9 μ9 ov9 hp => ?_)
            have e1 := hp.1.symm
            have e2 := hp.2.1.symm
            have e3 := hp.2.2.symm
            clear hp
            subst e1 e2 e3
            exact z_retX (z_iret (pc := 102) C hr hlk ⟨c_1, ⟨c_2, c_3, c_4⟩, by rw [hik]; exact c_5, by rw [hik], by rw [hik, haf, hbg], rfl⟩ (Nat.zero_le _) (Nat.zero_le _) dX4_calibrate_102)
          · exact z_throw (pc := 80) (X := "java/lang/IllegalStateException") (ic := 78) C hfl (by decide +kernel) (ztx_132) (by decide +kernel) (C.1.2.2.2.2 (.classLink RX4 74 "java/lang/IllegalStateException") (by decide +kernel)) (C.1.2.2.2.2 (.initialized "java/lang/IllegalStateException") (by decide +kernel)) (by decide +kernel) zth_78 ztg_78 dX4_calibrate_80 dX4_calibrate_83 dX4_calibrate_84 dX4_calibrate_86 dX4_calibrate_89 htab (Nat.le_of_ble_eq_true rfl) (Nat.le_of_ble_eq_true rfl) (Nat.le_of_ble_eq_true rfl) (Nat.le_of_ble_eq_true rfl) hlk (Or.inr (Or.inr ⟨c_1, ⟨c_2, c_3, c_4⟩, by rw [hik]; exact c_5, rfl⟩)) (Nat.le_of_ble_eq_true rfl) (Nat.le_of_ble_eq_true rfl)
        · rw [zb_eq0] at c_4
          exact z_throw (pc := 57) (X := "java/lang/IllegalArgumentException") (ic := 67) C hfl (by decide +kernel) (ztx_127) (by decide +kernel) (C.1.2.2.2.2 (.classLink RX4 63 "java/lang/IllegalArgumentException") (by decide +kernel)) (C.1.2.2.2.2 (.initialized "java/lang/IllegalArgumentException") (by decide +kernel)) (by decide +kernel) zth_67 ztg_67 dX4_calibrate_57 dX4_calibrate_60 dX4_calibrate_61 dX4_calibrate_63 dX4_calibrate_66 htab (Nat.le_of_ble_eq_true rfl) (Nat.le_of_ble_eq_true rfl) (Nat.le_of_ble_eq_true rfl) (Nat.le_of_ble_eq_true rfl) hlk (Or.inr (Or.inl ⟨c_1, fun h => by first | exact c_2 h.1 | exact c_3 h.2.1 | exact c_4 h.2.2, rfl⟩)) (Nat.le_of_ble_eq_true rfl) (Nat.le_of_ble_eq_true rfl)
  · rw [zb_eq0] at c_1
    exact z_throw (pc := 11) (X := "java/lang/IndexOutOfBoundsException") (ic := 91) C hfl (by decide +kernel) (ztx_125) (by decide +kernel) (C.1.2.2.2.2 (.classLink RX4 87 "java/lang/IndexOutOfBoundsException") (by decide +kernel)) (C.1.2.2.2.2 (.initialized "java/lang/IndexOutOfBoundsException") (by decide +kernel)) (by decide +kernel) zth_91 ztg_91 dX4_calibrate_11 dX4_calibrate_14 dX4_calibrate_15 dX4_calibrate_17 dX4_calibrate_20 htab (Nat.le_of_ble_eq_true rfl) (Nat.le_of_ble_eq_true rfl) (Nat.le_of_ble_eq_true rfl) (Nat.le_of_ble_eq_true rfl) hlk (Or.inl ⟨c_1, rfl⟩) (Nat.le_of_ble_eq_true rfl) (Nat.le_of_ble_eq_true rfl)
