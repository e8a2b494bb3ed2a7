theorem zno_le {a b : Int32} (c : b ≤ a) (h : a < b) : False := by rw [zlt] at h; rw [zle2] at c; omega
theorem zno_lt {a b : Int32} (c : b < a) (h : a ≤ b) : False := by rw [zle2] at h; rw [zlt] at c; omega
set_option maxHeartbeats 4000000 in
set_option maxRecDepth 100000 in
theorem c_X5_clock (l : Launch) (E : zE) (sa : Nat → Nat) {μ : zM} {ov : Nat → Int64} {a b : Int32} (nc : Nat) (hc : μ 63 12 = nI nc) (hn : nc ≤ 6) : zMi l E sa yX5_clock wsX5_clock 1 23 0 0 [.ref (zob E 7), .int a, .int b] μ ov (fun r μ1 ov1 => ((((-500 ≤ a ∧ a ≤ 500) ∧ 0 ≤ b ∧ b ≤ 5000) ∧ (μ 63 12 < 6) ∧ (True)) ∧ r = nI nc ∧ μ1 = zu (zu (zu (zu (zu μ 63 19 0) 38 nc a) 40 nc b) 42 nc 1) 63 12 (nI (nc + 1)) ∧ ov1 = ov) ∨ (¬ (((-500 ≤ a ∧ a ≤ 500) ∧ 0 ≤ b ∧ b ≤ 5000) ∧ (μ 63 12 < 6) ∧ (True)) ∧ r = 0 ∧ μ1 = zu μ 63 19 (zgo ((-500 ≤ a ∧ a ≤ 500) ∧ 0 ≤ b ∧ b ≤ 5000) (μ 63 12 < 6) (True)) ∧ ov1 = ov)) := by
  refine z_ofMi (cc := cX5_clock) (nL := 3) (ret := (some .int)) (own := RX5) zfp_X5_clock rfl (by simp [Value.category]) (Nat.le_of_ble_eq_true rfl) rfl ?_
  intro p e s m below meth c C hr hlk
  have iX5 : ∀ w ∈ wsX50, w ∈ wsX5_clock := by decide +kernel
  have f7 := C.1.2.2.2.2 (.fieldLink RX5 7 "TickFallModel" "rate" "[I") (by decide +kernel)
  have f16 := C.1.2.2.2.2 (.fieldLink RX5 16 "TickFallModel" "height" "[I") (by decide +kernel)
  have f22 := C.1.2.2.2.2 (.fieldLink RX5 22 "TickFallModel" "weight" "[I") (by decide +kernel)
  have f96 := C.1.2.2.2.2 (.fieldLink RX5 96 "TickFallModel" "clocks" "I") (by decide +kernel)
  show zW p l e (zR 1 23 0 0) s m [Value.ref (zob E 7), Value.int a, Value.int b].toArray below meth c E 3 0 0 (MQ below (zQi E s.heap.size (fun r μ1 ov1 => ((((-500 ≤ a ∧ a ≤ 500) ∧ 0 ≤ b ∧ b ≤ 5000) ∧ (μ 63 12 < 6) ∧ (True)) ∧ r = nI nc ∧ μ1 = zu (zu (zu (zu (zu μ 63 19 0) 38 nc a) 40 nc b) 42 nc 1) 63 12 (nI (nc + 1)) ∧ ov1 = ov) ∨ (¬ (((-500 ≤ a ∧ a ≤ 500) ∧ 0 ≤ b ∧ b ≤ 5000) ∧ (μ 63 12 < 6) ∧ (True)) ∧ r = 0 ∧ μ1 = zu μ 63 19 (zgo ((-500 ≤ a ∧ a ≤ 500) ∧ 0 ≤ b ∧ b ≤ 5000) (μ 63 12 < 6) (True)) ∧ ov1 = ov))) [Value.ref (zob E 7), Value.int a, Value.int b].toArray s 0 0 (zA E s.heap.size)) 0 [some (.ref (zob E 7)), some (.int (a)), some (.int (b))] [] μ ov
  refine z_aloadn (i := 0) (pc := 0) C dX5_clock_0 rfl rfl ?_
  have J1 : ∀ v : Int32, v = zb ((-500 ≤ a ∧ a ≤ 500) ∧ 0 ≤ b ∧ b ≤ 5000) → zW p l e (zR 1 23 0 0) s m [Value.ref (zob E 7), Value.int a, Value.int b].toArray below meth c E 3 0 0 (MQ below (zQi E s.heap.size (fun r μ1 ov1 => ((((-500 ≤ a ∧ a ≤ 500) ∧ 0 ≤ b ∧ b ≤ 5000) ∧ (μ 63 12 < 6) ∧ (True)) ∧ r = nI nc ∧ μ1 = zu (zu (zu (zu (zu μ 63 19 0) 38 nc a) 40 nc b) 42 nc 1) 63 12 (nI (nc + 1)) ∧ ov1 = ov) ∨ (¬ (((-500 ≤ a ∧ a ≤ 500) ∧ 0 ≤ b ∧ b ≤ 5000) ∧ (μ 63 12 < 6) ∧ (True)) ∧ r = 0 ∧ μ1 = zu μ 63 19 (zgo ((-500 ≤ a ∧ a ≤ 500) ∧ 0 ≤ b ∧ b ≤ 5000) (μ 63 12 < 6) (True)) ∧ ov1 = ov))) [Value.ref (zob E 7), Value.int a, Value.int b].toArray s 0 0 (zA E s.heap.size)) 30 [some (.ref (zob E 7)), some (.int (a)), some (.int (b))] [.int (v), .ref (zob E 7)] μ ov := by
    intro v hv
    subst hv
    have J2 : ∀ v : Int32, v = zb (μ 63 12 < 6) → zW p l e (zR 1 23 0 0) s m [Value.ref (zob E 7), Value.int a, Value.int b].toArray below meth c E 3 0 0 (MQ below (zQi E s.heap.size (fun r μ1 ov1 => ((((-500 ≤ a ∧ a ≤ 500) ∧ 0 ≤ b ∧ b ≤ 5000) ∧ (μ 63 12 < 6) ∧ (True)) ∧ r = nI nc ∧ μ1 = zu (zu (zu (zu (zu μ 63 19 0) 38 nc a) 40 nc b) 42 nc 1) 63 12 (nI (nc + 1)) ∧ ov1 = ov) ∨ (¬ (((-500 ≤ a ∧ a ≤ 500) ∧ 0 ≤ b ∧ b ≤ 5000) ∧ (μ 63 12 < 6) ∧ (True)) ∧ r = 0 ∧ μ1 = zu μ 63 19 (zgo ((-500 ≤ a ∧ a ≤ 500) ∧ 0 ≤ b ∧ b ≤ 5000) (μ 63 12 < 6) (True)) ∧ ov1 = ov))) [Value.ref (zob E 7), Value.int a, Value.int b].toArray s 0 0 (zA E s.heap.size)) 44 [some (.ref (zob E 7)), some (.int (a)), some (.int (b))] [.int (v), .int (zb ((-500 ≤ a ∧ a ≤ 500) ∧ 0 ≤ b ∧ b ≤ 5000)), .ref (zob E 7)] μ ov := by
      intro v hv
      subst hv
      refine z_iconst (v := 1) (pc := 44) C dX5_clock_44 (by decide) ?_
      refine z_callVi (pc := 45) (n := 3) (As := [.int (zb ((-500 ≤ a ∧ a ≤ 500) ∧ 0 ≤ b ∧ b ≤ 5000)), .int (zb (μ 63 12 < 6)), .int (1)]) (rest := []) C (c_X5_goes l E sa (μ := μ) (ov := ov) ((-500 ≤ a ∧ a ≤ 500) ∧ 0 ≤ b ∧ b ≤ 5000) (μ 63 12 < 6) (True) rfl rfl (zb_t trivial).symm) gX5_clock_X5_goes rfl zfV_X5_goes ⟨Nat.le_of_ble_eq_true rfl, Nat.le_of_ble_eq_true rfl⟩ rfl (zRec_X5 E) rfl (Nat.le_of_ble_eq_true rfl) ⟨Nat.zero_le _, Nat.zero_le _⟩ dX5_clock_45 (fun r9 μ9 ov9 hp => ?_)
      have e1 := hp.1.symm
      have e2 := hp.2.1.symm
      have e3 := hp.2.2.symm
      clear hp
      subst e1 e2 e3
      refine z_if_ne (tgt := 53) (pc := 48) C dX5_clock_48 (by decide) (fun c_g => ?_) (fun c_g => ?_)
      · rw [zb_ne0] at c_g
        obtain ⟨ν, hν⟩ : ∃ ν, ν = zu μ 63 19 0 := ⟨_, rfl⟩
        have hk : ∀ b, b ≠ 63 → ν b = μ b := fun b h => by rw [hν]; exact zu_n _ _ _ h
        have h63 : ∀ j, j ≠ 19 → ν 63 j = μ 63 j := fun j h => by rw [hν, zu_s, upd_n _ _ h]
        refine z_mem (μ' := ν) (by rw [hν, zgo_t c_g]) ?_
        have h3 : nc < 6 := by have h := c_g.2.1; rw [hc, show (6 : Int32) = nI 6 from rfl, nI_ltI (by omega) (by omega)] at h; exact h
        have e12 : ν 63 12 = nI nc := (h63 12 (by decide)).trans hc
        refine z_aloadn (i := 0) (pc := 53) C dX5_clock_53 rfl rfl ?_
        refine zg_X5_rate (pc := 54) C dX5_clock_54 iX5 f7 ?_
        refine z_aloadn (i := 0) (pc := 57) C dX5_clock_57 rfl rfl ?_
        refine zg_X5_clocks (pc := 58) C dX5_clock_58 iX5 f96 ?_
        refine z_iloadn (i := 1) (pc := 61) C dX5_clock_61 rfl rfl ?_
        refine z_iast (pc := 62) C 38 nc (by decide) rfl e12 (show nc < 6 from h3) dX5_clock_62 ?_
        refine z_aloadn (i := 0) (pc := 63) C dX5_clock_63 rfl rfl ?_
        refine zg_X5_height (pc := 64) C dX5_clock_64 iX5 f16 ?_
        refine z_aloadn (i := 0) (pc := 67) C dX5_clock_67 rfl rfl ?_
        refine zg_X5_clocks (pc := 68) C dX5_clock_68 iX5 f96 ?_
        refine z_iloadn (i := 2) (pc := 71) C dX5_clock_71 rfl rfl ?_
        refine z_iast (pc := 72) C 40 nc (by decide) rfl ((by rw [zu_n _ _ _ (by decide)]; exact e12) : (zu ν 38 nc (a)) 63 12 = nI nc) (show nc < 6 from h3) dX5_clock_72 ?_
        refine z_aloadn (i := 0) (pc := 73) C dX5_clock_73 rfl rfl ?_
        refine zg_X5_weight (pc := 74) C dX5_clock_74 iX5 f22 ?_
        refine z_aloadn (i := 0) (pc := 77) C dX5_clock_77 rfl rfl ?_
        refine zg_X5_clocks (pc := 78) C dX5_clock_78 iX5 f96 ?_
        refine z_iconst (v := 1) (pc := 81) C dX5_clock_81 (by decide) ?_
        refine z_iast (pc := 82) C 42 nc (by decide) rfl ((by rw [zu_n _ _ _ (by decide), zu_n _ _ _ (by decide)]; exact e12) : (zu (zu ν 38 nc (a)) 40 nc (b)) 63 12 = nI nc) (show nc < 6 from h3) dX5_clock_82 ?_
        refine z_aloadn (i := 0) (pc := 83) C dX5_clock_83 rfl rfl ?_
        refine z_dup (pc := 84) C dX5_clock_84 rfl ?_
        refine zg_X5_clocks (pc := 85) C dX5_clock_85 iX5 f96 ?_
        refine z_iconst (v := 1) (pc := 88) C dX5_clock_88 (by decide) ?_
        refine z_iadd (pc := 89) C dX5_clock_89 ?_
        refine z_topi (y := nI (nc + 1)) (by rw [zu_n _ _ _ (by decide), zu_n _ _ _ (by decide), zu_n _ _ _ (by decide), e12, nI_1]) ?_
        refine zp_X5_clocks (pc := 90) C dX5_clock_90 iX5 f96 ?_
        refine z_aloadn (i := 0) (pc := 93) C dX5_clock_93 rfl rfl ?_
        refine zg_X5_clocks (pc := 94) C dX5_clock_94 iX5 f96 ?_
        refine z_iconst (v := 1) (pc := 97) C dX5_clock_97 (by decide) ?_
        refine z_isub (pc := 98) C dX5_clock_98 ?_
        exact z_iret (pc := 99) C hr hlk (Or.inl ⟨c_g, by rw [zu_s, upd_s, ← nI_1]; exact Int32.add_sub_cancel _ _, by subst hν; rfl, rfl⟩) (Nat.zero_le _) (Nat.zero_le _) dX5_clock_99
      · rw [zb_eq0] at c_g
        refine z_iconst (v := 0) (pc := 51) C dX5_clock_51 (by decide) ?_
        exact z_iret (pc := 52) C hr hlk (Or.inr ⟨c_g, rfl, rfl, rfl⟩) (Nat.zero_le _) (Nat.zero_le _) dX5_clock_52
    refine z_aloadn (i := 0) (pc := 30) C dX5_clock_30 rfl rfl ?_
    refine zg_X5_clocks (pc := 31) C dX5_clock_31 iX5 f96 ?_
    refine z_bipush (v := 6) (pc := 34) C dX5_clock_34 (by decide) ?_
    refine z_icmp_ge (tgt := 43) (pc := 36) C dX5_clock_36 (by decide) (fun c_3 => ?_) (fun c_3 => ?_)
    · refine z_iconst (v := 0) (pc := 43) C dX5_clock_43 (by decide) ?_
      exact J2 _ (zb_f (fun h => zno_le c_3 (h))).symm
    · refine z_iconst (v := 1) (pc := 39) C dX5_clock_39 (by decide) ?_
      refine z_goto (tgt := 44) (pc := 40) C dX5_clock_40 (by decide) ?_
      exact J2 _ (zb_t (znot_le c_3)).symm
  refine z_iloadn (i := 1) (pc := 1) C dX5_clock_1 rfl rfl ?_
  refine z_sipush (v := -500) (pc := 2) C dX5_clock_2 (by decide) ?_
  refine z_sipush (v := 500) (pc := 5) C dX5_clock_5 (by decide) ?_
  refine z_callSi (pc := 8) (n := 3) (As := [.int (a), .int (-500), .int (500)]) (rest := [.ref (zob E 7)]) C (c_X5_in l E sa (μ := μ) (ov := ov) (a) (-500) (500)) gX5_clock_X5_in rfl zfV_X5_in.2 ⟨Nat.le_of_ble_eq_true rfl, Nat.le_of_ble_eq_true rfl⟩ rfl rfl (Nat.le_of_ble_eq_true rfl) ⟨Nat.zero_le _, Nat.zero_le _⟩ dX5_clock_8 (fun r9 μ9 ov9 hp => ?_)
  have e1 := hp.1.symm
  have e2 := hp.2.1.symm
  have e3 := hp.2.2.symm
  clear hp
  subst e1 e2 e3
  refine z_if_eq (tgt := 29) (pc := 11) C dX5_clock_11 (by decide) (fun c_1 => ?_) (fun c_1 => ?_)
  · rw [zb_eq0] at c_1
    refine z_iconst (v := 0) (pc := 29) C dX5_clock_29 (by decide) ?_
    exact J1 _ (zb_f (fun h => c_1 (h.1))).symm
  · rw [zb_ne0] at c_1
    refine z_iloadn (i := 2) (pc := 14) C dX5_clock_14 rfl rfl ?_
    refine z_iconst (v := 0) (pc := 15) C dX5_clock_15 (by decide) ?_
    refine z_sipush (v := 5000) (pc := 16) C dX5_clock_16 (by decide) ?_
    refine z_callSi (pc := 19) (n := 3) (As := [.int (b), .int (0), .int (5000)]) (rest := [.ref (zob E 7)]) C (c_X5_in l E sa (μ := μ) (ov := ov) (b) (0) (5000)) gX5_clock_X5_in rfl zfV_X5_in.2 ⟨Nat.le_of_ble_eq_true rfl, Nat.le_of_ble_eq_true rfl⟩ rfl rfl (Nat.le_of_ble_eq_true rfl) ⟨Nat.zero_le _, Nat.zero_le _⟩ dX5_clock_19 (fun r9 μ9 ov9 hp => ?_)
    have e1 := hp.1.symm
    have e2 := hp.2.1.symm
    have e3 := hp.2.2.symm
    clear hp
    subst e1 e2 e3
    refine z_if_eq (tgt := 29) (pc := 22) C dX5_clock_22 (by decide) (fun c_2 => ?_) (fun c_2 => ?_)
    · rw [zb_eq0] at c_2
      refine z_iconst (v := 0) (pc := 29) C dX5_clock_29 (by decide) ?_
      exact J1 _ (zb_f (fun h => c_2 (h.2))).symm
    · rw [zb_ne0] at c_2
      refine z_iconst (v := 1) (pc := 25) C dX5_clock_25 (by decide) ?_
      refine z_goto (tgt := 30) (pc := 26) C dX5_clock_26 (by decide) ?_
      exact J1 _ (zb_t ⟨c_1, c_2⟩).symm
set_option maxHeartbeats 4000000 in
set_option maxRecDepth 100000 in
theorem c_X5_tell (l : Launch) (E : zE) (sa : Nat → Nat) {μ : zM} {ov : Nat → Int64} {i d w : Int32} (nc : Nat) (hc : μ 63 12 = nI nc) (hn : nc ≤ 6) : zMi l E sa yX5_tell wsX5_tell 2 43 0 0 [.ref (zob E 7), .int i, .int d, .int w] μ ov (fun r μ1 ov1 => (((0 ≤ i ∧ i < μ 63 12) ∧ ((-20 ≤ d ∧ d ≤ 20) ∧ 0 ≤ w ∧ w ≤ 100) ∧ (True)) ∧ r = μ 42 i.toNatClampNeg ∧ μ1 = zu (zu (zu μ 63 19 0) 39 i.toNatClampNeg d) 42 i.toNatClampNeg w ∧ ov1 = ov) ∨ (¬ ((0 ≤ i ∧ i < μ 63 12) ∧ ((-20 ≤ d ∧ d ≤ 20) ∧ 0 ≤ w ∧ w ≤ 100) ∧ (True)) ∧ r = 0 ∧ μ1 = zu μ 63 19 (zgo (0 ≤ i ∧ i < μ 63 12) ((-20 ≤ d ∧ d ≤ 20) ∧ 0 ≤ w ∧ w ≤ 100) (True)) ∧ ov1 = ov)) := by
  refine z_ofMi (cc := cX5_tell) (nL := 5) (ret := (some .int)) (own := RX5) zfp_X5_tell rfl (by simp [Value.category]) (Nat.le_of_ble_eq_true rfl) rfl ?_
  intro p e s m below meth c C hr hlk
  have iX5 : ∀ w ∈ wsX50, w ∈ wsX5_tell := by decide +kernel
  have f13 := C.1.2.2.2.2 (.fieldLink RX5 13 "TickFallModel" "drift" "[I") (by decide +kernel)
  have f22 := C.1.2.2.2.2 (.fieldLink RX5 22 "TickFallModel" "weight" "[I") (by decide +kernel)
  show zW p l e (zR 2 43 0 0) s m [Value.ref (zob E 7), Value.int i, Value.int d, Value.int w].toArray below meth c E 5 0 0 (MQ below (zQi E s.heap.size (fun r μ1 ov1 => (((0 ≤ i ∧ i < μ 63 12) ∧ ((-20 ≤ d ∧ d ≤ 20) ∧ 0 ≤ w ∧ w ≤ 100) ∧ (True)) ∧ r = μ 42 i.toNatClampNeg ∧ μ1 = zu (zu (zu μ 63 19 0) 39 i.toNatClampNeg d) 42 i.toNatClampNeg w ∧ ov1 = ov) ∨ (¬ ((0 ≤ i ∧ i < μ 63 12) ∧ ((-20 ≤ d ∧ d ≤ 20) ∧ 0 ≤ w ∧ w ≤ 100) ∧ (True)) ∧ r = 0 ∧ μ1 = zu μ 63 19 (zgo (0 ≤ i ∧ i < μ 63 12) ((-20 ≤ d ∧ d ≤ 20) ∧ 0 ≤ w ∧ w ≤ 100) (True)) ∧ ov1 = ov))) [Value.ref (zob E 7), Value.int i, Value.int d, Value.int w].toArray s 0 0 (zA E s.heap.size)) 0 [some (.ref (zob E 7)), some (.int (i)), some (.int (d)), some (.int (w)), none] [] μ ov
  refine z_aloadn (i := 0) (pc := 0) C dX5_tell_0 rfl rfl ?_
  refine z_aloadn (i := 0) (pc := 1) C dX5_tell_1 rfl rfl ?_
  refine z_iloadn (i := 1) (pc := 2) C dX5_tell_2 rfl rfl ?_
  refine z_callVi (pc := 3) (n := 1) (As := [.int (i)]) (rest := [.ref (zob E 7)]) C (c_X5_isClock l E sa (μ := μ) (ov := ov) i nc hc hn) gX5_tell_X5_isClock rfl zfV_X5_isClock ⟨Nat.le_of_ble_eq_true rfl, Nat.le_of_ble_eq_true rfl⟩ rfl (zRec_X5 E) rfl (Nat.le_of_ble_eq_true rfl) ⟨Nat.zero_le _, Nat.zero_le _⟩ dX5_tell_3 (fun r9 μ9 ov9 hp => ?_)
  have e1 := hp.1.symm
  have e2 := hp.2.1.symm
  have e3 := hp.2.2.symm
  clear hp
  subst e1 e2 e3
  have J1 : ∀ v : Int32, v = zb ((-20 ≤ d ∧ d ≤ 20) ∧ 0 ≤ w ∧ w ≤ 100) → zW p l e (zR 2 43 0 0) s m [Value.ref (zob E 7), Value.int i, Value.int d, Value.int w].toArray below meth c E 5 0 0 (MQ below (zQi E s.heap.size (fun r μ1 ov1 => (((0 ≤ i ∧ i < μ 63 12) ∧ ((-20 ≤ d ∧ d ≤ 20) ∧ 0 ≤ w ∧ w ≤ 100) ∧ (True)) ∧ r = μ 42 i.toNatClampNeg ∧ μ1 = zu (zu (zu μ 63 19 0) 39 i.toNatClampNeg d) 42 i.toNatClampNeg w ∧ ov1 = ov) ∨ (¬ ((0 ≤ i ∧ i < μ 63 12) ∧ ((-20 ≤ d ∧ d ≤ 20) ∧ 0 ≤ w ∧ w ≤ 100) ∧ (True)) ∧ r = 0 ∧ μ1 = zu μ 63 19 (zgo (0 ≤ i ∧ i < μ 63 12) ((-20 ≤ d ∧ d ≤ 20) ∧ 0 ≤ w ∧ w ≤ 100) (True)) ∧ ov1 = ov))) [Value.ref (zob E 7), Value.int i, Value.int d, Value.int w].toArray s 0 0 (zA E s.heap.size)) 32 [some (.ref (zob E 7)), some (.int (i)), some (.int (d)), some (.int (w)), none] [.int (v), .int (zb (0 ≤ i ∧ i < μ 63 12)), .ref (zob E 7)] μ ov := by
    intro v hv
    subst hv
    refine z_iconst (v := 1) (pc := 32) C dX5_tell_32 (by decide) ?_
    refine z_callVi (pc := 33) (n := 3) (As := [.int (zb (0 ≤ i ∧ i < μ 63 12)), .int (zb ((-20 ≤ d ∧ d ≤ 20) ∧ 0 ≤ w ∧ w ≤ 100)), .int (1)]) (rest := []) C (c_X5_goes l E sa (μ := μ) (ov := ov) (0 ≤ i ∧ i < μ 63 12) ((-20 ≤ d ∧ d ≤ 20) ∧ 0 ≤ w ∧ w ≤ 100) (True) rfl rfl (zb_t trivial).symm) gX5_tell_X5_goes rfl zfV_X5_goes ⟨Nat.le_of_ble_eq_true rfl, Nat.le_of_ble_eq_true rfl⟩ rfl (zRec_X5 E) rfl (Nat.le_of_ble_eq_true rfl) ⟨Nat.zero_le _, Nat.zero_le _⟩ dX5_tell_33 (fun r9 μ9 ov9 hp => ?_)
    have e1 := hp.1.symm
    have e2 := hp.2.1.symm
    have e3 := hp.2.2.symm
    clear hp
    subst e1 e2 e3
    refine z_if_ne (tgt := 41) (pc := 36) C dX5_tell_36 (by decide) (fun c_g => ?_) (fun c_g => ?_)
    · rw [zb_ne0] at c_g
      obtain ⟨ν, hν⟩ : ∃ ν, ν = zu μ 63 19 0 := ⟨_, rfl⟩
      have hk : ∀ b, b ≠ 63 → ν b = μ b := fun b h => by rw [hν]; exact zu_n _ _ _ h
      have h63 : ∀ j, j ≠ 19 → ν 63 j = μ 63 j := fun j h => by rw [hν, zu_s, upd_n _ _ h]
      refine z_mem (μ' := ν) (by rw [hν, zgo_t c_g]) ?_
      obtain ⟨k, hkk, hik⟩ := znat (n := nc) c_g.1.1 (by rw [← hc]; exact c_g.1.2) (by omega)
      have eik : i.toNatClampNeg = k := by rw [hik, nI_clamp (by omega)]
      refine z_aloadn (i := 0) (pc := 41) C dX5_tell_41 rfl rfl ?_
      refine zg_X5_weight (pc := 42) C dX5_tell_42 iX5 f22 ?_
      refine z_iloadn (i := 1) (pc := 45) C dX5_tell_45 rfl rfl ?_
      refine z_iald (pc := 46) C 42 k (by decide) rfl hik (show k < 6 by omega) dX5_tell_46 ?_
      refine z_istore4 (pc := 47) C (by decide) (fun w hw => by cases hw; exact (show ¬ (1 = 2) from by decide)) dX5_tell_47 ?_
      refine z_aloadn (i := 0) (pc := 49) C dX5_tell_49 rfl rfl ?_
      refine zg_X5_drift (pc := 50) C dX5_tell_50 iX5 f13 ?_
      refine z_iloadn (i := 1) (pc := 53) C dX5_tell_53 rfl rfl ?_
      refine z_iloadn (i := 2) (pc := 54) C dX5_tell_54 rfl rfl ?_
      refine z_iast (pc := 55) C 39 k (by decide) rfl hik (show k < 6 by omega) dX5_tell_55 ?_
      refine z_aloadn (i := 0) (pc := 56) C dX5_tell_56 rfl rfl ?_
      refine zg_X5_weight (pc := 57) C dX5_tell_57 iX5 f22 ?_
      refine z_iloadn (i := 1) (pc := 60) C dX5_tell_60 rfl rfl ?_
      refine z_iloadn (i := 3) (pc := 61) C dX5_tell_61 rfl rfl ?_
      refine z_iast (pc := 62) C 42 k (by decide) rfl hik (show k < 6 by omega) dX5_tell_62 ?_
      refine z_iload (i := 4) (pc := 63) C dX5_tell_63 rfl ?_
      exact z_iret (pc := 65) C hr hlk (Or.inl ⟨c_g, by rw [eik, hk 42 (by decide)], by rw [eik]; subst hν; rfl, rfl⟩) (Nat.zero_le _) (Nat.zero_le _) dX5_tell_65
    · rw [zb_eq0] at c_g
      refine z_iconst (v := 0) (pc := 39) C dX5_tell_39 (by decide) ?_
      exact z_iret (pc := 40) C hr hlk (Or.inr ⟨c_g, rfl, rfl, rfl⟩) (Nat.zero_le _) (Nat.zero_le _) dX5_tell_40
  refine z_iloadn (i := 2) (pc := 6) C dX5_tell_6 rfl rfl ?_
  refine z_bipush (v := -20) (pc := 7) C dX5_tell_7 (by decide) ?_
  refine z_bipush (v := 20) (pc := 9) C dX5_tell_9 (by decide) ?_
  refine z_callSi (pc := 11) (n := 3) (As := [.int (d), .int (-20), .int (20)]) (rest := [.int (zb (0 ≤ i ∧ i < μ 63 12)), .ref (zob E 7)]) C (c_X5_in l E sa (μ := μ) (ov := ov) (d) (-20) (20)) gX5_tell_X5_in rfl zfV_X5_in.2 ⟨Nat.le_of_ble_eq_true rfl, Nat.le_of_ble_eq_true rfl⟩ rfl rfl (Nat.le_of_ble_eq_true rfl) ⟨Nat.zero_le _, Nat.zero_le _⟩ dX5_tell_11 (fun r9 μ9 ov9 hp => ?_)
  have e1 := hp.1.symm
  have e2 := hp.2.1.symm
  have e3 := hp.2.2.symm
  clear hp
  subst e1 e2 e3
  refine z_if_eq (tgt := 31) (pc := 14) C dX5_tell_14 (by decide) (fun c_1 => ?_) (fun c_1 => ?_)
  · rw [zb_eq0] at c_1
    refine z_iconst (v := 0) (pc := 31) C dX5_tell_31 (by decide) ?_
    exact J1 _ (zb_f (fun h => c_1 (h.1))).symm
  · rw [zb_ne0] at c_1
    refine z_iloadn (i := 3) (pc := 17) C dX5_tell_17 rfl rfl ?_
    refine z_iconst (v := 0) (pc := 18) C dX5_tell_18 (by decide) ?_
    refine z_bipush (v := 100) (pc := 19) C dX5_tell_19 (by decide) ?_
    refine z_callSi (pc := 21) (n := 3) (As := [.int (w), .int (0), .int (100)]) (rest := [.int (zb (0 ≤ i ∧ i < μ 63 12)), .ref (zob E 7)]) C (c_X5_in l E sa (μ := μ) (ov := ov) (w) (0) (100)) gX5_tell_X5_in rfl zfV_X5_in.2 ⟨Nat.le_of_ble_eq_true rfl, Nat.le_of_ble_eq_true rfl⟩ rfl rfl (Nat.le_of_ble_eq_true rfl) ⟨Nat.zero_le _, Nat.zero_le _⟩ dX5_tell_21 (fun r9 μ9 ov9 hp => ?_)
    have e1 := hp.1.symm
    have e2 := hp.2.1.symm
    have e3 := hp.2.2.symm
    clear hp
    subst e1 e2 e3
    refine z_if_eq (tgt := 31) (pc := 24) C dX5_tell_24 (by decide) (fun c_2 => ?_) (fun c_2 => ?_)
    · rw [zb_eq0] at c_2
      refine z_iconst (v := 0) (pc := 31) C dX5_tell_31 (by decide) ?_
      exact J1 _ (zb_f (fun h => c_2 (h.2))).symm
    · rw [zb_ne0] at c_2
      refine z_iconst (v := 1) (pc := 27) C dX5_tell_27 (by decide) ?_
      refine z_goto (tgt := 32) (pc := 28) C dX5_tell_28 (by decide) ?_
      exact J1 _ (zb_t ⟨c_1, c_2⟩).symm
set_option maxHeartbeats 4000000 in
set_option maxRecDepth 100000 in
theorem c_X5_link (l : Launch) (E : zE) (sa : Nat → Nat) {μ : zM} {ov : Nat → Int64} {i j d : Int32} (nc : Nat) (hc : μ 63 12 = nI nc) (hn : nc ≤ 6) (n : Nat) (hcl : μ 63 13 = nI n) (hnl : n ≤ 8) : zMi l E sa yX5_link wsX5_link 2 43 0 0 [.ref (zob E 7), .int i, .int j, .int d] μ ov (fun r μ1 ov1 => ((((0 ≤ i ∧ i < μ 63 12) ∧ 0 ≤ j ∧ j < μ 63 12) ∧ (¬ i = j ∧ -50 ≤ d ∧ d ≤ 50) ∧ (μ 63 13 < 8)) ∧ r = nI n ∧ μ1 = zu (zu (zu (zu (zu (zu μ 63 19 0) 43 n i) 44 n j) 45 n d) 47 n (μ 63 11)) 63 13 (nI (n + 1)) ∧ ov1 = ov) ∨ (¬ (((0 ≤ i ∧ i < μ 63 12) ∧ 0 ≤ j ∧ j < μ 63 12) ∧ (¬ i = j ∧ -50 ≤ d ∧ d ≤ 50) ∧ (μ 63 13 < 8)) ∧ r = 0 ∧ μ1 = zu μ 63 19 (zgo ((0 ≤ i ∧ i < μ 63 12) ∧ 0 ≤ j ∧ j < μ 63 12) (¬ i = j ∧ -50 ≤ d ∧ d ≤ 50) (μ 63 13 < 8)) ∧ ov1 = ov)) := by
  refine z_ofMi (cc := cX5_link) (nL := 4) (ret := (some .int)) (own := RX5) zfp_X5_link rfl (by simp [Value.category]) (Nat.le_of_ble_eq_true rfl) rfl ?_
  intro p e s m below meth c C hr hlk
  have iX5 : ∀ w ∈ wsX50, w ∈ wsX5_link := by decide +kernel
  have f25 := C.1.2.2.2.2 (.fieldLink RX5 25 "TickFallModel" "one" "[I") (by decide +kernel)
  have f28 := C.1.2.2.2.2 (.fieldLink RX5 28 "TickFallModel" "two" "[I") (by decide +kernel)
  have f31 := C.1.2.2.2.2 (.fieldLink RX5 31 "TickFallModel" "asymmetry" "[I") (by decide +kernel)
  have f37 := C.1.2.2.2.2 (.fieldLink RX5 37 "TickFallModel" "laid" "[I") (by decide +kernel)
  have f103 := C.1.2.2.2.2 (.fieldLink RX5 103 "TickFallModel" "links" "I") (by decide +kernel)
  have f106 := C.1.2.2.2.2 (.fieldLink RX5 106 "TickFallModel" "day" "I") (by decide +kernel)
  show zW p l e (zR 2 43 0 0) s m [Value.ref (zob E 7), Value.int i, Value.int j, Value.int d].toArray below meth c E 4 0 0 (MQ below (zQi E s.heap.size (fun r μ1 ov1 => ((((0 ≤ i ∧ i < μ 63 12) ∧ 0 ≤ j ∧ j < μ 63 12) ∧ (¬ i = j ∧ -50 ≤ d ∧ d ≤ 50) ∧ (μ 63 13 < 8)) ∧ r = nI n ∧ μ1 = zu (zu (zu (zu (zu (zu μ 63 19 0) 43 n i) 44 n j) 45 n d) 47 n (μ 63 11)) 63 13 (nI (n + 1)) ∧ ov1 = ov) ∨ (¬ (((0 ≤ i ∧ i < μ 63 12) ∧ 0 ≤ j ∧ j < μ 63 12) ∧ (¬ i = j ∧ -50 ≤ d ∧ d ≤ 50) ∧ (μ 63 13 < 8)) ∧ r = 0 ∧ μ1 = zu μ 63 19 (zgo ((0 ≤ i ∧ i < μ 63 12) ∧ 0 ≤ j ∧ j < μ 63 12) (¬ i = j ∧ -50 ≤ d ∧ d ≤ 50) (μ 63 13 < 8)) ∧ ov1 = ov))) [Value.ref (zob E 7), Value.int i, Value.int j, Value.int d].toArray s 0 0 (zA E s.heap.size)) 0 [some (.ref (zob E 7)), some (.int (i)), some (.int (j)), some (.int (d))] [] μ ov
  refine z_aloadn (i := 0) (pc := 0) C dX5_link_0 rfl rfl ?_
  have J1 : ∀ v : Int32, v = zb ((0 ≤ i ∧ i < μ 63 12) ∧ 0 ≤ j ∧ j < μ 63 12) → zW p l e (zR 2 43 0 0) s m [Value.ref (zob E 7), Value.int i, Value.int j, Value.int d].toArray below meth c E 4 0 0 (MQ below (zQi E s.heap.size (fun r μ1 ov1 => ((((0 ≤ i ∧ i < μ 63 12) ∧ 0 ≤ j ∧ j < μ 63 12) ∧ (¬ i = j ∧ -50 ≤ d ∧ d ≤ 50) ∧ (μ 63 13 < 8)) ∧ r = nI n ∧ μ1 = zu (zu (zu (zu (zu (zu μ 63 19 0) 43 n i) 44 n j) 45 n d) 47 n (μ 63 11)) 63 13 (nI (n + 1)) ∧ ov1 = ov) ∨ (¬ (((0 ≤ i ∧ i < μ 63 12) ∧ 0 ≤ j ∧ j < μ 63 12) ∧ (¬ i = j ∧ -50 ≤ d ∧ d ≤ 50) ∧ (μ 63 13 < 8)) ∧ r = 0 ∧ μ1 = zu μ 63 19 (zgo ((0 ≤ i ∧ i < μ 63 12) ∧ 0 ≤ j ∧ j < μ 63 12) (¬ i = j ∧ -50 ≤ d ∧ d ≤ 50) (μ 63 13 < 8)) ∧ ov1 = ov))) [Value.ref (zob E 7), Value.int i, Value.int j, Value.int d].toArray s 0 0 (zA E s.heap.size)) 22 [some (.ref (zob E 7)), some (.int (i)), some (.int (j)), some (.int (d))] [.int (v), .ref (zob E 7)] μ ov := by
    intro v hv
    subst hv
    have J2 : ∀ v : Int32, v = zb (¬ i = j ∧ -50 ≤ d ∧ d ≤ 50) → zW p l e (zR 2 43 0 0) s m [Value.ref (zob E 7), Value.int i, Value.int j, Value.int d].toArray below meth c E 4 0 0 (MQ below (zQi E s.heap.size (fun r μ1 ov1 => ((((0 ≤ i ∧ i < μ 63 12) ∧ 0 ≤ j ∧ j < μ 63 12) ∧ (¬ i = j ∧ -50 ≤ d ∧ d ≤ 50) ∧ (μ 63 13 < 8)) ∧ r = nI n ∧ μ1 = zu (zu (zu (zu (zu (zu μ 63 19 0) 43 n i) 44 n j) 45 n d) 47 n (μ 63 11)) 63 13 (nI (n + 1)) ∧ ov1 = ov) ∨ (¬ (((0 ≤ i ∧ i < μ 63 12) ∧ 0 ≤ j ∧ j < μ 63 12) ∧ (¬ i = j ∧ -50 ≤ d ∧ d ≤ 50) ∧ (μ 63 13 < 8)) ∧ r = 0 ∧ μ1 = zu μ 63 19 (zgo ((0 ≤ i ∧ i < μ 63 12) ∧ 0 ≤ j ∧ j < μ 63 12) (¬ i = j ∧ -50 ≤ d ∧ d ≤ 50) (μ 63 13 < 8)) ∧ ov1 = ov))) [Value.ref (zob E 7), Value.int i, Value.int j, Value.int d].toArray s 0 0 (zA E s.heap.size)) 43 [some (.ref (zob E 7)), some (.int (i)), some (.int (j)), some (.int (d))] [.int (v), .int (zb ((0 ≤ i ∧ i < μ 63 12) ∧ 0 ≤ j ∧ j < μ 63 12)), .ref (zob E 7)] μ ov := by
      intro v hv
      subst hv
      have J3 : ∀ v : Int32, v = zb (μ 63 13 < 8) → zW p l e (zR 2 43 0 0) s m [Value.ref (zob E 7), Value.int i, Value.int j, Value.int d].toArray below meth c E 4 0 0 (MQ below (zQi E s.heap.size (fun r μ1 ov1 => ((((0 ≤ i ∧ i < μ 63 12) ∧ 0 ≤ j ∧ j < μ 63 12) ∧ (¬ i = j ∧ -50 ≤ d ∧ d ≤ 50) ∧ (μ 63 13 < 8)) ∧ r = nI n ∧ μ1 = zu (zu (zu (zu (zu (zu μ 63 19 0) 43 n i) 44 n j) 45 n d) 47 n (μ 63 11)) 63 13 (nI (n + 1)) ∧ ov1 = ov) ∨ (¬ (((0 ≤ i ∧ i < μ 63 12) ∧ 0 ≤ j ∧ j < μ 63 12) ∧ (¬ i = j ∧ -50 ≤ d ∧ d ≤ 50) ∧ (μ 63 13 < 8)) ∧ r = 0 ∧ μ1 = zu μ 63 19 (zgo ((0 ≤ i ∧ i < μ 63 12) ∧ 0 ≤ j ∧ j < μ 63 12) (¬ i = j ∧ -50 ≤ d ∧ d ≤ 50) (μ 63 13 < 8)) ∧ ov1 = ov))) [Value.ref (zob E 7), Value.int i, Value.int j, Value.int d].toArray s 0 0 (zA E s.heap.size)) 57 [some (.ref (zob E 7)), some (.int (i)), some (.int (j)), some (.int (d))] [.int (v), .int (zb (¬ i = j ∧ -50 ≤ d ∧ d ≤ 50)), .int (zb ((0 ≤ i ∧ i < μ 63 12) ∧ 0 ≤ j ∧ j < μ 63 12)), .ref (zob E 7)] μ ov := by
        intro v hv
        subst hv
        refine z_callVi (pc := 57) (n := 3) (As := [.int (zb ((0 ≤ i ∧ i < μ 63 12) ∧ 0 ≤ j ∧ j < μ 63 12)), .int (zb (¬ i = j ∧ -50 ≤ d ∧ d ≤ 50)), .int (zb (μ 63 13 < 8))]) (rest := []) C (c_X5_goes l E sa (μ := μ) (ov := ov) ((0 ≤ i ∧ i < μ 63 12) ∧ 0 ≤ j ∧ j < μ 63 12) (¬ i = j ∧ -50 ≤ d ∧ d ≤ 50) (μ 63 13 < 8) rfl rfl rfl) gX5_link_X5_goes rfl zfV_X5_goes ⟨Nat.le_of_ble_eq_true rfl, Nat.le_of_ble_eq_true rfl⟩ rfl (zRec_X5 E) rfl (Nat.le_of_ble_eq_true rfl) ⟨Nat.zero_le _, Nat.zero_le _⟩ dX5_link_57 (fun r9 μ9 ov9 hp => ?_)
        have e1 := hp.1.symm
        have e2 := hp.2.1.symm
        have e3 := hp.2.2.symm
        clear hp
        subst e1 e2 e3
        refine z_if_ne (tgt := 65) (pc := 60) C dX5_link_60 (by decide) (fun c_g => ?_) (fun c_g => ?_)
        · rw [zb_ne0] at c_g
          obtain ⟨ν, hν⟩ : ∃ ν, ν = zu μ 63 19 0 := ⟨_, rfl⟩
          have hk : ∀ b, b ≠ 63 → ν b = μ b := fun b h => by rw [hν]; exact zu_n _ _ _ h
          have h63 : ∀ j, j ≠ 19 → ν 63 j = μ 63 j := fun j h => by rw [hν, zu_s, upd_n _ _ h]
          refine z_mem (μ' := ν) (by rw [hν, zgo_t c_g]) ?_
          have h3 : n < 8 := by have h := c_g.2.2; rw [hcl, show (8 : Int32) = nI 8 from rfl, nI_ltI (by omega) (by omega)] at h; exact h
          have e13 : ν 63 13 = nI n := (h63 13 (by decide)).trans hcl
          refine z_aloadn (i := 0) (pc := 65) C dX5_link_65 rfl rfl ?_
          refine zg_X5_one (pc := 66) C dX5_link_66 iX5 f25 ?_
          refine z_aloadn (i := 0) (pc := 69) C dX5_link_69 rfl rfl ?_
          refine zg_X5_links (pc := 70) C dX5_link_70 iX5 f103 ?_
          refine z_iloadn (i := 1) (pc := 73) C dX5_link_73 rfl rfl ?_
          refine z_iast (pc := 74) C 43 n (by decide) rfl (by exact e13) (show n < 8 from h3) dX5_link_74 ?_
          refine z_aloadn (i := 0) (pc := 75) C dX5_link_75 rfl rfl ?_
          refine zg_X5_two (pc := 76) C dX5_link_76 iX5 f28 ?_
          refine z_aloadn (i := 0) (pc := 79) C dX5_link_79 rfl rfl ?_
          refine zg_X5_links (pc := 80) C dX5_link_80 iX5 f103 ?_
          refine z_iloadn (i := 2) (pc := 83) C dX5_link_83 rfl rfl ?_
          refine z_iast (pc := 84) C 44 n (by decide) rfl (by rw [zu_n _ _ _ (by decide)]; exact e13) (show n < 8 from h3) dX5_link_84 ?_
          refine z_aloadn (i := 0) (pc := 85) C dX5_link_85 rfl rfl ?_
          refine zg_X5_asymmetry (pc := 86) C dX5_link_86 iX5 f31 ?_
          refine z_aloadn (i := 0) (pc := 89) C dX5_link_89 rfl rfl ?_
          refine zg_X5_links (pc := 90) C dX5_link_90 iX5 f103 ?_
          refine z_iloadn (i := 3) (pc := 93) C dX5_link_93 rfl rfl ?_
          refine z_iast (pc := 94) C 45 n (by decide) rfl (by rw [zu_n _ _ _ (by decide), zu_n _ _ _ (by decide)]; exact e13) (show n < 8 from h3) dX5_link_94 ?_
          refine z_aloadn (i := 0) (pc := 95) C dX5_link_95 rfl rfl ?_
          refine zg_X5_laid (pc := 96) C dX5_link_96 iX5 f37 ?_
          refine z_aloadn (i := 0) (pc := 99) C dX5_link_99 rfl rfl ?_
          refine zg_X5_links (pc := 100) C dX5_link_100 iX5 f103 ?_
          refine z_aloadn (i := 0) (pc := 103) C dX5_link_103 rfl rfl ?_
          refine zg_X5_day (pc := 104) C dX5_link_104 iX5 f106 ?_
          refine z_topi (y := μ 63 11) (by rw [zu_n _ _ _ (by decide), zu_n _ _ _ (by decide), zu_n _ _ _ (by decide)]; exact h63 11 (by decide)) ?_
          refine z_iast (pc := 107) C 47 n (by decide) rfl (by rw [zu_n _ _ _ (by decide), zu_n _ _ _ (by decide), zu_n _ _ _ (by decide)]; exact e13) (show n < 8 from h3) dX5_link_107 ?_
          refine z_aloadn (i := 0) (pc := 108) C dX5_link_108 rfl rfl ?_
          refine z_dup (pc := 109) C dX5_link_109 rfl ?_
          refine zg_X5_links (pc := 110) C dX5_link_110 iX5 f103 ?_
          refine z_iconst (v := 1) (pc := 113) C dX5_link_113 (by decide) ?_
          refine z_iadd (pc := 114) C dX5_link_114 ?_
          refine z_topi (y := nI (n + 1)) (by rw [zu_n _ _ _ (by decide), zu_n _ _ _ (by decide), zu_n _ _ _ (by decide), zu_n _ _ _ (by decide), e13, nI_1]) ?_
          refine zp_X5_links (pc := 115) C dX5_link_115 iX5 f103 ?_
          refine z_aloadn (i := 0) (pc := 118) C dX5_link_118 rfl rfl ?_
          refine zg_X5_links (pc := 119) C dX5_link_119 iX5 f103 ?_
          refine z_iconst (v := 1) (pc := 122) C dX5_link_122 (by decide) ?_
          refine z_isub (pc := 123) C dX5_link_123 ?_
          exact z_iret (pc := 124) C hr hlk (Or.inl ⟨c_g, by rw [zu_s, upd_s, ← nI_1]; exact Int32.add_sub_cancel _ _, by subst hν; rfl, rfl⟩) (Nat.zero_le _) (Nat.zero_le _) dX5_link_124
        · rw [zb_eq0] at c_g
          refine z_iconst (v := 0) (pc := 63) C dX5_link_63 (by decide) ?_
          exact z_iret (pc := 64) C hr hlk (Or.inr ⟨c_g, rfl, rfl, rfl⟩) (Nat.zero_le _) (Nat.zero_le _) dX5_link_64
      refine z_aloadn (i := 0) (pc := 43) C dX5_link_43 rfl rfl ?_
      refine zg_X5_links (pc := 44) C dX5_link_44 iX5 f103 ?_
      refine z_bipush (v := 8) (pc := 47) C dX5_link_47 (by decide) ?_
      refine z_icmp_ge (tgt := 56) (pc := 49) C dX5_link_49 (by decide) (fun c_5 => ?_) (fun c_5 => ?_)
      · refine z_iconst (v := 0) (pc := 56) C dX5_link_56 (by decide) ?_
        exact J3 _ (zb_f (fun h => zno_le c_5 (h))).symm
      · refine z_iconst (v := 1) (pc := 52) C dX5_link_52 (by decide) ?_
        refine z_goto (tgt := 57) (pc := 53) C dX5_link_53 (by decide) ?_
        exact J3 _ (zb_t (znot_le c_5)).symm
    refine z_iloadn (i := 1) (pc := 22) C dX5_link_22 rfl rfl ?_
    refine z_iloadn (i := 2) (pc := 23) C dX5_link_23 rfl rfl ?_
    refine z_icmp_eq (tgt := 42) (pc := 24) C dX5_link_24 (by decide) (fun c_3 => ?_) (fun c_3 => ?_)
    · refine z_iconst (v := 0) (pc := 42) C dX5_link_42 (by decide) ?_
      exact J2 _ (zb_f (fun h => h.1 c_3)).symm
    · refine z_iloadn (i := 3) (pc := 27) C dX5_link_27 rfl rfl ?_
      refine z_bipush (v := -50) (pc := 28) C dX5_link_28 (by decide) ?_
      refine z_bipush (v := 50) (pc := 30) C dX5_link_30 (by decide) ?_
      refine z_callSi (pc := 32) (n := 3) (As := [.int (d), .int (-50), .int (50)]) (rest := [.int (zb ((0 ≤ i ∧ i < μ 63 12) ∧ 0 ≤ j ∧ j < μ 63 12)), .ref (zob E 7)]) C (c_X5_in l E sa (μ := μ) (ov := ov) (d) (-50) (50)) gX5_link_X5_in rfl zfV_X5_in.2 ⟨Nat.le_of_ble_eq_true rfl, Nat.le_of_ble_eq_true rfl⟩ rfl rfl (Nat.le_of_ble_eq_true rfl) ⟨Nat.zero_le _, Nat.zero_le _⟩ dX5_link_32 (fun r9 μ9 ov9 hp => ?_)
      have e1 := hp.1.symm
      have e2 := hp.2.1.symm
      have e3 := hp.2.2.symm
      clear hp
      subst e1 e2 e3
      refine z_if_eq (tgt := 42) (pc := 35) C dX5_link_35 (by decide) (fun c_4 => ?_) (fun c_4 => ?_)
      · rw [zb_eq0] at c_4
        refine z_iconst (v := 0) (pc := 42) C dX5_link_42 (by decide) ?_
        exact J2 _ (zb_f (fun h => c_4 (h.2))).symm
      · rw [zb_ne0] at c_4
        refine z_iconst (v := 1) (pc := 38) C dX5_link_38 (by decide) ?_
        refine z_goto (tgt := 43) (pc := 39) C dX5_link_39 (by decide) ?_
        exact J2 _ (zb_t ⟨c_3, c_4⟩).symm
  refine z_aloadn (i := 0) (pc := 1) C dX5_link_1 rfl rfl ?_
  refine z_iloadn (i := 1) (pc := 2) C dX5_link_2 rfl rfl ?_
  refine z_callVi (pc := 3) (n := 1) (As := [.int (i)]) (rest := [.ref (zob E 7)]) C (c_X5_isClock l E sa (μ := μ) (ov := ov) i nc hc hn) gX5_link_X5_isClock rfl zfV_X5_isClock ⟨Nat.le_of_ble_eq_true rfl, Nat.le_of_ble_eq_true rfl⟩ rfl (zRec_X5 E) rfl (Nat.le_of_ble_eq_true rfl) ⟨Nat.zero_le _, Nat.zero_le _⟩ dX5_link_3 (fun r9 μ9 ov9 hp => ?_)
  have e1 := hp.1.symm
  have e2 := hp.2.1.symm
  have e3 := hp.2.2.symm
  clear hp
  subst e1 e2 e3
  refine z_if_eq (tgt := 21) (pc := 6) C dX5_link_6 (by decide) (fun c_1 => ?_) (fun c_1 => ?_)
  · rw [zb_eq0] at c_1
    refine z_iconst (v := 0) (pc := 21) C dX5_link_21 (by decide) ?_
    exact J1 _ (zb_f (fun h => c_1 (h.1))).symm
  · rw [zb_ne0] at c_1
    refine z_aloadn (i := 0) (pc := 9) C dX5_link_9 rfl rfl ?_
    refine z_iloadn (i := 2) (pc := 10) C dX5_link_10 rfl rfl ?_
    refine z_callVi (pc := 11) (n := 1) (As := [.int (j)]) (rest := [.ref (zob E 7)]) C (c_X5_isClock l E sa (μ := μ) (ov := ov) j nc hc hn) gX5_link_X5_isClock rfl zfV_X5_isClock ⟨Nat.le_of_ble_eq_true rfl, Nat.le_of_ble_eq_true rfl⟩ rfl (zRec_X5 E) rfl (Nat.le_of_ble_eq_true rfl) ⟨Nat.zero_le _, Nat.zero_le _⟩ dX5_link_11 (fun r9 μ9 ov9 hp => ?_)
    have e1 := hp.1.symm
    have e2 := hp.2.1.symm
    have e3 := hp.2.2.symm
    clear hp
    subst e1 e2 e3
    refine z_if_eq (tgt := 21) (pc := 14) C dX5_link_14 (by decide) (fun c_2 => ?_) (fun c_2 => ?_)
    · rw [zb_eq0] at c_2
      refine z_iconst (v := 0) (pc := 21) C dX5_link_21 (by decide) ?_
      exact J1 _ (zb_f (fun h => c_2 (h.2))).symm
    · rw [zb_ne0] at c_2
      refine z_iconst (v := 1) (pc := 17) C dX5_link_17 (by decide) ?_
      refine z_goto (tgt := 22) (pc := 18) C dX5_link_18 (by decide) ?_
      exact J1 _ (zb_t ⟨c_1, c_2⟩).symm
abbrev zamM (k a : Int32) : Prop := if k = 0 then -500 ≤ a ∧ a ≤ 500 else if k = 1 then 0 ≤ a ∧ a ≤ 5000 else if k = 2 then -50 ≤ a ∧ a ≤ 50 else -3 ≤ a ∧ a ≤ 3
theorem zamM_b (k a : Int32) : (if k = 0 then zb (-500 ≤ a ∧ a ≤ 500) else if k = 1 then zb (0 ≤ a ∧ a ≤ 5000) else if k = 2 then zb (-50 ≤ a ∧ a ≤ 50) else zb (-3 ≤ a ∧ a ≤ 3)) = zb (zamM k a) := by
  by_cases h0 : k = 0
  · rw [if_pos h0]; exact zb_cg (by unfold zamM; rw [if_pos h0])
  · rw [if_neg h0]
    by_cases h1 : k = 1
    · rw [if_pos h1]; exact zb_cg (by unfold zamM; rw [if_neg h0, if_pos h1])
    · rw [if_neg h1]
      by_cases h2 : k = 2
      · rw [if_pos h2]; exact zb_cg (by unfold zamM; rw [if_neg h0, if_neg h1, if_pos h2])
      · rw [if_neg h2]; exact zb_cg (by unfold zamM; rw [if_neg h0, if_neg h1, if_neg h2])
set_option maxHeartbeats 4000000 in
set_option maxRecDepth 100000 in
theorem c_X5_event (l : Launch) (E : zE) (sa : Nat → Nat) {μ : zM} {ov : Nat → Int64} {d k i a : Int32} (nc : Nat) (hc : μ 63 12 = nI nc) (hn : nc ≤ 6) (n : Nat) (hcl : μ 63 13 = nI n) (hnl : n ≤ 8) (c9 : Nat) (hce : μ 63 14 = nI c9) (hne : c9 ≤ 40) : zMi l E sa yX5_event wsX5_event 2 43 0 0 [.ref (zob E 7), .int d, .int k, .int i, .int a] μ ov (fun r μ1 ov1 => (((μ 63 11 < d ∧ d ≤ 500 ∧ 0 ≤ k ∧ k ≤ 3) ∧ ((k < 2 ∧ 0 ≤ i ∧ i < μ 63 12) ∨ (¬ k < 2 ∧ 0 ≤ i ∧ i < μ 63 13)) ∧ (zamM k a ∧ μ 63 14 < 40)) ∧ r = nI (c9 + 1) ∧ μ1 = zu (zu (zu (zu (zu (zu μ 63 19 0) 49 c9 d) 50 c9 k) 51 c9 i) 52 c9 a) 63 14 (nI (c9 + 1)) ∧ ov1 = ov) ∨ (¬ ((μ 63 11 < d ∧ d ≤ 500 ∧ 0 ≤ k ∧ k ≤ 3) ∧ ((k < 2 ∧ 0 ≤ i ∧ i < μ 63 12) ∨ (¬ k < 2 ∧ 0 ≤ i ∧ i < μ 63 13)) ∧ (zamM k a ∧ μ 63 14 < 40)) ∧ r = 0 ∧ μ1 = zu μ 63 19 (zgo (μ 63 11 < d ∧ d ≤ 500 ∧ 0 ≤ k ∧ k ≤ 3) ((k < 2 ∧ 0 ≤ i ∧ i < μ 63 12) ∨ (¬ k < 2 ∧ 0 ≤ i ∧ i < μ 63 13)) (zamM k a ∧ μ 63 14 < 40)) ∧ ov1 = ov)) := by
  refine z_ofMi (cc := cX5_event) (nL := 7) (ret := (some .int)) (own := RX5) zfp_X5_event rfl (by simp [Value.category]) (Nat.le_of_ble_eq_true rfl) rfl ?_
  intro p e s m below meth c C hr hlk
  have iX5 : ∀ w ∈ wsX50, w ∈ wsX5_event := by decide +kernel
  have f43 := C.1.2.2.2.2 (.fieldLink RX5 43 "TickFallModel" "eventDay" "[I") (by decide +kernel)
  have f46 := C.1.2.2.2.2 (.fieldLink RX5 46 "TickFallModel" "eventKind" "[I") (by decide +kernel)
  have f49 := C.1.2.2.2.2 (.fieldLink RX5 49 "TickFallModel" "eventOf" "[I") (by decide +kernel)
  have f52 := C.1.2.2.2.2 (.fieldLink RX5 52 "TickFallModel" "amount" "[I") (by decide +kernel)
  have f106 := C.1.2.2.2.2 (.fieldLink RX5 106 "TickFallModel" "day" "I") (by decide +kernel)
  have f124 := C.1.2.2.2.2 (.fieldLink RX5 124 "TickFallModel" "events" "I") (by decide +kernel)
  show zW p l e (zR 2 43 0 0) s m [Value.ref (zob E 7), Value.int d, Value.int k, Value.int i, Value.int a].toArray below meth c E 7 0 0 (MQ below (zQi E s.heap.size (fun r μ1 ov1 => (((μ 63 11 < d ∧ d ≤ 500 ∧ 0 ≤ k ∧ k ≤ 3) ∧ ((k < 2 ∧ 0 ≤ i ∧ i < μ 63 12) ∨ (¬ k < 2 ∧ 0 ≤ i ∧ i < μ 63 13)) ∧ (zamM k a ∧ μ 63 14 < 40)) ∧ r = nI (c9 + 1) ∧ μ1 = zu (zu (zu (zu (zu (zu μ 63 19 0) 49 c9 d) 50 c9 k) 51 c9 i) 52 c9 a) 63 14 (nI (c9 + 1)) ∧ ov1 = ov) ∨ (¬ ((μ 63 11 < d ∧ d ≤ 500 ∧ 0 ≤ k ∧ k ≤ 3) ∧ ((k < 2 ∧ 0 ≤ i ∧ i < μ 63 12) ∨ (¬ k < 2 ∧ 0 ≤ i ∧ i < μ 63 13)) ∧ (zamM k a ∧ μ 63 14 < 40)) ∧ r = 0 ∧ μ1 = zu μ 63 19 (zgo (μ 63 11 < d ∧ d ≤ 500 ∧ 0 ≤ k ∧ k ≤ 3) ((k < 2 ∧ 0 ≤ i ∧ i < μ 63 12) ∨ (¬ k < 2 ∧ 0 ≤ i ∧ i < μ 63 13)) (zamM k a ∧ μ 63 14 < 40)) ∧ ov1 = ov))) [Value.ref (zob E 7), Value.int d, Value.int k, Value.int i, Value.int a].toArray s 0 0 (zA E s.heap.size)) 0 [some (.ref (zob E 7)), some (.int (d)), some (.int (k)), some (.int (i)), some (.int (a)), none, none] [] μ ov
  have J1 : ∀ v : Int32, v = zb (μ 63 11 < d ∧ d ≤ 500 ∧ 0 ≤ k ∧ k ≤ 3) → zW p l e (zR 2 43 0 0) s m [Value.ref (zob E 7), Value.int d, Value.int k, Value.int i, Value.int a].toArray below meth c E 7 0 0 (MQ below (zQi E s.heap.size (fun r μ1 ov1 => (((μ 63 11 < d ∧ d ≤ 500 ∧ 0 ≤ k ∧ k ≤ 3) ∧ ((k < 2 ∧ 0 ≤ i ∧ i < μ 63 12) ∨ (¬ k < 2 ∧ 0 ≤ i ∧ i < μ 63 13)) ∧ (zamM k a ∧ μ 63 14 < 40)) ∧ r = nI (c9 + 1) ∧ μ1 = zu (zu (zu (zu (zu (zu μ 63 19 0) 49 c9 d) 50 c9 k) 51 c9 i) 52 c9 a) 63 14 (nI (c9 + 1)) ∧ ov1 = ov) ∨ (¬ ((μ 63 11 < d ∧ d ≤ 500 ∧ 0 ≤ k ∧ k ≤ 3) ∧ ((k < 2 ∧ 0 ≤ i ∧ i < μ 63 12) ∨ (¬ k < 2 ∧ 0 ≤ i ∧ i < μ 63 13)) ∧ (zamM k a ∧ μ 63 14 < 40)) ∧ r = 0 ∧ μ1 = zu μ 63 19 (zgo (μ 63 11 < d ∧ d ≤ 500 ∧ 0 ≤ k ∧ k ≤ 3) ((k < 2 ∧ 0 ≤ i ∧ i < μ 63 12) ∨ (¬ k < 2 ∧ 0 ≤ i ∧ i < μ 63 13)) (zamM k a ∧ μ 63 14 < 40)) ∧ ov1 = ov))) [Value.ref (zob E 7), Value.int d, Value.int k, Value.int i, Value.int a].toArray s 0 0 (zA E s.heap.size)) 29 [some (.ref (zob E 7)), some (.int (d)), some (.int (k)), some (.int (i)), some (.int (a)), none, none] [.int (v)] μ ov := by
    intro v hv
    subst hv
    refine z_istore5 (pc := 29) C (by decide) (fun w hw => by cases hw; exact (show ¬ (1 = 2) from by decide)) dX5_event_29 ?_
    have J2 : ∀ v : Int32, v = zb ((k < 2 ∧ 0 ≤ i ∧ i < μ 63 12) ∨ (¬ k < 2 ∧ 0 ≤ i ∧ i < μ 63 13)) → zW p l e (zR 2 43 0 0) s m [Value.ref (zob E 7), Value.int d, Value.int k, Value.int i, Value.int a].toArray below meth c E 7 0 0 (MQ below (zQi E s.heap.size (fun r μ1 ov1 => (((μ 63 11 < d ∧ d ≤ 500 ∧ 0 ≤ k ∧ k ≤ 3) ∧ ((k < 2 ∧ 0 ≤ i ∧ i < μ 63 12) ∨ (¬ k < 2 ∧ 0 ≤ i ∧ i < μ 63 13)) ∧ (zamM k a ∧ μ 63 14 < 40)) ∧ r = nI (c9 + 1) ∧ μ1 = zu (zu (zu (zu (zu (zu μ 63 19 0) 49 c9 d) 50 c9 k) 51 c9 i) 52 c9 a) 63 14 (nI (c9 + 1)) ∧ ov1 = ov) ∨ (¬ ((μ 63 11 < d ∧ d ≤ 500 ∧ 0 ≤ k ∧ k ≤ 3) ∧ ((k < 2 ∧ 0 ≤ i ∧ i < μ 63 12) ∨ (¬ k < 2 ∧ 0 ≤ i ∧ i < μ 63 13)) ∧ (zamM k a ∧ μ 63 14 < 40)) ∧ r = 0 ∧ μ1 = zu μ 63 19 (zgo (μ 63 11 < d ∧ d ≤ 500 ∧ 0 ≤ k ∧ k ≤ 3) ((k < 2 ∧ 0 ≤ i ∧ i < μ 63 12) ∨ (¬ k < 2 ∧ 0 ≤ i ∧ i < μ 63 13)) (zamM k a ∧ μ 63 14 < 40)) ∧ ov1 = ov))) [Value.ref (zob E 7), Value.int d, Value.int k, Value.int i, Value.int a].toArray s 0 0 (zA E s.heap.size)) 49 [some (.ref (zob E 7)), some (.int (d)), some (.int (k)), some (.int (i)), some (.int (a)), some (.int (zb (μ 63 11 < d ∧ d ≤ 500 ∧ 0 ≤ k ∧ k ≤ 3))), none] [.int (v)] μ ov := by
      intro v hv
      subst hv
      refine z_istore6 (pc := 49) C (by decide) (fun w hw => by cases hw; exact (show ¬ (1 = 2) from by decide)) dX5_event_49 ?_
      refine z_aloadn (i := 0) (pc := 51) C dX5_event_51 rfl rfl ?_
      refine z_iload (i := 5) (pc := 52) C dX5_event_52 rfl ?_
      refine z_iload (i := 6) (pc := 54) C dX5_event_54 rfl ?_
      have J3 : ∀ v : Int32, v = zb (zamM k a ∧ μ 63 14 < 40) → zW p l e (zR 2 43 0 0) s m [Value.ref (zob E 7), Value.int d, Value.int k, Value.int i, Value.int a].toArray below meth c E 7 0 0 (MQ below (zQi E s.heap.size (fun r μ1 ov1 => (((μ 63 11 < d ∧ d ≤ 500 ∧ 0 ≤ k ∧ k ≤ 3) ∧ ((k < 2 ∧ 0 ≤ i ∧ i < μ 63 12) ∨ (¬ k < 2 ∧ 0 ≤ i ∧ i < μ 63 13)) ∧ (zamM k a ∧ μ 63 14 < 40)) ∧ r = nI (c9 + 1) ∧ μ1 = zu (zu (zu (zu (zu (zu μ 63 19 0) 49 c9 d) 50 c9 k) 51 c9 i) 52 c9 a) 63 14 (nI (c9 + 1)) ∧ ov1 = ov) ∨ (¬ ((μ 63 11 < d ∧ d ≤ 500 ∧ 0 ≤ k ∧ k ≤ 3) ∧ ((k < 2 ∧ 0 ≤ i ∧ i < μ 63 12) ∨ (¬ k < 2 ∧ 0 ≤ i ∧ i < μ 63 13)) ∧ (zamM k a ∧ μ 63 14 < 40)) ∧ r = 0 ∧ μ1 = zu μ 63 19 (zgo (μ 63 11 < d ∧ d ≤ 500 ∧ 0 ≤ k ∧ k ≤ 3) ((k < 2 ∧ 0 ≤ i ∧ i < μ 63 12) ∨ (¬ k < 2 ∧ 0 ≤ i ∧ i < μ 63 13)) (zamM k a ∧ μ 63 14 < 40)) ∧ ov1 = ov))) [Value.ref (zob E 7), Value.int d, Value.int k, Value.int i, Value.int a].toArray s 0 0 (zA E s.heap.size)) 79 [some (.ref (zob E 7)), some (.int (d)), some (.int (k)), some (.int (i)), some (.int (a)), some (.int (zb (μ 63 11 < d ∧ d ≤ 500 ∧ 0 ≤ k ∧ k ≤ 3))), some (.int (zb ((k < 2 ∧ 0 ≤ i ∧ i < μ 63 12) ∨ (¬ k < 2 ∧ 0 ≤ i ∧ i < μ 63 13))))] [.int (v), .int (zb ((k < 2 ∧ 0 ≤ i ∧ i < μ 63 12) ∨ (¬ k < 2 ∧ 0 ≤ i ∧ i < μ 63 13))), .int (zb (μ 63 11 < d ∧ d ≤ 500 ∧ 0 ≤ k ∧ k ≤ 3)), .ref (zob E 7)] μ ov := by
        intro v hv
        subst hv
        refine z_callVi (pc := 79) (n := 3) (As := [.int (zb (μ 63 11 < d ∧ d ≤ 500 ∧ 0 ≤ k ∧ k ≤ 3)), .int (zb ((k < 2 ∧ 0 ≤ i ∧ i < μ 63 12) ∨ (¬ k < 2 ∧ 0 ≤ i ∧ i < μ 63 13))), .int (zb (zamM k a ∧ μ 63 14 < 40))]) (rest := []) C (c_X5_goes l E sa (μ := μ) (ov := ov) (μ 63 11 < d ∧ d ≤ 500 ∧ 0 ≤ k ∧ k ≤ 3) ((k < 2 ∧ 0 ≤ i ∧ i < μ 63 12) ∨ (¬ k < 2 ∧ 0 ≤ i ∧ i < μ 63 13)) (zamM k a ∧ μ 63 14 < 40) rfl rfl rfl) gX5_event_X5_goes rfl zfV_X5_goes ⟨Nat.le_of_ble_eq_true rfl, Nat.le_of_ble_eq_true rfl⟩ rfl (zRec_X5 E) rfl (Nat.le_of_ble_eq_true rfl) ⟨Nat.zero_le _, Nat.zero_le _⟩ dX5_event_79 (fun r9 μ9 ov9 hp => ?_)
        have e1 := hp.1.symm
        have e2 := hp.2.1.symm
        have e3 := hp.2.2.symm
        clear hp
        subst e1 e2 e3
        refine z_if_ne (tgt := 87) (pc := 82) C dX5_event_82 (by decide) (fun c_g => ?_) (fun c_g => ?_)
        · rw [zb_ne0] at c_g
          obtain ⟨ν, hν⟩ : ∃ ν, ν = zu μ 63 19 0 := ⟨_, rfl⟩
          have hk : ∀ b, b ≠ 63 → ν b = μ b := fun b h => by rw [hν]; exact zu_n _ _ _ h
          have h63 : ∀ j, j ≠ 19 → ν 63 j = μ 63 j := fun j h => by rw [hν, zu_s, upd_n _ _ h]
          refine z_mem (μ' := ν) (by rw [hν, zgo_t c_g]) ?_
          have h3 : c9 < 40 := by have h := c_g.2.2.2; rw [hce, show (40 : Int32) = nI 40 from rfl, nI_ltI (by omega) (by omega)] at h; exact h
          have e14 : ν 63 14 = nI c9 := (h63 14 (by decide)).trans hce
          refine z_aloadn (i := 0) (pc := 87) C dX5_event_87 rfl rfl ?_
          refine zg_X5_eventDay (pc := 88) C dX5_event_88 iX5 f43 ?_
          refine z_aloadn (i := 0) (pc := 91) C dX5_event_91 rfl rfl ?_
          refine zg_X5_events (pc := 92) C dX5_event_92 iX5 f124 ?_
          refine z_iloadn (i := 1) (pc := 95) C dX5_event_95 rfl rfl ?_
          refine z_iast (pc := 96) C 49 c9 (by decide) rfl (by exact e14) (show c9 < 40 from h3) dX5_event_96 ?_
          refine z_aloadn (i := 0) (pc := 97) C dX5_event_97 rfl rfl ?_
          refine zg_X5_eventKind (pc := 98) C dX5_event_98 iX5 f46 ?_
          refine z_aloadn (i := 0) (pc := 101) C dX5_event_101 rfl rfl ?_
          refine zg_X5_events (pc := 102) C dX5_event_102 iX5 f124 ?_
          refine z_iloadn (i := 2) (pc := 105) C dX5_event_105 rfl rfl ?_
          refine z_iast (pc := 106) C 50 c9 (by decide) rfl (by rw [zu_n _ _ _ (by decide)]; exact e14) (show c9 < 40 from h3) dX5_event_106 ?_
          refine z_aloadn (i := 0) (pc := 107) C dX5_event_107 rfl rfl ?_
          refine zg_X5_eventOf (pc := 108) C dX5_event_108 iX5 f49 ?_
          refine z_aloadn (i := 0) (pc := 111) C dX5_event_111 rfl rfl ?_
          refine zg_X5_events (pc := 112) C dX5_event_112 iX5 f124 ?_
          refine z_iloadn (i := 3) (pc := 115) C dX5_event_115 rfl rfl ?_
          refine z_iast (pc := 116) C 51 c9 (by decide) rfl (by rw [zu_n _ _ _ (by decide), zu_n _ _ _ (by decide)]; exact e14) (show c9 < 40 from h3) dX5_event_116 ?_
          refine z_aloadn (i := 0) (pc := 117) C dX5_event_117 rfl rfl ?_
          refine zg_X5_amount (pc := 118) C dX5_event_118 iX5 f52 ?_
          refine z_aloadn (i := 0) (pc := 121) C dX5_event_121 rfl rfl ?_
          refine zg_X5_events (pc := 122) C dX5_event_122 iX5 f124 ?_
          refine z_iload (i := 4) (pc := 125) C dX5_event_125 rfl ?_
          refine z_iast (pc := 127) C 52 c9 (by decide) rfl (by rw [zu_n _ _ _ (by decide), zu_n _ _ _ (by decide), zu_n _ _ _ (by decide)]; exact e14) (show c9 < 40 from h3) dX5_event_127 ?_
          refine z_aloadn (i := 0) (pc := 128) C dX5_event_128 rfl rfl ?_
          refine z_dup (pc := 129) C dX5_event_129 rfl ?_
          refine zg_X5_events (pc := 130) C dX5_event_130 iX5 f124 ?_
          refine z_iconst (v := 1) (pc := 133) C dX5_event_133 (by decide) ?_
          refine z_iadd (pc := 134) C dX5_event_134 ?_
          refine z_topi (y := nI (c9 + 1)) (by rw [zu_n _ _ _ (by decide), zu_n _ _ _ (by decide), zu_n _ _ _ (by decide), zu_n _ _ _ (by decide), e14, nI_1]) ?_
          refine zp_X5_events (pc := 135) C dX5_event_135 iX5 f124 ?_
          refine z_aloadn (i := 0) (pc := 138) C dX5_event_138 rfl rfl ?_
          refine zg_X5_events (pc := 139) C dX5_event_139 iX5 f124 ?_
          exact z_iret (pc := 142) C hr hlk (Or.inl ⟨c_g, by rw [zu_s, upd_s], by subst hν; rfl, rfl⟩) (Nat.zero_le _) (Nat.zero_le _) dX5_event_142
        · rw [zb_eq0] at c_g
          refine z_iconst (v := 0) (pc := 85) C dX5_event_85 (by decide) ?_
          exact z_iret (pc := 86) C hr hlk (Or.inr ⟨c_g, rfl, rfl, rfl⟩) (Nat.zero_le _) (Nat.zero_le _) dX5_event_86
      refine z_iloadn (i := 2) (pc := 56) C dX5_event_56 rfl rfl ?_
      refine z_iload (i := 4) (pc := 57) C dX5_event_57 rfl ?_
      refine z_callSi (pc := 59) (n := 2) (As := [.int (k), .int (a)]) (rest := [.int (zb ((k < 2 ∧ 0 ≤ i ∧ i < μ 63 12) ∨ (¬ k < 2 ∧ 0 ≤ i ∧ i < μ 63 13))), .int (zb (μ 63 11 < d ∧ d ≤ 500 ∧ 0 ≤ k ∧ k ≤ 3)), .ref (zob E 7)]) C (c_X5_isAmount l E sa (μ := μ) (ov := ov) k a) gX5_event_X5_isAmount rfl zfV_X5_isAmount.2 ⟨Nat.le_of_ble_eq_true rfl, Nat.le_of_ble_eq_true rfl⟩ rfl rfl (Nat.le_of_ble_eq_true rfl) ⟨Nat.zero_le _, Nat.zero_le _⟩ dX5_event_59 (fun r9 μ9 ov9 hp => ?_)
      have e1 := hp.1.symm
      have e2 := hp.2.1.symm
      have e3 := hp.2.2.symm
      clear hp
      subst e1 e2 e3
      refine z_topi (y := zb (zamM k a)) (zamM_b k a) ?_
      refine z_if_eq (tgt := 78) (pc := 62) C dX5_event_62 (by decide) (fun c_7 => ?_) (fun c_7 => ?_)
      · rw [zb_eq0] at c_7
        refine z_iconst (v := 0) (pc := 78) C dX5_event_78 (by decide) ?_
        exact J3 _ (zb_f (fun h => c_7 (h.1))).symm
      · rw [zb_ne0] at c_7
        refine z_aloadn (i := 0) (pc := 65) C dX5_event_65 rfl rfl ?_
        refine zg_X5_events (pc := 66) C dX5_event_66 iX5 f124 ?_
        refine z_bipush (v := 40) (pc := 69) C dX5_event_69 (by decide) ?_
        refine z_icmp_ge (tgt := 78) (pc := 71) C dX5_event_71 (by decide) (fun c_8 => ?_) (fun c_8 => ?_)
        · refine z_iconst (v := 0) (pc := 78) C dX5_event_78 (by decide) ?_
          exact J3 _ (zb_f (fun h => zno_le c_8 (h.2))).symm
        · refine z_iconst (v := 1) (pc := 74) C dX5_event_74 (by decide) ?_
          refine z_goto (tgt := 79) (pc := 75) C dX5_event_75 (by decide) ?_
          exact J3 _ (zb_t ⟨c_7, (znot_le c_8)⟩).symm
    refine z_iloadn (i := 2) (pc := 31) C dX5_event_31 rfl rfl ?_
    refine z_iconst (v := 2) (pc := 32) C dX5_event_32 (by decide) ?_
    refine z_icmp_ge (tgt := 44) (pc := 33) C dX5_event_33 (by decide) (fun c_k => ?_) (fun c_k => ?_)
    · refine z_aloadn (i := 0) (pc := 44) C dX5_event_44 rfl rfl ?_
      refine z_iloadn (i := 3) (pc := 45) C dX5_event_45 rfl rfl ?_
      refine z_callVi (pc := 46) (n := 1) (As := [.int (i)]) (rest := []) C (c_X5_isLink l E sa (μ := μ) (ov := ov) i n hcl hnl) gX5_event_X5_isLink rfl zfV_X5_isLink ⟨Nat.le_of_ble_eq_true rfl, Nat.le_of_ble_eq_true rfl⟩ rfl (zRec_X5 E) rfl (Nat.le_of_ble_eq_true rfl) ⟨Nat.zero_le _, Nat.zero_le _⟩ dX5_event_46 (fun r9 μ9 ov9 hp => ?_)
      have e1 := hp.1.symm
      have e2 := hp.2.1.symm
      have e3 := hp.2.2.symm
      clear hp
      subst e1 e2 e3
      exact J2 _ (zb_cg ⟨fun h => Or.inr ⟨fun z => zno_le c_k z, h⟩, fun h => h.elim (fun z => (zno_le c_k z.1).elim) (fun z => z.2)⟩)
    · refine z_aloadn (i := 0) (pc := 36) C dX5_event_36 rfl rfl ?_
      refine z_iloadn (i := 3) (pc := 37) C dX5_event_37 rfl rfl ?_
      refine z_callVi (pc := 38) (n := 1) (As := [.int (i)]) (rest := []) C (c_X5_isClock l E sa (μ := μ) (ov := ov) i nc hc hn) gX5_event_X5_isClock rfl zfV_X5_isClock ⟨Nat.le_of_ble_eq_true rfl, Nat.le_of_ble_eq_true rfl⟩ rfl (zRec_X5 E) rfl (Nat.le_of_ble_eq_true rfl) ⟨Nat.zero_le _, Nat.zero_le _⟩ dX5_event_38 (fun r9 μ9 ov9 hp => ?_)
      have e1 := hp.1.symm
      have e2 := hp.2.1.symm
      have e3 := hp.2.2.symm
      clear hp
      subst e1 e2 e3
      refine z_goto (tgt := 49) (pc := 41) C dX5_event_41 (by decide) ?_
      exact J2 _ (zb_cg ⟨fun h => Or.inl ⟨znot_le c_k, h⟩, fun h => h.elim (fun z => z.2) (fun z => absurd (znot_le c_k) z.1)⟩)
  refine z_iloadn (i := 1) (pc := 0) C dX5_event_0 rfl rfl ?_
  refine z_aloadn (i := 0) (pc := 1) C dX5_event_1 rfl rfl ?_
  refine zg_X5_day (pc := 2) C dX5_event_2 iX5 f106 ?_
  refine z_icmp_le (tgt := 28) (pc := 5) C dX5_event_5 (by decide) (fun c_1 => ?_) (fun c_1 => ?_)
  · refine z_iconst (v := 0) (pc := 28) C dX5_event_28 (by decide) ?_
    exact J1 _ (zb_f (fun h => zno_le c_1 (h.1))).symm
  · refine z_iloadn (i := 1) (pc := 8) C dX5_event_8 rfl rfl ?_
    refine z_sipush (v := 500) (pc := 9) C dX5_event_9 (by decide) ?_
    refine z_icmp_gt (tgt := 28) (pc := 12) C dX5_event_12 (by decide) (fun c_2 => ?_) (fun c_2 => ?_)
    · refine z_iconst (v := 0) (pc := 28) C dX5_event_28 (by decide) ?_
      exact J1 _ (zb_f (fun h => zno_lt c_2 (h.2.1))).symm
    · refine z_iloadn (i := 2) (pc := 15) C dX5_event_15 rfl rfl ?_
      refine z_iconst (v := 0) (pc := 16) C dX5_event_16 (by decide) ?_
      refine z_iconst (v := 3) (pc := 17) C dX5_event_17 (by decide) ?_
      refine z_callSi (pc := 18) (n := 3) (As := [.int (k), .int (0), .int (3)]) (rest := []) C (c_X5_in l E sa (μ := μ) (ov := ov) (k) (0) (3)) gX5_event_X5_in rfl zfV_X5_in.2 ⟨Nat.le_of_ble_eq_true rfl, Nat.le_of_ble_eq_true rfl⟩ rfl rfl (Nat.le_of_ble_eq_true rfl) ⟨Nat.zero_le _, Nat.zero_le _⟩ dX5_event_18 (fun r9 μ9 ov9 hp => ?_)
      have e1 := hp.1.symm
      have e2 := hp.2.1.symm
      have e3 := hp.2.2.symm
      clear hp
      subst e1 e2 e3
      refine z_if_eq (tgt := 28) (pc := 21) C dX5_event_21 (by decide) (fun c_3 => ?_) (fun c_3 => ?_)
      · rw [zb_eq0] at c_3
        refine z_iconst (v := 0) (pc := 28) C dX5_event_28 (by decide) ?_
        exact J1 _ (zb_f (fun h => c_3 (h.2.2))).symm
      · rw [zb_ne0] at c_3
        refine z_iconst (v := 1) (pc := 24) C dX5_event_24 (by decide) ?_
        refine z_goto (tgt := 29) (pc := 25) C dX5_event_25 (by decide) ?_
        exact J1 _ (zb_t ⟨(znot_le c_1), (znot_lt c_2), c_3⟩).symm
set_option maxHeartbeats 4000000 in
set_option maxRecDepth 100000 in
theorem c_X5_calibrate (l : Launch) (E : zE) (sa : Nat → Nat) {μ : zM} {ov : Nat → Int64} {i a b x : Int32} (n : Nat) (hcl : μ 63 13 = nI n) (hnl : n ≤ 8) (hgv : zGv μ) : zMi l E sa yX5_calibrate wsX5_calibrate 2 43 0 0 [.ref (zob E 7), .int i, .int a, .int b, .int x] μ ov (fun r μ1 ov1 => (((0 ≤ i ∧ i < μ 63 13) ∧ ((0 ≤ a ∧ a ≤ 500) ∧ (a ≤ b ∧ b ≤ 500) ∧ -10000 ≤ x ∧ x ≤ 10000) ∧ ((0 ≤ i ∧ i < μ 63 13) ∧ μ 53 i.toNatClampNeg < 10)) ∧ r = μ 53 i.toNatClampNeg + 1 ∧ (∃ g, g < 10 ∧ μ 53 i.toNatClampNeg = nI g ∧ μ1 = zu (zu (zu (zu (zu μ 63 19 0) 54 (10 * i.toNatClampNeg + g) a) 55 (10 * i.toNatClampNeg + g) b) 56 (10 * i.toNatClampNeg + g) x) 53 i.toNatClampNeg (nI (g + 1))) ∧ ov1 = ov) ∨ (¬ ((0 ≤ i ∧ i < μ 63 13) ∧ ((0 ≤ a ∧ a ≤ 500) ∧ (a ≤ b ∧ b ≤ 500) ∧ -10000 ≤ x ∧ x ≤ 10000) ∧ ((0 ≤ i ∧ i < μ 63 13) ∧ μ 53 i.toNatClampNeg < 10)) ∧ r = 0 ∧ μ1 = zu μ 63 19 (zgo (0 ≤ i ∧ i < μ 63 13) ((0 ≤ a ∧ a ≤ 500) ∧ (a ≤ b ∧ b ≤ 500) ∧ -10000 ≤ x ∧ x ≤ 10000) ((0 ≤ i ∧ i < μ 63 13) ∧ μ 53 i.toNatClampNeg < 10)) ∧ ov1 = ov)) := by
  refine z_ofMi (cc := cX5_calibrate) (nL := 7) (ret := (some .int)) (own := RX5) zfp_X5_calibrate rfl (by simp [Value.category]) (Nat.le_of_ble_eq_true rfl) rfl ?_
  intro p e s m below meth c C hr hlk
  have iX5 : ∀ w ∈ wsX50, w ∈ wsX5_calibrate := by decide +kernel
  have f55 := C.1.2.2.2.2 (.fieldLink RX5 55 "TickFallModel" "given" "[I") (by decide +kernel)
  have f58 := C.1.2.2.2.2 (.fieldLink RX5 58 "TickFallModel" "from" "[I") (by decide +kernel)
  have f61 := C.1.2.2.2.2 (.fieldLink RX5 61 "TickFallModel" "to" "[I") (by decide +kernel)
  have f64 := C.1.2.2.2.2 (.fieldLink RX5 64 "TickFallModel" "takes" "[I") (by decide +kernel)
  show zW p l e (zR 2 43 0 0) s m [Value.ref (zob E 7), Value.int i, Value.int a, Value.int b, Value.int x].toArray below meth c E 7 0 0 (MQ below (zQi E s.heap.size (fun r μ1 ov1 => (((0 ≤ i ∧ i < μ 63 13) ∧ ((0 ≤ a ∧ a ≤ 500) ∧ (a ≤ b ∧ b ≤ 500) ∧ -10000 ≤ x ∧ x ≤ 10000) ∧ ((0 ≤ i ∧ i < μ 63 13) ∧ μ 53 i.toNatClampNeg < 10)) ∧ r = μ 53 i.toNatClampNeg + 1 ∧ (∃ g, g < 10 ∧ μ 53 i.toNatClampNeg = nI g ∧ μ1 = zu (zu (zu (zu (zu μ 63 19 0) 54 (10 * i.toNatClampNeg + g) a) 55 (10 * i.toNatClampNeg + g) b) 56 (10 * i.toNatClampNeg + g) x) 53 i.toNatClampNeg (nI (g + 1))) ∧ ov1 = ov) ∨ (¬ ((0 ≤ i ∧ i < μ 63 13) ∧ ((0 ≤ a ∧ a ≤ 500) ∧ (a ≤ b ∧ b ≤ 500) ∧ -10000 ≤ x ∧ x ≤ 10000) ∧ ((0 ≤ i ∧ i < μ 63 13) ∧ μ 53 i.toNatClampNeg < 10)) ∧ r = 0 ∧ μ1 = zu μ 63 19 (zgo (0 ≤ i ∧ i < μ 63 13) ((0 ≤ a ∧ a ≤ 500) ∧ (a ≤ b ∧ b ≤ 500) ∧ -10000 ≤ x ∧ x ≤ 10000) ((0 ≤ i ∧ i < μ 63 13) ∧ μ 53 i.toNatClampNeg < 10)) ∧ ov1 = ov))) [Value.ref (zob E 7), Value.int i, Value.int a, Value.int b, Value.int x].toArray s 0 0 (zA E s.heap.size)) 0 [some (.ref (zob E 7)), some (.int (i)), some (.int (a)), some (.int (b)), some (.int (x)), none, none] [] μ ov
  refine z_aloadn (i := 0) (pc := 0) C dX5_calibrate_0 rfl rfl ?_
  refine z_iloadn (i := 1) (pc := 1) C dX5_calibrate_1 rfl rfl ?_
  refine z_callVi (pc := 2) (n := 1) (As := [.int (i)]) (rest := []) C (c_X5_isLink l E sa (μ := μ) (ov := ov) i n hcl hnl) gX5_calibrate_X5_isLink rfl zfV_X5_isLink ⟨Nat.le_of_ble_eq_true rfl, Nat.le_of_ble_eq_true rfl⟩ rfl (zRec_X5 E) rfl (Nat.le_of_ble_eq_true rfl) ⟨Nat.zero_le _, Nat.zero_le _⟩ dX5_calibrate_2 (fun r9 μ9 ov9 hp => ?_)
  have e1 := hp.1.symm
  have e2 := hp.2.1.symm
  have e3 := hp.2.2.symm
  clear hp
  subst e1 e2 e3
  refine z_istore5 (pc := 5) C (by decide) (fun w hw => by cases hw; exact (show ¬ (1 = 2) from by decide)) dX5_calibrate_5 ?_
  refine z_aloadn (i := 0) (pc := 7) C dX5_calibrate_7 rfl rfl ?_
  refine z_iload (i := 5) (pc := 8) C dX5_calibrate_8 rfl ?_
  have J1 : ∀ v : Int32, v = zb ((0 ≤ a ∧ a ≤ 500) ∧ (a ≤ b ∧ b ≤ 500) ∧ -10000 ≤ x ∧ x ≤ 10000) → zW p l e (zR 2 43 0 0) s m [Value.ref (zob E 7), Value.int i, Value.int a, Value.int b, Value.int x].toArray below meth c E 7 0 0 (MQ below (zQi E s.heap.size (fun r μ1 ov1 => (((0 ≤ i ∧ i < μ 63 13) ∧ ((0 ≤ a ∧ a ≤ 500) ∧ (a ≤ b ∧ b ≤ 500) ∧ -10000 ≤ x ∧ x ≤ 10000) ∧ ((0 ≤ i ∧ i < μ 63 13) ∧ μ 53 i.toNatClampNeg < 10)) ∧ r = μ 53 i.toNatClampNeg + 1 ∧ (∃ g, g < 10 ∧ μ 53 i.toNatClampNeg = nI g ∧ μ1 = zu (zu (zu (zu (zu μ 63 19 0) 54 (10 * i.toNatClampNeg + g) a) 55 (10 * i.toNatClampNeg + g) b) 56 (10 * i.toNatClampNeg + g) x) 53 i.toNatClampNeg (nI (g + 1))) ∧ ov1 = ov) ∨ (¬ ((0 ≤ i ∧ i < μ 63 13) ∧ ((0 ≤ a ∧ a ≤ 500) ∧ (a ≤ b ∧ b ≤ 500) ∧ -10000 ≤ x ∧ x ≤ 10000) ∧ ((0 ≤ i ∧ i < μ 63 13) ∧ μ 53 i.toNatClampNeg < 10)) ∧ r = 0 ∧ μ1 = zu μ 63 19 (zgo (0 ≤ i ∧ i < μ 63 13) ((0 ≤ a ∧ a ≤ 500) ∧ (a ≤ b ∧ b ≤ 500) ∧ -10000 ≤ x ∧ x ≤ 10000) ((0 ≤ i ∧ i < μ 63 13) ∧ μ 53 i.toNatClampNeg < 10)) ∧ ov1 = ov))) [Value.ref (zob E 7), Value.int i, Value.int a, Value.int b, Value.int x].toArray s 0 0 (zA E s.heap.size)) 51 [some (.ref (zob E 7)), some (.int (i)), some (.int (a)), some (.int (b)), some (.int (x)), some (.int (zb (0 ≤ i ∧ i < μ 63 13))), none] [.int (v), .int (zb (0 ≤ i ∧ i < μ 63 13)), .ref (zob E 7)] μ ov := by
    intro v hv
    subst hv
    have J2 : ∀ v : Int32, v = zb ((0 ≤ i ∧ i < μ 63 13) ∧ μ 53 i.toNatClampNeg < 10) → zW p l e (zR 2 43 0 0) s m [Value.ref (zob E 7), Value.int i, Value.int a, Value.int b, Value.int x].toArray below meth c E 7 0 0 (MQ below (zQi E s.heap.size (fun r μ1 ov1 => (((0 ≤ i ∧ i < μ 63 13) ∧ ((0 ≤ a ∧ a ≤ 500) ∧ (a ≤ b ∧ b ≤ 500) ∧ -10000 ≤ x ∧ x ≤ 10000) ∧ ((0 ≤ i ∧ i < μ 63 13) ∧ μ 53 i.toNatClampNeg < 10)) ∧ r = μ 53 i.toNatClampNeg + 1 ∧ (∃ g, g < 10 ∧ μ 53 i.toNatClampNeg = nI g ∧ μ1 = zu (zu (zu (zu (zu μ 63 19 0) 54 (10 * i.toNatClampNeg + g) a) 55 (10 * i.toNatClampNeg + g) b) 56 (10 * i.toNatClampNeg + g) x) 53 i.toNatClampNeg (nI (g + 1))) ∧ ov1 = ov) ∨ (¬ ((0 ≤ i ∧ i < μ 63 13) ∧ ((0 ≤ a ∧ a ≤ 500) ∧ (a ≤ b ∧ b ≤ 500) ∧ -10000 ≤ x ∧ x ≤ 10000) ∧ ((0 ≤ i ∧ i < μ 63 13) ∧ μ 53 i.toNatClampNeg < 10)) ∧ r = 0 ∧ μ1 = zu μ 63 19 (zgo (0 ≤ i ∧ i < μ 63 13) ((0 ≤ a ∧ a ≤ 500) ∧ (a ≤ b ∧ b ≤ 500) ∧ -10000 ≤ x ∧ x ≤ 10000) ((0 ≤ i ∧ i < μ 63 13) ∧ μ 53 i.toNatClampNeg < 10)) ∧ ov1 = ov))) [Value.ref (zob E 7), Value.int i, Value.int a, Value.int b, Value.int x].toArray s 0 0 (zA E s.heap.size)) 81 [some (.ref (zob E 7)), some (.int (i)), some (.int (a)), some (.int (b)), some (.int (x)), some (.int (zb (0 ≤ i ∧ i < μ 63 13))), none] [.int (v), .int (zb ((0 ≤ a ∧ a ≤ 500) ∧ (a ≤ b ∧ b ≤ 500) ∧ -10000 ≤ x ∧ x ≤ 10000)), .int (zb (0 ≤ i ∧ i < μ 63 13)), .ref (zob E 7)] μ ov := by
      intro v hv
      subst hv
      refine z_callVi (pc := 81) (n := 3) (As := [.int (zb (0 ≤ i ∧ i < μ 63 13)), .int (zb ((0 ≤ a ∧ a ≤ 500) ∧ (a ≤ b ∧ b ≤ 500) ∧ -10000 ≤ x ∧ x ≤ 10000)), .int (zb ((0 ≤ i ∧ i < μ 63 13) ∧ μ 53 i.toNatClampNeg < 10))]) (rest := []) C (c_X5_goes l E sa (μ := μ) (ov := ov) (0 ≤ i ∧ i < μ 63 13) ((0 ≤ a ∧ a ≤ 500) ∧ (a ≤ b ∧ b ≤ 500) ∧ -10000 ≤ x ∧ x ≤ 10000) ((0 ≤ i ∧ i < μ 63 13) ∧ μ 53 i.toNatClampNeg < 10) rfl rfl rfl) gX5_calibrate_X5_goes rfl zfV_X5_goes ⟨Nat.le_of_ble_eq_true rfl, Nat.le_of_ble_eq_true rfl⟩ rfl (zRec_X5 E) rfl (Nat.le_of_ble_eq_true rfl) ⟨Nat.zero_le _, Nat.zero_le _⟩ dX5_calibrate_81 (fun r9 μ9 ov9 hp => ?_)
      have e1 := hp.1.symm
      have e2 := hp.2.1.symm
      have e3 := hp.2.2.symm
      clear hp
      subst e1 e2 e3
      refine z_if_ne (tgt := 89) (pc := 84) C dX5_calibrate_84 (by decide) (fun c_g => ?_) (fun c_g => ?_)
      · rw [zb_ne0] at c_g
        obtain ⟨ν, hν⟩ : ∃ ν, ν = zu μ 63 19 0 := ⟨_, rfl⟩
        have hk : ∀ b, b ≠ 63 → ν b = μ b := fun b h => by rw [hν]; exact zu_n _ _ _ h
        have h63 : ∀ j, j ≠ 19 → ν 63 j = μ 63 j := fun j h => by rw [hν, zu_s, upd_n _ _ h]
        refine z_mem (μ' := ν) (by rw [hν, zgo_t c_g]) ?_
        obtain ⟨k, hkk, hik⟩ := znat (n := n) c_g.1.1 (by rw [← hcl]; exact c_g.1.2) (by omega)
        have eik : i.toNatClampNeg = k := by rw [hik, nI_clamp (by omega)]
        obtain ⟨g, hg0, eg⟩ := hgv k (by omega)
        have hg : g < 10 := by have h := c_g.2.2.2; rw [eik, eg, show (10 : Int32) = nI 10 from rfl, nI_ltI (by omega) (by omega)] at h; exact h
        have e53 : ν 53 k = nI g := by rw [hk 53 (by decide)]; exact eg
        refine z_bipush (v := 10) (pc := 89) C dX5_calibrate_89 (by decide) ?_
        refine z_iloadn (i := 1) (pc := 91) C dX5_calibrate_91 rfl rfl ?_
        refine z_imul (pc := 92) C dX5_calibrate_92 ?_
        refine z_aloadn (i := 0) (pc := 93) C dX5_calibrate_93 rfl rfl ?_
        refine zg_X5_given (pc := 94) C dX5_calibrate_94 iX5 f55 ?_
        refine z_iloadn (i := 1) (pc := 97) C dX5_calibrate_97 rfl rfl ?_
        refine z_iald (pc := 98) C 53 k (by decide) rfl hik (show k < 8 by omega) dX5_calibrate_98 ?_
        refine z_iadd (pc := 99) C dX5_calibrate_99 ?_
        refine z_topi (y := nI (10 * k + g)) (by rw [e53, hik, show (10 : Int32) = nI 10 from rfl, pk_mul, nI_add]) ?_
        refine z_istore6 (pc := 100) C (by decide) (fun w hw => by cases hw; exact (show ¬ (1 = 2) from by decide)) dX5_calibrate_100 ?_
        refine z_aloadn (i := 0) (pc := 102) C dX5_calibrate_102 rfl rfl ?_
        refine zg_X5_from (pc := 103) C dX5_calibrate_103 iX5 f58 ?_
        refine z_iload (i := 6) (pc := 106) C dX5_calibrate_106 rfl ?_
        refine z_iloadn (i := 2) (pc := 108) C dX5_calibrate_108 rfl rfl ?_
        refine z_iast (pc := 109) C 54 (10 * k + g) (by decide) rfl rfl (show 10 * k + g < 80 by omega) dX5_calibrate_109 ?_
        refine z_aloadn (i := 0) (pc := 110) C dX5_calibrate_110 rfl rfl ?_
        refine zg_X5_to (pc := 111) C dX5_calibrate_111 iX5 f61 ?_
        refine z_iload (i := 6) (pc := 114) C dX5_calibrate_114 rfl ?_
        refine z_iloadn (i := 3) (pc := 116) C dX5_calibrate_116 rfl rfl ?_
        refine z_iast (pc := 117) C 55 (10 * k + g) (by decide) rfl rfl (show 10 * k + g < 80 by omega) dX5_calibrate_117 ?_
        refine z_aloadn (i := 0) (pc := 118) C dX5_calibrate_118 rfl rfl ?_
        refine zg_X5_takes (pc := 119) C dX5_calibrate_119 iX5 f64 ?_
        refine z_iload (i := 6) (pc := 122) C dX5_calibrate_122 rfl ?_
        refine z_iload (i := 4) (pc := 124) C dX5_calibrate_124 rfl ?_
        refine z_iast (pc := 126) C 56 (10 * k + g) (by decide) rfl rfl (show 10 * k + g < 80 by omega) dX5_calibrate_126 ?_
        refine z_aloadn (i := 0) (pc := 127) C dX5_calibrate_127 rfl rfl ?_
        refine zg_X5_given (pc := 128) C dX5_calibrate_128 iX5 f55 ?_
        refine z_iloadn (i := 1) (pc := 131) C dX5_calibrate_131 rfl rfl ?_
        refine z_dup2 (pc := 132) C dX5_calibrate_132 rfl rfl ?_
        refine z_iald (pc := 133) C 53 k (by decide) rfl hik (show k < 8 by omega) dX5_calibrate_133 ?_
        refine z_iconst (v := 1) (pc := 134) C dX5_calibrate_134 (by decide) ?_
        refine z_iadd (pc := 135) C dX5_calibrate_135 ?_
        refine z_topi (y := nI (g + 1)) (by rw [zu_n _ _ _ (by decide), zu_n _ _ _ (by decide), zu_n _ _ _ (by decide), e53, nI_1]) ?_
        refine z_iast (pc := 136) C 53 k (by decide) rfl hik (show k < 8 by omega) dX5_calibrate_136 ?_
        refine z_aloadn (i := 0) (pc := 137) C dX5_calibrate_137 rfl rfl ?_
        refine zg_X5_given (pc := 138) C dX5_calibrate_138 iX5 f55 ?_
        refine z_iloadn (i := 1) (pc := 141) C dX5_calibrate_141 rfl rfl ?_
        refine z_iald (pc := 142) C 53 k (by decide) rfl hik (show k < 8 by omega) dX5_calibrate_142 ?_
        exact z_iret (pc := 143) C hr hlk (Or.inl ⟨c_g, by rw [zu_s, upd_s, eik, eg, nI_1], ⟨g, hg, by rw [eik]; exact eg, by rw [eik]; subst hν; rfl⟩, rfl⟩) (Nat.zero_le _) (Nat.zero_le _) dX5_calibrate_143
      · rw [zb_eq0] at c_g
        refine z_iconst (v := 0) (pc := 87) C dX5_calibrate_87 (by decide) ?_
        exact z_iret (pc := 88) C hr hlk (Or.inr ⟨c_g, rfl, rfl, rfl⟩) (Nat.zero_le _) (Nat.zero_le _) dX5_calibrate_88
    refine z_iload (i := 5) (pc := 51) C dX5_calibrate_51 rfl ?_
    refine z_if_eq (tgt := 80) (pc := 53) C dX5_calibrate_53 (by decide) (fun c_5 => ?_) (fun c_5 => ?_)
    · rw [zb_eq0] at c_5
      refine z_iconst (v := 0) (pc := 80) C dX5_calibrate_80 (by decide) ?_
      exact J2 _ (zb_f (fun h => c_5 (h.1))).symm
    · rw [zb_ne0] at c_5
      obtain ⟨k, hkk, hik⟩ := znat (n := n) c_5.1 (by rw [← hcl]; exact c_5.2) (by omega)
      have eik : i.toNatClampNeg = k := by rw [hik, nI_clamp (by omega)]
      refine z_aloadn (i := 0) (pc := 56) C dX5_calibrate_56 rfl rfl ?_
      refine zg_X5_given (pc := 57) C dX5_calibrate_57 iX5 f55 ?_
      refine z_iload (i := 5) (pc := 60) C dX5_calibrate_60 rfl ?_
      refine z_if_eq (tgt := 69) (pc := 62) C dX5_calibrate_62 (by decide) (fun c_6 => absurd c_5 (zb_eq0.mp c_6)) (fun c_6 => ?_)
      refine z_iloadn (i := 1) (pc := 65) C dX5_calibrate_65 rfl rfl ?_
      refine z_goto (tgt := 70) (pc := 66) C dX5_calibrate_66 (by decide) ?_
      refine z_iald (pc := 70) C 53 k (by decide) rfl hik (show k < 8 by omega) dX5_calibrate_70 ?_
      refine z_bipush (v := 10) (pc := 71) C dX5_calibrate_71 (by decide) ?_
      rw [← eik]
      refine z_icmp_ge (tgt := 80) (pc := 73) C dX5_calibrate_73 (by decide) (fun c_7 => ?_) (fun c_7 => ?_)
      · refine z_iconst (v := 0) (pc := 80) C dX5_calibrate_80 (by decide) ?_
        exact J2 _ (zb_f (fun h => zno_le c_7 (h.2))).symm
      · refine z_iconst (v := 1) (pc := 76) C dX5_calibrate_76 (by decide) ?_
        refine z_goto (tgt := 81) (pc := 77) C dX5_calibrate_77 (by decide) ?_
        exact J2 _ (zb_t ⟨c_5, (znot_le c_7)⟩).symm
  refine z_iloadn (i := 2) (pc := 10) C dX5_calibrate_10 rfl rfl ?_
  refine z_iconst (v := 0) (pc := 11) C dX5_calibrate_11 (by decide) ?_
  refine z_sipush (v := 500) (pc := 12) C dX5_calibrate_12 (by decide) ?_
  refine z_callSi (pc := 15) (n := 3) (As := [.int (a), .int (0), .int (500)]) (rest := [.int (zb (0 ≤ i ∧ i < μ 63 13)), .ref (zob E 7)]) C (c_X5_in l E sa (μ := μ) (ov := ov) (a) (0) (500)) gX5_calibrate_X5_in rfl zfV_X5_in.2 ⟨Nat.le_of_ble_eq_true rfl, Nat.le_of_ble_eq_true rfl⟩ rfl rfl (Nat.le_of_ble_eq_true rfl) ⟨Nat.zero_le _, Nat.zero_le _⟩ dX5_calibrate_15 (fun r9 μ9 ov9 hp => ?_)
  have e1 := hp.1.symm
  have e2 := hp.2.1.symm
  have e3 := hp.2.2.symm
  clear hp
  subst e1 e2 e3
  refine z_if_eq (tgt := 50) (pc := 18) C dX5_calibrate_18 (by decide) (fun c_2 => ?_) (fun c_2 => ?_)
  · rw [zb_eq0] at c_2
    refine z_iconst (v := 0) (pc := 50) C dX5_calibrate_50 (by decide) ?_
    exact J1 _ (zb_f (fun h => c_2 (h.1))).symm
  · rw [zb_ne0] at c_2
    refine z_iloadn (i := 3) (pc := 21) C dX5_calibrate_21 rfl rfl ?_
    refine z_iloadn (i := 2) (pc := 22) C dX5_calibrate_22 rfl rfl ?_
    refine z_sipush (v := 500) (pc := 23) C dX5_calibrate_23 (by decide) ?_
    refine z_callSi (pc := 26) (n := 3) (As := [.int (b), .int (a), .int (500)]) (rest := [.int (zb (0 ≤ i ∧ i < μ 63 13)), .ref (zob E 7)]) C (c_X5_in l E sa (μ := μ) (ov := ov) (b) (a) (500)) gX5_calibrate_X5_in rfl zfV_X5_in.2 ⟨Nat.le_of_ble_eq_true rfl, Nat.le_of_ble_eq_true rfl⟩ rfl rfl (Nat.le_of_ble_eq_true rfl) ⟨Nat.zero_le _, Nat.zero_le _⟩ dX5_calibrate_26 (fun r9 μ9 ov9 hp => ?_)
    have e1 := hp.1.symm
    have e2 := hp.2.1.symm
    have e3 := hp.2.2.symm
    clear hp
    subst e1 e2 e3
    refine z_if_eq (tgt := 50) (pc := 29) C dX5_calibrate_29 (by decide) (fun c_3 => ?_) (fun c_3 => ?_)
    · rw [zb_eq0] at c_3
      refine z_iconst (v := 0) (pc := 50) C dX5_calibrate_50 (by decide) ?_
      exact J1 _ (zb_f (fun h => c_3 (h.2.1))).symm
    · rw [zb_ne0] at c_3
      refine z_iload (i := 4) (pc := 32) C dX5_calibrate_32 rfl ?_
      refine z_sipush (v := -10000) (pc := 34) C dX5_calibrate_34 (by decide) ?_
      refine z_sipush (v := 10000) (pc := 37) C dX5_calibrate_37 (by decide) ?_
      refine z_callSi (pc := 40) (n := 3) (As := [.int (x), .int (-10000), .int (10000)]) (rest := [.int (zb (0 ≤ i ∧ i < μ 63 13)), .ref (zob E 7)]) C (c_X5_in l E sa (μ := μ) (ov := ov) (x) (-10000) (10000)) gX5_calibrate_X5_in rfl zfV_X5_in.2 ⟨Nat.le_of_ble_eq_true rfl, Nat.le_of_ble_eq_true rfl⟩ rfl rfl (Nat.le_of_ble_eq_true rfl) ⟨Nat.zero_le _, Nat.zero_le _⟩ dX5_calibrate_40 (fun r9 μ9 ov9 hp => ?_)
      have e1 := hp.1.symm
      have e2 := hp.2.1.symm
      have e3 := hp.2.2.symm
      clear hp
      subst e1 e2 e3
      refine z_if_eq (tgt := 50) (pc := 43) C dX5_calibrate_43 (by decide) (fun c_4 => ?_) (fun c_4 => ?_)
      · rw [zb_eq0] at c_4
        refine z_iconst (v := 0) (pc := 50) C dX5_calibrate_50 (by decide) ?_
        exact J1 _ (zb_f (fun h => c_4 (h.2.2))).symm
      · rw [zb_ne0] at c_4
        refine z_iconst (v := 1) (pc := 46) C dX5_calibrate_46 (by decide) ?_
        refine z_goto (tgt := 51) (pc := 47) C dX5_calibrate_47 (by decide) ?_
        exact J1 _ (zb_t ⟨c_2, c_3, c_4⟩).symm
set_option maxHeartbeats 4000000 in
set_option maxRecDepth 100000 in
theorem c_X5_bounds (l : Launch) (E : zE) (sa : Nat → Nat) {μ : zM} {ov : Nat → Int64} {a b : Int32} : zMv l E sa yX5_bounds wsX5_bounds 1 23 0 0 [.ref (zob E 7), .int a, .int b] μ ov (fun μ1 ov1 => ((((0 ≤ a ∧ a ≤ 499) ∧ 1 ≤ b ∧ b ≤ 1000) ∧ (True) ∧ (True)) ∧ μ1 = zu (zu (zu μ 63 19 0) 63 15 a) 63 16 b ∧ ov1 = ov) ∨ (¬ (((0 ≤ a ∧ a ≤ 499) ∧ 1 ≤ b ∧ b ≤ 1000) ∧ (True) ∧ (True)) ∧ μ1 = zu μ 63 19 (zgo ((0 ≤ a ∧ a ≤ 499) ∧ 1 ≤ b ∧ b ≤ 1000) (True) (True)) ∧ ov1 = ov)) := by
  refine z_ofMv (cc := cX5_bounds) (nL := 3) (ret := none) (own := RX5) zfp_X5_bounds rfl (by simp [Value.category]) (Nat.le_of_ble_eq_true rfl) rfl ?_
  intro p e s m below meth c C hr hlk
  have iX5 : ∀ w ∈ wsX50, w ∈ wsX5_bounds := by decide +kernel
  have f86 := C.1.2.2.2.2 (.fieldLink RX5 86 "TickFallModel" "doubt" "I") (by decide +kernel)
  have f90 := C.1.2.2.2.2 (.fieldLink RX5 90 "TickFallModel" "step" "I") (by decide +kernel)
  show zW p l e (zR 1 23 0 0) s m [Value.ref (zob E 7), Value.int a, Value.int b].toArray below meth c E 3 0 0 (MQ below (zQv E s.heap.size (fun μ1 ov1 => ((((0 ≤ a ∧ a ≤ 499) ∧ 1 ≤ b ∧ b ≤ 1000) ∧ (True) ∧ (True)) ∧ μ1 = zu (zu (zu μ 63 19 0) 63 15 a) 63 16 b ∧ ov1 = ov) ∨ (¬ (((0 ≤ a ∧ a ≤ 499) ∧ 1 ≤ b ∧ b ≤ 1000) ∧ (True) ∧ (True)) ∧ μ1 = zu μ 63 19 (zgo ((0 ≤ a ∧ a ≤ 499) ∧ 1 ≤ b ∧ b ≤ 1000) (True) (True)) ∧ ov1 = ov))) [Value.ref (zob E 7), Value.int a, Value.int b].toArray s 0 0 (zA E s.heap.size)) 0 [some (.ref (zob E 7)), some (.int (a)), some (.int (b))] [] μ ov
  refine z_aloadn (i := 0) (pc := 0) C dX5_bounds_0 rfl rfl ?_
  have J1 : ∀ v : Int32, v = zb ((0 ≤ a ∧ a ≤ 499) ∧ 1 ≤ b ∧ b ≤ 1000) → zW p l e (zR 1 23 0 0) s m [Value.ref (zob E 7), Value.int a, Value.int b].toArray below meth c E 3 0 0 (MQ below (zQv E s.heap.size (fun μ1 ov1 => ((((0 ≤ a ∧ a ≤ 499) ∧ 1 ≤ b ∧ b ≤ 1000) ∧ (True) ∧ (True)) ∧ μ1 = zu (zu (zu μ 63 19 0) 63 15 a) 63 16 b ∧ ov1 = ov) ∨ (¬ (((0 ≤ a ∧ a ≤ 499) ∧ 1 ≤ b ∧ b ≤ 1000) ∧ (True) ∧ (True)) ∧ μ1 = zu μ 63 19 (zgo ((0 ≤ a ∧ a ≤ 499) ∧ 1 ≤ b ∧ b ≤ 1000) (True) (True)) ∧ ov1 = ov))) [Value.ref (zob E 7), Value.int a, Value.int b].toArray s 0 0 (zA E s.heap.size)) 28 [some (.ref (zob E 7)), some (.int (a)), some (.int (b))] [.int (v), .ref (zob E 7)] μ ov := by
    intro v hv
    subst hv
    refine z_iconst (v := 1) (pc := 28) C dX5_bounds_28 (by decide) ?_
    refine z_iconst (v := 1) (pc := 29) C dX5_bounds_29 (by decide) ?_
    refine z_callVi (pc := 30) (n := 3) (As := [.int (zb ((0 ≤ a ∧ a ≤ 499) ∧ 1 ≤ b ∧ b ≤ 1000)), .int (1), .int (1)]) (rest := []) C (c_X5_goes l E sa (μ := μ) (ov := ov) ((0 ≤ a ∧ a ≤ 499) ∧ 1 ≤ b ∧ b ≤ 1000) (True) (True) rfl (zb_t trivial).symm (zb_t trivial).symm) gX5_bounds_X5_goes rfl zfV_X5_goes ⟨Nat.le_of_ble_eq_true rfl, Nat.le_of_ble_eq_true rfl⟩ rfl (zRec_X5 E) rfl (Nat.le_of_ble_eq_true rfl) ⟨Nat.zero_le _, Nat.zero_le _⟩ dX5_bounds_30 (fun r9 μ9 ov9 hp => ?_)
    have e1 := hp.1.symm
    have e2 := hp.2.1.symm
    have e3 := hp.2.2.symm
    clear hp
    subst e1 e2 e3
    refine z_if_eq (tgt := 46) (pc := 33) C dX5_bounds_33 (by decide) (fun c_g => ?_) (fun c_g => ?_)
    · rw [zb_eq0] at c_g
      exact z_vret (pc := 46) C hr hlk (Or.inr ⟨c_g, rfl, rfl⟩) (Nat.zero_le _) (Nat.zero_le _) dX5_bounds_46
    · rw [zb_ne0] at c_g
      obtain ⟨ν, hν⟩ : ∃ ν, ν = zu μ 63 19 0 := ⟨_, rfl⟩
      have hk : ∀ b, b ≠ 63 → ν b = μ b := fun b h => by rw [hν]; exact zu_n _ _ _ h
      have h63 : ∀ j, j ≠ 19 → ν 63 j = μ 63 j := fun j h => by rw [hν, zu_s, upd_n _ _ h]
      refine z_mem (μ' := ν) (by rw [hν, zgo_t c_g]) ?_
      refine z_aloadn (i := 0) (pc := 36) C dX5_bounds_36 rfl rfl ?_
      refine z_iloadn (i := 1) (pc := 37) C dX5_bounds_37 rfl rfl ?_
      refine zp_X5_doubt (pc := 38) C dX5_bounds_38 iX5 f86 ?_
      refine z_aloadn (i := 0) (pc := 41) C dX5_bounds_41 rfl rfl ?_
      refine z_iloadn (i := 2) (pc := 42) C dX5_bounds_42 rfl rfl ?_
      refine zp_X5_step (pc := 43) C dX5_bounds_43 iX5 f90 ?_
      exact z_vret (pc := 46) C hr hlk (Or.inl ⟨c_g, by subst hν; rfl, rfl⟩) (Nat.zero_le _) (Nat.zero_le _) dX5_bounds_46
  refine z_iloadn (i := 1) (pc := 1) C dX5_bounds_1 rfl rfl ?_
  refine z_iconst (v := 0) (pc := 2) C dX5_bounds_2 (by decide) ?_
  refine z_sipush (v := 499) (pc := 3) C dX5_bounds_3 (by decide) ?_
  refine z_callSi (pc := 6) (n := 3) (As := [.int (a), .int (0), .int (499)]) (rest := [.ref (zob E 7)]) C (c_X5_in l E sa (μ := μ) (ov := ov) (a) (0) (499)) gX5_bounds_X5_in rfl zfV_X5_in.2 ⟨Nat.le_of_ble_eq_true rfl, Nat.le_of_ble_eq_true rfl⟩ rfl rfl (Nat.le_of_ble_eq_true rfl) ⟨Nat.zero_le _, Nat.zero_le _⟩ dX5_bounds_6 (fun r9 μ9 ov9 hp => ?_)
  have e1 := hp.1.symm
  have e2 := hp.2.1.symm
  have e3 := hp.2.2.symm
  clear hp
  subst e1 e2 e3
  refine z_if_eq (tgt := 27) (pc := 9) C dX5_bounds_9 (by decide) (fun c_1 => ?_) (fun c_1 => ?_)
  · rw [zb_eq0] at c_1
    refine z_iconst (v := 0) (pc := 27) C dX5_bounds_27 (by decide) ?_
    exact J1 _ (zb_f (fun h => c_1 (h.1))).symm
  · rw [zb_ne0] at c_1
    refine z_iloadn (i := 2) (pc := 12) C dX5_bounds_12 rfl rfl ?_
    refine z_iconst (v := 1) (pc := 13) C dX5_bounds_13 (by decide) ?_
    refine z_sipush (v := 1000) (pc := 14) C dX5_bounds_14 (by decide) ?_
    refine z_callSi (pc := 17) (n := 3) (As := [.int (b), .int (1), .int (1000)]) (rest := [.ref (zob E 7)]) C (c_X5_in l E sa (μ := μ) (ov := ov) (b) (1) (1000)) gX5_bounds_X5_in rfl zfV_X5_in.2 ⟨Nat.le_of_ble_eq_true rfl, Nat.le_of_ble_eq_true rfl⟩ rfl rfl (Nat.le_of_ble_eq_true rfl) ⟨Nat.zero_le _, Nat.zero_le _⟩ dX5_bounds_17 (fun r9 μ9 ov9 hp => ?_)
    have e1 := hp.1.symm
    have e2 := hp.2.1.symm
    have e3 := hp.2.2.symm
    clear hp
    subst e1 e2 e3
    refine z_if_eq (tgt := 27) (pc := 20) C dX5_bounds_20 (by decide) (fun c_2 => ?_) (fun c_2 => ?_)
    · rw [zb_eq0] at c_2
      refine z_iconst (v := 0) (pc := 27) C dX5_bounds_27 (by decide) ?_
      exact J1 _ (zb_f (fun h => c_2 (h.2))).symm
    · rw [zb_ne0] at c_2
      refine z_iconst (v := 1) (pc := 23) C dX5_bounds_23 (by decide) ?_
      refine z_goto (tgt := 28) (pc := 24) C dX5_bounds_24 (by decide) ?_
      exact J1 _ (zb_t ⟨c_1, c_2⟩).symm
set_option maxHeartbeats 4000000 in
set_option maxRecDepth 100000 in
theorem c_X5_vote (l : Launch) (E : zE) (sa : Nat → Nat) {μ : zM} {ov : Nat → Int64} {i b : Int32} (hb : b = 0 ∨ b = 1) : zMi l E sa yX5_vote wsX5_vote 1 23 0 0 [.ref (zob E 7), .int i, .int b] μ ov (fun r μ1 ov1 => (((0 ≤ i ∧ i ≤ 6) ∧ (True) ∧ (True)) ∧ r = nI (zcnt (zhoM (zu μ 58 i.toNatClampNeg b)) 7) ∧ μ1 = zu (zu μ 63 19 0) 58 i.toNatClampNeg b ∧ ov1 = ov) ∨ (¬ ((0 ≤ i ∧ i ≤ 6) ∧ (True) ∧ (True)) ∧ r = 0 ∧ μ1 = zu μ 63 19 (zgo (0 ≤ i ∧ i ≤ 6) (True) (True)) ∧ ov1 = ov)) := by
  refine z_ofMi (cc := cX5_vote) (nL := 3) (ret := (some .int)) (own := RX5) zfp_X5_vote rfl (by simp [Value.category]) (Nat.le_of_ble_eq_true rfl) rfl ?_
  intro p e s m below meth c C hr hlk
  have iX5 : ∀ w ∈ wsX50, w ∈ wsX5_vote := by decide +kernel
  have f70 := C.1.2.2.2.2 (.fieldLink RX5 70 "TickFallModel" "isFor" "[Z") (by decide +kernel)
  show zW p l e (zR 1 23 0 0) s m [Value.ref (zob E 7), Value.int i, Value.int b].toArray below meth c E 3 0 0 (MQ below (zQi E s.heap.size (fun r μ1 ov1 => (((0 ≤ i ∧ i ≤ 6) ∧ (True) ∧ (True)) ∧ r = nI (zcnt (zhoM (zu μ 58 i.toNatClampNeg b)) 7) ∧ μ1 = zu (zu μ 63 19 0) 58 i.toNatClampNeg b ∧ ov1 = ov) ∨ (¬ ((0 ≤ i ∧ i ≤ 6) ∧ (True) ∧ (True)) ∧ r = 0 ∧ μ1 = zu μ 63 19 (zgo (0 ≤ i ∧ i ≤ 6) (True) (True)) ∧ ov1 = ov))) [Value.ref (zob E 7), Value.int i, Value.int b].toArray s 0 0 (zA E s.heap.size)) 0 [some (.ref (zob E 7)), some (.int (i)), some (.int (b))] [] μ ov
  refine z_aloadn (i := 0) (pc := 0) C dX5_vote_0 rfl rfl ?_
  refine z_iloadn (i := 1) (pc := 1) C dX5_vote_1 rfl rfl ?_
  refine z_iconst (v := 0) (pc := 2) C dX5_vote_2 (by decide) ?_
  refine z_bipush (v := 6) (pc := 3) C dX5_vote_3 (by decide) ?_
  refine z_callSi (pc := 5) (n := 3) (As := [.int (i), .int (0), .int (6)]) (rest := [.ref (zob E 7)]) C (c_X5_in l E sa (μ := μ) (ov := ov) (i) (0) (6)) gX5_vote_X5_in rfl zfV_X5_in.2 ⟨Nat.le_of_ble_eq_true rfl, Nat.le_of_ble_eq_true rfl⟩ rfl rfl (Nat.le_of_ble_eq_true rfl) ⟨Nat.zero_le _, Nat.zero_le _⟩ dX5_vote_5 (fun r9 μ9 ov9 hp => ?_)
  have e1 := hp.1.symm
  have e2 := hp.2.1.symm
  have e3 := hp.2.2.symm
  clear hp
  subst e1 e2 e3
  refine z_iconst (v := 1) (pc := 8) C dX5_vote_8 (by decide) ?_
  refine z_iconst (v := 1) (pc := 9) C dX5_vote_9 (by decide) ?_
  refine z_callVi (pc := 10) (n := 3) (As := [.int (zb ((0) ≤ i ∧ i ≤ 6)), .int (1), .int (1)]) (rest := []) C (c_X5_goes l E sa (μ := μ) (ov := ov) (0 ≤ i ∧ i ≤ 6) (True) (True) rfl (zb_t trivial).symm (zb_t trivial).symm) gX5_vote_X5_goes rfl zfV_X5_goes ⟨Nat.le_of_ble_eq_true rfl, Nat.le_of_ble_eq_true rfl⟩ rfl (zRec_X5 E) rfl (Nat.le_of_ble_eq_true rfl) ⟨Nat.zero_le _, Nat.zero_le _⟩ dX5_vote_10 (fun r9 μ9 ov9 hp => ?_)
  have e1 := hp.1.symm
  have e2 := hp.2.1.symm
  have e3 := hp.2.2.symm
  clear hp
  subst e1 e2 e3
  refine z_if_ne (tgt := 18) (pc := 13) C dX5_vote_13 (by decide) (fun c_g => ?_) (fun c_g => ?_)
  · rw [zb_ne0] at c_g
    obtain ⟨ν, hν⟩ : ∃ ν, ν = zu μ 63 19 0 := ⟨_, rfl⟩
    have hk : ∀ b, b ≠ 63 → ν b = μ b := fun b h => by rw [hν]; exact zu_n _ _ _ h
    have h63 : ∀ j, j ≠ 19 → ν 63 j = μ 63 j := fun j h => by rw [hν, zu_s, upd_n _ _ h]
    refine z_mem (μ' := ν) (by rw [hν, zgo_t c_g]) ?_
    obtain ⟨k, hk0, hi⟩ := nI_of2 (x := i) (M := 6) (n := 6) rfl (fun h => by have := c_g.1.1; rw [zlt] at h; rw [zle2] at this; omega) c_g.1.2
    have hik : i.toNatClampNeg = k := by rw [hi, nI_clamp (by omega)]
    refine z_aloadn (i := 0) (pc := 18) C dX5_vote_18 rfl rfl ?_
    refine zg_X5_isFor (pc := 19) C dX5_vote_19 iX5 f70 ?_
    refine z_iloadn (i := 1) (pc := 22) C dX5_vote_22 rfl rfl ?_
    refine z_iloadn (i := 2) (pc := 23) C dX5_vote_23 rfl rfl ?_
    refine z_bast (pc := 24) C 58 k (by decide) rfl hi (show k < 7 by omega) (zvnz hb) dX5_vote_24 ?_
    refine z_aloadn (i := 0) (pc := 25) C dX5_vote_25 rfl rfl ?_
    refine z_callVi (pc := 26) (n := 0) (As := []) (rest := []) C (c_X5_forIt l E sa (μ := zu ν 58 k (b)) (ov := ov)) gX5_vote_X5_forIt rfl zfV_X5_forIt ⟨Nat.le_of_ble_eq_true rfl, Nat.le_of_ble_eq_true rfl⟩ rfl (zRec_X5 E) rfl (Nat.le_of_ble_eq_true rfl) ⟨Nat.zero_le _, Nat.zero_le _⟩ dX5_vote_26 (fun r9 μ9 ov9 hp => ?_)
    have e1 := hp.1.symm
    have e2 := hp.2.1.symm
    have e3 := hp.2.2.symm
    clear hp
    subst e1 e2 e3
    exact z_iret (pc := 29) C hr hlk (Or.inl ⟨c_g, by rw [hik, show zhoM (zu ν 58 k b) = zhoM (zu μ 58 k b) from by funext j; unfold zhoM; rw [zu_s, zu_s, hk 58 (by decide)]], by rw [hik]; subst hν; rfl, rfl⟩) (Nat.zero_le _) (Nat.zero_le _) dX5_vote_29
  · rw [zb_eq0] at c_g
    refine z_iconst (v := 0) (pc := 16) C dX5_vote_16 (by decide) ?_
    exact z_iret (pc := 17) C hr hlk (Or.inr ⟨c_g, rfl, rfl, rfl⟩) (Nat.zero_le _) (Nat.zero_le _) dX5_vote_17
set_option maxHeartbeats 4000000 in
set_option maxRecDepth 100000 in
theorem c_X5_of (l : Launch) (E : zE) (sa : Nat → Nat) {μ : zM} {ov : Nat → Int64} {i w : Int32} (nc : Nat) (hc : μ 63 12 = nI nc) (hn : nc ≤ 6) : zMi l E sa yX5_of wsX5_of 2 43 0 0 [.ref (zob E 7), .int i, .int w] μ ov (fun r μ1 ov1 => (((0 ≤ i ∧ i < μ 63 12) ∧ (0 ≤ w ∧ w ≤ 2) ∧ (True)) ∧ r = (if w = 0 then μ 41 i.toNatClampNeg else if w = 1 then μ 38 i.toNatClampNeg else μ 40 i.toNatClampNeg) ∧ μ1 = zu μ 63 19 0 ∧ ov1 = ov) ∨ (¬ ((0 ≤ i ∧ i < μ 63 12) ∧ (0 ≤ w ∧ w ≤ 2) ∧ (True)) ∧ r = 0 ∧ μ1 = zu μ 63 19 (zgo (0 ≤ i ∧ i < μ 63 12) (0 ≤ w ∧ w ≤ 2) (True)) ∧ ov1 = ov)) := by
  refine z_ofMi (cc := cX5_of) (nL := 3) (ret := (some .int)) (own := RX5) zfp_X5_of rfl (by simp [Value.category]) (Nat.le_of_ble_eq_true rfl) rfl ?_
  intro p e s m below meth c C hr hlk
  have iX5 : ∀ w ∈ wsX50, w ∈ wsX5_of := by decide +kernel
  have f7 := C.1.2.2.2.2 (.fieldLink RX5 7 "TickFallModel" "rate" "[I") (by decide +kernel)
  have f16 := C.1.2.2.2.2 (.fieldLink RX5 16 "TickFallModel" "height" "[I") (by decide +kernel)
  have f19 := C.1.2.2.2.2 (.fieldLink RX5 19 "TickFallModel" "phase" "[I") (by decide +kernel)
  show zW p l e (zR 2 43 0 0) s m [Value.ref (zob E 7), Value.int i, Value.int w].toArray below meth c E 3 0 0 (MQ below (zQi E s.heap.size (fun r μ1 ov1 => (((0 ≤ i ∧ i < μ 63 12) ∧ (0 ≤ w ∧ w ≤ 2) ∧ (True)) ∧ r = (if w = 0 then μ 41 i.toNatClampNeg else if w = 1 then μ 38 i.toNatClampNeg else μ 40 i.toNatClampNeg) ∧ μ1 = zu μ 63 19 0 ∧ ov1 = ov) ∨ (¬ ((0 ≤ i ∧ i < μ 63 12) ∧ (0 ≤ w ∧ w ≤ 2) ∧ (True)) ∧ r = 0 ∧ μ1 = zu μ 63 19 (zgo (0 ≤ i ∧ i < μ 63 12) (0 ≤ w ∧ w ≤ 2) (True)) ∧ ov1 = ov))) [Value.ref (zob E 7), Value.int i, Value.int w].toArray s 0 0 (zA E s.heap.size)) 0 [some (.ref (zob E 7)), some (.int (i)), some (.int (w))] [] μ ov
  refine z_aloadn (i := 0) (pc := 0) C dX5_of_0 rfl rfl ?_
  refine z_aloadn (i := 0) (pc := 1) C dX5_of_1 rfl rfl ?_
  refine z_iloadn (i := 1) (pc := 2) C dX5_of_2 rfl rfl ?_
  refine z_callVi (pc := 3) (n := 1) (As := [.int (i)]) (rest := [.ref (zob E 7)]) C (c_X5_isClock l E sa (μ := μ) (ov := ov) i nc hc hn) gX5_of_X5_isClock rfl zfV_X5_isClock ⟨Nat.le_of_ble_eq_true rfl, Nat.le_of_ble_eq_true rfl⟩ rfl (zRec_X5 E) rfl (Nat.le_of_ble_eq_true rfl) ⟨Nat.zero_le _, Nat.zero_le _⟩ dX5_of_3 (fun r9 μ9 ov9 hp => ?_)
  have e1 := hp.1.symm
  have e2 := hp.2.1.symm
  have e3 := hp.2.2.symm
  clear hp
  subst e1 e2 e3
  refine z_iloadn (i := 2) (pc := 6) C dX5_of_6 rfl rfl ?_
  refine z_iconst (v := 0) (pc := 7) C dX5_of_7 (by decide) ?_
  refine z_iconst (v := 2) (pc := 8) C dX5_of_8 (by decide) ?_
  refine z_callSi (pc := 9) (n := 3) (As := [.int (w), .int (0), .int (2)]) (rest := [.int (zb (0 ≤ i ∧ i < μ 63 12)), .ref (zob E 7)]) C (c_X5_in l E sa (μ := μ) (ov := ov) (w) (0) (2)) gX5_of_X5_in rfl zfV_X5_in.2 ⟨Nat.le_of_ble_eq_true rfl, Nat.le_of_ble_eq_true rfl⟩ rfl rfl (Nat.le_of_ble_eq_true rfl) ⟨Nat.zero_le _, Nat.zero_le _⟩ dX5_of_9 (fun r9 μ9 ov9 hp => ?_)
  have e1 := hp.1.symm
  have e2 := hp.2.1.symm
  have e3 := hp.2.2.symm
  clear hp
  subst e1 e2 e3
  refine z_iconst (v := 1) (pc := 12) C dX5_of_12 (by decide) ?_
  refine z_callVi (pc := 13) (n := 3) (As := [.int (zb (0 ≤ i ∧ i < μ 63 12)), .int (zb ((0) ≤ w ∧ w ≤ 2)), .int (1)]) (rest := []) C (c_X5_goes l E sa (μ := μ) (ov := ov) (0 ≤ i ∧ i < μ 63 12) (0 ≤ w ∧ w ≤ 2) (True) rfl rfl (zb_t trivial).symm) gX5_of_X5_goes rfl zfV_X5_goes ⟨Nat.le_of_ble_eq_true rfl, Nat.le_of_ble_eq_true rfl⟩ rfl (zRec_X5 E) rfl (Nat.le_of_ble_eq_true rfl) ⟨Nat.zero_le _, Nat.zero_le _⟩ dX5_of_13 (fun r9 μ9 ov9 hp => ?_)
  have e1 := hp.1.symm
  have e2 := hp.2.1.symm
  have e3 := hp.2.2.symm
  clear hp
  subst e1 e2 e3
  refine z_if_ne (tgt := 21) (pc := 16) C dX5_of_16 (by decide) (fun c_g => ?_) (fun c_g => ?_)
  · rw [zb_ne0] at c_g
    obtain ⟨ν, hν⟩ : ∃ ν, ν = zu μ 63 19 0 := ⟨_, rfl⟩
    have hk : ∀ b, b ≠ 63 → ν b = μ b := fun b h => by rw [hν]; exact zu_n _ _ _ h
    have h63 : ∀ j, j ≠ 19 → ν 63 j = μ 63 j := fun j h => by rw [hν, zu_s, upd_n _ _ h]
    refine z_mem (μ' := ν) (by rw [hν, zgo_t c_g]) ?_
    obtain ⟨k, hkk, hik⟩ := znat (n := nc) c_g.1.1 (by rw [← hc]; exact c_g.1.2) (by omega)
    have eik : i.toNatClampNeg = k := by rw [hik, nI_clamp (by omega)]
    refine z_iloadn (i := 2) (pc := 21) C dX5_of_21 rfl rfl ?_
    refine z_if_ne (tgt := 34) (pc := 22) C dX5_of_22 (by decide) (fun c_1 => ?_) (fun c_1 => ?_)
    · refine z_iloadn (i := 2) (pc := 34) C dX5_of_34 rfl rfl ?_
      refine z_iconst (v := 1) (pc := 35) C dX5_of_35 (by decide) ?_
      refine z_icmp_ne (tgt := 48) (pc := 36) C dX5_of_36 (by decide) (fun c_2 => ?_) (fun c_2 => ?_)
      · refine z_aloadn (i := 0) (pc := 48) C dX5_of_48 rfl rfl ?_
        refine zg_X5_height (pc := 49) C dX5_of_49 iX5 f16 ?_
        refine z_iloadn (i := 1) (pc := 52) C dX5_of_52 rfl rfl ?_
        refine z_iald (pc := 53) C 40 k (by decide) rfl hik (show k < 6 by omega) dX5_of_53 ?_
        exact z_iret (pc := 54) C hr hlk (Or.inl ⟨c_g, by rw [if_neg c_1, if_neg c_2, eik, hk 40 (by decide)], hν, rfl⟩) (Nat.zero_le _) (Nat.zero_le _) dX5_of_54
      · refine z_aloadn (i := 0) (pc := 39) C dX5_of_39 rfl rfl ?_
        refine zg_X5_rate (pc := 40) C dX5_of_40 iX5 f7 ?_
        refine z_iloadn (i := 1) (pc := 43) C dX5_of_43 rfl rfl ?_
        refine z_iald (pc := 44) C 38 k (by decide) rfl hik (show k < 6 by omega) dX5_of_44 ?_
        refine z_goto (tgt := 54) (pc := 45) C dX5_of_45 (by decide) ?_
        exact z_iret (pc := 54) C hr hlk (Or.inl ⟨c_g, by rw [if_neg c_1, if_pos c_2, eik, hk 38 (by decide)], hν, rfl⟩) (Nat.zero_le _) (Nat.zero_le _) dX5_of_54
    · refine z_aloadn (i := 0) (pc := 25) C dX5_of_25 rfl rfl ?_
      refine zg_X5_phase (pc := 26) C dX5_of_26 iX5 f19 ?_
      refine z_iloadn (i := 1) (pc := 29) C dX5_of_29 rfl rfl ?_
      refine z_iald (pc := 30) C 41 k (by decide) rfl hik (show k < 6 by omega) dX5_of_30 ?_
      refine z_goto (tgt := 54) (pc := 31) C dX5_of_31 (by decide) ?_
      exact z_iret (pc := 54) C hr hlk (Or.inl ⟨c_g, by rw [if_pos c_1, eik, hk 41 (by decide)], hν, rfl⟩) (Nat.zero_le _) (Nat.zero_le _) dX5_of_54
  · rw [zb_eq0] at c_g
    refine z_iconst (v := 0) (pc := 19) C dX5_of_19 (by decide) ?_
    exact z_iret (pc := 20) C hr hlk (Or.inr ⟨c_g, rfl, rfl, rfl⟩) (Nat.zero_le _) (Nat.zero_le _) dX5_of_20
theorem zcorM_cg {μ ν : zM} (h : ∀ b, b ≠ 63 → ν b = μ b) (k q : Nat) : zcorM ν k q = zcorM μ k q := by
  have e : ∀ j, zcoM ν k q j = zcoM μ k q j := by
    intro j
    induction j with
    | zero => rw [zcoM, zcoM, h 48 (by decide)]
    | succ j ih => rw [zcoM, zcoM, ih, h 54 (by decide), h 55 (by decide), h 56 (by decide)]
  unfold zcorM
  rw [h 53 (by decide), e]
set_option maxHeartbeats 4000000 in
set_option maxRecDepth 100000 in
theorem c_X5_measured (l : Launch) (E : zE) (sa : Nat → Nat) {μ : zM} {ov : Nat → Int64} {i d b : Int32} (t : Nat) (ht : μ 63 11 = nI t) (ht5 : t ≤ 500) (n : Nat) (hcl : μ 63 13 = nI n) (hnl : n ≤ 8) (hgv : zGv μ) : zMi l E sa yX5_measured wsX5_measured 3 65 0 0 [.ref (zob E 7), .int i, .int d, .int b] μ ov (fun r μ1 ov1 => (((zmeaM μ i d) ∧ (True) ∧ (True)) ∧ r = (if b = 0 then μ 48 (8 * (d.toNatClampNeg - 1) + i.toNatClampNeg) else zcorM μ i.toNatClampNeg d.toNatClampNeg) ∧ μ1 = zu μ 63 19 0 ∧ ov1 = ov) ∨ (¬ ((zmeaM μ i d) ∧ (True) ∧ (True)) ∧ r = 0 ∧ μ1 = zu μ 63 19 (zgo (zmeaM μ i d) (True) (True)) ∧ ov1 = ov)) := by
  refine z_ofMi (cc := cX5_measured) (nL := 4) (ret := (some .int)) (own := RX5) zfp_X5_measured rfl (by simp [Value.category]) (Nat.le_of_ble_eq_true rfl) rfl ?_
  intro p e s m below meth c C hr hlk
  have iX5 : ∀ w ∈ wsX50, w ∈ wsX5_measured := by decide +kernel
  have f40 := C.1.2.2.2.2 (.fieldLink RX5 40 "TickFallModel" "counts" "[I") (by decide +kernel)
  show zW p l e (zR 3 65 0 0) s m [Value.ref (zob E 7), Value.int i, Value.int d, Value.int b].toArray below meth c E 4 0 0 (MQ below (zQi E s.heap.size (fun r μ1 ov1 => (((zmeaM μ i d) ∧ (True) ∧ (True)) ∧ r = (if b = 0 then μ 48 (8 * (d.toNatClampNeg - 1) + i.toNatClampNeg) else zcorM μ i.toNatClampNeg d.toNatClampNeg) ∧ μ1 = zu μ 63 19 0 ∧ ov1 = ov) ∨ (¬ ((zmeaM μ i d) ∧ (True) ∧ (True)) ∧ r = 0 ∧ μ1 = zu μ 63 19 (zgo (zmeaM μ i d) (True) (True)) ∧ ov1 = ov))) [Value.ref (zob E 7), Value.int i, Value.int d, Value.int b].toArray s 0 0 (zA E s.heap.size)) 0 [some (.ref (zob E 7)), some (.int (i)), some (.int (d)), some (.int (b))] [] μ ov
  refine z_aloadn (i := 0) (pc := 0) C dX5_measured_0 rfl rfl ?_
  refine z_aloadn (i := 0) (pc := 1) C dX5_measured_1 rfl rfl ?_
  refine z_iloadn (i := 1) (pc := 2) C dX5_measured_2 rfl rfl ?_
  refine z_iloadn (i := 2) (pc := 3) C dX5_measured_3 rfl rfl ?_
  refine z_callVi (pc := 4) (n := 2) (As := [.int (i), .int (d)]) (rest := [.ref (zob E 7)]) C (c_X5_hasMeasured l E sa (μ := μ) (ov := ov) i d n hcl hnl) gX5_measured_X5_hasMeasured rfl zfV_X5_hasMeasured ⟨Nat.le_of_ble_eq_true rfl, Nat.le_of_ble_eq_true rfl⟩ rfl (zRec_X5 E) rfl (Nat.le_of_ble_eq_true rfl) ⟨Nat.zero_le _, Nat.zero_le _⟩ dX5_measured_4 (fun r9 μ9 ov9 hp => ?_)
  have e1 := hp.1.symm
  have e2 := hp.2.1.symm
  have e3 := hp.2.2.symm
  clear hp
  subst e1 e2 e3
  refine z_iconst (v := 1) (pc := 7) C dX5_measured_7 (by decide) ?_
  refine z_iconst (v := 1) (pc := 8) C dX5_measured_8 (by decide) ?_
  refine z_callVi (pc := 9) (n := 3) (As := [.int (zb (zmeaM μ i d)), .int (1), .int (1)]) (rest := []) C (c_X5_goes l E sa (μ := μ) (ov := ov) (zmeaM μ i d) (True) (True) rfl (zb_t trivial).symm (zb_t trivial).symm) gX5_measured_X5_goes rfl zfV_X5_goes ⟨Nat.le_of_ble_eq_true rfl, Nat.le_of_ble_eq_true rfl⟩ rfl (zRec_X5 E) rfl (Nat.le_of_ble_eq_true rfl) ⟨Nat.zero_le _, Nat.zero_le _⟩ dX5_measured_9 (fun r9 μ9 ov9 hp => ?_)
  have e1 := hp.1.symm
  have e2 := hp.2.1.symm
  have e3 := hp.2.2.symm
  clear hp
  subst e1 e2 e3
  refine z_if_ne (tgt := 17) (pc := 12) C dX5_measured_12 (by decide) (fun c_g => ?_) (fun c_g => ?_)
  · rw [zb_ne0] at c_g
    obtain ⟨ν, hν⟩ : ∃ ν, ν = zu μ 63 19 0 := ⟨_, rfl⟩
    have hk : ∀ b, b ≠ 63 → ν b = μ b := fun b h => by rw [hν]; exact zu_n _ _ _ h
    have h63 : ∀ j, j ≠ 19 → ν 63 j = μ 63 j := fun j h => by rw [hν, zu_s, upd_n _ _ h]
    refine z_mem (μ' := ν) (by rw [hν, zgo_t c_g]) ?_
    obtain ⟨q, h1q, hq, hdq⟩ := znat2 (n := t) c_g.1.1.1 (by rw [← ht]; exact c_g.1.1.2) (by omega)
    have edq : d.toNatClampNeg = q := by rw [hdq, nI_clamp (by omega)]
    obtain ⟨k, hkk, hik⟩ := znat (n := n) c_g.1.2.1.1 (by rw [← hcl]; exact c_g.1.2.1.2) (by omega)
    have eik : i.toNatClampNeg = k := by rw [hik, nI_clamp (by omega)]
    have hgν : zGv ν := fun j hj => by rw [hk 53 (by decide)]; exact hgv j hj
    refine z_iloadn (i := 3) (pc := 17) C dX5_measured_17 rfl rfl ?_
    refine z_if_eq (tgt := 30) (pc := 18) C dX5_measured_18 (by decide) (fun c_1 => ?_) (fun c_1 => ?_)
    · refine z_aloadn (i := 0) (pc := 30) C dX5_measured_30 rfl rfl ?_
      refine zg_X5_counts (pc := 31) C dX5_measured_31 iX5 f40 ?_
      refine z_bipush (v := 8) (pc := 34) C dX5_measured_34 (by decide) ?_
      refine z_iloadn (i := 2) (pc := 36) C dX5_measured_36 rfl rfl ?_
      refine z_iconst (v := 1) (pc := 37) C dX5_measured_37 (by decide) ?_
      refine z_isub (pc := 38) C dX5_measured_38 ?_
      refine z_imul (pc := 39) C dX5_measured_39 ?_
      refine z_iloadn (i := 1) (pc := 40) C dX5_measured_40 rfl rfl ?_
      refine z_iadd (pc := 41) C dX5_measured_41 ?_
      refine z_iald (pc := 42) C 48 (8 * (q - 1) + k) (by decide) rfl (zix8 hik hdq h1q) (show 8 * (q - 1) + k < 4008 by omega) dX5_measured_42 ?_
      exact z_iret (pc := 43) C hr hlk (Or.inl ⟨c_g, by rw [if_pos c_1, eik, edq, hk 48 (by decide)], hν, rfl⟩) (Nat.zero_le _) (Nat.zero_le _) dX5_measured_43
    · refine z_aloadn (i := 0) (pc := 21) C dX5_measured_21 rfl rfl ?_
      refine z_iloadn (i := 1) (pc := 22) C dX5_measured_22 rfl rfl ?_
      refine z_iloadn (i := 2) (pc := 23) C dX5_measured_23 rfl rfl ?_
      refine z_callVi (pc := 24) (n := 2) (As := [.int (i), .int (d)]) (rest := []) C (c_X5_corrected l E sa (μ := ν) (ov := ov) k q hik (by omega) hdq h1q (by omega) hgν) gX5_measured_X5_corrected rfl zfV_X5_corrected ⟨Nat.le_of_ble_eq_true rfl, Nat.le_of_ble_eq_true rfl⟩ rfl (zRec_X5 E) rfl (Nat.le_of_ble_eq_true rfl) ⟨Nat.zero_le _, Nat.zero_le _⟩ dX5_measured_24 (fun r9 μ9 ov9 hp => ?_)
      have e1 := hp.1.symm
      have e2 := hp.2.1.symm
      have e3 := hp.2.2.symm
      clear hp
      subst e1 e2 e3
      refine z_goto (tgt := 43) (pc := 27) C dX5_measured_27 (by decide) ?_
      exact z_iret (pc := 43) C hr hlk (Or.inl ⟨c_g, by rw [if_neg c_1, eik, edq]; exact zcorM_cg (fun b h => hk b h) k q, hν, rfl⟩) (Nat.zero_le _) (Nat.zero_le _) dX5_measured_43
  · rw [zb_eq0] at c_g
    refine z_iconst (v := 0) (pc := 15) C dX5_measured_15 (by decide) ?_
    exact z_iret (pc := 16) C hr hlk (Or.inr ⟨c_g, rfl, rfl, rfl⟩) (Nat.zero_le _) (Nat.zero_le _) dX5_measured_16
