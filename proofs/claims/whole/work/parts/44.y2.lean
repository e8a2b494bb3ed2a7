set_option maxHeartbeats 4000000 in
set_option maxRecDepth 100000 in
theorem c_X5_isAhead (l : Launch) (E : zE) (sa : Nat → Nat) {μ : zM} {ov : Nat → Int64} {i1 i2 : Int32} (a b : Nat) (ha : i1 = nI a) (hb : i2 = nI b) (ga : a < 40) (gb : b < 40) : zMi l E sa yX5_isAhead wsX5_isAhead 0 0 0 0 [.ref (zob E 7), .int i1, .int i2] μ ov (fun r μ1 ov1 => r = zb (zahM μ a b) ∧ μ1 = μ ∧ ov1 = ov) := by
  refine z_ofMi (cc := cX5_isAhead) (nL := 3) (ret := (some .boolean)) (own := RX5) zfp_X5_isAhead rfl (by simp [Value.category]) (Nat.le_of_ble_eq_true rfl) rfl ?_
  intro p e s m below meth c C hr hlk
  have iX5 : ∀ w ∈ wsX50, w ∈ wsX5_isAhead := by decide +kernel
  have f46 := C.1.2.2.2.2 (.fieldLink RX5 46 "TickFallModel" "eventKind" "[I") (by decide +kernel)
  have f49 := C.1.2.2.2.2 (.fieldLink RX5 49 "TickFallModel" "eventOf" "[I") (by decide +kernel)
  have f52 := C.1.2.2.2.2 (.fieldLink RX5 52 "TickFallModel" "amount" "[I") (by decide +kernel)
  show zW p l e (zR 0 0 0 0) s m [Value.ref (zob E 7), Value.int i1, Value.int i2].toArray below meth c E 3 0 0 (MQ below (zQi E s.heap.size (fun r μ1 ov1 => r = zb (zahM μ a b) ∧ μ1 = μ ∧ ov1 = ov)) [Value.ref (zob E 7), Value.int i1, Value.int i2].toArray s 0 0 (zA E s.heap.size)) 0 [some (.ref (zob E 7)), some (.int (i1)), some (.int (i2))] [] μ ov
  refine z_aloadn (i := 0) (pc := 0) C dX5_isAhead_0 rfl rfl ?_
  refine zg_X5_eventKind (pc := 1) C dX5_isAhead_1 iX5 f46 ?_
  refine z_iloadn (i := 1) (pc := 4) C dX5_isAhead_4 rfl rfl ?_
  refine z_iald (pc := 5) C 50 a (by decide) rfl ha (show a < 40 from ga) dX5_isAhead_5 ?_
  refine z_aloadn (i := 0) (pc := 6) C dX5_isAhead_6 rfl rfl ?_
  refine zg_X5_eventKind (pc := 7) C dX5_isAhead_7 iX5 f46 ?_
  refine z_iloadn (i := 2) (pc := 10) C dX5_isAhead_10 rfl rfl ?_
  refine z_iald (pc := 11) C 50 b (by decide) rfl hb (show b < 40 from gb) dX5_isAhead_11 ?_
  refine z_icmp_eq (tgt := 38) (pc := 12) C dX5_isAhead_12 (by decide) (fun c_1 => ?_) (fun c_1 => ?_)
  · refine z_aloadn (i := 0) (pc := 38) C dX5_isAhead_38 rfl rfl ?_
    refine zg_X5_eventOf (pc := 39) C dX5_isAhead_39 iX5 f49 ?_
    refine z_iloadn (i := 1) (pc := 42) C dX5_isAhead_42 rfl rfl ?_
    refine z_iald (pc := 43) C 51 a (by decide) rfl ha (show a < 40 from ga) dX5_isAhead_43 ?_
    refine z_aloadn (i := 0) (pc := 44) C dX5_isAhead_44 rfl rfl ?_
    refine zg_X5_eventOf (pc := 45) C dX5_isAhead_45 iX5 f49 ?_
    refine z_iloadn (i := 2) (pc := 48) C dX5_isAhead_48 rfl rfl ?_
    refine z_iald (pc := 49) C 51 b (by decide) rfl hb (show b < 40 from gb) dX5_isAhead_49 ?_
    refine z_icmp_eq (tgt := 76) (pc := 50) C dX5_isAhead_50 (by decide) (fun c_3 => ?_) (fun c_3 => ?_)
    · refine z_aloadn (i := 0) (pc := 76) C dX5_isAhead_76 rfl rfl ?_
      refine zg_X5_amount (pc := 77) C dX5_isAhead_77 iX5 f52 ?_
      refine z_iloadn (i := 1) (pc := 80) C dX5_isAhead_80 rfl rfl ?_
      refine z_iald (pc := 81) C 52 a (by decide) rfl ha (show a < 40 from ga) dX5_isAhead_81 ?_
      refine z_aloadn (i := 0) (pc := 82) C dX5_isAhead_82 rfl rfl ?_
      refine zg_X5_amount (pc := 83) C dX5_isAhead_83 iX5 f52 ?_
      refine z_iloadn (i := 2) (pc := 86) C dX5_isAhead_86 rfl rfl ?_
      refine z_iald (pc := 87) C 52 b (by decide) rfl hb (show b < 40 from gb) dX5_isAhead_87 ?_
      refine z_icmp_ge (tgt := 95) (pc := 88) C dX5_isAhead_88 (by decide) (fun c_5 => ?_) (fun c_5 => ?_)
      · refine z_iconst (v := 0) (pc := 95) C dX5_isAhead_95 (by decide) ?_
        exact z_zret (pc := 96) C hr hlk (by decide) ⟨((zb_cg (zah_a c_1 c_3)).trans (zb_f (fun h => zno_le c_5 h))).symm, rfl, rfl⟩ (Nat.zero_le _) (Nat.zero_le _) dX5_isAhead_96
      · refine z_iconst (v := 1) (pc := 91) C dX5_isAhead_91 (by decide) ?_
        refine z_goto (tgt := 96) (pc := 92) C dX5_isAhead_92 (by decide) ?_
        exact z_zret (pc := 96) C hr hlk (by decide) ⟨((zb_cg (zah_a c_1 c_3)).trans (zb_t (znot_le c_5))).symm, rfl, rfl⟩ (Nat.zero_le _) (Nat.zero_le _) dX5_isAhead_96
    · refine z_aloadn (i := 0) (pc := 53) C dX5_isAhead_53 rfl rfl ?_
      refine zg_X5_eventOf (pc := 54) C dX5_isAhead_54 iX5 f49 ?_
      refine z_iloadn (i := 1) (pc := 57) C dX5_isAhead_57 rfl rfl ?_
      refine z_iald (pc := 58) C 51 a (by decide) rfl ha (show a < 40 from ga) dX5_isAhead_58 ?_
      refine z_aloadn (i := 0) (pc := 59) C dX5_isAhead_59 rfl rfl ?_
      refine zg_X5_eventOf (pc := 60) C dX5_isAhead_60 iX5 f49 ?_
      refine z_iloadn (i := 2) (pc := 63) C dX5_isAhead_63 rfl rfl ?_
      refine z_iald (pc := 64) C 51 b (by decide) rfl hb (show b < 40 from gb) dX5_isAhead_64 ?_
      refine z_icmp_ge (tgt := 72) (pc := 65) C dX5_isAhead_65 (by decide) (fun c_4 => ?_) (fun c_4 => ?_)
      · refine z_iconst (v := 0) (pc := 72) C dX5_isAhead_72 (by decide) ?_
        refine z_goto (tgt := 96) (pc := 73) C dX5_isAhead_73 (by decide) ?_
        exact z_zret (pc := 96) C hr hlk (by decide) ⟨((zb_cg (zah_o c_1 c_3)).trans (zb_f (fun h => zno_le c_4 h))).symm, rfl, rfl⟩ (Nat.zero_le _) (Nat.zero_le _) dX5_isAhead_96
      · refine z_iconst (v := 1) (pc := 68) C dX5_isAhead_68 (by decide) ?_
        refine z_goto (tgt := 96) (pc := 69) C dX5_isAhead_69 (by decide) ?_
        exact z_zret (pc := 96) C hr hlk (by decide) ⟨((zb_cg (zah_o c_1 c_3)).trans (zb_t (znot_le c_4))).symm, rfl, rfl⟩ (Nat.zero_le _) (Nat.zero_le _) dX5_isAhead_96
  · refine z_aloadn (i := 0) (pc := 15) C dX5_isAhead_15 rfl rfl ?_
    refine zg_X5_eventKind (pc := 16) C dX5_isAhead_16 iX5 f46 ?_
    refine z_iloadn (i := 1) (pc := 19) C dX5_isAhead_19 rfl rfl ?_
    refine z_iald (pc := 20) C 50 a (by decide) rfl ha (show a < 40 from ga) dX5_isAhead_20 ?_
    refine z_aloadn (i := 0) (pc := 21) C dX5_isAhead_21 rfl rfl ?_
    refine zg_X5_eventKind (pc := 22) C dX5_isAhead_22 iX5 f46 ?_
    refine z_iloadn (i := 2) (pc := 25) C dX5_isAhead_25 rfl rfl ?_
    refine z_iald (pc := 26) C 50 b (by decide) rfl hb (show b < 40 from gb) dX5_isAhead_26 ?_
    refine z_icmp_ge (tgt := 34) (pc := 27) C dX5_isAhead_27 (by decide) (fun c_2 => ?_) (fun c_2 => ?_)
    · refine z_iconst (v := 0) (pc := 34) C dX5_isAhead_34 (by decide) ?_
      refine z_goto (tgt := 96) (pc := 35) C dX5_isAhead_35 (by decide) ?_
      exact z_zret (pc := 96) C hr hlk (by decide) ⟨((zb_cg (zah_n c_1)).trans (zb_f (fun h => zno_le c_2 h))).symm, rfl, rfl⟩ (Nat.zero_le _) (Nat.zero_le _) dX5_isAhead_96
    · refine z_iconst (v := 1) (pc := 30) C dX5_isAhead_30 (by decide) ?_
      refine z_goto (tgt := 96) (pc := 31) C dX5_isAhead_31 (by decide) ?_
      exact z_zret (pc := 96) C hr hlk (by decide) ⟨((zb_cg (zah_n c_1)).trans (zb_t (znot_le c_2))).symm, rfl, rfl⟩ (Nat.zero_le _) (Nat.zero_le _) dX5_isAhead_96
set_option maxHeartbeats 4000000 in
set_option maxRecDepth 100000 in
theorem c_X5_next (l : Launch) (E : zE) (sa : Nat → Nat) {μ : zM} {ov : Nat → Int64} (n9 : Nat) (hc : μ 63 14 = nI n9) (hn : n9 ≤ 40) : zMi l E sa yX5_next wsX5_next 1 22 0 0 [.ref (zob E 7)] μ ov (fun r μ1 ov1 => r = znx μ n9 ∧ μ1 = μ ∧ ov1 = ov) := by
  refine z_ofMi (cc := cX5_next) (nL := 3) (ret := (some .int)) (own := RX5) zfp_X5_next rfl (by simp [Value.category]) (Nat.le_of_ble_eq_true rfl) rfl ?_
  intro p e s m below meth c C hr hlk
  have iX5 : ∀ w ∈ wsX50, w ∈ wsX5_next := by decide +kernel
  have f43 := C.1.2.2.2.2 (.fieldLink RX5 43 "TickFallModel" "eventDay" "[I") (by decide +kernel)
  have f106 := C.1.2.2.2.2 (.fieldLink RX5 106 "TickFallModel" "day" "I") (by decide +kernel)
  have f124 := C.1.2.2.2.2 (.fieldLink RX5 124 "TickFallModel" "events" "I") (by decide +kernel)
  show zW p l e (zR 1 22 0 0) s m [Value.ref (zob E 7)].toArray below meth c E 3 0 0 (MQ below (zQi E s.heap.size (fun r μ1 ov1 => r = znx μ n9 ∧ μ1 = μ ∧ ov1 = ov)) [Value.ref (zob E 7)].toArray s 0 0 (zA E s.heap.size)) 0 [some (.ref (zob E 7)), none, none] [] μ ov
  refine z_iconst (v := -1) (pc := 0) C dX5_next_0 (by decide) ?_
  refine z_istore1 (pc := 1) C (by decide) (fun w hw => by cases hw; exact (show ¬ (1 = 2) from by decide)) dX5_next_1 ?_
  refine z_iconst (v := 0) (pc := 2) C dX5_next_2 (by decide) ?_
  refine z_istore2 (pc := 3) C (by decide) (fun w hw => by cases hw; exact (show ¬ (1 = 2) from by decide)) dX5_next_3 ?_
  have loop : ∀ (f i : Nat), i + f = n9 → zW p l e (zR 1 22 0 0) s m [Value.ref (zob E 7)].toArray below meth c E 3 0 0 (MQ below (zQi E s.heap.size (fun r μ1 ov1 => r = znx μ n9 ∧ μ1 = μ ∧ ov1 = ov)) [Value.ref (zob E 7)].toArray s 0 0 (zA E s.heap.size)) 4 [some (.ref (zob E 7)), some (.int (znx μ i)), some (.int (nI i))] [] μ ov := by
    intro f
    induction f with
    | zero =>
      intro i hi
      obtain rfl : i = n9 := by omega
      refine z_iloadn (i := 2) (pc := 4) C dX5_next_4 rfl rfl ?_
      refine z_aloadn (i := 0) (pc := 5) C dX5_next_5 rfl rfl ?_
      refine zg_X5_events (pc := 6) C dX5_next_6 iX5 f124 ?_
      refine z_topi (y := nI i) hc ?_
      refine z_icmp_ge (tgt := 51) (pc := 9) C dX5_next_9 (by decide) (fun c_l => ?_) (fun c_l => ?_)
      · refine z_iloadn (i := 1) (pc := 51) C dX5_next_51 rfl rfl ?_
        exact z_iret (pc := 52) C hr hlk ⟨rfl, rfl, rfl⟩ (Nat.zero_le _) (Nat.zero_le _) dX5_next_52
      · exact absurd (nI_le (a := i) (b := i) (Nat.le_refl _) (by omega)) c_l
    | succ f ih =>
      intro i hi
      have go : ∀ v : Int32, v = znx μ (i + 1) → zW p l e (zR 1 22 0 0) s m [Value.ref (zob E 7)].toArray below meth c E 3 0 0 (MQ below (zQi E s.heap.size (fun r μ1 ov1 => r = znx μ n9 ∧ μ1 = μ ∧ ov1 = ov)) [Value.ref (zob E 7)].toArray s 0 0 (zA E s.heap.size)) 44 [some (.ref (zob E 7)), some (.int (znx μ i)), some (.int (nI i))] [.int (v)] μ ov := by
        intro v hv
        subst hv
        refine z_istore1 (pc := 44) C (by decide) (fun w hw => by cases hw; exact (show ¬ (1 = 2) from by decide)) dX5_next_44 ?_
        refine z_iinc2 (v := 1) (pc := 45) C (by decide) (by decide) (fun w hw => by cases hw; exact (show ¬ (1 = 2) from by decide)) dX5_next_45 ?_
        rw [nI_1]
        refine z_goto (tgt := 4) (pc := 48) C dX5_next_48 (by decide) ?_
        exact ih (i + 1) (by omega)
      refine z_iloadn (i := 2) (pc := 4) C dX5_next_4 rfl rfl ?_
      refine z_aloadn (i := 0) (pc := 5) C dX5_next_5 rfl rfl ?_
      refine zg_X5_events (pc := 6) C dX5_next_6 iX5 f124 ?_
      refine z_icmp_ge (tgt := 51) (pc := 9) C dX5_next_9 (by decide) (fun c_l => ?_) (fun c_l => ?_)
      · exact absurd c_l (by rw [hc]; exact nI_ge (by omega) (by omega))
      · refine z_aloadn (i := 0) (pc := 12) C dX5_next_12 rfl rfl ?_
        refine zg_X5_eventDay (pc := 13) C dX5_next_13 iX5 f43 ?_
        refine z_iloadn (i := 2) (pc := 16) C dX5_next_16 rfl rfl ?_
        refine z_iald (pc := 17) C 49 i (by decide) rfl rfl (show i < 40 by omega) dX5_next_17 ?_
        refine z_aloadn (i := 0) (pc := 18) C dX5_next_18 rfl rfl ?_
        refine zg_X5_day (pc := 19) C dX5_next_19 iX5 f106 ?_
        refine z_icmp_ne (tgt := 43) (pc := 22) C dX5_next_22 (by decide) (fun c_1 => ?_) (fun c_1 => ?_)
        · refine z_iloadn (i := 1) (pc := 43) C dX5_next_43 rfl rfl ?_
          exact go _ (by rw [znx, if_neg (fun h => c_1 h.1)])
        · refine z_iloadn (i := 1) (pc := 25) C dX5_next_25 rfl rfl ?_
          refine z_iconst (v := -1) (pc := 26) C dX5_next_26 (by decide) ?_
          refine z_icmp_eq (tgt := 39) (pc := 27) C dX5_next_27 (by decide) (fun c_2 => ?_) (fun c_2 => ?_)
          · refine z_iloadn (i := 2) (pc := 39) C dX5_next_39 rfl rfl ?_
            refine z_goto (tgt := 44) (pc := 40) C dX5_next_40 (by decide) ?_
            exact go _ (by rw [znx, if_pos ⟨c_1, Or.inl c_2⟩])
          · obtain ⟨j, hj, ej⟩ := (znx_r μ i).resolve_left c_2
            have ekj : (znx μ i).toNatClampNeg = j := by rw [ej, nI_clamp (by omega)]
            refine z_aloadn (i := 0) (pc := 30) C dX5_next_30 rfl rfl ?_
            refine z_iloadn (i := 2) (pc := 31) C dX5_next_31 rfl rfl ?_
            refine z_iloadn (i := 1) (pc := 32) C dX5_next_32 rfl rfl ?_
            refine z_callVi (pc := 33) (n := 2) (As := [.int (nI i), .int (znx μ i)]) (rest := []) C (c_X5_isAhead l E sa (μ := μ) (ov := ov) i j rfl ej (by omega) (by omega)) gX5_next_X5_isAhead rfl zfV_X5_isAhead ⟨Nat.le_of_ble_eq_true rfl, Nat.le_of_ble_eq_true rfl⟩ rfl (zRec_X5 E) rfl (Nat.le_of_ble_eq_true rfl) ⟨Nat.zero_le _, Nat.zero_le _⟩ dX5_next_33 (fun r9 μ9 ov9 hp => ?_)
            have e1 := hp.1.symm
            have e2 := hp.2.1.symm
            have e3 := hp.2.2.symm
            clear hp
            subst e1 e2 e3
            refine z_if_eq (tgt := 43) (pc := 36) C dX5_next_36 (by decide) (fun c_3 => ?_) (fun c_3 => ?_)
            · rw [zb_eq0] at c_3
              refine z_iloadn (i := 1) (pc := 43) C dX5_next_43 rfl rfl ?_
              exact go _ (by rw [znx, if_neg (fun h => h.2.elim c_2 (fun z => c_3 (by rw [← ekj]; exact z)))])
            · rw [zb_ne0] at c_3
              refine z_iloadn (i := 2) (pc := 39) C dX5_next_39 rfl rfl ?_
              refine z_goto (tgt := 44) (pc := 40) C dX5_next_40 (by decide) ?_
              exact go _ (by rw [znx, if_pos ⟨c_1, Or.inr (by rw [ekj]; exact c_3)⟩])
  exact loop n9 0 (by omega)
set_option maxHeartbeats 4000000 in
set_option maxRecDepth 100000 in
theorem c_X5_comes (l : Launch) (E : zE) (sa : Nat → Nat) {μ : zM} {ov : Nat → Int64} {i1 : Int32} (j cc9 : Nat) (hi1 : i1 = nI j) (hj : j < cc9 + 1) (hE : zEM μ (cc9 + 1)) : zMv l E sa yX5_comes wsX5_comes 1 21 0 0 [.ref (zob E 7), .int i1] μ ov (fun μ1 ov1 => μ1 = zcm μ j cc9 ∧ ov1 = ov) := by
  refine z_ofMv (cc := cX5_comes) (nL := 3) (ret := none) (own := RX5) zfp_X5_comes rfl (by simp [Value.category]) (Nat.le_of_ble_eq_true rfl) rfl ?_
  intro p e s m below meth c C hr hlk
  have iX5 : ∀ w ∈ wsX50, w ∈ wsX5_comes := by decide +kernel
  have f7 := C.1.2.2.2.2 (.fieldLink RX5 7 "TickFallModel" "rate" "[I") (by decide +kernel)
  have f16 := C.1.2.2.2.2 (.fieldLink RX5 16 "TickFallModel" "height" "[I") (by decide +kernel)
  have f31 := C.1.2.2.2.2 (.fieldLink RX5 31 "TickFallModel" "asymmetry" "[I") (by decide +kernel)
  have f34 := C.1.2.2.2.2 (.fieldLink RX5 34 "TickFallModel" "slipped" "[I") (by decide +kernel)
  have f43 := C.1.2.2.2.2 (.fieldLink RX5 43 "TickFallModel" "eventDay" "[I") (by decide +kernel)
  have f46 := C.1.2.2.2.2 (.fieldLink RX5 46 "TickFallModel" "eventKind" "[I") (by decide +kernel)
  have f49 := C.1.2.2.2.2 (.fieldLink RX5 49 "TickFallModel" "eventOf" "[I") (by decide +kernel)
  have f52 := C.1.2.2.2.2 (.fieldLink RX5 52 "TickFallModel" "amount" "[I") (by decide +kernel)
  have f124 := C.1.2.2.2.2 (.fieldLink RX5 124 "TickFallModel" "events" "I") (by decide +kernel)
  show zW p l e (zR 1 21 0 0) s m [Value.ref (zob E 7), Value.int i1].toArray below meth c E 3 0 0 (MQ below (zQv E s.heap.size (fun μ1 ov1 => μ1 = zcm μ j cc9 ∧ ov1 = ov)) [Value.ref (zob E 7), Value.int i1].toArray s 0 0 (zA E s.heap.size)) 0 [some (.ref (zob E 7)), some (.int (i1)), none] [] μ ov
  obtain ⟨hc, hn, hev⟩ := hE
  obtain ⟨o, go8, eo, go6⟩ := hev j hj
  have eko : (μ 51 j).toNatClampNeg = o := by rw [eo, nI_clamp (by omega)]
  refine z_aloadn (i := 0) (pc := 0) C dX5_comes_0 rfl rfl ?_
  refine zg_X5_eventOf (pc := 1) C dX5_comes_1 iX5 f49 ?_
  refine z_iloadn (i := 1) (pc := 4) C dX5_comes_4 rfl rfl ?_
  refine z_iald (pc := 5) C 51 j (by decide) rfl hi1 (show j < 40 by omega) dX5_comes_5 ?_
  refine z_istore2 (pc := 6) C (by decide) (fun w hw => by cases hw; exact (show ¬ (1 = 2) from by decide)) dX5_comes_6 ?_
  have go : ∀ ν : zM, ν = zcmA μ j → zW p l e (zR 1 21 0 0) s m [Value.ref (zob E 7), Value.int i1].toArray below meth c E 3 0 0 (MQ below (zQv E s.heap.size (fun μ1 ov1 => μ1 = zcm μ j cc9 ∧ ov1 = ov)) [Value.ref (zob E 7), Value.int i1].toArray s 0 0 (zA E s.heap.size)) 109 [some (.ref (zob E 7)), some (.int (i1)), some (.int (μ 51 j))] [] ν ov := by
    intro ν hν
    have ec : ν 63 14 = nI (cc9 + 1) := by rw [hν, zcmA_k _ _ (by decide) (by decide) (by decide) (by decide)]; exact hc
    refine z_aloadn (i := 0) (pc := 109) C dX5_comes_109 rfl rfl ?_
    refine z_dup (pc := 110) C dX5_comes_110 rfl ?_
    refine zg_X5_events (pc := 111) C dX5_comes_111 iX5 f124 ?_
    refine z_iconst (v := 1) (pc := 114) C dX5_comes_114 (by decide) ?_
    refine z_isub (pc := 115) C dX5_comes_115 ?_
    refine z_topi (y := nI cc9) (by rw [ec, nI_sub1]) ?_
    refine zp_X5_events (pc := 116) C dX5_comes_116 iX5 f124 ?_
    refine z_aloadn (i := 0) (pc := 119) C dX5_comes_119 rfl rfl ?_
    refine zg_X5_eventDay (pc := 120) C dX5_comes_120 iX5 f43 ?_
    refine z_iloadn (i := 1) (pc := 123) C dX5_comes_123 rfl rfl ?_
    refine z_aloadn (i := 0) (pc := 124) C dX5_comes_124 rfl rfl ?_
    refine zg_X5_eventDay (pc := 125) C dX5_comes_125 iX5 f43 ?_
    refine z_aloadn (i := 0) (pc := 128) C dX5_comes_128 rfl rfl ?_
    refine zg_X5_events (pc := 129) C dX5_comes_129 iX5 f124 ?_
    refine z_iald (pc := 132) C 49 cc9 (by decide) rfl ((by rw [zu_s, upd_s]) : (zu ν 63 14 (nI cc9)) 63 14 = nI cc9) (show cc9 < 40 by omega) dX5_comes_132 ?_
    refine z_topi (y := ν 49 cc9) (by rw [zu_n _ _ _ (by decide)]) ?_
    refine z_iast (pc := 133) C 49 j (by decide) rfl hi1 (show j < 40 by omega) dX5_comes_133 ?_
    refine z_aloadn (i := 0) (pc := 134) C dX5_comes_134 rfl rfl ?_
    refine zg_X5_eventKind (pc := 135) C dX5_comes_135 iX5 f46 ?_
    refine z_iloadn (i := 1) (pc := 138) C dX5_comes_138 rfl rfl ?_
    refine z_aloadn (i := 0) (pc := 139) C dX5_comes_139 rfl rfl ?_
    refine zg_X5_eventKind (pc := 140) C dX5_comes_140 iX5 f46 ?_
    refine z_aloadn (i := 0) (pc := 143) C dX5_comes_143 rfl rfl ?_
    refine zg_X5_events (pc := 144) C dX5_comes_144 iX5 f124 ?_
    refine z_iald (pc := 147) C 50 cc9 (by decide) rfl ((by rw [zu_n _ _ _ (by decide), zu_s, upd_s]) : (zu (zu ν 63 14 (nI cc9)) 49 j (ν 49 cc9)) 63 14 = nI cc9) (show cc9 < 40 by omega) dX5_comes_147 ?_
    refine z_topi (y := ν 50 cc9) (by rw [zu_n _ _ _ (by decide), zu_n _ _ _ (by decide)]) ?_
    refine z_iast (pc := 148) C 50 j (by decide) rfl hi1 (show j < 40 by omega) dX5_comes_148 ?_
    refine z_aloadn (i := 0) (pc := 149) C dX5_comes_149 rfl rfl ?_
    refine zg_X5_eventOf (pc := 150) C dX5_comes_150 iX5 f49 ?_
    refine z_iloadn (i := 1) (pc := 153) C dX5_comes_153 rfl rfl ?_
    refine z_aloadn (i := 0) (pc := 154) C dX5_comes_154 rfl rfl ?_
    refine zg_X5_eventOf (pc := 155) C dX5_comes_155 iX5 f49 ?_
    refine z_aloadn (i := 0) (pc := 158) C dX5_comes_158 rfl rfl ?_
    refine zg_X5_events (pc := 159) C dX5_comes_159 iX5 f124 ?_
    refine z_iald (pc := 162) C 51 cc9 (by decide) rfl ((by rw [zu_n _ _ _ (by decide), zu_n _ _ _ (by decide), zu_s, upd_s]) : (zu (zu (zu ν 63 14 (nI cc9)) 49 j (ν 49 cc9)) 50 j (ν 50 cc9)) 63 14 = nI cc9) (show cc9 < 40 by omega) dX5_comes_162 ?_
    refine z_topi (y := ν 51 cc9) (by rw [zu_n _ _ _ (by decide), zu_n _ _ _ (by decide), zu_n _ _ _ (by decide)]) ?_
    refine z_iast (pc := 163) C 51 j (by decide) rfl hi1 (show j < 40 by omega) dX5_comes_163 ?_
    refine z_aloadn (i := 0) (pc := 164) C dX5_comes_164 rfl rfl ?_
    refine zg_X5_amount (pc := 165) C dX5_comes_165 iX5 f52 ?_
    refine z_iloadn (i := 1) (pc := 168) C dX5_comes_168 rfl rfl ?_
    refine z_aloadn (i := 0) (pc := 169) C dX5_comes_169 rfl rfl ?_
    refine zg_X5_amount (pc := 170) C dX5_comes_170 iX5 f52 ?_
    refine z_aloadn (i := 0) (pc := 173) C dX5_comes_173 rfl rfl ?_
    refine zg_X5_events (pc := 174) C dX5_comes_174 iX5 f124 ?_
    refine z_iald (pc := 177) C 52 cc9 (by decide) rfl ((by rw [zu_n _ _ _ (by decide), zu_n _ _ _ (by decide), zu_n _ _ _ (by decide), zu_s, upd_s]) : (zu (zu (zu (zu ν 63 14 (nI cc9)) 49 j (ν 49 cc9)) 50 j (ν 50 cc9)) 51 j (ν 51 cc9)) 63 14 = nI cc9) (show cc9 < 40 by omega) dX5_comes_177 ?_
    refine z_topi (y := ν 52 cc9) (by rw [zu_n _ _ _ (by decide), zu_n _ _ _ (by decide), zu_n _ _ _ (by decide), zu_n _ _ _ (by decide)]) ?_
    refine z_iast (pc := 178) C 52 j (by decide) rfl hi1 (show j < 40 by omega) dX5_comes_178 ?_
    exact z_vret (pc := 179) C hr hlk ⟨by rw [hν]; rfl, rfl⟩ (Nat.zero_le _) (Nat.zero_le _) dX5_comes_179
  refine z_aloadn (i := 0) (pc := 7) C dX5_comes_7 rfl rfl ?_
  refine zg_X5_eventKind (pc := 8) C dX5_comes_8 iX5 f46 ?_
  refine z_iloadn (i := 1) (pc := 11) C dX5_comes_11 rfl rfl ?_
  refine z_iald (pc := 12) C 50 j (by decide) rfl hi1 (show j < 40 by omega) dX5_comes_12 ?_
  refine z_if_ne (tgt := 44) (pc := 13) C dX5_comes_13 (by decide) (fun c_1 => ?_) (fun c_1 => ?_)
  · refine z_aloadn (i := 0) (pc := 44) C dX5_comes_44 rfl rfl ?_
    refine zg_X5_eventKind (pc := 45) C dX5_comes_45 iX5 f46 ?_
    refine z_iloadn (i := 1) (pc := 48) C dX5_comes_48 rfl rfl ?_
    refine z_iald (pc := 49) C 50 j (by decide) rfl hi1 (show j < 40 by omega) dX5_comes_49 ?_
    refine z_iconst (v := 1) (pc := 50) C dX5_comes_50 (by decide) ?_
    refine z_icmp_ne (tgt := 69) (pc := 51) C dX5_comes_51 (by decide) (fun c_2 => ?_) (fun c_2 => ?_)
    · refine z_aloadn (i := 0) (pc := 69) C dX5_comes_69 rfl rfl ?_
      refine zg_X5_eventKind (pc := 70) C dX5_comes_70 iX5 f46 ?_
      refine z_iloadn (i := 1) (pc := 73) C dX5_comes_73 rfl rfl ?_
      refine z_iald (pc := 74) C 50 j (by decide) rfl hi1 (show j < 40 by omega) dX5_comes_74 ?_
      refine z_iconst (v := 2) (pc := 75) C dX5_comes_75 (by decide) ?_
      refine z_icmp_ne (tgt := 94) (pc := 76) C dX5_comes_76 (by decide) (fun c_3 => ?_) (fun c_3 => ?_)
      · refine z_aloadn (i := 0) (pc := 94) C dX5_comes_94 rfl rfl ?_
        refine zg_X5_slipped (pc := 95) C dX5_comes_95 iX5 f34 ?_
        refine z_iloadn (i := 2) (pc := 98) C dX5_comes_98 rfl rfl ?_
        refine z_dup2 (pc := 99) C dX5_comes_99 rfl rfl ?_
        refine z_iald (pc := 100) C 46 o (by decide) rfl eo (show o < 8 from go8) dX5_comes_100 ?_
        refine z_aloadn (i := 0) (pc := 101) C dX5_comes_101 rfl rfl ?_
        refine zg_X5_amount (pc := 102) C dX5_comes_102 iX5 f52 ?_
        refine z_iloadn (i := 1) (pc := 105) C dX5_comes_105 rfl rfl ?_
        refine z_iald (pc := 106) C 52 j (by decide) rfl hi1 (show j < 40 by omega) dX5_comes_106 ?_
        refine z_iadd (pc := 107) C dX5_comes_107 ?_
        refine z_iast (pc := 108) C 46 o (by decide) rfl eo (show o < 8 from go8) dX5_comes_108 ?_
        exact go _ (by rw [zcmA, if_neg c_1, if_neg c_2, if_neg c_3, eko])
      · refine z_aloadn (i := 0) (pc := 79) C dX5_comes_79 rfl rfl ?_
        refine zg_X5_asymmetry (pc := 80) C dX5_comes_80 iX5 f31 ?_
        refine z_iloadn (i := 2) (pc := 83) C dX5_comes_83 rfl rfl ?_
        refine z_aloadn (i := 0) (pc := 84) C dX5_comes_84 rfl rfl ?_
        refine zg_X5_amount (pc := 85) C dX5_comes_85 iX5 f52 ?_
        refine z_iloadn (i := 1) (pc := 88) C dX5_comes_88 rfl rfl ?_
        refine z_iald (pc := 89) C 52 j (by decide) rfl hi1 (show j < 40 by omega) dX5_comes_89 ?_
        refine z_iast (pc := 90) C 45 o (by decide) rfl eo (show o < 8 from go8) dX5_comes_90 ?_
        refine z_goto (tgt := 109) (pc := 91) C dX5_comes_91 (by decide) ?_
        exact go _ (by rw [zcmA, if_neg c_1, if_neg c_2, if_pos c_3, eko])
    · refine z_aloadn (i := 0) (pc := 54) C dX5_comes_54 rfl rfl ?_
      refine zg_X5_height (pc := 55) C dX5_comes_55 iX5 f16 ?_
      refine z_iloadn (i := 2) (pc := 58) C dX5_comes_58 rfl rfl ?_
      refine z_aloadn (i := 0) (pc := 59) C dX5_comes_59 rfl rfl ?_
      refine zg_X5_amount (pc := 60) C dX5_comes_60 iX5 f52 ?_
      refine z_iloadn (i := 1) (pc := 63) C dX5_comes_63 rfl rfl ?_
      refine z_iald (pc := 64) C 52 j (by decide) rfl hi1 (show j < 40 by omega) dX5_comes_64 ?_
      refine z_iast (pc := 65) C 40 o (by decide) rfl eo (show o < 6 from go6 (Or.inr c_2)) dX5_comes_65 ?_
      refine z_goto (tgt := 109) (pc := 66) C dX5_comes_66 (by decide) ?_
      exact go _ (by rw [zcmA, if_neg c_1, if_pos c_2, eko])
  · refine z_aloadn (i := 0) (pc := 16) C dX5_comes_16 rfl rfl ?_
    refine zg_X5_rate (pc := 17) C dX5_comes_17 iX5 f7 ?_
    refine z_iloadn (i := 2) (pc := 20) C dX5_comes_20 rfl rfl ?_
    refine z_aloadn (i := 0) (pc := 21) C dX5_comes_21 rfl rfl ?_
    refine zg_X5_rate (pc := 22) C dX5_comes_22 iX5 f7 ?_
    refine z_iloadn (i := 2) (pc := 25) C dX5_comes_25 rfl rfl ?_
    refine z_iald (pc := 26) C 38 o (by decide) rfl eo (show o < 6 from go6 (Or.inl c_1)) dX5_comes_26 ?_
    refine z_aloadn (i := 0) (pc := 27) C dX5_comes_27 rfl rfl ?_
    refine zg_X5_amount (pc := 28) C dX5_comes_28 iX5 f52 ?_
    refine z_iloadn (i := 1) (pc := 31) C dX5_comes_31 rfl rfl ?_
    refine z_iald (pc := 32) C 52 j (by decide) rfl hi1 (show j < 40 by omega) dX5_comes_32 ?_
    refine z_iadd (pc := 33) C dX5_comes_33 ?_
    refine z_sipush (v := 5000) (pc := 34) C dX5_comes_34 (by decide) ?_
    refine z_callSi (pc := 37) (n := 2) (As := [.int ((μ 38 o) + (μ 52 j)), .int (5000)]) (rest := [.int (μ 51 j), .ref (zad E 38)]) C (c_X5_held l E sa (μ := μ) (ov := ov) (μ 38 o + μ 52 j) 5000) gX5_comes_X5_held rfl zfV_X5_held.2 ⟨Nat.le_of_ble_eq_true rfl, Nat.le_of_ble_eq_true rfl⟩ rfl rfl (Nat.le_of_ble_eq_true rfl) ⟨Nat.zero_le _, Nat.zero_le _⟩ dX5_comes_37 (fun r9 μ9 ov9 hp => ?_)
    have e1 := hp.1.symm
    have e2 := hp.2.1.symm
    have e3 := hp.2.2.symm
    clear hp
    subst e1 e2 e3
    refine z_iast (pc := 40) C 38 o (by decide) rfl eo (show o < 6 from go6 (Or.inl c_1)) dX5_comes_40 ?_
    refine z_goto (tgt := 109) (pc := 41) C dX5_comes_41 (by decide) ?_
    exact go _ (by rw [zcmA, if_pos c_1, eko])
set_option maxHeartbeats 4000000 in
set_option maxRecDepth 100000 in
theorem c_X5_linkOf (l : Launch) (E : zE) (sa : Nat → Nat) {μ : zM} {ov : Nat → Int64} (cl d : Int32) (n : Nat) (hcl : μ 63 13 = nI n) (hnl : n ≤ 8) : zMi l E sa yX5_linkOf wsX5_linkOf 3 65 0 0 [.ref (zob E 7), .int cl, .int d] μ ov (fun r μ1 ov1 => r = zloM μ d cl n n ∧ μ1 = μ ∧ ov1 = ov) := by
  refine z_ofMi (cc := cX5_linkOf) (nL := 6) (ret := (some .int)) (own := RX5) zfp_X5_linkOf rfl (by simp [Value.category]) (Nat.le_of_ble_eq_true rfl) rfl ?_
  intro p e s m below meth c C hr hlk
  have iX5 : ∀ w ∈ wsX50, w ∈ wsX5_linkOf := by decide +kernel
  have f25 := C.1.2.2.2.2 (.fieldLink RX5 25 "TickFallModel" "one" "[I") (by decide +kernel)
  have f28 := C.1.2.2.2.2 (.fieldLink RX5 28 "TickFallModel" "two" "[I") (by decide +kernel)
  have f103 := C.1.2.2.2.2 (.fieldLink RX5 103 "TickFallModel" "links" "I") (by decide +kernel)
  show zW p l e (zR 3 65 0 0) s m [Value.ref (zob E 7), Value.int cl, Value.int d].toArray below meth c E 6 0 0 (MQ below (zQi E s.heap.size (fun r μ1 ov1 => r = zloM μ d cl n n ∧ μ1 = μ ∧ ov1 = ov)) [Value.ref (zob E 7), Value.int cl, Value.int d].toArray s 0 0 (zA E s.heap.size)) 0 [some (.ref (zob E 7)), some (.int (cl)), some (.int (d)), none, none, none] [] μ ov
  refine z_iconst (v := -1) (pc := 0) C dX5_linkOf_0 (by decide) ?_
  refine z_istore3 (pc := 1) C (by decide) (fun w hw => by cases hw; exact (show ¬ (1 = 2) from by decide)) dX5_linkOf_1 ?_
  refine z_aloadn (i := 0) (pc := 2) C dX5_linkOf_2 rfl rfl ?_
  refine zg_X5_links (pc := 3) C dX5_linkOf_3 iX5 f103 ?_
  refine z_iconst (v := 1) (pc := 6) C dX5_linkOf_6 (by decide) ?_
  refine z_isub (pc := 7) C dX5_linkOf_7 ?_
  refine z_topi (y := nI (n - 0) - 1) (by rw [hcl]; rfl) ?_
  refine z_istore4 (pc := 8) C (by decide) (fun w hw => by cases hw; exact (show ¬ (1 = 2) from by decide)) dX5_linkOf_8 ?_
  have loop : ∀ (f g : Nat), g + f = n → ∀ w : Option Value, zW p l e (zR 3 65 0 0) s m [Value.ref (zob E 7), Value.int cl, Value.int d].toArray below meth c E 6 0 0 (MQ below (zQi E s.heap.size (fun r μ1 ov1 => r = zloM μ d cl n n ∧ μ1 = μ ∧ ov1 = ov)) [Value.ref (zob E 7), Value.int cl, Value.int d].toArray s 0 0 (zA E s.heap.size)) 10 [some (.ref (zob E 7)), some (.int (cl)), some (.int (d)), some (.int (zloM μ d cl n g)), some (.int (nI (n - g) - 1)), w] [] μ ov := by
    intro f
    induction f with
    | zero =>
      intro g hg w
      obtain rfl : g = n := by omega
      refine z_iload (i := 4) (pc := 10) C dX5_linkOf_10 rfl ?_
      refine z_if_lt (tgt := 92) (pc := 12) C dX5_linkOf_12 (by decide) (fun c_l => ?_) (fun c_l => ?_)
      · refine z_iloadn (i := 3) (pc := 92) C dX5_linkOf_92 rfl rfl ?_
        exact z_iret (pc := 93) C hr hlk ⟨rfl, rfl, rfl⟩ (Nat.zero_le _) (Nat.zero_le _) dX5_linkOf_93
      · exact absurd (by rw [Nat.sub_self]; decide) c_l
    | succ f ih =>
      intro g hg w
      have ex : nI (n - g) - 1 = nI (n - 1 - g) := by rw [show n - g = (n - 1 - g) + 1 by omega, nI_sub1]
      have ex2 : nI (n - 1 - g) + -1 = nI (n - (g + 1)) - 1 := by rw [show n - (g + 1) = n - 1 - g by omega, Int32.sub_eq_add_neg]
      rw [ex]
      have go : ∀ (v w : Int32), v = zloM μ d cl n (g + 1) → zW p l e (zR 3 65 0 0) s m [Value.ref (zob E 7), Value.int cl, Value.int d].toArray below meth c E 6 0 0 (MQ below (zQi E s.heap.size (fun r μ1 ov1 => r = zloM μ d cl n n ∧ μ1 = μ ∧ ov1 = ov)) [Value.ref (zob E 7), Value.int cl, Value.int d].toArray s 0 0 (zA E s.heap.size)) 85 [some (.ref (zob E 7)), some (.int (cl)), some (.int (d)), some (.int (zloM μ d cl n g)), some (.int (nI (n - 1 - g))), some (.int (w))] [.int (v)] μ ov := by
        intro v w hv
        subst hv
        refine z_istore3 (pc := 85) C (by decide) (fun w hw => by cases hw; exact (show ¬ (1 = 2) from by decide)) dX5_linkOf_85 ?_
        refine z_iinc4 (v := -1) (pc := 86) C (by decide) (by decide) (fun w hw => by cases hw; exact (show ¬ (1 = 2) from by decide)) dX5_linkOf_86 ?_
        rw [ex2]
        refine z_goto (tgt := 10) (pc := 89) C dX5_linkOf_89 (by decide) ?_
        exact ih (g + 1) (by omega) _
      have go2 : ∀ v : Int32, v = zb (zjnM μ cl (n - 1 - g)) → zW p l e (zR 3 65 0 0) s m [Value.ref (zob E 7), Value.int cl, Value.int d].toArray below meth c E 6 0 0 (MQ below (zQi E s.heap.size (fun r μ1 ov1 => r = zloM μ d cl n n ∧ μ1 = μ ∧ ov1 = ov)) [Value.ref (zob E 7), Value.int cl, Value.int d].toArray s 0 0 (zA E s.heap.size)) 62 [some (.ref (zob E 7)), some (.int (cl)), some (.int (d)), some (.int (zloM μ d cl n g)), some (.int (nI (n - 1 - g))), w] [.int (v)] μ ov := by
        intro v hv
        subst hv
        refine z_istore5 (pc := 62) C (by decide) (fun w hw => by cases hw; exact (show ¬ (1 = 2) from by decide)) dX5_linkOf_62 ?_
        refine z_iload (i := 5) (pc := 64) C dX5_linkOf_64 rfl ?_
        refine z_if_eq (tgt := 84) (pc := 66) C dX5_linkOf_66 (by decide) (fun c_5 => ?_) (fun c_5 => ?_)
        · rw [zb_eq0] at c_5
          refine z_iloadn (i := 3) (pc := 84) C dX5_linkOf_84 rfl rfl ?_
          exact go _ _ (by rw [zloM, if_neg (fun h => c_5 h.1)])
        · rw [zb_ne0] at c_5
          refine z_aloadn (i := 0) (pc := 69) C dX5_linkOf_69 rfl rfl ?_
          refine z_iload (i := 4) (pc := 70) C dX5_linkOf_70 rfl ?_
          refine z_iloadn (i := 2) (pc := 72) C dX5_linkOf_72 rfl rfl ?_
          refine z_callVi (pc := 73) (n := 2) (As := [.int (nI (n - 1 - g)), .int (d)]) (rest := []) C (c_X5_hasMeasured l E sa (μ := μ) (ov := ov) (nI (n - 1 - g)) d n hcl hnl) gX5_linkOf_X5_hasMeasured rfl zfV_X5_hasMeasured ⟨Nat.le_of_ble_eq_true rfl, Nat.le_of_ble_eq_true rfl⟩ rfl (zRec_X5 E) rfl (Nat.le_of_ble_eq_true rfl) ⟨Nat.zero_le _, Nat.zero_le _⟩ dX5_linkOf_73 (fun r9 μ9 ov9 hp => ?_)
          have e1 := hp.1.symm
          have e2 := hp.2.1.symm
          have e3 := hp.2.2.symm
          clear hp
          subst e1 e2 e3
          refine z_if_eq (tgt := 84) (pc := 76) C dX5_linkOf_76 (by decide) (fun c_6 => ?_) (fun c_6 => ?_)
          · rw [zb_eq0] at c_6
            refine z_iloadn (i := 3) (pc := 84) C dX5_linkOf_84 rfl rfl ?_
            exact go _ _ (by rw [zloM, if_neg (fun h => c_6 h.2)])
          · rw [zb_ne0] at c_6
            refine z_iload (i := 4) (pc := 79) C dX5_linkOf_79 rfl ?_
            refine z_goto (tgt := 85) (pc := 81) C dX5_linkOf_81 (by decide) ?_
            exact go _ _ (by rw [zloM, if_pos ⟨c_5, c_6⟩])
      refine z_iload (i := 4) (pc := 10) C dX5_linkOf_10 rfl ?_
      refine z_if_lt (tgt := 92) (pc := 12) C dX5_linkOf_12 (by decide) (fun c_l => ?_) (fun c_l => ?_)
      · exact absurd c_l (nI_nneg (by omega))
      · refine z_aloadn (i := 0) (pc := 15) C dX5_linkOf_15 rfl rfl ?_
        refine zg_X5_one (pc := 16) C dX5_linkOf_16 iX5 f25 ?_
        refine z_iload (i := 4) (pc := 19) C dX5_linkOf_19 rfl ?_
        refine z_iald (pc := 21) C 43 (n - 1 - g) (by decide) rfl rfl (show n - 1 - g < 8 by omega) dX5_linkOf_21 ?_
        refine z_iloadn (i := 1) (pc := 22) C dX5_linkOf_22 rfl rfl ?_
        refine z_icmp_ne (tgt := 36) (pc := 23) C dX5_linkOf_23 (by decide) (fun c_1 => ?_) (fun c_1 => ?_)
        · refine z_aloadn (i := 0) (pc := 36) C dX5_linkOf_36 rfl rfl ?_
          refine zg_X5_two (pc := 37) C dX5_linkOf_37 iX5 f28 ?_
          refine z_iload (i := 4) (pc := 40) C dX5_linkOf_40 rfl ?_
          refine z_iald (pc := 42) C 44 (n - 1 - g) (by decide) rfl rfl (show n - 1 - g < 8 by omega) dX5_linkOf_42 ?_
          refine z_iloadn (i := 1) (pc := 43) C dX5_linkOf_43 rfl rfl ?_
          refine z_icmp_ne (tgt := 61) (pc := 44) C dX5_linkOf_44 (by decide) (fun c_3 => ?_) (fun c_3 => ?_)
          · refine z_iconst (v := 0) (pc := 61) C dX5_linkOf_61 (by decide) ?_
            exact go2 _ (zb_f (fun h => h.elim (fun z => c_1 z.1) (fun z => c_3 z.1))).symm
          · refine z_aloadn (i := 0) (pc := 47) C dX5_linkOf_47 rfl rfl ?_
            refine zg_X5_one (pc := 48) C dX5_linkOf_48 iX5 f25 ?_
            refine z_iload (i := 4) (pc := 51) C dX5_linkOf_51 rfl ?_
            refine z_iald (pc := 53) C 43 (n - 1 - g) (by decide) rfl rfl (show n - 1 - g < 8 by omega) dX5_linkOf_53 ?_
            refine z_if_ne (tgt := 61) (pc := 54) C dX5_linkOf_54 (by decide) (fun c_4 => ?_) (fun c_4 => ?_)
            · refine z_iconst (v := 0) (pc := 61) C dX5_linkOf_61 (by decide) ?_
              exact go2 _ (zb_f (fun h => h.elim (fun z => c_1 z.1) (fun z => c_4 z.2))).symm
            · refine z_iconst (v := 1) (pc := 57) C dX5_linkOf_57 (by decide) ?_
              refine z_goto (tgt := 62) (pc := 58) C dX5_linkOf_58 (by decide) ?_
              exact go2 _ (zb_t (Or.inr ⟨c_3, c_4⟩)).symm
        · refine z_aloadn (i := 0) (pc := 26) C dX5_linkOf_26 rfl rfl ?_
          refine zg_X5_two (pc := 27) C dX5_linkOf_27 iX5 f28 ?_
          refine z_iload (i := 4) (pc := 30) C dX5_linkOf_30 rfl ?_
          refine z_iald (pc := 32) C 44 (n - 1 - g) (by decide) rfl rfl (show n - 1 - g < 8 by omega) dX5_linkOf_32 ?_
          refine z_if_eq (tgt := 57) (pc := 33) C dX5_linkOf_33 (by decide) (fun c_2 => ?_) (fun c_2 => ?_)
          · refine z_iconst (v := 1) (pc := 57) C dX5_linkOf_57 (by decide) ?_
            refine z_goto (tgt := 62) (pc := 58) C dX5_linkOf_58 (by decide) ?_
            exact go2 _ (zb_t (Or.inl ⟨c_1, c_2⟩)).symm
          · refine z_aloadn (i := 0) (pc := 36) C dX5_linkOf_36 rfl rfl ?_
            refine zg_X5_two (pc := 37) C dX5_linkOf_37 iX5 f28 ?_
            refine z_iload (i := 4) (pc := 40) C dX5_linkOf_40 rfl ?_
            refine z_iald (pc := 42) C 44 (n - 1 - g) (by decide) rfl rfl (show n - 1 - g < 8 by omega) dX5_linkOf_42 ?_
            refine z_iloadn (i := 1) (pc := 43) C dX5_linkOf_43 rfl rfl ?_
            refine z_icmp_ne (tgt := 61) (pc := 44) C dX5_linkOf_44 (by decide) (fun c_3 => ?_) (fun c_3 => ?_)
            · refine z_iconst (v := 0) (pc := 61) C dX5_linkOf_61 (by decide) ?_
              exact go2 _ (zb_f (fun h => h.elim (fun z => c_2 z.2) (fun z => c_3 z.1))).symm
            · refine z_aloadn (i := 0) (pc := 47) C dX5_linkOf_47 rfl rfl ?_
              refine zg_X5_one (pc := 48) C dX5_linkOf_48 iX5 f25 ?_
              refine z_iload (i := 4) (pc := 51) C dX5_linkOf_51 rfl ?_
              refine z_iald (pc := 53) C 43 (n - 1 - g) (by decide) rfl rfl (show n - 1 - g < 8 by omega) dX5_linkOf_53 ?_
              refine z_if_ne (tgt := 61) (pc := 54) C dX5_linkOf_54 (by decide) (fun c_4 => ?_) (fun c_4 => ?_)
              · refine z_iconst (v := 0) (pc := 61) C dX5_linkOf_61 (by decide) ?_
                exact go2 _ (zb_f (fun h => h.elim (fun z => c_2 z.2) (fun z => c_4 z.2))).symm
              · refine z_iconst (v := 1) (pc := 57) C dX5_linkOf_57 (by decide) ?_
                refine z_goto (tgt := 62) (pc := 58) C dX5_linkOf_58 (by decide) ?_
                exact go2 _ (zb_t (Or.inr ⟨c_3, c_4⟩)).symm
  exact loop n 0 (by omega) _
set_option maxHeartbeats 4000000 in
set_option maxRecDepth 100000 in
theorem c_X5_meanOf (l : Launch) (E : zE) (sa : Nat → Nat) {μ : zM} {ov : Nat → Int64} {d : Int32} (q nc : Nat) (hd : d = nI q) (h1q : 1 ≤ q) (hq : q < 501) (hc : μ 63 12 = nI nc) (hn : nc ≤ 6) (n : Nat) (hcl : μ 63 13 = nI n) (hnl : n ≤ 8) (hgv : zGv μ) : zMi l E sa yX5_meanOf wsX5_meanOf 4 90 0 0 [.ref (zob E 7), .int d] μ ov (fun r μ1 ov1 => r = zmeanM μ q n nc ∧ μ1 = μ ∧ ov1 = ov) := by
  refine z_ofMi (cc := cX5_meanOf) (nL := 9) (ret := (some .int)) (own := RX5) zfp_X5_meanOf rfl (by simp [Value.category]) (Nat.le_of_ble_eq_true rfl) rfl ?_
  intro p e s m below meth c C hr hlk
  have iX5 : ∀ w ∈ wsX50, w ∈ wsX5_meanOf := by decide +kernel
  have f22 := C.1.2.2.2.2 (.fieldLink RX5 22 "TickFallModel" "weight" "[I") (by decide +kernel)
  have f25 := C.1.2.2.2.2 (.fieldLink RX5 25 "TickFallModel" "one" "[I") (by decide +kernel)
  have f96 := C.1.2.2.2.2 (.fieldLink RX5 96 "TickFallModel" "clocks" "I") (by decide +kernel)
  show zW p l e (zR 4 90 0 0) s m [Value.ref (zob E 7), Value.int d].toArray below meth c E 9 0 0 (MQ below (zQi E s.heap.size (fun r μ1 ov1 => r = zmeanM μ q n nc ∧ μ1 = μ ∧ ov1 = ov)) [Value.ref (zob E 7), Value.int d].toArray s 0 0 (zA E s.heap.size)) 0 [some (.ref (zob E 7)), some (.int (d)), none, none, none, none, none, none, none] [] μ ov
  refine z_lconst (v := 0) (pc := 0) C dX5_meanOf_0 (by decide) ?_
  refine z_lstore2 (pc := 1) C (by decide) (fun w hw => by cases hw; exact (show ¬ (1 = 2) from by decide)) dX5_meanOf_1 ?_
  have go0 : ∀ v : Int64, v = (zmnM μ q n 0).2 → zW p l e (zR 4 90 0 0) s m [Value.ref (zob E 7), Value.int d].toArray below meth c E 9 0 0 (MQ below (zQi E s.heap.size (fun r μ1 ov1 => r = zmeanM μ q n nc ∧ μ1 = μ ∧ ov1 = ov)) [Value.ref (zob E 7), Value.int d].toArray s 0 0 (zA E s.heap.size)) 20 [some (.ref (zob E 7)), some (.int (d)), some (.long (0)), none, none, none, none, none, none] [.long (v)] μ ov := by
    intro v hv
    subst hv
    show zW p l e (zR 4 90 0 0) s m [Value.ref (zob E 7), Value.int d].toArray below meth c E 9 0 0 (MQ below (zQi E s.heap.size (fun r μ1 ov1 => r = zmeanM μ q n nc ∧ μ1 = μ ∧ ov1 = ov)) [Value.ref (zob E 7), Value.int d].toArray s 0 0 (zA E s.heap.size)) 20 [some (.ref (zob E 7)), some (.int (d)), some (.long ((zmnM μ q n 0).1)), none, none, none, none, none, none] [.long ((zmnM μ q n 0).2)] μ ov
    refine z_lstore4 (pc := 20) C (by decide) (fun w hw => by cases hw) dX5_meanOf_20 ?_
    refine z_iconst (v := 1) (pc := 22) C dX5_meanOf_22 (by decide) ?_
    refine z_istore6 (pc := 23) C (by decide) (fun w hw => by cases hw) dX5_meanOf_23 ?_
    show zW p l e (zR 4 90 0 0) s m [Value.ref (zob E 7), Value.int d].toArray below meth c E 9 0 0 (MQ below (zQi E s.heap.size (fun r μ1 ov1 => r = zmeanM μ q n nc ∧ μ1 = μ ∧ ov1 = ov)) [Value.ref (zob E 7), Value.int d].toArray s 0 0 (zA E s.heap.size)) 25 [some (.ref (zob E 7)), some (.int (d)), some (.long ((zmnM μ q n 0).1)), none, some (.long ((zmnM μ q n 0).2)), none, some (.int (nI (0 + 1))), none, none] [] μ ov
    have fin : ∀ (i : Nat) (wa wb : Option Value), i = nc - 1 → zW p l e (zR 4 90 0 0) s m [Value.ref (zob E 7), Value.int d].toArray below meth c E 9 0 0 (MQ below (zQi E s.heap.size (fun r μ1 ov1 => r = zmeanM μ q n nc ∧ μ1 = μ ∧ ov1 = ov)) [Value.ref (zob E 7), Value.int d].toArray s 0 0 (zA E s.heap.size)) 115 [some (.ref (zob E 7)), some (.int (d)), some (.long ((zmnM μ q n i).1)), none, some (.long ((zmnM μ q n i).2)), none, some (.int (nI (i + 1))), wa, wb] [] μ ov := by
      intro i wa wb hi
      subst hi
      refine z_lload (i := 4) (pc := 115) C dX5_meanOf_115 rfl ?_
      refine z_lconst (v := 0) (pc := 117) C dX5_meanOf_117 (by decide) ?_
      refine z_lcmp (pc := 118) C dX5_meanOf_118 ?_
      refine z_if_ne (tgt := 126) (pc := 119) C dX5_meanOf_119 (by decide) (fun c_7 => ?_) (fun c_7 => ?_)
      · rw [zlc0] at c_7
        refine z_lloadn (i := 2) (pc := 126) C dX5_meanOf_126 rfl rfl ?_
        refine z_lload (i := 4) (pc := 127) C dX5_meanOf_127 rfl ?_
        refine z_ldiv (pc := 129) C dX5_meanOf_129 c_7 ?_
        refine z_l2i (pc := 130) C dX5_meanOf_130 ?_
        exact z_iret (pc := 131) C hr hlk ⟨by rw [zmeanM, if_neg c_7], rfl, rfl⟩ (Nat.zero_le _) (Nat.zero_le _) dX5_meanOf_131
      · rw [zlc0] at c_7
        refine z_iconst (v := 0) (pc := 122) C dX5_meanOf_122 (by decide) ?_
        refine z_goto (tgt := 131) (pc := 123) C dX5_meanOf_123 (by decide) ?_
        exact z_iret (pc := 131) C hr hlk ⟨by rw [zmeanM, if_pos c_7], rfl, rfl⟩ (Nat.zero_le _) (Nat.zero_le _) dX5_meanOf_131
    have loop : ∀ (f i : Nat) (wa wb : Option Value), i + f = nc - 1 → zW p l e (zR 4 90 0 0) s m [Value.ref (zob E 7), Value.int d].toArray below meth c E 9 0 0 (MQ below (zQi E s.heap.size (fun r μ1 ov1 => r = zmeanM μ q n nc ∧ μ1 = μ ∧ ov1 = ov)) [Value.ref (zob E 7), Value.int d].toArray s 0 0 (zA E s.heap.size)) 25 [some (.ref (zob E 7)), some (.int (d)), some (.long ((zmnM μ q n i).1)), none, some (.long ((zmnM μ q n i).2)), none, some (.int (nI (i + 1))), wa, wb] [] μ ov := by
      intro f
      induction f with
      | zero =>
        intro i wa wb hi
        refine z_iload (i := 6) (pc := 25) C dX5_meanOf_25 rfl ?_
        refine z_aloadn (i := 0) (pc := 27) C dX5_meanOf_27 rfl rfl ?_
        refine zg_X5_clocks (pc := 28) C dX5_meanOf_28 iX5 f96 ?_
        refine z_topi (y := nI nc) hc ?_
        refine z_icmp_ge (tgt := 115) (pc := 31) C dX5_meanOf_31 (by decide) (fun c_l => ?_) (fun c_l => ?_)
        · exact fin i wa wb (by omega)
        · exact absurd (nI_le (by omega) (by omega)) c_l
      | succ f ih =>
        intro i wa wb hi
        have go : ∀ (x : Int64 × Int64) (wa wb : Option Value), x = zmnM μ q n (i + 1) → zW p l e (zR 4 90 0 0) s m [Value.ref (zob E 7), Value.int d].toArray below meth c E 9 0 0 (MQ below (zQi E s.heap.size (fun r μ1 ov1 => r = zmeanM μ q n nc ∧ μ1 = μ ∧ ov1 = ov)) [Value.ref (zob E 7), Value.int d].toArray s 0 0 (zA E s.heap.size)) 109 [some (.ref (zob E 7)), some (.int (d)), some (.long (x.1)), none, some (.long (x.2)), none, some (.int (nI (i + 1))), wa, wb] [] μ ov := by
          intro x wa wb hx
          subst hx
          refine z_iinc6 (v := 1) (pc := 109) C (by decide) (by decide) (fun w hw => by cases hw) dX5_meanOf_109 ?_
          rw [nI_1]
          refine z_goto (tgt := 25) (pc := 112) C dX5_meanOf_112 (by decide) ?_
          exact ih (i + 1) wa wb (by omega)
        obtain ⟨k9, hk9⟩ : ∃ x, x = zloM μ (nI q) (nI (i + 1)) n n := ⟨_, rfl⟩
        refine z_iload (i := 6) (pc := 25) C dX5_meanOf_25 rfl ?_
        refine z_aloadn (i := 0) (pc := 27) C dX5_meanOf_27 rfl rfl ?_
        refine zg_X5_clocks (pc := 28) C dX5_meanOf_28 iX5 f96 ?_
        refine z_icmp_ge (tgt := 115) (pc := 31) C dX5_meanOf_31 (by decide) (fun c_l => ?_) (fun c_l => ?_)
        · exact absurd c_l (by rw [hc]; exact nI_ge (by omega) (by omega))
        · refine z_aloadn (i := 0) (pc := 34) C dX5_meanOf_34 rfl rfl ?_
          refine z_iload (i := 6) (pc := 35) C dX5_meanOf_35 rfl ?_
          refine z_iloadn (i := 1) (pc := 37) C dX5_meanOf_37 rfl rfl ?_
          refine z_callVi (pc := 38) (n := 2) (As := [.int (nI (i + 1)), .int (d)]) (rest := []) C (c_X5_linkOf l E sa (μ := μ) (ov := ov) (nI (i + 1)) d n hcl hnl) gX5_meanOf_X5_linkOf rfl zfV_X5_linkOf ⟨Nat.le_of_ble_eq_true rfl, Nat.le_of_ble_eq_true rfl⟩ rfl (zRec_X5 E) rfl (Nat.le_of_ble_eq_true rfl) ⟨Nat.zero_le _, Nat.zero_le _⟩ dX5_meanOf_38 (fun r9 μ9 ov9 hp => ?_)
          have e1 := hp.1.symm
          have e2 := hp.2.1.symm
          have e3 := hp.2.2.symm
          clear hp
          subst e1 e2 e3
          refine z_topi (y := k9) (by rw [hk9, hd]) ?_
          refine z_istore7 (pc := 41) C (by decide) (fun w hw => by cases hw; exact (show ¬ (1 = 2) from by decide)) dX5_meanOf_41 ?_
          refine z_iload (i := 7) (pc := 43) C dX5_meanOf_43 rfl ?_
          refine z_iconst (v := -1) (pc := 45) C dX5_meanOf_45 (by decide) ?_
          refine z_icmp_eq (tgt := 109) (pc := 46) C dX5_meanOf_46 (by decide) (fun c_1 => ?_) (fun c_1 => ?_)
          · have em : zmnM μ q n (i + 1) = zmnM μ q n i := by rw [zmnM, zmnS, if_pos (by rw [← hk9]; exact c_1)]
            exact go (zmnM μ q n i) _ _ em.symm
          · obtain ⟨k, hkn, ek⟩ := (zloM_r μ (nI q) (nI (i + 1)) n n (Nat.le_refl _)).resolve_left (by rw [← hk9]; exact c_1)
            have ek2 : k9 = nI k := hk9.trans ek
            have ek9 : k9.toNatClampNeg = k := by rw [ek2, nI_clamp (by omega)]
            have go2 : ∀ v : Int32, v = (if μ 43 k = nI (i + 1) then zcorM μ k q else -zcorM μ k q) → zW p l e (zR 4 90 0 0) s m [Value.ref (zob E 7), Value.int d].toArray below meth c E 9 0 0 (MQ below (zQi E s.heap.size (fun r μ1 ov1 => r = zmeanM μ q n nc ∧ μ1 = μ ∧ ov1 = ov)) [Value.ref (zob E 7), Value.int d].toArray s 0 0 (zA E s.heap.size)) 79 [some (.ref (zob E 7)), some (.int (d)), some (.long ((zmnM μ q n i).1)), none, some (.long ((zmnM μ q n i).2)), none, some (.int (nI (i + 1))), some (.int (k9)), wb] [.int (v)] μ ov := by
              intro v hv
              subst hv
              refine z_istore8 (pc := 79) C (by decide) (fun w hw => by cases hw; exact (show ¬ (1 = 2) from by decide)) dX5_meanOf_79 ?_
              refine z_lloadn (i := 2) (pc := 81) C dX5_meanOf_81 rfl rfl ?_
              refine z_aloadn (i := 0) (pc := 82) C dX5_meanOf_82 rfl rfl ?_
              refine zg_X5_weight (pc := 83) C dX5_meanOf_83 iX5 f22 ?_
              refine z_iload (i := 6) (pc := 86) C dX5_meanOf_86 rfl ?_
              refine z_iald (pc := 88) C 42 (i + 1) (by decide) rfl rfl (show i + 1 < 6 by omega) dX5_meanOf_88 ?_
              refine z_i2l (pc := 89) C dX5_meanOf_89 ?_
              refine z_iload (i := 8) (pc := 90) C dX5_meanOf_90 rfl ?_
              refine z_i2l (pc := 92) C dX5_meanOf_92 ?_
              refine z_lmul (pc := 93) C dX5_meanOf_93 ?_
              refine z_ladd (pc := 94) C dX5_meanOf_94 ?_
              refine z_lstore2 (pc := 95) C (by decide) (fun w hw => by cases hw; exact (show ¬ (1 = 2) from by decide)) dX5_meanOf_95 ?_
              refine z_lload (i := 4) (pc := 96) C dX5_meanOf_96 rfl ?_
              refine z_aloadn (i := 0) (pc := 98) C dX5_meanOf_98 rfl rfl ?_
              refine zg_X5_weight (pc := 99) C dX5_meanOf_99 iX5 f22 ?_
              refine z_iload (i := 6) (pc := 102) C dX5_meanOf_102 rfl ?_
              refine z_iald (pc := 104) C 42 (i + 1) (by decide) rfl rfl (show i + 1 < 6 by omega) dX5_meanOf_104 ?_
              refine z_i2l (pc := 105) C dX5_meanOf_105 ?_
              refine z_ladd (pc := 106) C dX5_meanOf_106 ?_
              refine z_lstore4 (pc := 107) C (by decide) (fun w hw => by cases hw) dX5_meanOf_107 ?_
              exact go ((zmnM μ q n i).1 + (μ 42 (i + 1)).toInt64 * (if μ 43 k = nI (i + 1) then zcorM μ k q else -zcorM μ k q).toInt64, (zmnM μ q n i).2 + (μ 42 (i + 1)).toInt64) _ _ (by rw [zmnM, zmnS, ← hk9, ek9]; exact (if_neg c_1).symm)
            refine z_aloadn (i := 0) (pc := 49) C dX5_meanOf_49 rfl rfl ?_
            refine zg_X5_one (pc := 50) C dX5_meanOf_50 iX5 f25 ?_
            refine z_iload (i := 7) (pc := 53) C dX5_meanOf_53 rfl ?_
            refine z_iald (pc := 55) C 43 k (by decide) rfl ek2 (show k < 8 by omega) dX5_meanOf_55 ?_
            refine z_iload (i := 6) (pc := 56) C dX5_meanOf_56 rfl ?_
            refine z_icmp_ne (tgt := 71) (pc := 58) C dX5_meanOf_58 (by decide) (fun c_2 => ?_) (fun c_2 => ?_)
            · refine z_aloadn (i := 0) (pc := 71) C dX5_meanOf_71 rfl rfl ?_
              refine z_iload (i := 7) (pc := 72) C dX5_meanOf_72 rfl ?_
              refine z_iloadn (i := 1) (pc := 74) C dX5_meanOf_74 rfl rfl ?_
              refine z_callVi (pc := 75) (n := 2) (As := [.int (k9), .int (d)]) (rest := []) C (c_X5_corrected l E sa (μ := μ) (ov := ov) k q ek2 (by omega) hd h1q hq hgv) gX5_meanOf_X5_corrected rfl zfV_X5_corrected ⟨Nat.le_of_ble_eq_true rfl, Nat.le_of_ble_eq_true rfl⟩ rfl (zRec_X5 E) rfl (Nat.le_of_ble_eq_true rfl) ⟨Nat.zero_le _, Nat.zero_le _⟩ dX5_meanOf_75 (fun r9 μ9 ov9 hp => ?_)
              have e1 := hp.1.symm
              have e2 := hp.2.1.symm
              have e3 := hp.2.2.symm
              clear hp
              subst e1 e2 e3
              refine z_ineg (pc := 78) C dX5_meanOf_78 ?_
              exact go2 _ (by rw [if_neg c_2])
            · refine z_aloadn (i := 0) (pc := 61) C dX5_meanOf_61 rfl rfl ?_
              refine z_iload (i := 7) (pc := 62) C dX5_meanOf_62 rfl ?_
              refine z_iloadn (i := 1) (pc := 64) C dX5_meanOf_64 rfl rfl ?_
              refine z_callVi (pc := 65) (n := 2) (As := [.int (k9), .int (d)]) (rest := []) C (c_X5_corrected l E sa (μ := μ) (ov := ov) k q ek2 (by omega) hd h1q hq hgv) gX5_meanOf_X5_corrected rfl zfV_X5_corrected ⟨Nat.le_of_ble_eq_true rfl, Nat.le_of_ble_eq_true rfl⟩ rfl (zRec_X5 E) rfl (Nat.le_of_ble_eq_true rfl) ⟨Nat.zero_le _, Nat.zero_le _⟩ dX5_meanOf_65 (fun r9 μ9 ov9 hp => ?_)
              have e1 := hp.1.symm
              have e2 := hp.2.1.symm
              have e3 := hp.2.2.symm
              clear hp
              subst e1 e2 e3
              refine z_goto (tgt := 79) (pc := 68) C dX5_meanOf_68 (by decide) ?_
              exact go2 _ (by rw [if_pos c_2])
    exact loop (nc - 1) 0 _ _ (by omega)
  refine z_aloadn (i := 0) (pc := 2) C dX5_meanOf_2 rfl rfl ?_
  refine zg_X5_clocks (pc := 3) C dX5_meanOf_3 iX5 f96 ?_
  refine z_if_le (tgt := 19) (pc := 6) C dX5_meanOf_6 (by decide) (fun c_0 => ?_) (fun c_0 => ?_)
  · refine z_lconst (v := 0) (pc := 19) C dX5_meanOf_19 (by decide) ?_
    exact go0 _ (by rw [zmnM]; exact (if_neg (fun h => zno_le c_0 h)).symm)
  · refine z_aloadn (i := 0) (pc := 9) C dX5_meanOf_9 rfl rfl ?_
    refine zg_X5_weight (pc := 10) C dX5_meanOf_10 iX5 f22 ?_
    refine z_iconst (v := 0) (pc := 13) C dX5_meanOf_13 (by decide) ?_
    refine z_iald (pc := 14) C 42 0 (by decide) rfl rfl (show 0 < 6 from by omega) dX5_meanOf_14 ?_
    refine z_i2l (pc := 15) C dX5_meanOf_15 ?_
    refine z_goto (tgt := 20) (pc := 16) C dX5_meanOf_16 (by decide) ?_
    exact go0 _ (by rw [zmnM]; exact (if_pos (znot_le c_0)).symm)
