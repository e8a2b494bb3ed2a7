set_option maxHeartbeats 4000000 in
set_option maxRecDepth 100000 in
theorem c_X4_event (l : Launch) (hfl : l.stackTraces = false) (E : zE) (sa : Nat → Nat) {μ : zM} {ov : Nat → Int64} {d k i a : Int32} (t c9 nc n : Nat) (H : zCI μ t c9 nc n) : zXi l E sa yX4_event wsX4_event 6 90 1 6 [.ref (zob E 0), .int d, .int k, .int i, .int a] μ ov (fun r μ1 ov1 => (μ 63 0 < d ∧ d ≤ 500 ∧ 0 ≤ k ∧ k ≤ 3) ∧ (((k = 0 ∨ k = 1) ∧ 0 ≤ i ∧ i < μ 63 4) ∨ (¬ (k = 0 ∨ k = 1) ∧ 0 ≤ i ∧ i < μ 63 5)) ∧ (zamt k a ∧ c9 < 40) ∧ r = nI (c9 + 1) ∧ (∃ (p : Nat) (h : Nat → Int32), zins (μ 13) c9 (zevC d k i a) p h ∧ (p = 0 ∨ zevC d k i a ≤ μ 13 (p - 1)) ∧ μ1 = zu (zur μ 13 (upd h p (zevC d k i a))) 63 6 (nI (c9 + 1))) ∧ ov1 = ov) (fun X => (¬ (μ 63 0 < d ∧ d ≤ 500 ∧ 0 ≤ k ∧ k ≤ 3) ∧ X = zIA) ∨ ((μ 63 0 < d ∧ d ≤ 500 ∧ 0 ≤ k ∧ k ≤ 3) ∧ ¬ (((k = 0 ∨ k = 1) ∧ 0 ≤ i ∧ i < μ 63 4) ∨ (¬ (k = 0 ∨ k = 1) ∧ 0 ≤ i ∧ i < μ 63 5)) ∧ X = zIO) ∨ ((μ 63 0 < d ∧ d ≤ 500 ∧ 0 ≤ k ∧ k ≤ 3) ∧ (((k = 0 ∨ k = 1) ∧ 0 ≤ i ∧ i < μ 63 4) ∨ (¬ (k = 0 ∨ k = 1) ∧ 0 ≤ i ∧ i < μ 63 5)) ∧ ¬ (zamt k a ∧ c9 < 40) ∧ X = zIS)) := by
  refine z_ofXi (cc := cX4_event) (nL := 6) (ret := (some .int)) (own := RX4) zfp_X4_event rfl (by simp [Value.category]) (Nat.le_of_ble_eq_true rfl) rfl ?_
  intro p e s m below meth c C hr hlk htab
  have iX4 : ∀ w ∈ wsX40, w ∈ wsX4_event := by decide +kernel
  have f10 := C.1.2.2.2.2 (.fieldLink RX4 10 "TickFall" "clocks" "LTickFall$Clocks;") (by decide +kernel)
  have f19 := C.1.2.2.2.2 (.fieldLink RX4 19 "TickFall" "links" "LTickFall$Links;") (by decide +kernel)
  have f26 := C.1.2.2.2.2 (.fieldLink RX4 26 "TickFall" "agenda" "LTickFall$Agenda;") (by decide +kernel)
  have f45 := C.1.2.2.2.2 (.fieldLink RX4 45 "TickFall" "today" "I") (by decide +kernel)
  show zW p l e (zR 6 90 1 6) s m [Value.ref (zob E 0), Value.int d, Value.int k, Value.int i, Value.int a].toArray below meth c E 6 0 0 (vx_MQ below (zQi E s.heap.size (fun r μ1 ov1 => (μ 63 0 < d ∧ d ≤ 500 ∧ 0 ≤ k ∧ k ≤ 3) ∧ (((k = 0 ∨ k = 1) ∧ 0 ≤ i ∧ i < μ 63 4) ∨ (¬ (k = 0 ∨ k = 1) ∧ 0 ≤ i ∧ i < μ 63 5)) ∧ (zamt k a ∧ c9 < 40) ∧ r = nI (c9 + 1) ∧ (∃ (p : Nat) (h : Nat → Int32), zins (μ 13) c9 (zevC d k i a) p h ∧ (p = 0 ∨ zevC d k i a ≤ μ 13 (p - 1)) ∧ μ1 = zu (zur μ 13 (upd h p (zevC d k i a))) 63 6 (nI (c9 + 1))) ∧ ov1 = ov)) (zXC E s.heap.size μ ov (fun X => (¬ (μ 63 0 < d ∧ d ≤ 500 ∧ 0 ≤ k ∧ k ≤ 3) ∧ X = zIA) ∨ ((μ 63 0 < d ∧ d ≤ 500 ∧ 0 ≤ k ∧ k ≤ 3) ∧ ¬ (((k = 0 ∨ k = 1) ∧ 0 ≤ i ∧ i < μ 63 4) ∨ (¬ (k = 0 ∨ k = 1) ∧ 0 ≤ i ∧ i < μ 63 5)) ∧ X = zIO) ∨ ((μ 63 0 < d ∧ d ≤ 500 ∧ 0 ≤ k ∧ k ≤ 3) ∧ (((k = 0 ∨ k = 1) ∧ 0 ≤ i ∧ i < μ 63 4) ∨ (¬ (k = 0 ∨ k = 1) ∧ 0 ≤ i ∧ i < μ 63 5)) ∧ ¬ (zamt k a ∧ c9 < 40) ∧ X = zIS))) [Value.ref (zob E 0), Value.int d, Value.int k, Value.int i, Value.int a].toArray s 1 6 (zA E s.heap.size)) 0 [some (.ref (zob E 0)), some (.int (d)), some (.int (k)), some (.int (i)), some (.int (a)), none] [] μ ov
  obtain ⟨H1, H2, H3, H4, H5, H6, H7, H8, H9⟩ := id H
  refine z_iloadn (i := 1) (pc := 0) C dX4_event_0 rfl rfl ?_
  refine z_aloadn (i := 0) (pc := 1) C dX4_event_1 rfl rfl ?_
  refine zg_X4_today (pc := 2) C dX4_event_2 iX4 f45 ?_
  refine z_icmp_le (tgt := 24) (pc := 5) C dX4_event_5 (by decide) (fun c_1 => ?_) (fun c_1 => ?_)
  · exact z_throw (pc := 24) (X := "java/lang/IllegalArgumentException") (ic := 67) C hfl (by decide +kernel) (ztx_110) (by decide +kernel) (C.1.2.2.2.2 (.classLink RX4 63 "java/lang/IllegalArgumentException") (by decide +kernel)) (C.1.2.2.2.2 (.initialized "java/lang/IllegalArgumentException") (by decide +kernel)) (by decide +kernel) zth_67 ztg_67 dX4_event_24 dX4_event_27 dX4_event_28 dX4_event_30 dX4_event_33 htab (Nat.le_of_ble_eq_true rfl) (Nat.le_of_ble_eq_true rfl) (Nat.le_of_ble_eq_true rfl) (Nat.le_of_ble_eq_true rfl) hlk (Or.inl ⟨fun h => by first | exact absurd ((zlt _ _).mp h.1) (by have := (zle2 _ _).mp c_1; omega) | exact absurd ((zle2 _ _).mp h.2.1) (by have := (zlt _ _).mp c_2; omega) | exact c_3 h.2.2, rfl⟩) (Nat.le_of_ble_eq_true rfl) (Nat.le_of_ble_eq_true rfl)
  · refine z_iloadn (i := 1) (pc := 8) C dX4_event_8 rfl rfl ?_
    refine z_sipush (v := 500) (pc := 9) C dX4_event_9 (by decide) ?_
    refine z_icmp_gt (tgt := 24) (pc := 12) C dX4_event_12 (by decide) (fun c_2 => ?_) (fun c_2 => ?_)
    · exact z_throw (pc := 24) (X := "java/lang/IllegalArgumentException") (ic := 67) C hfl (by decide +kernel) (ztx_110) (by decide +kernel) (C.1.2.2.2.2 (.classLink RX4 63 "java/lang/IllegalArgumentException") (by decide +kernel)) (C.1.2.2.2.2 (.initialized "java/lang/IllegalArgumentException") (by decide +kernel)) (by decide +kernel) zth_67 ztg_67 dX4_event_24 dX4_event_27 dX4_event_28 dX4_event_30 dX4_event_33 htab (Nat.le_of_ble_eq_true rfl) (Nat.le_of_ble_eq_true rfl) (Nat.le_of_ble_eq_true rfl) (Nat.le_of_ble_eq_true rfl) hlk (Or.inl ⟨fun h => by first | exact absurd ((zlt _ _).mp h.1) (by have := (zle2 _ _).mp c_1; omega) | exact absurd ((zle2 _ _).mp h.2.1) (by have := (zlt _ _).mp c_2; omega) | exact c_3 h.2.2, rfl⟩) (Nat.le_of_ble_eq_true rfl) (Nat.le_of_ble_eq_true rfl)
    · refine z_iloadn (i := 2) (pc := 15) C dX4_event_15 rfl rfl ?_
      refine z_iconst (v := 0) (pc := 16) C dX4_event_16 (by decide) ?_
      refine z_iconst (v := 3) (pc := 17) C dX4_event_17 (by decide) ?_
      refine z_callSi (pc := 18) (n := 3) (As := [.int (k), .int (0), .int (3)]) (rest := []) C (c_X4_isWithin l E sa (μ := μ) (ov := ov) (k) (0) (3)) gX4_event_X4_isWithin rfl zfV_X4_isWithin.2 ⟨Nat.le_of_ble_eq_true rfl, Nat.le_of_ble_eq_true rfl⟩ rfl rfl (Nat.le_of_ble_eq_true rfl) ⟨Nat.zero_le _, Nat.zero_le _⟩ dX4_event_18 (fun r9 μ9 ov9 hp => ?_)
      have e1 := hp.1.symm
      have e2 := hp.2.1.symm
      have e3 := hp.2.2.symm
      clear hp
      subst e1 e2 e3
      refine z_if_ne (tgt := 34) (pc := 21) C dX4_event_21 (by decide) (fun c_3 => ?_) (fun c_3 => ?_)
      · rw [zb_ne0] at c_3
        have hP : μ 63 0 < d ∧ d ≤ 500 ∧ 0 ≤ k ∧ k ≤ 3 := ⟨znot_le c_1, znot_lt c_2, c_3⟩
        refine z_iloadn (i := 2) (pc := 34) C dX4_event_34 rfl rfl ?_
        refine z_if_eq (tgt := 43) (pc := 35) C dX4_event_35 (by decide) (fun c_k0 => ?_) (fun c_k0 => ?_)
        · refine z_iconst (v := 1) (pc := 43) C dX4_event_43 (by decide) ?_
          refine z_goto (tgt := 48) (pc := 44) C dX4_event_44 (by decide) ?_
          refine z_istore5 (pc := 48) C (by decide) (fun w hw => by cases hw; exact (show ¬ (1 = 2) from by decide)) dX4_event_48 ?_
          refine z_iload (i := 5) (pc := 50) C dX4_event_50 rfl ?_
          refine z_if_eq (tgt := 69) (pc := 52) C dX4_event_52 (by decide) (fun c_5 => ?_) (fun c_5 => ?_)
          · exact absurd c_5 (by decide)
          · refine z_aloadn (i := 0) (pc := 55) C dX4_event_55 rfl rfl ?_
            refine zg_X4_clocks (pc := 56) C dX4_event_56 iX4 f10 ?_
            refine z_iloadn (i := 3) (pc := 59) C dX4_event_59 rfl rfl ?_
            refine z_callVi (pc := 60) (n := 1) (As := [.int (i)]) (rest := []) C (c_X1_has l E sa (μ := μ) (ov := ov) i) gX4_event_X1_has rfl zfV_X1_has ⟨Nat.le_of_ble_eq_true rfl, Nat.le_of_ble_eq_true rfl⟩ rfl (zRec_X1 E) rfl (Nat.le_of_ble_eq_true rfl) ⟨Nat.zero_le _, Nat.zero_le _⟩ dX4_event_60 (fun r9 μ9 ov9 hp => ?_)
            have e1 := hp.1.symm
            have e2 := hp.2.1.symm
            have e3 := hp.2.2.symm
            clear hp
            subst e1 e2 e3
            refine z_if_ne (tgt := 90) (pc := 63) C dX4_event_63 (by decide) (fun c_6 => ?_) (fun c_6 => ?_)
            · rw [zb_ne0] at c_6
              have hQ : ((k = 0 ∨ k = 1) ∧ 0 ≤ i ∧ i < μ 63 4) ∨ (¬ (k = 0 ∨ k = 1) ∧ 0 ≤ i ∧ i < μ 63 5) := by first | exact Or.inl ⟨Or.inl c_k0, c_6⟩ | exact Or.inl ⟨Or.inr c_k1, c_6⟩ | exact Or.inr ⟨fun z => z.elim c_k0 c_k1, c_6⟩
              refine z_iloadn (i := 2) (pc := 90) C dX4_event_90 rfl rfl ?_
              refine z_iload (i := 4) (pc := 91) C dX4_event_91 rfl ?_
              refine z_callSi (pc := 93) (n := 2) (As := [.int (k), .int (a)]) (rest := []) C (c_X4_isAmountOf l E sa (μ := μ) (ov := ov) k a) gX4_event_X4_isAmountOf rfl zfV_X4_isAmountOf.2 ⟨Nat.le_of_ble_eq_true rfl, Nat.le_of_ble_eq_true rfl⟩ rfl rfl (Nat.le_of_ble_eq_true rfl) ⟨Nat.zero_le _, Nat.zero_le _⟩ dX4_event_93 (fun r9 μ9 ov9 hp => ?_)
              have e1 := hp.1.symm
              have e2 := hp.2.1.symm
              have e3 := hp.2.2.symm
              clear hp
              subst e1 e2 e3
              refine z_if_eq (tgt := 111) (pc := 96) C dX4_event_96 (by decide) (fun c_7 => ?_) (fun c_7 => ?_)
              · rw [zb_eq0] at c_7
                exact z_throw (pc := 111) (X := "java/lang/IllegalStateException") (ic := 78) C hfl (by decide +kernel) (ztx_120) (by decide +kernel) (C.1.2.2.2.2 (.classLink RX4 74 "java/lang/IllegalStateException") (by decide +kernel)) (C.1.2.2.2.2 (.initialized "java/lang/IllegalStateException") (by decide +kernel)) (by decide +kernel) zth_78 ztg_78 dX4_event_111 dX4_event_114 dX4_event_115 dX4_event_117 dX4_event_120 htab (Nat.le_of_ble_eq_true rfl) (Nat.le_of_ble_eq_true rfl) (Nat.le_of_ble_eq_true rfl) (Nat.le_of_ble_eq_true rfl) hlk (Or.inr (Or.inr ⟨hP, hQ, fun h => by first | exact c_7 h.1 | exact h8 h.2, rfl⟩)) (Nat.le_of_ble_eq_true rfl) (Nat.le_of_ble_eq_true rfl)
              · rw [zb_ne0] at c_7
                refine z_aloadn (i := 0) (pc := 99) C dX4_event_99 rfl rfl ?_
                refine zg_X4_agenda (pc := 100) C dX4_event_100 iX4 f26 ?_
                refine z_callVi (pc := 103) (n := 0) (As := []) (rest := []) C (c_X0_count l E sa (μ := μ) (ov := ov)) gX4_event_X0_count rfl zfV_X0_count ⟨Nat.le_of_ble_eq_true rfl, Nat.le_of_ble_eq_true rfl⟩ rfl (zRec_X0 E) rfl (Nat.le_of_ble_eq_true rfl) ⟨Nat.zero_le _, Nat.zero_le _⟩ dX4_event_103 (fun r9 μ9 ov9 hp => ?_)
                have e1 := hp.1.symm
                have e2 := hp.2.1.symm
                have e3 := hp.2.2.symm
                clear hp
                subst e1 e2 e3
                refine z_bipush (v := 40) (pc := 106) C dX4_event_106 (by decide) ?_
                refine z_icmp_lt (tgt := 121) (pc := 108) C dX4_event_108 (by decide) (fun c_8 => ?_) (fun c_8 => ?_)
                · have h8 : c9 < 40 := by rw [H3.1, show (40 : Int32) = nI 40 from rfl, nI_ltI (by have := H3.2.1; omega) (by omega)] at c_8; exact c_8
                  refine z_aloadn (i := 0) (pc := 121) C dX4_event_121 rfl rfl ?_
                  refine zg_X4_agenda (pc := 122) C dX4_event_122 iX4 f26 ?_
                  refine z_iloadn (i := 1) (pc := 125) C dX4_event_125 rfl rfl ?_
                  refine z_iloadn (i := 2) (pc := 126) C dX4_event_126 rfl rfl ?_
                  refine z_iloadn (i := 3) (pc := 127) C dX4_event_127 rfl rfl ?_
                  refine z_iload (i := 4) (pc := 128) C dX4_event_128 rfl ?_
                  refine z_callVv (pc := 130) (n := 4) (As := [.int (d), .int (k), .int (i), .int (a)]) (rest := []) C (c_X0_add l E sa (μ := μ) (ov := ov) c9 (v := zevC d k i a) rfl H3.1 h8) gX4_event_X0_add rfl zfV_X0_add ⟨Nat.le_of_ble_eq_true rfl, Nat.le_of_ble_eq_true rfl⟩ rfl (zRec_X0 E) rfl (Nat.le_of_ble_eq_true rfl) ⟨Nat.zero_le _, Nat.zero_le _⟩ dX4_event_130 (fun ν ov9 hp => ?_)
                  obtain ⟨⟨p7, h7, hz, hp7, e2⟩, e3⟩ := hp
                  have e3 := e3.symm
                  subst e3
                  have e2 := e2.symm
                  subst e2
                  refine z_aloadn (i := 0) (pc := 133) C dX4_event_133 rfl rfl ?_
                  refine zg_X4_agenda (pc := 134) C dX4_event_134 iX4 f26 ?_
                  refine z_callVi (pc := 137) (n := 0) (As := []) (rest := []) C (c_X0_count l E sa (μ := (zu (zur μ 13 (upd h7 p7 (zevC d k i a))) 63 6 (nI (c9 + 1)))) (ov := ov)) gX4_event_X0_count rfl zfV_X0_count ⟨Nat.le_of_ble_eq_true rfl, Nat.le_of_ble_eq_true rfl⟩ rfl (zRec_X0 E) rfl (Nat.le_of_ble_eq_true rfl) ⟨Nat.zero_le _, Nat.zero_le _⟩ dX4_event_137 (fun r9 μ9 ov9 hp => ?_)
                  have e1 := hp.1.symm
                  have e2 := hp.2.1.symm
                  have e3 := hp.2.2.symm
                  clear hp
                  subst e1 e2 e3
                  exact z_retX (z_iret (pc := 140) C hr hlk ⟨hP, hQ, ⟨c_7, h8⟩, by rw [zu_s, upd_s], ⟨p7, h7, hz, hp7, rfl⟩, rfl⟩ (Nat.zero_le _) (Nat.zero_le _) dX4_event_140)
                · have h8 : ¬ c9 < 40 := by rw [H3.1, show (40 : Int32) = nI 40 from rfl, nI_ltI (by have := H3.2.1; omega) (by omega)] at c_8; exact c_8
                  exact z_throw (pc := 111) (X := "java/lang/IllegalStateException") (ic := 78) C hfl (by decide +kernel) (ztx_120) (by decide +kernel) (C.1.2.2.2.2 (.classLink RX4 74 "java/lang/IllegalStateException") (by decide +kernel)) (C.1.2.2.2.2 (.initialized "java/lang/IllegalStateException") (by decide +kernel)) (by decide +kernel) zth_78 ztg_78 dX4_event_111 dX4_event_114 dX4_event_115 dX4_event_117 dX4_event_120 htab (Nat.le_of_ble_eq_true rfl) (Nat.le_of_ble_eq_true rfl) (Nat.le_of_ble_eq_true rfl) (Nat.le_of_ble_eq_true rfl) hlk (Or.inr (Or.inr ⟨hP, hQ, fun h => by first | exact c_7 h.1 | exact h8 h.2, rfl⟩)) (Nat.le_of_ble_eq_true rfl) (Nat.le_of_ble_eq_true rfl)
            · rw [zb_eq0] at c_6
              refine z_goto (tgt := 80) (pc := 66) C dX4_event_66 (by decide) ?_
              exact z_throw (pc := 80) (X := "java/lang/IndexOutOfBoundsException") (ic := 91) C hfl (by decide +kernel) (ztx_113) (by decide +kernel) (C.1.2.2.2.2 (.classLink RX4 87 "java/lang/IndexOutOfBoundsException") (by decide +kernel)) (C.1.2.2.2.2 (.initialized "java/lang/IndexOutOfBoundsException") (by decide +kernel)) (by decide +kernel) zth_91 ztg_91 dX4_event_80 dX4_event_83 dX4_event_84 dX4_event_86 dX4_event_89 htab (Nat.le_of_ble_eq_true rfl) (Nat.le_of_ble_eq_true rfl) (Nat.le_of_ble_eq_true rfl) (Nat.le_of_ble_eq_true rfl) hlk (Or.inr (Or.inl ⟨hP, fun h => by first | exact h.elim (fun z => c_6 z.2) (fun z => z.1 (Or.inl c_k0)) | exact h.elim (fun z => c_6 z.2) (fun z => z.1 (Or.inr c_k1)) | exact h.elim (fun z => z.1.elim c_k0 c_k1) (fun z => c_6 z.2), rfl⟩)) (Nat.le_of_ble_eq_true rfl) (Nat.le_of_ble_eq_true rfl)
        · refine z_iloadn (i := 2) (pc := 38) C dX4_event_38 rfl rfl ?_
          refine z_iconst (v := 1) (pc := 39) C dX4_event_39 (by decide) ?_
          refine z_icmp_ne (tgt := 47) (pc := 40) C dX4_event_40 (by decide) (fun c_k1 => ?_) (fun c_k1 => ?_)
          · refine z_iconst (v := 0) (pc := 47) C dX4_event_47 (by decide) ?_
            refine z_istore5 (pc := 48) C (by decide) (fun w hw => by cases hw; exact (show ¬ (1 = 2) from by decide)) dX4_event_48 ?_
            refine z_iload (i := 5) (pc := 50) C dX4_event_50 rfl ?_
            refine z_if_eq (tgt := 69) (pc := 52) C dX4_event_52 (by decide) (fun c_5 => ?_) (fun c_5 => ?_)
            · refine z_aloadn (i := 0) (pc := 69) C dX4_event_69 rfl rfl ?_
              refine zg_X4_links (pc := 70) C dX4_event_70 iX4 f19 ?_
              refine z_iloadn (i := 3) (pc := 73) C dX4_event_73 rfl rfl ?_
              refine z_callVi (pc := 74) (n := 1) (As := [.int (i)]) (rest := []) C (c_X2_has l E sa (μ := μ) (ov := ov) i) gX4_event_X2_has rfl zfV_X2_has ⟨Nat.le_of_ble_eq_true rfl, Nat.le_of_ble_eq_true rfl⟩ rfl (zRec_X2 E) rfl (Nat.le_of_ble_eq_true rfl) ⟨Nat.zero_le _, Nat.zero_le _⟩ dX4_event_74 (fun r9 μ9 ov9 hp => ?_)
              have e1 := hp.1.symm
              have e2 := hp.2.1.symm
              have e3 := hp.2.2.symm
              clear hp
              subst e1 e2 e3
              refine z_if_ne (tgt := 90) (pc := 77) C dX4_event_77 (by decide) (fun c_6 => ?_) (fun c_6 => ?_)
              · rw [zb_ne0] at c_6
                have hQ : ((k = 0 ∨ k = 1) ∧ 0 ≤ i ∧ i < μ 63 4) ∨ (¬ (k = 0 ∨ k = 1) ∧ 0 ≤ i ∧ i < μ 63 5) := by first | exact Or.inl ⟨Or.inl c_k0, c_6⟩ | exact Or.inl ⟨Or.inr c_k1, c_6⟩ | exact Or.inr ⟨fun z => z.elim c_k0 c_k1, c_6⟩
                refine z_iloadn (i := 2) (pc := 90) C dX4_event_90 rfl rfl ?_
                refine z_iload (i := 4) (pc := 91) C dX4_event_91 rfl ?_
                refine z_callSi (pc := 93) (n := 2) (As := [.int (k), .int (a)]) (rest := []) C (c_X4_isAmountOf l E sa (μ := μ) (ov := ov) k a) gX4_event_X4_isAmountOf rfl zfV_X4_isAmountOf.2 ⟨Nat.le_of_ble_eq_true rfl, Nat.le_of_ble_eq_true rfl⟩ rfl rfl (Nat.le_of_ble_eq_true rfl) ⟨Nat.zero_le _, Nat.zero_le _⟩ dX4_event_93 (fun r9 μ9 ov9 hp => ?_)
                have e1 := hp.1.symm
                have e2 := hp.2.1.symm
                have e3 := hp.2.2.symm
                clear hp
                subst e1 e2 e3
                refine z_if_eq (tgt := 111) (pc := 96) C dX4_event_96 (by decide) (fun c_7 => ?_) (fun c_7 => ?_)
                · rw [zb_eq0] at c_7
                  exact z_throw (pc := 111) (X := "java/lang/IllegalStateException") (ic := 78) C hfl (by decide +kernel) (ztx_120) (by decide +kernel) (C.1.2.2.2.2 (.classLink RX4 74 "java/lang/IllegalStateException") (by decide +kernel)) (C.1.2.2.2.2 (.initialized "java/lang/IllegalStateException") (by decide +kernel)) (by decide +kernel) zth_78 ztg_78 dX4_event_111 dX4_event_114 dX4_event_115 dX4_event_117 dX4_event_120 htab (Nat.le_of_ble_eq_true rfl) (Nat.le_of_ble_eq_true rfl) (Nat.le_of_ble_eq_true rfl) (Nat.le_of_ble_eq_true rfl) hlk (Or.inr (Or.inr ⟨hP, hQ, fun h => by first | exact c_7 h.1 | exact h8 h.2, rfl⟩)) (Nat.le_of_ble_eq_true rfl) (Nat.le_of_ble_eq_true rfl)
                · rw [zb_ne0] at c_7
                  refine z_aloadn (i := 0) (pc := 99) C dX4_event_99 rfl rfl ?_
                  refine zg_X4_agenda (pc := 100) C dX4_event_100 iX4 f26 ?_
                  refine z_callVi (pc := 103) (n := 0) (As := []) (rest := []) C (c_X0_count l E sa (μ := μ) (ov := ov)) gX4_event_X0_count rfl zfV_X0_count ⟨Nat.le_of_ble_eq_true rfl, Nat.le_of_ble_eq_true rfl⟩ rfl (zRec_X0 E) rfl (Nat.le_of_ble_eq_true rfl) ⟨Nat.zero_le _, Nat.zero_le _⟩ dX4_event_103 (fun r9 μ9 ov9 hp => ?_)
                  have e1 := hp.1.symm
                  have e2 := hp.2.1.symm
                  have e3 := hp.2.2.symm
                  clear hp
                  subst e1 e2 e3
                  refine z_bipush (v := 40) (pc := 106) C dX4_event_106 (by decide) ?_
                  refine z_icmp_lt (tgt := 121) (pc := 108) C dX4_event_108 (by decide) (fun c_8 => ?_) (fun c_8 => ?_)
                  · have h8 : c9 < 40 := by rw [H3.1, show (40 : Int32) = nI 40 from rfl, nI_ltI (by have := H3.2.1; omega) (by omega)] at c_8; exact c_8
                    refine z_aloadn (i := 0) (pc := 121) C dX4_event_121 rfl rfl ?_
                    refine zg_X4_agenda (pc := 122) C dX4_event_122 iX4 f26 ?_
                    refine z_iloadn (i := 1) (pc := 125) C dX4_event_125 rfl rfl ?_
                    refine z_iloadn (i := 2) (pc := 126) C dX4_event_126 rfl rfl ?_
                    refine z_iloadn (i := 3) (pc := 127) C dX4_event_127 rfl rfl ?_
                    refine z_iload (i := 4) (pc := 128) C dX4_event_128 rfl ?_
                    refine z_callVv (pc := 130) (n := 4) (As := [.int (d), .int (k), .int (i), .int (a)]) (rest := []) C (c_X0_add l E sa (μ := μ) (ov := ov) c9 (v := zevC d k i a) rfl H3.1 h8) gX4_event_X0_add rfl zfV_X0_add ⟨Nat.le_of_ble_eq_true rfl, Nat.le_of_ble_eq_true rfl⟩ rfl (zRec_X0 E) rfl (Nat.le_of_ble_eq_true rfl) ⟨Nat.zero_le _, Nat.zero_le _⟩ dX4_event_130 (fun ν ov9 hp => ?_)
                    obtain ⟨⟨p7, h7, hz, hp7, e2⟩, e3⟩ := hp
                    have e3 := e3.symm
                    subst e3
                    have e2 := e2.symm
                    subst e2
                    refine z_aloadn (i := 0) (pc := 133) C dX4_event_133 rfl rfl ?_
                    refine zg_X4_agenda (pc := 134) C dX4_event_134 iX4 f26 ?_
                    refine z_callVi (pc := 137) (n := 0) (As := []) (rest := []) C (c_X0_count l E sa (μ := (zu (zur μ 13 (upd h7 p7 (zevC d k i a))) 63 6 (nI (c9 + 1)))) (ov := ov)) gX4_event_X0_count rfl zfV_X0_count ⟨Nat.le_of_ble_eq_true rfl, Nat.le_of_ble_eq_true rfl⟩ rfl (zRec_X0 E) rfl (Nat.le_of_ble_eq_true rfl) ⟨Nat.zero_le _, Nat.zero_le _⟩ dX4_event_137 (fun r9 μ9 ov9 hp => ?_)
                    have e1 := hp.1.symm
                    have e2 := hp.2.1.symm
                    have e3 := hp.2.2.symm
                    clear hp
                    subst e1 e2 e3
                    exact z_retX (z_iret (pc := 140) C hr hlk ⟨hP, hQ, ⟨c_7, h8⟩, by rw [zu_s, upd_s], ⟨p7, h7, hz, hp7, rfl⟩, rfl⟩ (Nat.zero_le _) (Nat.zero_le _) dX4_event_140)
                  · have h8 : ¬ c9 < 40 := by rw [H3.1, show (40 : Int32) = nI 40 from rfl, nI_ltI (by have := H3.2.1; omega) (by omega)] at c_8; exact c_8
                    exact z_throw (pc := 111) (X := "java/lang/IllegalStateException") (ic := 78) C hfl (by decide +kernel) (ztx_120) (by decide +kernel) (C.1.2.2.2.2 (.classLink RX4 74 "java/lang/IllegalStateException") (by decide +kernel)) (C.1.2.2.2.2 (.initialized "java/lang/IllegalStateException") (by decide +kernel)) (by decide +kernel) zth_78 ztg_78 dX4_event_111 dX4_event_114 dX4_event_115 dX4_event_117 dX4_event_120 htab (Nat.le_of_ble_eq_true rfl) (Nat.le_of_ble_eq_true rfl) (Nat.le_of_ble_eq_true rfl) (Nat.le_of_ble_eq_true rfl) hlk (Or.inr (Or.inr ⟨hP, hQ, fun h => by first | exact c_7 h.1 | exact h8 h.2, rfl⟩)) (Nat.le_of_ble_eq_true rfl) (Nat.le_of_ble_eq_true rfl)
              · rw [zb_eq0] at c_6
                exact z_throw (pc := 80) (X := "java/lang/IndexOutOfBoundsException") (ic := 91) C hfl (by decide +kernel) (ztx_113) (by decide +kernel) (C.1.2.2.2.2 (.classLink RX4 87 "java/lang/IndexOutOfBoundsException") (by decide +kernel)) (C.1.2.2.2.2 (.initialized "java/lang/IndexOutOfBoundsException") (by decide +kernel)) (by decide +kernel) zth_91 ztg_91 dX4_event_80 dX4_event_83 dX4_event_84 dX4_event_86 dX4_event_89 htab (Nat.le_of_ble_eq_true rfl) (Nat.le_of_ble_eq_true rfl) (Nat.le_of_ble_eq_true rfl) (Nat.le_of_ble_eq_true rfl) hlk (Or.inr (Or.inl ⟨hP, fun h => by first | exact h.elim (fun z => c_6 z.2) (fun z => z.1 (Or.inl c_k0)) | exact h.elim (fun z => c_6 z.2) (fun z => z.1 (Or.inr c_k1)) | exact h.elim (fun z => z.1.elim c_k0 c_k1) (fun z => c_6 z.2), rfl⟩)) (Nat.le_of_ble_eq_true rfl) (Nat.le_of_ble_eq_true rfl)
            · exact absurd rfl c_5
          · refine z_iconst (v := 1) (pc := 43) C dX4_event_43 (by decide) ?_
            refine z_goto (tgt := 48) (pc := 44) C dX4_event_44 (by decide) ?_
            refine z_istore5 (pc := 48) C (by decide) (fun w hw => by cases hw; exact (show ¬ (1 = 2) from by decide)) dX4_event_48 ?_
            refine z_iload (i := 5) (pc := 50) C dX4_event_50 rfl ?_
            refine z_if_eq (tgt := 69) (pc := 52) C dX4_event_52 (by decide) (fun c_5 => ?_) (fun c_5 => ?_)
            · exact absurd c_5 (by decide)
            · refine z_aloadn (i := 0) (pc := 55) C dX4_event_55 rfl rfl ?_
              refine zg_X4_clocks (pc := 56) C dX4_event_56 iX4 f10 ?_
              refine z_iloadn (i := 3) (pc := 59) C dX4_event_59 rfl rfl ?_
              refine z_callVi (pc := 60) (n := 1) (As := [.int (i)]) (rest := []) C (c_X1_has l E sa (μ := μ) (ov := ov) i) gX4_event_X1_has rfl zfV_X1_has ⟨Nat.le_of_ble_eq_true rfl, Nat.le_of_ble_eq_true rfl⟩ rfl (zRec_X1 E) rfl (Nat.le_of_ble_eq_true rfl) ⟨Nat.zero_le _, Nat.zero_le _⟩ dX4_event_60 (fun r9 μ9 ov9 hp => ?_)
              have e1 := hp.1.symm
              have e2 := hp.2.1.symm
              have e3 := hp.2.2.symm
              clear hp
              subst e1 e2 e3
              refine z_if_ne (tgt := 90) (pc := 63) C dX4_event_63 (by decide) (fun c_6 => ?_) (fun c_6 => ?_)
              · rw [zb_ne0] at c_6
                have hQ : ((k = 0 ∨ k = 1) ∧ 0 ≤ i ∧ i < μ 63 4) ∨ (¬ (k = 0 ∨ k = 1) ∧ 0 ≤ i ∧ i < μ 63 5) := by first | exact Or.inl ⟨Or.inl c_k0, c_6⟩ | exact Or.inl ⟨Or.inr c_k1, c_6⟩ | exact Or.inr ⟨fun z => z.elim c_k0 c_k1, c_6⟩
                refine z_iloadn (i := 2) (pc := 90) C dX4_event_90 rfl rfl ?_
                refine z_iload (i := 4) (pc := 91) C dX4_event_91 rfl ?_
                refine z_callSi (pc := 93) (n := 2) (As := [.int (k), .int (a)]) (rest := []) C (c_X4_isAmountOf l E sa (μ := μ) (ov := ov) k a) gX4_event_X4_isAmountOf rfl zfV_X4_isAmountOf.2 ⟨Nat.le_of_ble_eq_true rfl, Nat.le_of_ble_eq_true rfl⟩ rfl rfl (Nat.le_of_ble_eq_true rfl) ⟨Nat.zero_le _, Nat.zero_le _⟩ dX4_event_93 (fun r9 μ9 ov9 hp => ?_)
                have e1 := hp.1.symm
                have e2 := hp.2.1.symm
                have e3 := hp.2.2.symm
                clear hp
                subst e1 e2 e3
                refine z_if_eq (tgt := 111) (pc := 96) C dX4_event_96 (by decide) (fun c_7 => ?_) (fun c_7 => ?_)
                · rw [zb_eq0] at c_7
                  exact z_throw (pc := 111) (X := "java/lang/IllegalStateException") (ic := 78) C hfl (by decide +kernel) (ztx_120) (by decide +kernel) (C.1.2.2.2.2 (.classLink RX4 74 "java/lang/IllegalStateException") (by decide +kernel)) (C.1.2.2.2.2 (.initialized "java/lang/IllegalStateException") (by decide +kernel)) (by decide +kernel) zth_78 ztg_78 dX4_event_111 dX4_event_114 dX4_event_115 dX4_event_117 dX4_event_120 htab (Nat.le_of_ble_eq_true rfl) (Nat.le_of_ble_eq_true rfl) (Nat.le_of_ble_eq_true rfl) (Nat.le_of_ble_eq_true rfl) hlk (Or.inr (Or.inr ⟨hP, hQ, fun h => by first | exact c_7 h.1 | exact h8 h.2, rfl⟩)) (Nat.le_of_ble_eq_true rfl) (Nat.le_of_ble_eq_true rfl)
                · rw [zb_ne0] at c_7
                  refine z_aloadn (i := 0) (pc := 99) C dX4_event_99 rfl rfl ?_
                  refine zg_X4_agenda (pc := 100) C dX4_event_100 iX4 f26 ?_
                  refine z_callVi (pc := 103) (n := 0) (As := []) (rest := []) C (c_X0_count l E sa (μ := μ) (ov := ov)) gX4_event_X0_count rfl zfV_X0_count ⟨Nat.le_of_ble_eq_true rfl, Nat.le_of_ble_eq_true rfl⟩ rfl (zRec_X0 E) rfl (Nat.le_of_ble_eq_true rfl) ⟨Nat.zero_le _, Nat.zero_le _⟩ dX4_event_103 (fun r9 μ9 ov9 hp => ?_)
                  have e1 := hp.1.symm
                  have e2 := hp.2.1.symm
                  have e3 := hp.2.2.symm
                  clear hp
                  subst e1 e2 e3
                  refine z_bipush (v := 40) (pc := 106) C dX4_event_106 (by decide) ?_
                  refine z_icmp_lt (tgt := 121) (pc := 108) C dX4_event_108 (by decide) (fun c_8 => ?_) (fun c_8 => ?_)
                  · have h8 : c9 < 40 := by rw [H3.1, show (40 : Int32) = nI 40 from rfl, nI_ltI (by have := H3.2.1; omega) (by omega)] at c_8; exact c_8
                    refine z_aloadn (i := 0) (pc := 121) C dX4_event_121 rfl rfl ?_
                    refine zg_X4_agenda (pc := 122) C dX4_event_122 iX4 f26 ?_
                    refine z_iloadn (i := 1) (pc := 125) C dX4_event_125 rfl rfl ?_
                    refine z_iloadn (i := 2) (pc := 126) C dX4_event_126 rfl rfl ?_
                    refine z_iloadn (i := 3) (pc := 127) C dX4_event_127 rfl rfl ?_
                    refine z_iload (i := 4) (pc := 128) C dX4_event_128 rfl ?_
                    refine z_callVv (pc := 130) (n := 4) (As := [.int (d), .int (k), .int (i), .int (a)]) (rest := []) C (c_X0_add l E sa (μ := μ) (ov := ov) c9 (v := zevC d k i a) rfl H3.1 h8) gX4_event_X0_add rfl zfV_X0_add ⟨Nat.le_of_ble_eq_true rfl, Nat.le_of_ble_eq_true rfl⟩ rfl (zRec_X0 E) rfl (Nat.le_of_ble_eq_true rfl) ⟨Nat.zero_le _, Nat.zero_le _⟩ dX4_event_130 (fun ν ov9 hp => ?_)
                    obtain ⟨⟨p7, h7, hz, hp7, e2⟩, e3⟩ := hp
                    have e3 := e3.symm
                    subst e3
                    have e2 := e2.symm
                    subst e2
                    refine z_aloadn (i := 0) (pc := 133) C dX4_event_133 rfl rfl ?_
                    refine zg_X4_agenda (pc := 134) C dX4_event_134 iX4 f26 ?_
                    refine z_callVi (pc := 137) (n := 0) (As := []) (rest := []) C (c_X0_count l E sa (μ := (zu (zur μ 13 (upd h7 p7 (zevC d k i a))) 63 6 (nI (c9 + 1)))) (ov := ov)) gX4_event_X0_count rfl zfV_X0_count ⟨Nat.le_of_ble_eq_true rfl, Nat.le_of_ble_eq_true rfl⟩ rfl (zRec_X0 E) rfl (Nat.le_of_ble_eq_true rfl) ⟨Nat.zero_le _, Nat.zero_le _⟩ dX4_event_137 (fun r9 μ9 ov9 hp => ?_)
                    have e1 := hp.1.symm
                    have e2 := hp.2.1.symm
                    have e3 := hp.2.2.symm
                    clear hp
                    subst e1 e2 e3
                    exact z_retX (z_iret (pc := 140) C hr hlk ⟨hP, hQ, ⟨c_7, h8⟩, by rw [zu_s, upd_s], ⟨p7, h7, hz, hp7, rfl⟩, rfl⟩ (Nat.zero_le _) (Nat.zero_le _) dX4_event_140)
                  · have h8 : ¬ c9 < 40 := by rw [H3.1, show (40 : Int32) = nI 40 from rfl, nI_ltI (by have := H3.2.1; omega) (by omega)] at c_8; exact c_8
                    exact z_throw (pc := 111) (X := "java/lang/IllegalStateException") (ic := 78) C hfl (by decide +kernel) (ztx_120) (by decide +kernel) (C.1.2.2.2.2 (.classLink RX4 74 "java/lang/IllegalStateException") (by decide +kernel)) (C.1.2.2.2.2 (.initialized "java/lang/IllegalStateException") (by decide +kernel)) (by decide +kernel) zth_78 ztg_78 dX4_event_111 dX4_event_114 dX4_event_115 dX4_event_117 dX4_event_120 htab (Nat.le_of_ble_eq_true rfl) (Nat.le_of_ble_eq_true rfl) (Nat.le_of_ble_eq_true rfl) (Nat.le_of_ble_eq_true rfl) hlk (Or.inr (Or.inr ⟨hP, hQ, fun h => by first | exact c_7 h.1 | exact h8 h.2, rfl⟩)) (Nat.le_of_ble_eq_true rfl) (Nat.le_of_ble_eq_true rfl)
              · rw [zb_eq0] at c_6
                refine z_goto (tgt := 80) (pc := 66) C dX4_event_66 (by decide) ?_
                exact z_throw (pc := 80) (X := "java/lang/IndexOutOfBoundsException") (ic := 91) C hfl (by decide +kernel) (ztx_113) (by decide +kernel) (C.1.2.2.2.2 (.classLink RX4 87 "java/lang/IndexOutOfBoundsException") (by decide +kernel)) (C.1.2.2.2.2 (.initialized "java/lang/IndexOutOfBoundsException") (by decide +kernel)) (by decide +kernel) zth_91 ztg_91 dX4_event_80 dX4_event_83 dX4_event_84 dX4_event_86 dX4_event_89 htab (Nat.le_of_ble_eq_true rfl) (Nat.le_of_ble_eq_true rfl) (Nat.le_of_ble_eq_true rfl) (Nat.le_of_ble_eq_true rfl) hlk (Or.inr (Or.inl ⟨hP, fun h => by first | exact h.elim (fun z => c_6 z.2) (fun z => z.1 (Or.inl c_k0)) | exact h.elim (fun z => c_6 z.2) (fun z => z.1 (Or.inr c_k1)) | exact h.elim (fun z => z.1.elim c_k0 c_k1) (fun z => c_6 z.2), rfl⟩)) (Nat.le_of_ble_eq_true rfl) (Nat.le_of_ble_eq_true rfl)
      · rw [zb_eq0] at c_3
        exact z_throw (pc := 24) (X := "java/lang/IllegalArgumentException") (ic := 67) C hfl (by decide +kernel) (ztx_110) (by decide +kernel) (C.1.2.2.2.2 (.classLink RX4 63 "java/lang/IllegalArgumentException") (by decide +kernel)) (C.1.2.2.2.2 (.initialized "java/lang/IllegalArgumentException") (by decide +kernel)) (by decide +kernel) zth_67 ztg_67 dX4_event_24 dX4_event_27 dX4_event_28 dX4_event_30 dX4_event_33 htab (Nat.le_of_ble_eq_true rfl) (Nat.le_of_ble_eq_true rfl) (Nat.le_of_ble_eq_true rfl) (Nat.le_of_ble_eq_true rfl) hlk (Or.inl ⟨fun h => by first | exact absurd ((zlt _ _).mp h.1) (by have := (zle2 _ _).mp c_1; omega) | exact absurd ((zle2 _ _).mp h.2.1) (by have := (zlt _ _).mp c_2; omega) | exact c_3 h.2.2, rfl⟩) (Nat.le_of_ble_eq_true rfl) (Nat.le_of_ble_eq_true rfl)
set_option maxHeartbeats 4000000 in
set_option maxRecDepth 100000 in
theorem c_X4_pass (l : Launch) (hfl : l.stackTraces = false) (E : zE) (sa : Nat → Nat) {μ : zM} {ov : Nat → Int64} {f : Int32} (t c9 nc n : Nat) (H : zCI μ t c9 nc n) : zXi l E sa yX4_pass wsX4_pass 6 117 1 6 [.ref (zob E 0), .int f] μ ov (fun r μ1 ov1 => (1 ≤ f ∧ f ≤ 50) ∧ (f ≤ 500 - μ 63 0) ∧ r = zpas f.toNatClampNeg μ 63 0 ∧ μ1 = zpas f.toNatClampNeg μ ∧ ov1 = ov) (fun X => (¬ (1 ≤ f ∧ f ≤ 50) ∧ X = zIA) ∨ ((1 ≤ f ∧ f ≤ 50) ∧ ¬ (f ≤ 500 - μ 63 0) ∧ X = zIS)) := by
  refine z_ofXi (cc := cX4_pass) (nL := 3) (ret := (some .int)) (own := RX4) zfp_X4_pass rfl (by simp [Value.category]) (Nat.le_of_ble_eq_true rfl) rfl ?_
  intro p e s m below meth c C hr hlk htab
  have iX4 : ∀ w ∈ wsX40, w ∈ wsX4_pass := by decide +kernel
  have f45 := C.1.2.2.2.2 (.fieldLink RX4 45 "TickFall" "today" "I") (by decide +kernel)
  show zW p l e (zR 6 117 1 6) s m [Value.ref (zob E 0), Value.int f].toArray below meth c E 3 0 0 (vx_MQ below (zQi E s.heap.size (fun r μ1 ov1 => (1 ≤ f ∧ f ≤ 50) ∧ (f ≤ 500 - μ 63 0) ∧ r = zpas f.toNatClampNeg μ 63 0 ∧ μ1 = zpas f.toNatClampNeg μ ∧ ov1 = ov)) (zXC E s.heap.size μ ov (fun X => (¬ (1 ≤ f ∧ f ≤ 50) ∧ X = zIA) ∨ ((1 ≤ f ∧ f ≤ 50) ∧ ¬ (f ≤ 500 - μ 63 0) ∧ X = zIS))) [Value.ref (zob E 0), Value.int f].toArray s 1 6 (zA E s.heap.size)) 0 [some (.ref (zob E 0)), some (.int (f)), none] [] μ ov
  obtain ⟨H1, H2, H3, H4, H5, H6, H7, H8, H9⟩ := id H
  refine z_iloadn (i := 1) (pc := 0) C dX4_pass_0 rfl rfl ?_
  refine z_iconst (v := 1) (pc := 1) C dX4_pass_1 (by decide) ?_
  refine z_bipush (v := 50) (pc := 2) C dX4_pass_2 (by decide) ?_
  refine z_callSi (pc := 4) (n := 3) (As := [.int (f), .int (1), .int (50)]) (rest := []) C (c_X4_isWithin l E sa (μ := μ) (ov := ov) (f) (1) (50)) gX4_pass_X4_isWithin rfl zfV_X4_isWithin.2 ⟨Nat.le_of_ble_eq_true rfl, Nat.le_of_ble_eq_true rfl⟩ rfl rfl (Nat.le_of_ble_eq_true rfl) ⟨Nat.zero_le _, Nat.zero_le _⟩ dX4_pass_4 (fun r9 μ9 ov9 hp => ?_)
  have e1 := hp.1.symm
  have e2 := hp.2.1.symm
  have e3 := hp.2.2.symm
  clear hp
  subst e1 e2 e3
  refine z_if_ne (tgt := 20) (pc := 7) C dX4_pass_7 (by decide) (fun c_1 => ?_) (fun c_1 => ?_)
  · rw [zb_ne0] at c_1
    refine z_iloadn (i := 1) (pc := 20) C dX4_pass_20 rfl rfl ?_
    refine z_sipush (v := 500) (pc := 21) C dX4_pass_21 (by decide) ?_
    refine z_aloadn (i := 0) (pc := 24) C dX4_pass_24 rfl rfl ?_
    refine zg_X4_today (pc := 25) C dX4_pass_25 iX4 f45 ?_
    refine z_isub (pc := 28) C dX4_pass_28 ?_
    refine z_icmp_le (tgt := 42) (pc := 29) C dX4_pass_29 (by decide) (fun c_2 => ?_) (fun c_2 => ?_)
    · refine z_iconst (v := 0) (pc := 42) C dX4_pass_42 (by decide) ?_
      refine z_istore2 (pc := 43) C (by decide) (fun w hw => by cases hw; exact (show ¬ (1 = 2) from by decide)) dX4_pass_43 ?_
      obtain ⟨q, hq1, hq, hfq⟩ := znat2 (n := 50) c_1.1 c_1.2 (by omega)
      have htq : t + q ≤ 500 := by rw [H1, hfq, show (500 : Int32) = nI 500 from rfl, pk_sub H2, nI_leI (by omega) (by omega)] at c_2; omega
      have loop : ∀ (g i : Nat), i + g = q → zW p l e (zR 6 117 1 6) s m [Value.ref (zob E 0), Value.int f].toArray below meth c E 3 0 0 (vx_MQ below (zQi E s.heap.size (fun r μ1 ov1 => (1 ≤ f ∧ f ≤ 50) ∧ (f ≤ 500 - μ 63 0) ∧ r = zpas f.toNatClampNeg μ 63 0 ∧ μ1 = zpas f.toNatClampNeg μ ∧ ov1 = ov)) (zXC E s.heap.size μ ov (fun X => (¬ (1 ≤ f ∧ f ≤ 50) ∧ X = zIA) ∨ ((1 ≤ f ∧ f ≤ 50) ∧ ¬ (f ≤ 500 - μ 63 0) ∧ X = zIS))) [Value.ref (zob E 0), Value.int f].toArray s 1 6 (zA E s.heap.size)) 44 [some (.ref (zob E 0)), some (.int (f)), some (.int (nI i))] [] (zpas i μ) ov := by
        intro g
        induction g with
        | zero =>
          intro i hi
          refine z_iloadn (i := 2) (pc := 44) C dX4_pass_44 rfl rfl ?_
          refine z_iloadn (i := 1) (pc := 45) C dX4_pass_45 rfl rfl ?_
          refine z_icmp_ge (tgt := 59) (pc := 46) C dX4_pass_46 (by decide) (fun c_l => ?_) (fun c_l => ?_)
          · refine z_aloadn (i := 0) (pc := 59) C dX4_pass_59 rfl rfl ?_
            refine zg_X4_today (pc := 60) C dX4_pass_60 iX4 f45 ?_
            exact z_retX (z_iret (pc := 63) C hr hlk ⟨c_1, c_2, by rw [hfq, nI_clamp (by omega), show i = q by omega], by rw [hfq, nI_clamp (by omega), show i = q by omega], rfl⟩ (Nat.zero_le _) (Nat.zero_le _) dX4_pass_63)
          · exact absurd (by rw [hfq]; exact nI_le (by omega) (by omega)) c_l
        | succ g ih =>
          intro i hi
          obtain ⟨c8, Hi⟩ := H.pas i (by omega)
          refine z_iloadn (i := 2) (pc := 44) C dX4_pass_44 rfl rfl ?_
          refine z_iloadn (i := 1) (pc := 45) C dX4_pass_45 rfl rfl ?_
          refine z_icmp_ge (tgt := 59) (pc := 46) C dX4_pass_46 (by decide) (fun c_l => ?_) (fun c_l => ?_)
          · exact absurd c_l (by rw [hfq]; exact nI_ge (by omega) (by omega))
          · refine z_aloadn (i := 0) (pc := 49) C dX4_pass_49 rfl rfl ?_
            refine z_callVv (pc := 50) (n := 0) (As := []) (rest := []) C (c_X4_passOneDay l E sa (μ := zpas i μ) (ov := ov) (t + i) c8 nc n Hi (by omega)) gX4_pass_X4_passOneDay rfl zfV_X4_passOneDay ⟨Nat.le_of_ble_eq_true rfl, Nat.le_of_ble_eq_true rfl⟩ rfl (zRec_X4 E) rfl (Nat.le_of_ble_eq_true rfl) ⟨Nat.zero_le _, Nat.zero_le _⟩ dX4_pass_50 (fun μ9 ov9 hp => ?_)
            have e2 := hp.1.symm
            have e3 := hp.2.symm
            clear hp
            subst e2 e3
            refine z_iinc2 (v := 1) (pc := 53) C (by decide) (by decide) (fun w hw => by cases hw; exact (show ¬ (1 = 2) from by decide)) dX4_pass_53 ?_
            rw [nI_1]
            refine z_goto (tgt := 44) (pc := 56) C dX4_pass_56 (by decide) ?_
            exact ih (i + 1) (by omega)
      exact loop q 0 (by omega)
    · exact z_throw (pc := 32) (X := "java/lang/IllegalStateException") (ic := 78) C hfl (by decide +kernel) (ztx_141) (by decide +kernel) (C.1.2.2.2.2 (.classLink RX4 74 "java/lang/IllegalStateException") (by decide +kernel)) (C.1.2.2.2.2 (.initialized "java/lang/IllegalStateException") (by decide +kernel)) (by decide +kernel) zth_78 ztg_78 dX4_pass_32 dX4_pass_35 dX4_pass_36 dX4_pass_38 dX4_pass_41 htab (Nat.le_of_ble_eq_true rfl) (Nat.le_of_ble_eq_true rfl) (Nat.le_of_ble_eq_true rfl) (Nat.le_of_ble_eq_true rfl) hlk (Or.inr ⟨c_1, c_2, rfl⟩) (Nat.le_of_ble_eq_true rfl) (Nat.le_of_ble_eq_true rfl)
  · rw [zb_eq0] at c_1
    exact z_throw (pc := 10) (X := "java/lang/IllegalArgumentException") (ic := 67) C hfl (by decide +kernel) (ztx_139) (by decide +kernel) (C.1.2.2.2.2 (.classLink RX4 63 "java/lang/IllegalArgumentException") (by decide +kernel)) (C.1.2.2.2.2 (.initialized "java/lang/IllegalArgumentException") (by decide +kernel)) (by decide +kernel) zth_67 ztg_67 dX4_pass_10 dX4_pass_13 dX4_pass_14 dX4_pass_16 dX4_pass_19 htab (Nat.le_of_ble_eq_true rfl) (Nat.le_of_ble_eq_true rfl) (Nat.le_of_ble_eq_true rfl) (Nat.le_of_ble_eq_true rfl) hlk (Or.inl ⟨c_1, rfl⟩) (Nat.le_of_ble_eq_true rfl) (Nat.le_of_ble_eq_true rfl)
set_option maxHeartbeats 4000000 in
set_option maxRecDepth 100000 in
theorem c_X4_vote (l : Launch) (hfl : l.stackTraces = false) (E : zE) (sa : Nat → Nat) {μ : zM} {ov : Nat → Int64} {i b : Int32} (hb : b = 0 ∨ b = 1) (t c9 nc n : Nat) (H : zCI μ t c9 nc n) : zXi l E sa yX4_vote wsX4_vote 6 90 1 6 [.ref (zob E 0), .int i, .int b] μ ov (fun r μ1 ov1 => (0 ≤ i ∧ i ≤ 6) ∧ r = nI (zcnt (zhou (zu μ 1 i.toNatClampNeg b)) 7) ∧ μ1 = zu μ 1 i.toNatClampNeg b ∧ ov1 = ov) (fun X => (¬ (0 ≤ i ∧ i ≤ 6) ∧ X = zIO)) := by
  refine z_ofXi (cc := cX4_vote) (nL := 3) (ret := (some .int)) (own := RX4) zfp_X4_vote rfl (by simp [Value.category]) (Nat.le_of_ble_eq_true rfl) rfl ?_
  intro p e s m below meth c C hr hlk htab
  have iX4 : ∀ w ∈ wsX40, w ∈ wsX4_vote := by decide +kernel
  have f41 := C.1.2.2.2.2 (.fieldLink RX4 41 "TickFall" "votes" "[Z") (by decide +kernel)
  show zW p l e (zR 6 90 1 6) s m [Value.ref (zob E 0), Value.int i, Value.int b].toArray below meth c E 3 0 0 (vx_MQ below (zQi E s.heap.size (fun r μ1 ov1 => (0 ≤ i ∧ i ≤ 6) ∧ r = nI (zcnt (zhou (zu μ 1 i.toNatClampNeg b)) 7) ∧ μ1 = zu μ 1 i.toNatClampNeg b ∧ ov1 = ov)) (zXC E s.heap.size μ ov (fun X => (¬ (0 ≤ i ∧ i ≤ 6) ∧ X = zIO))) [Value.ref (zob E 0), Value.int i, Value.int b].toArray s 1 6 (zA E s.heap.size)) 0 [some (.ref (zob E 0)), some (.int (i)), some (.int (b))] [] μ ov
  obtain ⟨H1, H2, H3, H4, H5, H6, H7, H8, H9⟩ := id H
  refine z_iloadn (i := 1) (pc := 0) C dX4_vote_0 rfl rfl ?_
  refine z_iconst (v := 0) (pc := 1) C dX4_vote_1 (by decide) ?_
  refine z_bipush (v := 6) (pc := 2) C dX4_vote_2 (by decide) ?_
  refine z_callSi (pc := 4) (n := 3) (As := [.int (i), .int (0), .int (6)]) (rest := []) C (c_X4_isWithin l E sa (μ := μ) (ov := ov) (i) (0) (6)) gX4_vote_X4_isWithin rfl zfV_X4_isWithin.2 ⟨Nat.le_of_ble_eq_true rfl, Nat.le_of_ble_eq_true rfl⟩ rfl rfl (Nat.le_of_ble_eq_true rfl) ⟨Nat.zero_le _, Nat.zero_le _⟩ dX4_vote_4 (fun r9 μ9 ov9 hp => ?_)
  have e1 := hp.1.symm
  have e2 := hp.2.1.symm
  have e3 := hp.2.2.symm
  clear hp
  subst e1 e2 e3
  refine z_if_ne (tgt := 20) (pc := 7) C dX4_vote_7 (by decide) (fun c_1 => ?_) (fun c_1 => ?_)
  · rw [zb_ne0] at c_1
    obtain ⟨k, hk, hi⟩ := nI_of2 (x := i) (M := 6) (n := 6) rfl (fun h => by have := c_1.1; rw [zlt] at h; rw [zle2] at this; omega) c_1.2
    have hik : i.toNatClampNeg = k := by rw [hi, nI_clamp (by omega)]
    refine z_aloadn (i := 0) (pc := 20) C dX4_vote_20 rfl rfl ?_
    refine zg_X4_votes (pc := 21) C dX4_vote_21 iX4 f41 ?_
    refine z_iloadn (i := 1) (pc := 24) C dX4_vote_24 rfl rfl ?_
    refine z_iloadn (i := 2) (pc := 25) C dX4_vote_25 rfl rfl ?_
    refine z_bast (pc := 26) C 1 k (by decide) rfl hi (show k < 7 by omega) (zvnz hb) dX4_vote_26 ?_
    refine z_aloadn (i := 0) (pc := 27) C dX4_vote_27 rfl rfl ?_
    refine z_callVi (pc := 28) (n := 0) (As := []) (rest := []) C (c_X4_housesFor l E sa (μ := zu μ 1 k b) (ov := ov)) gX4_vote_X4_housesFor rfl zfV_X4_housesFor ⟨Nat.le_of_ble_eq_true rfl, Nat.le_of_ble_eq_true rfl⟩ rfl (zRec_X4 E) rfl (Nat.le_of_ble_eq_true rfl) ⟨Nat.zero_le _, Nat.zero_le _⟩ dX4_vote_28 (fun r9 μ9 ov9 hp => ?_)
    have e1 := hp.1.symm
    have e2 := hp.2.1.symm
    have e3 := hp.2.2.symm
    clear hp
    subst e1 e2 e3
    exact z_retX (z_iret (pc := 31) C hr hlk ⟨c_1, by rw [hik], by rw [hik], rfl⟩ (Nat.zero_le _) (Nat.zero_le _) dX4_vote_31)
  · rw [zb_eq0] at c_1
    exact z_throw (pc := 10) (X := "java/lang/IndexOutOfBoundsException") (ic := 91) C hfl (by decide +kernel) (ztx_146) (by decide +kernel) (C.1.2.2.2.2 (.classLink RX4 87 "java/lang/IndexOutOfBoundsException") (by decide +kernel)) (C.1.2.2.2.2 (.initialized "java/lang/IndexOutOfBoundsException") (by decide +kernel)) (by decide +kernel) zth_91 ztg_91 dX4_vote_10 dX4_vote_13 dX4_vote_14 dX4_vote_16 dX4_vote_19 htab (Nat.le_of_ble_eq_true rfl) (Nat.le_of_ble_eq_true rfl) (Nat.le_of_ble_eq_true rfl) (Nat.le_of_ble_eq_true rfl) hlk ⟨c_1, rfl⟩ (Nat.le_of_ble_eq_true rfl) (Nat.le_of_ble_eq_true rfl)
set_option maxHeartbeats 4000000 in
set_option maxRecDepth 100000 in
theorem c_X4_adopt (l : Launch) (hfl : l.stackTraces = false) (E : zE) (sa : Nat → Nat) {μ : zM} {ov : Nat → Int64}  (t c9 nc n : Nat) (H : zCI μ t c9 nc n) : zXi l E sa yX4_adopt wsX4_adopt 6 140 1 6 [.ref (zob E 0)] μ ov (fun r μ1 ov1 => (μ 63 3 = 0 ∧ ¬ μ 63 0 = 0) ∧ r = zb (5 ≤ zcnt (zhou μ) 7 ∧ nI (zopen μ t n) = 0) ∧ (∃ ν, zScr μ ν ∧ μ1 = zu ν 63 3 (zb (5 ≤ zcnt (zhou μ) 7 ∧ nI (zopen μ t n) = 0))) ∧ ov1 = ov) (fun X => (¬ (μ 63 3 = 0 ∧ ¬ μ 63 0 = 0) ∧ X = zIS)) := by
  refine z_ofXi (cc := cX4_adopt) (nL := 1) (ret := (some .boolean)) (own := RX4) zfp_X4_adopt rfl (by simp [Value.category]) (Nat.le_of_ble_eq_true rfl) rfl ?_
  intro p e s m below meth c C hr hlk htab
  have iX4 : ∀ w ∈ wsX40, w ∈ wsX4_adopt := by decide +kernel
  have f45 := C.1.2.2.2.2 (.fieldLink RX4 45 "TickFall" "today" "I") (by decide +kernel)
  have f55 := C.1.2.2.2.2 (.fieldLink RX4 55 "TickFall" "isAdopted" "Z") (by decide +kernel)
  show zW p l e (zR 6 140 1 6) s m [Value.ref (zob E 0)].toArray below meth c E 1 0 0 (vx_MQ below (zQi E s.heap.size (fun r μ1 ov1 => (μ 63 3 = 0 ∧ ¬ μ 63 0 = 0) ∧ r = zb (5 ≤ zcnt (zhou μ) 7 ∧ nI (zopen μ t n) = 0) ∧ (∃ ν, zScr μ ν ∧ μ1 = zu ν 63 3 (zb (5 ≤ zcnt (zhou μ) 7 ∧ nI (zopen μ t n) = 0))) ∧ ov1 = ov)) (zXC E s.heap.size μ ov (fun X => (¬ (μ 63 3 = 0 ∧ ¬ μ 63 0 = 0) ∧ X = zIS))) [Value.ref (zob E 0)].toArray s 1 6 (zA E s.heap.size)) 0 [some (.ref (zob E 0))] [] μ ov
  obtain ⟨H1, H2, H3, H4, H5, H6, H7, H8, H9⟩ := id H
  refine z_aloadn (i := 0) (pc := 0) C dX4_adopt_0 rfl rfl ?_
  refine zg_X4_isAdopted (pc := 1) C dX4_adopt_1 iX4 f55 ?_
  refine z_if_ne (tgt := 14) (pc := 4) C dX4_adopt_4 (by decide) (fun c_1 => ?_) (fun c_1 => ?_)
  · exact z_throw (pc := 14) (X := "java/lang/IllegalStateException") (ic := 78) C hfl (by decide +kernel) (ztx_151) (by decide +kernel) (C.1.2.2.2.2 (.classLink RX4 74 "java/lang/IllegalStateException") (by decide +kernel)) (C.1.2.2.2.2 (.initialized "java/lang/IllegalStateException") (by decide +kernel)) (by decide +kernel) zth_78 ztg_78 dX4_adopt_14 dX4_adopt_17 dX4_adopt_18 dX4_adopt_20 dX4_adopt_23 htab (Nat.le_of_ble_eq_true rfl) (Nat.le_of_ble_eq_true rfl) (Nat.le_of_ble_eq_true rfl) (Nat.le_of_ble_eq_true rfl) hlk ⟨fun h => by first | exact c_1 h.1 | exact h.2 c_2, rfl⟩ (Nat.le_of_ble_eq_true rfl) (Nat.le_of_ble_eq_true rfl)
  · refine z_aloadn (i := 0) (pc := 7) C dX4_adopt_7 rfl rfl ?_
    refine zg_X4_today (pc := 8) C dX4_adopt_8 iX4 f45 ?_
    refine z_if_ne (tgt := 24) (pc := 11) C dX4_adopt_11 (by decide) (fun c_2 => ?_) (fun c_2 => ?_)
    · have hz7 := zcnt_le (zhou μ) 7
      refine z_aloadn (i := 0) (pc := 24) C dX4_adopt_24 rfl rfl ?_
      refine z_aloadn (i := 0) (pc := 25) C dX4_adopt_25 rfl rfl ?_
      refine z_callVi (pc := 26) (n := 0) (As := []) (rest := [.ref (zob E 0)]) C (c_X4_housesFor l E sa (μ := μ) (ov := ov)) gX4_adopt_X4_housesFor rfl zfV_X4_housesFor ⟨Nat.le_of_ble_eq_true rfl, Nat.le_of_ble_eq_true rfl⟩ rfl (zRec_X4 E) rfl (Nat.le_of_ble_eq_true rfl) ⟨Nat.zero_le _, Nat.zero_le _⟩ dX4_adopt_26 (fun r9 μ9 ov9 hp => ?_)
      have e1 := hp.1.symm
      have e2 := hp.2.1.symm
      have e3 := hp.2.2.symm
      clear hp
      subst e1 e2 e3
      refine z_iconst (v := 5) (pc := 29) C dX4_adopt_29 (by decide) ?_
      refine z_icmp_lt (tgt := 48) (pc := 30) C dX4_adopt_30 (by decide) (fun c_3 => ?_) (fun c_3 => ?_)
      · rw [show (5 : Int32) = nI 5 from rfl, nI_ltI (by omega) (by omega)] at c_3
        refine z_iconst (v := 0) (pc := 48) C dX4_adopt_48 (by decide) ?_
        have hres : zb (5 ≤ zcnt (zhou μ) 7 ∧ nI (zopen μ t n) = 0) = 0 := by first | exact zb_f (fun h => by omega) | exact zb_f (fun h => c_4 h.2) | exact zb_t ⟨by omega, c_4⟩
        refine zp_X4_isAdopted (pc := 49) C dX4_adopt_49 (by decide) iX4 f55 ?_
        refine z_aloadn (i := 0) (pc := 52) C dX4_adopt_52 rfl rfl ?_
        refine zg_X4_isAdopted (pc := 53) C dX4_adopt_53 iX4 f55 ?_
        exact z_retX (z_zret (pc := 56) C hr hlk (by rw [zu_s, upd_s]; decide) ⟨⟨c_1, c_2⟩, by rw [zu_s, upd_s]; exact hres.symm, ⟨_, by first | exact hs | exact zScr.rf μ, by rw [hres]⟩, rfl⟩ (Nat.zero_le _) (Nat.zero_le _) dX4_adopt_56)
      · rw [show (5 : Int32) = nI 5 from rfl, nI_ltI (by omega) (by omega)] at c_3
        refine z_aloadn (i := 0) (pc := 33) C dX4_adopt_33 rfl rfl ?_
        refine z_aloadn (i := 0) (pc := 34) C dX4_adopt_34 rfl rfl ?_
        refine zg_X4_today (pc := 35) C dX4_adopt_35 iX4 f45 ?_
        refine z_callVi (pc := 38) (n := 1) (As := [.int (μ 63 0)]) (rest := [.ref (zob E 0)]) C (c_X4_openRings l E sa (μ := μ) (ov := ov) t n H1 (by omega) H7 H6) gX4_adopt_X4_openRings rfl zfV_X4_openRings ⟨Nat.le_of_ble_eq_true rfl, Nat.le_of_ble_eq_true rfl⟩ rfl (zRec_X4 E) rfl (Nat.le_of_ble_eq_true rfl) ⟨Nat.zero_le _, Nat.zero_le _⟩ dX4_adopt_38 (fun r9 ν ov9 hp => ?_)
        have e1 := hp.1.symm
        have e3 := hp.2.2.symm
        have hs := hp.2.1
        clear hp
        subst e1 e3
        refine z_if_ne (tgt := 48) (pc := 41) C dX4_adopt_41 (by decide) (fun c_4 => ?_) (fun c_4 => ?_)
        · refine z_iconst (v := 0) (pc := 48) C dX4_adopt_48 (by decide) ?_
          have hres : zb (5 ≤ zcnt (zhou μ) 7 ∧ nI (zopen μ t n) = 0) = 0 := by first | exact zb_f (fun h => by omega) | exact zb_f (fun h => c_4 h.2) | exact zb_t ⟨by omega, c_4⟩
          refine zp_X4_isAdopted (pc := 49) C dX4_adopt_49 (by decide) iX4 f55 ?_
          refine z_aloadn (i := 0) (pc := 52) C dX4_adopt_52 rfl rfl ?_
          refine zg_X4_isAdopted (pc := 53) C dX4_adopt_53 iX4 f55 ?_
          exact z_retX (z_zret (pc := 56) C hr hlk (by rw [zu_s, upd_s]; decide) ⟨⟨c_1, c_2⟩, by rw [zu_s, upd_s]; exact hres.symm, ⟨_, by first | exact hs | exact zScr.rf μ, by rw [hres]⟩, rfl⟩ (Nat.zero_le _) (Nat.zero_le _) dX4_adopt_56)
        · refine z_iconst (v := 1) (pc := 44) C dX4_adopt_44 (by decide) ?_
          refine z_goto (tgt := 49) (pc := 45) C dX4_adopt_45 (by decide) ?_
          have hres : zb (5 ≤ zcnt (zhou μ) 7 ∧ nI (zopen μ t n) = 0) = 1 := by first | exact zb_f (fun h => by omega) | exact zb_f (fun h => c_4 h.2) | exact zb_t ⟨by omega, c_4⟩
          refine zp_X4_isAdopted (pc := 49) C dX4_adopt_49 (by decide) iX4 f55 ?_
          refine z_aloadn (i := 0) (pc := 52) C dX4_adopt_52 rfl rfl ?_
          refine zg_X4_isAdopted (pc := 53) C dX4_adopt_53 iX4 f55 ?_
          exact z_retX (z_zret (pc := 56) C hr hlk (by rw [zu_s, upd_s]; decide) ⟨⟨c_1, c_2⟩, by rw [zu_s, upd_s]; exact hres.symm, ⟨_, by first | exact hs | exact zScr.rf μ, by rw [hres]⟩, rfl⟩ (Nat.zero_le _) (Nat.zero_le _) dX4_adopt_56)
    · exact z_throw (pc := 14) (X := "java/lang/IllegalStateException") (ic := 78) C hfl (by decide +kernel) (ztx_151) (by decide +kernel) (C.1.2.2.2.2 (.classLink RX4 74 "java/lang/IllegalStateException") (by decide +kernel)) (C.1.2.2.2.2 (.initialized "java/lang/IllegalStateException") (by decide +kernel)) (by decide +kernel) zth_78 ztg_78 dX4_adopt_14 dX4_adopt_17 dX4_adopt_18 dX4_adopt_20 dX4_adopt_23 htab (Nat.le_of_ble_eq_true rfl) (Nat.le_of_ble_eq_true rfl) (Nat.le_of_ble_eq_true rfl) (Nat.le_of_ble_eq_true rfl) hlk ⟨fun h => by first | exact c_1 h.1 | exact h.2 c_2, rfl⟩ (Nat.le_of_ble_eq_true rfl) (Nat.le_of_ble_eq_true rfl)
set_option maxHeartbeats 4000000 in
set_option maxRecDepth 100000 in
theorem c_X4_of (l : Launch) (hfl : l.stackTraces = false) (E : zE) (sa : Nat → Nat) {μ : zM} {ov : Nat → Int64} {i w : Int32} (t c9 nc n : Nat) (H : zCI μ t c9 nc n) : zXi l E sa yX4_of wsX4_of 6 90 1 6 [.ref (zob E 0), .int i, .int w] μ ov (fun r μ1 ov1 => (0 ≤ i ∧ i < μ 63 4) ∧ (0 ≤ w ∧ w ≤ 2) ∧ r = (if w = 0 then μ 6 i.toNatClampNeg else if w = 1 then μ 2 i.toNatClampNeg else μ 5 i.toNatClampNeg) ∧ μ1 = μ ∧ ov1 = ov) (fun X => (¬ (0 ≤ i ∧ i < μ 63 4) ∧ X = zIO) ∨ ((0 ≤ i ∧ i < μ 63 4) ∧ ¬ (0 ≤ w ∧ w ≤ 2) ∧ X = zIA)) := by
  refine z_ofXi (cc := cX4_of) (nL := 3) (ret := (some .int)) (own := RX4) zfp_X4_of rfl (by simp [Value.category]) (Nat.le_of_ble_eq_true rfl) rfl ?_
  intro p e s m below meth c C hr hlk htab
  have iX4 : ∀ w ∈ wsX40, w ∈ wsX4_of := by decide +kernel
  have f10 := C.1.2.2.2.2 (.fieldLink RX4 10 "TickFall" "clocks" "LTickFall$Clocks;") (by decide +kernel)
  show zW p l e (zR 6 90 1 6) s m [Value.ref (zob E 0), Value.int i, Value.int w].toArray below meth c E 3 0 0 (vx_MQ below (zQi E s.heap.size (fun r μ1 ov1 => (0 ≤ i ∧ i < μ 63 4) ∧ (0 ≤ w ∧ w ≤ 2) ∧ r = (if w = 0 then μ 6 i.toNatClampNeg else if w = 1 then μ 2 i.toNatClampNeg else μ 5 i.toNatClampNeg) ∧ μ1 = μ ∧ ov1 = ov)) (zXC E s.heap.size μ ov (fun X => (¬ (0 ≤ i ∧ i < μ 63 4) ∧ X = zIO) ∨ ((0 ≤ i ∧ i < μ 63 4) ∧ ¬ (0 ≤ w ∧ w ≤ 2) ∧ X = zIA))) [Value.ref (zob E 0), Value.int i, Value.int w].toArray s 1 6 (zA E s.heap.size)) 0 [some (.ref (zob E 0)), some (.int (i)), some (.int (w))] [] μ ov
  obtain ⟨H1, H2, H3, H4, H5, H6, H7, H8, H9⟩ := id H
  refine z_aloadn (i := 0) (pc := 0) C dX4_of_0 rfl rfl ?_
  refine zg_X4_clocks (pc := 1) C dX4_of_1 iX4 f10 ?_
  refine z_iloadn (i := 1) (pc := 4) C dX4_of_4 rfl rfl ?_
  refine z_callVi (pc := 5) (n := 1) (As := [.int (i)]) (rest := []) C (c_X1_has l E sa (μ := μ) (ov := ov) i) gX4_of_X1_has rfl zfV_X1_has ⟨Nat.le_of_ble_eq_true rfl, Nat.le_of_ble_eq_true rfl⟩ rfl (zRec_X1 E) rfl (Nat.le_of_ble_eq_true rfl) ⟨Nat.zero_le _, Nat.zero_le _⟩ dX4_of_5 (fun r9 μ9 ov9 hp => ?_)
  have e1 := hp.1.symm
  have e2 := hp.2.1.symm
  have e3 := hp.2.2.symm
  clear hp
  subst e1 e2 e3
  refine z_if_ne (tgt := 21) (pc := 8) C dX4_of_8 (by decide) (fun c_1 => ?_) (fun c_1 => ?_)
  · rw [zb_ne0] at c_1
    refine z_iloadn (i := 2) (pc := 21) C dX4_of_21 rfl rfl ?_
    obtain ⟨k, hk, hi⟩ := znat (n := nc) c_1.1 (by rw [← H4]; exact c_1.2) (by omega)
    have hik : i.toNatClampNeg = k := by rw [hi, nI_clamp (by omega)]
    rcases zsw3 w with h_k | h_k | h_k | h_k
    · refine z_topi (y := 0) h_k ?_
      refine z_tableIn (off := 26) (tgt := 48) (pc := 22) C dX4_of_22 (by decide) (by decide) (by decide) (by decide) ?_
      refine z_aloadn (i := 0) (pc := 48) C dX4_of_48 rfl rfl ?_
      refine zg_X4_clocks (pc := 49) C dX4_of_49 iX4 f10 ?_
      refine z_iloadn (i := 1) (pc := 52) C dX4_of_52 rfl rfl ?_
      refine z_callVi (pc := 53) (n := 1) (As := [.int (i)]) (rest := []) C (c_X1_phaseOf l E sa (μ := μ) (ov := ov) k hi (by omega)) gX4_of_X1_phaseOf rfl zfV_X1_phaseOf ⟨Nat.le_of_ble_eq_true rfl, Nat.le_of_ble_eq_true rfl⟩ rfl (zRec_X1 E) rfl (Nat.le_of_ble_eq_true rfl) ⟨Nat.zero_le _, Nat.zero_le _⟩ dX4_of_53 (fun r9 μ9 ov9 hp => ?_)
      have e1 := hp.1.symm
      have e2 := hp.2.1.symm
      have e3 := hp.2.2.symm
      clear hp
      subst e1 e2 e3
      exact z_retX (z_iret (pc := 56) C hr hlk ⟨c_1, by rw [h_k]; decide, by rw [h_k, hik]; rfl, rfl, rfl⟩ (Nat.zero_le _) (Nat.zero_le _) dX4_of_56)
    · refine z_topi (y := 1) h_k ?_
      refine z_tableIn (off := 35) (tgt := 57) (pc := 22) C dX4_of_22 (by decide) (by decide) (by decide) (by decide) ?_
      refine z_aloadn (i := 0) (pc := 57) C dX4_of_57 rfl rfl ?_
      refine zg_X4_clocks (pc := 58) C dX4_of_58 iX4 f10 ?_
      refine z_iloadn (i := 1) (pc := 61) C dX4_of_61 rfl rfl ?_
      refine z_callVi (pc := 62) (n := 1) (As := [.int (i)]) (rest := []) C (c_X1_rateOf l E sa (μ := μ) (ov := ov) k hi (by omega)) gX4_of_X1_rateOf rfl zfV_X1_rateOf ⟨Nat.le_of_ble_eq_true rfl, Nat.le_of_ble_eq_true rfl⟩ rfl (zRec_X1 E) rfl (Nat.le_of_ble_eq_true rfl) ⟨Nat.zero_le _, Nat.zero_le _⟩ dX4_of_62 (fun r9 μ9 ov9 hp => ?_)
      have e1 := hp.1.symm
      have e2 := hp.2.1.symm
      have e3 := hp.2.2.symm
      clear hp
      subst e1 e2 e3
      exact z_retX (z_iret (pc := 65) C hr hlk ⟨c_1, by rw [h_k]; decide, by rw [h_k, hik]; rfl, rfl, rfl⟩ (Nat.zero_le _) (Nat.zero_le _) dX4_of_65)
    · refine z_topi (y := 2) h_k ?_
      refine z_tableIn (off := 44) (tgt := 66) (pc := 22) C dX4_of_22 (by decide) (by decide) (by decide) (by decide) ?_
      refine z_aloadn (i := 0) (pc := 66) C dX4_of_66 rfl rfl ?_
      refine zg_X4_clocks (pc := 67) C dX4_of_67 iX4 f10 ?_
      refine z_iloadn (i := 1) (pc := 70) C dX4_of_70 rfl rfl ?_
      refine z_callVi (pc := 71) (n := 1) (As := [.int (i)]) (rest := []) C (c_X1_heightOf l E sa (μ := μ) (ov := ov) k hi (by omega)) gX4_of_X1_heightOf rfl zfV_X1_heightOf ⟨Nat.le_of_ble_eq_true rfl, Nat.le_of_ble_eq_true rfl⟩ rfl (zRec_X1 E) rfl (Nat.le_of_ble_eq_true rfl) ⟨Nat.zero_le _, Nat.zero_le _⟩ dX4_of_71 (fun r9 μ9 ov9 hp => ?_)
      have e1 := hp.1.symm
      have e2 := hp.2.1.symm
      have e3 := hp.2.2.symm
      clear hp
      subst e1 e2 e3
      exact z_retX (z_iret (pc := 74) C hr hlk ⟨c_1, by rw [h_k]; decide, by rw [h_k, hik]; rfl, rfl, rfl⟩ (Nat.zero_le _) (Nat.zero_le _) dX4_of_74)
    · refine z_tableOut (tgt := 75) (pc := 22) C dX4_of_22 h_k (by decide) ?_
      exact z_throw (pc := 75) (X := "java/lang/IllegalArgumentException") (ic := 67) C hfl (by decide +kernel) (ztx_165) (by decide +kernel) (C.1.2.2.2.2 (.classLink RX4 63 "java/lang/IllegalArgumentException") (by decide +kernel)) (C.1.2.2.2.2 (.initialized "java/lang/IllegalArgumentException") (by decide +kernel)) (by decide +kernel) zth_67 ztg_67 dX4_of_75 dX4_of_78 dX4_of_79 dX4_of_81 dX4_of_84 htab (Nat.le_of_ble_eq_true rfl) (Nat.le_of_ble_eq_true rfl) (Nat.le_of_ble_eq_true rfl) (Nat.le_of_ble_eq_true rfl) hlk (Or.inr ⟨c_1, fun h => by have h0 := (zle2 _ _).mp h.1; have h2 := (zle2 _ _).mp h.2; rw [show (0 : Int32).toInt = 0 from rfl] at h0; rw [show (2 : Int32).toInt = 2 from rfl] at h2; omega, rfl⟩) (Nat.le_of_ble_eq_true rfl) (Nat.le_of_ble_eq_true rfl)
  · rw [zb_eq0] at c_1
    exact z_throw (pc := 11) (X := "java/lang/IndexOutOfBoundsException") (ic := 91) C hfl (by decide +kernel) (ztx_89) (by decide +kernel) (C.1.2.2.2.2 (.classLink RX4 87 "java/lang/IndexOutOfBoundsException") (by decide +kernel)) (C.1.2.2.2.2 (.initialized "java/lang/IndexOutOfBoundsException") (by decide +kernel)) (by decide +kernel) zth_91 ztg_91 dX4_of_11 dX4_of_14 dX4_of_15 dX4_of_17 dX4_of_20 htab (Nat.le_of_ble_eq_true rfl) (Nat.le_of_ble_eq_true rfl) (Nat.le_of_ble_eq_true rfl) (Nat.le_of_ble_eq_true rfl) hlk (Or.inl ⟨c_1, rfl⟩) (Nat.le_of_ble_eq_true rfl) (Nat.le_of_ble_eq_true rfl)
set_option maxHeartbeats 4000000 in
set_option maxRecDepth 100000 in
theorem c_X4_measured (l : Launch) (hfl : l.stackTraces = false) (E : zE) (sa : Nat → Nat) {μ : zM} {ov : Nat → Int64} {i d b : Int32} (t c9 nc n : Nat) (H : zCI μ t c9 nc n) : zXi l E sa yX4_measured wsX4_measured 6 90 1 6 [.ref (zob E 0), .int i, .int d, .int b] μ ov (fun r μ1 ov1 => (zmea μ i d) ∧ r = (if b = 0 then μ (22 + i.toNatClampNeg) d.toNatClampNeg else zcorX μ i.toNatClampNeg d.toNatClampNeg) ∧ μ1 = μ ∧ ov1 = ov) (fun X => (¬ (zmea μ i d) ∧ X = zIO)) := by
  refine z_ofXi (cc := cX4_measured) (nL := 4) (ret := (some .int)) (own := RX4) zfp_X4_measured rfl (by simp [Value.category]) (Nat.le_of_ble_eq_true rfl) rfl ?_
  intro p e s m below meth c C hr hlk htab
  have iX4 : ∀ w ∈ wsX40, w ∈ wsX4_measured := by decide +kernel
  have f19 := C.1.2.2.2.2 (.fieldLink RX4 19 "TickFall" "links" "LTickFall$Links;") (by decide +kernel)
  show zW p l e (zR 6 90 1 6) s m [Value.ref (zob E 0), Value.int i, Value.int d, Value.int b].toArray below meth c E 4 0 0 (vx_MQ below (zQi E s.heap.size (fun r μ1 ov1 => (zmea μ i d) ∧ r = (if b = 0 then μ (22 + i.toNatClampNeg) d.toNatClampNeg else zcorX μ i.toNatClampNeg d.toNatClampNeg) ∧ μ1 = μ ∧ ov1 = ov)) (zXC E s.heap.size μ ov (fun X => (¬ (zmea μ i d) ∧ X = zIO))) [Value.ref (zob E 0), Value.int i, Value.int d, Value.int b].toArray s 1 6 (zA E s.heap.size)) 0 [some (.ref (zob E 0)), some (.int (i)), some (.int (d)), some (.int (b))] [] μ ov
  obtain ⟨H1, H2, H3, H4, H5, H6, H7, H8, H9⟩ := id H
  refine z_aloadn (i := 0) (pc := 0) C dX4_measured_0 rfl rfl ?_
  refine z_iloadn (i := 1) (pc := 1) C dX4_measured_1 rfl rfl ?_
  refine z_iloadn (i := 2) (pc := 2) C dX4_measured_2 rfl rfl ?_
  refine z_callVi (pc := 3) (n := 2) (As := [.int (i), .int (d)]) (rest := []) C (c_X4_hasMeasured l E sa (μ := μ) (ov := ov) i d n H6 H7) gX4_measured_X4_hasMeasured rfl zfV_X4_hasMeasured ⟨Nat.le_of_ble_eq_true rfl, Nat.le_of_ble_eq_true rfl⟩ rfl (zRec_X4 E) rfl (Nat.le_of_ble_eq_true rfl) ⟨Nat.zero_le _, Nat.zero_le _⟩ dX4_measured_3 (fun r9 μ9 ov9 hp => ?_)
  have e1 := hp.1.symm
  have e2 := hp.2.1.symm
  have e3 := hp.2.2.symm
  clear hp
  subst e1 e2 e3
  refine z_if_ne (tgt := 19) (pc := 6) C dX4_measured_6 (by decide) (fun c_1 => ?_) (fun c_1 => ?_)
  · rw [zb_ne0] at c_1
    obtain ⟨q, h1q, hq, hdq⟩ := znat2 (n := t) c_1.1.1 (by rw [← H1]; exact c_1.1.2) (by omega)
    have edq : d.toNatClampNeg = q := by rw [hdq, nI_clamp (by omega)]
    obtain ⟨k, hkk, hik⟩ := znat (n := n) c_1.2.1.1 (by rw [← H6]; exact c_1.2.1.2) (by omega)
    have eik : i.toNatClampNeg = k := by rw [hik, nI_clamp (by omega)]
    refine z_iloadn (i := 3) (pc := 19) C dX4_measured_19 rfl rfl ?_
    refine z_if_eq (tgt := 35) (pc := 20) C dX4_measured_20 (by decide) (fun c_2 => ?_) (fun c_2 => ?_)
    · refine z_aloadn (i := 0) (pc := 35) C dX4_measured_35 rfl rfl ?_
      refine zg_X4_links (pc := 36) C dX4_measured_36 iX4 f19 ?_
      refine z_iloadn (i := 1) (pc := 39) C dX4_measured_39 rfl rfl ?_
      refine z_iloadn (i := 2) (pc := 40) C dX4_measured_40 rfl rfl ?_
      refine z_callVi (pc := 41) (n := 2) (As := [.int (i), .int (d)]) (rest := []) C (c_X2_rawOf l E sa (μ := μ) (ov := ov) k hik (by omega) q hdq (by omega)) gX4_measured_X2_rawOf rfl zfV_X2_rawOf ⟨Nat.le_of_ble_eq_true rfl, Nat.le_of_ble_eq_true rfl⟩ rfl (zRec_X2 E) rfl (Nat.le_of_ble_eq_true rfl) ⟨Nat.zero_le _, Nat.zero_le _⟩ dX4_measured_41 (fun r9 μ9 ov9 hp => ?_)
      have e1 := hp.1.symm
      have e2 := hp.2.1.symm
      have e3 := hp.2.2.symm
      clear hp
      subst e1 e2 e3
      exact z_retX (z_iret (pc := 44) C hr hlk ⟨c_1, by first | rw [if_pos c_2, eik, edq] | (rw [if_neg c_2, eik, edq]; rfl), rfl, rfl⟩ (Nat.zero_le _) (Nat.zero_le _) dX4_measured_44)
    · refine z_aloadn (i := 0) (pc := 23) C dX4_measured_23 rfl rfl ?_
      refine zg_X4_links (pc := 24) C dX4_measured_24 iX4 f19 ?_
      refine z_iloadn (i := 1) (pc := 27) C dX4_measured_27 rfl rfl ?_
      refine z_iloadn (i := 2) (pc := 28) C dX4_measured_28 rfl rfl ?_
      refine z_callVi (pc := 29) (n := 2) (As := [.int (i), .int (d)]) (rest := []) C (c_X2_correctedOf l E sa (μ := μ) (ov := ov) k hik (by omega) q hdq (by omega)) gX4_measured_X2_correctedOf rfl zfV_X2_correctedOf ⟨Nat.le_of_ble_eq_true rfl, Nat.le_of_ble_eq_true rfl⟩ rfl (zRec_X2 E) rfl (Nat.le_of_ble_eq_true rfl) ⟨Nat.zero_le _, Nat.zero_le _⟩ dX4_measured_29 (fun r9 μ9 ov9 hp => ?_)
      have e1 := hp.1.symm
      have e2 := hp.2.1.symm
      have e3 := hp.2.2.symm
      clear hp
      subst e1 e2 e3
      refine z_goto (tgt := 44) (pc := 32) C dX4_measured_32 (by decide) ?_
      exact z_retX (z_iret (pc := 44) C hr hlk ⟨c_1, by first | rw [if_pos c_2, eik, edq] | (rw [if_neg c_2, eik, edq]; rfl), rfl, rfl⟩ (Nat.zero_le _) (Nat.zero_le _) dX4_measured_44)
  · rw [zb_eq0] at c_1
    exact z_throw (pc := 9) (X := "java/lang/IndexOutOfBoundsException") (ic := 91) C hfl (by decide +kernel) (ztx_170) (by decide +kernel) (C.1.2.2.2.2 (.classLink RX4 87 "java/lang/IndexOutOfBoundsException") (by decide +kernel)) (C.1.2.2.2.2 (.initialized "java/lang/IndexOutOfBoundsException") (by decide +kernel)) (by decide +kernel) zth_91 ztg_91 dX4_measured_9 dX4_measured_12 dX4_measured_13 dX4_measured_15 dX4_measured_18 htab (Nat.le_of_ble_eq_true rfl) (Nat.le_of_ble_eq_true rfl) (Nat.le_of_ble_eq_true rfl) (Nat.le_of_ble_eq_true rfl) hlk ⟨c_1, rfl⟩ (Nat.le_of_ble_eq_true rfl) (Nat.le_of_ble_eq_true rfl)
/-- three links by rising numbers -/
def zord (a b c : Nat) : z3 := (min a (min b c), a + b + c - min a (min b c) - max a (max b c), max a (max b c))
set_option maxHeartbeats 4000000 in
set_option maxRecDepth 100000 in
theorem c_X4_closes (l : Launch) (hfl : l.stackTraces = false) (E : zE) (sa : Nat → Nat) {μ : zM} {ov : Nat → Int64} {a b c8 d : Int32} (t c9 nc n : Nat) (H : zCI μ t c9 nc n) : zXi l E sa yX4_closes wsX4_closes 6 90 1 6 [.ref (zob E 0), .int a, .int b, .int c8, .int d] μ ov (fun r μ1 ov1 => (zmea μ a d ∧ zmea μ b d ∧ zmea μ c8 d) ∧ ((zbits (μ 7 a.toNatClampNeg) (μ 8 a.toNatClampNeg) ^^^ zbits (μ 7 b.toNatClampNeg) (μ 8 b.toNatClampNeg) ^^^ zbits (μ 7 c8.toNatClampNeg) (μ 8 c8.toNatClampNeg) = 0)) ∧ r = zsum μ d.toNatClampNeg (zord a.toNatClampNeg b.toNatClampNeg c8.toNatClampNeg) ∧ μ1 = μ ∧ ov1 = ov) (fun X => (¬ (zmea μ a d ∧ zmea μ b d ∧ zmea μ c8 d) ∧ X = zIO) ∨ ((zmea μ a d ∧ zmea μ b d ∧ zmea μ c8 d) ∧ ¬ ((zbits (μ 7 a.toNatClampNeg) (μ 8 a.toNatClampNeg) ^^^ zbits (μ 7 b.toNatClampNeg) (μ 8 b.toNatClampNeg) ^^^ zbits (μ 7 c8.toNatClampNeg) (μ 8 c8.toNatClampNeg) = 0)) ∧ X = zIA)) := by
  refine z_ofXi (cc := cX4_closes) (nL := 8) (ret := (some .int)) (own := RX4) zfp_X4_closes rfl (by simp [Value.category]) (Nat.le_of_ble_eq_true rfl) rfl ?_
  intro p e s m below meth c C hr hlk htab
  have iX4 : ∀ w ∈ wsX40, w ∈ wsX4_closes := by decide +kernel
  have f19 := C.1.2.2.2.2 (.fieldLink RX4 19 "TickFall" "links" "LTickFall$Links;") (by decide +kernel)
  show zW p l e (zR 6 90 1 6) s m [Value.ref (zob E 0), Value.int a, Value.int b, Value.int c8, Value.int d].toArray below meth c E 8 0 0 (vx_MQ below (zQi E s.heap.size (fun r μ1 ov1 => (zmea μ a d ∧ zmea μ b d ∧ zmea μ c8 d) ∧ ((zbits (μ 7 a.toNatClampNeg) (μ 8 a.toNatClampNeg) ^^^ zbits (μ 7 b.toNatClampNeg) (μ 8 b.toNatClampNeg) ^^^ zbits (μ 7 c8.toNatClampNeg) (μ 8 c8.toNatClampNeg) = 0)) ∧ r = zsum μ d.toNatClampNeg (zord a.toNatClampNeg b.toNatClampNeg c8.toNatClampNeg) ∧ μ1 = μ ∧ ov1 = ov)) (zXC E s.heap.size μ ov (fun X => (¬ (zmea μ a d ∧ zmea μ b d ∧ zmea μ c8 d) ∧ X = zIO) ∨ ((zmea μ a d ∧ zmea μ b d ∧ zmea μ c8 d) ∧ ¬ ((zbits (μ 7 a.toNatClampNeg) (μ 8 a.toNatClampNeg) ^^^ zbits (μ 7 b.toNatClampNeg) (μ 8 b.toNatClampNeg) ^^^ zbits (μ 7 c8.toNatClampNeg) (μ 8 c8.toNatClampNeg) = 0)) ∧ X = zIA))) [Value.ref (zob E 0), Value.int a, Value.int b, Value.int c8, Value.int d].toArray s 1 6 (zA E s.heap.size)) 0 [some (.ref (zob E 0)), some (.int (a)), some (.int (b)), some (.int (c8)), some (.int (d)), none, none, none] [] μ ov
  obtain ⟨H1, H2, H3, H4, H5, H6, H7, H8, H9⟩ := id H
  refine z_aloadn (i := 0) (pc := 0) C dX4_closes_0 rfl rfl ?_
  refine z_iloadn (i := 1) (pc := 1) C dX4_closes_1 rfl rfl ?_
  refine z_iload (i := 4) (pc := 2) C dX4_closes_2 rfl ?_
  refine z_callVi (pc := 4) (n := 2) (As := [.int (a), .int (d)]) (rest := []) C (c_X4_hasMeasured l E sa (μ := μ) (ov := ov) a d n H6 H7) gX4_closes_X4_hasMeasured rfl zfV_X4_hasMeasured ⟨Nat.le_of_ble_eq_true rfl, Nat.le_of_ble_eq_true rfl⟩ rfl (zRec_X4 E) rfl (Nat.le_of_ble_eq_true rfl) ⟨Nat.zero_le _, Nat.zero_le _⟩ dX4_closes_4 (fun r9 μ9 ov9 hp => ?_)
  have e1 := hp.1.symm
  have e2 := hp.2.1.symm
  have e3 := hp.2.2.symm
  clear hp
  subst e1 e2 e3
  refine z_if_eq (tgt := 30) (pc := 7) C dX4_closes_7 (by decide) (fun c_1 => ?_) (fun c_1 => ?_)
  · rw [zb_eq0] at c_1
    exact z_throw (pc := 30) (X := "java/lang/IndexOutOfBoundsException") (ic := 91) C hfl (by decide +kernel) (ztx_178) (by decide +kernel) (C.1.2.2.2.2 (.classLink RX4 87 "java/lang/IndexOutOfBoundsException") (by decide +kernel)) (C.1.2.2.2.2 (.initialized "java/lang/IndexOutOfBoundsException") (by decide +kernel)) (by decide +kernel) zth_91 ztg_91 dX4_closes_30 dX4_closes_33 dX4_closes_34 dX4_closes_36 dX4_closes_39 htab (Nat.le_of_ble_eq_true rfl) (Nat.le_of_ble_eq_true rfl) (Nat.le_of_ble_eq_true rfl) (Nat.le_of_ble_eq_true rfl) hlk (Or.inl ⟨fun h => by first | exact c_1 h.1 | exact c_2 h.2.1 | exact c_3 h.2.2, rfl⟩) (Nat.le_of_ble_eq_true rfl) (Nat.le_of_ble_eq_true rfl)
  · rw [zb_ne0] at c_1
    refine z_aloadn (i := 0) (pc := 10) C dX4_closes_10 rfl rfl ?_
    refine z_iloadn (i := 2) (pc := 11) C dX4_closes_11 rfl rfl ?_
    refine z_iload (i := 4) (pc := 12) C dX4_closes_12 rfl ?_
    refine z_callVi (pc := 14) (n := 2) (As := [.int (b), .int (d)]) (rest := []) C (c_X4_hasMeasured l E sa (μ := μ) (ov := ov) b d n H6 H7) gX4_closes_X4_hasMeasured rfl zfV_X4_hasMeasured ⟨Nat.le_of_ble_eq_true rfl, Nat.le_of_ble_eq_true rfl⟩ rfl (zRec_X4 E) rfl (Nat.le_of_ble_eq_true rfl) ⟨Nat.zero_le _, Nat.zero_le _⟩ dX4_closes_14 (fun r9 μ9 ov9 hp => ?_)
    have e1 := hp.1.symm
    have e2 := hp.2.1.symm
    have e3 := hp.2.2.symm
    clear hp
    subst e1 e2 e3
    refine z_if_eq (tgt := 30) (pc := 17) C dX4_closes_17 (by decide) (fun c_2 => ?_) (fun c_2 => ?_)
    · rw [zb_eq0] at c_2
      exact z_throw (pc := 30) (X := "java/lang/IndexOutOfBoundsException") (ic := 91) C hfl (by decide +kernel) (ztx_178) (by decide +kernel) (C.1.2.2.2.2 (.classLink RX4 87 "java/lang/IndexOutOfBoundsException") (by decide +kernel)) (C.1.2.2.2.2 (.initialized "java/lang/IndexOutOfBoundsException") (by decide +kernel)) (by decide +kernel) zth_91 ztg_91 dX4_closes_30 dX4_closes_33 dX4_closes_34 dX4_closes_36 dX4_closes_39 htab (Nat.le_of_ble_eq_true rfl) (Nat.le_of_ble_eq_true rfl) (Nat.le_of_ble_eq_true rfl) (Nat.le_of_ble_eq_true rfl) hlk (Or.inl ⟨fun h => by first | exact c_1 h.1 | exact c_2 h.2.1 | exact c_3 h.2.2, rfl⟩) (Nat.le_of_ble_eq_true rfl) (Nat.le_of_ble_eq_true rfl)
    · rw [zb_ne0] at c_2
      refine z_aloadn (i := 0) (pc := 20) C dX4_closes_20 rfl rfl ?_
      refine z_iloadn (i := 3) (pc := 21) C dX4_closes_21 rfl rfl ?_
      refine z_iload (i := 4) (pc := 22) C dX4_closes_22 rfl ?_
      refine z_callVi (pc := 24) (n := 2) (As := [.int (c8), .int (d)]) (rest := []) C (c_X4_hasMeasured l E sa (μ := μ) (ov := ov) c8 d n H6 H7) gX4_closes_X4_hasMeasured rfl zfV_X4_hasMeasured ⟨Nat.le_of_ble_eq_true rfl, Nat.le_of_ble_eq_true rfl⟩ rfl (zRec_X4 E) rfl (Nat.le_of_ble_eq_true rfl) ⟨Nat.zero_le _, Nat.zero_le _⟩ dX4_closes_24 (fun r9 μ9 ov9 hp => ?_)
      have e1 := hp.1.symm
      have e2 := hp.2.1.symm
      have e3 := hp.2.2.symm
      clear hp
      subst e1 e2 e3
      refine z_if_ne (tgt := 40) (pc := 27) C dX4_closes_27 (by decide) (fun c_3 => ?_) (fun c_3 => ?_)
      · rw [zb_ne0] at c_3
        obtain ⟨q, h1q, hq, hdq⟩ := znat2 (n := t) c_1.1.1 (by rw [← H1]; exact c_1.1.2) (by omega)
        have edq : d.toNatClampNeg = q := by rw [hdq, nI_clamp (by omega)]
        obtain ⟨k1, hkk1, hak1⟩ := znat (n := n) c_1.2.1.1 (by rw [← H6]; exact c_1.2.1.2) (by omega)
        have eak1 : a.toNatClampNeg = k1 := by rw [hak1, nI_clamp (by omega)]
        obtain ⟨k2, hkk2, hbk2⟩ := znat (n := n) c_2.2.1.1 (by rw [← H6]; exact c_2.2.1.2) (by omega)
        have ebk2 : b.toNatClampNeg = k2 := by rw [hbk2, nI_clamp (by omega)]
        obtain ⟨k3, hkk3, hc8k3⟩ := znat (n := n) c_3.2.1.1 (by rw [← H6]; exact c_3.2.1.2) (by omega)
        have ec8k3 : c8.toNatClampNeg = k3 := by rw [hc8k3, nI_clamp (by omega)]
        refine z_aloadn (i := 0) (pc := 40) C dX4_closes_40 rfl rfl ?_
        refine zg_X4_links (pc := 41) C dX4_closes_41 iX4 f19 ?_
        refine z_iloadn (i := 1) (pc := 44) C dX4_closes_44 rfl rfl ?_
        refine z_iloadn (i := 2) (pc := 45) C dX4_closes_45 rfl rfl ?_
        refine z_iloadn (i := 3) (pc := 46) C dX4_closes_46 rfl rfl ?_
        refine z_callVi (pc := 47) (n := 3) (As := [.int (a), .int (b), .int (c8)]) (rest := []) C (c_X2_areRing l E sa (μ := μ) (ov := ov) k1 k2 k3 hak1 hbk2 hc8k3 (by omega) (by omega) (by omega)) gX4_closes_X2_areRing rfl zfV_X2_areRing ⟨Nat.le_of_ble_eq_true rfl, Nat.le_of_ble_eq_true rfl⟩ rfl (zRec_X2 E) rfl (Nat.le_of_ble_eq_true rfl) ⟨Nat.zero_le _, Nat.zero_le _⟩ dX4_closes_47 (fun r9 μ9 ov9 hp => ?_)
        have e1 := hp.1.symm
        have e2 := hp.2.1.symm
        have e3 := hp.2.2.symm
        clear hp
        subst e1 e2 e3
        refine z_if_ne (tgt := 63) (pc := 50) C dX4_closes_50 (by decide) (fun c_4 => ?_) (fun c_4 => ?_)
        · rw [zb_ne0] at c_4
          obtain ⟨m1, m2, m3, m4⟩ := zmid3 k1 (by omega) k2 (by omega) k3 (by omega)
          refine z_iloadn (i := 1) (pc := 63) C dX4_closes_63 rfl rfl ?_
          refine z_iloadn (i := 2) (pc := 64) C dX4_closes_64 rfl rfl ?_
          refine z_iloadn (i := 3) (pc := 65) C dX4_closes_65 rfl rfl ?_
          refine z_mmin (pc := 66) C (C.1.2.2.2.2 (.methodLink RX4 185 Lib.Math.min.name) (by decide +kernel)) (C.1.2.2.2.2 (.static Lib.Math.min.name) (by decide +kernel)) (C.1.2.2.2.2 (.initialized "java/lang/Math") (by decide +kernel)) (C.1.2.2.2.2 (.code Lib.Math.min.name Lib.Math.min.code 2 (some .int)) (by decide +kernel)) (Nat.le_of_ble_eq_true rfl) (Nat.le_of_ble_eq_true rfl) (Nat.zero_le _) (Nat.zero_le _) dX4_closes_66 ?_
          refine z_mmin (pc := 69) C (C.1.2.2.2.2 (.methodLink RX4 185 Lib.Math.min.name) (by decide +kernel)) (C.1.2.2.2.2 (.static Lib.Math.min.name) (by decide +kernel)) (C.1.2.2.2.2 (.initialized "java/lang/Math") (by decide +kernel)) (C.1.2.2.2.2 (.code Lib.Math.min.name Lib.Math.min.code 2 (some .int)) (by decide +kernel)) (Nat.le_of_ble_eq_true rfl) (Nat.le_of_ble_eq_true rfl) (Nat.zero_le _) (Nat.zero_le _) dX4_closes_69 ?_
          refine z_topi (y := nI (min k1 (min k2 k3))) (by rw [hak1, hbk2, hc8k3]; exact zmin3 k1 (by omega) k2 (by omega) k3 (by omega)) ?_
          refine z_istore5 (pc := 72) C (by decide) (fun w hw => by cases hw; exact (show ¬ (1 = 2) from by decide)) dX4_closes_72 ?_
          refine z_iloadn (i := 1) (pc := 74) C dX4_closes_74 rfl rfl ?_
          refine z_iloadn (i := 2) (pc := 75) C dX4_closes_75 rfl rfl ?_
          refine z_iloadn (i := 3) (pc := 76) C dX4_closes_76 rfl rfl ?_
          refine z_mmax (pc := 77) C (C.1.2.2.2.2 (.methodLink RX4 190 Lib.Math.max.name) (by decide +kernel)) (C.1.2.2.2.2 (.static Lib.Math.max.name) (by decide +kernel)) (C.1.2.2.2.2 (.initialized "java/lang/Math") (by decide +kernel)) (C.1.2.2.2.2 (.code Lib.Math.max.name Lib.Math.max.code 2 (some .int)) (by decide +kernel)) (Nat.le_of_ble_eq_true rfl) (Nat.le_of_ble_eq_true rfl) (Nat.zero_le _) (Nat.zero_le _) dX4_closes_77 ?_
          refine z_mmax (pc := 80) C (C.1.2.2.2.2 (.methodLink RX4 190 Lib.Math.max.name) (by decide +kernel)) (C.1.2.2.2.2 (.static Lib.Math.max.name) (by decide +kernel)) (C.1.2.2.2.2 (.initialized "java/lang/Math") (by decide +kernel)) (C.1.2.2.2.2 (.code Lib.Math.max.name Lib.Math.max.code 2 (some .int)) (by decide +kernel)) (Nat.le_of_ble_eq_true rfl) (Nat.le_of_ble_eq_true rfl) (Nat.zero_le _) (Nat.zero_le _) dX4_closes_80 ?_
          refine z_topi (y := nI (max k1 (max k2 k3))) (by rw [hak1, hbk2, hc8k3]; exact zmax3 k1 (by omega) k2 (by omega) k3 (by omega)) ?_
          refine z_istore6 (pc := 83) C (by decide) (fun w hw => by cases hw; exact (show ¬ (1 = 2) from by decide)) dX4_closes_83 ?_
          refine z_iloadn (i := 1) (pc := 85) C dX4_closes_85 rfl rfl ?_
          refine z_iloadn (i := 2) (pc := 86) C dX4_closes_86 rfl rfl ?_
          refine z_iadd (pc := 87) C dX4_closes_87 ?_
          refine z_iloadn (i := 3) (pc := 88) C dX4_closes_88 rfl rfl ?_
          refine z_iadd (pc := 89) C dX4_closes_89 ?_
          refine z_iload (i := 5) (pc := 90) C dX4_closes_90 rfl ?_
          refine z_isub (pc := 92) C dX4_closes_92 ?_
          refine z_iload (i := 6) (pc := 93) C dX4_closes_93 rfl ?_
          refine z_isub (pc := 95) C dX4_closes_95 ?_
          refine z_topi (y := nI (k1 + k2 + k3 - min k1 (min k2 k3) - max k1 (max k2 k3))) (by rw [hak1, hbk2, hc8k3]; exact m1) ?_
          refine z_istore7 (pc := 96) C (by decide) (fun w hw => by cases hw; exact (show ¬ (1 = 2) from by decide)) dX4_closes_96 ?_
          refine z_aloadn (i := 0) (pc := 98) C dX4_closes_98 rfl rfl ?_
          refine zg_X4_links (pc := 99) C dX4_closes_99 iX4 f19 ?_
          refine z_iload (i := 5) (pc := 102) C dX4_closes_102 rfl ?_
          refine z_iload (i := 7) (pc := 104) C dX4_closes_104 rfl ?_
          refine z_iload (i := 6) (pc := 106) C dX4_closes_106 rfl ?_
          refine z_iload (i := 4) (pc := 108) C dX4_closes_108 rfl ?_
          refine z_callVi (pc := 110) (n := 4) (As := [.int (nI (min k1 (min k2 k3))), .int (nI (k1 + k2 + k3 - min k1 (min k2 k3) - max k1 (max k2 k3))), .int (nI (max k1 (max k2 k3))), .int (d)]) (rest := []) C (c_X2_around l E sa (μ := μ) (ov := ov) (min k1 (min k2 k3)) (k1 + k2 + k3 - min k1 (min k2 k3) - max k1 (max k2 k3)) (max k1 (max k2 k3)) rfl rfl rfl m3 m2 m4 q hdq (by omega)) gX4_closes_X2_around rfl zfV_X2_around ⟨Nat.le_of_ble_eq_true rfl, Nat.le_of_ble_eq_true rfl⟩ rfl (zRec_X2 E) rfl (Nat.le_of_ble_eq_true rfl) ⟨Nat.zero_le _, Nat.zero_le _⟩ dX4_closes_110 (fun r9 μ9 ov9 hp => ?_)
          have e1 := hp.1.symm
          have e2 := hp.2.1.symm
          have e3 := hp.2.2.symm
          clear hp
          subst e1 e2 e3
          exact z_retX (z_iret (pc := 113) C hr hlk ⟨⟨c_1, c_2, c_3⟩, by rw [eak1, ebk2, ec8k3]; exact c_4, by rw [eak1, ebk2, ec8k3, edq]; rfl, rfl, rfl⟩ (Nat.zero_le _) (Nat.zero_le _) dX4_closes_113)
        · rw [zb_eq0] at c_4
          exact z_throw (pc := 53) (X := "java/lang/IllegalArgumentException") (ic := 67) C hfl (by decide +kernel) (ztx_183) (by decide +kernel) (C.1.2.2.2.2 (.classLink RX4 63 "java/lang/IllegalArgumentException") (by decide +kernel)) (C.1.2.2.2.2 (.initialized "java/lang/IllegalArgumentException") (by decide +kernel)) (by decide +kernel) zth_67 ztg_67 dX4_closes_53 dX4_closes_56 dX4_closes_57 dX4_closes_59 dX4_closes_62 htab (Nat.le_of_ble_eq_true rfl) (Nat.le_of_ble_eq_true rfl) (Nat.le_of_ble_eq_true rfl) (Nat.le_of_ble_eq_true rfl) hlk (Or.inr ⟨⟨c_1, c_2, c_3⟩, by rw [eak1, ebk2, ec8k3]; exact c_4, rfl⟩) (Nat.le_of_ble_eq_true rfl) (Nat.le_of_ble_eq_true rfl)
      · rw [zb_eq0] at c_3
        exact z_throw (pc := 30) (X := "java/lang/IndexOutOfBoundsException") (ic := 91) C hfl (by decide +kernel) (ztx_178) (by decide +kernel) (C.1.2.2.2.2 (.classLink RX4 87 "java/lang/IndexOutOfBoundsException") (by decide +kernel)) (C.1.2.2.2.2 (.initialized "java/lang/IndexOutOfBoundsException") (by decide +kernel)) (by decide +kernel) zth_91 ztg_91 dX4_closes_30 dX4_closes_33 dX4_closes_34 dX4_closes_36 dX4_closes_39 htab (Nat.le_of_ble_eq_true rfl) (Nat.le_of_ble_eq_true rfl) (Nat.le_of_ble_eq_true rfl) (Nat.le_of_ble_eq_true rfl) hlk (Or.inl ⟨fun h => by first | exact c_1 h.1 | exact c_2 h.2.1 | exact c_3 h.2.2, rfl⟩) (Nat.le_of_ble_eq_true rfl) (Nat.le_of_ble_eq_true rfl)
set_option maxHeartbeats 4000000 in
set_option maxRecDepth 100000 in
theorem c_X4_open (l : Launch) (hfl : l.stackTraces = false) (E : zE) (sa : Nat → Nat) {μ : zM} {ov : Nat → Int64} {d : Int32} (t c9 nc n : Nat) (H : zCI μ t c9 nc n) : zXi l E sa yX4_open wsX4_open 6 140 1 6 [.ref (zob E 0), .int d] μ ov (fun r μ1 ov1 => (1 ≤ d ∧ d ≤ μ 63 0) ∧ r = nI (zopen μ d.toNatClampNeg n) ∧ zScr μ μ1 ∧ ov1 = ov) (fun X => (¬ (1 ≤ d ∧ d ≤ μ 63 0) ∧ X = zIO)) := by
  refine z_ofXi (cc := cX4_open) (nL := 2) (ret := (some .int)) (own := RX4) zfp_X4_open rfl (by simp [Value.category]) (Nat.le_of_ble_eq_true rfl) rfl ?_
  intro p e s m below meth c C hr hlk htab
  show zW p l e (zR 6 140 1 6) s m [Value.ref (zob E 0), Value.int d].toArray below meth c E 2 0 0 (vx_MQ below (zQi E s.heap.size (fun r μ1 ov1 => (1 ≤ d ∧ d ≤ μ 63 0) ∧ r = nI (zopen μ d.toNatClampNeg n) ∧ zScr μ μ1 ∧ ov1 = ov)) (zXC E s.heap.size μ ov (fun X => (¬ (1 ≤ d ∧ d ≤ μ 63 0) ∧ X = zIO))) [Value.ref (zob E 0), Value.int d].toArray s 1 6 (zA E s.heap.size)) 0 [some (.ref (zob E 0)), some (.int (d))] [] μ ov
  obtain ⟨H1, H2, H3, H4, H5, H6, H7, H8, H9⟩ := id H
  refine z_aloadn (i := 0) (pc := 0) C dX4_open_0 rfl rfl ?_
  refine z_iloadn (i := 1) (pc := 1) C dX4_open_1 rfl rfl ?_
  refine z_callVi (pc := 2) (n := 1) (As := [.int (d)]) (rest := []) C (c_X4_hasPassed l E sa (μ := μ) (ov := ov) d) gX4_open_X4_hasPassed rfl zfV_X4_hasPassed ⟨Nat.le_of_ble_eq_true rfl, Nat.le_of_ble_eq_true rfl⟩ rfl (zRec_X4 E) rfl (Nat.le_of_ble_eq_true rfl) ⟨Nat.zero_le _, Nat.zero_le _⟩ dX4_open_2 (fun r9 μ9 ov9 hp => ?_)
  have e1 := hp.1.symm
  have e2 := hp.2.1.symm
  have e3 := hp.2.2.symm
  clear hp
  subst e1 e2 e3
  refine z_if_ne (tgt := 18) (pc := 5) C dX4_open_5 (by decide) (fun c_1 => ?_) (fun c_1 => ?_)
  · rw [zb_ne0] at c_1
    obtain ⟨q, h1q, hq, hdq⟩ := znat2 (n := t) c_1.1 (by rw [← H1]; exact c_1.2) (by omega)
    have edq : d.toNatClampNeg = q := by rw [hdq, nI_clamp (by omega)]
    refine z_aloadn (i := 0) (pc := 18) C dX4_open_18 rfl rfl ?_
    refine z_iloadn (i := 1) (pc := 19) C dX4_open_19 rfl rfl ?_
    refine z_callVi (pc := 20) (n := 1) (As := [.int (d)]) (rest := []) C (c_X4_openRings l E sa (μ := μ) (ov := ov) q n hdq (by omega) H7 H6) gX4_open_X4_openRings rfl zfV_X4_openRings ⟨Nat.le_of_ble_eq_true rfl, Nat.le_of_ble_eq_true rfl⟩ rfl (zRec_X4 E) rfl (Nat.le_of_ble_eq_true rfl) ⟨Nat.zero_le _, Nat.zero_le _⟩ dX4_open_20 (fun r9 ν ov9 hp => ?_)
    have e1 := hp.1.symm
    have e3 := hp.2.2.symm
    have hs := hp.2.1
    clear hp
    subst e1 e3
    exact z_retX (z_iret (pc := 23) C hr hlk ⟨c_1, by rw [edq], hs, rfl⟩ (Nat.zero_le _) (Nat.zero_le _) dX4_open_23)
  · rw [zb_eq0] at c_1
    exact z_throw (pc := 8) (X := "java/lang/IndexOutOfBoundsException") (ic := 91) C hfl (by decide +kernel) (ztx_199) (by decide +kernel) (C.1.2.2.2.2 (.classLink RX4 87 "java/lang/IndexOutOfBoundsException") (by decide +kernel)) (C.1.2.2.2.2 (.initialized "java/lang/IndexOutOfBoundsException") (by decide +kernel)) (by decide +kernel) zth_91 ztg_91 dX4_open_8 dX4_open_11 dX4_open_12 dX4_open_14 dX4_open_17 htab (Nat.le_of_ble_eq_true rfl) (Nat.le_of_ble_eq_true rfl) (Nat.le_of_ble_eq_true rfl) (Nat.le_of_ble_eq_true rfl) hlk ⟨c_1, rfl⟩ (Nat.le_of_ble_eq_true rfl) (Nat.le_of_ble_eq_true rfl)
set_option maxHeartbeats 4000000 in
set_option maxRecDepth 100000 in
theorem c_X4_slips (l : Launch) (hfl : l.stackTraces = false) (E : zE) (sa : Nat → Nat) {μ : zM} {ov : Nat → Int64} {d : Int32} (t c9 nc n : Nat) (H : zCI μ t c9 nc n) : zXi l E sa yX4_slips wsX4_slips 15 422 1 6 [.ref (zob E 0), .int d] μ ov (fun r μ1 ov1 => (1 ≤ d ∧ d ≤ μ 63 0) ∧ (∃ ν, zRI μ d.toNatClampNeg ν (zgat μ d.toNatClampNeg n n) ∧ r = zdfs (zgat μ d.toNatClampNeg n n).length n (zu (zu (zu ν 63 8 (μ 63 1)) 63 9 (nI (n + 1))) 63 10 (-1)) 0 0 63 10 ∧ μ1 = zdfs (zgat μ d.toNatClampNeg n n).length n (zu (zu (zu ν 63 8 (μ 63 1)) 63 9 (nI (n + 1))) 63 10 (-1)) 0 0) ∧ ov1 = ov) (fun X => (¬ (1 ≤ d ∧ d ≤ μ 63 0) ∧ X = zIO)) := by
  refine z_ofXi (cc := cX4_slips) (nL := 2) (ret := (some .int)) (own := RX4) zfp_X4_slips rfl (by simp [Value.category]) (Nat.le_of_ble_eq_true rfl) rfl ?_
  intro p e s m below meth c C hr hlk htab
  have iX4 : ∀ w ∈ wsX40, w ∈ wsX4_slips := by decide +kernel
  have f19 := C.1.2.2.2.2 (.fieldLink RX4 19 "TickFall" "links" "LTickFall$Links;") (by decide +kernel)
  have f33 := C.1.2.2.2.2 (.fieldLink RX4 33 "TickFall" "rings" "LTickFall$Rings;") (by decide +kernel)
  have f49 := C.1.2.2.2.2 (.fieldLink RX4 49 "TickFall" "doubt" "I") (by decide +kernel)
  show zW p l e (zR 15 422 1 6) s m [Value.ref (zob E 0), Value.int d].toArray below meth c E 2 0 0 (vx_MQ below (zQi E s.heap.size (fun r μ1 ov1 => (1 ≤ d ∧ d ≤ μ 63 0) ∧ (∃ ν, zRI μ d.toNatClampNeg ν (zgat μ d.toNatClampNeg n n) ∧ r = zdfs (zgat μ d.toNatClampNeg n n).length n (zu (zu (zu ν 63 8 (μ 63 1)) 63 9 (nI (n + 1))) 63 10 (-1)) 0 0 63 10 ∧ μ1 = zdfs (zgat μ d.toNatClampNeg n n).length n (zu (zu (zu ν 63 8 (μ 63 1)) 63 9 (nI (n + 1))) 63 10 (-1)) 0 0) ∧ ov1 = ov)) (zXC E s.heap.size μ ov (fun X => (¬ (1 ≤ d ∧ d ≤ μ 63 0) ∧ X = zIO))) [Value.ref (zob E 0), Value.int d].toArray s 1 6 (zA E s.heap.size)) 0 [some (.ref (zob E 0)), some (.int (d))] [] μ ov
  obtain ⟨H1, H2, H3, H4, H5, H6, H7, H8, H9⟩ := id H
  refine z_aloadn (i := 0) (pc := 0) C dX4_slips_0 rfl rfl ?_
  refine z_iloadn (i := 1) (pc := 1) C dX4_slips_1 rfl rfl ?_
  refine z_callVi (pc := 2) (n := 1) (As := [.int (d)]) (rest := []) C (c_X4_hasPassed l E sa (μ := μ) (ov := ov) d) gX4_slips_X4_hasPassed rfl zfV_X4_hasPassed ⟨Nat.le_of_ble_eq_true rfl, Nat.le_of_ble_eq_true rfl⟩ rfl (zRec_X4 E) rfl (Nat.le_of_ble_eq_true rfl) ⟨Nat.zero_le _, Nat.zero_le _⟩ dX4_slips_2 (fun r9 μ9 ov9 hp => ?_)
  have e1 := hp.1.symm
  have e2 := hp.2.1.symm
  have e3 := hp.2.2.symm
  clear hp
  subst e1 e2 e3
  refine z_if_ne (tgt := 18) (pc := 5) C dX4_slips_5 (by decide) (fun c_1 => ?_) (fun c_1 => ?_)
  · rw [zb_ne0] at c_1
    obtain ⟨q, h1q, hq, hdq⟩ := znat2 (n := t) c_1.1 (by rw [← H1]; exact c_1.2) (by omega)
    have edq : d.toNatClampNeg = q := by rw [hdq, nI_clamp (by omega)]
    refine z_aloadn (i := 0) (pc := 18) C dX4_slips_18 rfl rfl ?_
    refine zg_X4_rings (pc := 19) C dX4_slips_19 iX4 f33 ?_
    refine z_aloadn (i := 0) (pc := 22) C dX4_slips_22 rfl rfl ?_
    refine zg_X4_links (pc := 23) C dX4_slips_23 iX4 f19 ?_
    refine z_iloadn (i := 1) (pc := 26) C dX4_slips_26 rfl rfl ?_
    refine z_callVv (pc := 27) (n := 2) (As := [.ref (zob E 2), .int (d)]) (rest := []) C (c_X3_gather l E sa (μ := μ) (ov := ov) q n hdq (by omega) H7 H6) gX4_slips_X3_gather rfl zfV_X3_gather ⟨Nat.le_of_ble_eq_true rfl, Nat.le_of_ble_eq_true rfl⟩ rfl (zRec_X3 E) rfl (Nat.le_of_ble_eq_true rfl) ⟨Nat.zero_le _, Nat.zero_le _⟩ dX4_slips_27 (fun ν ov9 hp => ?_)
    obtain ⟨hi, e3⟩ := hp
    have e3 := e3.symm
    subst e3
    refine z_aloadn (i := 0) (pc := 30) C dX4_slips_30 rfl rfl ?_
    refine zg_X4_rings (pc := 31) C dX4_slips_31 iX4 f33 ?_
    refine z_aloadn (i := 0) (pc := 34) C dX4_slips_34 rfl rfl ?_
    refine zg_X4_links (pc := 35) C dX4_slips_35 iX4 f19 ?_
    refine z_callVi (pc := 38) (n := 0) (As := []) (rest := [.ref (zob E 4)]) C (c_X2_count l E sa (μ := ν) (ov := ov)) gX4_slips_X2_count rfl zfV_X2_count ⟨Nat.le_of_ble_eq_true rfl, Nat.le_of_ble_eq_true rfl⟩ rfl (zRec_X2 E) rfl (Nat.le_of_ble_eq_true rfl) ⟨Nat.zero_le _, Nat.zero_le _⟩ dX4_slips_38 (fun r9 μ9 ov9 hp => ?_)
    have e1 := hp.1.symm
    have e2 := hp.2.1.symm
    have e3 := hp.2.2.symm
    clear hp
    subst e1 e2 e3
    refine z_aloadn (i := 0) (pc := 41) C dX4_slips_41 rfl rfl ?_
    refine zg_X4_doubt (pc := 42) C dX4_slips_42 iX4 f49 ?_
    refine z_callVi (pc := 45) (n := 2) (As := [.int (ν 63 5), .int (ν 63 1)]) (rest := []) C (c_X3_findSlips l E sa (μ := ν) (ov := ov) (d := ν 63 1) (zgat μ q n n).length n ((hi.2.1 5 (by decide)).trans H6) H7 (hi.H (zgat_56 μ H7))) gX4_slips_X3_findSlips rfl zfV_X3_findSlips ⟨Nat.le_of_ble_eq_true rfl, Nat.le_of_ble_eq_true rfl⟩ rfl (zRec_X3 E) rfl (Nat.le_of_ble_eq_true rfl) ⟨Nat.zero_le _, Nat.zero_le _⟩ dX4_slips_45 (fun r9 ν1 ov9 hp => ?_)
    have e1 := hp.1.symm
    have e2 := hp.2.1
    have e3 := hp.2.2.symm
    clear hp
    subst e1 e3
    exact z_retX (z_iret (pc := 48) C hr hlk ⟨c_1, ⟨ν, by rw [edq]; exact hi, by rw [edq, ← hi.2.1 1 (by decide)], by rw [edq, ← hi.2.1 1 (by decide)]; exact e2⟩, rfl⟩ (Nat.zero_le _) (Nat.zero_le _) dX4_slips_48)
  · rw [zb_eq0] at c_1
    exact z_throw (pc := 8) (X := "java/lang/IndexOutOfBoundsException") (ic := 91) C hfl (by decide +kernel) (ztx_199) (by decide +kernel) (C.1.2.2.2.2 (.classLink RX4 87 "java/lang/IndexOutOfBoundsException") (by decide +kernel)) (C.1.2.2.2.2 (.initialized "java/lang/IndexOutOfBoundsException") (by decide +kernel)) (by decide +kernel) zth_91 ztg_91 dX4_slips_8 dX4_slips_11 dX4_slips_12 dX4_slips_14 dX4_slips_17 htab (Nat.le_of_ble_eq_true rfl) (Nat.le_of_ble_eq_true rfl) (Nat.le_of_ble_eq_true rfl) (Nat.le_of_ble_eq_true rfl) hlk ⟨c_1, rfl⟩ (Nat.le_of_ble_eq_true rfl) (Nat.le_of_ble_eq_true rfl)
set_option maxHeartbeats 4000000 in
set_option maxRecDepth 100000 in
theorem c_X4_mean (l : Launch) (hfl : l.stackTraces = false) (E : zE) (sa : Nat → Nat) {μ : zM} {ov : Nat → Int64} {d : Int32} (t c9 nc n : Nat) (H : zCI μ t c9 nc n) : zXi l E sa yX4_mean wsX4_mean 6 90 1 6 [.ref (zob E 0), .int d] μ ov (fun r μ1 ov1 => ((1 ≤ d ∧ d ≤ μ 63 0) ∧ ¬ μ 63 4 = 0) ∧ r = zmean μ d.toNatClampNeg n ∧ μ1 = μ ∧ ov1 = ov) (fun X => (¬ ((1 ≤ d ∧ d ≤ μ 63 0) ∧ ¬ μ 63 4 = 0) ∧ X = zIO)) := by
  refine z_ofXi (cc := cX4_mean) (nL := 2) (ret := (some .int)) (own := RX4) zfp_X4_mean rfl (by simp [Value.category]) (Nat.le_of_ble_eq_true rfl) rfl ?_
  intro p e s m below meth c C hr hlk htab
  have iX4 : ∀ w ∈ wsX40, w ∈ wsX4_mean := by decide +kernel
  have f10 := C.1.2.2.2.2 (.fieldLink RX4 10 "TickFall" "clocks" "LTickFall$Clocks;") (by decide +kernel)
  show zW p l e (zR 6 90 1 6) s m [Value.ref (zob E 0), Value.int d].toArray below meth c E 2 0 0 (vx_MQ below (zQi E s.heap.size (fun r μ1 ov1 => ((1 ≤ d ∧ d ≤ μ 63 0) ∧ ¬ μ 63 4 = 0) ∧ r = zmean μ d.toNatClampNeg n ∧ μ1 = μ ∧ ov1 = ov)) (zXC E s.heap.size μ ov (fun X => (¬ ((1 ≤ d ∧ d ≤ μ 63 0) ∧ ¬ μ 63 4 = 0) ∧ X = zIO))) [Value.ref (zob E 0), Value.int d].toArray s 1 6 (zA E s.heap.size)) 0 [some (.ref (zob E 0)), some (.int (d))] [] μ ov
  obtain ⟨H1, H2, H3, H4, H5, H6, H7, H8, H9⟩ := id H
  refine z_aloadn (i := 0) (pc := 0) C dX4_mean_0 rfl rfl ?_
  refine z_iloadn (i := 1) (pc := 1) C dX4_mean_1 rfl rfl ?_
  refine z_callVi (pc := 2) (n := 1) (As := [.int (d)]) (rest := []) C (c_X4_hasPassed l E sa (μ := μ) (ov := ov) d) gX4_mean_X4_hasPassed rfl zfV_X4_hasPassed ⟨Nat.le_of_ble_eq_true rfl, Nat.le_of_ble_eq_true rfl⟩ rfl (zRec_X4 E) rfl (Nat.le_of_ble_eq_true rfl) ⟨Nat.zero_le _, Nat.zero_le _⟩ dX4_mean_2 (fun r9 μ9 ov9 hp => ?_)
  have e1 := hp.1.symm
  have e2 := hp.2.1.symm
  have e3 := hp.2.2.symm
  clear hp
  subst e1 e2 e3
  refine z_if_eq (tgt := 18) (pc := 5) C dX4_mean_5 (by decide) (fun c_1 => ?_) (fun c_1 => ?_)
  · rw [zb_eq0] at c_1
    exact z_throw (pc := 18) (X := "java/lang/IndexOutOfBoundsException") (ic := 91) C hfl (by decide +kernel) (ztx_208) (by decide +kernel) (C.1.2.2.2.2 (.classLink RX4 87 "java/lang/IndexOutOfBoundsException") (by decide +kernel)) (C.1.2.2.2.2 (.initialized "java/lang/IndexOutOfBoundsException") (by decide +kernel)) (by decide +kernel) zth_91 ztg_91 dX4_mean_18 dX4_mean_21 dX4_mean_22 dX4_mean_24 dX4_mean_27 htab (Nat.le_of_ble_eq_true rfl) (Nat.le_of_ble_eq_true rfl) (Nat.le_of_ble_eq_true rfl) (Nat.le_of_ble_eq_true rfl) hlk ⟨fun h => by first | exact c_1 h.1 | exact h.2 c_2, rfl⟩ (Nat.le_of_ble_eq_true rfl) (Nat.le_of_ble_eq_true rfl)
  · rw [zb_ne0] at c_1
    refine z_aloadn (i := 0) (pc := 8) C dX4_mean_8 rfl rfl ?_
    refine zg_X4_clocks (pc := 9) C dX4_mean_9 iX4 f10 ?_
    refine z_callVi (pc := 12) (n := 0) (As := []) (rest := []) C (c_X1_count l E sa (μ := μ) (ov := ov)) gX4_mean_X1_count rfl zfV_X1_count ⟨Nat.le_of_ble_eq_true rfl, Nat.le_of_ble_eq_true rfl⟩ rfl (zRec_X1 E) rfl (Nat.le_of_ble_eq_true rfl) ⟨Nat.zero_le _, Nat.zero_le _⟩ dX4_mean_12 (fun r9 μ9 ov9 hp => ?_)
    have e1 := hp.1.symm
    have e2 := hp.2.1.symm
    have e3 := hp.2.2.symm
    clear hp
    subst e1 e2 e3
    refine z_if_ne (tgt := 28) (pc := 15) C dX4_mean_15 (by decide) (fun c_2 => ?_) (fun c_2 => ?_)
    · obtain ⟨q, h1q, hq, hdq⟩ := znat2 (n := t) c_1.1 (by rw [← H1]; exact c_1.2) (by omega)
      have edq : d.toNatClampNeg = q := by rw [hdq, nI_clamp (by omega)]
      refine z_aloadn (i := 0) (pc := 28) C dX4_mean_28 rfl rfl ?_
      refine z_iloadn (i := 1) (pc := 29) C dX4_mean_29 rfl rfl ?_
      refine z_callVi (pc := 30) (n := 1) (As := [.int (d)]) (rest := []) C (c_X4_meanOrZero l E sa (μ := μ) (ov := ov) q n nc hdq (by omega) H6 H7 H4 H5 H8) gX4_mean_X4_meanOrZero rfl zfV_X4_meanOrZero ⟨Nat.le_of_ble_eq_true rfl, Nat.le_of_ble_eq_true rfl⟩ rfl (zRec_X4 E) rfl (Nat.le_of_ble_eq_true rfl) ⟨Nat.zero_le _, Nat.zero_le _⟩ dX4_mean_30 (fun r9 μ9 ov9 hp => ?_)
      have e1 := hp.1.symm
      have e2 := hp.2.1.symm
      have e3 := hp.2.2.symm
      clear hp
      subst e1 e2 e3
      exact z_retX (z_iret (pc := 33) C hr hlk ⟨⟨c_1, c_2⟩, by rw [edq], rfl, rfl⟩ (Nat.zero_le _) (Nat.zero_le _) dX4_mean_33)
    · exact z_throw (pc := 18) (X := "java/lang/IndexOutOfBoundsException") (ic := 91) C hfl (by decide +kernel) (ztx_208) (by decide +kernel) (C.1.2.2.2.2 (.classLink RX4 87 "java/lang/IndexOutOfBoundsException") (by decide +kernel)) (C.1.2.2.2.2 (.initialized "java/lang/IndexOutOfBoundsException") (by decide +kernel)) (by decide +kernel) zth_91 ztg_91 dX4_mean_18 dX4_mean_21 dX4_mean_22 dX4_mean_24 dX4_mean_27 htab (Nat.le_of_ble_eq_true rfl) (Nat.le_of_ble_eq_true rfl) (Nat.le_of_ble_eq_true rfl) (Nat.le_of_ble_eq_true rfl) hlk ⟨fun h => by first | exact c_1 h.1 | exact h.2 c_2, rfl⟩ (Nat.le_of_ble_eq_true rfl) (Nat.le_of_ble_eq_true rfl)
set_option maxHeartbeats 4000000 in
set_option maxRecDepth 100000 in
theorem c_X4_published (l : Launch) (hfl : l.stackTraces = false) (E : zE) (sa : Nat → Nat) {μ : zM} {ov : Nat → Int64} {d b : Int32} (t c9 nc n : Nat) (H : zCI μ t c9 nc n) : zXi l E sa yX4_published wsX4_published 6 118 1 6 [.ref (zob E 0), .int d, .int b] μ ov (fun r μ1 ov1 => (1 ≤ d ∧ d ≤ μ 63 0) ∧ r = (if b = 0 then μ 0 d.toNatClampNeg else zanX μ n d.toNatClampNeg) ∧ μ1 = μ ∧ ov1 = ov) (fun X => (¬ (1 ≤ d ∧ d ≤ μ 63 0) ∧ X = zIO)) := by
  refine z_ofXi (cc := cX4_published) (nL := 3) (ret := (some .int)) (own := RX4) zfp_X4_published rfl (by simp [Value.category]) (Nat.le_of_ble_eq_true rfl) rfl ?_
  intro p e s m below meth c C hr hlk htab
  have iX4 : ∀ w ∈ wsX40, w ∈ wsX4_published := by decide +kernel
  have f37 := C.1.2.2.2.2 (.fieldLink RX4 37 "TickFall" "steeredTimes" "[I") (by decide +kernel)
  show zW p l e (zR 6 118 1 6) s m [Value.ref (zob E 0), Value.int d, Value.int b].toArray below meth c E 3 0 0 (vx_MQ below (zQi E s.heap.size (fun r μ1 ov1 => (1 ≤ d ∧ d ≤ μ 63 0) ∧ r = (if b = 0 then μ 0 d.toNatClampNeg else zanX μ n d.toNatClampNeg) ∧ μ1 = μ ∧ ov1 = ov)) (zXC E s.heap.size μ ov (fun X => (¬ (1 ≤ d ∧ d ≤ μ 63 0) ∧ X = zIO))) [Value.ref (zob E 0), Value.int d, Value.int b].toArray s 1 6 (zA E s.heap.size)) 0 [some (.ref (zob E 0)), some (.int (d)), some (.int (b))] [] μ ov
  obtain ⟨H1, H2, H3, H4, H5, H6, H7, H8, H9⟩ := id H
  refine z_aloadn (i := 0) (pc := 0) C dX4_published_0 rfl rfl ?_
  refine z_iloadn (i := 1) (pc := 1) C dX4_published_1 rfl rfl ?_
  refine z_callVi (pc := 2) (n := 1) (As := [.int (d)]) (rest := []) C (c_X4_hasPassed l E sa (μ := μ) (ov := ov) d) gX4_published_X4_hasPassed rfl zfV_X4_hasPassed ⟨Nat.le_of_ble_eq_true rfl, Nat.le_of_ble_eq_true rfl⟩ rfl (zRec_X4 E) rfl (Nat.le_of_ble_eq_true rfl) ⟨Nat.zero_le _, Nat.zero_le _⟩ dX4_published_2 (fun r9 μ9 ov9 hp => ?_)
  have e1 := hp.1.symm
  have e2 := hp.2.1.symm
  have e3 := hp.2.2.symm
  clear hp
  subst e1 e2 e3
  refine z_if_ne (tgt := 18) (pc := 5) C dX4_published_5 (by decide) (fun c_1 => ?_) (fun c_1 => ?_)
  · rw [zb_ne0] at c_1
    obtain ⟨q, h1q, hq, hdq⟩ := znat2 (n := t) c_1.1 (by rw [← H1]; exact c_1.2) (by omega)
    have edq : d.toNatClampNeg = q := by rw [hdq, nI_clamp (by omega)]
    refine z_iloadn (i := 2) (pc := 18) C dX4_published_18 rfl rfl ?_
    refine z_if_eq (tgt := 30) (pc := 19) C dX4_published_19 (by decide) (fun c_2 => ?_) (fun c_2 => ?_)
    · refine z_aloadn (i := 0) (pc := 30) C dX4_published_30 rfl rfl ?_
      refine zg_X4_steeredTimes (pc := 31) C dX4_published_31 iX4 f37 ?_
      refine z_iloadn (i := 1) (pc := 34) C dX4_published_34 rfl rfl ?_
      refine z_iald (pc := 35) C 0 q (by decide) rfl hdq (show q < 501 by omega) dX4_published_35 ?_
      exact z_retX (z_iret (pc := 36) C hr hlk ⟨c_1, by first | rw [if_pos c_2, edq] | rw [if_neg c_2, edq], rfl, rfl⟩ (Nat.zero_le _) (Nat.zero_le _) dX4_published_36)
    · refine z_aloadn (i := 0) (pc := 22) C dX4_published_22 rfl rfl ?_
      refine z_iloadn (i := 1) (pc := 23) C dX4_published_23 rfl rfl ?_
      refine z_callVi (pc := 24) (n := 1) (As := [.int (d)]) (rest := []) C (c_X4_steeredAnew l E sa (μ := μ) (ov := ov) q n nc hdq (by omega) H6 H7 H4 H5 H8 H9) gX4_published_X4_steeredAnew rfl zfV_X4_steeredAnew ⟨Nat.le_of_ble_eq_true rfl, Nat.le_of_ble_eq_true rfl⟩ rfl (zRec_X4 E) rfl (Nat.le_of_ble_eq_true rfl) ⟨Nat.zero_le _, Nat.zero_le _⟩ dX4_published_24 (fun r9 μ9 ov9 hp => ?_)
      have e1 := hp.1.symm
      have e2 := hp.2.1.symm
      have e3 := hp.2.2.symm
      clear hp
      subst e1 e2 e3
      refine z_goto (tgt := 36) (pc := 27) C dX4_published_27 (by decide) ?_
      exact z_retX (z_iret (pc := 36) C hr hlk ⟨c_1, by first | rw [if_pos c_2, edq] | rw [if_neg c_2, edq], rfl, rfl⟩ (Nat.zero_le _) (Nat.zero_le _) dX4_published_36)
  · rw [zb_eq0] at c_1
    exact z_throw (pc := 8) (X := "java/lang/IndexOutOfBoundsException") (ic := 91) C hfl (by decide +kernel) (ztx_199) (by decide +kernel) (C.1.2.2.2.2 (.classLink RX4 87 "java/lang/IndexOutOfBoundsException") (by decide +kernel)) (C.1.2.2.2.2 (.initialized "java/lang/IndexOutOfBoundsException") (by decide +kernel)) (by decide +kernel) zth_91 ztg_91 dX4_published_8 dX4_published_11 dX4_published_12 dX4_published_14 dX4_published_17 htab (Nat.le_of_ble_eq_true rfl) (Nat.le_of_ble_eq_true rfl) (Nat.le_of_ble_eq_true rfl) (Nat.le_of_ble_eq_true rfl) hlk ⟨c_1, rfl⟩ (Nat.le_of_ble_eq_true rfl) (Nat.le_of_ble_eq_true rfl)
set_option maxHeartbeats 4000000 in
set_option maxRecDepth 100000 in
theorem c_X4_day (l : Launch) (E : zE) (sa : Nat → Nat) {μ : zM} {ov : Nat → Int64} : zMi l E sa yX4_day wsX4_day 0 0 0 0 [.ref (zob E 0)] μ ov (fun r μ1 ov1 => r = μ 63 0 ∧ μ1 = μ ∧ ov1 = ov) := by
  refine z_ofMi (cc := cX4_day) (nL := 1) (ret := (some .int)) (own := RX4) zfp_X4_day rfl (by simp [Value.category]) (Nat.le_of_ble_eq_true rfl) rfl ?_
  intro p e s m below meth c C hr hlk
  have iX4 : ∀ w ∈ wsX40, w ∈ wsX4_day := by decide +kernel
  have f45 := C.1.2.2.2.2 (.fieldLink RX4 45 "TickFall" "today" "I") (by decide +kernel)
  show zW p l e (zR 0 0 0 0) s m [Value.ref (zob E 0)].toArray below meth c E 1 0 0 (MQ below (zQi E s.heap.size (fun r μ1 ov1 => r = μ 63 0 ∧ μ1 = μ ∧ ov1 = ov)) [Value.ref (zob E 0)].toArray s 0 0 (zA E s.heap.size)) 0 [some (.ref (zob E 0))] [] μ ov
  refine z_aloadn (i := 0) (pc := 0) C dX4_day_0 rfl rfl ?_
  refine zg_X4_today (pc := 1) C dX4_day_1 iX4 f45 ?_
  exact z_iret (pc := 4) C hr hlk ⟨rfl, rfl, rfl⟩ (Nat.zero_le _) (Nat.zero_le _) dX4_day_4
set_option maxHeartbeats 4000000 in
set_option maxRecDepth 100000 in
theorem c_X4_events (l : Launch) (E : zE) (sa : Nat → Nat) {μ : zM} {ov : Nat → Int64} : zMi l E sa yX4_events wsX4_events 1 20 0 0 [.ref (zob E 0)] μ ov (fun r μ1 ov1 => r = μ 63 6 ∧ μ1 = μ ∧ ov1 = ov) := by
  refine z_ofMi (cc := cX4_events) (nL := 1) (ret := (some .int)) (own := RX4) zfp_X4_events rfl (by simp [Value.category]) (Nat.le_of_ble_eq_true rfl) rfl ?_
  intro p e s m below meth c C hr hlk
  have iX4 : ∀ w ∈ wsX40, w ∈ wsX4_events := by decide +kernel
  have f26 := C.1.2.2.2.2 (.fieldLink RX4 26 "TickFall" "agenda" "LTickFall$Agenda;") (by decide +kernel)
  show zW p l e (zR 1 20 0 0) s m [Value.ref (zob E 0)].toArray below meth c E 1 0 0 (MQ below (zQi E s.heap.size (fun r μ1 ov1 => r = μ 63 6 ∧ μ1 = μ ∧ ov1 = ov)) [Value.ref (zob E 0)].toArray s 0 0 (zA E s.heap.size)) 0 [some (.ref (zob E 0))] [] μ ov
  refine z_aloadn (i := 0) (pc := 0) C dX4_events_0 rfl rfl ?_
  refine zg_X4_agenda (pc := 1) C dX4_events_1 iX4 f26 ?_
  refine z_callVi (pc := 4) (n := 0) (As := []) (rest := []) C (c_X0_count l E sa (μ := μ) (ov := ov)) gX4_events_X0_count rfl zfV_X0_count ⟨Nat.le_of_ble_eq_true rfl, Nat.le_of_ble_eq_true rfl⟩ rfl (zRec_X0 E) rfl (Nat.le_of_ble_eq_true rfl) ⟨Nat.zero_le _, Nat.zero_le _⟩ dX4_events_4 (fun r9 μ9 ov9 hp => ?_)
  have e1 := hp.1.symm
  have e2 := hp.2.1.symm
  have e3 := hp.2.2.symm
  clear hp
  subst e1 e2 e3
  exact z_iret (pc := 7) C hr hlk ⟨rfl, rfl, rfl⟩ (Nat.zero_le _) (Nat.zero_le _) dX4_events_7
