set_option maxHeartbeats 4000000 in
set_option maxRecDepth 100000 in
theorem c_X4_meanOrZero (l : Launch) (E : zE) (sa : Nat → Nat) {μ : zM} {ov : Nat → Int64} {d : Int32} (t n nc : Nat) (hd : d = nI t) (ht : t < 501) (hc : μ 63 5 = nI n) (hn : n ≤ 8) (hnc : μ 63 4 = nI nc) (hnc6 : nc ≤ 6) (hcl : zcl μ nc n) : zMi l E sa yX4_meanOrZero wsX4_meanOrZero 2 45 0 0 [.ref (zob E 0), .int d] μ ov (fun r μ1 ov1 => r = zmean μ t n ∧ μ1 = μ ∧ ov1 = ov) := by
  refine z_ofMi (cc := cX4_meanOrZero) (nL := 9) (ret := (some .int)) (own := RX4) zfp_X4_meanOrZero rfl (by simp [Value.category]) (Nat.le_of_ble_eq_true rfl) rfl ?_
  intro p e s m below meth c C hr hlk
  have iX4 : ∀ w ∈ wsX40, w ∈ wsX4_meanOrZero := by decide +kernel
  have f10 := C.1.2.2.2.2 (.fieldLink RX4 10 "TickFall" "clocks" "LTickFall$Clocks;") (by decide +kernel)
  have f19 := C.1.2.2.2.2 (.fieldLink RX4 19 "TickFall" "links" "LTickFall$Links;") (by decide +kernel)
  show zW p l e (zR 2 45 0 0) s m [Value.ref (zob E 0), Value.int d].toArray below meth c E 9 0 0 (MQ below (zQi E s.heap.size (fun r μ1 ov1 => r = zmean μ t n ∧ μ1 = μ ∧ ov1 = ov)) [Value.ref (zob E 0), Value.int d].toArray s 0 0 (zA E s.heap.size)) 0 [some (.ref (zob E 0)), some (.int (d)), none, none, none, none, none, none, none] [] μ ov
  refine z_aloadn (i := 0) (pc := 0) C dX4_meanOrZero_0 rfl rfl ?_
  refine zg_X4_clocks (pc := 1) C dX4_meanOrZero_1 iX4 f10 ?_
  refine z_callVi (pc := 4) (n := 0) (As := []) (rest := []) C (c_X1_count l E sa (μ := μ) (ov := ov)) gX4_meanOrZero_X1_count rfl zfV_X1_count ⟨Nat.le_of_ble_eq_true rfl, Nat.le_of_ble_eq_true rfl⟩ rfl (zRec_X1 E) rfl (Nat.le_of_ble_eq_true rfl) ⟨Nat.zero_le _, Nat.zero_le _⟩ dX4_meanOrZero_4 (fun r9 μ9 ov9 hp => ?_)
  have e1 := hp.1.symm
  have e2 := hp.2.1.symm
  have e3 := hp.2.2.symm
  clear hp
  subst e1 e2 e3
  refine z_if_ne (tgt := 12) (pc := 7) C dX4_meanOrZero_7 (by decide) (fun c_0 => ?_) (fun c_0 => ?_)
  · refine z_aloadn (i := 0) (pc := 12) C dX4_meanOrZero_12 rfl rfl ?_
    refine zg_X4_clocks (pc := 13) C dX4_meanOrZero_13 iX4 f10 ?_
    refine z_iconst (v := 0) (pc := 16) C dX4_meanOrZero_16 (by decide) ?_
    refine z_callVi (pc := 17) (n := 1) (As := [.int (0)]) (rest := []) C (c_X1_weightOf l E sa (μ := μ) (ov := ov) 0 nI_0.symm (by omega)) gX4_meanOrZero_X1_weightOf rfl zfV_X1_weightOf ⟨Nat.le_of_ble_eq_true rfl, Nat.le_of_ble_eq_true rfl⟩ rfl (zRec_X1 E) rfl (Nat.le_of_ble_eq_true rfl) ⟨Nat.zero_le _, Nat.zero_le _⟩ dX4_meanOrZero_17 (fun r9 μ9 ov9 hp => ?_)
    have e1 := hp.1.symm
    have e2 := hp.2.1.symm
    have e3 := hp.2.2.symm
    clear hp
    subst e1 e2 e3
    refine z_i2l (pc := 20) C dX4_meanOrZero_20 ?_
    refine z_lstore2 (pc := 21) C (by decide) (fun w hw => by cases hw; exact (show ¬ (1 = 2) from by decide)) dX4_meanOrZero_21 ?_
    refine z_lconst (v := 0) (pc := 22) C dX4_meanOrZero_22 (by decide) ?_
    refine z_lstore4 (pc := 23) C (by decide) (fun w hw => by cases hw) dX4_meanOrZero_23 ?_
    refine z_iconst (v := 1) (pc := 25) C dX4_meanOrZero_25 (by decide) ?_
    refine z_istore6 (pc := 26) C (by decide) (fun w hw => by cases hw) dX4_meanOrZero_26 ?_
    refine z_iconst (v := 0) (pc := 28) C dX4_meanOrZero_28 (by decide) ?_
    refine z_istore7 (pc := 29) C (by decide) (fun w hw => by cases hw; exact (show ¬ (1 = 2) from by decide)) dX4_meanOrZero_29 ?_
    have loop : ∀ (f i : Nat), i + f = n → zW p l e (zR 2 45 0 0) s m [Value.ref (zob E 0), Value.int d].toArray below meth c E 9 0 0 (MQ below (zQi E s.heap.size (fun r μ1 ov1 => r = zmean μ t n ∧ μ1 = μ ∧ ov1 = ov)) [Value.ref (zob E 0), Value.int d].toArray s 0 0 (zA E s.heap.size)) 31 [some (.ref (zob E 0)), some (.int (d)), some (.long ((zmnX μ t i).2.1)), none, some (.long ((zmnX μ t i).2.2)), none, some (.int ((zmnX μ t i).1)), some (.int (nI i)), none] [] μ ov := by
      intro f
      induction f with
      | zero =>
        intro i hi
        obtain rfl : i = n := by omega
        refine z_iload (i := 7) (pc := 31) C dX4_meanOrZero_31 rfl ?_
        refine z_aloadn (i := 0) (pc := 33) C dX4_meanOrZero_33 rfl rfl ?_
        refine zg_X4_links (pc := 34) C dX4_meanOrZero_34 iX4 f19 ?_
        refine z_callVi (pc := 37) (n := 0) (As := []) (rest := [.int (nI i)]) C (c_X2_count l E sa (μ := μ) (ov := ov)) gX4_meanOrZero_X2_count rfl zfV_X2_count ⟨Nat.le_of_ble_eq_true rfl, Nat.le_of_ble_eq_true rfl⟩ rfl (zRec_X2 E) rfl (Nat.le_of_ble_eq_true rfl) ⟨Nat.zero_le _, Nat.zero_le _⟩ dX4_meanOrZero_37 (fun r9 μ9 ov9 hp => ?_)
        have e1 := hp.1.symm
        have e2 := hp.2.1.symm
        have e3 := hp.2.2.symm
        clear hp
        subst e1 e2 e3
        refine z_icmp_ge (tgt := 138) (pc := 40) C dX4_meanOrZero_40 (by decide) (fun c_l => ?_) (fun c_l => ?_)
        · refine z_lloadn (i := 2) (pc := 138) C dX4_meanOrZero_138 rfl rfl ?_
          refine z_lconst (v := 0) (pc := 139) C dX4_meanOrZero_139 (by decide) ?_
          refine z_lcmp (pc := 140) C dX4_meanOrZero_140 ?_
          refine z_if_ne (tgt := 148) (pc := 141) C dX4_meanOrZero_141 (by decide) (fun c_2 => ?_) (fun c_2 => ?_)
          · rw [zlc0] at c_2
            refine z_lload (i := 4) (pc := 148) C dX4_meanOrZero_148 rfl ?_
            refine z_lloadn (i := 2) (pc := 150) C dX4_meanOrZero_150 rfl rfl ?_
            refine z_ldiv (pc := 151) C dX4_meanOrZero_151 c_2 ?_
            refine z_l2i (pc := 152) C dX4_meanOrZero_152 ?_
            exact z_iret (pc := 153) C hr hlk ⟨by first | rw [zmean, if_neg c_0, if_pos c_2] | rw [zmean, if_neg c_0, if_neg c_2], rfl, rfl⟩ (Nat.zero_le _) (Nat.zero_le _) dX4_meanOrZero_153
          · rw [zlc0] at c_2
            refine z_iconst (v := 0) (pc := 144) C dX4_meanOrZero_144 (by decide) ?_
            refine z_goto (tgt := 153) (pc := 145) C dX4_meanOrZero_145 (by decide) ?_
            exact z_iret (pc := 153) C hr hlk ⟨by first | rw [zmean, if_neg c_0, if_pos c_2] | rw [zmean, if_neg c_0, if_neg c_2], rfl, rfl⟩ (Nat.zero_le _) (Nat.zero_le _) dX4_meanOrZero_153
        · exact absurd (by rw [hc]; exact Int32.le_refl _) c_l
      | succ f ih =>
        intro i hi
        have go : ∀ x : zT3, x = zmnX μ t (i + 1) → zW p l e (zR 2 45 0 0) s m [Value.ref (zob E 0), Value.int d].toArray below meth c E 9 0 0 (MQ below (zQi E s.heap.size (fun r μ1 ov1 => r = zmean μ t n ∧ μ1 = μ ∧ ov1 = ov)) [Value.ref (zob E 0), Value.int d].toArray s 0 0 (zA E s.heap.size)) 132 [some (.ref (zob E 0)), some (.int (d)), some (.long ((x).2.1)), none, some (.long ((x).2.2)), none, some (.int ((x).1)), some (.int (nI i)), none] [] μ ov := by
          intro x hx
          subst hx
          refine z_iinc7 (v := 1) (pc := 132) C (by decide) (by decide) (fun w hw => by cases hw; exact (show ¬ (1 = 2) from by decide)) dX4_meanOrZero_132 ?_
          rw [nI_1]
          refine z_goto (tgt := 31) (pc := 135) C dX4_meanOrZero_135 (by decide) ?_
          exact ih (i + 1) (by omega)
        refine z_iload (i := 7) (pc := 31) C dX4_meanOrZero_31 rfl ?_
        refine z_aloadn (i := 0) (pc := 33) C dX4_meanOrZero_33 rfl rfl ?_
        refine zg_X4_links (pc := 34) C dX4_meanOrZero_34 iX4 f19 ?_
        refine z_callVi (pc := 37) (n := 0) (As := []) (rest := [.int (nI i)]) C (c_X2_count l E sa (μ := μ) (ov := ov)) gX4_meanOrZero_X2_count rfl zfV_X2_count ⟨Nat.le_of_ble_eq_true rfl, Nat.le_of_ble_eq_true rfl⟩ rfl (zRec_X2 E) rfl (Nat.le_of_ble_eq_true rfl) ⟨Nat.zero_le _, Nat.zero_le _⟩ dX4_meanOrZero_37 (fun r9 μ9 ov9 hp => ?_)
        have e1 := hp.1.symm
        have e2 := hp.2.1.symm
        have e3 := hp.2.2.symm
        clear hp
        subst e1 e2 e3
        refine z_icmp_ge (tgt := 138) (pc := 40) C dX4_meanOrZero_40 (by decide) (fun c_l => ?_) (fun c_l => ?_)
        · exact absurd c_l (by rw [hc]; exact nI_ge (by omega) (by omega))
        · refine z_aloadn (i := 0) (pc := 43) C dX4_meanOrZero_43 rfl rfl ?_
          refine zg_X4_links (pc := 44) C dX4_meanOrZero_44 iX4 f19 ?_
          refine z_iload (i := 7) (pc := 47) C dX4_meanOrZero_47 rfl ?_
          refine z_callVi (pc := 49) (n := 1) (As := [.int (nI i)]) (rest := []) C (c_X2_otherThanZero l E sa (μ := μ) (ov := ov) i rfl (by omega)) gX4_meanOrZero_X2_otherThanZero rfl zfV_X2_otherThanZero ⟨Nat.le_of_ble_eq_true rfl, Nat.le_of_ble_eq_true rfl⟩ rfl (zRec_X2 E) rfl (Nat.le_of_ble_eq_true rfl) ⟨Nat.zero_le _, Nat.zero_le _⟩ dX4_meanOrZero_49 (fun r9 μ9 ov9 hp => ?_)
          have e1 := hp.1.symm
          have e2 := hp.2.1.symm
          have e3 := hp.2.2.symm
          clear hp
          subst e1 e2 e3
          refine z_istore8 (pc := 52) C (by decide) (fun w hw => by cases hw; exact (show ¬ (1 = 2) from by decide)) dX4_meanOrZero_52 ?_
          refine z_iload (i := 8) (pc := 54) C dX4_meanOrZero_54 rfl ?_
          refine z_iconst (v := -1) (pc := 56) C dX4_meanOrZero_56 (by decide) ?_
          refine z_icmp_eq (tgt := 132) (pc := 57) C dX4_meanOrZero_57 (by decide) (fun c_1 => ?_) (fun c_1 => ?_)
          · refine z_weak (lv' := [some (.ref (zob E 0)), some (.int (d)), some (.long ((zmnX μ t i).2.1)), none, some (.long ((zmnX μ t i).2.2)), none, some (.int ((zmnX μ t i).1)), some (.int (nI i)), none]) ⟨rfl, rfl, rfl, rfl, rfl, rfl, trivial⟩ ?_
            exact go _ (by show _ = zmns μ t i _; rw [zmns, if_neg (fun h => h.1 c_1)])
          · obtain ⟨a, ha, ea⟩ : ∃ a, a < nc ∧ zoth μ i = nI a := (zoth_c hcl (by omega)).resolve_left c_1
            refine z_iload (i := 6) (pc := 60) C dX4_meanOrZero_60 rfl ?_
            refine z_iload (i := 8) (pc := 62) C dX4_meanOrZero_62 rfl ?_
            refine z_ishr (pc := 64) C dX4_meanOrZero_64 ?_
            refine z_iconst (v := 1) (pc := 65) C dX4_meanOrZero_65 (by decide) ?_
            refine z_iand (pc := 66) C dX4_meanOrZero_66 ?_
            refine z_if_ne (tgt := 132) (pc := 67) C dX4_meanOrZero_67 (by decide) (fun c_2 => ?_) (fun c_2 => ?_)
            · refine z_weak (lv' := [some (.ref (zob E 0)), some (.int (d)), some (.long ((zmnX μ t i).2.1)), none, some (.long ((zmnX μ t i).2.2)), none, some (.int ((zmnX μ t i).1)), some (.int (nI i)), none]) ⟨rfl, rfl, rfl, rfl, rfl, rfl, trivial⟩ ?_
              exact go _ (by show _ = zmns μ t i _; rw [zmns, if_neg (fun h => c_2 h.2.1)])
            · refine z_aloadn (i := 0) (pc := 70) C dX4_meanOrZero_70 rfl rfl ?_
              refine zg_X4_links (pc := 71) C dX4_meanOrZero_71 iX4 f19 ?_
              refine z_iload (i := 7) (pc := 74) C dX4_meanOrZero_74 rfl ?_
              refine z_iloadn (i := 1) (pc := 76) C dX4_meanOrZero_76 rfl rfl ?_
              refine z_callVi (pc := 77) (n := 2) (As := [.int (nI i), .int (d)]) (rest := []) C (c_X2_isLaidBefore l E sa (μ := μ) (ov := ov) i rfl (by omega) d) gX4_meanOrZero_X2_isLaidBefore rfl zfV_X2_isLaidBefore ⟨Nat.le_of_ble_eq_true rfl, Nat.le_of_ble_eq_true rfl⟩ rfl (zRec_X2 E) rfl (Nat.le_of_ble_eq_true rfl) ⟨Nat.zero_le _, Nat.zero_le _⟩ dX4_meanOrZero_77 (fun r9 μ9 ov9 hp => ?_)
              have e1 := hp.1.symm
              have e2 := hp.2.1.symm
              have e3 := hp.2.2.symm
              clear hp
              subst e1 e2 e3
              refine z_if_eq (tgt := 132) (pc := 80) C dX4_meanOrZero_80 (by decide) (fun c_3 => ?_) (fun c_3 => ?_)
              · rw [zb_eq0, hd] at c_3
                refine z_weak (lv' := [some (.ref (zob E 0)), some (.int (d)), some (.long ((zmnX μ t i).2.1)), none, some (.long ((zmnX μ t i).2.2)), none, some (.int ((zmnX μ t i).1)), some (.int (nI i)), none]) ⟨rfl, rfl, rfl, rfl, rfl, rfl, trivial⟩ ?_
                exact go _ (by show _ = zmns μ t i _; rw [zmns, if_neg (fun h => c_3 h.2.2)])
              · rw [zb_ne0, hd] at c_3
                refine z_iload (i := 6) (pc := 83) C dX4_meanOrZero_83 rfl ?_
                refine z_iconst (v := 1) (pc := 85) C dX4_meanOrZero_85 (by decide) ?_
                refine z_iload (i := 8) (pc := 86) C dX4_meanOrZero_86 rfl ?_
                refine z_ishl (pc := 88) C dX4_meanOrZero_88 ?_
                refine z_ior (pc := 89) C dX4_meanOrZero_89 ?_
                refine z_istore6 (pc := 90) C (by decide) (fun w hw => by cases hw) dX4_meanOrZero_90 ?_
                refine z_lloadn (i := 2) (pc := 92) C dX4_meanOrZero_92 rfl rfl ?_
                refine z_aloadn (i := 0) (pc := 93) C dX4_meanOrZero_93 rfl rfl ?_
                refine zg_X4_clocks (pc := 94) C dX4_meanOrZero_94 iX4 f10 ?_
                refine z_iload (i := 8) (pc := 97) C dX4_meanOrZero_97 rfl ?_
                refine z_callVi (pc := 99) (n := 1) (As := [.int (zoth μ i)]) (rest := [.long ((zmnX μ t i).2.1)]) C (c_X1_weightOf l E sa (μ := μ) (ov := ov) a ea (by omega)) gX4_meanOrZero_X1_weightOf rfl zfV_X1_weightOf ⟨Nat.le_of_ble_eq_true rfl, Nat.le_of_ble_eq_true rfl⟩ rfl (zRec_X1 E) rfl (Nat.le_of_ble_eq_true rfl) ⟨Nat.zero_le _, Nat.zero_le _⟩ dX4_meanOrZero_99 (fun r9 μ9 ov9 hp => ?_)
                have e1 := hp.1.symm
                have e2 := hp.2.1.symm
                have e3 := hp.2.2.symm
                clear hp
                subst e1 e2 e3
                refine z_i2l (pc := 102) C dX4_meanOrZero_102 ?_
                refine z_ladd (pc := 103) C dX4_meanOrZero_103 ?_
                refine z_lstore2 (pc := 104) C (by decide) (fun w hw => by cases hw; exact (show ¬ (1 = 2) from by decide)) dX4_meanOrZero_104 ?_
                refine z_lload (i := 4) (pc := 105) C dX4_meanOrZero_105 rfl ?_
                refine z_aloadn (i := 0) (pc := 107) C dX4_meanOrZero_107 rfl rfl ?_
                refine zg_X4_clocks (pc := 108) C dX4_meanOrZero_108 iX4 f10 ?_
                refine z_iload (i := 8) (pc := 111) C dX4_meanOrZero_111 rfl ?_
                refine z_callVi (pc := 113) (n := 1) (As := [.int (zoth μ i)]) (rest := [.long ((zmnX μ t i).2.2)]) C (c_X1_weightOf l E sa (μ := μ) (ov := ov) a ea (by omega)) gX4_meanOrZero_X1_weightOf rfl zfV_X1_weightOf ⟨Nat.le_of_ble_eq_true rfl, Nat.le_of_ble_eq_true rfl⟩ rfl (zRec_X1 E) rfl (Nat.le_of_ble_eq_true rfl) ⟨Nat.zero_le _, Nat.zero_le _⟩ dX4_meanOrZero_113 (fun r9 μ9 ov9 hp => ?_)
                have e1 := hp.1.symm
                have e2 := hp.2.1.symm
                have e3 := hp.2.2.symm
                clear hp
                subst e1 e2 e3
                refine z_i2l (pc := 116) C dX4_meanOrZero_116 ?_
                refine z_aloadn (i := 0) (pc := 117) C dX4_meanOrZero_117 rfl rfl ?_
                refine zg_X4_links (pc := 118) C dX4_meanOrZero_118 iX4 f19 ?_
                refine z_iload (i := 7) (pc := 121) C dX4_meanOrZero_121 rfl ?_
                refine z_iloadn (i := 1) (pc := 123) C dX4_meanOrZero_123 rfl rfl ?_
                refine z_callVi (pc := 124) (n := 2) (As := [.int (nI i), .int (d)]) (rest := [.long ((μ 4 a).toInt64), .long ((zmnX μ t i).2.2)]) C (c_X2_aheadOfZero l E sa (μ := μ) (ov := ov) i rfl (by omega) t hd ht) gX4_meanOrZero_X2_aheadOfZero rfl zfV_X2_aheadOfZero ⟨Nat.le_of_ble_eq_true rfl, Nat.le_of_ble_eq_true rfl⟩ rfl (zRec_X2 E) rfl (Nat.le_of_ble_eq_true rfl) ⟨Nat.zero_le _, Nat.zero_le _⟩ dX4_meanOrZero_124 (fun r9 μ9 ov9 hp => ?_)
                have e1 := hp.1.symm
                have e2 := hp.2.1.symm
                have e3 := hp.2.2.symm
                clear hp
                subst e1 e2 e3
                refine z_i2l (pc := 127) C dX4_meanOrZero_127 ?_
                refine z_lmul (pc := 128) C dX4_meanOrZero_128 ?_
                refine z_ladd (pc := 129) C dX4_meanOrZero_129 ?_
                refine z_lstore4 (pc := 130) C (by decide) (fun w hw => by cases hw) dX4_meanOrZero_130 ?_
                refine z_weak (lv' := [some (.ref (zob E 0)), some (.int (d)), some (.long (((((zmnX μ t i).1 ||| 1 <<< (zoth μ i &&& 31), (zmnX μ t i).2.1 + (μ 4 a).toInt64, (zmnX μ t i).2.2 + (μ 4 a).toInt64 * (zahd μ i t).toInt64) : zT3)).2.1)), none, some (.long (((((zmnX μ t i).1 ||| 1 <<< (zoth μ i &&& 31), (zmnX μ t i).2.1 + (μ 4 a).toInt64, (zmnX μ t i).2.2 + (μ 4 a).toInt64 * (zahd μ i t).toInt64) : zT3)).2.2)), none, some (.int (((((zmnX μ t i).1 ||| 1 <<< (zoth μ i &&& 31), (zmnX μ t i).2.1 + (μ 4 a).toInt64, (zmnX μ t i).2.2 + (μ 4 a).toInt64 * (zahd μ i t).toInt64) : zT3)).1)), some (.int (nI i)), none]) ⟨rfl, rfl, rfl, rfl, rfl, rfl, trivial⟩ ?_
                exact go _ (by show _ = zmns μ t i _; rw [zmns, if_pos ⟨c_1, c_2, c_3⟩, ea, nI_clamp (by omega)])
    exact loop n 0 (by omega)
  · refine z_iconst (v := 0) (pc := 10) C dX4_meanOrZero_10 (by decide) ?_
    exact z_iret (pc := 11) C hr hlk ⟨by rw [zmean, if_pos c_0], rfl, rfl⟩ (Nat.zero_le _) (Nat.zero_le _) dX4_meanOrZero_11
set_option maxHeartbeats 4000000 in
set_option maxRecDepth 100000 in
theorem c_X4_steered (l : Launch) (E : zE) (sa : Nat → Nat) {μ : zM} {ov : Nat → Int64} {b d : Int32} (t n nc : Nat) (hd : d = nI t) (ht : t < 501) (hc : μ 63 5 = nI n) (hn : n ≤ 8) (hnc : μ 63 4 = nI nc) (hnc6 : nc ≤ 6) (hcl : zcl μ nc n) (h2 : 0 ≤ μ 63 2) : zMi l E sa yX4_steered wsX4_steered 3 73 0 0 [.ref (zob E 0), .int b, .int d] μ ov (fun r μ1 ov1 => r = zste μ b t n ∧ μ1 = μ ∧ ov1 = ov) := by
  refine z_ofMi (cc := cX4_steered) (nL := 3) (ret := (some .int)) (own := RX4) zfp_X4_steered rfl (by simp [Value.category]) (Nat.le_of_ble_eq_true rfl) rfl ?_
  intro p e s m below meth c C hr hlk
  have iX4 : ∀ w ∈ wsX40, w ∈ wsX4_steered := by decide +kernel
  have f52 := C.1.2.2.2.2 (.fieldLink RX4 52 "TickFall" "step" "I") (by decide +kernel)
  show zW p l e (zR 3 73 0 0) s m [Value.ref (zob E 0), Value.int b, Value.int d].toArray below meth c E 3 0 0 (MQ below (zQi E s.heap.size (fun r μ1 ov1 => r = zste μ b t n ∧ μ1 = μ ∧ ov1 = ov)) [Value.ref (zob E 0), Value.int b, Value.int d].toArray s 0 0 (zA E s.heap.size)) 0 [some (.ref (zob E 0)), some (.int (b)), some (.int (d))] [] μ ov
  refine z_iloadn (i := 1) (pc := 0) C dX4_steered_0 rfl rfl ?_
  refine z_aloadn (i := 0) (pc := 1) C dX4_steered_1 rfl rfl ?_
  refine z_iloadn (i := 2) (pc := 2) C dX4_steered_2 rfl rfl ?_
  refine z_callVi (pc := 3) (n := 1) (As := [.int (d)]) (rest := [.int (b)]) C (c_X4_meanOrZero l E sa (μ := μ) (ov := ov) t n nc hd ht hc hn hnc hnc6 hcl) gX4_steered_X4_meanOrZero rfl zfV_X4_meanOrZero ⟨Nat.le_of_ble_eq_true rfl, Nat.le_of_ble_eq_true rfl⟩ rfl (zRec_X4 E) rfl (Nat.le_of_ble_eq_true rfl) ⟨Nat.zero_le _, Nat.zero_le _⟩ dX4_steered_3 (fun r9 μ9 ov9 hp => ?_)
  have e1 := hp.1.symm
  have e2 := hp.2.1.symm
  have e3 := hp.2.2.symm
  clear hp
  subst e1 e2 e3
  refine z_iloadn (i := 1) (pc := 6) C dX4_steered_6 rfl rfl ?_
  refine z_isub (pc := 7) C dX4_steered_7 ?_
  refine z_aloadn (i := 0) (pc := 8) C dX4_steered_8 rfl rfl ?_
  refine zg_X4_step (pc := 9) C dX4_steered_9 iX4 f52 ?_
  refine z_callSi (pc := 12) (n := 2) (As := [.int ((zmean μ t n) - b), .int (μ 63 2)]) (rest := [.int (b)]) C (c_X4_held l E sa (μ := μ) (ov := ov) (zmean μ t n - b) (μ 63 2) h2) gX4_steered_X4_held rfl zfV_X4_held.2 ⟨Nat.le_of_ble_eq_true rfl, Nat.le_of_ble_eq_true rfl⟩ rfl rfl (Nat.le_of_ble_eq_true rfl) ⟨Nat.zero_le _, Nat.zero_le _⟩ dX4_steered_12 (fun r9 μ9 ov9 hp => ?_)
  have e1 := hp.1.symm
  have e2 := hp.2.1.symm
  have e3 := hp.2.2.symm
  clear hp
  subst e1 e2 e3
  refine z_iadd (pc := 15) C dX4_steered_15 ?_
  exact z_iret (pc := 16) C hr hlk ⟨rfl, rfl, rfl⟩ (Nat.zero_le _) (Nat.zero_le _) dX4_steered_16
set_option maxHeartbeats 4000000 in
set_option maxRecDepth 100000 in
theorem c_X4_steeredAnew (l : Launch) (E : zE) (sa : Nat → Nat) {μ : zM} {ov : Nat → Int64} {d : Int32} (t n nc : Nat) (hd : d = nI t) (ht : t < 501) (hc : μ 63 5 = nI n) (hn : n ≤ 8) (hnc : μ 63 4 = nI nc) (hnc6 : nc ≤ 6) (hcl : zcl μ nc n) (h2 : 0 ≤ μ 63 2) : zMi l E sa yX4_steeredAnew wsX4_steeredAnew 4 95 0 0 [.ref (zob E 0), .int d] μ ov (fun r μ1 ov1 => r = zanX μ n t ∧ μ1 = μ ∧ ov1 = ov) := by
  refine z_ofMi (cc := cX4_steeredAnew) (nL := 4) (ret := (some .int)) (own := RX4) zfp_X4_steeredAnew rfl (by simp [Value.category]) (Nat.le_of_ble_eq_true rfl) rfl ?_
  intro p e s m below meth c C hr hlk
  show zW p l e (zR 4 95 0 0) s m [Value.ref (zob E 0), Value.int d].toArray below meth c E 4 0 0 (MQ below (zQi E s.heap.size (fun r μ1 ov1 => r = zanX μ n t ∧ μ1 = μ ∧ ov1 = ov)) [Value.ref (zob E 0), Value.int d].toArray s 0 0 (zA E s.heap.size)) 0 [some (.ref (zob E 0)), some (.int (d)), none, none] [] μ ov
  refine z_iconst (v := 0) (pc := 0) C dX4_steeredAnew_0 (by decide) ?_
  refine z_istore2 (pc := 1) C (by decide) (fun w hw => by cases hw; exact (show ¬ (1 = 2) from by decide)) dX4_steeredAnew_1 ?_
  refine z_iconst (v := 1) (pc := 2) C dX4_steeredAnew_2 (by decide) ?_
  refine z_istore3 (pc := 3) C (by decide) (fun w hw => by cases hw; exact (show ¬ (1 = 2) from by decide)) dX4_steeredAnew_3 ?_
  have loop : ∀ (f q : Nat), q + f = t → zW p l e (zR 4 95 0 0) s m [Value.ref (zob E 0), Value.int d].toArray below meth c E 4 0 0 (MQ below (zQi E s.heap.size (fun r μ1 ov1 => r = zanX μ n t ∧ μ1 = μ ∧ ov1 = ov)) [Value.ref (zob E 0), Value.int d].toArray s 0 0 (zA E s.heap.size)) 4 [some (.ref (zob E 0)), some (.int (d)), some (.int (zanX μ n q)), some (.int (nI (q + 1)))] [] μ ov := by
    intro f
    induction f with
    | zero =>
      intro q hq
      refine z_iloadn (i := 3) (pc := 4) C dX4_steeredAnew_4 rfl rfl ?_
      refine z_iloadn (i := 1) (pc := 5) C dX4_steeredAnew_5 rfl rfl ?_
      refine z_icmp_gt (tgt := 22) (pc := 6) C dX4_steeredAnew_6 (by decide) (fun c_l => ?_) (fun c_l => ?_)
      · refine z_iloadn (i := 2) (pc := 22) C dX4_steeredAnew_22 rfl rfl ?_
        exact z_iret (pc := 23) C hr hlk ⟨by rw [show q = t by omega], rfl, rfl⟩ (Nat.zero_le _) (Nat.zero_le _) dX4_steeredAnew_23
      · exact absurd (by rw [hd]; exact nI_lt (by omega) (by omega)) c_l
    | succ f ih =>
      intro q hq
      refine z_iloadn (i := 3) (pc := 4) C dX4_steeredAnew_4 rfl rfl ?_
      refine z_iloadn (i := 1) (pc := 5) C dX4_steeredAnew_5 rfl rfl ?_
      refine z_icmp_gt (tgt := 22) (pc := 6) C dX4_steeredAnew_6 (by decide) (fun c_l => ?_) (fun c_l => ?_)
      · exact absurd c_l (by rw [hd]; exact nI_nlt (by omega) (by omega))
      · refine z_aloadn (i := 0) (pc := 9) C dX4_steeredAnew_9 rfl rfl ?_
        refine z_iloadn (i := 2) (pc := 10) C dX4_steeredAnew_10 rfl rfl ?_
        refine z_iloadn (i := 3) (pc := 11) C dX4_steeredAnew_11 rfl rfl ?_
        refine z_callVi (pc := 12) (n := 2) (As := [.int (zanX μ n q), .int (nI (q + 1))]) (rest := []) C (c_X4_steered l E sa (μ := μ) (ov := ov) (b := zanX μ n q) (q + 1) n nc rfl (by omega) hc hn hnc hnc6 hcl h2) gX4_steeredAnew_X4_steered rfl zfV_X4_steered ⟨Nat.le_of_ble_eq_true rfl, Nat.le_of_ble_eq_true rfl⟩ rfl (zRec_X4 E) rfl (Nat.le_of_ble_eq_true rfl) ⟨Nat.zero_le _, Nat.zero_le _⟩ dX4_steeredAnew_12 (fun r9 μ9 ov9 hp => ?_)
        have e1 := hp.1.symm
        have e2 := hp.2.1.symm
        have e3 := hp.2.2.symm
        clear hp
        subst e1 e2 e3
        refine z_istore2 (pc := 15) C (by decide) (fun w hw => by cases hw; exact (show ¬ (1 = 2) from by decide)) dX4_steeredAnew_15 ?_
        refine z_iinc3 (v := 1) (pc := 16) C (by decide) (by decide) (fun w hw => by cases hw; exact (show ¬ (1 = 2) from by decide)) dX4_steeredAnew_16 ?_
        rw [nI_1]
        refine z_goto (tgt := 4) (pc := 19) C dX4_steeredAnew_19 (by decide) ?_
        exact ih (q + 1) (by omega)
  exact loop t 0 (by omega)
set_option maxHeartbeats 4000000 in
set_option maxRecDepth 100000 in
theorem c_X4_passOneDay (l : Launch) (E : zE) (sa : Nat → Nat) {μ : zM} {ov : Nat → Int64} (t c9 nc n : Nat) (H : zCI μ t c9 nc n) (ht : t < 500) : zMv l E sa yX4_passOneDay wsX4_passOneDay 4 95 0 0 [.ref (zob E 0)] μ ov (fun μ1 ov1 => μ1 = zday μ ∧ ov1 = ov) := by
  refine z_ofMv (cc := cX4_passOneDay) (nL := 3) (ret := none) (own := RX4) zfp_X4_passOneDay rfl (by simp [Value.category]) (Nat.le_of_ble_eq_true rfl) rfl ?_
  intro p e s m below meth c C hr hlk
  have iX4 : ∀ w ∈ wsX40, w ∈ wsX4_passOneDay := by decide +kernel
  have f10 := C.1.2.2.2.2 (.fieldLink RX4 10 "TickFall" "clocks" "LTickFall$Clocks;") (by decide +kernel)
  have f19 := C.1.2.2.2.2 (.fieldLink RX4 19 "TickFall" "links" "LTickFall$Links;") (by decide +kernel)
  have f26 := C.1.2.2.2.2 (.fieldLink RX4 26 "TickFall" "agenda" "LTickFall$Agenda;") (by decide +kernel)
  have f37 := C.1.2.2.2.2 (.fieldLink RX4 37 "TickFall" "steeredTimes" "[I") (by decide +kernel)
  have f45 := C.1.2.2.2.2 (.fieldLink RX4 45 "TickFall" "today" "I") (by decide +kernel)
  show zW p l e (zR 4 95 0 0) s m [Value.ref (zob E 0)].toArray below meth c E 3 0 0 (MQ below (zQv E s.heap.size (fun μ1 ov1 => μ1 = zday μ ∧ ov1 = ov)) [Value.ref (zob E 0)].toArray s 0 0 (zA E s.heap.size)) 0 [some (.ref (zob E 0)), none, none] [] μ ov
  have H0 := H
  obtain ⟨h1, h2, h3, h4, h5, h6, h7, h8, h9⟩ := H
  have e0 : (μ 63 0).toNatClampNeg = t := by rw [h1, nI_clamp (by omega)]
  have e6 : (μ 63 6).toNatClampNeg = c9 := by rw [h3.1, nI_clamp (by have := h3.2.1; omega)]
  have e4 : (μ 63 4).toNatClampNeg = nc := by rw [h4, nI_clamp (by omega)]
  have e5 : (μ 63 5).toNatClampNeg = n := by rw [h6, nI_clamp (by omega)]
  refine z_aloadn (i := 0) (pc := 0) C dX4_passOneDay_0 rfl rfl ?_
  refine zg_X4_steeredTimes (pc := 1) C dX4_passOneDay_1 iX4 f37 ?_
  refine z_aloadn (i := 0) (pc := 4) C dX4_passOneDay_4 rfl rfl ?_
  refine zg_X4_today (pc := 5) C dX4_passOneDay_5 iX4 f45 ?_
  refine z_iald (pc := 8) C 0 t (by decide) rfl h1 (show t < 501 by omega) dX4_passOneDay_8 ?_
  refine z_istore1 (pc := 9) C (by decide) (fun w hw => by cases hw; exact (show ¬ (1 = 2) from by decide)) dX4_passOneDay_9 ?_
  refine z_aloadn (i := 0) (pc := 10) C dX4_passOneDay_10 rfl rfl ?_
  refine z_dup (pc := 11) C dX4_passOneDay_11 rfl ?_
  refine zg_X4_today (pc := 12) C dX4_passOneDay_12 iX4 f45 ?_
  refine z_iconst (v := 1) (pc := 15) C dX4_passOneDay_15 (by decide) ?_
  refine z_iadd (pc := 16) C dX4_passOneDay_16 ?_
  refine z_topi (y := nI (t + 1)) (by rw [h1]; exact nI_1 t) ?_
  refine zp_X4_today (pc := 17) C dX4_passOneDay_17 iX4 f45 ?_
  refine z_mem (μ' := (zdayA μ)) (by unfold zdayA; rw [e0]) ?_
  refine z_aloadn (i := 0) (pc := 20) C dX4_passOneDay_20 rfl rfl ?_
  refine zg_X4_agenda (pc := 21) C dX4_passOneDay_21 iX4 f26 ?_
  refine z_callVi (pc := 24) (n := 0) (As := []) (rest := []) C (c_X0_count l E sa (μ := zdayA μ) (ov := ov)) gX4_passOneDay_X0_count rfl zfV_X0_count ⟨Nat.le_of_ble_eq_true rfl, Nat.le_of_ble_eq_true rfl⟩ rfl (zRec_X0 E) rfl (Nat.le_of_ble_eq_true rfl) ⟨Nat.zero_le _, Nat.zero_le _⟩ dX4_passOneDay_24 (fun r9 μ9 ov9 hp => ?_)
  have e1 := hp.1.symm
  have e2 := hp.2.1.symm
  have e3 := hp.2.2.symm
  clear hp
  subst e1 e2 e3
  refine z_topi (y := nI c9) (by unfold zdayA; rw [zu_s, upd_n _ _ (by decide)]; exact h3.1) ?_
  refine z_istore2 (pc := 27) C (by decide) (fun w hw => by cases hw; exact (show ¬ (1 = 2) from by decide)) dX4_passOneDay_27 ?_
  have e63 : ∀ j, j ≠ 6 → zdayB μ 63 j = zdayA μ 63 j := fun j hj => zevs_63 _ hj _ _
  have a63 : ∀ j, j ≠ 0 → zdayA μ 63 j = μ 63 j := fun j hj => by unfold zdayA; rw [zu_s, upd_n _ _ hj]
  have b0 : zdayB μ 63 0 = nI (t + 1) := by rw [e63 0 (by decide)]; unfold zdayA; rw [zu_s, upd_s, e0]
  have c63 : zdayC μ 63 = zdayB μ 63 := zitr_k (fun i ν => zrunS_k _ i ν (by decide) (by decide))
  have d63 : zdayD μ 63 = zdayC μ 63 := zitr_b (fun i ν hi => zmeaS_k _ i ν (by decide) (by rw [e5] at hi; omega))
  have c78 : ∀ b, b = 7 ∨ b = 8 → zdayC μ b = μ b := fun b hb => by
    unfold zdayC; rw [zitr_k (fun i ν => zrunS_k _ i ν (by omega) (by omega))]; unfold zdayB; rw [zevs_k _ (by omega) (by omega) (by omega) (by omega) (by omega)]; unfold zdayA; exact zu_n _ _ _ (by omega)
  have d78 : ∀ b, b = 7 ∨ b = 8 → zdayD μ b = zdayC μ b := fun b hb => zitr_b (fun i ν hi => zmeaS_k _ i ν (by omega) (by rw [e5] at hi; omega))
  have hX : zW p l e (zR 4 95 0 0) s m [Value.ref (zob E 0)].toArray below meth c E 3 0 0 (MQ below (zQv E s.heap.size (fun μ1 ov1 => μ1 = zday μ ∧ ov1 = ov)) [Value.ref (zob E 0)].toArray s 0 0 (zA E s.heap.size)) 63 [some (.ref (zob E 0)), some (.int (μ 0 t)), none] [] (zdayB μ) ov := by
    refine z_aloadn (i := 0) (pc := 63) C dX4_passOneDay_63 rfl rfl ?_
    refine zg_X4_clocks (pc := 64) C dX4_passOneDay_64 iX4 f10 ?_
    refine z_aloadn (i := 0) (pc := 67) C dX4_passOneDay_67 rfl rfl ?_
    refine zg_X4_today (pc := 68) C dX4_passOneDay_68 iX4 f45 ?_
    refine z_callVv (pc := 71) (n := 1) (As := [.int ((zdayB μ) 63 0)]) (rest := []) C (c_X1_run l E sa (μ := zdayB μ) (ov := ov) (t := zdayB μ 63 0) nc h5 (by rw [e63 4 (by decide), a63 4 (by decide)]; exact h4)) gX4_passOneDay_X1_run rfl zfV_X1_run ⟨Nat.le_of_ble_eq_true rfl, Nat.le_of_ble_eq_true rfl⟩ rfl (zRec_X1 E) rfl (Nat.le_of_ble_eq_true rfl) ⟨Nat.zero_le _, Nat.zero_le _⟩ dX4_passOneDay_71 (fun μ9 ov9 hp => ?_)
    have e2 : _ = zdayC μ := hp.1.trans (by unfold zdayC; rw [b0, e0, e4])
    have e3 := hp.2.symm
    clear hp
    subst e3
    subst e2
    refine z_aloadn (i := 0) (pc := 74) C dX4_passOneDay_74 rfl rfl ?_
    refine zg_X4_links (pc := 75) C dX4_passOneDay_75 iX4 f19 ?_
    refine z_aloadn (i := 0) (pc := 78) C dX4_passOneDay_78 rfl rfl ?_
    refine zg_X4_clocks (pc := 79) C dX4_passOneDay_79 iX4 f10 ?_
    refine z_aloadn (i := 0) (pc := 82) C dX4_passOneDay_82 rfl rfl ?_
    refine zg_X4_today (pc := 83) C dX4_passOneDay_83 iX4 f45 ?_
    refine z_callVv (pc := 86) (n := 2) (As := [.ref (zob E 1), .int ((zdayC μ) 63 0)]) (rest := []) C (c_X2_measureAll l E sa (μ := zdayC μ) (ov := ov) (t + 1) n (by rw [c63, b0]) (by omega) h7 (by rw [c63, e63 5 (by decide), a63 5 (by decide)]; exact h6) (fun j hj => by rw [c78 7 (Or.inl rfl), c78 8 (Or.inr rfl)]; obtain ⟨a, b, q1, q2, q3, q4, q5⟩ := h8 j hj; exact ⟨a, b, by omega, by omega, q4, q5⟩)) gX4_passOneDay_X2_measureAll rfl zfV_X2_measureAll ⟨Nat.le_of_ble_eq_true rfl, Nat.le_of_ble_eq_true rfl⟩ rfl (zRec_X2 E) rfl (Nat.le_of_ble_eq_true rfl) ⟨Nat.zero_le _, Nat.zero_le _⟩ dX4_passOneDay_86 (fun μ9 ov9 hp => ?_)
    have e2 : _ = zdayD μ := hp.1.trans (by unfold zdayD; rw [e0, e5])
    have e3 := hp.2.symm
    clear hp
    subst e3
    subst e2
    refine z_aloadn (i := 0) (pc := 89) C dX4_passOneDay_89 rfl rfl ?_
    refine zg_X4_steeredTimes (pc := 90) C dX4_passOneDay_90 iX4 f37 ?_
    refine z_aloadn (i := 0) (pc := 93) C dX4_passOneDay_93 rfl rfl ?_
    refine zg_X4_today (pc := 94) C dX4_passOneDay_94 iX4 f45 ?_
    refine z_aloadn (i := 0) (pc := 97) C dX4_passOneDay_97 rfl rfl ?_
    refine z_iloadn (i := 1) (pc := 98) C dX4_passOneDay_98 rfl rfl ?_
    refine z_aloadn (i := 0) (pc := 99) C dX4_passOneDay_99 rfl rfl ?_
    refine zg_X4_today (pc := 100) C dX4_passOneDay_100 iX4 f45 ?_
    refine z_callVi (pc := 103) (n := 2) (As := [.int (μ 0 t), .int ((zdayD μ) 63 0)]) (rest := [.int ((zdayD μ) 63 0), .ref (zad E 0)]) C (c_X4_steered l E sa (μ := zdayD μ) (ov := ov) (b := μ 0 t) (t + 1) n nc (by rw [d63, c63, b0]) (by omega) (by rw [d63, c63, e63 5 (by decide), a63 5 (by decide)]; exact h6) h7 (by rw [d63, c63, e63 4 (by decide), a63 4 (by decide)]; exact h4) h5 (h8.cg (by rw [d78 7 (Or.inl rfl), c78 7 (Or.inl rfl)]) (by rw [d78 8 (Or.inr rfl), c78 8 (Or.inr rfl)])) (by rw [d63, c63, e63 2 (by decide), a63 2 (by decide)]; exact h9)) gX4_passOneDay_X4_steered rfl zfV_X4_steered ⟨Nat.le_of_ble_eq_true rfl, Nat.le_of_ble_eq_true rfl⟩ rfl (zRec_X4 E) rfl (Nat.le_of_ble_eq_true rfl) ⟨Nat.zero_le _, Nat.zero_le _⟩ dX4_passOneDay_103 (fun r9 μ9 ov9 hp => ?_)
    have e1 := hp.1.symm
    have e2 := hp.2.1.symm
    have e3 := hp.2.2.symm
    clear hp
    subst e1 e2 e3
    refine z_iast (pc := 106) C 0 (t + 1) (by decide) rfl (by rw [d63, c63, b0]) (show t + 1 < 501 by omega) dX4_passOneDay_106 ?_
    exact z_vret (pc := 107) C hr hlk ⟨by rw [zday, e0, e5], rfl⟩ (Nat.zero_le _) (Nat.zero_le _) dX4_passOneDay_107
  have loop : ∀ (f : Nat) (ν : zM) (q : Nat), f ≤ 40 → zAg ν q → ν 63 0 = nI (t + 1) → zevs (nI (t + 1)) f ν = zdayB μ → zW p l e (zR 4 95 0 0) s m [Value.ref (zob E 0)].toArray below meth c E 3 0 0 (MQ below (zQv E s.heap.size (fun μ1 ov1 => μ1 = zday μ ∧ ov1 = ov)) [Value.ref (zob E 0)].toArray s 0 0 (zA E s.heap.size)) 28 [some (.ref (zob E 0)), some (.int (μ 0 t)), some (.int (nI f))] [] ν ov := by
    intro f
    induction f with
    | zero =>
      intro ν q hf hq hT hz
      refine z_iloadn (i := 2) (pc := 28) C dX4_passOneDay_28 rfl rfl ?_
      refine z_if_le (tgt := 63) (pc := 29) C dX4_passOneDay_29 (by decide) (fun c_l => ?_) (fun c_l => ?_)
      · refine z_weak (lv' := [some (.ref (zob E 0)), some (.int (μ 0 t)), none]) ⟨rfl, rfl, trivial⟩ ?_
        refine z_mem (μ' := zdayB μ) hz ?_
        exact hX
      · exact absurd (by decide) c_l
    | succ f ih =>
      intro ν q hf hq hT hz
      have hq40 := hq.2.1
      have hqc : (ν 63 6).toNatClampNeg = q := by rw [hq.1, nI_clamp (by omega)]
      refine z_iloadn (i := 2) (pc := 28) C dX4_passOneDay_28 rfl rfl ?_
      refine z_if_le (tgt := 63) (pc := 29) C dX4_passOneDay_29 (by decide) (fun c_l => ?_) (fun c_l => ?_)
      · exact absurd c_l (nI_nle (by omega) (by omega))
      · refine z_aloadn (i := 0) (pc := 32) C dX4_passOneDay_32 rfl rfl ?_
        refine zg_X4_agenda (pc := 33) C dX4_passOneDay_33 iX4 f26 ?_
        refine z_aloadn (i := 0) (pc := 36) C dX4_passOneDay_36 rfl rfl ?_
        refine zg_X4_today (pc := 37) C dX4_passOneDay_37 iX4 f45 ?_
        refine z_callVi (pc := 40) (n := 1) (As := [.int (ν 63 0)]) (rest := []) C (c_X0_isNextDue l E sa (μ := ν) (ov := ov) (t := ν 63 0) q hq.1 hq40) gX4_passOneDay_X0_isNextDue rfl zfV_X0_isNextDue ⟨Nat.le_of_ble_eq_true rfl, Nat.le_of_ble_eq_true rfl⟩ rfl (zRec_X0 E) rfl (Nat.le_of_ble_eq_true rfl) ⟨Nat.zero_le _, Nat.zero_le _⟩ dX4_passOneDay_40 (fun r9 μ9 ov9 hp => ?_)
        have e1 := hp.1.symm
        have e2 := hp.2.1.symm
        have e3 := hp.2.2.symm
        clear hp
        subst e1 e2 e3
        refine z_if_eq (tgt := 63) (pc := 43) C dX4_passOneDay_43 (by decide) (fun c_1 => ?_) (fun c_1 => ?_)
        · rw [zb_eq0, hT] at c_1
          refine z_weak (lv' := [some (.ref (zob E 0)), some (.int (μ 0 t)), none]) ⟨rfl, rfl, trivial⟩ ?_
          refine z_mem (μ' := zdayB μ) (by rw [← hz, zevs, hqc, if_neg c_1]) ?_
          exact hX
        · rw [zb_ne0, hT] at c_1
          have hq0 : 0 < q := Nat.pos_of_ne_zero (fun e => by have h0 := c_1.1; rw [hq.1, e] at h0; exact absurd h0 (by decide))
          obtain ⟨q1, rfl⟩ : ∃ q1, q = q1 + 1 := ⟨q - 1, by omega⟩
          have hz2 : zevs (nI (t + 1)) f (zhap (zu ν 63 6 (nI q1)) (ν 13 q1)) = zdayB μ := by rw [← hz, zevs, hqc, if_pos c_1]; rfl
          refine z_aloadn (i := 0) (pc := 46) C dX4_passOneDay_46 rfl rfl ?_
          refine z_aloadn (i := 0) (pc := 47) C dX4_passOneDay_47 rfl rfl ?_
          refine zg_X4_agenda (pc := 48) C dX4_passOneDay_48 iX4 f26 ?_
          refine z_callVi (pc := 51) (n := 0) (As := []) (rest := [.ref (zob E 0)]) C (c_X0_takeNext l E sa (μ := ν) (ov := ov) q1 hq.1 (by omega)) gX4_passOneDay_X0_takeNext rfl zfV_X0_takeNext ⟨Nat.le_of_ble_eq_true rfl, Nat.le_of_ble_eq_true rfl⟩ rfl (zRec_X0 E) rfl (Nat.le_of_ble_eq_true rfl) ⟨Nat.zero_le _, Nat.zero_le _⟩ dX4_passOneDay_51 (fun r9 μ9 ov9 hp => ?_)
          have e1 := hp.1.symm
          have e2 := hp.2.1.symm
          have e3 := hp.2.2.symm
          clear hp
          subst e1 e2 e3
          refine z_callVv (pc := 54) (n := 1) (As := [.int (ν 13 q1)]) (rest := []) C (c_X4_happen l E sa (μ := zu ν 63 6 (nI q1)) (ov := ov) (hq.2.2 q1 (by omega))) gX4_passOneDay_X4_happen rfl zfV_X4_happen ⟨Nat.le_of_ble_eq_true rfl, Nat.le_of_ble_eq_true rfl⟩ rfl (zRec_X4 E) rfl (Nat.le_of_ble_eq_true rfl) ⟨Nat.zero_le _, Nat.zero_le _⟩ dX4_passOneDay_54 (fun μ9 ov9 hp => ?_)
          have e2 := hp.1.symm
          have e3 := hp.2.symm
          clear hp
          subst e2 e3
          refine z_iinc2 (v := -1) (pc := 57) C (by decide) (by decide) (fun w hw => by cases hw; exact (show ¬ (1 = 2) from by decide)) dX4_passOneDay_57 ?_
          rw [pk_m1]
          refine z_goto (tgt := 28) (pc := 60) C dX4_passOneDay_60 (by decide) ?_
          exact ih _ q1 (by omega) (hq.step _) (by rw [zhap_k _ _ (by decide) (by decide) (by decide) (by decide), zu_s, upd_n _ _ (by decide)]; exact hT) hz2
  refine loop c9 _ c9 h3.2.1 ?_ ?_ ?_
  · exact ⟨by rw [a63 6 (by decide)]; exact h3.1, h3.2.1, fun j hj => by unfold zdayA; rw [zu_n _ _ _ (by decide)]; exact h3.2.2 j hj⟩
  · unfold zdayA; rw [zu_s, upd_s, e0]
  · unfold zdayB; rw [e6, e0]
