set_option maxHeartbeats 4000000 in
set_option maxRecDepth 100000 in
theorem c_L_isSteady (l : Launch) (hfl : l.stackTraces = false) (E : zE) (sa : Nat → Nat) {μ : zM} {ov : Nat → Int64} {B : Nat} (t c9 nc n A q : Nat) (h : zLI μ t c9 nc n A) (h1 : 1 ≤ q) (hq : q ≤ t) (hnc : 0 < nc) (hB : μ 63 2 = nI B) (hB1 : 1 ≤ B) (hB2 : B ≤ 100) : zMi l E sa yL_isSteady wsL_isSteady 8 163 10 60 [.ref (zob E 0), .ref (zad E 38), .int (nI q), .int (nI B)] μ ov (fun r μ1 ov1 => r = 1 ∧ μ1 = μ ∧ ov1 = ov) := by
  refine z_ofMi (cc := cL_isSteady) (nL := 10) (ret := (some .boolean)) (own := RL) zfp_L_isSteady rfl (by simp [Value.category]) (Nat.le_of_ble_eq_true rfl) rfl ?_
  intro p e s m below meth c C hr hlk
  show zW p l e (zR 8 163 10 60) s m [Value.ref (zob E 0), Value.ref (zad E 38), Value.int (nI q), Value.int (nI B)].toArray below meth c E 10 0 0 (MQ below (zQi E s.heap.size (fun r μ1 ov1 => r = 1 ∧ μ1 = μ ∧ ov1 = ov)) [Value.ref (zob E 0), Value.ref (zad E 38), Value.int (nI q), Value.int (nI B)].toArray s 10 60 (zA E s.heap.size)) 0 [some (.ref (zob E 0)), some (.ref (zad E 38)), some (.int (nI q)), some (.int (nI B)), none, none, none, none, none, none] [] μ ov
  obtain ⟨H, hL, hS, hW, hG, hK, ht6, hA60⟩ := id h
  obtain ⟨X1, X2, X3, X4, X5, X6, X7, X8, X9⟩ := id H
  obtain ⟨G0, G1, G2, G3⟩ := id hG
  obtain ⟨k9, K1, K2, K3, K4, K5⟩ := id hK
  have eA := zstd (st := nI B) (B := B) ((zanX_q (n := n) hB2 hB (q - 1) (by omega)).le (by omega)) (zmean_q h (q := q) (by omega)) hB1 hB2 rfl
  have eN : zanX μ n q = zanX μ n (q - 1) + zheld (zmean μ q n - zanX μ n (q - 1)) (nI B) := by
    obtain ⟨z, rfl⟩ : ∃ z, q = z + 1 := ⟨q - 1, by omega⟩
    rw [zanX, zste, hB]; rfl
  have K17 : ∀ v : Int32, v = zanX μ n (q - 1) → zW p l e (zR 8 163 10 60) s m [Value.ref (zob E 0), Value.ref (zad E 38), Value.int (nI q), Value.int (nI B)].toArray below meth c E 10 1 6 (MQ below (zQi E s.heap.size (fun r μ1 ov1 => r = 1 ∧ μ1 = μ ∧ ov1 = ov)) [Value.ref (zob E 0), Value.ref (zad E 38), Value.int (nI q), Value.int (nI B)].toArray s 10 60 (zA E s.heap.size)) 17 [some (.ref (zob E 0)), some (.ref (zad E 38)), some (.int (nI q)), some (.int (nI B)), none, none, none, none, none, none] [.int (v)] μ ov := by
    intro v hv
    subst hv
    have hstep := hS.2 q h1 hq
    have K125 : zW p l e (zR 8 163 10 60) s m [Value.ref (zob E 0), Value.ref (zad E 38), Value.int (nI q), Value.int (nI B)].toArray below meth c E 10 5 30 (MQ below (zQi E s.heap.size (fun r μ1 ov1 => r = 1 ∧ μ1 = μ ∧ ov1 = ov)) [Value.ref (zob E 0), Value.ref (zad E 38), Value.int (nI q), Value.int (nI B)].toArray s 10 60 (zA E s.heap.size)) 123 [some (.ref (zob E 0)), some (.ref (zad E 38)), some (.int (nI q)), some (.int (nI B)), some (.int (zanX μ n (q - 1))), some (.int (zanX μ n q)), some (.int (zmean μ q n)), some (.int ((zanX μ n q) - (zanX μ n (q - 1)))), some (.int (μ 0 q - μ 0 (q - 1))), none] [.int (1)] μ ov := by
      refine z_istore9 (pc := 123) C (by decide) (fun w hw => by cases hw; exact (show ¬ (1 = 2) from by decide)) dL_isSteady_123 ?_
      refine z_iload (i := 9) (pc := 125) C dL_isSteady_125 rfl ?_
      refine z_if_eq (tgt := 176) (pc := 127) C dL_isSteady_127 (by decide) (fun c_1 => ?_) (fun c_1 => ?_)
      · exact absurd c_1 (by decide)
      · refine z_iload (i := 8) (pc := 130) C dL_isSteady_130 rfl ?_
        refine z_sipush (v := 1000) (pc := 132) C dL_isSteady_132 (by decide) ?_
        refine z_icmp_gt (tgt := 176) (pc := 135) C dL_isSteady_135 (by decide) (fun c_2 => ?_) (fun c_2 => ?_)
        · exact absurd c_2 (by have := hstep.2; rw [zlt, show (1000 : Int32).toInt = 1000 from rfl]; omega)
        · refine z_iload (i := 8) (pc := 138) C dL_isSteady_138 rfl ?_
          refine z_sipush (v := -1000) (pc := 140) C dL_isSteady_140 (by decide) ?_
          refine z_icmp_lt (tgt := 176) (pc := 143) C dL_isSteady_143 (by decide) (fun c_3 => ?_) (fun c_3 => ?_)
          · exact absurd c_3 (by have := hstep.1; rw [zlt, show (-1000 : Int32).toInt = -1000 from by decide]; omega)
          · refine z_aloadn (i := 0) (pc := 146) C dL_isSteady_146 rfl rfl ?_
            refine z_aloadn (i := 1) (pc := 147) C dL_isSteady_147 rfl rfl ?_
            refine z_iconst (v := 2) (pc := 148) C dL_isSteady_148 (by decide) ?_
            refine z_iald (pc := 149) C 38 2 (by decide) rfl rfl (show 2 < 9 from by omega) dL_isSteady_149 ?_
            refine z_iconst (v := 1) (pc := 150) C dL_isSteady_150 (by decide) ?_
            refine z_iadd (pc := 151) C dL_isSteady_151 ?_
            refine z_topi (y := nI (t + 1)) (by rw [G2]; exact nI_1 t) ?_
            refine z_iconst (v := 1) (pc := 152) C dL_isSteady_152 (by decide) ?_
            refine z_callSWi (pc := 153) (n := 3) (As := [.ref (zob E 0), .int (nI (t + 1)), .int (1)]) (rest := []) C (c_L_published l hfl E sa (μ := μ) (ov := ov) (d := nI (t + 1)) (b := 1) t c9 nc n H) gL_isSteady_L_published rfl zfV_L_published.2 ⟨Nat.le_of_ble_eq_true rfl, Nat.le_of_ble_eq_true rfl⟩ rfl rfl (Nat.le_of_ble_eq_true rfl) ⟨by show _ ≤ 10; omega, by show _ ≤ 60; omega⟩ dL_isSteady_153 (fun r9 μ9 ov9 hp => ?_)
            have e : r9 = (-1000001) ∧ μ9 = μ ∧ ov9 = ov := by
              rcases hp with ⟨hn, -⟩ | ⟨-, hp⟩
              · exact absurd hn.2 (by rw [X1]; exact nI_ge (by omega) (by omega))
              · exact hp
            obtain ⟨e1, e2, e3⟩ := e
            have e2 := e2.symm
            have e3 := e3.symm
            subst e1 e2 e3
            clear hp
            refine z_ldc (v := (-1000001)) (pc := 156) C dL_isSteady_156 (C.1.2.2.2.2 (.constant RL 28 (-1000001)) (by decide +kernel)) ?_
            refine z_icmp_ne (tgt := 176) (pc := 158) C dL_isSteady_158 (by decide) (fun c_4 => ?_) (fun c_4 => ?_)
            · exact absurd rfl c_4
            · refine z_aloadn (i := 0) (pc := 161) C dL_isSteady_161 rfl rfl ?_
              refine z_iconst (v := 0) (pc := 162) C dL_isSteady_162 (by decide) ?_
              refine z_iconst (v := 0) (pc := 163) C dL_isSteady_163 (by decide) ?_
              refine z_callSWi (pc := 164) (n := 3) (As := [.ref (zob E 0), .int (0), .int (0)]) (rest := []) C (c_L_published l hfl E sa (μ := μ) (ov := ov) (d := 0) (b := 0) t c9 nc n H) gL_isSteady_L_published rfl zfV_L_published.2 ⟨Nat.le_of_ble_eq_true rfl, Nat.le_of_ble_eq_true rfl⟩ rfl rfl (Nat.le_of_ble_eq_true rfl) ⟨by show _ ≤ 10; omega, by show _ ≤ 60; omega⟩ dL_isSteady_164 (fun r9 μ9 ov9 hp => ?_)
              have e : r9 = (-1000001) ∧ μ9 = μ ∧ ov9 = ov := by
                rcases hp with ⟨hn, -⟩ | ⟨-, hp⟩
                · exact absurd hn.1 (by decide)
                · exact hp
              obtain ⟨e1, e2, e3⟩ := e
              have e2 := e2.symm
              have e3 := e3.symm
              subst e1 e2 e3
              clear hp
              refine z_ldc (v := (-1000001)) (pc := 167) C dL_isSteady_167 (C.1.2.2.2.2 (.constant RL 28 (-1000001)) (by decide +kernel)) ?_
              refine z_icmp_ne (tgt := 176) (pc := 169) C dL_isSteady_169 (by decide) (fun c_5 => ?_) (fun c_5 => ?_)
              · exact absurd rfl c_5
              · refine z_iconst (v := 1) (pc := 172) C dL_isSteady_172 (by decide) ?_
                refine z_goto (tgt := 177) (pc := 173) C dL_isSteady_173 (by decide) ?_
                exact z_zret (pc := 177) C hr hlk (by decide) ⟨rfl, rfl, rfl⟩ (by omega) (by omega) dL_isSteady_177
    have K64 : ∀ v : Int32, v = μ 0 (q - 1) → zW p l e (zR 8 163 10 60) s m [Value.ref (zob E 0), Value.ref (zad E 38), Value.int (nI q), Value.int (nI B)].toArray below meth c E 10 5 30 (MQ below (zQi E s.heap.size (fun r μ1 ov1 => r = 1 ∧ μ1 = μ ∧ ov1 = ov)) [Value.ref (zob E 0), Value.ref (zad E 38), Value.int (nI q), Value.int (nI B)].toArray s 10 60 (zA E s.heap.size)) 64 [some (.ref (zob E 0)), some (.ref (zad E 38)), some (.int (nI q)), some (.int (nI B)), some (.int (zanX μ n (q - 1))), some (.int (zanX μ n q)), some (.int (zmean μ q n)), some (.int ((zanX μ n q) - (zanX μ n (q - 1)))), none, none] [.int (v), .int (μ 0 q)] μ ov := by
      intro v hv
      subst hv
      refine z_isub (pc := 64) C dL_isSteady_64 ?_
      refine z_istore8 (pc := 65) C (by decide) (fun w hw => by cases hw; exact (show ¬ (1 = 2) from by decide)) dL_isSteady_65 ?_
      by_cases hle : (zmean μ q n) - (zanX μ n (q - 1)) ≤ nI B ∧ (zanX μ n (q - 1)) - (zmean μ q n) ≤ nI B
      · have eq1 := eN.trans (eA.1 hle.1 hle.2)
        refine z_iload (i := 6) (pc := 67) C dL_isSteady_67 rfl ?_
        refine z_iload (i := 4) (pc := 69) C dL_isSteady_69 rfl ?_
        refine z_isub (pc := 71) C dL_isSteady_71 ?_
        refine z_iloadn (i := 3) (pc := 72) C dL_isSteady_72 rfl rfl ?_
        refine z_icmp_gt (tgt := 100) (pc := 73) C dL_isSteady_73 (by decide) (fun c_1 => ?_) (fun c_1 => ?_)
        · exact absurd hle.1 (by rw [zle2]; rw [zlt] at c_1; omega)
        · refine z_iload (i := 4) (pc := 76) C dL_isSteady_76 rfl ?_
          refine z_iload (i := 6) (pc := 78) C dL_isSteady_78 rfl ?_
          refine z_isub (pc := 80) C dL_isSteady_80 ?_
          refine z_iloadn (i := 3) (pc := 81) C dL_isSteady_81 rfl rfl ?_
          refine z_icmp_gt (tgt := 100) (pc := 82) C dL_isSteady_82 (by decide) (fun c_2 => ?_) (fun c_2 => ?_)
          · exact absurd hle.2 (by rw [zle2]; rw [zlt] at c_2; omega)
          · refine z_iload (i := 5) (pc := 85) C dL_isSteady_85 rfl ?_
            refine z_iload (i := 6) (pc := 87) C dL_isSteady_87 rfl ?_
            refine z_icmp_ne (tgt := 96) (pc := 89) C dL_isSteady_89 (by decide) (fun c_3 => ?_) (fun c_3 => ?_)
            · exact absurd eq1 c_3
            · refine z_iconst (v := 1) (pc := 92) C dL_isSteady_92 (by decide) ?_
              refine z_goto (tgt := 123) (pc := 93) C dL_isSteady_93 (by decide) ?_
              exact K125
      · have eq2 := eA.2 hle
        rw [← eN] at eq2
        have K100 : zW p l e (zR 8 163 10 60) s m [Value.ref (zob E 0), Value.ref (zad E 38), Value.int (nI q), Value.int (nI B)].toArray below meth c E 10 5 30 (MQ below (zQi E s.heap.size (fun r μ1 ov1 => r = 1 ∧ μ1 = μ ∧ ov1 = ov)) [Value.ref (zob E 0), Value.ref (zad E 38), Value.int (nI q), Value.int (nI B)].toArray s 10 60 (zA E s.heap.size)) 100 [some (.ref (zob E 0)), some (.ref (zad E 38)), some (.int (nI q)), some (.int (nI B)), some (.int (zanX μ n (q - 1))), some (.int (zanX μ n q)), some (.int (zmean μ q n)), some (.int ((zanX μ n q) - (zanX μ n (q - 1)))), some (.int (μ 0 q - μ 0 (q - 1))), none] [] μ ov := by
          refine z_iload (i := 7) (pc := 100) C dL_isSteady_100 rfl ?_
          refine z_iload (i := 6) (pc := 102) C dL_isSteady_102 rfl ?_
          refine z_iload (i := 4) (pc := 104) C dL_isSteady_104 rfl ?_
          refine z_icmp_le (tgt := 113) (pc := 106) C dL_isSteady_106 (by decide) (fun c_g => ?_) (fun c_g => ?_)
          · rw [if_neg (fun z => by rw [zlt] at z; rw [zle2] at c_g; omega)] at eq2
            refine z_iloadn (i := 3) (pc := 113) C dL_isSteady_113 rfl rfl ?_
            refine z_ineg (pc := 114) C dL_isSteady_114 ?_
            refine z_icmp_ne (tgt := 122) (pc := 115) C dL_isSteady_115 (by decide) (fun c_h => ?_) (fun c_h => ?_)
            · exact absurd eq2 c_h
            · refine z_iconst (v := 1) (pc := 118) C dL_isSteady_118 (by decide) ?_
              refine z_goto (tgt := 123) (pc := 119) C dL_isSteady_119 (by decide) ?_
              exact K125
          · rw [if_pos (znot_le c_g)] at eq2
            refine z_iloadn (i := 3) (pc := 109) C dL_isSteady_109 rfl rfl ?_
            refine z_goto (tgt := 115) (pc := 110) C dL_isSteady_110 (by decide) ?_
            refine z_icmp_ne (tgt := 122) (pc := 115) C dL_isSteady_115 (by decide) (fun c_h => ?_) (fun c_h => ?_)
            · exact absurd eq2 c_h
            · refine z_iconst (v := 1) (pc := 118) C dL_isSteady_118 (by decide) ?_
              refine z_goto (tgt := 123) (pc := 119) C dL_isSteady_119 (by decide) ?_
              exact K125
        refine z_iload (i := 6) (pc := 67) C dL_isSteady_67 rfl ?_
        refine z_iload (i := 4) (pc := 69) C dL_isSteady_69 rfl ?_
        refine z_isub (pc := 71) C dL_isSteady_71 ?_
        refine z_iloadn (i := 3) (pc := 72) C dL_isSteady_72 rfl rfl ?_
        refine z_icmp_gt (tgt := 100) (pc := 73) C dL_isSteady_73 (by decide) (fun c_1 => ?_) (fun c_1 => ?_)
        · exact K100
        · refine z_iload (i := 4) (pc := 76) C dL_isSteady_76 rfl ?_
          refine z_iload (i := 6) (pc := 78) C dL_isSteady_78 rfl ?_
          refine z_isub (pc := 80) C dL_isSteady_80 ?_
          refine z_iloadn (i := 3) (pc := 81) C dL_isSteady_81 rfl rfl ?_
          refine z_icmp_gt (tgt := 100) (pc := 82) C dL_isSteady_82 (by decide) (fun c_2 => ?_) (fun c_2 => ?_)
          · exact K100
          · exact absurd ⟨znot_lt c_1, znot_lt c_2⟩ hle
    by_cases q1 : q = 1
    · refine z_istore4 (pc := 17) C (by decide) (fun w hw => by cases hw; exact (show ¬ (1 = 2) from by decide)) dL_isSteady_17 ?_
      refine z_aloadn (i := 0) (pc := 19) C dL_isSteady_19 rfl rfl ?_
      refine z_iloadn (i := 2) (pc := 20) C dL_isSteady_20 rfl rfl ?_
      refine z_iconst (v := 1) (pc := 21) C dL_isSteady_21 (by decide) ?_
      refine z_callSWi (pc := 22) (n := 3) (As := [.ref (zob E 0), .int (nI q), .int (1)]) (rest := []) C (c_L_published l hfl E sa (μ := μ) (ov := ov) (d := nI q) (b := 1) t c9 nc n H) gL_isSteady_L_published rfl zfV_L_published.2 ⟨Nat.le_of_ble_eq_true rfl, Nat.le_of_ble_eq_true rfl⟩ rfl rfl (Nat.le_of_ble_eq_true rfl) ⟨by show _ ≤ 10; omega, by show _ ≤ 60; omega⟩ dL_isSteady_22 (fun r9 μ9 ov9 hp => ?_)
      have e : r9 = zanX μ n q ∧ μ9 = μ ∧ ov9 = ov := by
        rcases hp with ⟨-, hp⟩ | ⟨hn, -⟩
        · rw [nI_clamp (by omega), if_neg (by decide)] at hp
          exact hp
        · exact absurd ⟨nI_le (a := 1) (by omega) (by omega), by rw [X1]; exact nI_le (by omega) (by omega)⟩ hn
      obtain ⟨e1, e2, e3⟩ := e
      have e2 := e2.symm
      have e3 := e3.symm
      subst e1 e2 e3
      clear hp
      refine z_istore5 (pc := 25) C (by decide) (fun w hw => by cases hw; exact (show ¬ (1 = 2) from by decide)) dL_isSteady_25 ?_
      refine z_aloadn (i := 0) (pc := 27) C dL_isSteady_27 rfl rfl ?_
      refine z_iloadn (i := 2) (pc := 28) C dL_isSteady_28 rfl rfl ?_
      refine z_callSWi (pc := 29) (n := 2) (As := [.ref (zob E 0), .int (nI q)]) (rest := []) C (c_L_mean l hfl E sa (μ := μ) (ov := ov) (d := nI q) t c9 nc n H) gL_isSteady_L_mean rfl zfV_L_mean.2 ⟨Nat.le_of_ble_eq_true rfl, Nat.le_of_ble_eq_true rfl⟩ rfl rfl (Nat.le_of_ble_eq_true rfl) ⟨by show _ ≤ 10; omega, by show _ ≤ 60; omega⟩ dL_isSteady_29 (fun r9 μ9 ov9 hp => ?_)
      have e : r9 = zmean μ q n ∧ μ9 = μ ∧ ov9 = ov := by
        rcases hp with ⟨-, hp⟩ | ⟨hn, -⟩
        · rw [nI_clamp (by omega)] at hp; exact hp
        · exact absurd ⟨⟨nI_le (a := 1) (by omega) (by omega), by rw [X1]; exact nI_le (by omega) (by omega)⟩, by rw [X4]; exact nI_ne0 hnc (by omega)⟩ hn
      obtain ⟨e1, e2, e3⟩ := e
      have e2 := e2.symm
      have e3 := e3.symm
      subst e1 e2 e3
      clear hp
      refine z_istore6 (pc := 32) C (by decide) (fun w hw => by cases hw; exact (show ¬ (1 = 2) from by decide)) dL_isSteady_32 ?_
      refine z_iload (i := 5) (pc := 34) C dL_isSteady_34 rfl ?_
      refine z_iload (i := 4) (pc := 36) C dL_isSteady_36 rfl ?_
      refine z_isub (pc := 38) C dL_isSteady_38 ?_
      refine z_istore7 (pc := 39) C (by decide) (fun w hw => by cases hw; exact (show ¬ (1 = 2) from by decide)) dL_isSteady_39 ?_
      refine z_aloadn (i := 0) (pc := 41) C dL_isSteady_41 rfl rfl ?_
      refine z_iloadn (i := 2) (pc := 42) C dL_isSteady_42 rfl rfl ?_
      refine z_iconst (v := 0) (pc := 43) C dL_isSteady_43 (by decide) ?_
      refine z_callSWi (pc := 44) (n := 3) (As := [.ref (zob E 0), .int (nI q), .int (0)]) (rest := []) C (c_L_published l hfl E sa (μ := μ) (ov := ov) (d := nI q) (b := 0) t c9 nc n H) gL_isSteady_L_published rfl zfV_L_published.2 ⟨Nat.le_of_ble_eq_true rfl, Nat.le_of_ble_eq_true rfl⟩ rfl rfl (Nat.le_of_ble_eq_true rfl) ⟨by show _ ≤ 10; omega, by show _ ≤ 60; omega⟩ dL_isSteady_44 (fun r9 μ9 ov9 hp => ?_)
      have e : r9 = μ 0 q ∧ μ9 = μ ∧ ov9 = ov := by
        rcases hp with ⟨-, hp⟩ | ⟨hn, -⟩
        · rw [nI_clamp (by omega), if_pos rfl] at hp
          exact hp
        · exact absurd ⟨nI_le (a := 1) (by omega) (by omega), by rw [X1]; exact nI_le (by omega) (by omega)⟩ hn
      obtain ⟨e1, e2, e3⟩ := e
      have e2 := e2.symm
      have e3 := e3.symm
      subst e1 e2 e3
      clear hp
      refine z_iloadn (i := 2) (pc := 47) C dL_isSteady_47 rfl rfl ?_
      refine z_iconst (v := 1) (pc := 48) C dL_isSteady_48 (by decide) ?_
      refine z_icmp_ne (tgt := 56) (pc := 49) C dL_isSteady_49 (by decide) (fun c_6 => ?_) (fun c_6 => ?_)
      · exact absurd (by rw [q1]; rfl) c_6
      · refine z_iconst (v := 0) (pc := 52) C dL_isSteady_52 (by decide) ?_
        refine z_goto (tgt := 64) (pc := 53) C dL_isSteady_53 (by decide) ?_
        exact z_widen (by omega) (by omega) (K64 _ (by rw [q1]; exact hS.1.symm))
    · refine z_istore4 (pc := 17) C (by decide) (fun w hw => by cases hw; exact (show ¬ (1 = 2) from by decide)) dL_isSteady_17 ?_
      refine z_aloadn (i := 0) (pc := 19) C dL_isSteady_19 rfl rfl ?_
      refine z_iloadn (i := 2) (pc := 20) C dL_isSteady_20 rfl rfl ?_
      refine z_iconst (v := 1) (pc := 21) C dL_isSteady_21 (by decide) ?_
      refine z_callSWi (pc := 22) (n := 3) (As := [.ref (zob E 0), .int (nI q), .int (1)]) (rest := []) C (c_L_published l hfl E sa (μ := μ) (ov := ov) (d := nI q) (b := 1) t c9 nc n H) gL_isSteady_L_published rfl zfV_L_published.2 ⟨Nat.le_of_ble_eq_true rfl, Nat.le_of_ble_eq_true rfl⟩ rfl rfl (Nat.le_of_ble_eq_true rfl) ⟨by show _ ≤ 10; omega, by show _ ≤ 60; omega⟩ dL_isSteady_22 (fun r9 μ9 ov9 hp => ?_)
      have e : r9 = zanX μ n q ∧ μ9 = μ ∧ ov9 = ov := by
        rcases hp with ⟨-, hp⟩ | ⟨hn, -⟩
        · rw [nI_clamp (by omega), if_neg (by decide)] at hp
          exact hp
        · exact absurd ⟨nI_le (a := 1) (by omega) (by omega), by rw [X1]; exact nI_le (by omega) (by omega)⟩ hn
      obtain ⟨e1, e2, e3⟩ := e
      have e2 := e2.symm
      have e3 := e3.symm
      subst e1 e2 e3
      clear hp
      refine z_istore5 (pc := 25) C (by decide) (fun w hw => by cases hw; exact (show ¬ (1 = 2) from by decide)) dL_isSteady_25 ?_
      refine z_aloadn (i := 0) (pc := 27) C dL_isSteady_27 rfl rfl ?_
      refine z_iloadn (i := 2) (pc := 28) C dL_isSteady_28 rfl rfl ?_
      refine z_callSWi (pc := 29) (n := 2) (As := [.ref (zob E 0), .int (nI q)]) (rest := []) C (c_L_mean l hfl E sa (μ := μ) (ov := ov) (d := nI q) t c9 nc n H) gL_isSteady_L_mean rfl zfV_L_mean.2 ⟨Nat.le_of_ble_eq_true rfl, Nat.le_of_ble_eq_true rfl⟩ rfl rfl (Nat.le_of_ble_eq_true rfl) ⟨by show _ ≤ 10; omega, by show _ ≤ 60; omega⟩ dL_isSteady_29 (fun r9 μ9 ov9 hp => ?_)
      have e : r9 = zmean μ q n ∧ μ9 = μ ∧ ov9 = ov := by
        rcases hp with ⟨-, hp⟩ | ⟨hn, -⟩
        · rw [nI_clamp (by omega)] at hp; exact hp
        · exact absurd ⟨⟨nI_le (a := 1) (by omega) (by omega), by rw [X1]; exact nI_le (by omega) (by omega)⟩, by rw [X4]; exact nI_ne0 hnc (by omega)⟩ hn
      obtain ⟨e1, e2, e3⟩ := e
      have e2 := e2.symm
      have e3 := e3.symm
      subst e1 e2 e3
      clear hp
      refine z_istore6 (pc := 32) C (by decide) (fun w hw => by cases hw; exact (show ¬ (1 = 2) from by decide)) dL_isSteady_32 ?_
      refine z_iload (i := 5) (pc := 34) C dL_isSteady_34 rfl ?_
      refine z_iload (i := 4) (pc := 36) C dL_isSteady_36 rfl ?_
      refine z_isub (pc := 38) C dL_isSteady_38 ?_
      refine z_istore7 (pc := 39) C (by decide) (fun w hw => by cases hw; exact (show ¬ (1 = 2) from by decide)) dL_isSteady_39 ?_
      refine z_aloadn (i := 0) (pc := 41) C dL_isSteady_41 rfl rfl ?_
      refine z_iloadn (i := 2) (pc := 42) C dL_isSteady_42 rfl rfl ?_
      refine z_iconst (v := 0) (pc := 43) C dL_isSteady_43 (by decide) ?_
      refine z_callSWi (pc := 44) (n := 3) (As := [.ref (zob E 0), .int (nI q), .int (0)]) (rest := []) C (c_L_published l hfl E sa (μ := μ) (ov := ov) (d := nI q) (b := 0) t c9 nc n H) gL_isSteady_L_published rfl zfV_L_published.2 ⟨Nat.le_of_ble_eq_true rfl, Nat.le_of_ble_eq_true rfl⟩ rfl rfl (Nat.le_of_ble_eq_true rfl) ⟨by show _ ≤ 10; omega, by show _ ≤ 60; omega⟩ dL_isSteady_44 (fun r9 μ9 ov9 hp => ?_)
      have e : r9 = μ 0 q ∧ μ9 = μ ∧ ov9 = ov := by
        rcases hp with ⟨-, hp⟩ | ⟨hn, -⟩
        · rw [nI_clamp (by omega), if_pos rfl] at hp
          exact hp
        · exact absurd ⟨nI_le (a := 1) (by omega) (by omega), by rw [X1]; exact nI_le (by omega) (by omega)⟩ hn
      obtain ⟨e1, e2, e3⟩ := e
      have e2 := e2.symm
      have e3 := e3.symm
      subst e1 e2 e3
      clear hp
      refine z_iloadn (i := 2) (pc := 47) C dL_isSteady_47 rfl rfl ?_
      refine z_iconst (v := 1) (pc := 48) C dL_isSteady_48 (by decide) ?_
      refine z_icmp_ne (tgt := 56) (pc := 49) C dL_isSteady_49 (by decide) (fun c_6 => ?_) (fun c_6 => ?_)
      · refine z_aloadn (i := 0) (pc := 56) C dL_isSteady_56 rfl rfl ?_
        refine z_iloadn (i := 2) (pc := 57) C dL_isSteady_57 rfl rfl ?_
        refine z_iconst (v := 1) (pc := 58) C dL_isSteady_58 (by decide) ?_
        refine z_isub (pc := 59) C dL_isSteady_59 ?_
        refine z_topi (y := nI (q - 1)) (by rw [show (1 : Int32) = nI 1 from rfl, pk_sub h1]) ?_
        refine z_iconst (v := 0) (pc := 60) C dL_isSteady_60 (by decide) ?_
        refine z_callSWi (pc := 61) (n := 3) (As := [.ref (zob E 0), .int (nI (q - 1)), .int (0)]) (rest := [.int (μ 0 q)]) C (c_L_published l hfl E sa (μ := μ) (ov := ov) (d := nI (q - 1)) (b := 0) t c9 nc n H) gL_isSteady_L_published rfl zfV_L_published.2 ⟨Nat.le_of_ble_eq_true rfl, Nat.le_of_ble_eq_true rfl⟩ rfl rfl (Nat.le_of_ble_eq_true rfl) ⟨by show _ ≤ 10; omega, by show _ ≤ 60; omega⟩ dL_isSteady_61 (fun r9 μ9 ov9 hp => ?_)
        have e : r9 = μ 0 (q - 1) ∧ μ9 = μ ∧ ov9 = ov := by
          rcases hp with ⟨-, hp⟩ | ⟨hn, -⟩
          · rw [nI_clamp (by omega), if_pos rfl] at hp
            exact hp
          · exact absurd ⟨nI_le (a := 1) (by omega) (by omega), by rw [X1]; exact nI_le (by omega) (by omega)⟩ hn
        obtain ⟨e1, e2, e3⟩ := e
        have e2 := e2.symm
        have e3 := e3.symm
        subst e1 e2 e3
        clear hp
        exact z_widen (by omega) (by omega) (K64 _ rfl)
      · exact absurd c_6 (fun z => q1 ((nI_eq (b := 1) (by omega) (by decide)).mp z))
  by_cases q1 : q = 1
  · refine z_iloadn (i := 2) (pc := 0) C dL_isSteady_0 rfl rfl ?_
    refine z_iconst (v := 1) (pc := 1) C dL_isSteady_1 (by decide) ?_
    refine z_icmp_ne (tgt := 9) (pc := 2) C dL_isSteady_2 (by decide) (fun c_0 => ?_) (fun c_0 => ?_)
    · exact absurd (by rw [q1]; rfl) c_0
    · refine z_iconst (v := 0) (pc := 5) C dL_isSteady_5 (by decide) ?_
      refine z_goto (tgt := 17) (pc := 6) C dL_isSteady_6 (by decide) ?_
      exact z_widen (by omega) (by omega) (K17 _ (by rw [q1]; rfl))
  · refine z_iloadn (i := 2) (pc := 0) C dL_isSteady_0 rfl rfl ?_
    refine z_iconst (v := 1) (pc := 1) C dL_isSteady_1 (by decide) ?_
    refine z_icmp_ne (tgt := 9) (pc := 2) C dL_isSteady_2 (by decide) (fun c_0 => ?_) (fun c_0 => ?_)
    · refine z_aloadn (i := 0) (pc := 9) C dL_isSteady_9 rfl rfl ?_
      refine z_iloadn (i := 2) (pc := 10) C dL_isSteady_10 rfl rfl ?_
      refine z_iconst (v := 1) (pc := 11) C dL_isSteady_11 (by decide) ?_
      refine z_isub (pc := 12) C dL_isSteady_12 ?_
      refine z_topi (y := nI (q - 1)) (by rw [show (1 : Int32) = nI 1 from rfl, pk_sub h1]) ?_
      refine z_iconst (v := 1) (pc := 13) C dL_isSteady_13 (by decide) ?_
      refine z_callSWi (pc := 14) (n := 3) (As := [.ref (zob E 0), .int (nI (q - 1)), .int (1)]) (rest := []) C (c_L_published l hfl E sa (μ := μ) (ov := ov) (d := nI (q - 1)) (b := 1) t c9 nc n H) gL_isSteady_L_published rfl zfV_L_published.2 ⟨Nat.le_of_ble_eq_true rfl, Nat.le_of_ble_eq_true rfl⟩ rfl rfl (Nat.le_of_ble_eq_true rfl) ⟨by show _ ≤ 10; omega, by show _ ≤ 60; omega⟩ dL_isSteady_14 (fun r9 μ9 ov9 hp => ?_)
      have e : r9 = zanX μ n (q - 1) ∧ μ9 = μ ∧ ov9 = ov := by
        rcases hp with ⟨-, hp⟩ | ⟨hn, -⟩
        · rw [nI_clamp (by omega), if_neg (by decide)] at hp
          exact hp
        · exact absurd ⟨nI_le (a := 1) (by omega) (by omega), by rw [X1]; exact nI_le (by omega) (by omega)⟩ hn
      obtain ⟨e1, e2, e3⟩ := e
      have e2 := e2.symm
      have e3 := e3.symm
      subst e1 e2 e3
      clear hp
      exact z_widen (by omega) (by omega) (K17 _ rfl)
    · exact absurd c_0 (fun z => q1 ((nI_eq (b := 1) (by omega) (by decide)).mp z))
