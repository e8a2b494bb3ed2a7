set_option maxHeartbeats 1000000 in
set_option maxRecDepth 100000 in
theorem c_L_acts (l : Launch) (hfl : l.stackTraces = false) (E : zE) (sa : Nat → Nat) {μ : zM} {ov : Nat → Int64} {x y : Int32} (t c9 nc n A : Nat) (h : zLI μ t c9 nc n A) (hA : A < 60) : zMi l E sa yL_acts wsL_acts 18 497 1700 10200 [.ref (zob E 0), .ref (zad E 38), .ref (zad E 39), .ref (zad E 40), .ref (zad E 41), .ref (zad E 42), .int x, .int y] μ ov (fun r μ1 ov1 => r = 1 ∧ (∃ t1 c1 nc1 n1, zLI μ1 t1 c1 nc1 n1 (A + 1)) ∧ ov1 = ov) := by
  refine z_ofMi (cc := cL_acts) (nL := 11) (ret := (some .boolean)) (own := RL) zfp_L_acts rfl (by simp [Value.category]) (Nat.le_of_ble_eq_true rfl) rfl ?_
  intro p e s m below meth c C hr hlk
  show zW p l e (zR 18 497 1700 10200) s m [Value.ref (zob E 0), Value.ref (zad E 38), Value.ref (zad E 39), Value.ref (zad E 40), Value.ref (zad E 41), Value.ref (zad E 42), Value.int x, Value.int y].toArray below meth c E 11 0 0 (MQ below (zQi E s.heap.size (fun r μ1 ov1 => r = 1 ∧ (∃ t1 c1 nc1 n1, zLI μ1 t1 c1 nc1 n1 (A + 1)) ∧ ov1 = ov)) [Value.ref (zob E 0), Value.ref (zad E 38), Value.ref (zad E 39), Value.ref (zad E 40), Value.ref (zad E 41), Value.ref (zad E 42), Value.int x, Value.int y].toArray s 1700 10200 (zA E s.heap.size)) 0 [some (.ref (zob E 0)), some (.ref (zad E 38)), some (.ref (zad E 39)), some (.ref (zad E 40)), some (.ref (zad E 41)), some (.ref (zad E 42)), some (.int (x)), some (.int (y)), none, none, none] [] μ ov
  obtain ⟨H, hL, hS, hW, hG, hK, ht6, hA60⟩ := id h
  obtain ⟨X1, X2, X3, X4, X5, X6, X7, X8, X9⟩ := id H
  obtain ⟨G0, G1, G2, G3⟩ := id hG
  obtain ⟨k9, K1, K2, K3, K4, K5⟩ := id hK
  obtain ⟨W1, W2, W3, ⟨B8, hB8, eB8⟩, ⟨C8, hC8, hC9, eC8⟩, W6, W7, W8, W9, W10⟩ := id hW
  refine z_iload (i := 6) (pc := 0) C dL_acts_0 rfl ?_
  refine z_bipush (v := 12) (pc := 2) C dL_acts_2 (by decide) ?_
  obtain ⟨k0, hk0, ek0⟩ := zlow_k x (k := 12) (by omega) (by omega)
  refine z_callSi (pc := 4) (n := 2) (As := [.int (x), .int (12)]) (rest := []) C (c_L_low l E sa (μ := μ) (ov := ov) (v := x) (n := 12) 12 rfl (by omega) (by omega)) gL_acts_L_low rfl zfV_L_low.2 ⟨Nat.le_of_ble_eq_true rfl, Nat.le_of_ble_eq_true rfl⟩ rfl rfl (Nat.le_of_ble_eq_true rfl) ⟨by show _ ≤ 1700; omega, by show _ ≤ 10200; omega⟩ dL_acts_4 (fun r9 μ9 ov9 hp => ?_)
  have e1 := hp.1.symm
  have e2 := hp.2.1.symm
  have e3 := hp.2.2.symm
  clear hp
  subst e1 e2 e3
  refine z_topi (y := nI k0) ek0 ?_
  refine z_istore8 (pc := 7) C (by decide) (fun w hw => by cases hw; exact (show ¬ (1 = 2) from by decide)) dL_acts_7 ?_
  have MK : zW p l e (zR 18 497 1700 10200) s m [Value.ref (zob E 0), Value.ref (zad E 38), Value.ref (zad E 39), Value.ref (zad E 40), Value.ref (zad E 41), Value.ref (zad E 42), Value.int x, Value.int y].toArray below meth c E 11 0 0 (MQ below (zQi E s.heap.size (fun r μ1 ov1 => r = 1 ∧ (∃ t1 c1 nc1 n1, zLI μ1 t1 c1 nc1 n1 (A + 1)) ∧ ov1 = ov)) [Value.ref (zob E 0), Value.ref (zad E 38), Value.ref (zad E 39), Value.ref (zad E 40), Value.ref (zad E 41), Value.ref (zad E 42), Value.int x, Value.int y].toArray s 1700 10200 (zA E s.heap.size)) 22 [some (.ref (zob E 0)), some (.ref (zad E 38)), some (.ref (zad E 39)), some (.ref (zad E 40)), some (.ref (zad E 41)), some (.ref (zad E 42)), some (.int (x)), some (.int (y)), some (.int (nI k0)), none, none] [] μ ov := by
    refine z_aloadn (i := 0) (pc := 22) C dL_acts_22 rfl rfl ?_
    refine z_aloadn (i := 1) (pc := 23) C dL_acts_23 rfl rfl ?_
    refine z_aloadn (i := 2) (pc := 24) C dL_acts_24 rfl rfl ?_
    refine z_iload (i := 6) (pc := 25) C dL_acts_25 rfl ?_
    refine z_iconst (v := 4) (pc := 27) C dL_acts_27 (by decide) ?_
    refine z_ishr (pc := 28) C dL_acts_28 ?_
    refine z_iload (i := 7) (pc := 29) C dL_acts_29 rfl ?_
    refine z_callSi (pc := 31) (n := 5) (As := [.ref (zob E 0), .ref (zad E 38), .ref (zad E 39), .int (x >>> (4 &&& 31)), .int (y)]) (rest := []) C (c_L_makes l hfl E sa (μ := μ) (ov := ov) (x := x >>> (4 &&& 31)) (y := y) t c9 nc n A h hA) gL_acts_L_makes rfl zfV_L_makes.2 ⟨Nat.le_of_ble_eq_true rfl, Nat.le_of_ble_eq_true rfl⟩ rfl rfl (Nat.le_of_ble_eq_true rfl) ⟨by show _ ≤ 1700; omega, by show _ ≤ 10200; omega⟩ dL_acts_31 (fun r9 μ9 ov9 hp => ?_)
    obtain ⟨e1, ⟨nc1, n1, hk⟩, e3⟩ := hp
    have e3 := e3.symm
    subst e1 e3
    exact z_zret (pc := 34) C hr hlk (by decide) ⟨rfl, ⟨t, c9, nc1, n1, hk⟩, rfl⟩ (by omega) (by omega) dL_acts_34
  refine z_iload (i := 8) (pc := 9) C dL_acts_9 rfl ?_
  refine z_iconst (v := 2) (pc := 11) C dL_acts_11 (by decide) ?_
  refine z_icmp_lt (tgt := 22) (pc := 12) C dL_acts_12 (by decide) (fun c_a => ?_) (fun c_a => ?_)
  · exact MK
  · refine z_aloadn (i := 1) (pc := 15) C dL_acts_15 rfl rfl ?_
    refine z_iconst (v := 0) (pc := 16) C dL_acts_16 (by decide) ?_
    refine z_iald (pc := 17) C 38 0 (by decide) rfl rfl (show 0 < 9 from by omega) dL_acts_17 ?_
    refine z_iconst (v := 2) (pc := 18) C dL_acts_18 (by decide) ?_
    refine z_icmp_ge (tgt := 35) (pc := 19) C dL_acts_19 (by decide) (fun c_b => ?_) (fun c_b => ?_)
    · have hn2 : 2 ≤ nc := by rw [G0] at c_b; exact (nI_leI (a := 2) (by decide) (by omega)).mp c_b
      have PS : zW p l e (zR 18 497 1700 10200) s m [Value.ref (zob E 0), Value.ref (zad E 38), Value.ref (zad E 39), Value.ref (zad E 40), Value.ref (zad E 41), Value.ref (zad E 42), Value.int x, Value.int y].toArray below meth c E 11 0 0 (MQ below (zQi E s.heap.size (fun r μ1 ov1 => r = 1 ∧ (∃ t1 c1 nc1 n1, zLI μ1 t1 c1 nc1 n1 (A + 1)) ∧ ov1 = ov)) [Value.ref (zob E 0), Value.ref (zad E 38), Value.ref (zad E 39), Value.ref (zad E 40), Value.ref (zad E 41), Value.ref (zad E 42), Value.int x, Value.int y].toArray s 1700 10200 (zA E s.heap.size)) 124 [some (.ref (zob E 0)), some (.ref (zad E 38)), some (.ref (zad E 39)), some (.ref (zad E 40)), some (.ref (zad E 41)), some (.ref (zad E 42)), some (.int (x)), some (.int (y)), some (.int (nI k0)), none, none] [] μ ov := by
        refine z_iconst (v := 1) (pc := 124) C dL_acts_124 (by decide) ?_
        refine z_iload (i := 7) (pc := 125) C dL_acts_125 rfl ?_
        refine z_bipush (v := 6) (pc := 127) C dL_acts_127 (by decide) ?_
        obtain ⟨d0, hd0, ed0⟩ := zlow_k y (k := 6) (by omega) (by omega)
        refine z_callSi (pc := 129) (n := 2) (As := [.int (y), .int (6)]) (rest := [.int (1)]) C (c_L_low l E sa (μ := μ) (ov := ov) (v := y) (n := 6) 6 rfl (by omega) (by omega)) gL_acts_L_low rfl zfV_L_low.2 ⟨Nat.le_of_ble_eq_true rfl, Nat.le_of_ble_eq_true rfl⟩ rfl rfl (Nat.le_of_ble_eq_true rfl) ⟨by show _ ≤ 1700; omega, by show _ ≤ 10200; omega⟩ dL_acts_129 (fun r9 μ9 ov9 hp => ?_)
        have e1 := hp.1.symm
        have e2 := hp.2.1.symm
        have e3 := hp.2.2.symm
        clear hp
        subst e1 e2 e3
        refine z_topi (y := nI d0) ed0 ?_
        refine z_iadd (pc := 132) C dL_acts_132 ?_
        refine z_topi (y := nI (1 + d0)) (nI_add 1 d0) ?_
        refine z_istore9 (pc := 133) C (by decide) (fun w hw => by cases hw; exact (show ¬ (1 = 2) from by decide)) dL_acts_133 ?_
        refine z_aloadn (i := 0) (pc := 135) C dL_acts_135 rfl rfl ?_
        refine z_callVi (pc := 136) (n := 0) (As := []) (rest := []) C (c_X4_events l E sa (μ := μ) (ov := ov)) gL_acts_X4_events rfl zfV_X4_events ⟨Nat.le_of_ble_eq_true rfl, Nat.le_of_ble_eq_true rfl⟩ rfl (zRec_X4 E) rfl (Nat.le_of_ble_eq_true rfl) ⟨by show _ ≤ 1700; omega, by show _ ≤ 10200; omega⟩ dL_acts_136 (fun r9 μ9 ov9 hp => ?_)
        have e1 := hp.1.symm
        have e2 := hp.2.1.symm
        have e3 := hp.2.2.symm
        clear hp
        subst e1 e2 e3
        refine z_istore10 (pc := 139) C (by decide) (fun w hw => by cases hw; exact (show ¬ (1 = 2) from by decide)) dL_acts_139 ?_
        refine z_aloadn (i := 1) (pc := 141) C dL_acts_141 rfl rfl ?_
        refine z_iconst (v := 2) (pc := 142) C dL_acts_142 (by decide) ?_
        refine z_dup2 (pc := 143) C dL_acts_143 rfl rfl ?_
        refine z_iald (pc := 144) C 38 2 (by decide) rfl rfl (show 2 < 9 from by omega) dL_acts_144 ?_
        refine z_iload (i := 9) (pc := 145) C dL_acts_145 rfl ?_
        refine z_iadd (pc := 147) C dL_acts_147 ?_
        refine z_topi (y := nI (t + (1 + d0))) (by rw [G2]; exact nI_add _ _) ?_
        refine z_iast (pc := 148) C 38 2 (by decide) rfl rfl (show 2 < 9 from by omega) dL_acts_148 ?_
        have q1 : (1 : Int32) ≤ nI (1 + d0) ∧ nI (1 + d0) ≤ 50 := ⟨nI_le (a := 1) (by omega) (by omega), nI_le (b := 50) (by omega) (by decide)⟩
        have q2 : nI (1 + d0) ≤ 500 - μ 63 0 := by rw [X1, show (500 : Int32) = nI 500 from rfl, pk_sub (by omega)]; exact nI_le (by omega) (by omega)
        have H0 : zCI (zu μ 38 2 (nI (t + (1 + d0)))) t c9 nc n := H.c2 rfl rfl rfl rfl rfl rfl rfl rfl
        obtain ⟨c1, hc1, hk⟩ := h.pass (y := nI (t + (1 + d0))) hA (f := 1 + d0) (by omega) rfl
        have q0 : (zu μ 38 2 (nI (t + (1 + d0)))) 63 0 = μ 63 0 := rfl
        refine z_aloadn (i := 0) (pc := 149) C dL_acts_149 rfl rfl ?_
        refine z_iload (i := 9) (pc := 150) C dL_acts_150 rfl ?_
        refine z_callSWi (pc := 152) (n := 2) (As := [.ref (zob E 0), .int (nI (1 + d0))]) (rest := []) C (c_L_pass l hfl E sa (μ := (zu μ 38 2 (nI (t + (1 + d0))))) (ov := ov) (f := nI (1 + d0)) t c9 nc n H0) gL_acts_L_pass rfl zfV_L_pass.2 ⟨Nat.le_of_ble_eq_true rfl, Nat.le_of_ble_eq_true rfl⟩ rfl rfl (Nat.le_of_ble_eq_true rfl) ⟨by show _ ≤ 1700; omega, by show _ ≤ 10200; omega⟩ dL_acts_152 (fun r9 κ ov9 hp => ?_)
        have e : r9 = zpas (1 + d0) (zu μ 38 2 (nI (t + (1 + d0)))) 63 0 ∧ κ = zpas (1 + d0) (zu μ 38 2 (nI (t + (1 + d0)))) ∧ ov9 = ov := by
          rcases hp with ⟨-, -, hp⟩ | ⟨hn, -⟩ | ⟨-, hn, -⟩
          · rw [nI_clamp (by omega)] at hp; exact hp
          · exact absurd q1 hn
          · exact absurd q2 hn
        obtain ⟨e1, e2, e3⟩ := e
        rw [← e2] at hk
        have e1 : r9 = nI (t + (1 + d0)) := e1.trans (by rw [← e2]; exact hk.1.1)
        have e3 := e3.symm
        subst e1 e3
        clear hp e2
        refine z_aloadn (i := 1) (pc := 155) C dL_acts_155 rfl rfl ?_
        refine z_iconst (v := 2) (pc := 156) C dL_acts_156 (by decide) ?_
        refine z_iald (pc := 157) C 38 2 (by decide) rfl rfl (show 2 < 9 from by omega) dL_acts_157 ?_
        refine z_icmp_ne (tgt := 184) (pc := 158) C dL_acts_158 (by decide) (fun c_1 => ?_) (fun c_1 => ?_)
        · exact absurd hk.2.2.2.2.1.2.2.1.symm c_1
        · refine z_aloadn (i := 0) (pc := 161) C dL_acts_161 rfl rfl ?_
          refine z_callVi (pc := 162) (n := 0) (As := []) (rest := []) C (c_X4_day l E sa (μ := κ) (ov := ov)) gL_acts_X4_day rfl zfV_X4_day ⟨Nat.le_of_ble_eq_true rfl, Nat.le_of_ble_eq_true rfl⟩ rfl (zRec_X4 E) rfl (Nat.le_of_ble_eq_true rfl) ⟨by show _ ≤ 1700; omega, by show _ ≤ 10200; omega⟩ dL_acts_162 (fun r9 μ9 ov9 hp => ?_)
          have e1 := hp.1.symm
          have e2 := hp.2.1.symm
          have e3 := hp.2.2.symm
          clear hp
          subst e1 e2 e3
          refine z_aloadn (i := 1) (pc := 165) C dL_acts_165 rfl rfl ?_
          refine z_iconst (v := 2) (pc := 166) C dL_acts_166 (by decide) ?_
          refine z_iald (pc := 167) C 38 2 (by decide) rfl rfl (show 2 < 9 from by omega) dL_acts_167 ?_
          refine z_icmp_ne (tgt := 184) (pc := 168) C dL_acts_168 (by decide) (fun c_2 => ?_) (fun c_2 => ?_)
          · exact absurd (hk.1.1.trans hk.2.2.2.2.1.2.2.1.symm) c_2
          · refine z_aloadn (i := 0) (pc := 171) C dL_acts_171 rfl rfl ?_
            refine z_callVi (pc := 172) (n := 0) (As := []) (rest := []) C (c_X4_events l E sa (μ := κ) (ov := ov)) gL_acts_X4_events rfl zfV_X4_events ⟨Nat.le_of_ble_eq_true rfl, Nat.le_of_ble_eq_true rfl⟩ rfl (zRec_X4 E) rfl (Nat.le_of_ble_eq_true rfl) ⟨by show _ ≤ 1700; omega, by show _ ≤ 10200; omega⟩ dL_acts_172 (fun r9 μ9 ov9 hp => ?_)
            have e1 := hp.1.symm
            have e2 := hp.2.1.symm
            have e3 := hp.2.2.symm
            clear hp
            subst e1 e2 e3
            refine z_iload (i := 10) (pc := 175) C dL_acts_175 rfl ?_
            refine z_icmp_gt (tgt := 184) (pc := 177) C dL_acts_177 (by decide) (fun c_3 => ?_) (fun c_3 => ?_)
            · exact absurd c_3 (by rw [hk.1.2.2.1.1, X3.1]; exact nI_nlt hc1 (by have := X3.2.1; omega))
            · refine z_iconst (v := 1) (pc := 180) C dL_acts_180 (by decide) ?_
              refine z_goto (tgt := 185) (pc := 181) C dL_acts_181 (by decide) ?_
              exact z_zret (pc := 185) C hr hlk (by decide) ⟨rfl, ⟨t + (1 + d0), c1, nc, n, hk⟩, rfl⟩ (by omega) (by omega) dL_acts_185
      refine z_iload (i := 8) (pc := 35) C dL_acts_35 rfl ?_
      refine z_iconst (v := 5) (pc := 37) C dL_acts_37 (by decide) ?_
      refine z_icmp_ge (tgt := 56) (pc := 38) C dL_acts_38 (by decide) (fun c_k => ?_) (fun c_k => ?_)
      · refine z_iload (i := 8) (pc := 56) C dL_acts_56 rfl ?_
        refine z_iconst (v := 5) (pc := 58) C dL_acts_58 (by decide) ?_
        refine z_icmp_ne (tgt := 111) (pc := 59) C dL_acts_59 (by decide) (fun c_l => ?_) (fun c_l => ?_)
        · refine z_iload (i := 8) (pc := 111) C dL_acts_111 rfl ?_
          refine z_bipush (v := 9) (pc := 113) C dL_acts_113 (by decide) ?_
          refine z_icmp_lt (tgt := 124) (pc := 115) C dL_acts_115 (by decide) (fun c_m => ?_) (fun c_m => ?_)
          · exact PS
          · refine z_aloadn (i := 1) (pc := 118) C dL_acts_118 rfl rfl ?_
            refine z_iconst (v := 2) (pc := 119) C dL_acts_119 (by decide) ?_
            refine z_iald (pc := 120) C 38 2 (by decide) rfl rfl (show 2 < 9 from by omega) dL_acts_120 ?_
            refine z_if_ne (tgt := 186) (pc := 121) C dL_acts_121 (by decide) (fun c_t => ?_) (fun c_t => ?_)
            · have ht1 : 1 ≤ t := by rcases Nat.eq_zero_or_pos t with z | z; (exact absurd (by rw [G2, z]; rfl) c_t); exact z
              refine z_iconst (v := 1) (pc := 186) C dL_acts_186 (by decide) ?_
              refine z_iload (i := 7) (pc := 187) C dL_acts_187 rfl ?_
              refine z_aloadn (i := 1) (pc := 189) C dL_acts_189 rfl rfl ?_
              refine z_iconst (v := 2) (pc := 190) C dL_acts_190 (by decide) ?_
              refine z_iald (pc := 191) C 38 2 (by decide) rfl rfl (show 2 < 9 from by omega) dL_acts_191 ?_
              refine z_topi (y := nI t) G2 ?_
              obtain ⟨q0, hq0, eq0⟩ := zlow_k y (k := t) (by omega) (by omega)
              refine z_callSi (pc := 192) (n := 2) (As := [.int (y), .int (nI t)]) (rest := [.int (1)]) C (c_L_low l E sa (μ := μ) (ov := ov) (v := y) (n := nI t) t rfl (by omega) (by omega)) gL_acts_L_low rfl zfV_L_low.2 ⟨Nat.le_of_ble_eq_true rfl, Nat.le_of_ble_eq_true rfl⟩ rfl rfl (Nat.le_of_ble_eq_true rfl) ⟨by show _ ≤ 1700; omega, by show _ ≤ 10200; omega⟩ dL_acts_192 (fun r9 μ9 ov9 hp => ?_)
              have e1 := hp.1.symm
              have e2 := hp.2.1.symm
              have e3 := hp.2.2.symm
              clear hp
              subst e1 e2 e3
              refine z_topi (y := nI q0) eq0 ?_
              refine z_iadd (pc := 195) C dL_acts_195 ?_
              refine z_topi (y := nI (1 + q0)) (nI_add 1 q0) ?_
              refine z_istore9 (pc := 196) C (by decide) (fun w hw => by cases hw; exact (show ¬ (1 = 2) from by decide)) dL_acts_196 ?_
              refine z_aloadn (i := 1) (pc := 198) C dL_acts_198 rfl rfl ?_
              refine z_bipush (v := 8) (pc := 199) C dL_acts_199 (by decide) ?_
              refine z_dup2 (pc := 201) C dL_acts_201 rfl rfl ?_
              refine z_iald (pc := 202) C 38 8 (by decide) rfl rfl (show 8 < 9 from by omega) dL_acts_202 ?_
              refine z_iload (i := 8) (pc := 203) C dL_acts_203 rfl ?_
              refine z_bipush (v := 11) (pc := 205) C dL_acts_205 (by decide) ?_
              refine z_icmp_ne (tgt := 214) (pc := 207) C dL_acts_207 (by decide) (fun c_g => ?_) (fun c_g => ?_)
              · refine z_iconst (v := 0) (pc := 214) C dL_acts_214 (by decide) ?_
                refine z_iadd (pc := 215) C dL_acts_215 ?_
                refine z_iast (pc := 216) C 38 8 (by decide) rfl rfl (show 8 < 9 from by omega) dL_acts_216 ?_
                have hk : zLI (zu μ 38 8 ((μ 38 8) + 0)) t c9 nc n A := h.g (Or.inr (Or.inr rfl))
                have qb : (zu μ 38 8 ((μ 38 8) + 0)) 42 0 = nI B8 := W7.trans eB8
                have qs : (zu μ 38 8 ((μ 38 8) + 0)) 42 1 = nI C8 := W8.trans eC8
                have q1 : (zu μ 38 8 ((μ 38 8) + 0)) 63 1 = nI B8 := eB8
                have q2 : (zu μ 38 8 ((μ 38 8) + 0)) 63 2 = nI C8 := eC8
                obtain ⟨κ, eκ⟩ : ∃ κ, (zu μ 38 8 ((μ 38 8) + 0)) = κ := ⟨_, rfl⟩
                rw [eκ] at hk qb qs q1 q2
                refine z_mem (μ' := κ) eκ ?_
                have fin : ∀ M : zM, zLI M t c9 nc n A → zW p l e (zR 18 497 1700 10200) s m [Value.ref (zob E 0), Value.ref (zad E 38), Value.ref (zad E 39), Value.ref (zad E 40), Value.ref (zad E 41), Value.ref (zad E 42), Value.int x, Value.int y].toArray below meth c E 11 1600 9600 (MQ below (zQi E s.heap.size (fun r μ1 ov1 => r = 1 ∧ (∃ t1 c1 nc1 n1, zLI μ1 t1 c1 nc1 n1 (A + 1)) ∧ ov1 = ov)) [Value.ref (zob E 0), Value.ref (zad E 38), Value.ref (zad E 39), Value.ref (zad E 40), Value.ref (zad E 41), Value.ref (zad E 42), Value.int x, Value.int y].toArray s 1700 10200 (zA E s.heap.size)) 294 [some (.ref (zob E 0)), some (.ref (zad E 38)), some (.ref (zad E 39)), some (.ref (zad E 40)), some (.ref (zad E 41)), some (.ref (zad E 42)), some (.int (x)), some (.int (y)), some (.int (nI k0)), some (.int (nI (1 + q0))), none] [] M ov := by
                  intro M hM
                  refine z_iconst (v := 1) (pc := 294) C dL_acts_294 (by decide) ?_
                  refine z_goto (tgt := 299) (pc := 295) C dL_acts_295 (by decide) ?_
                  exact z_zret (pc := 299) C hr hlk (by decide) ⟨rfl, ⟨t, c9, nc, n, hM.more hA⟩, rfl⟩ (by omega) (by omega) dL_acts_299
                refine z_iload (i := 8) (pc := 217) C dL_acts_217 rfl ?_
                refine z_bipush (v := 11) (pc := 219) C dL_acts_219 (by decide) ?_
                refine z_icmp_ne (tgt := 233) (pc := 221) C dL_acts_221 (by decide) (fun c_9 => ?_) (fun c_9 => ?_)
                · refine z_iload (i := 8) (pc := 233) C dL_acts_233 rfl ?_
                  refine z_bipush (v := 9) (pc := 235) C dL_acts_235 (by decide) ?_
                  refine z_icmp_ne (tgt := 255) (pc := 237) C dL_acts_237 (by decide) (fun c_a => ?_) (fun c_a => ?_)
                  · refine z_iload (i := 8) (pc := 255) C dL_acts_255 rfl ?_
                    refine z_bipush (v := 10) (pc := 257) C dL_acts_257 (by decide) ?_
                    refine z_icmp_ne (tgt := 280) (pc := 259) C dL_acts_259 (by decide) (fun c1 => ?_) (fun c1 => ?_)
                    · refine z_aloadn (i := 0) (pc := 280) C dL_acts_280 rfl rfl ?_
                      refine z_aloadn (i := 1) (pc := 281) C dL_acts_281 rfl rfl ?_
                      refine z_iload (i := 9) (pc := 282) C dL_acts_282 rfl ?_
                      refine z_aload (i := 5) (pc := 284) C dL_acts_284 rfl ?_
                      refine z_iconst (v := 1) (pc := 286) C dL_acts_286 (by decide) ?_
                      refine z_iald (pc := 287) C 42 1 (by decide) rfl rfl (show 1 < 2 from by omega) dL_acts_287 ?_
                      refine z_topi (y := nI C8) qs ?_
                      refine z_callSi (pc := 288) (n := 4) (As := [.ref (zob E 0), .ref (zad E 38), .int (nI (1 + q0)), .int (nI C8)]) (rest := []) C (c_L_isSteady l hfl E sa (μ := κ) (ov := ov) (B := C8) t c9 nc n A (1 + q0) hk (by omega) (by omega) (by omega) q2 hC8 hC9) gL_acts_L_isSteady rfl zfV_L_isSteady.2 ⟨Nat.le_of_ble_eq_true rfl, Nat.le_of_ble_eq_true rfl⟩ rfl rfl (Nat.le_of_ble_eq_true rfl) ⟨by show _ ≤ 1700; omega, by show _ ≤ 10200; omega⟩ dL_acts_288 (fun r9 μ9 ov9 hp => ?_)
                      obtain ⟨e1, e2, e3⟩ := hp
                      have e2 := e2.symm
                      have e3 := e3.symm
                      subst e1 e2 e3
                      refine z_if_eq (tgt := 298) (pc := 291) C dL_acts_291 (by decide) (fun c_f => ?_) (fun c_f => ?_)
                      · exact absurd c_f (by decide)
                      · exact z_widen (by omega) (by omega) (fin _ hk)
                    · refine z_aloadn (i := 0) (pc := 262) C dL_acts_262 rfl rfl ?_
                      refine z_aloadn (i := 1) (pc := 263) C dL_acts_263 rfl rfl ?_
                      refine z_aloadn (i := 2) (pc := 264) C dL_acts_264 rfl rfl ?_
                      refine z_iload (i := 9) (pc := 265) C dL_acts_265 rfl ?_
                      refine z_aload (i := 5) (pc := 267) C dL_acts_267 rfl ?_
                      refine z_iconst (v := 0) (pc := 269) C dL_acts_269 (by decide) ?_
                      refine z_iald (pc := 270) C 42 0 (by decide) rfl rfl (show 0 < 2 from by omega) dL_acts_270 ?_
                      refine z_topi (y := nI B8) qb ?_
                      refine z_callSi (pc := 271) (n := 5) (As := [.ref (zob E 0), .ref (zad E 38), .ref (zad E 39), .int (nI (1 + q0)), .int (nI B8)]) (rest := []) C (c_L_areRings l hfl E sa (μ := κ) (ov := ov) (B := B8) t c9 nc n A (1 + q0) hk (by omega) (by omega) q1 hB8) gL_acts_L_areRings rfl zfV_L_areRings.2 ⟨Nat.le_of_ble_eq_true rfl, Nat.le_of_ble_eq_true rfl⟩ rfl rfl (Nat.le_of_ble_eq_true rfl) ⟨by show _ ≤ 1700; omega, by show _ ≤ 10200; omega⟩ dL_acts_271 (fun r9 μ7 ov9 hp => ?_)
                      obtain ⟨e1, h7, e3⟩ := hp
                      have e3 := e3.symm
                      subst e1 e3
                      refine z_if_eq (tgt := 298) (pc := 274) C dL_acts_274 (by decide) (fun c_e => ?_) (fun c_e => ?_)
                      · exact absurd c_e (by decide)
                      · refine z_goto (tgt := 294) (pc := 277) C dL_acts_277 (by decide) ?_
                        exact z_widen (by omega) (by omega) (fin _ h7)
                  · refine z_aloadn (i := 0) (pc := 240) C dL_acts_240 rfl rfl ?_
                    refine z_aloadn (i := 1) (pc := 241) C dL_acts_241 rfl rfl ?_
                    refine z_aloadn (i := 2) (pc := 242) C dL_acts_242 rfl rfl ?_
                    refine z_aloadn (i := 3) (pc := 243) C dL_acts_243 rfl rfl ?_
                    refine z_iload (i := 9) (pc := 244) C dL_acts_244 rfl ?_
                    refine z_callSi (pc := 246) (n := 5) (As := [.ref (zob E 0), .ref (zad E 38), .ref (zad E 39), .ref (zad E 40), .int (nI (1 + q0))]) (rest := []) C (c_L_areMeasured l hfl E sa (μ := κ) (ov := ov) t c9 nc n A (1 + q0) hk (by omega) (by omega)) gL_acts_L_areMeasured rfl zfV_L_areMeasured.2 ⟨Nat.le_of_ble_eq_true rfl, Nat.le_of_ble_eq_true rfl⟩ rfl rfl (Nat.le_of_ble_eq_true rfl) ⟨by show _ ≤ 1700; omega, by show _ ≤ 10200; omega⟩ dL_acts_246 (fun r9 μ9 ov9 hp => ?_)
                    obtain ⟨e1, e2, e3⟩ := hp
                    have e2 := e2.symm
                    have e3 := e3.symm
                    subst e1 e2 e3
                    refine z_if_eq (tgt := 298) (pc := 249) C dL_acts_249 (by decide) (fun c_d => ?_) (fun c_d => ?_)
                    · exact absurd c_d (by decide)
                    · refine z_goto (tgt := 294) (pc := 252) C dL_acts_252 (by decide) ?_
                      exact z_widen (by omega) (by omega) (fin _ hk)
                · refine z_aloadn (i := 1) (pc := 224) C dL_acts_224 rfl rfl ?_
                  refine z_bipush (v := 8) (pc := 225) C dL_acts_225 (by decide) ?_
                  refine z_iald (pc := 227) C 38 8 (by decide) rfl rfl (show 8 < 9 from by omega) dL_acts_227 ?_
                  refine z_bipush (v := 8) (pc := 228) C dL_acts_228 (by decide) ?_
                  refine z_icmp_gt (tgt := 294) (pc := 230) C dL_acts_230 (by decide) (fun c_8 => ?_) (fun c_8 => ?_)
                  · exact z_widen (by omega) (by omega) (fin _ hk)
                  · refine z_iload (i := 8) (pc := 233) C dL_acts_233 rfl ?_
                    refine z_bipush (v := 9) (pc := 235) C dL_acts_235 (by decide) ?_
                    refine z_icmp_ne (tgt := 255) (pc := 237) C dL_acts_237 (by decide) (fun c_a => ?_) (fun c_a => ?_)
                    · refine z_iload (i := 8) (pc := 255) C dL_acts_255 rfl ?_
                      refine z_bipush (v := 10) (pc := 257) C dL_acts_257 (by decide) ?_
                      refine z_icmp_ne (tgt := 280) (pc := 259) C dL_acts_259 (by decide) (fun c2 => ?_) (fun c2 => ?_)
                      · refine z_aloadn (i := 0) (pc := 280) C dL_acts_280 rfl rfl ?_
                        refine z_aloadn (i := 1) (pc := 281) C dL_acts_281 rfl rfl ?_
                        refine z_iload (i := 9) (pc := 282) C dL_acts_282 rfl ?_
                        refine z_aload (i := 5) (pc := 284) C dL_acts_284 rfl ?_
                        refine z_iconst (v := 1) (pc := 286) C dL_acts_286 (by decide) ?_
                        refine z_iald (pc := 287) C 42 1 (by decide) rfl rfl (show 1 < 2 from by omega) dL_acts_287 ?_
                        refine z_topi (y := nI C8) qs ?_
                        refine z_callSi (pc := 288) (n := 4) (As := [.ref (zob E 0), .ref (zad E 38), .int (nI (1 + q0)), .int (nI C8)]) (rest := []) C (c_L_isSteady l hfl E sa (μ := κ) (ov := ov) (B := C8) t c9 nc n A (1 + q0) hk (by omega) (by omega) (by omega) q2 hC8 hC9) gL_acts_L_isSteady rfl zfV_L_isSteady.2 ⟨Nat.le_of_ble_eq_true rfl, Nat.le_of_ble_eq_true rfl⟩ rfl rfl (Nat.le_of_ble_eq_true rfl) ⟨by show _ ≤ 1700; omega, by show _ ≤ 10200; omega⟩ dL_acts_288 (fun r9 μ9 ov9 hp => ?_)
                        obtain ⟨e1, e2, e3⟩ := hp
                        have e2 := e2.symm
                        have e3 := e3.symm
                        subst e1 e2 e3
                        refine z_if_eq (tgt := 298) (pc := 291) C dL_acts_291 (by decide) (fun c_f => ?_) (fun c_f => ?_)
                        · exact absurd c_f (by decide)
                        · exact z_widen (by omega) (by omega) (fin _ hk)
                      · refine z_aloadn (i := 0) (pc := 262) C dL_acts_262 rfl rfl ?_
                        refine z_aloadn (i := 1) (pc := 263) C dL_acts_263 rfl rfl ?_
                        refine z_aloadn (i := 2) (pc := 264) C dL_acts_264 rfl rfl ?_
                        refine z_iload (i := 9) (pc := 265) C dL_acts_265 rfl ?_
                        refine z_aload (i := 5) (pc := 267) C dL_acts_267 rfl ?_
                        refine z_iconst (v := 0) (pc := 269) C dL_acts_269 (by decide) ?_
                        refine z_iald (pc := 270) C 42 0 (by decide) rfl rfl (show 0 < 2 from by omega) dL_acts_270 ?_
                        refine z_topi (y := nI B8) qb ?_
                        refine z_callSi (pc := 271) (n := 5) (As := [.ref (zob E 0), .ref (zad E 38), .ref (zad E 39), .int (nI (1 + q0)), .int (nI B8)]) (rest := []) C (c_L_areRings l hfl E sa (μ := κ) (ov := ov) (B := B8) t c9 nc n A (1 + q0) hk (by omega) (by omega) q1 hB8) gL_acts_L_areRings rfl zfV_L_areRings.2 ⟨Nat.le_of_ble_eq_true rfl, Nat.le_of_ble_eq_true rfl⟩ rfl rfl (Nat.le_of_ble_eq_true rfl) ⟨by show _ ≤ 1700; omega, by show _ ≤ 10200; omega⟩ dL_acts_271 (fun r9 μ7 ov9 hp => ?_)
                        obtain ⟨e1, h7, e3⟩ := hp
                        have e3 := e3.symm
                        subst e1 e3
                        refine z_if_eq (tgt := 298) (pc := 274) C dL_acts_274 (by decide) (fun c_e => ?_) (fun c_e => ?_)
                        · exact absurd c_e (by decide)
                        · refine z_goto (tgt := 294) (pc := 277) C dL_acts_277 (by decide) ?_
                          exact z_widen (by omega) (by omega) (fin _ h7)
                    · refine z_aloadn (i := 0) (pc := 240) C dL_acts_240 rfl rfl ?_
                      refine z_aloadn (i := 1) (pc := 241) C dL_acts_241 rfl rfl ?_
                      refine z_aloadn (i := 2) (pc := 242) C dL_acts_242 rfl rfl ?_
                      refine z_aloadn (i := 3) (pc := 243) C dL_acts_243 rfl rfl ?_
                      refine z_iload (i := 9) (pc := 244) C dL_acts_244 rfl ?_
                      refine z_callSi (pc := 246) (n := 5) (As := [.ref (zob E 0), .ref (zad E 38), .ref (zad E 39), .ref (zad E 40), .int (nI (1 + q0))]) (rest := []) C (c_L_areMeasured l hfl E sa (μ := κ) (ov := ov) t c9 nc n A (1 + q0) hk (by omega) (by omega)) gL_acts_L_areMeasured rfl zfV_L_areMeasured.2 ⟨Nat.le_of_ble_eq_true rfl, Nat.le_of_ble_eq_true rfl⟩ rfl rfl (Nat.le_of_ble_eq_true rfl) ⟨by show _ ≤ 1700; omega, by show _ ≤ 10200; omega⟩ dL_acts_246 (fun r9 μ9 ov9 hp => ?_)
                      obtain ⟨e1, e2, e3⟩ := hp
                      have e2 := e2.symm
                      have e3 := e3.symm
                      subst e1 e2 e3
                      refine z_if_eq (tgt := 298) (pc := 249) C dL_acts_249 (by decide) (fun c_d => ?_) (fun c_d => ?_)
                      · exact absurd c_d (by decide)
                      · refine z_goto (tgt := 294) (pc := 252) C dL_acts_252 (by decide) ?_
                        exact z_widen (by omega) (by omega) (fin _ hk)
              · refine z_iconst (v := 1) (pc := 210) C dL_acts_210 (by decide) ?_
                refine z_goto (tgt := 215) (pc := 211) C dL_acts_211 (by decide) ?_
                refine z_iadd (pc := 215) C dL_acts_215 ?_
                refine z_iast (pc := 216) C 38 8 (by decide) rfl rfl (show 8 < 9 from by omega) dL_acts_216 ?_
                have hk : zLI (zu μ 38 8 ((μ 38 8) + 1)) t c9 nc n A := h.g (Or.inr (Or.inr rfl))
                have qb : (zu μ 38 8 ((μ 38 8) + 1)) 42 0 = nI B8 := W7.trans eB8
                have qs : (zu μ 38 8 ((μ 38 8) + 1)) 42 1 = nI C8 := W8.trans eC8
                have q1 : (zu μ 38 8 ((μ 38 8) + 1)) 63 1 = nI B8 := eB8
                have q2 : (zu μ 38 8 ((μ 38 8) + 1)) 63 2 = nI C8 := eC8
                obtain ⟨κ, eκ⟩ : ∃ κ, (zu μ 38 8 ((μ 38 8) + 1)) = κ := ⟨_, rfl⟩
                rw [eκ] at hk qb qs q1 q2
                refine z_mem (μ' := κ) eκ ?_
                have fin : ∀ M : zM, zLI M t c9 nc n A → zW p l e (zR 18 497 1700 10200) s m [Value.ref (zob E 0), Value.ref (zad E 38), Value.ref (zad E 39), Value.ref (zad E 40), Value.ref (zad E 41), Value.ref (zad E 42), Value.int x, Value.int y].toArray below meth c E 11 1600 9600 (MQ below (zQi E s.heap.size (fun r μ1 ov1 => r = 1 ∧ (∃ t1 c1 nc1 n1, zLI μ1 t1 c1 nc1 n1 (A + 1)) ∧ ov1 = ov)) [Value.ref (zob E 0), Value.ref (zad E 38), Value.ref (zad E 39), Value.ref (zad E 40), Value.ref (zad E 41), Value.ref (zad E 42), Value.int x, Value.int y].toArray s 1700 10200 (zA E s.heap.size)) 294 [some (.ref (zob E 0)), some (.ref (zad E 38)), some (.ref (zad E 39)), some (.ref (zad E 40)), some (.ref (zad E 41)), some (.ref (zad E 42)), some (.int (x)), some (.int (y)), some (.int (nI k0)), some (.int (nI (1 + q0))), none] [] M ov := by
                  intro M hM
                  refine z_iconst (v := 1) (pc := 294) C dL_acts_294 (by decide) ?_
                  refine z_goto (tgt := 299) (pc := 295) C dL_acts_295 (by decide) ?_
                  exact z_zret (pc := 299) C hr hlk (by decide) ⟨rfl, ⟨t, c9, nc, n, hM.more hA⟩, rfl⟩ (by omega) (by omega) dL_acts_299
                refine z_iload (i := 8) (pc := 217) C dL_acts_217 rfl ?_
                refine z_bipush (v := 11) (pc := 219) C dL_acts_219 (by decide) ?_
                refine z_icmp_ne (tgt := 233) (pc := 221) C dL_acts_221 (by decide) (fun c_9 => ?_) (fun c_9 => ?_)
                · refine z_iload (i := 8) (pc := 233) C dL_acts_233 rfl ?_
                  refine z_bipush (v := 9) (pc := 235) C dL_acts_235 (by decide) ?_
                  refine z_icmp_ne (tgt := 255) (pc := 237) C dL_acts_237 (by decide) (fun c_a => ?_) (fun c_a => ?_)
                  · refine z_iload (i := 8) (pc := 255) C dL_acts_255 rfl ?_
                    refine z_bipush (v := 10) (pc := 257) C dL_acts_257 (by decide) ?_
                    refine z_icmp_ne (tgt := 280) (pc := 259) C dL_acts_259 (by decide) (fun c3 => ?_) (fun c3 => ?_)
                    · refine z_aloadn (i := 0) (pc := 280) C dL_acts_280 rfl rfl ?_
                      refine z_aloadn (i := 1) (pc := 281) C dL_acts_281 rfl rfl ?_
                      refine z_iload (i := 9) (pc := 282) C dL_acts_282 rfl ?_
                      refine z_aload (i := 5) (pc := 284) C dL_acts_284 rfl ?_
                      refine z_iconst (v := 1) (pc := 286) C dL_acts_286 (by decide) ?_
                      refine z_iald (pc := 287) C 42 1 (by decide) rfl rfl (show 1 < 2 from by omega) dL_acts_287 ?_
                      refine z_topi (y := nI C8) qs ?_
                      refine z_callSi (pc := 288) (n := 4) (As := [.ref (zob E 0), .ref (zad E 38), .int (nI (1 + q0)), .int (nI C8)]) (rest := []) C (c_L_isSteady l hfl E sa (μ := κ) (ov := ov) (B := C8) t c9 nc n A (1 + q0) hk (by omega) (by omega) (by omega) q2 hC8 hC9) gL_acts_L_isSteady rfl zfV_L_isSteady.2 ⟨Nat.le_of_ble_eq_true rfl, Nat.le_of_ble_eq_true rfl⟩ rfl rfl (Nat.le_of_ble_eq_true rfl) ⟨by show _ ≤ 1700; omega, by show _ ≤ 10200; omega⟩ dL_acts_288 (fun r9 μ9 ov9 hp => ?_)
                      obtain ⟨e1, e2, e3⟩ := hp
                      have e2 := e2.symm
                      have e3 := e3.symm
                      subst e1 e2 e3
                      refine z_if_eq (tgt := 298) (pc := 291) C dL_acts_291 (by decide) (fun c_f => ?_) (fun c_f => ?_)
                      · exact absurd c_f (by decide)
                      · exact z_widen (by omega) (by omega) (fin _ hk)
                    · refine z_aloadn (i := 0) (pc := 262) C dL_acts_262 rfl rfl ?_
                      refine z_aloadn (i := 1) (pc := 263) C dL_acts_263 rfl rfl ?_
                      refine z_aloadn (i := 2) (pc := 264) C dL_acts_264 rfl rfl ?_
                      refine z_iload (i := 9) (pc := 265) C dL_acts_265 rfl ?_
                      refine z_aload (i := 5) (pc := 267) C dL_acts_267 rfl ?_
                      refine z_iconst (v := 0) (pc := 269) C dL_acts_269 (by decide) ?_
                      refine z_iald (pc := 270) C 42 0 (by decide) rfl rfl (show 0 < 2 from by omega) dL_acts_270 ?_
                      refine z_topi (y := nI B8) qb ?_
                      refine z_callSi (pc := 271) (n := 5) (As := [.ref (zob E 0), .ref (zad E 38), .ref (zad E 39), .int (nI (1 + q0)), .int (nI B8)]) (rest := []) C (c_L_areRings l hfl E sa (μ := κ) (ov := ov) (B := B8) t c9 nc n A (1 + q0) hk (by omega) (by omega) q1 hB8) gL_acts_L_areRings rfl zfV_L_areRings.2 ⟨Nat.le_of_ble_eq_true rfl, Nat.le_of_ble_eq_true rfl⟩ rfl rfl (Nat.le_of_ble_eq_true rfl) ⟨by show _ ≤ 1700; omega, by show _ ≤ 10200; omega⟩ dL_acts_271 (fun r9 μ7 ov9 hp => ?_)
                      obtain ⟨e1, h7, e3⟩ := hp
                      have e3 := e3.symm
                      subst e1 e3
                      refine z_if_eq (tgt := 298) (pc := 274) C dL_acts_274 (by decide) (fun c_e => ?_) (fun c_e => ?_)
                      · exact absurd c_e (by decide)
                      · refine z_goto (tgt := 294) (pc := 277) C dL_acts_277 (by decide) ?_
                        exact z_widen (by omega) (by omega) (fin _ h7)
                  · refine z_aloadn (i := 0) (pc := 240) C dL_acts_240 rfl rfl ?_
                    refine z_aloadn (i := 1) (pc := 241) C dL_acts_241 rfl rfl ?_
                    refine z_aloadn (i := 2) (pc := 242) C dL_acts_242 rfl rfl ?_
                    refine z_aloadn (i := 3) (pc := 243) C dL_acts_243 rfl rfl ?_
                    refine z_iload (i := 9) (pc := 244) C dL_acts_244 rfl ?_
                    refine z_callSi (pc := 246) (n := 5) (As := [.ref (zob E 0), .ref (zad E 38), .ref (zad E 39), .ref (zad E 40), .int (nI (1 + q0))]) (rest := []) C (c_L_areMeasured l hfl E sa (μ := κ) (ov := ov) t c9 nc n A (1 + q0) hk (by omega) (by omega)) gL_acts_L_areMeasured rfl zfV_L_areMeasured.2 ⟨Nat.le_of_ble_eq_true rfl, Nat.le_of_ble_eq_true rfl⟩ rfl rfl (Nat.le_of_ble_eq_true rfl) ⟨by show _ ≤ 1700; omega, by show _ ≤ 10200; omega⟩ dL_acts_246 (fun r9 μ9 ov9 hp => ?_)
                    obtain ⟨e1, e2, e3⟩ := hp
                    have e2 := e2.symm
                    have e3 := e3.symm
                    subst e1 e2 e3
                    refine z_if_eq (tgt := 298) (pc := 249) C dL_acts_249 (by decide) (fun c_d => ?_) (fun c_d => ?_)
                    · exact absurd c_d (by decide)
                    · refine z_goto (tgt := 294) (pc := 252) C dL_acts_252 (by decide) ?_
                      exact z_widen (by omega) (by omega) (fin _ hk)
                · refine z_aloadn (i := 1) (pc := 224) C dL_acts_224 rfl rfl ?_
                  refine z_bipush (v := 8) (pc := 225) C dL_acts_225 (by decide) ?_
                  refine z_iald (pc := 227) C 38 8 (by decide) rfl rfl (show 8 < 9 from by omega) dL_acts_227 ?_
                  refine z_bipush (v := 8) (pc := 228) C dL_acts_228 (by decide) ?_
                  refine z_icmp_gt (tgt := 294) (pc := 230) C dL_acts_230 (by decide) (fun c_8 => ?_) (fun c_8 => ?_)
                  · exact z_widen (by omega) (by omega) (fin _ hk)
                  · refine z_iload (i := 8) (pc := 233) C dL_acts_233 rfl ?_
                    refine z_bipush (v := 9) (pc := 235) C dL_acts_235 (by decide) ?_
                    refine z_icmp_ne (tgt := 255) (pc := 237) C dL_acts_237 (by decide) (fun c_a => ?_) (fun c_a => ?_)
                    · refine z_iload (i := 8) (pc := 255) C dL_acts_255 rfl ?_
                      refine z_bipush (v := 10) (pc := 257) C dL_acts_257 (by decide) ?_
                      refine z_icmp_ne (tgt := 280) (pc := 259) C dL_acts_259 (by decide) (fun c4 => ?_) (fun c4 => ?_)
                      · refine z_aloadn (i := 0) (pc := 280) C dL_acts_280 rfl rfl ?_
                        refine z_aloadn (i := 1) (pc := 281) C dL_acts_281 rfl rfl ?_
                        refine z_iload (i := 9) (pc := 282) C dL_acts_282 rfl ?_
                        refine z_aload (i := 5) (pc := 284) C dL_acts_284 rfl ?_
                        refine z_iconst (v := 1) (pc := 286) C dL_acts_286 (by decide) ?_
                        refine z_iald (pc := 287) C 42 1 (by decide) rfl rfl (show 1 < 2 from by omega) dL_acts_287 ?_
                        refine z_topi (y := nI C8) qs ?_
                        refine z_callSi (pc := 288) (n := 4) (As := [.ref (zob E 0), .ref (zad E 38), .int (nI (1 + q0)), .int (nI C8)]) (rest := []) C (c_L_isSteady l hfl E sa (μ := κ) (ov := ov) (B := C8) t c9 nc n A (1 + q0) hk (by omega) (by omega) (by omega) q2 hC8 hC9) gL_acts_L_isSteady rfl zfV_L_isSteady.2 ⟨Nat.le_of_ble_eq_true rfl, Nat.le_of_ble_eq_true rfl⟩ rfl rfl (Nat.le_of_ble_eq_true rfl) ⟨by show _ ≤ 1700; omega, by show _ ≤ 10200; omega⟩ dL_acts_288 (fun r9 μ9 ov9 hp => ?_)
                        obtain ⟨e1, e2, e3⟩ := hp
                        have e2 := e2.symm
                        have e3 := e3.symm
                        subst e1 e2 e3
                        refine z_if_eq (tgt := 298) (pc := 291) C dL_acts_291 (by decide) (fun c_f => ?_) (fun c_f => ?_)
                        · exact absurd c_f (by decide)
                        · exact z_widen (by omega) (by omega) (fin _ hk)
                      · refine z_aloadn (i := 0) (pc := 262) C dL_acts_262 rfl rfl ?_
                        refine z_aloadn (i := 1) (pc := 263) C dL_acts_263 rfl rfl ?_
                        refine z_aloadn (i := 2) (pc := 264) C dL_acts_264 rfl rfl ?_
                        refine z_iload (i := 9) (pc := 265) C dL_acts_265 rfl ?_
                        refine z_aload (i := 5) (pc := 267) C dL_acts_267 rfl ?_
                        refine z_iconst (v := 0) (pc := 269) C dL_acts_269 (by decide) ?_
                        refine z_iald (pc := 270) C 42 0 (by decide) rfl rfl (show 0 < 2 from by omega) dL_acts_270 ?_
                        refine z_topi (y := nI B8) qb ?_
                        refine z_callSi (pc := 271) (n := 5) (As := [.ref (zob E 0), .ref (zad E 38), .ref (zad E 39), .int (nI (1 + q0)), .int (nI B8)]) (rest := []) C (c_L_areRings l hfl E sa (μ := κ) (ov := ov) (B := B8) t c9 nc n A (1 + q0) hk (by omega) (by omega) q1 hB8) gL_acts_L_areRings rfl zfV_L_areRings.2 ⟨Nat.le_of_ble_eq_true rfl, Nat.le_of_ble_eq_true rfl⟩ rfl rfl (Nat.le_of_ble_eq_true rfl) ⟨by show _ ≤ 1700; omega, by show _ ≤ 10200; omega⟩ dL_acts_271 (fun r9 μ7 ov9 hp => ?_)
                        obtain ⟨e1, h7, e3⟩ := hp
                        have e3 := e3.symm
                        subst e1 e3
                        refine z_if_eq (tgt := 298) (pc := 274) C dL_acts_274 (by decide) (fun c_e => ?_) (fun c_e => ?_)
                        · exact absurd c_e (by decide)
                        · refine z_goto (tgt := 294) (pc := 277) C dL_acts_277 (by decide) ?_
                          exact z_widen (by omega) (by omega) (fin _ h7)
                    · refine z_aloadn (i := 0) (pc := 240) C dL_acts_240 rfl rfl ?_
                      refine z_aloadn (i := 1) (pc := 241) C dL_acts_241 rfl rfl ?_
                      refine z_aloadn (i := 2) (pc := 242) C dL_acts_242 rfl rfl ?_
                      refine z_aloadn (i := 3) (pc := 243) C dL_acts_243 rfl rfl ?_
                      refine z_iload (i := 9) (pc := 244) C dL_acts_244 rfl ?_
                      refine z_callSi (pc := 246) (n := 5) (As := [.ref (zob E 0), .ref (zad E 38), .ref (zad E 39), .ref (zad E 40), .int (nI (1 + q0))]) (rest := []) C (c_L_areMeasured l hfl E sa (μ := κ) (ov := ov) t c9 nc n A (1 + q0) hk (by omega) (by omega)) gL_acts_L_areMeasured rfl zfV_L_areMeasured.2 ⟨Nat.le_of_ble_eq_true rfl, Nat.le_of_ble_eq_true rfl⟩ rfl rfl (Nat.le_of_ble_eq_true rfl) ⟨by show _ ≤ 1700; omega, by show _ ≤ 10200; omega⟩ dL_acts_246 (fun r9 μ9 ov9 hp => ?_)
                      obtain ⟨e1, e2, e3⟩ := hp
                      have e2 := e2.symm
                      have e3 := e3.symm
                      subst e1 e2 e3
                      refine z_if_eq (tgt := 298) (pc := 249) C dL_acts_249 (by decide) (fun c_d => ?_) (fun c_d => ?_)
                      · exact absurd c_d (by decide)
                      · refine z_goto (tgt := 294) (pc := 252) C dL_acts_252 (by decide) ?_
                        exact z_widen (by omega) (by omega) (fin _ hk)
            · exact PS
        · refine z_aload (i := 5) (pc := 62) C dL_acts_62 rfl ?_
          refine z_iconst (v := 0) (pc := 64) C dL_acts_64 (by decide) ?_
          refine z_iload (i := 7) (pc := 65) C dL_acts_65 rfl ?_
          refine z_sipush (v := 500) (pc := 67) C dL_acts_67 (by decide) ?_
          obtain ⟨b0, hb0, eb0⟩ := zlow_k y (k := 500) (by omega) (by omega)
          refine z_callSi (pc := 70) (n := 2) (As := [.int (y), .int (500)]) (rest := [.int (0), .ref (zad E 42)]) C (c_L_low l E sa (μ := μ) (ov := ov) (v := y) (n := 500) 500 rfl (by omega) (by omega)) gL_acts_L_low rfl zfV_L_low.2 ⟨Nat.le_of_ble_eq_true rfl, Nat.le_of_ble_eq_true rfl⟩ rfl rfl (Nat.le_of_ble_eq_true rfl) ⟨by show _ ≤ 1700; omega, by show _ ≤ 10200; omega⟩ dL_acts_70 (fun r9 μ9 ov9 hp => ?_)
          have e1 := hp.1.symm
          have e2 := hp.2.1.symm
          have e3 := hp.2.2.symm
          clear hp
          subst e1 e2 e3
          refine z_topi (y := nI b0) eb0 ?_
          refine z_iast (pc := 73) C 42 0 (by decide) rfl rfl (show 0 < 2 from by omega) dL_acts_73 ?_
          refine z_aload (i := 5) (pc := 74) C dL_acts_74 rfl ?_
          refine z_iconst (v := 1) (pc := 76) C dL_acts_76 (by decide) ?_
          refine z_iconst (v := 1) (pc := 77) C dL_acts_77 (by decide) ?_
          refine z_iload (i := 7) (pc := 78) C dL_acts_78 rfl ?_
          refine z_bipush (v := 9) (pc := 80) C dL_acts_80 (by decide) ?_
          refine z_ishr (pc := 82) C dL_acts_82 ?_
          refine z_bipush (v := 100) (pc := 83) C dL_acts_83 (by decide) ?_
          obtain ⟨b1, hb1, eb1⟩ := zlow_k (y >>> (9 &&& 31)) (k := 100) (by omega) (by omega)
          refine z_callSi (pc := 85) (n := 2) (As := [.int (y >>> (9 &&& 31)), .int (100)]) (rest := [.int (1), .int (1), .ref (zad E 42)]) C (c_L_low l E sa (μ := (zu μ 42 0 (nI b0))) (ov := ov) (v := y >>> (9 &&& 31)) (n := 100) 100 rfl (by omega) (by omega)) gL_acts_L_low rfl zfV_L_low.2 ⟨Nat.le_of_ble_eq_true rfl, Nat.le_of_ble_eq_true rfl⟩ rfl rfl (Nat.le_of_ble_eq_true rfl) ⟨by show _ ≤ 1700; omega, by show _ ≤ 10200; omega⟩ dL_acts_85 (fun r9 μ9 ov9 hp => ?_)
          have e1 := hp.1.symm
          have e2 := hp.2.1.symm
          have e3 := hp.2.2.symm
          clear hp
          subst e1 e2 e3
          refine z_topi (y := nI b1) eb1 ?_
          refine z_iadd (pc := 88) C dL_acts_88 ?_
          refine z_topi (y := nI (1 + b1)) (nI_add 1 b1) ?_
          refine z_iast (pc := 89) C 42 1 (by decide) rfl rfl (show 1 < 2 from by omega) dL_acts_89 ?_
          refine z_aloadn (i := 0) (pc := 90) C dL_acts_90 rfl rfl ?_
          refine z_aload (i := 5) (pc := 91) C dL_acts_91 rfl ?_
          refine z_iconst (v := 0) (pc := 93) C dL_acts_93 (by decide) ?_
          refine z_iald (pc := 94) C 42 0 (by decide) rfl rfl (show 0 < 2 from by omega) dL_acts_94 ?_
          refine z_topi (y := nI b0) rfl ?_
          refine z_aload (i := 5) (pc := 95) C dL_acts_95 rfl ?_
          refine z_iconst (v := 1) (pc := 97) C dL_acts_97 (by decide) ?_
          refine z_iald (pc := 98) C 42 1 (by decide) rfl rfl (show 1 < 2 from by omega) dL_acts_98 ?_
          refine z_topi (y := nI (1 + b1)) rfl ?_
          refine z_callSWi (pc := 99) (n := 3) (As := [.ref (zob E 0), .int (nI b0), .int (nI (1 + b1))]) (rest := []) C (c_L_bounds l hfl E sa (μ := (zu (zu μ 42 0 (nI b0)) 42 1 (nI (1 + b1)))) (ov := ov) (a := nI b0) (b := nI (1 + b1)) t c9 nc n (H.c2 rfl rfl rfl rfl rfl rfl rfl rfl)) gL_acts_L_bounds rfl zfV_L_bounds.2 ⟨Nat.le_of_ble_eq_true rfl, Nat.le_of_ble_eq_true rfl⟩ rfl rfl (Nat.le_of_ble_eq_true rfl) ⟨by show _ ≤ 1700; omega, by show _ ≤ 10200; omega⟩ dL_acts_99 (fun r9 μ9 ov9 hp => ?_)
          have e : r9 = 0 ∧ μ9 = zu (zu (zu (zu μ 42 0 (nI b0)) 42 1 (nI (1 + b1))) 63 1 (nI b0)) 63 2 (nI (1 + b1)) ∧ ov9 = ov := by
            rcases hp with ⟨z1, -, z2⟩ | ⟨hn, -⟩
            · exact ⟨z1, z2⟩
            · exact absurd ⟨⟨nI_pos' (by omega), nI_le (b := 499) (by omega) (by decide)⟩, nI_le (a := 1) (by omega) (by omega), nI_le (b := 1000) (by omega) (by decide)⟩ hn
          obtain ⟨e1, e2, e3⟩ := e
          have hk := h.bounds (B := b0) (C := 1 + b1) hA (by omega) (by omega) (by omega)
          rw [← e2] at hk
          have e3 := e3.symm
          subst e1 e3
          clear hp e2
          refine z_if_ne (tgt := 109) (pc := 102) C dL_acts_102 (by decide) (fun c_h => ?_) (fun c_h => ?_)
          · exact absurd rfl c_h
          · refine z_iconst (v := 1) (pc := 105) C dL_acts_105 (by decide) ?_
            refine z_goto (tgt := 110) (pc := 106) C dL_acts_106 (by decide) ?_
            exact z_zret (pc := 110) C hr hlk (by decide) ⟨rfl, ⟨t, c9, nc, n, hk⟩, rfl⟩ (by omega) (by omega) dL_acts_110
      · refine z_aloadn (i := 0) (pc := 41) C dL_acts_41 rfl rfl ?_
        refine z_aloadn (i := 1) (pc := 42) C dL_acts_42 rfl rfl ?_
        refine z_aloadn (i := 3) (pc := 43) C dL_acts_43 rfl rfl ?_
        refine z_aload (i := 4) (pc := 44) C dL_acts_44 rfl ?_
        refine z_iload (i := 6) (pc := 46) C dL_acts_46 rfl ?_
        refine z_iconst (v := 4) (pc := 48) C dL_acts_48 (by decide) ?_
        refine z_ishr (pc := 49) C dL_acts_49 ?_
        refine z_iload (i := 7) (pc := 50) C dL_acts_50 rfl ?_
        refine z_callSi (pc := 52) (n := 6) (As := [.ref (zob E 0), .ref (zad E 38), .ref (zad E 40), .ref (zad E 41), .int (x >>> (4 &&& 31)), .int (y)]) (rest := []) C (c_L_sets l hfl E sa (μ := μ) (ov := ov) (x := x >>> (4 &&& 31)) (y := y) t c9 nc n A h hA hn2) gL_acts_L_sets rfl zfV_L_sets.2 ⟨Nat.le_of_ble_eq_true rfl, Nat.le_of_ble_eq_true rfl⟩ rfl rfl (Nat.le_of_ble_eq_true rfl) ⟨by show _ ≤ 1700; omega, by show _ ≤ 10200; omega⟩ dL_acts_52 (fun r9 μ9 ov9 hp => ?_)
        obtain ⟨e1, ⟨c1, hk⟩, e3⟩ := hp
        have e3 := e3.symm
        subst e1 e3
        exact z_zret (pc := 55) C hr hlk (by decide) ⟨rfl, ⟨t, c1, nc, n, hk⟩, rfl⟩ (by omega) (by omega) dL_acts_55
    · exact MK
