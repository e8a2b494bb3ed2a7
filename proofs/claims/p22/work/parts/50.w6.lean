set_option maxHeartbeats 4000000 in
set_option maxRecDepth 100000 in
theorem c_L_makes (l : Launch) (hfl : l.stackTraces = false) (E : zE) (sa : Nat → Nat) {μ : zM} {ov : Nat → Int64} {x y : Int32} (t c9 nc n A : Nat) (h : zLI μ t c9 nc n A) (hA : A < 60) : zMi l E sa yL_makes wsL_makes 8 137 6 36 [.ref (zob E 0), .ref (zad E 38), .ref (zad E 39), .int x, .int y] μ ov (fun r μ1 ov1 => r = 1 ∧ (∃ nc1 n1, zLI μ1 t c9 nc1 n1 (A + 1)) ∧ ov1 = ov) := by
  refine z_ofMi (cc := cL_makes) (nL := 8) (ret := (some .boolean)) (own := RL) zfp_L_makes rfl (by simp [Value.category]) (Nat.le_of_ble_eq_true rfl) rfl ?_
  intro p e s m below meth c C hr hlk
  show zW p l e (zR 8 137 6 36) s m [Value.ref (zob E 0), Value.ref (zad E 38), Value.ref (zad E 39), Value.int x, Value.int y].toArray below meth c E 8 0 0 (MQ below (zQi E s.heap.size (fun r μ1 ov1 => r = 1 ∧ (∃ nc1 n1, zLI μ1 t c9 nc1 n1 (A + 1)) ∧ ov1 = ov)) [Value.ref (zob E 0), Value.ref (zad E 38), Value.ref (zad E 39), Value.int x, Value.int y].toArray s 6 36 (zA E s.heap.size)) 0 [some (.ref (zob E 0)), some (.ref (zad E 38)), some (.ref (zad E 39)), some (.int (x)), some (.int (y)), none, none, none] [] μ ov
  obtain ⟨H, hL, hS, hW, hG, hK, ht6, hA60⟩ := id h
  obtain ⟨X1, X2, X3, X4, X5, X6, X7, X8, X9⟩ := id H
  obtain ⟨G0, G1, G2, G3⟩ := id hG
  obtain ⟨k9, K1, K2, K3, K4, K5⟩ := id hK
  have mkc : zW p l e (zR 8 137 6 36) s m [Value.ref (zob E 0), Value.ref (zad E 38), Value.ref (zad E 39), Value.int x, Value.int y].toArray below meth c E 8 0 0 (MQ below (zQi E s.heap.size (fun r μ1 ov1 => r = 1 ∧ (∃ nc1 n1, zLI μ1 t c9 nc1 n1 (A + 1)) ∧ ov1 = ov)) [Value.ref (zob E 0), Value.ref (zad E 38), Value.ref (zad E 39), Value.int x, Value.int y].toArray s 6 36 (zA E s.heap.size)) 15 [some (.ref (zob E 0)), some (.ref (zad E 38)), some (.ref (zad E 39)), some (.int (x)), some (.int (y)), none, none, none] [] μ ov := by
    refine z_iload (i := 4) (pc := 15) C dL_makes_15 rfl ?_
    refine z_bipush (v := 81) (pc := 17) C dL_makes_17 (by decide) ?_
    obtain ⟨a0, ha0, ea0⟩ := zlow_k y (k := 81) (by omega) (by omega)
    refine z_callSi (pc := 19) (n := 2) (As := [.int (y), .int (81)]) (rest := []) C (c_L_low l E sa (μ := μ) (ov := ov) (v := y) (n := 81) 81 rfl (by omega) (by omega)) gL_makes_L_low rfl zfV_L_low.2 ⟨Nat.le_of_ble_eq_true rfl, Nat.le_of_ble_eq_true rfl⟩ rfl rfl (Nat.le_of_ble_eq_true rfl) ⟨by show _ ≤ 6; omega, by show _ ≤ 36; omega⟩ dL_makes_19 (fun r9 μ9 ov9 hp => ?_)
    have e1 := hp.1.symm
    have e2 := hp.2.1.symm
    have e3 := hp.2.2.symm
    clear hp
    subst e1 e2 e3
    refine z_topi (y := nI a0) ea0 ?_
    refine z_bipush (v := 40) (pc := 22) C dL_makes_22 (by decide) ?_
    refine z_isub (pc := 24) C dL_makes_24 ?_
    refine z_istore5 (pc := 25) C (by decide) (fun w hw => by cases hw; exact (show ¬ (1 = 2) from by decide)) dL_makes_25 ?_
    refine z_iload (i := 4) (pc := 27) C dL_makes_27 rfl ?_
    refine z_bipush (v := 7) (pc := 29) C dL_makes_29 (by decide) ?_
    refine z_ishr (pc := 31) C dL_makes_31 ?_
    refine z_sipush (v := 5001) (pc := 32) C dL_makes_32 (by decide) ?_
    obtain ⟨b0, hb0, eb0⟩ := zlow_k (y >>> (7 &&& 31)) (k := 5001) (by omega) (by omega)
    refine z_callSi (pc := 35) (n := 2) (As := [.int (y >>> (7 &&& 31)), .int (5001)]) (rest := []) C (c_L_low l E sa (μ := μ) (ov := ov) (v := y >>> (7 &&& 31)) (n := 5001) 5001 rfl (by omega) (by omega)) gL_makes_L_low rfl zfV_L_low.2 ⟨Nat.le_of_ble_eq_true rfl, Nat.le_of_ble_eq_true rfl⟩ rfl rfl (Nat.le_of_ble_eq_true rfl) ⟨by show _ ≤ 6; omega, by show _ ≤ 36; omega⟩ dL_makes_35 (fun r9 μ9 ov9 hp => ?_)
    have e1 := hp.1.symm
    have e2 := hp.2.1.symm
    have e3 := hp.2.2.symm
    clear hp
    subst e1 e2 e3
    refine z_topi (y := nI b0) eb0 ?_
    refine z_istore6 (pc := 38) C (by decide) (fun w hw => by cases hw; exact (show ¬ (1 = 2) from by decide)) dL_makes_38 ?_
    have hra : zbn (nI a0 - 40) 40 := by unfold zbn; rw [show (40 : Int32) = nI 40 from rfl, pk_sub_toInt (by omega) (by decide)]; omega
    have hrb : zbn (nI b0) 5000 := by unfold zbn; rw [nI_toInt (by omega)]; omega
    have rg1 : ((-500 : Int32) ≤ nI a0 - 40 ∧ nI a0 - 40 ≤ 500) ∧ (0 : Int32) ≤ nI b0 ∧ nI b0 ≤ 5000 := by
      unfold zbn at hra hrb
      rw [zle2, zle2, zle2, zle2, show (-500 : Int32).toInt = -500 from by decide, show (500 : Int32).toInt = 500 from rfl, show (0 : Int32).toInt = 0 from rfl, show (5000 : Int32).toInt = 5000 from rfl]
      rw [nI_toInt (by omega)] at hrb
      rw [nI_toInt (by omega)]
      omega
    by_cases hc6 : nc = 6
    · refine z_aloadn (i := 0) (pc := 40) C dL_makes_40 rfl rfl ?_
      refine z_iload (i := 5) (pc := 41) C dL_makes_41 rfl ?_
      refine z_iload (i := 6) (pc := 43) C dL_makes_43 rfl ?_
      refine z_callSWi (pc := 45) (n := 3) (As := [.ref (zob E 0), .int ((nI a0) - 40), .int (nI b0)]) (rest := []) C (c_L_clock l hfl E sa (μ := μ) (ov := ov) (a := nI a0 - 40) (b := nI b0) t c9 nc n H) gL_makes_L_clock rfl zfV_L_clock.2 ⟨Nat.le_of_ble_eq_true rfl, Nat.le_of_ble_eq_true rfl⟩ rfl rfl (Nat.le_of_ble_eq_true rfl) ⟨by show _ ≤ 6; omega, by show _ ≤ 36; omega⟩ dL_makes_45 (fun r9 μ9 ov9 hp => ?_)
      have e : r9 = (-1000003) ∧ μ9 = μ ∧ ov9 = ov := by
        rcases hp with ⟨-, hn, -⟩ | ⟨hn, -⟩ | ⟨-, -, hp⟩
        · exact absurd hn (by omega)
        · exact absurd rg1 hn
        · exact hp
      obtain ⟨e1, e2, e3⟩ := e
      have e2 := e2.symm
      have e3 := e3.symm
      subst e1 e2 e3
      clear hp
      refine z_istore7 (pc := 48) C (by decide) (fun w hw => by cases hw; exact (show ¬ (1 = 2) from by decide)) dL_makes_48 ?_
      refine z_aloadn (i := 1) (pc := 50) C dL_makes_50 rfl rfl ?_
      refine z_iconst (v := 0) (pc := 51) C dL_makes_51 (by decide) ?_
      refine z_iald (pc := 52) C 38 0 (by decide) rfl rfl (show 0 < 9 from by omega) dL_makes_52 ?_
      refine z_bipush (v := 6) (pc := 53) C dL_makes_53 (by decide) ?_
      refine z_icmp_ne (tgt := 71) (pc := 55) C dL_makes_55 (by decide) (fun c_1 => ?_) (fun c_1 => ?_)
      · exact absurd (by rw [G0, hc6]; rfl) c_1
      · refine z_iload (i := 7) (pc := 58) C dL_makes_58 rfl ?_
        refine z_ldc (v := (-1000003)) (pc := 60) C dL_makes_60 (C.1.2.2.2.2 (.constant RL 21 (-1000003)) (by decide +kernel)) ?_
        refine z_icmp_ne (tgt := 69) (pc := 62) C dL_makes_62 (by decide) (fun c_2 => ?_) (fun c_2 => ?_)
        · exact absurd rfl c_2
        · refine z_iconst (v := 1) (pc := 65) C dL_makes_65 (by decide) ?_
          refine z_goto (tgt := 70) (pc := 66) C dL_makes_66 (by decide) ?_
          exact z_zret (pc := 70) C hr hlk (by decide) ⟨rfl, ⟨nc, n, h.more hA⟩, rfl⟩ (by omega) (by omega) dL_makes_70
    · have hc5 : nc < 6 := by omega
      refine z_aloadn (i := 0) (pc := 40) C dL_makes_40 rfl rfl ?_
      refine z_iload (i := 5) (pc := 41) C dL_makes_41 rfl ?_
      refine z_iload (i := 6) (pc := 43) C dL_makes_43 rfl ?_
      refine z_callSWi (pc := 45) (n := 3) (As := [.ref (zob E 0), .int ((nI a0) - 40), .int (nI b0)]) (rest := []) C (c_L_clock l hfl E sa (μ := μ) (ov := ov) (a := nI a0 - 40) (b := nI b0) t c9 nc n H) gL_makes_L_clock rfl zfV_L_clock.2 ⟨Nat.le_of_ble_eq_true rfl, Nat.le_of_ble_eq_true rfl⟩ rfl rfl (Nat.le_of_ble_eq_true rfl) ⟨by show _ ≤ 6; omega, by show _ ≤ 36; omega⟩ dL_makes_45 (fun r9 μ9 ov9 hp => ?_)
      have e : r9 = (nI nc) ∧ μ9 = (zu (zu (zu (zu μ 2 nc (nI a0 - 40)) 5 nc (nI b0)) 4 nc 1) 63 4 (nI (nc + 1))) ∧ ov9 = ov := by
        rcases hp with ⟨-, -, hp⟩ | ⟨hn, -⟩ | ⟨-, hn, -⟩
        · exact hp
        · exact absurd rg1 hn
        · exact absurd hc5 hn
      obtain ⟨e1, e2, e3⟩ := e
      have e2 := e2.symm
      have e3 := e3.symm
      subst e1 e2 e3
      clear hp
      refine z_istore7 (pc := 48) C (by decide) (fun w hw => by cases hw; exact (show ¬ (1 = 2) from by decide)) dL_makes_48 ?_
      refine z_aloadn (i := 1) (pc := 50) C dL_makes_50 rfl rfl ?_
      refine z_iconst (v := 0) (pc := 51) C dL_makes_51 (by decide) ?_
      refine z_iald (pc := 52) C 38 0 (by decide) rfl rfl (show 0 < 9 from by omega) dL_makes_52 ?_
      refine z_bipush (v := 6) (pc := 53) C dL_makes_53 (by decide) ?_
      refine z_icmp_ne (tgt := 71) (pc := 55) C dL_makes_55 (by decide) (fun c_1 => ?_) (fun c_1 => ?_)
      · refine z_aloadn (i := 1) (pc := 71) C dL_makes_71 rfl rfl ?_
        refine z_iconst (v := 0) (pc := 72) C dL_makes_72 (by decide) ?_
        refine z_dup2 (pc := 73) C dL_makes_73 rfl rfl ?_
        refine z_iald (pc := 74) C 38 0 (by decide) rfl rfl (show 0 < 9 from by omega) dL_makes_74 ?_
        refine z_iconst (v := 1) (pc := 75) C dL_makes_75 (by decide) ?_
        refine z_iadd (pc := 76) C dL_makes_76 ?_
        refine z_iast (pc := 77) C 38 0 (by decide) rfl rfl (show 0 < 9 from by omega) dL_makes_77 ?_
        have hk : zLI (zu (zu (zu (zu (zu μ 2 nc (nI a0 - 40)) 5 nc (nI b0)) 4 nc 1) 63 4 (nI (nc + 1))) 38 0 (((zu (zu (zu (zu μ 2 nc (nI a0 - 40)) 5 nc (nI b0)) 4 nc 1) 63 4 (nI (nc + 1))) 38 0) + 1)) t c9 (nc + 1) n (A + 1) := h.clock hA hc5 hra hrb (by show μ 38 0 + 1 = _; rw [G0]; exact nI_1 nc)
        have q6 : (zu (zu (zu (zu (zu μ 2 nc (nI a0 - 40)) 5 nc (nI b0)) 4 nc 1) 63 4 (nI (nc + 1))) 38 0 (((zu (zu (zu (zu μ 2 nc (nI a0 - 40)) 5 nc (nI b0)) 4 nc 1) 63 4 (nI (nc + 1))) 38 0) + 1)) 6 nc = 0 := h.2.2.2.2.2.2.2.2 nc (Nat.le_refl _)
        have q2 : (zu (zu (zu (zu (zu μ 2 nc (nI a0 - 40)) 5 nc (nI b0)) 4 nc 1) 63 4 (nI (nc + 1))) 38 0 (((zu (zu (zu (zu μ 2 nc (nI a0 - 40)) 5 nc (nI b0)) 4 nc 1) 63 4 (nI (nc + 1))) 38 0) + 1)) 2 nc = nI a0 - 40 := upd_s _ _ _
        have q5 : (zu (zu (zu (zu (zu μ 2 nc (nI a0 - 40)) 5 nc (nI b0)) 4 nc 1) 63 4 (nI (nc + 1))) 38 0 (((zu (zu (zu (zu μ 2 nc (nI a0 - 40)) 5 nc (nI b0)) 4 nc 1) 63 4 (nI (nc + 1))) 38 0) + 1)) 5 nc = nI b0 := upd_s _ _ _
        have q38 : (zu (zu (zu (zu (zu μ 2 nc (nI a0 - 40)) 5 nc (nI b0)) 4 nc 1) 63 4 (nI (nc + 1))) 38 0 (((zu (zu (zu (zu μ 2 nc (nI a0 - 40)) 5 nc (nI b0)) 4 nc 1) 63 4 (nI (nc + 1))) 38 0) + 1)) 38 0 = nI (nc + 1) := hk.2.2.2.2.1.1
        obtain ⟨κ, eκ⟩ : ∃ κ, (zu (zu (zu (zu (zu μ 2 nc (nI a0 - 40)) 5 nc (nI b0)) 4 nc 1) 63 4 (nI (nc + 1))) 38 0 (((zu (zu (zu (zu μ 2 nc (nI a0 - 40)) 5 nc (nI b0)) 4 nc 1) 63 4 (nI (nc + 1))) 38 0) + 1)) = κ := ⟨_, rfl⟩
        rw [eκ] at hk q6 q2 q5 q38
        refine z_mem (μ' := κ) eκ ?_
        refine z_iload (i := 7) (pc := 78) C dL_makes_78 rfl ?_
        refine z_aloadn (i := 1) (pc := 80) C dL_makes_80 rfl rfl ?_
        refine z_iconst (v := 0) (pc := 81) C dL_makes_81 (by decide) ?_
        refine z_iald (pc := 82) C 38 0 (by decide) rfl rfl (show 0 < 9 from by omega) dL_makes_82 ?_
        refine z_topi (y := nI (nc + 1)) q38 ?_
        refine z_iconst (v := 1) (pc := 83) C dL_makes_83 (by decide) ?_
        refine z_isub (pc := 84) C dL_makes_84 ?_
        refine z_topi (y := nI nc) (nI_pred nc) ?_
        refine z_icmp_ne (tgt := 126) (pc := 85) C dL_makes_85 (by decide) (fun c_3 => ?_) (fun c_3 => ?_)
        · exact absurd rfl c_3
        · refine z_aloadn (i := 0) (pc := 88) C dL_makes_88 rfl rfl ?_
          refine z_iload (i := 7) (pc := 89) C dL_makes_89 rfl ?_
          refine z_iconst (v := 0) (pc := 91) C dL_makes_91 (by decide) ?_
          refine z_callSWi (pc := 92) (n := 3) (As := [.ref (zob E 0), .int ((nI nc)), .int (0)]) (rest := []) C (c_L_of l hfl E sa (μ := κ) (ov := ov) (i := nI nc) (w := 0) t c9 (nc + 1) n hk.1) gL_makes_L_of rfl zfV_L_of.2 ⟨Nat.le_of_ble_eq_true rfl, Nat.le_of_ble_eq_true rfl⟩ rfl rfl (Nat.le_of_ble_eq_true rfl) ⟨by show _ ≤ 6; omega, by show _ ≤ 36; omega⟩ dL_makes_92 (fun r9 μ9 ov9 hp => ?_)
          have e : r9 = 0 ∧ μ9 = κ ∧ ov9 = ov := by
            rcases hp with ⟨-, -, hp⟩ | ⟨hn, -⟩ | ⟨-, hn, -⟩
            · rw [nI_clamp (by omega), if_pos rfl, q6] at hp
              exact hp
            · exact absurd ⟨nI_pos' (by omega), by rw [hk.1.2.2.2.1]; exact nI_lt (by omega) (by omega)⟩ hn
            · exact absurd (by decide) hn
          obtain ⟨e1, e2, e3⟩ := e
          have e2 := e2.symm
          have e3 := e3.symm
          subst e1 e2 e3
          clear hp
          refine z_if_ne (tgt := 126) (pc := 95) C dL_makes_95 (by decide) (fun c_4 => ?_) (fun c_4 => ?_)
          · exact absurd rfl c_4
          · refine z_aloadn (i := 0) (pc := 98) C dL_makes_98 rfl rfl ?_
            refine z_iload (i := 7) (pc := 99) C dL_makes_99 rfl ?_
            refine z_iconst (v := 1) (pc := 101) C dL_makes_101 (by decide) ?_
            refine z_callSWi (pc := 102) (n := 3) (As := [.ref (zob E 0), .int ((nI nc)), .int (1)]) (rest := []) C (c_L_of l hfl E sa (μ := κ) (ov := ov) (i := nI nc) (w := 1) t c9 (nc + 1) n hk.1) gL_makes_L_of rfl zfV_L_of.2 ⟨Nat.le_of_ble_eq_true rfl, Nat.le_of_ble_eq_true rfl⟩ rfl rfl (Nat.le_of_ble_eq_true rfl) ⟨by show _ ≤ 6; omega, by show _ ≤ 36; omega⟩ dL_makes_102 (fun r9 μ9 ov9 hp => ?_)
            have e : r9 = (nI a0 - 40) ∧ μ9 = κ ∧ ov9 = ov := by
              rcases hp with ⟨-, -, hp⟩ | ⟨hn, -⟩ | ⟨-, hn, -⟩
              · rw [nI_clamp (by omega), if_neg (by decide), if_pos rfl, q2] at hp
                exact hp
              · exact absurd ⟨nI_pos' (by omega), by rw [hk.1.2.2.2.1]; exact nI_lt (by omega) (by omega)⟩ hn
              · exact absurd (by decide) hn
            obtain ⟨e1, e2, e3⟩ := e
            have e2 := e2.symm
            have e3 := e3.symm
            subst e1 e2 e3
            clear hp
            refine z_iload (i := 5) (pc := 105) C dL_makes_105 rfl ?_
            refine z_icmp_ne (tgt := 126) (pc := 107) C dL_makes_107 (by decide) (fun c_5 => ?_) (fun c_5 => ?_)
            · exact absurd rfl c_5
            · refine z_aloadn (i := 0) (pc := 110) C dL_makes_110 rfl rfl ?_
              refine z_iload (i := 7) (pc := 111) C dL_makes_111 rfl ?_
              refine z_iconst (v := 2) (pc := 113) C dL_makes_113 (by decide) ?_
              refine z_callSWi (pc := 114) (n := 3) (As := [.ref (zob E 0), .int ((nI nc)), .int (2)]) (rest := []) C (c_L_of l hfl E sa (μ := κ) (ov := ov) (i := nI nc) (w := 2) t c9 (nc + 1) n hk.1) gL_makes_L_of rfl zfV_L_of.2 ⟨Nat.le_of_ble_eq_true rfl, Nat.le_of_ble_eq_true rfl⟩ rfl rfl (Nat.le_of_ble_eq_true rfl) ⟨by show _ ≤ 6; omega, by show _ ≤ 36; omega⟩ dL_makes_114 (fun r9 μ9 ov9 hp => ?_)
              have e : r9 = (nI b0) ∧ μ9 = κ ∧ ov9 = ov := by
                rcases hp with ⟨-, -, hp⟩ | ⟨hn, -⟩ | ⟨-, hn, -⟩
                · rw [nI_clamp (by omega), if_neg (by decide), if_neg (by decide), q5] at hp
                  exact hp
                · exact absurd ⟨nI_pos' (by omega), by rw [hk.1.2.2.2.1]; exact nI_lt (by omega) (by omega)⟩ hn
                · exact absurd (by decide) hn
              obtain ⟨e1, e2, e3⟩ := e
              have e2 := e2.symm
              have e3 := e3.symm
              subst e1 e2 e3
              clear hp
              refine z_iload (i := 6) (pc := 117) C dL_makes_117 rfl ?_
              refine z_icmp_ne (tgt := 126) (pc := 119) C dL_makes_119 (by decide) (fun c_6 => ?_) (fun c_6 => ?_)
              · exact absurd rfl c_6
              · refine z_iconst (v := 1) (pc := 122) C dL_makes_122 (by decide) ?_
                refine z_goto (tgt := 127) (pc := 123) C dL_makes_123 (by decide) ?_
                exact z_zret (pc := 127) C hr hlk (by decide) ⟨rfl, ⟨nc + 1, n, hk⟩, rfl⟩ (by omega) (by omega) dL_makes_127
      · exact absurd ((nI_eq (b := 6) (by omega) (by decide)).mp (G0.symm.trans (show μ 38 0 = 6 from c_1))) hc6
  have mkl : 2 ≤ nc → zW p l e (zR 8 137 6 36) s m [Value.ref (zob E 0), Value.ref (zad E 38), Value.ref (zad E 39), Value.int x, Value.int y].toArray below meth c E 8 0 0 (MQ below (zQi E s.heap.size (fun r μ1 ov1 => r = 1 ∧ (∃ nc1 n1, zLI μ1 t c9 nc1 n1 (A + 1)) ∧ ov1 = ov)) [Value.ref (zob E 0), Value.ref (zad E 38), Value.ref (zad E 39), Value.int x, Value.int y].toArray s 6 36 (zA E s.heap.size)) 128 [some (.ref (zob E 0)), some (.ref (zad E 38)), some (.ref (zad E 39)), some (.int (x)), some (.int (y)), none, none, none] [] μ ov := by
    intro h2
    refine z_iload (i := 4) (pc := 128) C dL_makes_128 rfl ?_
    refine z_aloadn (i := 1) (pc := 130) C dL_makes_130 rfl rfl ?_
    refine z_iconst (v := 0) (pc := 131) C dL_makes_131 (by decide) ?_
    refine z_iald (pc := 132) C 38 0 (by decide) rfl rfl (show 0 < 9 from by omega) dL_makes_132 ?_
    obtain ⟨i0, hi0, ei0⟩ := zlow_k y (k := nc) (by omega) (by omega)
    refine z_callSi (pc := 133) (n := 2) (As := [.int (y), .int (μ 38 0)]) (rest := []) C (c_L_low l E sa (μ := μ) (ov := ov) (v := y) (n := μ 38 0) nc G0 (by omega) (by omega)) gL_makes_L_low rfl zfV_L_low.2 ⟨Nat.le_of_ble_eq_true rfl, Nat.le_of_ble_eq_true rfl⟩ rfl rfl (Nat.le_of_ble_eq_true rfl) ⟨by show _ ≤ 6; omega, by show _ ≤ 36; omega⟩ dL_makes_133 (fun r9 μ9 ov9 hp => ?_)
    have e1 := hp.1.symm
    have e2 := hp.2.1.symm
    have e3 := hp.2.2.symm
    clear hp
    subst e1 e2 e3
    refine z_topi (y := nI i0) (by rw [G0]; exact ei0) ?_
    refine z_istore5 (pc := 136) C (by decide) (fun w hw => by cases hw; exact (show ¬ (1 = 2) from by decide)) dL_makes_136 ?_
    refine z_iload (i := 4) (pc := 138) C dL_makes_138 rfl ?_
    refine z_iconst (v := 3) (pc := 140) C dL_makes_140 (by decide) ?_
    refine z_ishr (pc := 141) C dL_makes_141 ?_
    refine z_aloadn (i := 1) (pc := 142) C dL_makes_142 rfl rfl ?_
    refine z_iconst (v := 0) (pc := 143) C dL_makes_143 (by decide) ?_
    refine z_iald (pc := 144) C 38 0 (by decide) rfl rfl (show 0 < 9 from by omega) dL_makes_144 ?_
    obtain ⟨j0, hj0, ej0⟩ := zlow_k (y >>> (3 &&& 31)) (k := nc) (by omega) (by omega)
    refine z_callSi (pc := 145) (n := 2) (As := [.int (y >>> (3 &&& 31)), .int (μ 38 0)]) (rest := []) C (c_L_low l E sa (μ := μ) (ov := ov) (v := y >>> (3 &&& 31)) (n := μ 38 0) nc G0 (by omega) (by omega)) gL_makes_L_low rfl zfV_L_low.2 ⟨Nat.le_of_ble_eq_true rfl, Nat.le_of_ble_eq_true rfl⟩ rfl rfl (Nat.le_of_ble_eq_true rfl) ⟨by show _ ≤ 6; omega, by show _ ≤ 36; omega⟩ dL_makes_145 (fun r9 μ9 ov9 hp => ?_)
    have e1 := hp.1.symm
    have e2 := hp.2.1.symm
    have e3 := hp.2.2.symm
    clear hp
    subst e1 e2 e3
    refine z_topi (y := nI j0) (by rw [G0]; exact ej0) ?_
    refine z_istore6 (pc := 148) C (by decide) (fun w hw => by cases hw; exact (show ¬ (1 = 2) from by decide)) dL_makes_148 ?_
    refine z_aloadn (i := 0) (pc := 150) C dL_makes_150 rfl rfl ?_
    refine z_iload (i := 5) (pc := 151) C dL_makes_151 rfl ?_
    refine z_iload (i := 6) (pc := 153) C dL_makes_153 rfl ?_
    refine z_iload (i := 4) (pc := 155) C dL_makes_155 rfl ?_
    refine z_bipush (v := 6) (pc := 157) C dL_makes_157 (by decide) ?_
    refine z_ishr (pc := 159) C dL_makes_159 ?_
    refine z_bipush (v := 101) (pc := 160) C dL_makes_160 (by decide) ?_
    obtain ⟨d0, hd0, ed0⟩ := zlow_k (y >>> (6 &&& 31)) (k := 101) (by omega) (by omega)
    refine z_callSi (pc := 162) (n := 2) (As := [.int (y >>> (6 &&& 31)), .int (101)]) (rest := [.int (nI j0), .int (nI i0), .ref (zob E 0)]) C (c_L_low l E sa (μ := μ) (ov := ov) (v := y >>> (6 &&& 31)) (n := 101) 101 rfl (by omega) (by omega)) gL_makes_L_low rfl zfV_L_low.2 ⟨Nat.le_of_ble_eq_true rfl, Nat.le_of_ble_eq_true rfl⟩ rfl rfl (Nat.le_of_ble_eq_true rfl) ⟨by show _ ≤ 6; omega, by show _ ≤ 36; omega⟩ dL_makes_162 (fun r9 μ9 ov9 hp => ?_)
    have e1 := hp.1.symm
    have e2 := hp.2.1.symm
    have e3 := hp.2.2.symm
    clear hp
    subst e1 e2 e3
    refine z_topi (y := nI d0) ed0 ?_
    refine z_bipush (v := 50) (pc := 165) C dL_makes_165 (by decide) ?_
    refine z_isub (pc := 167) C dL_makes_167 ?_
    have hrd : zbn (nI d0 - 50) 50 := by unfold zbn; rw [show (50 : Int32) = nI 50 from rfl, pk_sub_toInt (by omega) (by decide)]; omega
    have rgd : (-50 : Int32) ≤ nI d0 - 50 ∧ nI d0 - 50 ≤ 50 := by
      unfold zbn at hrd
      rw [zle2, zle2, show (-50 : Int32).toInt = -50 from by decide, show (50 : Int32).toInt = 50 from rfl]
      omega
    have rgi : ((0 : Int32) ≤ nI i0 ∧ nI i0 < μ 63 4) ∧ (0 : Int32) ≤ nI j0 ∧ nI j0 < μ 63 4 := by rw [X4]; exact ⟨⟨nI_pos' (by omega), nI_lt hi0 (by omega)⟩, nI_pos' (by omega), nI_lt hj0 (by omega)⟩
    have eij : nI i0 = nI j0 ↔ i0 = j0 := nI_eq (by omega) (by omega)
    by_cases hij : i0 = j0
    · refine z_callSWi (pc := 168) (n := 4) (As := [.ref (zob E 0), .int (nI i0), .int (nI j0), .int ((nI d0) - 50)]) (rest := []) C (c_L_link l hfl E sa (μ := μ) (ov := ov) (i := nI i0) (j := nI j0) (d := nI d0 - 50) t c9 nc n H) gL_makes_L_link rfl zfV_L_link.2 ⟨Nat.le_of_ble_eq_true rfl, Nat.le_of_ble_eq_true rfl⟩ rfl rfl (Nat.le_of_ble_eq_true rfl) ⟨by show _ ≤ 6; omega, by show _ ≤ 36; omega⟩ dL_makes_168 (fun r9 μ9 ov9 hp => ?_)
      have e : r9 = (-1000002) ∧ μ9 = μ ∧ ov9 = ov := by
        rcases hp with ⟨-, hn, -⟩ | ⟨hn, -⟩ | ⟨-, -, hp⟩ | ⟨-, hn, -⟩
        · exact absurd (eij.mpr hij) hn.1
        · exact absurd rgi hn
        · exact hp
        · exact absurd (eij.mpr hij) hn.1
      obtain ⟨e1, e2, e3⟩ := e
      have e2 := e2.symm
      have e3 := e3.symm
      subst e1 e2 e3
      clear hp
      refine z_istore7 (pc := 171) C (by decide) (fun w hw => by cases hw; exact (show ¬ (1 = 2) from by decide)) dL_makes_171 ?_
      refine z_iload (i := 5) (pc := 173) C dL_makes_173 rfl ?_
      refine z_iload (i := 6) (pc := 175) C dL_makes_175 rfl ?_
      refine z_icmp_eq (tgt := 188) (pc := 177) C dL_makes_177 (by decide) (fun c_1 => ?_) (fun c_1 => ?_)
      · refine z_iload (i := 7) (pc := 188) C dL_makes_188 rfl ?_
        refine z_iload (i := 5) (pc := 190) C dL_makes_190 rfl ?_
        refine z_iload (i := 6) (pc := 192) C dL_makes_192 rfl ?_
        refine z_icmp_ne (tgt := 202) (pc := 194) C dL_makes_194 (by decide) (fun c_2 => ?_) (fun c_2 => ?_)
        · exact absurd (eij.mpr hij) c_2
        · refine z_ldc (v := (-1000002)) (pc := 197) C dL_makes_197 (C.1.2.2.2.2 (.constant RL 18 (-1000002)) (by decide +kernel)) ?_
          refine z_goto (tgt := 204) (pc := 199) C dL_makes_199 (by decide) ?_
          refine z_icmp_ne (tgt := 211) (pc := 204) C dL_makes_204 (by decide) (fun c_3 => ?_) (fun c_3 => ?_)
          · exact absurd rfl c_3
          · refine z_iconst (v := 1) (pc := 207) C dL_makes_207 (by decide) ?_
            refine z_goto (tgt := 212) (pc := 208) C dL_makes_208 (by decide) ?_
            exact z_zret (pc := 212) C hr hlk (by decide) ⟨rfl, ⟨nc, n, h.more hA⟩, rfl⟩ (by omega) (by omega) dL_makes_212
      · exact absurd (eij.mpr hij) c_1
    · have nij : ¬ nI i0 = nI j0 := fun z => hij (eij.mp z)
      by_cases hn8 : n = 8
      · refine z_callSWi (pc := 168) (n := 4) (As := [.ref (zob E 0), .int (nI i0), .int (nI j0), .int ((nI d0) - 50)]) (rest := []) C (c_L_link l hfl E sa (μ := μ) (ov := ov) (i := nI i0) (j := nI j0) (d := nI d0 - 50) t c9 nc n H) gL_makes_L_link rfl zfV_L_link.2 ⟨Nat.le_of_ble_eq_true rfl, Nat.le_of_ble_eq_true rfl⟩ rfl rfl (Nat.le_of_ble_eq_true rfl) ⟨by show _ ≤ 6; omega, by show _ ≤ 36; omega⟩ dL_makes_168 (fun r9 μ9 ov9 hp => ?_)
        have e : r9 = (-1000003) ∧ μ9 = μ ∧ ov9 = ov := by
          rcases hp with ⟨-, -, hn, -⟩ | ⟨hn, -⟩ | ⟨-, hn, -⟩ | ⟨-, -, -, hp⟩
          · exact absurd hn (by omega)
          · exact absurd rgi hn
          · exact absurd ⟨nij, rgd⟩ hn
          · exact hp
        obtain ⟨e1, e2, e3⟩ := e
        have e2 := e2.symm
        have e3 := e3.symm
        subst e1 e2 e3
        clear hp
        refine z_istore7 (pc := 171) C (by decide) (fun w hw => by cases hw; exact (show ¬ (1 = 2) from by decide)) dL_makes_171 ?_
        refine z_iload (i := 5) (pc := 173) C dL_makes_173 rfl ?_
        refine z_iload (i := 6) (pc := 175) C dL_makes_175 rfl ?_
        refine z_icmp_eq (tgt := 188) (pc := 177) C dL_makes_177 (by decide) (fun c_1 => ?_) (fun c_1 => ?_)
        · exact absurd c_1 nij
        · refine z_aloadn (i := 1) (pc := 180) C dL_makes_180 rfl rfl ?_
          refine z_iconst (v := 1) (pc := 181) C dL_makes_181 (by decide) ?_
          refine z_iald (pc := 182) C 38 1 (by decide) rfl rfl (show 1 < 9 from by omega) dL_makes_182 ?_
          refine z_bipush (v := 8) (pc := 183) C dL_makes_183 (by decide) ?_
          refine z_icmp_ne (tgt := 213) (pc := 185) C dL_makes_185 (by decide) (fun c_4 => ?_) (fun c_4 => ?_)
          · exact absurd (by rw [G1, hn8]; rfl) c_4
          · refine z_iload (i := 7) (pc := 188) C dL_makes_188 rfl ?_
            refine z_iload (i := 5) (pc := 190) C dL_makes_190 rfl ?_
            refine z_iload (i := 6) (pc := 192) C dL_makes_192 rfl ?_
            refine z_icmp_ne (tgt := 202) (pc := 194) C dL_makes_194 (by decide) (fun c_2 => ?_) (fun c_2 => ?_)
            · refine z_ldc (v := (-1000003)) (pc := 202) C dL_makes_202 (C.1.2.2.2.2 (.constant RL 21 (-1000003)) (by decide +kernel)) ?_
              refine z_icmp_ne (tgt := 211) (pc := 204) C dL_makes_204 (by decide) (fun c_3 => ?_) (fun c_3 => ?_)
              · exact absurd rfl c_3
              · refine z_iconst (v := 1) (pc := 207) C dL_makes_207 (by decide) ?_
                refine z_goto (tgt := 212) (pc := 208) C dL_makes_208 (by decide) ?_
                exact z_zret (pc := 212) C hr hlk (by decide) ⟨rfl, ⟨nc, n, h.more hA⟩, rfl⟩ (by omega) (by omega) dL_makes_212
            · exact absurd c_2 nij
      · have hn7 : n < 8 := by omega
        refine z_callSWi (pc := 168) (n := 4) (As := [.ref (zob E 0), .int (nI i0), .int (nI j0), .int ((nI d0) - 50)]) (rest := []) C (c_L_link l hfl E sa (μ := μ) (ov := ov) (i := nI i0) (j := nI j0) (d := nI d0 - 50) t c9 nc n H) gL_makes_L_link rfl zfV_L_link.2 ⟨Nat.le_of_ble_eq_true rfl, Nat.le_of_ble_eq_true rfl⟩ rfl rfl (Nat.le_of_ble_eq_true rfl) ⟨by show _ ≤ 6; omega, by show _ ≤ 36; omega⟩ dL_makes_168 (fun r9 μ9 ov9 hp => ?_)
        have e : r9 = (nI n) ∧ μ9 = (zu (zu (zu (zu (zu μ 7 n (nI i0)) 8 n (nI j0)) 9 n (nI d0 - 50)) 11 n (μ 63 0)) 63 5 (nI (n + 1))) ∧ ov9 = ov := by
          rcases hp with ⟨-, -, -, hp⟩ | ⟨hn, -⟩ | ⟨-, hn, -⟩ | ⟨-, -, hn, -⟩
          · exact hp
          · exact absurd rgi hn
          · exact absurd ⟨nij, rgd⟩ hn
          · exact absurd hn7 hn
        obtain ⟨e1, e2, e3⟩ := e
        have e2 := e2.symm
        have e3 := e3.symm
        subst e1 e2 e3
        clear hp
        refine z_istore7 (pc := 171) C (by decide) (fun w hw => by cases hw; exact (show ¬ (1 = 2) from by decide)) dL_makes_171 ?_
        refine z_iload (i := 5) (pc := 173) C dL_makes_173 rfl ?_
        refine z_iload (i := 6) (pc := 175) C dL_makes_175 rfl ?_
        refine z_icmp_eq (tgt := 188) (pc := 177) C dL_makes_177 (by decide) (fun c_1 => ?_) (fun c_1 => ?_)
        · exact absurd c_1 nij
        · refine z_aloadn (i := 1) (pc := 180) C dL_makes_180 rfl rfl ?_
          refine z_iconst (v := 1) (pc := 181) C dL_makes_181 (by decide) ?_
          refine z_iald (pc := 182) C 38 1 (by decide) rfl rfl (show 1 < 9 from by omega) dL_makes_182 ?_
          refine z_bipush (v := 8) (pc := 183) C dL_makes_183 (by decide) ?_
          refine z_icmp_ne (tgt := 213) (pc := 185) C dL_makes_185 (by decide) (fun c_4 => ?_) (fun c_4 => ?_)
          · refine z_aloadn (i := 2) (pc := 213) C dL_makes_213 rfl rfl ?_
            refine z_iconst (v := 3) (pc := 214) C dL_makes_214 (by decide) ?_
            refine z_aloadn (i := 1) (pc := 215) C dL_makes_215 rfl rfl ?_
            refine z_iconst (v := 1) (pc := 216) C dL_makes_216 (by decide) ?_
            refine z_iald (pc := 217) C 38 1 (by decide) rfl rfl (show 1 < 9 from by omega) dL_makes_217 ?_
            refine z_topi (y := nI n) G1 ?_
            refine z_imul (pc := 218) C dL_makes_218 ?_
            refine z_iload (i := 5) (pc := 219) C dL_makes_219 rfl ?_
            refine z_iast (pc := 221) C 39 (3 * n) (by decide) rfl (zx3 n).1 (show (3 * n) < 24 from by omega) dL_makes_221 ?_
            refine z_aloadn (i := 2) (pc := 222) C dL_makes_222 rfl rfl ?_
            refine z_iconst (v := 3) (pc := 223) C dL_makes_223 (by decide) ?_
            refine z_aloadn (i := 1) (pc := 224) C dL_makes_224 rfl rfl ?_
            refine z_iconst (v := 1) (pc := 225) C dL_makes_225 (by decide) ?_
            refine z_iald (pc := 226) C 38 1 (by decide) rfl rfl (show 1 < 9 from by omega) dL_makes_226 ?_
            refine z_topi (y := nI n) G1 ?_
            refine z_imul (pc := 227) C dL_makes_227 ?_
            refine z_iconst (v := 1) (pc := 228) C dL_makes_228 (by decide) ?_
            refine z_iadd (pc := 229) C dL_makes_229 ?_
            refine z_iload (i := 6) (pc := 230) C dL_makes_230 rfl ?_
            refine z_iast (pc := 232) C 39 (3 * n + 1) (by decide) rfl (zx3 n).2.1 (show (3 * n + 1) < 24 from by omega) dL_makes_232 ?_
            refine z_aloadn (i := 2) (pc := 233) C dL_makes_233 rfl rfl ?_
            refine z_iconst (v := 3) (pc := 234) C dL_makes_234 (by decide) ?_
            refine z_aloadn (i := 1) (pc := 235) C dL_makes_235 rfl rfl ?_
            refine z_iconst (v := 1) (pc := 236) C dL_makes_236 (by decide) ?_
            refine z_iald (pc := 237) C 38 1 (by decide) rfl rfl (show 1 < 9 from by omega) dL_makes_237 ?_
            refine z_topi (y := nI n) G1 ?_
            refine z_imul (pc := 238) C dL_makes_238 ?_
            refine z_iconst (v := 2) (pc := 239) C dL_makes_239 (by decide) ?_
            refine z_iadd (pc := 240) C dL_makes_240 ?_
            refine z_aloadn (i := 1) (pc := 241) C dL_makes_241 rfl rfl ?_
            refine z_iconst (v := 2) (pc := 242) C dL_makes_242 (by decide) ?_
            refine z_iald (pc := 243) C 38 2 (by decide) rfl rfl (show 2 < 9 from by omega) dL_makes_243 ?_
            refine z_iast (pc := 244) C 39 (3 * n + 2) (by decide) rfl (zx3 n).2.2 (show (3 * n + 2) < 24 from by omega) dL_makes_244 ?_
            refine z_aloadn (i := 1) (pc := 245) C dL_makes_245 rfl rfl ?_
            refine z_iconst (v := 1) (pc := 246) C dL_makes_246 (by decide) ?_
            refine z_dup2 (pc := 247) C dL_makes_247 rfl rfl ?_
            refine z_iald (pc := 248) C 38 1 (by decide) rfl rfl (show 1 < 9 from by omega) dL_makes_248 ?_
            refine z_iconst (v := 1) (pc := 249) C dL_makes_249 (by decide) ?_
            refine z_iadd (pc := 250) C dL_makes_250 ?_
            refine z_iast (pc := 251) C 38 1 (by decide) rfl rfl (show 1 < 9 from by omega) dL_makes_251 ?_
            have hk : zLI (zu (zu (zu (zu (zu (zu (zu (zu (zu μ 7 n (nI i0)) 8 n (nI j0)) 9 n (nI d0 - 50)) 11 n (μ 63 0)) 63 5 (nI (n + 1))) 39 (3 * n) (nI i0)) 39 (3 * n + 1) (nI j0)) 39 (3 * n + 2) ((zu (zu (zu (zu (zu (zu (zu μ 7 n (nI i0)) 8 n (nI j0)) 9 n (nI d0 - 50)) 11 n (μ 63 0)) 63 5 (nI (n + 1))) 39 (3 * n) (nI i0)) 39 (3 * n + 1) (nI j0)) 38 2)) 38 1 (((zu (zu (zu (zu (zu (zu (zu (zu μ 7 n (nI i0)) 8 n (nI j0)) 9 n (nI d0 - 50)) 11 n (μ 63 0)) 63 5 (nI (n + 1))) 39 (3 * n) (nI i0)) 39 (3 * n + 1) (nI j0)) 39 (3 * n + 2) ((zu (zu (zu (zu (zu (zu (zu μ 7 n (nI i0)) 8 n (nI j0)) 9 n (nI d0 - 50)) 11 n (μ 63 0)) 63 5 (nI (n + 1))) 39 (3 * n) (nI i0)) 39 (3 * n + 1) (nI j0)) 38 2)) 38 1) + 1)) t c9 nc (n + 1) (A + 1) := h.link hA hn7 hi0 hj0 hij hrd G2 (by show μ 38 1 + 1 = _; rw [G1]; exact nI_1 n)
            have q38 : (zu (zu (zu (zu (zu (zu (zu (zu (zu μ 7 n (nI i0)) 8 n (nI j0)) 9 n (nI d0 - 50)) 11 n (μ 63 0)) 63 5 (nI (n + 1))) 39 (3 * n) (nI i0)) 39 (3 * n + 1) (nI j0)) 39 (3 * n + 2) ((zu (zu (zu (zu (zu (zu (zu μ 7 n (nI i0)) 8 n (nI j0)) 9 n (nI d0 - 50)) 11 n (μ 63 0)) 63 5 (nI (n + 1))) 39 (3 * n) (nI i0)) 39 (3 * n + 1) (nI j0)) 38 2)) 38 1 (((zu (zu (zu (zu (zu (zu (zu (zu μ 7 n (nI i0)) 8 n (nI j0)) 9 n (nI d0 - 50)) 11 n (μ 63 0)) 63 5 (nI (n + 1))) 39 (3 * n) (nI i0)) 39 (3 * n + 1) (nI j0)) 39 (3 * n + 2) ((zu (zu (zu (zu (zu (zu (zu μ 7 n (nI i0)) 8 n (nI j0)) 9 n (nI d0 - 50)) 11 n (μ 63 0)) 63 5 (nI (n + 1))) 39 (3 * n) (nI i0)) 39 (3 * n + 1) (nI j0)) 38 2)) 38 1) + 1)) 38 1 = nI (n + 1) := hk.2.2.2.2.1.2.1
            obtain ⟨κ, eκ⟩ : ∃ κ, (zu (zu (zu (zu (zu (zu (zu (zu (zu μ 7 n (nI i0)) 8 n (nI j0)) 9 n (nI d0 - 50)) 11 n (μ 63 0)) 63 5 (nI (n + 1))) 39 (3 * n) (nI i0)) 39 (3 * n + 1) (nI j0)) 39 (3 * n + 2) ((zu (zu (zu (zu (zu (zu (zu μ 7 n (nI i0)) 8 n (nI j0)) 9 n (nI d0 - 50)) 11 n (μ 63 0)) 63 5 (nI (n + 1))) 39 (3 * n) (nI i0)) 39 (3 * n + 1) (nI j0)) 38 2)) 38 1 (((zu (zu (zu (zu (zu (zu (zu (zu μ 7 n (nI i0)) 8 n (nI j0)) 9 n (nI d0 - 50)) 11 n (μ 63 0)) 63 5 (nI (n + 1))) 39 (3 * n) (nI i0)) 39 (3 * n + 1) (nI j0)) 39 (3 * n + 2) ((zu (zu (zu (zu (zu (zu (zu μ 7 n (nI i0)) 8 n (nI j0)) 9 n (nI d0 - 50)) 11 n (μ 63 0)) 63 5 (nI (n + 1))) 39 (3 * n) (nI i0)) 39 (3 * n + 1) (nI j0)) 38 2)) 38 1) + 1)) = κ := ⟨_, rfl⟩
            rw [eκ] at hk q38
            refine z_mem (μ' := κ) eκ ?_
            refine z_iload (i := 7) (pc := 252) C dL_makes_252 rfl ?_
            refine z_aloadn (i := 1) (pc := 254) C dL_makes_254 rfl rfl ?_
            refine z_iconst (v := 1) (pc := 255) C dL_makes_255 (by decide) ?_
            refine z_iald (pc := 256) C 38 1 (by decide) rfl rfl (show 1 < 9 from by omega) dL_makes_256 ?_
            refine z_topi (y := nI (n + 1)) q38 ?_
            refine z_iconst (v := 1) (pc := 257) C dL_makes_257 (by decide) ?_
            refine z_isub (pc := 258) C dL_makes_258 ?_
            refine z_topi (y := nI n) (nI_pred n) ?_
            refine z_icmp_ne (tgt := 266) (pc := 259) C dL_makes_259 (by decide) (fun c_7 => ?_) (fun c_7 => ?_)
            · exact absurd rfl c_7
            · refine z_iconst (v := 1) (pc := 262) C dL_makes_262 (by decide) ?_
              refine z_goto (tgt := 267) (pc := 263) C dL_makes_263 (by decide) ?_
              exact z_zret (pc := 267) C hr hlk (by decide) ⟨rfl, ⟨nc, n + 1, hk⟩, rfl⟩ (by omega) (by omega) dL_makes_267
          · exact absurd ((nI_eq (b := 8) (by omega) (by decide)).mp (G1.symm.trans (show μ 38 1 = 8 from c_4))) hn8
  refine z_aloadn (i := 1) (pc := 0) C dL_makes_0 rfl rfl ?_
  refine z_iconst (v := 0) (pc := 1) C dL_makes_1 (by decide) ?_
  refine z_iald (pc := 2) C 38 0 (by decide) rfl rfl (show 0 < 9 from by omega) dL_makes_2 ?_
  refine z_iconst (v := 2) (pc := 3) C dL_makes_3 (by decide) ?_
  refine z_icmp_lt (tgt := 15) (pc := 4) C dL_makes_4 (by decide) (fun c_0 => ?_) (fun c_0 => ?_)
  · exact mkc
  · refine z_iloadn (i := 3) (pc := 7) C dL_makes_7 rfl rfl ?_
    refine z_iconst (v := 4) (pc := 8) C dL_makes_8 (by decide) ?_
    obtain ⟨k0, hk0, ek0⟩ := zlow_k x (k := 4) (by omega) (by omega)
    refine z_callSi (pc := 9) (n := 2) (As := [.int (x), .int (4)]) (rest := []) C (c_L_low l E sa (μ := μ) (ov := ov) (v := x) (n := 4) 4 rfl (by omega) (by omega)) gL_makes_L_low rfl zfV_L_low.2 ⟨Nat.le_of_ble_eq_true rfl, Nat.le_of_ble_eq_true rfl⟩ rfl rfl (Nat.le_of_ble_eq_true rfl) ⟨by show _ ≤ 6; omega, by show _ ≤ 36; omega⟩ dL_makes_9 (fun r9 μ9 ov9 hp => ?_)
    have e1 := hp.1.symm
    have e2 := hp.2.1.symm
    have e3 := hp.2.2.symm
    clear hp
    subst e1 e2 e3
    refine z_topi (y := nI k0) ek0 ?_
    refine z_if_ne (tgt := 128) (pc := 12) C dL_makes_12 (by decide) (fun c_z => ?_) (fun c_z => ?_)
    · exact mkl (by rw [G0] at c_0; have := znot_lt c_0; exact (nI_leI (a := 2) (by decide) (by omega)).mp this)
    · exact mkc
