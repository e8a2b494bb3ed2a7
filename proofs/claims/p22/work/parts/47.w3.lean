theorem zne1 {x : Int32} (h : zbn x 1000000) : ¬ x = -1000001 := fun e => by
  rw [e] at h
  unfold zbn at h
  rw [show (-1000001 : Int32).toInt = -1000001 from by decide] at h
  omega
set_option maxHeartbeats 4000000 in
set_option maxRecDepth 100000 in
theorem c_L_areMeasured (l : Launch) (hfl : l.stackTraces = false) (E : zE) (sa : Nat → Nat) {μ : zM} {ov : Nat → Int64} (t c9 nc n A q : Nat) (h : zLI μ t c9 nc n A) (h1 : 1 ≤ q) (hq : q ≤ t) : zMi l E sa yL_areMeasured wsL_areMeasured 8 137 20 120 [.ref (zob E 0), .ref (zad E 38), .ref (zad E 39), .ref (zad E 40), .int (nI q)] μ ov (fun r μ1 ov1 => r = 1 ∧ μ1 = μ ∧ ov1 = ov) := by
  refine z_ofMi (cc := cL_areMeasured) (nL := 10) (ret := (some .boolean)) (own := RL) zfp_L_areMeasured rfl (by simp [Value.category]) (Nat.le_of_ble_eq_true rfl) rfl ?_
  intro p e s m below meth c C hr hlk
  show zW p l e (zR 8 137 20 120) s m [Value.ref (zob E 0), Value.ref (zad E 38), Value.ref (zad E 39), Value.ref (zad E 40), Value.int (nI q)].toArray below meth c E 10 0 0 (MQ below (zQi E s.heap.size (fun r μ1 ov1 => r = 1 ∧ μ1 = μ ∧ ov1 = ov)) [Value.ref (zob E 0), Value.ref (zad E 38), Value.ref (zad E 39), Value.ref (zad E 40), Value.int (nI q)].toArray s 20 120 (zA E s.heap.size)) 0 [some (.ref (zob E 0)), some (.ref (zad E 38)), some (.ref (zad E 39)), some (.ref (zad E 40)), some (.int (nI q)), none, none, none, none, none] [] μ ov
  obtain ⟨H, hL, hS, hW, hG, hK, ht6, hA60⟩ := id h
  obtain ⟨X1, X2, X3, X4, X5, X6, X7, X8, X9⟩ := id H
  obtain ⟨G0, G1, G2, G3⟩ := id hG
  obtain ⟨k9, K1, K2, K3, K4, K5⟩ := id hK
  refine z_aloadn (i := 0) (pc := 0) C dL_areMeasured_0 rfl rfl ?_
  refine z_aloadn (i := 1) (pc := 1) C dL_areMeasured_1 rfl rfl ?_
  refine z_iconst (v := 1) (pc := 2) C dL_areMeasured_2 (by decide) ?_
  refine z_iald (pc := 3) C 38 1 (by decide) rfl rfl (show 1 < 9 from by omega) dL_areMeasured_3 ?_
  refine z_iload (i := 4) (pc := 4) C dL_areMeasured_4 rfl ?_
  refine z_iconst (v := 1) (pc := 6) C dL_areMeasured_6 (by decide) ?_
  refine z_callSWi (pc := 7) (n := 4) (As := [.ref (zob E 0), .int (μ 38 1), .int (nI q), .int (1)]) (rest := []) C (c_L_measured l hfl E sa (μ := μ) (ov := ov) (i := μ 38 1) (d := nI q) (b := 1) t c9 nc n H) gL_areMeasured_L_measured rfl zfV_L_measured.2 ⟨Nat.le_of_ble_eq_true rfl, Nat.le_of_ble_eq_true rfl⟩ rfl rfl (Nat.le_of_ble_eq_true rfl) ⟨by show _ ≤ 20; omega, by show _ ≤ 120; omega⟩ dL_areMeasured_7 (fun r9 μ9 ov9 hp => ?_)
  have e : r9 = (-1000001) ∧ μ9 = μ ∧ ov9 = ov := by
    rcases hp with ⟨hn, -⟩ | ⟨-, hp⟩
    · exact absurd hn.2.1.2 (by rw [G1, X6, zlt]; omega)
    · exact hp
  obtain ⟨e1, e2, e3⟩ := e
  have e2 := e2.symm
  have e3 := e3.symm
  subst e1 e2 e3
  clear hp
  refine z_ldc (v := (-1000001)) (pc := 10) C dL_areMeasured_10 (C.1.2.2.2.2 (.constant RL 28 (-1000001)) (by decide +kernel)) ?_
  refine z_icmp_ne (tgt := 35) (pc := 12) C dL_areMeasured_12 (by decide) (fun c_p => ?_) (fun c_p => ?_)
  · exact absurd rfl c_p
  · refine z_aloadn (i := 0) (pc := 15) C dL_areMeasured_15 rfl rfl ?_
    refine z_iconst (v := 0) (pc := 16) C dL_areMeasured_16 (by decide) ?_
    refine z_aloadn (i := 1) (pc := 17) C dL_areMeasured_17 rfl rfl ?_
    refine z_iconst (v := 2) (pc := 18) C dL_areMeasured_18 (by decide) ?_
    refine z_iald (pc := 19) C 38 2 (by decide) rfl rfl (show 2 < 9 from by omega) dL_areMeasured_19 ?_
    refine z_iconst (v := 1) (pc := 20) C dL_areMeasured_20 (by decide) ?_
    refine z_iadd (pc := 21) C dL_areMeasured_21 ?_
    refine z_topi (y := nI (t + 1)) (by rw [G2]; exact nI_1 t) ?_
    refine z_iconst (v := 0) (pc := 22) C dL_areMeasured_22 (by decide) ?_
    refine z_callSWi (pc := 23) (n := 4) (As := [.ref (zob E 0), .int (0), .int (nI (t + 1)), .int (0)]) (rest := []) C (c_L_measured l hfl E sa (μ := μ) (ov := ov) (i := 0) (d := nI (t + 1)) (b := 0) t c9 nc n H) gL_areMeasured_L_measured rfl zfV_L_measured.2 ⟨Nat.le_of_ble_eq_true rfl, Nat.le_of_ble_eq_true rfl⟩ rfl rfl (Nat.le_of_ble_eq_true rfl) ⟨by show _ ≤ 20; omega, by show _ ≤ 120; omega⟩ dL_areMeasured_23 (fun r9 μ9 ov9 hp => ?_)
    have e : r9 = (-1000001) ∧ μ9 = μ ∧ ov9 = ov := by
      rcases hp with ⟨hn, -⟩ | ⟨-, hp⟩
      · exact absurd hn.1.2 (by rw [X1]; exact nI_ge (by omega) (by omega))
      · exact hp
    obtain ⟨e1, e2, e3⟩ := e
    have e2 := e2.symm
    have e3 := e3.symm
    subst e1 e2 e3
    clear hp
    refine z_ldc (v := (-1000001)) (pc := 26) C dL_areMeasured_26 (C.1.2.2.2.2 (.constant RL 28 (-1000001)) (by decide +kernel)) ?_
    refine z_icmp_ne (tgt := 35) (pc := 28) C dL_areMeasured_28 (by decide) (fun c_q => ?_) (fun c_q => ?_)
    · exact absurd rfl c_q
    · refine z_iconst (v := 1) (pc := 31) C dL_areMeasured_31 (by decide) ?_
      refine z_goto (tgt := 36) (pc := 32) C dL_areMeasured_32 (by decide) ?_
      refine z_istore5 (pc := 36) C (by decide) (fun w hw => by cases hw; exact (show ¬ (1 = 2) from by decide)) dL_areMeasured_36 ?_
      refine z_iconst (v := 0) (pc := 38) C dL_areMeasured_38 (by decide) ?_
      refine z_istore6 (pc := 39) C (by decide) (fun w hw => by cases hw; exact (show ¬ (1 = 2) from by decide)) dL_areMeasured_39 ?_
      have loop : ∀ (f i : Nat), i + f = n → zW p l e (zR 8 137 20 120) s m [Value.ref (zob E 0), Value.ref (zad E 38), Value.ref (zad E 39), Value.ref (zad E 40), Value.int (nI q)].toArray below meth c E 10 (2 + 2 * i) (12 + 12 * i) (MQ below (zQi E s.heap.size (fun r μ1 ov1 => r = 1 ∧ μ1 = μ ∧ ov1 = ov)) [Value.ref (zob E 0), Value.ref (zad E 38), Value.ref (zad E 39), Value.ref (zad E 40), Value.int (nI q)].toArray s 20 120 (zA E s.heap.size)) 41 [some (.ref (zob E 0)), some (.ref (zad E 38)), some (.ref (zad E 39)), some (.ref (zad E 40)), some (.int (nI q)), some (.int (1)), some (.int (nI i)), none, none, none] [] μ ov := by
        intro f
        induction f with
        | zero =>
          intro i hi
          refine z_iload (i := 6) (pc := 41) C dL_areMeasured_41 rfl ?_
          refine z_aloadn (i := 1) (pc := 43) C dL_areMeasured_43 rfl rfl ?_
          refine z_iconst (v := 1) (pc := 44) C dL_areMeasured_44 (by decide) ?_
          refine z_iald (pc := 45) C 38 1 (by decide) rfl rfl (show 1 < 9 from by omega) dL_areMeasured_45 ?_
          refine z_icmp_ge (tgt := 217) (pc := 46) C dL_areMeasured_46 (by decide) (fun c_l => ?_) (fun c_l => ?_)
          · refine z_iload (i := 5) (pc := 217) C dL_areMeasured_217 rfl ?_
            exact z_zret (pc := 219) C hr hlk (by decide) ⟨rfl, rfl, rfl⟩ (by omega) (by omega) dL_areMeasured_219
          · exact absurd (by rw [G1]; exact nI_le (by omega) (by omega)) c_l
        | succ f ih =>
          intro i hi
          have hin : i < n := by omega
          have g3 := (G3 i hin).2.2
          have hraw := hL.2.2.2 i (by omega) q
          have hm : zmea μ (nI i) (nI q) ↔ μ 11 i < nI q := by
            rw [zmea, nI_clamp (by omega), X1, X6]
            exact ⟨fun z => z.2.2, fun z => ⟨⟨nI_le (a := 1) (by omega) (by omega), nI_le (by omega) (by omega)⟩, ⟨nI_pos' (by omega), nI_lt (by omega) (by omega)⟩, z⟩⟩
          have end_ : zW p l e (zR 8 137 20 120) s m [Value.ref (zob E 0), Value.ref (zad E 38), Value.ref (zad E 39), Value.ref (zad E 40), Value.int (nI q)].toArray below meth c E 10 (2 + 2 * (i + 1)) (12 + 12 * (i + 1)) (MQ below (zQi E s.heap.size (fun r μ1 ov1 => r = 1 ∧ μ1 = μ ∧ ov1 = ov)) [Value.ref (zob E 0), Value.ref (zad E 38), Value.ref (zad E 39), Value.ref (zad E 40), Value.int (nI q)].toArray s 20 120 (zA E s.heap.size)) 209 [some (.ref (zob E 0)), some (.ref (zad E 38)), some (.ref (zad E 39)), some (.ref (zad E 40)), some (.int (nI q)), some (.int (1)), some (.int (nI i)), some (.int (zmu μ (nI i) (nI q) k9)), none, none] [.int (1)] μ ov := by
            refine z_istore5 (pc := 209) C (by decide) (fun w hw => by cases hw; exact (show ¬ (1 = 2) from by decide)) dL_areMeasured_209 ?_
            refine z_iinc6 (v := 1) (pc := 211) C (by decide) (by decide) (fun w hw => by cases hw; exact (show ¬ (1 = 2) from by decide)) dL_areMeasured_211 ?_
            rw [nI_1]
            refine z_weak (lv' := [some (.ref (zob E 0)), some (.ref (zad E 38)), some (.ref (zad E 39)), some (.ref (zad E 40)), some (.int (nI q)), some (.int (1)), some (.int (nI (i + 1))), none, none, none]) ⟨rfl, rfl, rfl, rfl, rfl, rfl, rfl, trivial⟩ ?_
            refine z_goto (tgt := 41) (pc := 214) C dL_areMeasured_214 (by decide) ?_
            exact ih (i + 1) (by omega)
          have mid : zW p l e (zR 8 137 20 120) s m [Value.ref (zob E 0), Value.ref (zad E 38), Value.ref (zad E 39), Value.ref (zad E 40), Value.int (nI q)].toArray below meth c E 10 (2 + 2 * i) (12 + 12 * i) (MQ below (zQi E s.heap.size (fun r μ1 ov1 => r = 1 ∧ μ1 = μ ∧ ov1 = ov)) [Value.ref (zob E 0), Value.ref (zad E 38), Value.ref (zad E 39), Value.ref (zad E 40), Value.int (nI q)].toArray s 20 120 (zA E s.heap.size)) 129 [some (.ref (zob E 0)), some (.ref (zad E 38)), some (.ref (zad E 39)), some (.ref (zad E 40)), some (.int (nI q)), some (.int (1)), some (.int (nI i)), some (.int (zmu μ (nI i) (nI q) k9)), none, none] [] μ ov := by
            by_cases hl : μ 11 i < nI q
            · refine z_aloadn (i := 0) (pc := 129) C dL_areMeasured_129 rfl rfl ?_
              refine z_iload (i := 6) (pc := 130) C dL_areMeasured_130 rfl ?_
              refine z_iload (i := 4) (pc := 132) C dL_areMeasured_132 rfl ?_
              refine z_iconst (v := 0) (pc := 134) C dL_areMeasured_134 (by decide) ?_
              refine z_callSWi (pc := 135) (n := 4) (As := [.ref (zob E 0), .int (nI i), .int (nI q), .int (0)]) (rest := []) C (c_L_measured l hfl E sa (μ := μ) (ov := ov) (i := nI i) (d := nI q) (b := 0) t c9 nc n H) gL_areMeasured_L_measured rfl zfV_L_measured.2 ⟨Nat.le_of_ble_eq_true rfl, Nat.le_of_ble_eq_true rfl⟩ rfl rfl (Nat.le_of_ble_eq_true rfl) ⟨by show _ ≤ 20; omega, by show _ ≤ 120; omega⟩ dL_areMeasured_135 (fun r9 μ9 ov9 hp => ?_)
              have e : r9 = μ (22 + i) q ∧ μ9 = μ ∧ ov9 = ov := by
                rcases hp with ⟨-, hp⟩ | ⟨hn, -⟩
                · rw [nI_clamp (by omega), nI_clamp (by omega), if_pos rfl] at hp
                  exact hp
                · exact absurd (hm.mpr hl) hn
              obtain ⟨e1, e2, e3⟩ := e
              have e2 := e2.symm
              have e3 := e3.symm
              subst e1 e2 e3
              clear hp
              refine z_istore8 (pc := 138) C (by decide) (fun w hw => by cases hw; exact (show ¬ (1 = 2) from by decide)) dL_areMeasured_138 ?_
              refine z_iload (i := 4) (pc := 140) C dL_areMeasured_140 rfl ?_
              refine z_aloadn (i := 2) (pc := 142) C dL_areMeasured_142 rfl rfl ?_
              refine z_iconst (v := 3) (pc := 143) C dL_areMeasured_143 (by decide) ?_
              refine z_iload (i := 6) (pc := 144) C dL_areMeasured_144 rfl ?_
              refine z_imul (pc := 146) C dL_areMeasured_146 ?_
              refine z_iconst (v := 2) (pc := 147) C dL_areMeasured_147 (by decide) ?_
              refine z_iadd (pc := 148) C dL_areMeasured_148 ?_
              refine z_iald (pc := 149) C 39 (3 * i + 2) (by decide) rfl (zx3 i).2.2 (show (3 * i + 2) < 24 from by omega) dL_areMeasured_149 ?_
              refine z_icmp_le (tgt := 157) (pc := 150) C dL_areMeasured_150 (by decide) (fun c_a => ?_) (fun c_a => ?_)
              · exact absurd hl (by rw [g3] at c_a; rw [zlt]; rw [zle2] at c_a; omega)
              · refine z_iconst (v := 1) (pc := 153) C dL_areMeasured_153 (by decide) ?_
                refine z_goto (tgt := 158) (pc := 154) C dL_areMeasured_154 (by decide) ?_
                refine z_istore9 (pc := 158) C (by decide) (fun w hw => by cases hw; exact (show ¬ (1 = 2) from by decide)) dL_areMeasured_158 ?_
                refine z_iload (i := 9) (pc := 160) C dL_areMeasured_160 rfl ?_
                refine z_iload (i := 8) (pc := 162) C dL_areMeasured_162 rfl ?_
                refine z_ldc (v := (-1000001)) (pc := 164) C dL_areMeasured_164 (C.1.2.2.2.2 (.constant RL 28 (-1000001)) (by decide +kernel)) ?_
                refine z_icmp_eq (tgt := 173) (pc := 166) C dL_areMeasured_166 (by decide) (fun c_b => ?_) (fun c_b => ?_)
                · exact absurd c_b (zne1 hraw)
                · refine z_iconst (v := 1) (pc := 169) C dL_areMeasured_169 (by decide) ?_
                  refine z_goto (tgt := 174) (pc := 170) C dL_areMeasured_170 (by decide) ?_
                  refine z_icmp_ne (tgt := 208) (pc := 174) C dL_areMeasured_174 (by decide) (fun c_c => ?_) (fun c_c => ?_)
                  · exact absurd rfl c_c
                  · refine z_aloadn (i := 0) (pc := 177) C dL_areMeasured_177 rfl rfl ?_
                    refine z_iload (i := 6) (pc := 178) C dL_areMeasured_178 rfl ?_
                    refine z_iload (i := 4) (pc := 180) C dL_areMeasured_180 rfl ?_
                    refine z_iconst (v := 1) (pc := 182) C dL_areMeasured_182 (by decide) ?_
                    refine z_callSWi (pc := 183) (n := 4) (As := [.ref (zob E 0), .int (nI i), .int (nI q), .int (1)]) (rest := []) C (c_L_measured l hfl E sa (μ := μ) (ov := ov) (i := nI i) (d := nI q) (b := 1) t c9 nc n H) gL_areMeasured_L_measured rfl zfV_L_measured.2 ⟨Nat.le_of_ble_eq_true rfl, Nat.le_of_ble_eq_true rfl⟩ rfl rfl (Nat.le_of_ble_eq_true rfl) ⟨by show _ ≤ 20; omega, by show _ ≤ 120; omega⟩ dL_areMeasured_183 (fun r9 μ9 ov9 hp => ?_)
                    have e : r9 = zcorX μ i q ∧ μ9 = μ ∧ ov9 = ov := by
                      rcases hp with ⟨-, hp⟩ | ⟨hn, -⟩
                      · rw [nI_clamp (by omega), nI_clamp (by omega), if_neg (by decide)] at hp
                        exact hp
                      · exact absurd (hm.mpr hl) hn
                    obtain ⟨e1, e2, e3⟩ := e
                    have e2 := e2.symm
                    have e3 := e3.symm
                    subst e1 e2 e3
                    clear hp
                    refine z_iload (i := 9) (pc := 186) C dL_areMeasured_186 rfl ?_
                    refine z_if_eq (tgt := 199) (pc := 188) C dL_areMeasured_188 (by decide) (fun c_d => ?_) (fun c_d => ?_)
                    · exact absurd c_d (by decide)
                    · refine z_iload (i := 8) (pc := 191) C dL_areMeasured_191 rfl ?_
                      refine z_iload (i := 7) (pc := 193) C dL_areMeasured_193 rfl ?_
                      refine z_isub (pc := 195) C dL_areMeasured_195 ?_
                      refine z_goto (tgt := 201) (pc := 196) C dL_areMeasured_196 (by decide) ?_
                      refine z_icmp_ne (tgt := 208) (pc := 201) C dL_areMeasured_201 (by decide) (fun c_e => ?_) (fun c_e => ?_)
                      · exact absurd (by unfold zcorX; rw [K5 i (by omega) q (by omega)]) c_e
                      · refine z_iconst (v := 1) (pc := 204) C dL_areMeasured_204 (by decide) ?_
                        refine z_goto (tgt := 209) (pc := 205) C dL_areMeasured_205 (by decide) ?_
                        refine z_weak (lv' := [some (.ref (zob E 0)), some (.ref (zad E 38)), some (.ref (zad E 39)), some (.ref (zad E 40)), some (.int (nI q)), some (.int (1)), some (.int (nI i)), some (.int (zmu μ (nI i) (nI q) k9)), none, none]) ⟨rfl, rfl, rfl, rfl, rfl, rfl, rfl, rfl, trivial⟩ ?_
                        exact z_widen (by omega) (by omega) end_
            · refine z_aloadn (i := 0) (pc := 129) C dL_areMeasured_129 rfl rfl ?_
              refine z_iload (i := 6) (pc := 130) C dL_areMeasured_130 rfl ?_
              refine z_iload (i := 4) (pc := 132) C dL_areMeasured_132 rfl ?_
              refine z_iconst (v := 0) (pc := 134) C dL_areMeasured_134 (by decide) ?_
              refine z_callSWi (pc := 135) (n := 4) (As := [.ref (zob E 0), .int (nI i), .int (nI q), .int (0)]) (rest := []) C (c_L_measured l hfl E sa (μ := μ) (ov := ov) (i := nI i) (d := nI q) (b := 0) t c9 nc n H) gL_areMeasured_L_measured rfl zfV_L_measured.2 ⟨Nat.le_of_ble_eq_true rfl, Nat.le_of_ble_eq_true rfl⟩ rfl rfl (Nat.le_of_ble_eq_true rfl) ⟨by show _ ≤ 20; omega, by show _ ≤ 120; omega⟩ dL_areMeasured_135 (fun r9 μ9 ov9 hp => ?_)
              have e : r9 = (-1000001) ∧ μ9 = μ ∧ ov9 = ov := by
                rcases hp with ⟨hn, -⟩ | ⟨-, hp⟩
                · exact absurd (hm.mp hn) hl
                · exact hp
              obtain ⟨e1, e2, e3⟩ := e
              have e2 := e2.symm
              have e3 := e3.symm
              subst e1 e2 e3
              clear hp
              refine z_istore8 (pc := 138) C (by decide) (fun w hw => by cases hw; exact (show ¬ (1 = 2) from by decide)) dL_areMeasured_138 ?_
              refine z_iload (i := 4) (pc := 140) C dL_areMeasured_140 rfl ?_
              refine z_aloadn (i := 2) (pc := 142) C dL_areMeasured_142 rfl rfl ?_
              refine z_iconst (v := 3) (pc := 143) C dL_areMeasured_143 (by decide) ?_
              refine z_iload (i := 6) (pc := 144) C dL_areMeasured_144 rfl ?_
              refine z_imul (pc := 146) C dL_areMeasured_146 ?_
              refine z_iconst (v := 2) (pc := 147) C dL_areMeasured_147 (by decide) ?_
              refine z_iadd (pc := 148) C dL_areMeasured_148 ?_
              refine z_iald (pc := 149) C 39 (3 * i + 2) (by decide) rfl (zx3 i).2.2 (show (3 * i + 2) < 24 from by omega) dL_areMeasured_149 ?_
              refine z_icmp_le (tgt := 157) (pc := 150) C dL_areMeasured_150 (by decide) (fun c_a => ?_) (fun c_a => ?_)
              · refine z_iconst (v := 0) (pc := 157) C dL_areMeasured_157 (by decide) ?_
                refine z_istore9 (pc := 158) C (by decide) (fun w hw => by cases hw; exact (show ¬ (1 = 2) from by decide)) dL_areMeasured_158 ?_
                refine z_iload (i := 9) (pc := 160) C dL_areMeasured_160 rfl ?_
                refine z_iload (i := 8) (pc := 162) C dL_areMeasured_162 rfl ?_
                refine z_ldc (v := (-1000001)) (pc := 164) C dL_areMeasured_164 (C.1.2.2.2.2 (.constant RL 28 (-1000001)) (by decide +kernel)) ?_
                refine z_icmp_eq (tgt := 173) (pc := 166) C dL_areMeasured_166 (by decide) (fun c_b => ?_) (fun c_b => ?_)
                · refine z_iconst (v := 0) (pc := 173) C dL_areMeasured_173 (by decide) ?_
                  refine z_icmp_ne (tgt := 208) (pc := 174) C dL_areMeasured_174 (by decide) (fun c_c => ?_) (fun c_c => ?_)
                  · exact absurd rfl c_c
                  · refine z_aloadn (i := 0) (pc := 177) C dL_areMeasured_177 rfl rfl ?_
                    refine z_iload (i := 6) (pc := 178) C dL_areMeasured_178 rfl ?_
                    refine z_iload (i := 4) (pc := 180) C dL_areMeasured_180 rfl ?_
                    refine z_iconst (v := 1) (pc := 182) C dL_areMeasured_182 (by decide) ?_
                    refine z_callSWi (pc := 183) (n := 4) (As := [.ref (zob E 0), .int (nI i), .int (nI q), .int (1)]) (rest := []) C (c_L_measured l hfl E sa (μ := μ) (ov := ov) (i := nI i) (d := nI q) (b := 1) t c9 nc n H) gL_areMeasured_L_measured rfl zfV_L_measured.2 ⟨Nat.le_of_ble_eq_true rfl, Nat.le_of_ble_eq_true rfl⟩ rfl rfl (Nat.le_of_ble_eq_true rfl) ⟨by show _ ≤ 20; omega, by show _ ≤ 120; omega⟩ dL_areMeasured_183 (fun r9 μ9 ov9 hp => ?_)
                    have e : r9 = (-1000001) ∧ μ9 = μ ∧ ov9 = ov := by
                      rcases hp with ⟨hn, -⟩ | ⟨-, hp⟩
                      · exact absurd (hm.mp hn) hl
                      · exact hp
                    obtain ⟨e1, e2, e3⟩ := e
                    have e2 := e2.symm
                    have e3 := e3.symm
                    subst e1 e2 e3
                    clear hp
                    refine z_iload (i := 9) (pc := 186) C dL_areMeasured_186 rfl ?_
                    refine z_if_eq (tgt := 199) (pc := 188) C dL_areMeasured_188 (by decide) (fun c_d => ?_) (fun c_d => ?_)
                    · refine z_ldc (v := (-1000001)) (pc := 199) C dL_areMeasured_199 (C.1.2.2.2.2 (.constant RL 28 (-1000001)) (by decide +kernel)) ?_
                      refine z_icmp_ne (tgt := 208) (pc := 201) C dL_areMeasured_201 (by decide) (fun c_e => ?_) (fun c_e => ?_)
                      · exact absurd rfl c_e
                      · refine z_iconst (v := 1) (pc := 204) C dL_areMeasured_204 (by decide) ?_
                        refine z_goto (tgt := 209) (pc := 205) C dL_areMeasured_205 (by decide) ?_
                        refine z_weak (lv' := [some (.ref (zob E 0)), some (.ref (zad E 38)), some (.ref (zad E 39)), some (.ref (zad E 40)), some (.int (nI q)), some (.int (1)), some (.int (nI i)), some (.int (zmu μ (nI i) (nI q) k9)), none, none]) ⟨rfl, rfl, rfl, rfl, rfl, rfl, rfl, rfl, trivial⟩ ?_
                        exact z_widen (by omega) (by omega) end_
                    · exact absurd rfl c_d
                · exact absurd rfl c_b
              · exact absurd (by rw [g3, zle2]; rw [zlt] at hl; omega) c_a
          have inner : ∀ (g j : Nat), j + g = k9 → zW p l e (zR 8 137 20 120) s m [Value.ref (zob E 0), Value.ref (zad E 38), Value.ref (zad E 39), Value.ref (zad E 40), Value.int (nI q)].toArray below meth c E 10 (2 + 2 * i) (12 + 12 * i) (MQ below (zQi E s.heap.size (fun r μ1 ov1 => r = 1 ∧ μ1 = μ ∧ ov1 = ov)) [Value.ref (zob E 0), Value.ref (zad E 38), Value.ref (zad E 39), Value.ref (zad E 40), Value.int (nI q)].toArray s 20 120 (zA E s.heap.size)) 60 [some (.ref (zob E 0)), some (.ref (zad E 38)), some (.ref (zad E 39)), some (.ref (zad E 40)), some (.int (nI q)), some (.int (1)), some (.int (nI i)), some (.int (zmu μ (nI i) (nI q) j)), some (.int (nI j)), none] [] μ ov := by
            intro g
            induction g with
            | zero =>
              intro j hj
              refine z_iload (i := 8) (pc := 60) C dL_areMeasured_60 rfl ?_
              refine z_aloadn (i := 1) (pc := 62) C dL_areMeasured_62 rfl rfl ?_
              refine z_bipush (v := 7) (pc := 63) C dL_areMeasured_63 (by decide) ?_
              refine z_iald (pc := 65) C 38 7 (by decide) rfl rfl (show 7 < 9 from by omega) dL_areMeasured_65 ?_
              refine z_icmp_ge (tgt := 129) (pc := 66) C dL_areMeasured_66 (by decide) (fun c_l => ?_) (fun c_l => ?_)
              · obtain rfl : j = k9 := by omega
                refine z_weak (lv' := [some (.ref (zob E 0)), some (.ref (zad E 38)), some (.ref (zad E 39)), some (.ref (zad E 40)), some (.int (nI q)), some (.int (1)), some (.int (nI i)), some (.int (zmu μ (nI i) (nI q) j)), none, none]) ⟨rfl, rfl, rfl, rfl, rfl, rfl, rfl, rfl, trivial⟩ ?_
                exact mid
              · exact absurd (by rw [K2]; exact nI_le (by omega) (by omega)) c_l
            | succ g ihg =>
              intro j hj
              have J : ∀ v : Int32, v = (if μ 40 (4 * j) = nI i ∧ μ 40 (4 * j + 1) ≤ nI q ∧ nI q ≤ μ 40 (4 * j + 2) then μ 40 (4 * j + 3) else 0) → zW p l e (zR 8 137 20 120) s m [Value.ref (zob E 0), Value.ref (zad E 38), Value.ref (zad E 39), Value.ref (zad E 40), Value.int (nI q)].toArray below meth c E 10 (2 + 2 * i) (12 + 12 * i) (MQ below (zQi E s.heap.size (fun r μ1 ov1 => r = 1 ∧ μ1 = μ ∧ ov1 = ov)) [Value.ref (zob E 0), Value.ref (zad E 38), Value.ref (zad E 39), Value.ref (zad E 40), Value.int (nI q)].toArray s 20 120 (zA E s.heap.size)) 120 [some (.ref (zob E 0)), some (.ref (zad E 38)), some (.ref (zad E 39)), some (.ref (zad E 40)), some (.int (nI q)), some (.int (1)), some (.int (nI i)), some (.int (zmu μ (nI i) (nI q) j)), some (.int (nI j)), none] [.int (v), .int (zmu μ (nI i) (nI q) j)] μ ov := by
                intro v hv
                subst hv
                refine z_iadd (pc := 120) C dL_areMeasured_120 ?_
                refine z_topi (y := zmu μ (nI i) (nI q) (j + 1)) rfl ?_
                refine z_istore7 (pc := 121) C (by decide) (fun w hw => by cases hw; exact (show ¬ (1 = 2) from by decide)) dL_areMeasured_121 ?_
                refine z_iinc8 (v := 1) (pc := 123) C (by decide) (by decide) (fun w hw => by cases hw; exact (show ¬ (1 = 2) from by decide)) dL_areMeasured_123 ?_
                rw [nI_1]
                refine z_goto (tgt := 60) (pc := 126) C dL_areMeasured_126 (by decide) ?_
                exact ihg (j + 1) (by omega)
              refine z_iload (i := 8) (pc := 60) C dL_areMeasured_60 rfl ?_
              refine z_aloadn (i := 1) (pc := 62) C dL_areMeasured_62 rfl rfl ?_
              refine z_bipush (v := 7) (pc := 63) C dL_areMeasured_63 (by decide) ?_
              refine z_iald (pc := 65) C 38 7 (by decide) rfl rfl (show 7 < 9 from by omega) dL_areMeasured_65 ?_
              refine z_icmp_ge (tgt := 129) (pc := 66) C dL_areMeasured_66 (by decide) (fun c_l => ?_) (fun c_l => ?_)
              · exact absurd c_l (by rw [K2]; exact nI_ge (by omega) (by omega))
              · refine z_iload (i := 7) (pc := 69) C dL_areMeasured_69 rfl ?_
                refine z_aloadn (i := 3) (pc := 71) C dL_areMeasured_71 rfl rfl ?_
                refine z_iconst (v := 4) (pc := 72) C dL_areMeasured_72 (by decide) ?_
                refine z_iload (i := 8) (pc := 73) C dL_areMeasured_73 rfl ?_
                refine z_imul (pc := 75) C dL_areMeasured_75 ?_
                refine z_iald (pc := 76) C 40 (4 * j) (by decide) rfl (zx4 j).1 (show (4 * j) < 40 from by omega) dL_areMeasured_76 ?_
                refine z_iload (i := 6) (pc := 77) C dL_areMeasured_77 rfl ?_
                refine z_icmp_ne (tgt := 119) (pc := 79) C dL_areMeasured_79 (by decide) (fun c_1 => ?_) (fun c_1 => ?_)
                · refine z_iconst (v := 0) (pc := 119) C dL_areMeasured_119 (by decide) ?_
                  exact J _ (if_neg (fun z => c_1 z.1)).symm
                · refine z_iload (i := 4) (pc := 82) C dL_areMeasured_82 rfl ?_
                  refine z_aloadn (i := 3) (pc := 84) C dL_areMeasured_84 rfl rfl ?_
                  refine z_iconst (v := 4) (pc := 85) C dL_areMeasured_85 (by decide) ?_
                  refine z_iload (i := 8) (pc := 86) C dL_areMeasured_86 rfl ?_
                  refine z_imul (pc := 88) C dL_areMeasured_88 ?_
                  refine z_iconst (v := 1) (pc := 89) C dL_areMeasured_89 (by decide) ?_
                  refine z_iadd (pc := 90) C dL_areMeasured_90 ?_
                  refine z_iald (pc := 91) C 40 (4 * j + 1) (by decide) rfl (zx4 j).2.1 (show (4 * j + 1) < 40 from by omega) dL_areMeasured_91 ?_
                  refine z_icmp_lt (tgt := 119) (pc := 92) C dL_areMeasured_92 (by decide) (fun c_2 => ?_) (fun c_2 => ?_)
                  · refine z_iconst (v := 0) (pc := 119) C dL_areMeasured_119 (by decide) ?_
                    exact J _ (if_neg (fun z => by have := z.2.1; rw [zle2] at this; rw [zlt] at c_2; omega)).symm
                  · refine z_iload (i := 4) (pc := 95) C dL_areMeasured_95 rfl ?_
                    refine z_aloadn (i := 3) (pc := 97) C dL_areMeasured_97 rfl rfl ?_
                    refine z_iconst (v := 4) (pc := 98) C dL_areMeasured_98 (by decide) ?_
                    refine z_iload (i := 8) (pc := 99) C dL_areMeasured_99 rfl ?_
                    refine z_imul (pc := 101) C dL_areMeasured_101 ?_
                    refine z_iconst (v := 2) (pc := 102) C dL_areMeasured_102 (by decide) ?_
                    refine z_iadd (pc := 103) C dL_areMeasured_103 ?_
                    refine z_iald (pc := 104) C 40 (4 * j + 2) (by decide) rfl (zx4 j).2.2.1 (show (4 * j + 2) < 40 from by omega) dL_areMeasured_104 ?_
                    refine z_icmp_gt (tgt := 119) (pc := 105) C dL_areMeasured_105 (by decide) (fun c_3 => ?_) (fun c_3 => ?_)
                    · refine z_iconst (v := 0) (pc := 119) C dL_areMeasured_119 (by decide) ?_
                      exact J _ (if_neg (fun z => by have := z.2.2; rw [zle2] at this; rw [zlt] at c_3; omega)).symm
                    · refine z_aloadn (i := 3) (pc := 108) C dL_areMeasured_108 rfl rfl ?_
                      refine z_iconst (v := 4) (pc := 109) C dL_areMeasured_109 (by decide) ?_
                      refine z_iload (i := 8) (pc := 110) C dL_areMeasured_110 rfl ?_
                      refine z_imul (pc := 112) C dL_areMeasured_112 ?_
                      refine z_iconst (v := 3) (pc := 113) C dL_areMeasured_113 (by decide) ?_
                      refine z_iadd (pc := 114) C dL_areMeasured_114 ?_
                      refine z_iald (pc := 115) C 40 (4 * j + 3) (by decide) rfl (zx4 j).2.2.2 (show (4 * j + 3) < 40 from by omega) dL_areMeasured_115 ?_
                      refine z_goto (tgt := 120) (pc := 116) C dL_areMeasured_116 (by decide) ?_
                      exact J _ (if_pos ⟨c_1, znot_lt c_2, znot_lt c_3⟩).symm
          refine z_iload (i := 6) (pc := 41) C dL_areMeasured_41 rfl ?_
          refine z_aloadn (i := 1) (pc := 43) C dL_areMeasured_43 rfl rfl ?_
          refine z_iconst (v := 1) (pc := 44) C dL_areMeasured_44 (by decide) ?_
          refine z_iald (pc := 45) C 38 1 (by decide) rfl rfl (show 1 < 9 from by omega) dL_areMeasured_45 ?_
          refine z_icmp_ge (tgt := 217) (pc := 46) C dL_areMeasured_46 (by decide) (fun c_l => ?_) (fun c_l => ?_)
          · exact absurd c_l (by rw [G1]; exact nI_ge (by omega) (by omega))
          · refine z_iload (i := 5) (pc := 49) C dL_areMeasured_49 rfl ?_
            refine z_if_eq (tgt := 217) (pc := 51) C dL_areMeasured_51 (by decide) (fun c_z => ?_) (fun c_z => ?_)
            · exact absurd c_z (by decide)
            · refine z_iconst (v := 0) (pc := 54) C dL_areMeasured_54 (by decide) ?_
              refine z_istore7 (pc := 55) C (by decide) (fun w hw => by cases hw; exact (show ¬ (1 = 2) from by decide)) dL_areMeasured_55 ?_
              refine z_iconst (v := 0) (pc := 57) C dL_areMeasured_57 (by decide) ?_
              refine z_istore8 (pc := 58) C (by decide) (fun w hw => by cases hw; exact (show ¬ (1 = 2) from by decide)) dL_areMeasured_58 ?_
              exact inner k9 0 (by omega)
      exact loop n 0 (by omega)
