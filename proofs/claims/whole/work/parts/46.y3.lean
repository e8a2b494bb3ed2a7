set_option maxHeartbeats 4000000 in
set_option maxRecDepth 100000 in
theorem c_X5_passes (l : Launch) (E : zE) (sa : Nat → Nat) {μ : zM} {ov : Nat → Int64} (t c0 nc n : Nat) (H : zMI μ t c0 nc n) (ht : t + 1 ≤ 500) : zMv l E sa yX5_passes wsX5_passes 5 118 0 0 [.ref (zob E 7)] μ ov (fun μ1 ov1 => μ1 = zdM μ t c0 nc n ∧ ov1 = ov) := by
  refine z_ofMv (cc := cX5_passes) (nL := 2) (ret := none) (own := RX5) zfp_X5_passes rfl (by simp [Value.category]) (Nat.le_of_ble_eq_true rfl) rfl ?_
  intro p e s m below meth c C hr hlk
  have iX5 : ∀ w ∈ wsX50, w ∈ wsX5_passes := by decide +kernel
  have f7 := C.1.2.2.2.2 (.fieldLink RX5 7 "TickFallModel" "rate" "[I") (by decide +kernel)
  have f13 := C.1.2.2.2.2 (.fieldLink RX5 13 "TickFallModel" "drift" "[I") (by decide +kernel)
  have f16 := C.1.2.2.2.2 (.fieldLink RX5 16 "TickFallModel" "height" "[I") (by decide +kernel)
  have f19 := C.1.2.2.2.2 (.fieldLink RX5 19 "TickFallModel" "phase" "[I") (by decide +kernel)
  have f25 := C.1.2.2.2.2 (.fieldLink RX5 25 "TickFallModel" "one" "[I") (by decide +kernel)
  have f28 := C.1.2.2.2.2 (.fieldLink RX5 28 "TickFallModel" "two" "[I") (by decide +kernel)
  have f31 := C.1.2.2.2.2 (.fieldLink RX5 31 "TickFallModel" "asymmetry" "[I") (by decide +kernel)
  have f34 := C.1.2.2.2.2 (.fieldLink RX5 34 "TickFallModel" "slipped" "[I") (by decide +kernel)
  have f40 := C.1.2.2.2.2 (.fieldLink RX5 40 "TickFallModel" "counts" "[I") (by decide +kernel)
  have f67 := C.1.2.2.2.2 (.fieldLink RX5 67 "TickFallModel" "told" "[I") (by decide +kernel)
  have f90 := C.1.2.2.2.2 (.fieldLink RX5 90 "TickFallModel" "step" "I") (by decide +kernel)
  have f96 := C.1.2.2.2.2 (.fieldLink RX5 96 "TickFallModel" "clocks" "I") (by decide +kernel)
  have f103 := C.1.2.2.2.2 (.fieldLink RX5 103 "TickFallModel" "links" "I") (by decide +kernel)
  have f106 := C.1.2.2.2.2 (.fieldLink RX5 106 "TickFallModel" "day" "I") (by decide +kernel)
  show zW p l e (zR 5 118 0 0) s m [Value.ref (zob E 7)].toArray below meth c E 2 0 0 (MQ below (zQv E s.heap.size (fun μ1 ov1 => μ1 = zdM μ t c0 nc n ∧ ov1 = ov)) [Value.ref (zob E 7)].toArray s 0 0 (zA E s.heap.size)) 0 [some (.ref (zob E 7)), none] [] μ ov
  obtain ⟨H1, H2, H3, H4, H5, H6, H7, H8, H9⟩ := id H
  refine z_aloadn (i := 0) (pc := 0) C dX5_passes_0 rfl rfl ?_
  refine z_dup (pc := 1) C dX5_passes_1 rfl ?_
  refine zg_X5_day (pc := 2) C dX5_passes_2 iX5 f106 ?_
  refine z_iconst (v := 1) (pc := 5) C dX5_passes_5 (by decide) ?_
  refine z_iadd (pc := 6) C dX5_passes_6 ?_
  refine z_topi (y := nI (t + 1)) (by rw [H1, nI_1]) ?_
  refine zp_X5_day (pc := 7) C dX5_passes_7 iX5 f106 ?_
  have K4 : ∀ w : Int32, zW p l e (zR 5 118 0 0) s m [Value.ref (zob E 7)].toArray below meth c E 2 0 0 (MQ below (zQv E s.heap.size (fun μ1 ov1 => μ1 = zdM μ t c0 nc n ∧ ov1 = ov)) [Value.ref (zob E 7)].toArray s 0 0 (zA E s.heap.size)) 191 [some (.ref (zob E 7)), some (.int (w))] [] (zdM4 μ t c0 nc n) ov := by
    intro w
    have r63 : ∀ i, i ≠ 14 → i ≠ 11 → zdM4 μ t c0 nc n 63 i = μ 63 i := fun i a b => by rw [zdM4_r _ _ _ _ _ (by decide) (by decide) (by decide)]; exact zdM2_63 μ t c0 a b
    have r11 : zdM4 μ t c0 nc n 63 11 = nI (t + 1) := by rw [zdM4_r _ _ _ _ _ (by decide) (by decide) (by decide)]; exact zdM2_11 μ t c0
    have r57 : zdM4 μ t c0 nc n 57 = μ 57 := zdM4_k μ t c0 nc n (by decide) (by decide) (by decide) (by decide) (by decide) (by decide) (by decide) (by decide) (by decide) (by decide) (by decide)
    have r53 : zGv (zdM4 μ t c0 nc n) := fun k hk => by rw [zdM4_k μ t c0 nc n (by decide) (by decide) (by decide) (by decide) (by decide) (by decide) (by decide) (by decide) (by decide) (by decide) (by decide)]; exact H9 k hk
    obtain ⟨ν, hν⟩ : ∃ ν, ν = zdM4 μ t c0 nc n := ⟨_, rfl⟩
    rw [← hν] at r63 r11 r57 r53 ⊢
    refine z_aloadn (i := 0) (pc := 191) C dX5_passes_191 rfl rfl ?_
    refine zg_X5_told (pc := 192) C dX5_passes_192 iX5 f67 ?_
    refine z_aloadn (i := 0) (pc := 195) C dX5_passes_195 rfl rfl ?_
    refine zg_X5_day (pc := 196) C dX5_passes_196 iX5 f106 ?_
    refine z_topi (y := nI (t + 1)) r11 ?_
    refine z_aloadn (i := 0) (pc := 199) C dX5_passes_199 rfl rfl ?_
    refine zg_X5_told (pc := 200) C dX5_passes_200 iX5 f67 ?_
    refine z_aloadn (i := 0) (pc := 203) C dX5_passes_203 rfl rfl ?_
    refine zg_X5_day (pc := 204) C dX5_passes_204 iX5 f106 ?_
    refine z_iconst (v := 1) (pc := 207) C dX5_passes_207 (by decide) ?_
    refine z_isub (pc := 208) C dX5_passes_208 ?_
    refine z_iald (pc := 209) C 57 t (by decide) rfl (by rw [r11, nI_sub1]) (show t < 501 by omega) dX5_passes_209 ?_
    refine z_aloadn (i := 0) (pc := 210) C dX5_passes_210 rfl rfl ?_
    refine z_aloadn (i := 0) (pc := 211) C dX5_passes_211 rfl rfl ?_
    refine zg_X5_day (pc := 212) C dX5_passes_212 iX5 f106 ?_
    refine z_callVi (pc := 215) (n := 1) (As := [.int (ν 63 11)]) (rest := [.int (ν 57 t), .int (nI (t + 1)), .ref (zad E 57)]) C (c_X5_meanOf l E sa (μ := ν) (ov := ov) (t + 1) nc r11 (by omega) (by omega) ((r63 12 (by decide) (by decide)).trans H4) H5 n ((r63 13 (by decide) (by decide)).trans H6) H7 r53) gX5_passes_X5_meanOf rfl zfV_X5_meanOf ⟨Nat.le_of_ble_eq_true rfl, Nat.le_of_ble_eq_true rfl⟩ rfl (zRec_X5 E) rfl (Nat.le_of_ble_eq_true rfl) ⟨Nat.zero_le _, Nat.zero_le _⟩ dX5_passes_215 (fun r9 μ9 ov9 hp => ?_)
    have e1 := hp.1.symm
    have e2 := hp.2.1.symm
    have e3 := hp.2.2.symm
    clear hp
    subst e1 e2 e3
    refine z_aloadn (i := 0) (pc := 218) C dX5_passes_218 rfl rfl ?_
    refine zg_X5_told (pc := 219) C dX5_passes_219 iX5 f67 ?_
    refine z_aloadn (i := 0) (pc := 222) C dX5_passes_222 rfl rfl ?_
    refine zg_X5_day (pc := 223) C dX5_passes_223 iX5 f106 ?_
    refine z_iconst (v := 1) (pc := 226) C dX5_passes_226 (by decide) ?_
    refine z_isub (pc := 227) C dX5_passes_227 ?_
    refine z_iald (pc := 228) C 57 t (by decide) rfl (by rw [r11, nI_sub1]) (show t < 501 by omega) dX5_passes_228 ?_
    refine z_isub (pc := 229) C dX5_passes_229 ?_
    refine z_aloadn (i := 0) (pc := 230) C dX5_passes_230 rfl rfl ?_
    refine zg_X5_step (pc := 231) C dX5_passes_231 iX5 f90 ?_
    refine z_callSi (pc := 234) (n := 2) (As := [.int ((zmeanM ν (t + 1) n nc) - (ν 57 t)), .int (ν 63 16)]) (rest := [.int (ν 57 t), .int (nI (t + 1)), .ref (zad E 57)]) C (c_X5_held l E sa (μ := ν) (ov := ov) (zmeanM ν (t + 1) n nc - ν 57 t) (ν 63 16)) gX5_passes_X5_held rfl zfV_X5_held.2 ⟨Nat.le_of_ble_eq_true rfl, Nat.le_of_ble_eq_true rfl⟩ rfl rfl (Nat.le_of_ble_eq_true rfl) ⟨Nat.zero_le _, Nat.zero_le _⟩ dX5_passes_234 (fun r9 μ9 ov9 hp => ?_)
    have e1 := hp.1.symm
    have e2 := hp.2.1.symm
    have e3 := hp.2.2.symm
    clear hp
    subst e1 e2 e3
    refine z_iadd (pc := 237) C dX5_passes_237 ?_
    refine z_iast (pc := 238) C 57 (t + 1) (by decide) rfl rfl (show t + 1 < 501 by omega) dX5_passes_238 ?_
    exact z_vret (pc := 239) C hr hlk ⟨by rw [zdM, zstM, ← hν, r57], rfl⟩ (Nat.zero_le _) (Nat.zero_le _) dX5_passes_239
  have K3 : ∀ w : Int32, zW p l e (zR 5 118 0 0) s m [Value.ref (zob E 7)].toArray below meth c E 2 0 0 (MQ below (zQv E s.heap.size (fun μ1 ov1 => μ1 = zdM μ t c0 nc n ∧ ov1 = ov)) [Value.ref (zob E 7)].toArray s 0 0 (zA E s.heap.size)) 118 [some (.ref (zob E 7)), some (.int (w))] [] (zdM3 μ t c0 nc) ov := by
    intro w0
    have r63 : ∀ i, i ≠ 14 → i ≠ 11 → zdM3 μ t c0 nc 63 i = μ 63 i := fun i a b => by rw [zdM3_r _ _ _ _ (by decide) (by decide)]; exact zdM2_63 μ t c0 a b
    have r11 : zdM3 μ t c0 nc 63 11 = nI (t + 1) := by rw [zdM3_r _ _ _ _ (by decide) (by decide)]; exact zdM2_11 μ t c0
    have r43 : zdM3 μ t c0 nc 43 = μ 43 := by rw [zdM3_r _ _ _ _ (by decide) (by decide)]; unfold zdM2 zdM1; rw [zdr_k (by decide) (by decide) (by decide) (by decide) (by decide) (by decide) (by decide) (by decide) (by decide), zu_n _ _ _ (by decide)]
    have r44 : zdM3 μ t c0 nc 44 = μ 44 := by rw [zdM3_r _ _ _ _ (by decide) (by decide)]; unfold zdM2 zdM1; rw [zdr_k (by decide) (by decide) (by decide) (by decide) (by decide) (by decide) (by decide) (by decide) (by decide), zu_n _ _ _ (by decide)]
    have loop : ∀ (f i : Nat), i + f = n → zW p l e (zR 5 118 0 0) s m [Value.ref (zob E 7)].toArray below meth c E 2 0 0 (MQ below (zQv E s.heap.size (fun μ1 ov1 => μ1 = zdM μ t c0 nc n ∧ ov1 = ov)) [Value.ref (zob E 7)].toArray s 0 0 (zA E s.heap.size)) 120 [some (.ref (zob E 7)), some (.int (nI i))] [] (zitr (zlkM (t + 1)) i (zdM3 μ t c0 nc)) ov := by
      intro f
      induction f with
      | zero =>
        intro i hi
        obtain rfl : i = n := by omega
        refine z_iloadn (i := 1) (pc := 120) C dX5_passes_120 rfl rfl ?_
        refine z_aloadn (i := 0) (pc := 121) C dX5_passes_121 rfl rfl ?_
        refine zg_X5_links (pc := 122) C dX5_passes_122 iX5 f103 ?_
        refine z_topi (y := nI i) (by rw [zitr_k (b := 63) (fun i μ => zlkM_k (t + 1) (by decide) i μ), r63 13 (by decide) (by decide)]; exact H6) ?_
        refine z_icmp_ge (tgt := 191) (pc := 125) C dX5_passes_125 (by decide) (fun c_l => ?_) (fun c_l => ?_)
        · exact K4 _
        · exact absurd (nI_le (a := i) (b := i) (Nat.le_refl _) (by omega)) c_l
      | succ f ih =>
        intro i hi
        obtain ⟨a, b, ha, hb, hab, ea, eb⟩ := H8 i (by omega)
        obtain ⟨κ, hκ⟩ : ∃ κ, κ = (zitr (zlkM (t + 1)) i (zdM3 μ t c0 nc)) := ⟨_, rfl⟩
        have k63 : κ 63 = zdM3 μ t c0 nc 63 := by rw [hκ]; exact zitr_k (b := 63) (fun i μ => zlkM_k (t + 1) (by decide) i μ)
        have k43 : κ 43 i = nI a := by rw [hκ, zitr_k (b := 43) (fun i μ => zlkM_k (t + 1) (by decide) i μ), r43]; exact ea
        have k44 : κ 44 i = nI b := by rw [hκ, zitr_k (b := 44) (fun i μ => zlkM_k (t + 1) (by decide) i μ), r44]; exact eb
        rw [← hκ]
        refine z_iloadn (i := 1) (pc := 120) C dX5_passes_120 rfl rfl ?_
        refine z_aloadn (i := 0) (pc := 121) C dX5_passes_121 rfl rfl ?_
        refine zg_X5_links (pc := 122) C dX5_passes_122 iX5 f103 ?_
        refine z_icmp_ge (tgt := 191) (pc := 125) C dX5_passes_125 (by decide) (fun c_l => ?_) (fun c_l => ?_)
        · exact absurd c_l (by rw [k63, r63 13 (by decide) (by decide), H6]; exact nI_ge (by omega) (by omega))
        · refine z_aloadn (i := 0) (pc := 128) C dX5_passes_128 rfl rfl ?_
          refine zg_X5_counts (pc := 129) C dX5_passes_129 iX5 f40 ?_
          refine z_bipush (v := 8) (pc := 132) C dX5_passes_132 (by decide) ?_
          refine z_aloadn (i := 0) (pc := 134) C dX5_passes_134 rfl rfl ?_
          refine zg_X5_day (pc := 135) C dX5_passes_135 iX5 f106 ?_
          refine z_iconst (v := 1) (pc := 138) C dX5_passes_138 (by decide) ?_
          refine z_isub (pc := 139) C dX5_passes_139 ?_
          refine z_imul (pc := 140) C dX5_passes_140 ?_
          refine z_iloadn (i := 1) (pc := 141) C dX5_passes_141 rfl rfl ?_
          refine z_iadd (pc := 142) C dX5_passes_142 ?_
          refine z_aloadn (i := 0) (pc := 143) C dX5_passes_143 rfl rfl ?_
          refine zg_X5_phase (pc := 144) C dX5_passes_144 iX5 f19 ?_
          refine z_aloadn (i := 0) (pc := 147) C dX5_passes_147 rfl rfl ?_
          refine zg_X5_one (pc := 148) C dX5_passes_148 iX5 f25 ?_
          refine z_iloadn (i := 1) (pc := 151) C dX5_passes_151 rfl rfl ?_
          refine z_iald (pc := 152) C 43 i (by decide) rfl rfl (show i < 8 by omega) dX5_passes_152 ?_
          refine z_iald (pc := 153) C 41 a (by decide) rfl k43 (show a < 6 by omega) dX5_passes_153 ?_
          refine z_aloadn (i := 0) (pc := 154) C dX5_passes_154 rfl rfl ?_
          refine zg_X5_phase (pc := 155) C dX5_passes_155 iX5 f19 ?_
          refine z_aloadn (i := 0) (pc := 158) C dX5_passes_158 rfl rfl ?_
          refine zg_X5_two (pc := 159) C dX5_passes_159 iX5 f28 ?_
          refine z_iloadn (i := 1) (pc := 162) C dX5_passes_162 rfl rfl ?_
          refine z_iald (pc := 163) C 44 i (by decide) rfl rfl (show i < 8 by omega) dX5_passes_163 ?_
          refine z_iald (pc := 164) C 41 b (by decide) rfl k44 (show b < 6 by omega) dX5_passes_164 ?_
          refine z_isub (pc := 165) C dX5_passes_165 ?_
          refine z_aloadn (i := 0) (pc := 166) C dX5_passes_166 rfl rfl ?_
          refine zg_X5_asymmetry (pc := 167) C dX5_passes_167 iX5 f31 ?_
          refine z_iloadn (i := 1) (pc := 170) C dX5_passes_170 rfl rfl ?_
          refine z_iald (pc := 171) C 45 i (by decide) rfl rfl (show i < 8 by omega) dX5_passes_171 ?_
          refine z_iadd (pc := 172) C dX5_passes_172 ?_
          refine z_sipush (v := 1000) (pc := 173) C dX5_passes_173 (by decide) ?_
          refine z_aloadn (i := 0) (pc := 176) C dX5_passes_176 rfl rfl ?_
          refine zg_X5_slipped (pc := 177) C dX5_passes_177 iX5 f34 ?_
          refine z_iloadn (i := 1) (pc := 180) C dX5_passes_180 rfl rfl ?_
          refine z_iald (pc := 181) C 46 i (by decide) rfl rfl (show i < 8 by omega) dX5_passes_181 ?_
          refine z_imul (pc := 182) C dX5_passes_182 ?_
          refine z_iadd (pc := 183) C dX5_passes_183 ?_
          refine z_topi (y := κ 41 (κ 43 i).toNatClampNeg - κ 41 (κ 44 i).toNatClampNeg + κ 45 i + 1000 * κ 46 i) (by rw [k43, k44, nI_clamp (by omega), nI_clamp (by omega)]) ?_
          refine z_iast (pc := 184) C 48 (8 * (t + 1 - 1) + i) (by decide) rfl (zix8 rfl (by rw [k63]; exact r11) (by omega)) (show 8 * (t + 1 - 1) + i < 4008 by omega) dX5_passes_184 ?_
          refine z_mem (μ' := (zitr (zlkM (t + 1)) (i + 1) (zdM3 μ t c0 nc))) (by rw [zitr_s, ← hκ]; rfl) ?_
          refine z_iinc1 (v := 1) (pc := 185) C (by decide) (by decide) (fun w hw => by cases hw; exact (show ¬ (1 = 2) from by decide)) dX5_passes_185 ?_
          rw [nI_1]
          refine z_goto (tgt := 120) (pc := 188) C dX5_passes_188 (by decide) ?_
          exact ih (i + 1) (by omega)
    refine z_iconst (v := 0) (pc := 118) C dX5_passes_118 (by decide) ?_
    refine z_istore1 (pc := 119) C (by decide) (fun w hw => by cases hw; exact (show ¬ (1 = 2) from by decide)) dX5_passes_119 ?_
    exact loop n 0 (by omega)
  have K2 : ∀ w : Int32, zW p l e (zR 5 118 0 0) s m [Value.ref (zob E 7)].toArray below meth c E 2 0 0 (MQ below (zQv E s.heap.size (fun μ1 ov1 => μ1 = zdM μ t c0 nc n ∧ ov1 = ov)) [Value.ref (zob E 7)].toArray s 0 0 (zA E s.heap.size)) 33 [some (.ref (zob E 7)), some (.int (w))] [] (zdM2 μ t c0) ov := by
    intro w0
    have loop : ∀ (f i : Nat), i + f = nc → zW p l e (zR 5 118 0 0) s m [Value.ref (zob E 7)].toArray below meth c E 2 0 0 (MQ below (zQv E s.heap.size (fun μ1 ov1 => μ1 = zdM μ t c0 nc n ∧ ov1 = ov)) [Value.ref (zob E 7)].toArray s 0 0 (zA E s.heap.size)) 35 [some (.ref (zob E 7)), some (.int (nI i))] [] (zitr (zckM (nI (t + 1))) i (zdM2 μ t c0)) ov := by
      intro f
      induction f with
      | zero =>
        intro i hi
        obtain rfl : i = nc := by omega
        refine z_iloadn (i := 1) (pc := 35) C dX5_passes_35 rfl rfl ?_
        refine z_aloadn (i := 0) (pc := 36) C dX5_passes_36 rfl rfl ?_
        refine zg_X5_clocks (pc := 37) C dX5_passes_37 iX5 f96 ?_
        refine z_topi (y := nI i) (by rw [zitr_k (b := 63) (fun i μ => zckM_k (nI (t + 1)) (by decide) (by decide) i μ), zdM2_63 μ t c0 (by decide) (by decide)]; exact H4) ?_
        refine z_icmp_ge (tgt := 118) (pc := 40) C dX5_passes_40 (by decide) (fun c_l => ?_) (fun c_l => ?_)
        · exact K3 _
        · exact absurd (nI_le (a := i) (b := i) (Nat.le_refl _) (by omega)) c_l
      | succ f ih =>
        intro i hi
        obtain ⟨κ, hκ⟩ : ∃ κ, κ = (zitr (zckM (nI (t + 1))) i (zdM2 μ t c0)) := ⟨_, rfl⟩
        have k63 : κ 63 = zdM2 μ t c0 63 := by rw [hκ]; exact zitr_k (b := 63) (fun i μ => zckM_k (nI (t + 1)) (by decide) (by decide) i μ)
        rw [← hκ]
        refine z_iloadn (i := 1) (pc := 35) C dX5_passes_35 rfl rfl ?_
        refine z_aloadn (i := 0) (pc := 36) C dX5_passes_36 rfl rfl ?_
        refine zg_X5_clocks (pc := 37) C dX5_passes_37 iX5 f96 ?_
        refine z_icmp_ge (tgt := 118) (pc := 40) C dX5_passes_40 (by decide) (fun c_l => ?_) (fun c_l => ?_)
        · exact absurd c_l (by rw [k63, zdM2_63 μ t c0 (by decide) (by decide), H4]; exact nI_ge (by omega) (by omega))
        · refine z_aloadn (i := 0) (pc := 43) C dX5_passes_43 rfl rfl ?_
          refine zg_X5_phase (pc := 44) C dX5_passes_44 iX5 f19 ?_
          refine z_iloadn (i := 1) (pc := 47) C dX5_passes_47 rfl rfl ?_
          refine z_dup2 (pc := 48) C dX5_passes_48 rfl rfl ?_
          refine z_iald (pc := 49) C 41 i (by decide) rfl rfl (show i < 6 by omega) dX5_passes_49 ?_
          refine z_aloadn (i := 0) (pc := 50) C dX5_passes_50 rfl rfl ?_
          refine zg_X5_rate (pc := 51) C dX5_passes_51 iX5 f7 ?_
          refine z_iloadn (i := 1) (pc := 54) C dX5_passes_54 rfl rfl ?_
          refine z_iald (pc := 55) C 38 i (by decide) rfl rfl (show i < 6 by omega) dX5_passes_55 ?_
          refine z_aloadn (i := 0) (pc := 56) C dX5_passes_56 rfl rfl ?_
          refine zg_X5_height (pc := 57) C dX5_passes_57 iX5 f16 ?_
          refine z_iloadn (i := 1) (pc := 60) C dX5_passes_60 rfl rfl ?_
          refine z_iald (pc := 61) C 40 i (by decide) rfl rfl (show i < 6 by omega) dX5_passes_61 ?_
          refine z_bipush (v := 100) (pc := 62) C dX5_passes_62 (by decide) ?_
          refine z_idiv (pc := 64) C dX5_passes_64 (by decide) ?_
          refine z_iadd (pc := 65) C dX5_passes_65 ?_
          refine z_iadd (pc := 66) C dX5_passes_66 ?_
          refine z_iast (pc := 67) C 41 i (by decide) rfl rfl (show i < 6 by omega) dX5_passes_67 ?_
          refine z_mem (μ' := zphM i κ) rfl ?_
          have go : ∀ v : Int32, v = zrtM (nI (t + 1)) i (zphM i κ) → zW p l e (zR 5 118 0 0) s m [Value.ref (zob E 7)].toArray below meth c E 2 0 0 (MQ below (zQv E s.heap.size (fun μ1 ov1 => μ1 = zdM μ t c0 nc n ∧ ov1 = ov)) [Value.ref (zob E 7)].toArray s 0 0 (zA E s.heap.size)) 111 [some (.ref (zob E 7)), some (.int (nI i))] [.int (v), .int (nI i), .ref (zad E 38)] (zphM i κ) ov := by
            intro v hv
            subst hv
            refine z_iast (pc := 111) C 38 i (by decide) rfl rfl (show i < 6 by omega) dX5_passes_111 ?_
            refine z_mem (μ' := (zitr (zckM (nI (t + 1))) (i + 1) (zdM2 μ t c0))) (by rw [zitr_s, ← hκ]; rfl) ?_
            refine z_iinc1 (v := 1) (pc := 112) C (by decide) (by decide) (fun w hw => by cases hw; exact (show ¬ (1 = 2) from by decide)) dX5_passes_112 ?_
            rw [nI_1]
            refine z_goto (tgt := 35) (pc := 115) C dX5_passes_115 (by decide) ?_
            exact ih (i + 1) (by omega)
          refine z_aloadn (i := 0) (pc := 68) C dX5_passes_68 rfl rfl ?_
          refine zg_X5_rate (pc := 69) C dX5_passes_69 iX5 f7 ?_
          refine z_iloadn (i := 1) (pc := 72) C dX5_passes_72 rfl rfl ?_
          refine z_aloadn (i := 0) (pc := 73) C dX5_passes_73 rfl rfl ?_
          refine zg_X5_day (pc := 74) C dX5_passes_74 iX5 f106 ?_
          refine z_topi (y := nI (t + 1)) (by rw [zphM, zu_n _ _ _ (by decide), k63]; exact zdM2_11 μ t c0) ?_
          refine z_bipush (v := 10) (pc := 77) C dX5_passes_77 (by decide) ?_
          refine z_irem (pc := 79) C dX5_passes_79 (by decide) ?_
          refine z_if_ne (tgt := 105) (pc := 80) C dX5_passes_80 (by decide) (fun c_1 => ?_) (fun c_1 => ?_)
          · refine z_aloadn (i := 0) (pc := 105) C dX5_passes_105 rfl rfl ?_
            refine zg_X5_rate (pc := 106) C dX5_passes_106 iX5 f7 ?_
            refine z_iloadn (i := 1) (pc := 109) C dX5_passes_109 rfl rfl ?_
            refine z_iald (pc := 110) C 38 i (by decide) rfl rfl (show i < 6 by omega) dX5_passes_110 ?_
            exact go _ (by unfold zrtM; rw [if_neg c_1])
          · refine z_aloadn (i := 0) (pc := 83) C dX5_passes_83 rfl rfl ?_
            refine zg_X5_rate (pc := 84) C dX5_passes_84 iX5 f7 ?_
            refine z_iloadn (i := 1) (pc := 87) C dX5_passes_87 rfl rfl ?_
            refine z_iald (pc := 88) C 38 i (by decide) rfl rfl (show i < 6 by omega) dX5_passes_88 ?_
            refine z_aloadn (i := 0) (pc := 89) C dX5_passes_89 rfl rfl ?_
            refine zg_X5_drift (pc := 90) C dX5_passes_90 iX5 f13 ?_
            refine z_iloadn (i := 1) (pc := 93) C dX5_passes_93 rfl rfl ?_
            refine z_iald (pc := 94) C 39 i (by decide) rfl rfl (show i < 6 by omega) dX5_passes_94 ?_
            refine z_iadd (pc := 95) C dX5_passes_95 ?_
            refine z_sipush (v := 5000) (pc := 96) C dX5_passes_96 (by decide) ?_
            refine z_callSi (pc := 99) (n := 2) (As := [.int (((zphM i κ) 38 i) + ((zphM i κ) 39 i)), .int (5000)]) (rest := [.int (nI i), .ref (zad E 38)]) C (c_X5_held l E sa (μ := zphM i κ) (ov := ov) (zphM i κ 38 i + zphM i κ 39 i) 5000) gX5_passes_X5_held rfl zfV_X5_held.2 ⟨Nat.le_of_ble_eq_true rfl, Nat.le_of_ble_eq_true rfl⟩ rfl rfl (Nat.le_of_ble_eq_true rfl) ⟨Nat.zero_le _, Nat.zero_le _⟩ dX5_passes_99 (fun r9 μ9 ov9 hp => ?_)
            have e1 := hp.1.symm
            have e2 := hp.2.1.symm
            have e3 := hp.2.2.symm
            clear hp
            subst e1 e2 e3
            refine z_goto (tgt := 111) (pc := 102) C dX5_passes_102 (by decide) ?_
            exact go _ (by unfold zrtM; rw [if_pos c_1])
    refine z_iconst (v := 0) (pc := 33) C dX5_passes_33 (by decide) ?_
    refine z_istore1 (pc := 34) C (by decide) (fun w hw => by cases hw; exact (show ¬ (1 = 2) from by decide)) dX5_passes_34 ?_
    exact loop nc 0 (by omega)
  have drain : ∀ (c9 : Nat) (κ : zM), zEM κ c9 → zdr c9 κ = zdM2 μ t c0 → zW p l e (zR 5 118 0 0) s m [Value.ref (zob E 7)].toArray below meth c E 2 0 0 (MQ below (zQv E s.heap.size (fun μ1 ov1 => μ1 = zdM μ t c0 nc n ∧ ov1 = ov)) [Value.ref (zob E 7)].toArray s 0 0 (zA E s.heap.size)) 15 [some (.ref (zob E 7)), some (.int (znx κ c9))] [] κ ov := by
    intro c9
    induction c9 with
    | zero =>
      intro κ hE e
      refine z_iloadn (i := 1) (pc := 15) C dX5_passes_15 rfl rfl ?_
      refine z_iconst (v := -1) (pc := 16) C dX5_passes_16 (by decide) ?_
      refine z_icmp_eq (tgt := 33) (pc := 17) C dX5_passes_17 (by decide) (fun c_1 => ?_) (fun c_1 => ?_)
      · rw [show κ = zdM2 μ t c0 from e]
        exact K2 _
      · exact absurd rfl c_1
    | succ c9 ih =>
      intro κ hE e
      refine z_iloadn (i := 1) (pc := 15) C dX5_passes_15 rfl rfl ?_
      refine z_iconst (v := -1) (pc := 16) C dX5_passes_16 (by decide) ?_
      refine z_icmp_eq (tgt := 33) (pc := 17) C dX5_passes_17 (by decide) (fun c_1 => ?_) (fun c_1 => ?_)
      · rw [zdr, if_pos c_1] at e
        rw [e]
        exact K2 _
      · obtain ⟨j, hj, ej⟩ := (znx_r κ (c9 + 1)).resolve_left c_1
        rw [zdr, if_neg c_1, ej, nI_clamp (by have := hE.2.1; omega)] at e
        refine z_aloadn (i := 0) (pc := 20) C dX5_passes_20 rfl rfl ?_
        refine z_iloadn (i := 1) (pc := 21) C dX5_passes_21 rfl rfl ?_
        refine z_callVv (pc := 22) (n := 1) (As := [.int (znx κ (c9 + 1))]) (rest := []) C (c_X5_comes l E sa (μ := κ) (ov := ov) j c9 ej hj hE) gX5_passes_X5_comes rfl zfV_X5_comes ⟨Nat.le_of_ble_eq_true rfl, Nat.le_of_ble_eq_true rfl⟩ rfl (zRec_X5 E) rfl (Nat.le_of_ble_eq_true rfl) ⟨Nat.zero_le _, Nat.zero_le _⟩ dX5_passes_22 (fun κ9 ov9 hp => ?_)
        have e2 := hp.1.symm
        have e3 := hp.2.symm
        clear hp
        subst e2 e3
        refine z_aloadn (i := 0) (pc := 25) C dX5_passes_25 rfl rfl ?_
        refine z_callVi (pc := 26) (n := 0) (As := []) (rest := []) C (c_X5_next l E sa (μ := zcm κ j c9) (ov := ov) c9 (hE.cm hj).1 (hE.cm hj).2.1) gX5_passes_X5_next rfl zfV_X5_next ⟨Nat.le_of_ble_eq_true rfl, Nat.le_of_ble_eq_true rfl⟩ rfl (zRec_X5 E) rfl (Nat.le_of_ble_eq_true rfl) ⟨Nat.zero_le _, Nat.zero_le _⟩ dX5_passes_26 (fun r9 μ9 ov9 hp => ?_)
        have e1 := hp.1.symm
        have e2 := hp.2.1.symm
        have e3 := hp.2.2.symm
        clear hp
        subst e1 e2 e3
        refine z_istore1 (pc := 29) C (by decide) (fun w hw => by cases hw; exact (show ¬ (1 = 2) from by decide)) dX5_passes_29 ?_
        refine z_goto (tgt := 15) (pc := 30) C dX5_passes_30 (by decide) ?_
        exact ih (zcm κ j c9) (hE.cm hj) e
  refine z_mem (μ' := zdM1 μ t) rfl ?_
  refine z_aloadn (i := 0) (pc := 10) C dX5_passes_10 rfl rfl ?_
  refine z_callVi (pc := 11) (n := 0) (As := []) (rest := []) C (c_X5_next l E sa (μ := zdM1 μ t) (ov := ov) c0 (H3.d1 (t := t)).1 (H3.d1 (t := t)).2.1) gX5_passes_X5_next rfl zfV_X5_next ⟨Nat.le_of_ble_eq_true rfl, Nat.le_of_ble_eq_true rfl⟩ rfl (zRec_X5 E) rfl (Nat.le_of_ble_eq_true rfl) ⟨Nat.zero_le _, Nat.zero_le _⟩ dX5_passes_11 (fun r9 μ9 ov9 hp => ?_)
  have e1 := hp.1.symm
  have e2 := hp.2.1.symm
  have e3 := hp.2.2.symm
  clear hp
  subst e1 e2 e3
  refine z_istore1 (pc := 14) C (by decide) (fun w hw => by cases hw; exact (show ¬ (1 = 2) from by decide)) dX5_passes_14 ?_
  exact drain c0 _ H3.d1 rfl
set_option maxHeartbeats 4000000 in
set_option maxRecDepth 100000 in
theorem c_X5_pass (l : Launch) (E : zE) (sa : Nat → Nat) {μ : zM} {ov : Nat → Int64} {f : Int32} (t c0 nc n : Nat) (H : zMI μ t c0 nc n) : zMi l E sa yX5_pass wsX5_pass 6 139 0 0 [.ref (zob E 7), .int f] μ ov (fun r μ1 ov1 => (((1 ≤ f ∧ f ≤ 50) ∧ (μ 63 11 + f ≤ 500) ∧ (True)) ∧ r = nI (t + f.toNatClampNeg) ∧ μ1 = (zpsM nc n (zu μ 63 19 0) t c0 f.toNatClampNeg).1 ∧ ov1 = ov) ∨ (¬ ((1 ≤ f ∧ f ≤ 50) ∧ (μ 63 11 + f ≤ 500) ∧ (True)) ∧ r = 0 ∧ μ1 = zu μ 63 19 (zgo (1 ≤ f ∧ f ≤ 50) (μ 63 11 + f ≤ 500) (True)) ∧ ov1 = ov)) := by
  refine z_ofMi (cc := cX5_pass) (nL := 3) (ret := (some .int)) (own := RX5) zfp_X5_pass rfl (by simp [Value.category]) (Nat.le_of_ble_eq_true rfl) rfl ?_
  intro p e s m below meth c C hr hlk
  have iX5 : ∀ w ∈ wsX50, w ∈ wsX5_pass := by decide +kernel
  have f106 := C.1.2.2.2.2 (.fieldLink RX5 106 "TickFallModel" "day" "I") (by decide +kernel)
  show zW p l e (zR 6 139 0 0) s m [Value.ref (zob E 7), Value.int f].toArray below meth c E 3 0 0 (MQ below (zQi E s.heap.size (fun r μ1 ov1 => (((1 ≤ f ∧ f ≤ 50) ∧ (μ 63 11 + f ≤ 500) ∧ (True)) ∧ r = nI (t + f.toNatClampNeg) ∧ μ1 = (zpsM nc n (zu μ 63 19 0) t c0 f.toNatClampNeg).1 ∧ ov1 = ov) ∨ (¬ ((1 ≤ f ∧ f ≤ 50) ∧ (μ 63 11 + f ≤ 500) ∧ (True)) ∧ r = 0 ∧ μ1 = zu μ 63 19 (zgo (1 ≤ f ∧ f ≤ 50) (μ 63 11 + f ≤ 500) (True)) ∧ ov1 = ov))) [Value.ref (zob E 7), Value.int f].toArray s 0 0 (zA E s.heap.size)) 0 [some (.ref (zob E 7)), some (.int (f)), none] [] μ ov
  obtain ⟨H1, H2, H3, H4, H5, H6, H7, H8, H9⟩ := id H
  refine z_aloadn (i := 0) (pc := 0) C dX5_pass_0 rfl rfl ?_
  refine z_iloadn (i := 1) (pc := 1) C dX5_pass_1 rfl rfl ?_
  refine z_iconst (v := 1) (pc := 2) C dX5_pass_2 (by decide) ?_
  refine z_bipush (v := 50) (pc := 3) C dX5_pass_3 (by decide) ?_
  refine z_callSi (pc := 5) (n := 3) (As := [.int (f), .int (1), .int (50)]) (rest := [.ref (zob E 7)]) C (c_X5_in l E sa (μ := μ) (ov := ov) (f) (1) (50)) gX5_pass_X5_in rfl zfV_X5_in.2 ⟨Nat.le_of_ble_eq_true rfl, Nat.le_of_ble_eq_true rfl⟩ rfl rfl (Nat.le_of_ble_eq_true rfl) ⟨Nat.zero_le _, Nat.zero_le _⟩ dX5_pass_5 (fun r9 μ9 ov9 hp => ?_)
  have e1 := hp.1.symm
  have e2 := hp.2.1.symm
  have e3 := hp.2.2.symm
  clear hp
  subst e1 e2 e3
  have J1 : ∀ v : Int32, v = zb (μ 63 11 + f ≤ 500) → zW p l e (zR 6 139 0 0) s m [Value.ref (zob E 7), Value.int f].toArray below meth c E 3 0 0 (MQ below (zQi E s.heap.size (fun r μ1 ov1 => (((1 ≤ f ∧ f ≤ 50) ∧ (μ 63 11 + f ≤ 500) ∧ (True)) ∧ r = nI (t + f.toNatClampNeg) ∧ μ1 = (zpsM nc n (zu μ 63 19 0) t c0 f.toNatClampNeg).1 ∧ ov1 = ov) ∨ (¬ ((1 ≤ f ∧ f ≤ 50) ∧ (μ 63 11 + f ≤ 500) ∧ (True)) ∧ r = 0 ∧ μ1 = zu μ 63 19 (zgo (1 ≤ f ∧ f ≤ 50) (μ 63 11 + f ≤ 500) (True)) ∧ ov1 = ov))) [Value.ref (zob E 7), Value.int f].toArray s 0 0 (zA E s.heap.size)) 25 [some (.ref (zob E 7)), some (.int (f)), none] [.int (v), .int (zb ((1) ≤ f ∧ f ≤ 50)), .ref (zob E 7)] μ ov := by
    intro v hv
    subst hv
    refine z_iconst (v := 1) (pc := 25) C dX5_pass_25 (by decide) ?_
    refine z_callVi (pc := 26) (n := 3) (As := [.int (zb ((1) ≤ f ∧ f ≤ 50)), .int (zb (μ 63 11 + f ≤ 500)), .int (1)]) (rest := []) C (c_X5_goes l E sa (μ := μ) (ov := ov) (1 ≤ f ∧ f ≤ 50) (μ 63 11 + f ≤ 500) (True) rfl rfl (zb_t trivial).symm) gX5_pass_X5_goes rfl zfV_X5_goes ⟨Nat.le_of_ble_eq_true rfl, Nat.le_of_ble_eq_true rfl⟩ rfl (zRec_X5 E) rfl (Nat.le_of_ble_eq_true rfl) ⟨Nat.zero_le _, Nat.zero_le _⟩ dX5_pass_26 (fun r9 μ9 ov9 hp => ?_)
    have e1 := hp.1.symm
    have e2 := hp.2.1.symm
    have e3 := hp.2.2.symm
    clear hp
    subst e1 e2 e3
    refine z_if_ne (tgt := 34) (pc := 29) C dX5_pass_29 (by decide) (fun c_g => ?_) (fun c_g => ?_)
    · rw [zb_ne0] at c_g
      obtain ⟨ν, hν⟩ : ∃ ν, ν = zu μ 63 19 0 := ⟨_, rfl⟩
      have hk : ∀ b, b ≠ 63 → ν b = μ b := fun b h => by rw [hν]; exact zu_n _ _ _ h
      have h63 : ∀ j, j ≠ 19 → ν 63 j = μ 63 j := fun j h => by rw [hν, zu_s, upd_n _ _ h]
      refine z_mem (μ' := ν) (by rw [hν, zgo_t c_g]) ?_
      refine z_iconst (v := 0) (pc := 34) C dX5_pass_34 (by decide) ?_
      refine z_istore2 (pc := 35) C (by decide) (fun w hw => by cases hw; exact (show ¬ (1 = 2) from by decide)) dX5_pass_35 ?_
      have Hν : zMI ν t c0 nc n := H.nu hk h63
      obtain ⟨q, hq1, hq, hfq⟩ := znat2 (n := 50) c_g.1.1 c_g.1.2 (by omega)
      have efq : f.toNatClampNeg = q := by rw [hfq, nI_clamp (by omega)]
      have htq : t + q ≤ 500 := by have h := c_g.2.1; rw [H1, hfq, nI_add, show (500 : Int32) = nI 500 from rfl, nI_leI (by omega) (by omega)] at h; exact h
      have loop : ∀ (g i : Nat), i + g = q → zW p l e (zR 6 139 0 0) s m [Value.ref (zob E 7), Value.int f].toArray below meth c E 3 0 0 (MQ below (zQi E s.heap.size (fun r μ1 ov1 => (((1 ≤ f ∧ f ≤ 50) ∧ (μ 63 11 + f ≤ 500) ∧ (True)) ∧ r = nI (t + f.toNatClampNeg) ∧ μ1 = (zpsM nc n (zu μ 63 19 0) t c0 f.toNatClampNeg).1 ∧ ov1 = ov) ∨ (¬ ((1 ≤ f ∧ f ≤ 50) ∧ (μ 63 11 + f ≤ 500) ∧ (True)) ∧ r = 0 ∧ μ1 = zu μ 63 19 (zgo (1 ≤ f ∧ f ≤ 50) (μ 63 11 + f ≤ 500) (True)) ∧ ov1 = ov))) [Value.ref (zob E 7), Value.int f].toArray s 0 0 (zA E s.heap.size)) 36 [some (.ref (zob E 7)), some (.int (f)), some (.int (nI i))] [] ((zpsM nc n ν t c0 i).1) ov := by
        intro g
        induction g with
        | zero =>
          intro i hi
          obtain rfl : i = q := by omega
          refine z_iloadn (i := 2) (pc := 36) C dX5_pass_36 rfl rfl ?_
          refine z_iloadn (i := 1) (pc := 37) C dX5_pass_37 rfl rfl ?_
          refine z_icmp_ge (tgt := 51) (pc := 38) C dX5_pass_38 (by decide) (fun c_l => ?_) (fun c_l => ?_)
          · refine z_aloadn (i := 0) (pc := 51) C dX5_pass_51 rfl rfl ?_
            refine zg_X5_day (pc := 52) C dX5_pass_52 iX5 f106 ?_
            exact z_iret (pc := 55) C hr hlk (Or.inl ⟨c_g, by rw [efq]; exact (Hν.pas i htq).1, by rw [efq, hν], rfl⟩) (Nat.zero_le _) (Nat.zero_le _) dX5_pass_55
          · exact absurd (by rw [hfq]; exact nI_le (by omega) (by omega)) c_l
        | succ g ih =>
          intro i hi
          have Hi := Hν.pas i (by omega)
          refine z_iloadn (i := 2) (pc := 36) C dX5_pass_36 rfl rfl ?_
          refine z_iloadn (i := 1) (pc := 37) C dX5_pass_37 rfl rfl ?_
          refine z_icmp_ge (tgt := 51) (pc := 38) C dX5_pass_38 (by decide) (fun c_l => ?_) (fun c_l => ?_)
          · exact absurd c_l (by rw [hfq]; exact nI_ge (by omega) (by omega))
          · refine z_aloadn (i := 0) (pc := 41) C dX5_pass_41 rfl rfl ?_
            refine z_callVv (pc := 42) (n := 0) (As := []) (rest := []) C (c_X5_passes l E sa (μ := (zpsM nc n ν t c0 i).1) (ov := ov) (t + i) (zpsM nc n ν t c0 i).2 nc n Hi (by omega)) gX5_pass_X5_passes rfl zfV_X5_passes ⟨Nat.le_of_ble_eq_true rfl, Nat.le_of_ble_eq_true rfl⟩ rfl (zRec_X5 E) rfl (Nat.le_of_ble_eq_true rfl) ⟨Nat.zero_le _, Nat.zero_le _⟩ dX5_pass_42 (fun μ9 ov9 hp => ?_)
            have e2 := hp.1.symm
            have e3 := hp.2.symm
            clear hp
            subst e2 e3
            refine z_iinc2 (v := 1) (pc := 45) C (by decide) (by decide) (fun w hw => by cases hw; exact (show ¬ (1 = 2) from by decide)) dX5_pass_45 ?_
            rw [nI_1]
            refine z_goto (tgt := 36) (pc := 48) C dX5_pass_48 (by decide) ?_
            exact ih (i + 1) (by omega)
      exact loop q 0 (by omega)
    · rw [zb_eq0] at c_g
      refine z_iconst (v := 0) (pc := 32) C dX5_pass_32 (by decide) ?_
      exact z_iret (pc := 33) C hr hlk (Or.inr ⟨c_g, rfl, rfl, rfl⟩) (Nat.zero_le _) (Nat.zero_le _) dX5_pass_33
  refine z_aloadn (i := 0) (pc := 8) C dX5_pass_8 rfl rfl ?_
  refine zg_X5_day (pc := 9) C dX5_pass_9 iX5 f106 ?_
  refine z_iloadn (i := 1) (pc := 12) C dX5_pass_12 rfl rfl ?_
  refine z_iadd (pc := 13) C dX5_pass_13 ?_
  refine z_sipush (v := 500) (pc := 14) C dX5_pass_14 (by decide) ?_
  refine z_icmp_gt (tgt := 24) (pc := 17) C dX5_pass_17 (by decide) (fun c_2 => ?_) (fun c_2 => ?_)
  · refine z_iconst (v := 0) (pc := 24) C dX5_pass_24 (by decide) ?_
    exact J1 _ (zb_f (fun h => zno_lt c_2 (h))).symm
  · refine z_iconst (v := 1) (pc := 20) C dX5_pass_20 (by decide) ?_
    refine z_goto (tgt := 25) (pc := 21) C dX5_pass_21 (by decide) ?_
    exact J1 _ (zb_t (znot_lt c_2)).symm
set_option maxHeartbeats 4000000 in
set_option maxRecDepth 100000 in
theorem c_X5_mean (l : Launch) (E : zE) (sa : Nat → Nat) {μ : zM} {ov : Nat → Int64} {d : Int32} (t c0 nc n : Nat) (H : zMI μ t c0 nc n) : zMi l E sa yX5_mean wsX5_mean 5 118 0 0 [.ref (zob E 7), .int d] μ ov (fun r μ1 ov1 => ((((1 ≤ d ∧ d ≤ μ 63 11) ∧ 0 < μ 63 12) ∧ (True) ∧ (True)) ∧ r = zmeanM μ d.toNatClampNeg n nc ∧ μ1 = zu μ 63 19 0 ∧ ov1 = ov) ∨ (¬ (((1 ≤ d ∧ d ≤ μ 63 11) ∧ 0 < μ 63 12) ∧ (True) ∧ (True)) ∧ r = 0 ∧ μ1 = zu μ 63 19 (zgo ((1 ≤ d ∧ d ≤ μ 63 11) ∧ 0 < μ 63 12) (True) (True)) ∧ ov1 = ov)) := by
  refine z_ofMi (cc := cX5_mean) (nL := 2) (ret := (some .int)) (own := RX5) zfp_X5_mean rfl (by simp [Value.category]) (Nat.le_of_ble_eq_true rfl) rfl ?_
  intro p e s m below meth c C hr hlk
  have iX5 : ∀ w ∈ wsX50, w ∈ wsX5_mean := by decide +kernel
  have f96 := C.1.2.2.2.2 (.fieldLink RX5 96 "TickFallModel" "clocks" "I") (by decide +kernel)
  show zW p l e (zR 5 118 0 0) s m [Value.ref (zob E 7), Value.int d].toArray below meth c E 2 0 0 (MQ below (zQi E s.heap.size (fun r μ1 ov1 => ((((1 ≤ d ∧ d ≤ μ 63 11) ∧ 0 < μ 63 12) ∧ (True) ∧ (True)) ∧ r = zmeanM μ d.toNatClampNeg n nc ∧ μ1 = zu μ 63 19 0 ∧ ov1 = ov) ∨ (¬ (((1 ≤ d ∧ d ≤ μ 63 11) ∧ 0 < μ 63 12) ∧ (True) ∧ (True)) ∧ r = 0 ∧ μ1 = zu μ 63 19 (zgo ((1 ≤ d ∧ d ≤ μ 63 11) ∧ 0 < μ 63 12) (True) (True)) ∧ ov1 = ov))) [Value.ref (zob E 7), Value.int d].toArray s 0 0 (zA E s.heap.size)) 0 [some (.ref (zob E 7)), some (.int (d))] [] μ ov
  obtain ⟨H1, H2, H3, H4, H5, H6, H7, H8, H9⟩ := id H
  refine z_aloadn (i := 0) (pc := 0) C dX5_mean_0 rfl rfl ?_
  have J1 : ∀ v : Int32, v = zb ((1 ≤ d ∧ d ≤ μ 63 11) ∧ 0 < μ 63 12) → zW p l e (zR 5 118 0 0) s m [Value.ref (zob E 7), Value.int d].toArray below meth c E 2 0 0 (MQ below (zQi E s.heap.size (fun r μ1 ov1 => ((((1 ≤ d ∧ d ≤ μ 63 11) ∧ 0 < μ 63 12) ∧ (True) ∧ (True)) ∧ r = zmeanM μ d.toNatClampNeg n nc ∧ μ1 = zu μ 63 19 0 ∧ ov1 = ov) ∨ (¬ (((1 ≤ d ∧ d ≤ μ 63 11) ∧ 0 < μ 63 12) ∧ (True) ∧ (True)) ∧ r = 0 ∧ μ1 = zu μ 63 19 (zgo ((1 ≤ d ∧ d ≤ μ 63 11) ∧ 0 < μ 63 12) (True) (True)) ∧ ov1 = ov))) [Value.ref (zob E 7), Value.int d].toArray s 0 0 (zA E s.heap.size)) 21 [some (.ref (zob E 7)), some (.int (d))] [.int (v), .ref (zob E 7)] μ ov := by
    intro v hv
    subst hv
    refine z_iconst (v := 1) (pc := 21) C dX5_mean_21 (by decide) ?_
    refine z_iconst (v := 1) (pc := 22) C dX5_mean_22 (by decide) ?_
    refine z_callVi (pc := 23) (n := 3) (As := [.int (zb ((1 ≤ d ∧ d ≤ μ 63 11) ∧ 0 < μ 63 12)), .int (1), .int (1)]) (rest := []) C (c_X5_goes l E sa (μ := μ) (ov := ov) ((1 ≤ d ∧ d ≤ μ 63 11) ∧ 0 < μ 63 12) (True) (True) rfl (zb_t trivial).symm (zb_t trivial).symm) gX5_mean_X5_goes rfl zfV_X5_goes ⟨Nat.le_of_ble_eq_true rfl, Nat.le_of_ble_eq_true rfl⟩ rfl (zRec_X5 E) rfl (Nat.le_of_ble_eq_true rfl) ⟨Nat.zero_le _, Nat.zero_le _⟩ dX5_mean_23 (fun r9 μ9 ov9 hp => ?_)
    have e1 := hp.1.symm
    have e2 := hp.2.1.symm
    have e3 := hp.2.2.symm
    clear hp
    subst e1 e2 e3
    refine z_if_eq (tgt := 37) (pc := 26) C dX5_mean_26 (by decide) (fun c_g => ?_) (fun c_g => ?_)
    · rw [zb_eq0] at c_g
      refine z_iconst (v := 0) (pc := 37) C dX5_mean_37 (by decide) ?_
      exact z_iret (pc := 38) C hr hlk (Or.inr ⟨c_g, rfl, rfl, rfl⟩) (Nat.zero_le _) (Nat.zero_le _) dX5_mean_38
    · rw [zb_ne0] at c_g
      obtain ⟨ν, hν⟩ : ∃ ν, ν = zu μ 63 19 0 := ⟨_, rfl⟩
      have hk : ∀ b, b ≠ 63 → ν b = μ b := fun b h => by rw [hν]; exact zu_n _ _ _ h
      have h63 : ∀ j, j ≠ 19 → ν 63 j = μ 63 j := fun j h => by rw [hν, zu_s, upd_n _ _ h]
      refine z_mem (μ' := ν) (by rw [hν, zgo_t c_g]) ?_
      obtain ⟨q, h1q, hq, hdq⟩ := znat2 (n := t) c_g.1.1.1 (by rw [← H1]; exact c_g.1.1.2) (by omega)
      have edq : d.toNatClampNeg = q := by rw [hdq, nI_clamp (by omega)]
      have Hν : zMI ν t c0 nc n := H.nu hk h63
      obtain ⟨N1, N2, N3, N4, N5, N6, N7, N8, N9⟩ := id Hν
      refine z_aloadn (i := 0) (pc := 29) C dX5_mean_29 rfl rfl ?_
      refine z_iloadn (i := 1) (pc := 30) C dX5_mean_30 rfl rfl ?_
      refine z_callVi (pc := 31) (n := 1) (As := [.int (d)]) (rest := []) C (c_X5_meanOf l E sa (μ := ν) (ov := ov) q nc hdq h1q (by omega) N4 N5 n N6 N7 N9) gX5_mean_X5_meanOf rfl zfV_X5_meanOf ⟨Nat.le_of_ble_eq_true rfl, Nat.le_of_ble_eq_true rfl⟩ rfl (zRec_X5 E) rfl (Nat.le_of_ble_eq_true rfl) ⟨Nat.zero_le _, Nat.zero_le _⟩ dX5_mean_31 (fun r9 μ9 ov9 hp => ?_)
      have e1 := hp.1.symm
      have e2 := hp.2.1.symm
      have e3 := hp.2.2.symm
      clear hp
      subst e1 e2 e3
      refine z_goto (tgt := 38) (pc := 34) C dX5_mean_34 (by decide) ?_
      exact z_iret (pc := 38) C hr hlk (Or.inl ⟨c_g, by rw [edq, zmeanM_cg hk h63], hν, rfl⟩) (Nat.zero_le _) (Nat.zero_le _) dX5_mean_38
  refine z_aloadn (i := 0) (pc := 1) C dX5_mean_1 rfl rfl ?_
  refine z_iloadn (i := 1) (pc := 2) C dX5_mean_2 rfl rfl ?_
  refine z_callVi (pc := 3) (n := 1) (As := [.int (d)]) (rest := [.ref (zob E 7)]) C (c_X5_isDay l E sa (μ := μ) (ov := ov) d) gX5_mean_X5_isDay rfl zfV_X5_isDay ⟨Nat.le_of_ble_eq_true rfl, Nat.le_of_ble_eq_true rfl⟩ rfl (zRec_X5 E) rfl (Nat.le_of_ble_eq_true rfl) ⟨Nat.zero_le _, Nat.zero_le _⟩ dX5_mean_3 (fun r9 μ9 ov9 hp => ?_)
  have e1 := hp.1.symm
  have e2 := hp.2.1.symm
  have e3 := hp.2.2.symm
  clear hp
  subst e1 e2 e3
  refine z_if_eq (tgt := 20) (pc := 6) C dX5_mean_6 (by decide) (fun c_1 => ?_) (fun c_1 => ?_)
  · rw [zb_eq0] at c_1
    refine z_iconst (v := 0) (pc := 20) C dX5_mean_20 (by decide) ?_
    exact J1 _ (zb_f (fun h => c_1 (h.1))).symm
  · rw [zb_ne0] at c_1
    refine z_aloadn (i := 0) (pc := 9) C dX5_mean_9 rfl rfl ?_
    refine zg_X5_clocks (pc := 10) C dX5_mean_10 iX5 f96 ?_
    refine z_if_le (tgt := 20) (pc := 13) C dX5_mean_13 (by decide) (fun c_2 => ?_) (fun c_2 => ?_)
    · refine z_iconst (v := 0) (pc := 20) C dX5_mean_20 (by decide) ?_
      exact J1 _ (zb_f (fun h => zno_le c_2 (h.2))).symm
    · refine z_iconst (v := 1) (pc := 16) C dX5_mean_16 (by decide) ?_
      refine z_goto (tgt := 21) (pc := 17) C dX5_mean_17 (by decide) ?_
      exact J1 _ (zb_t ⟨c_1, (znot_le c_2)⟩).symm
set_option maxHeartbeats 4000000 in
set_option maxRecDepth 100000 in
theorem c_X5_published (l : Launch) (E : zE) (sa : Nat → Nat) {μ : zM} {ov : Nat → Int64} {d b : Int32} (t c0 nc n : Nat) (H : zMI μ t c0 nc n) : zMi l E sa yX5_published wsX5_published 5 118 0 0 [.ref (zob E 7), .int d, .int b] μ ov (fun r μ1 ov1 => (((1 ≤ d ∧ d ≤ μ 63 11) ∧ (True) ∧ (True)) ∧ r = (if b = 0 then μ 57 d.toNatClampNeg else zanM μ n nc d.toNatClampNeg) ∧ μ1 = zu μ 63 19 0 ∧ ov1 = ov) ∨ (¬ ((1 ≤ d ∧ d ≤ μ 63 11) ∧ (True) ∧ (True)) ∧ r = 0 ∧ μ1 = zu μ 63 19 (zgo (1 ≤ d ∧ d ≤ μ 63 11) (True) (True)) ∧ ov1 = ov)) := by
  refine z_ofMi (cc := cX5_published) (nL := 5) (ret := (some .int)) (own := RX5) zfp_X5_published rfl (by simp [Value.category]) (Nat.le_of_ble_eq_true rfl) rfl ?_
  intro p e s m below meth c C hr hlk
  have iX5 : ∀ w ∈ wsX50, w ∈ wsX5_published := by decide +kernel
  have f67 := C.1.2.2.2.2 (.fieldLink RX5 67 "TickFallModel" "told" "[I") (by decide +kernel)
  have f90 := C.1.2.2.2.2 (.fieldLink RX5 90 "TickFallModel" "step" "I") (by decide +kernel)
  show zW p l e (zR 5 118 0 0) s m [Value.ref (zob E 7), Value.int d, Value.int b].toArray below meth c E 5 0 0 (MQ below (zQi E s.heap.size (fun r μ1 ov1 => (((1 ≤ d ∧ d ≤ μ 63 11) ∧ (True) ∧ (True)) ∧ r = (if b = 0 then μ 57 d.toNatClampNeg else zanM μ n nc d.toNatClampNeg) ∧ μ1 = zu μ 63 19 0 ∧ ov1 = ov) ∨ (¬ ((1 ≤ d ∧ d ≤ μ 63 11) ∧ (True) ∧ (True)) ∧ r = 0 ∧ μ1 = zu μ 63 19 (zgo (1 ≤ d ∧ d ≤ μ 63 11) (True) (True)) ∧ ov1 = ov))) [Value.ref (zob E 7), Value.int d, Value.int b].toArray s 0 0 (zA E s.heap.size)) 0 [some (.ref (zob E 7)), some (.int (d)), some (.int (b)), none, none] [] μ ov
  obtain ⟨H1, H2, H3, H4, H5, H6, H7, H8, H9⟩ := id H
  refine z_aloadn (i := 0) (pc := 0) C dX5_published_0 rfl rfl ?_
  refine z_aloadn (i := 0) (pc := 1) C dX5_published_1 rfl rfl ?_
  refine z_iloadn (i := 1) (pc := 2) C dX5_published_2 rfl rfl ?_
  refine z_callVi (pc := 3) (n := 1) (As := [.int (d)]) (rest := [.ref (zob E 7)]) C (c_X5_isDay l E sa (μ := μ) (ov := ov) d) gX5_published_X5_isDay rfl zfV_X5_isDay ⟨Nat.le_of_ble_eq_true rfl, Nat.le_of_ble_eq_true rfl⟩ rfl (zRec_X5 E) rfl (Nat.le_of_ble_eq_true rfl) ⟨Nat.zero_le _, Nat.zero_le _⟩ dX5_published_3 (fun r9 μ9 ov9 hp => ?_)
  have e1 := hp.1.symm
  have e2 := hp.2.1.symm
  have e3 := hp.2.2.symm
  clear hp
  subst e1 e2 e3
  refine z_iconst (v := 1) (pc := 6) C dX5_published_6 (by decide) ?_
  refine z_iconst (v := 1) (pc := 7) C dX5_published_7 (by decide) ?_
  refine z_callVi (pc := 8) (n := 3) (As := [.int (zb (1 ≤ d ∧ d ≤ μ 63 11)), .int (1), .int (1)]) (rest := []) C (c_X5_goes l E sa (μ := μ) (ov := ov) (1 ≤ d ∧ d ≤ μ 63 11) (True) (True) rfl (zb_t trivial).symm (zb_t trivial).symm) gX5_published_X5_goes rfl zfV_X5_goes ⟨Nat.le_of_ble_eq_true rfl, Nat.le_of_ble_eq_true rfl⟩ rfl (zRec_X5 E) rfl (Nat.le_of_ble_eq_true rfl) ⟨Nat.zero_le _, Nat.zero_le _⟩ dX5_published_8 (fun r9 μ9 ov9 hp => ?_)
  have e1 := hp.1.symm
  have e2 := hp.2.1.symm
  have e3 := hp.2.2.symm
  clear hp
  subst e1 e2 e3
  refine z_if_ne (tgt := 16) (pc := 11) C dX5_published_11 (by decide) (fun c_g => ?_) (fun c_g => ?_)
  · rw [zb_ne0] at c_g
    obtain ⟨ν, hν⟩ : ∃ ν, ν = zu μ 63 19 0 := ⟨_, rfl⟩
    have hk : ∀ b, b ≠ 63 → ν b = μ b := fun b h => by rw [hν]; exact zu_n _ _ _ h
    have h63 : ∀ j, j ≠ 19 → ν 63 j = μ 63 j := fun j h => by rw [hν, zu_s, upd_n _ _ h]
    refine z_mem (μ' := ν) (by rw [hν, zgo_t c_g]) ?_
    obtain ⟨q, h1q, hq, hdq⟩ := znat2 (n := t) c_g.1.1 (by rw [← H1]; exact c_g.1.2) (by omega)
    have edq : d.toNatClampNeg = q := by rw [hdq, nI_clamp (by omega)]
    have Hν : zMI ν t c0 nc n := H.nu hk h63
    obtain ⟨N1, N2, N3, N4, N5, N6, N7, N8, N9⟩ := id Hν
    refine z_iloadn (i := 2) (pc := 16) C dX5_published_16 rfl rfl ?_
    refine z_if_ne (tgt := 27) (pc := 17) C dX5_published_17 (by decide) (fun c_1 => ?_) (fun c_1 => ?_)
    · refine z_iconst (v := 0) (pc := 27) C dX5_published_27 (by decide) ?_
      refine z_istore3 (pc := 28) C (by decide) (fun w hw => by cases hw; exact (show ¬ (1 = 2) from by decide)) dX5_published_28 ?_
      refine z_iconst (v := 1) (pc := 29) C dX5_published_29 (by decide) ?_
      refine z_istore4 (pc := 30) C (by decide) (fun w hw => by cases hw; exact (show ¬ (1 = 2) from by decide)) dX5_published_30 ?_
      have loop : ∀ (f i : Nat), i + f = q → zW p l e (zR 5 118 0 0) s m [Value.ref (zob E 7), Value.int d, Value.int b].toArray below meth c E 5 0 0 (MQ below (zQi E s.heap.size (fun r μ1 ov1 => (((1 ≤ d ∧ d ≤ μ 63 11) ∧ (True) ∧ (True)) ∧ r = (if b = 0 then μ 57 d.toNatClampNeg else zanM μ n nc d.toNatClampNeg) ∧ μ1 = zu μ 63 19 0 ∧ ov1 = ov) ∨ (¬ ((1 ≤ d ∧ d ≤ μ 63 11) ∧ (True) ∧ (True)) ∧ r = 0 ∧ μ1 = zu μ 63 19 (zgo (1 ≤ d ∧ d ≤ μ 63 11) (True) (True)) ∧ ov1 = ov))) [Value.ref (zob E 7), Value.int d, Value.int b].toArray s 0 0 (zA E s.heap.size)) 32 [some (.ref (zob E 7)), some (.int (d)), some (.int (b)), some (.int (zanM ν n nc i)), some (.int (nI (i + 1)))] [] ν ov := by
        intro f
        induction f with
        | zero =>
          intro i hi
          obtain rfl : i = q := by omega
          refine z_iload (i := 4) (pc := 32) C dX5_published_32 rfl ?_
          refine z_iloadn (i := 1) (pc := 34) C dX5_published_34 rfl rfl ?_
          refine z_icmp_gt (tgt := 62) (pc := 35) C dX5_published_35 (by decide) (fun c_l => ?_) (fun c_l => ?_)
          · refine z_iloadn (i := 3) (pc := 62) C dX5_published_62 rfl rfl ?_
            exact z_iret (pc := 63) C hr hlk (Or.inl ⟨c_g, by rw [if_neg c_1, edq, zanM_cg hk h63], hν, rfl⟩) (Nat.zero_le _) (Nat.zero_le _) dX5_published_63
          · exact absurd (by rw [hdq, nI_ltI (by omega) (by omega)]; omega) c_l
        | succ f ih =>
          intro i hi
          refine z_iload (i := 4) (pc := 32) C dX5_published_32 rfl ?_
          refine z_iloadn (i := 1) (pc := 34) C dX5_published_34 rfl rfl ?_
          refine z_icmp_gt (tgt := 62) (pc := 35) C dX5_published_35 (by decide) (fun c_l => ?_) (fun c_l => ?_)
          · exact absurd c_l (by rw [hdq, nI_ltI (by omega) (by omega)]; omega)
          · refine z_iloadn (i := 3) (pc := 38) C dX5_published_38 rfl rfl ?_
            refine z_aloadn (i := 0) (pc := 39) C dX5_published_39 rfl rfl ?_
            refine z_iload (i := 4) (pc := 40) C dX5_published_40 rfl ?_
            refine z_callVi (pc := 42) (n := 1) (As := [.int (nI (i + 1))]) (rest := [.int (zanM ν n nc i)]) C (c_X5_meanOf l E sa (μ := ν) (ov := ov) (i + 1) nc rfl (by omega) (by omega) N4 N5 n N6 N7 N9) gX5_published_X5_meanOf rfl zfV_X5_meanOf ⟨Nat.le_of_ble_eq_true rfl, Nat.le_of_ble_eq_true rfl⟩ rfl (zRec_X5 E) rfl (Nat.le_of_ble_eq_true rfl) ⟨Nat.zero_le _, Nat.zero_le _⟩ dX5_published_42 (fun r9 μ9 ov9 hp => ?_)
            have e1 := hp.1.symm
            have e2 := hp.2.1.symm
            have e3 := hp.2.2.symm
            clear hp
            subst e1 e2 e3
            refine z_iloadn (i := 3) (pc := 45) C dX5_published_45 rfl rfl ?_
            refine z_isub (pc := 46) C dX5_published_46 ?_
            refine z_aloadn (i := 0) (pc := 47) C dX5_published_47 rfl rfl ?_
            refine zg_X5_step (pc := 48) C dX5_published_48 iX5 f90 ?_
            refine z_callSi (pc := 51) (n := 2) (As := [.int ((zmeanM ν (i + 1) n nc) - (zanM ν n nc i)), .int (ν 63 16)]) (rest := [.int (zanM ν n nc i)]) C (c_X5_held l E sa (μ := ν) (ov := ov) (zmeanM ν (i + 1) n nc - zanM ν n nc i) (ν 63 16)) gX5_published_X5_held rfl zfV_X5_held.2 ⟨Nat.le_of_ble_eq_true rfl, Nat.le_of_ble_eq_true rfl⟩ rfl rfl (Nat.le_of_ble_eq_true rfl) ⟨Nat.zero_le _, Nat.zero_le _⟩ dX5_published_51 (fun r9 μ9 ov9 hp => ?_)
            have e1 := hp.1.symm
            have e2 := hp.2.1.symm
            have e3 := hp.2.2.symm
            clear hp
            subst e1 e2 e3
            refine z_iadd (pc := 54) C dX5_published_54 ?_
            refine z_topi (y := zanM ν n nc (i + 1)) rfl ?_
            refine z_istore3 (pc := 55) C (by decide) (fun w hw => by cases hw; exact (show ¬ (1 = 2) from by decide)) dX5_published_55 ?_
            refine z_iinc4 (v := 1) (pc := 56) C (by decide) (by decide) (fun w hw => by cases hw; exact (show ¬ (1 = 2) from by decide)) dX5_published_56 ?_
            rw [nI_1]
            refine z_goto (tgt := 32) (pc := 59) C dX5_published_59 (by decide) ?_
            exact ih (i + 1) (by omega)
      exact loop q 0 (by omega)
    · refine z_aloadn (i := 0) (pc := 20) C dX5_published_20 rfl rfl ?_
      refine zg_X5_told (pc := 21) C dX5_published_21 iX5 f67 ?_
      refine z_iloadn (i := 1) (pc := 24) C dX5_published_24 rfl rfl ?_
      refine z_iald (pc := 25) C 57 q (by decide) rfl hdq (show q < 501 by omega) dX5_published_25 ?_
      exact z_iret (pc := 26) C hr hlk (Or.inl ⟨c_g, by rw [if_pos c_1, edq, hk 57 (by decide)], hν, rfl⟩) (Nat.zero_le _) (Nat.zero_le _) dX5_published_26
  · rw [zb_eq0] at c_g
    refine z_iconst (v := 0) (pc := 14) C dX5_published_14 (by decide) ?_
    exact z_iret (pc := 15) C hr hlk (Or.inr ⟨c_g, rfl, rfl, rfl⟩) (Nat.zero_le _) (Nat.zero_le _) dX5_published_15
set_option maxHeartbeats 4000000 in
set_option maxRecDepth 100000 in
theorem c_X5_height (l : Launch) (E : zE) (sa : Nat → Nat) {μ : zM} {ov : Nat → Int64} {i f g w : Int32} (t c0 nc n : Nat) (H : zMI μ t c0 nc n) : zMi l E sa yX5_height wsX5_height 3 65 0 0 [.ref (zob E 7), .int i, .int f, .int g, .int w] μ ov (fun r μ1 ov1 => (((zmeaM μ i f ∧ zmeaM μ i g) ∧ (f < g ∧ -1000 ≤ w ∧ w ≤ 1000) ∧ (True)) ∧ r = (100 * (zcorM μ i.toNatClampNeg g.toNatClampNeg - zcorM μ i.toNatClampNeg f.toNatClampNeg - w * (g - f)).toInt64 / (g - f).toInt64).toInt32 ∧ μ1 = zu μ 63 19 0 ∧ ov1 = ov) ∨ (¬ ((zmeaM μ i f ∧ zmeaM μ i g) ∧ (f < g ∧ -1000 ≤ w ∧ w ≤ 1000) ∧ (True)) ∧ r = 0 ∧ μ1 = zu μ 63 19 (zgo (zmeaM μ i f ∧ zmeaM μ i g) (f < g ∧ -1000 ≤ w ∧ w ≤ 1000) (True)) ∧ ov1 = ov)) := by
  refine z_ofMi (cc := cX5_height) (nL := 9) (ret := (some .int)) (own := RX5) zfp_X5_height rfl (by simp [Value.category]) (Nat.le_of_ble_eq_true rfl) rfl ?_
  intro p e s m below meth c C hr hlk
  show zW p l e (zR 3 65 0 0) s m [Value.ref (zob E 7), Value.int i, Value.int f, Value.int g, Value.int w].toArray below meth c E 9 0 0 (MQ below (zQi E s.heap.size (fun r μ1 ov1 => (((zmeaM μ i f ∧ zmeaM μ i g) ∧ (f < g ∧ -1000 ≤ w ∧ w ≤ 1000) ∧ (True)) ∧ r = (100 * (zcorM μ i.toNatClampNeg g.toNatClampNeg - zcorM μ i.toNatClampNeg f.toNatClampNeg - w * (g - f)).toInt64 / (g - f).toInt64).toInt32 ∧ μ1 = zu μ 63 19 0 ∧ ov1 = ov) ∨ (¬ ((zmeaM μ i f ∧ zmeaM μ i g) ∧ (f < g ∧ -1000 ≤ w ∧ w ≤ 1000) ∧ (True)) ∧ r = 0 ∧ μ1 = zu μ 63 19 (zgo (zmeaM μ i f ∧ zmeaM μ i g) (f < g ∧ -1000 ≤ w ∧ w ≤ 1000) (True)) ∧ ov1 = ov))) [Value.ref (zob E 7), Value.int i, Value.int f, Value.int g, Value.int w].toArray s 0 0 (zA E s.heap.size)) 0 [some (.ref (zob E 7)), some (.int (i)), some (.int (f)), some (.int (g)), some (.int (w)), none, none, none, none] [] μ ov
  obtain ⟨H1, H2, H3, H4, H5, H6, H7, H8, H9⟩ := id H
  have J1 : ∀ v : Int32, v = zb (zmeaM μ i f ∧ zmeaM μ i g) → zW p l e (zR 3 65 0 0) s m [Value.ref (zob E 7), Value.int i, Value.int f, Value.int g, Value.int w].toArray below meth c E 9 0 0 (MQ below (zQi E s.heap.size (fun r μ1 ov1 => (((zmeaM μ i f ∧ zmeaM μ i g) ∧ (f < g ∧ -1000 ≤ w ∧ w ≤ 1000) ∧ (True)) ∧ r = (100 * (zcorM μ i.toNatClampNeg g.toNatClampNeg - zcorM μ i.toNatClampNeg f.toNatClampNeg - w * (g - f)).toInt64 / (g - f).toInt64).toInt32 ∧ μ1 = zu μ 63 19 0 ∧ ov1 = ov) ∨ (¬ ((zmeaM μ i f ∧ zmeaM μ i g) ∧ (f < g ∧ -1000 ≤ w ∧ w ≤ 1000) ∧ (True)) ∧ r = 0 ∧ μ1 = zu μ 63 19 (zgo (zmeaM μ i f ∧ zmeaM μ i g) (f < g ∧ -1000 ≤ w ∧ w ≤ 1000) (True)) ∧ ov1 = ov))) [Value.ref (zob E 7), Value.int i, Value.int f, Value.int g, Value.int w].toArray s 0 0 (zA E s.heap.size)) 23 [some (.ref (zob E 7)), some (.int (i)), some (.int (f)), some (.int (g)), some (.int (w)), none, none, none, none] [.int (v)] μ ov := by
    intro v hv
    subst hv
    refine z_istore5 (pc := 23) C (by decide) (fun w hw => by cases hw; exact (show ¬ (1 = 2) from by decide)) dX5_height_23 ?_
    refine z_aloadn (i := 0) (pc := 25) C dX5_height_25 rfl rfl ?_
    refine z_iload (i := 5) (pc := 26) C dX5_height_26 rfl ?_
    have J2 : ∀ v : Int32, v = zb (f < g ∧ -1000 ≤ w ∧ w ≤ 1000) → zW p l e (zR 3 65 0 0) s m [Value.ref (zob E 7), Value.int i, Value.int f, Value.int g, Value.int w].toArray below meth c E 9 0 0 (MQ below (zQi E s.heap.size (fun r μ1 ov1 => (((zmeaM μ i f ∧ zmeaM μ i g) ∧ (f < g ∧ -1000 ≤ w ∧ w ≤ 1000) ∧ (True)) ∧ r = (100 * (zcorM μ i.toNatClampNeg g.toNatClampNeg - zcorM μ i.toNatClampNeg f.toNatClampNeg - w * (g - f)).toInt64 / (g - f).toInt64).toInt32 ∧ μ1 = zu μ 63 19 0 ∧ ov1 = ov) ∨ (¬ ((zmeaM μ i f ∧ zmeaM μ i g) ∧ (f < g ∧ -1000 ≤ w ∧ w ≤ 1000) ∧ (True)) ∧ r = 0 ∧ μ1 = zu μ 63 19 (zgo (zmeaM μ i f ∧ zmeaM μ i g) (f < g ∧ -1000 ≤ w ∧ w ≤ 1000) (True)) ∧ ov1 = ov))) [Value.ref (zob E 7), Value.int i, Value.int f, Value.int g, Value.int w].toArray s 0 0 (zA E s.heap.size)) 52 [some (.ref (zob E 7)), some (.int (i)), some (.int (f)), some (.int (g)), some (.int (w)), some (.int (zb (zmeaM μ i f ∧ zmeaM μ i g))), none, none, none] [.int (v), .int (zb (zmeaM μ i f ∧ zmeaM μ i g)), .ref (zob E 7)] μ ov := by
      intro v hv
      subst hv
      refine z_iconst (v := 1) (pc := 52) C dX5_height_52 (by decide) ?_
      refine z_callVi (pc := 53) (n := 3) (As := [.int (zb (zmeaM μ i f ∧ zmeaM μ i g)), .int (zb (f < g ∧ -1000 ≤ w ∧ w ≤ 1000)), .int (1)]) (rest := []) C (c_X5_goes l E sa (μ := μ) (ov := ov) (zmeaM μ i f ∧ zmeaM μ i g) (f < g ∧ -1000 ≤ w ∧ w ≤ 1000) (True) rfl rfl (zb_t trivial).symm) gX5_height_X5_goes rfl zfV_X5_goes ⟨Nat.le_of_ble_eq_true rfl, Nat.le_of_ble_eq_true rfl⟩ rfl (zRec_X5 E) rfl (Nat.le_of_ble_eq_true rfl) ⟨Nat.zero_le _, Nat.zero_le _⟩ dX5_height_53 (fun r9 μ9 ov9 hp => ?_)
      have e1 := hp.1.symm
      have e2 := hp.2.1.symm
      have e3 := hp.2.2.symm
      clear hp
      subst e1 e2 e3
      refine z_if_ne (tgt := 61) (pc := 56) C dX5_height_56 (by decide) (fun c_g => ?_) (fun c_g => ?_)
      · rw [zb_ne0] at c_g
        obtain ⟨ν, hν⟩ : ∃ ν, ν = zu μ 63 19 0 := ⟨_, rfl⟩
        have hk : ∀ b, b ≠ 63 → ν b = μ b := fun b h => by rw [hν]; exact zu_n _ _ _ h
        have h63 : ∀ j, j ≠ 19 → ν 63 j = μ 63 j := fun j h => by rw [hν, zu_s, upd_n _ _ h]
        refine z_mem (μ' := ν) (by rw [hν, zgo_t c_g]) ?_
        obtain ⟨q1, h1q1, hq1, hdq1⟩ := znat2 (n := t) c_g.1.1.1.1 (by rw [← H1]; exact c_g.1.1.1.2) (by omega)
        have edq1 : f.toNatClampNeg = q1 := by rw [hdq1, nI_clamp (by omega)]
        obtain ⟨q2, h1q2, hq2, hdq2⟩ := znat2 (n := t) c_g.1.2.1.1 (by rw [← H1]; exact c_g.1.2.1.2) (by omega)
        have edq2 : g.toNatClampNeg = q2 := by rw [hdq2, nI_clamp (by omega)]
        obtain ⟨k, hkk, hik⟩ := znat (n := n) c_g.1.1.2.1.1 (by rw [← H6]; exact c_g.1.1.2.1.2) (by omega)
        have eik : i.toNatClampNeg = k := by rw [hik, nI_clamp (by omega)]
        have Hν : zMI ν t c0 nc n := H.nu hk h63
        obtain ⟨N1, N2, N3, N4, N5, N6, N7, N8, N9⟩ := id Hν
        refine z_iloadn (i := 3) (pc := 61) C dX5_height_61 rfl rfl ?_
        refine z_iloadn (i := 2) (pc := 62) C dX5_height_62 rfl rfl ?_
        refine z_isub (pc := 63) C dX5_height_63 ?_
        refine z_istore6 (pc := 64) C (by decide) (fun w hw => by cases hw; exact (show ¬ (1 = 2) from by decide)) dX5_height_64 ?_
        refine z_aloadn (i := 0) (pc := 66) C dX5_height_66 rfl rfl ?_
        refine z_iloadn (i := 1) (pc := 67) C dX5_height_67 rfl rfl ?_
        refine z_iloadn (i := 3) (pc := 68) C dX5_height_68 rfl rfl ?_
        refine z_callVi (pc := 69) (n := 2) (As := [.int (i), .int (g)]) (rest := []) C (c_X5_corrected l E sa (μ := ν) (ov := ov) k q2 hik (by omega) hdq2 h1q2 (by omega) N9) gX5_height_X5_corrected rfl zfV_X5_corrected ⟨Nat.le_of_ble_eq_true rfl, Nat.le_of_ble_eq_true rfl⟩ rfl (zRec_X5 E) rfl (Nat.le_of_ble_eq_true rfl) ⟨Nat.zero_le _, Nat.zero_le _⟩ dX5_height_69 (fun r9 μ9 ov9 hp => ?_)
        have e1 := hp.1.symm
        have e2 := hp.2.1.symm
        have e3 := hp.2.2.symm
        clear hp
        subst e1 e2 e3
        refine z_aloadn (i := 0) (pc := 72) C dX5_height_72 rfl rfl ?_
        refine z_iloadn (i := 1) (pc := 73) C dX5_height_73 rfl rfl ?_
        refine z_iloadn (i := 2) (pc := 74) C dX5_height_74 rfl rfl ?_
        refine z_callVi (pc := 75) (n := 2) (As := [.int (i), .int (f)]) (rest := [.int (zcorM ν k q2)]) C (c_X5_corrected l E sa (μ := ν) (ov := ov) k q1 hik (by omega) hdq1 h1q1 (by omega) N9) gX5_height_X5_corrected rfl zfV_X5_corrected ⟨Nat.le_of_ble_eq_true rfl, Nat.le_of_ble_eq_true rfl⟩ rfl (zRec_X5 E) rfl (Nat.le_of_ble_eq_true rfl) ⟨Nat.zero_le _, Nat.zero_le _⟩ dX5_height_75 (fun r9 μ9 ov9 hp => ?_)
        have e1 := hp.1.symm
        have e2 := hp.2.1.symm
        have e3 := hp.2.2.symm
        clear hp
        subst e1 e2 e3
        refine z_isub (pc := 78) C dX5_height_78 ?_
        refine z_iload (i := 4) (pc := 79) C dX5_height_79 rfl ?_
        refine z_iload (i := 6) (pc := 81) C dX5_height_81 rfl ?_
        refine z_imul (pc := 83) C dX5_height_83 ?_
        refine z_isub (pc := 84) C dX5_height_84 ?_
        refine z_i2l (pc := 85) C dX5_height_85 ?_
        refine z_lstore7 (pc := 86) C (by decide) (fun w hw => by cases hw; exact (show ¬ (1 = 2) from by decide)) dX5_height_86 ?_
        refine z_ldc2 (v := 100) (pc := 88) C dX5_height_88 (C.1.2.2.2.2 (.constantLong RX5 193 100) (by decide +kernel)) ?_
        refine z_lload (i := 7) (pc := 91) C dX5_height_91 rfl ?_
        refine z_lmul (pc := 93) C dX5_height_93 ?_
        refine z_iload (i := 6) (pc := 94) C dX5_height_94 rfl ?_
        refine z_i2l (pc := 96) C dX5_height_96 ?_
        refine z_ldiv (pc := 97) C dX5_height_97 (by have h3 := c_g.2.1.1; rw [hdq1, hdq2, nI_ltI (by omega) (by omega)] at h3; rw [hdq1, hdq2, pk_sub (by omega), nI_l (by omega)]; intro h0; exact absurd ((lN_eq (a := q2 - q1) (b := 0) (by omega) (by omega)).mp h0) (by omega)) ?_
        refine z_l2i (pc := 98) C dX5_height_98 ?_
        exact z_iret (pc := 99) C hr hlk (Or.inl ⟨c_g, by rw [eik, edq1, edq2, zcorM_cg hk, zcorM_cg hk], hν, rfl⟩) (Nat.zero_le _) (Nat.zero_le _) dX5_height_99
      · rw [zb_eq0] at c_g
        refine z_iconst (v := 0) (pc := 59) C dX5_height_59 (by decide) ?_
        exact z_iret (pc := 60) C hr hlk (Or.inr ⟨c_g, rfl, rfl, rfl⟩) (Nat.zero_le _) (Nat.zero_le _) dX5_height_60
    refine z_iloadn (i := 3) (pc := 28) C dX5_height_28 rfl rfl ?_
    refine z_iloadn (i := 2) (pc := 29) C dX5_height_29 rfl rfl ?_
    refine z_icmp_le (tgt := 51) (pc := 30) C dX5_height_30 (by decide) (fun c_3 => ?_) (fun c_3 => ?_)
    · refine z_iconst (v := 0) (pc := 51) C dX5_height_51 (by decide) ?_
      exact J2 _ (zb_f (fun h => zno_le c_3 (h.1))).symm
    · refine z_iload (i := 4) (pc := 33) C dX5_height_33 rfl ?_
      refine z_sipush (v := -1000) (pc := 35) C dX5_height_35 (by decide) ?_
      refine z_sipush (v := 1000) (pc := 38) C dX5_height_38 (by decide) ?_
      refine z_callSi (pc := 41) (n := 3) (As := [.int (w), .int (-1000), .int (1000)]) (rest := [.int (zb (zmeaM μ i f ∧ zmeaM μ i g)), .ref (zob E 7)]) C (c_X5_in l E sa (μ := μ) (ov := ov) (w) (-1000) (1000)) gX5_height_X5_in rfl zfV_X5_in.2 ⟨Nat.le_of_ble_eq_true rfl, Nat.le_of_ble_eq_true rfl⟩ rfl rfl (Nat.le_of_ble_eq_true rfl) ⟨Nat.zero_le _, Nat.zero_le _⟩ dX5_height_41 (fun r9 μ9 ov9 hp => ?_)
      have e1 := hp.1.symm
      have e2 := hp.2.1.symm
      have e3 := hp.2.2.symm
      clear hp
      subst e1 e2 e3
      refine z_if_eq (tgt := 51) (pc := 44) C dX5_height_44 (by decide) (fun c_4 => ?_) (fun c_4 => ?_)
      · rw [zb_eq0] at c_4
        refine z_iconst (v := 0) (pc := 51) C dX5_height_51 (by decide) ?_
        exact J2 _ (zb_f (fun h => c_4 (h.2))).symm
      · rw [zb_ne0] at c_4
        refine z_iconst (v := 1) (pc := 47) C dX5_height_47 (by decide) ?_
        refine z_goto (tgt := 52) (pc := 48) C dX5_height_48 (by decide) ?_
        exact J2 _ (zb_t ⟨(znot_le c_3), c_4⟩).symm
  refine z_aloadn (i := 0) (pc := 0) C dX5_height_0 rfl rfl ?_
  refine z_iloadn (i := 1) (pc := 1) C dX5_height_1 rfl rfl ?_
  refine z_iloadn (i := 2) (pc := 2) C dX5_height_2 rfl rfl ?_
  refine z_callVi (pc := 3) (n := 2) (As := [.int (i), .int (f)]) (rest := []) C (c_X5_hasMeasured l E sa (μ := μ) (ov := ov) i f n H6 H7) gX5_height_X5_hasMeasured rfl zfV_X5_hasMeasured ⟨Nat.le_of_ble_eq_true rfl, Nat.le_of_ble_eq_true rfl⟩ rfl (zRec_X5 E) rfl (Nat.le_of_ble_eq_true rfl) ⟨Nat.zero_le _, Nat.zero_le _⟩ dX5_height_3 (fun r9 μ9 ov9 hp => ?_)
  have e1 := hp.1.symm
  have e2 := hp.2.1.symm
  have e3 := hp.2.2.symm
  clear hp
  subst e1 e2 e3
  refine z_if_eq (tgt := 22) (pc := 6) C dX5_height_6 (by decide) (fun c_1 => ?_) (fun c_1 => ?_)
  · rw [zb_eq0] at c_1
    refine z_iconst (v := 0) (pc := 22) C dX5_height_22 (by decide) ?_
    exact J1 _ (zb_f (fun h => c_1 (h.1))).symm
  · rw [zb_ne0] at c_1
    refine z_aloadn (i := 0) (pc := 9) C dX5_height_9 rfl rfl ?_
    refine z_iloadn (i := 1) (pc := 10) C dX5_height_10 rfl rfl ?_
    refine z_iloadn (i := 3) (pc := 11) C dX5_height_11 rfl rfl ?_
    refine z_callVi (pc := 12) (n := 2) (As := [.int (i), .int (g)]) (rest := []) C (c_X5_hasMeasured l E sa (μ := μ) (ov := ov) i g n H6 H7) gX5_height_X5_hasMeasured rfl zfV_X5_hasMeasured ⟨Nat.le_of_ble_eq_true rfl, Nat.le_of_ble_eq_true rfl⟩ rfl (zRec_X5 E) rfl (Nat.le_of_ble_eq_true rfl) ⟨Nat.zero_le _, Nat.zero_le _⟩ dX5_height_12 (fun r9 μ9 ov9 hp => ?_)
    have e1 := hp.1.symm
    have e2 := hp.2.1.symm
    have e3 := hp.2.2.symm
    clear hp
    subst e1 e2 e3
    refine z_if_eq (tgt := 22) (pc := 15) C dX5_height_15 (by decide) (fun c_2 => ?_) (fun c_2 => ?_)
    · rw [zb_eq0] at c_2
      refine z_iconst (v := 0) (pc := 22) C dX5_height_22 (by decide) ?_
      exact J1 _ (zb_f (fun h => c_2 (h.2))).symm
    · rw [zb_ne0] at c_2
      refine z_iconst (v := 1) (pc := 18) C dX5_height_18 (by decide) ?_
      refine z_goto (tgt := 23) (pc := 19) C dX5_height_19 (by decide) ?_
      exact J1 _ (zb_t ⟨c_1, c_2⟩).symm
