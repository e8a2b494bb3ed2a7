section
variable {p : Program} {l : Launch} {e : Env} {s : State} {m : MethodId} {below : List Frame} {meth : Method} {c : Code} {E : zE} {sa : Nat → Nat} {cells slots : Nat} {μ : zM} {ov : Nat → Int64} {b L : Nat} {xs : Nat → Int32} {t c9 nc n A i : Nat}
set_option maxHeartbeats 4000000 in
set_option maxRecDepth 100000 in
theorem law_clock (hfl : l.stackTraces = false) (hL : L ≤ 2560) (hX : va_X b L xs s s.heap) (hbl : b < s.heap.size) (hbA : ¬ zA E s.heap.size b) (C : zC p s m #[Value.ref b] c E sa cL_law 7 RL wsL_law) (h : zR2 μ μ t c9 nc n A) (hA : A < 512) (hi : i + 4 < L) (hc0 : cells ≤ 601024) (hs0 : slots ≤ 7293034) (hc : cells + 1 ≤ 601024) (hs : slots + 6 ≤ 7293034)
    (K : ∀ (μ' : zM) (ov' : Nat → Int64) (t' c' nc' n' : Nat), zR2 μ' μ' t' c' nc' n' (A + 1) → zW p l e room_1 s m #[Value.ref b] below meth c E 7 (cells + 1) (slots + 6) (lw_Z below #[Value.ref b] s) 1405 [some (.ref b), some (.ref (zob E 0)), some (.ref (zob E 7)), some (.ref (zob E 8)), some (.int (nI i)), none, none] [] μ' ov') :
    zW p l e room_1 s m #[Value.ref b] below meth c E 7 cells slots (lw_Z below #[Value.ref b] s) 128 [some (.ref b), some (.ref (zob E 0)), some (.ref (zob E 7)), some (.ref (zob E 8)), some (.int (nI i)), none, none] [] μ ov := by
  refine z_aloadn (i := 1) (pc := 128) C dL_law_128 rfl rfl ?_
  refine z_aloadn (i := 0) (pc := 129) C dL_law_129 rfl rfl ?_
  refine z_iload (i := 4) (pc := 130) C dL_law_130 rfl ?_
  refine z_iconst (v := 1) (pc := 132) C dL_law_132 (by decide) ?_
  refine z_iadd (pc := 133) C dL_law_133 ?_
  refine z_sld (pc := 134) C hX hbl hbA (i + 1) (nI_add i 1) (by omega) hL dL_law_134 ?_
  refine z_aloadn (i := 0) (pc := 135) C dL_law_135 rfl rfl ?_
  refine z_iload (i := 4) (pc := 136) C dL_law_136 rfl ?_
  refine z_iconst (v := 2) (pc := 138) C dL_law_138 (by decide) ?_
  refine z_iadd (pc := 139) C dL_law_139 ?_
  refine z_sld (pc := 140) C hX hbl hbA (i + 2) (nI_add i 2) (by omega) hL dL_law_140 ?_
  refine z_aloadn (i := 3) (pc := 141) C dL_law_141 rfl rfl ?_
  refine z_callSWi (pc := 142) (n := 4) (As := [.ref (zob E 0), .int (xs (i + 1)), .int (xs (i + 2)), .ref (zob E 8)]) (rest := []) C (c_L_clock l hfl E sa (μ := μ) (ov := ov) (a := (xs (i + 1))) (b := (xs (i + 2))) t c9 nc n h.1) (zwS_g gL_law_L_clock) rfl zfV_L_clock.2 ⟨(Nat.le_of_ble_eq_true rfl), (Nat.le_of_ble_eq_true rfl)⟩ rfl rfl (Nat.le_of_ble_eq_true rfl) ⟨hc, hs⟩ dL_law_142 (fun r9 μ9 ov9 hp => ?_)
  obtain ⟨hms, hK⟩ := s_clock (a := (xs (i + 1))) (b := (xs (i + 2))) h hA hp
  have HM := hms.MI h.2.1
  obtain ⟨M1, M2, M3, M4, M5, M6, M7, M8, M9⟩ := id HM
  refine z_istore5 (pc := 145) C (by decide) (fun w hw => by cases hw; exact (show ¬ (1 = 2) from by decide)) dL_law_145 ?_
  refine z_aloadn (i := 2) (pc := 147) C dL_law_147 rfl rfl ?_
  refine z_aloadn (i := 0) (pc := 148) C dL_law_148 rfl rfl ?_
  refine z_iload (i := 4) (pc := 149) C dL_law_149 rfl ?_
  refine z_iconst (v := 1) (pc := 151) C dL_law_151 (by decide) ?_
  refine z_iadd (pc := 152) C dL_law_152 ?_
  refine z_sld (pc := 153) C hX hbl hbA (i + 1) (nI_add i 1) (by omega) hL dL_law_153 ?_
  refine z_aloadn (i := 0) (pc := 154) C dL_law_154 rfl rfl ?_
  refine z_iload (i := 4) (pc := 155) C dL_law_155 rfl ?_
  refine z_iconst (v := 2) (pc := 157) C dL_law_157 (by decide) ?_
  refine z_iadd (pc := 158) C dL_law_158 ?_
  refine z_sld (pc := 159) C hX hbl hbA (i + 2) (nI_add i 2) (by omega) hL dL_law_159 ?_
  refine z_callVi (pc := 160) (n := 2) (As := [.int (xs (i + 1)), .int (xs (i + 2))]) (rest := []) C (c_X5_clock l E sa (μ := μ9) (ov := ov9) (a := (xs (i + 1))) (b := (xs (i + 2))) nc M4 M5) gL_law_X5_clock rfl zfV_X5_clock ⟨(Nat.le_of_ble_eq_true rfl), (Nat.le_of_ble_eq_true rfl)⟩ rfl (zRec_X5 E) rfl (Nat.le_of_ble_eq_true rfl) ⟨hc, hs⟩ dL_law_160 (fun r8 μ8 ov8 hq => ?_)
  have ok := hK r8 μ8 ov8 (hq.elim (fun z => Or.inl ⟨z.1, ⟨z.2.1, z.2.2.1⟩, z.2.2.2⟩) Or.inr)
  refine z_istore6 (pc := 163) C (by decide) (fun w hw => by cases hw; exact (show ¬ (1 = 2) from by decide)) dL_law_163 ?_
  refine z_aloadn (i := 2) (pc := 165) C dL_law_165 rfl rfl ?_
  refine z_callVi (pc := 166) (n := 0) (As := []) (rest := []) C (c_X5_thrown l E sa (μ := μ8) (ov := ov8)) gL_law_X5_thrown rfl zfV_X5_thrown ⟨(Nat.le_of_ble_eq_true rfl), (Nat.le_of_ble_eq_true rfl)⟩ rfl (zRec_X5 E) rfl (Nat.le_of_ble_eq_true rfl) ⟨hc, hs⟩ dL_law_166 (fun r7 μ7 ov7 hv => ?_)
  obtain ⟨v1, v2, v3⟩ := hv
  subst v2 v3
  refine z_iload (i := 5) (pc := 169) C dL_law_169 rfl ?_
  refine z_icmp_eq (tgt := 176) (pc := 171) C dL_law_171 (by decide) (fun _ => ?_) (fun c2 => absurd (v1.trans ok.1.symm) c2)
  refine z_iload (i := 5) (pc := 176) C dL_law_176 rfl ?_
  have J9 : zW p l e room_1 s m #[Value.ref b] below meth c E 7 (cells + 1) (slots + 6) (lw_Z below #[Value.ref b] s) 193 [some (.ref b), some (.ref (zob E 0)), some (.ref (zob E 7)), some (.ref (zob E 8)), some (.int (nI i)), some (.int r9), some (.int r8)] [] μ7 ov7 := by
    obtain ⟨t1, d1, nc1, n1, h1⟩ := ok.2.2
    have K2 := K _ ov7 _ _ _ _ h1
    exact z_goto (tgt := 1405) (pc := 193) C dL_law_193 (by decide) (z_weak (lv' := [some (.ref b), some (.ref (zob E 0)), some (.ref (zob E 7)), some (.ref (zob E 8)), some (.int (nI i)), none, none]) ⟨rfl, rfl, rfl, rfl, rfl, trivial⟩ K2)
  refine z_if_ne (tgt := 193) (pc := 178) C dL_law_178 (by decide) (fun _ => J9) (fun c3 => ?_)
  have c4 := ok.2.1 c3
  refine z_aloadn (i := 3) (pc := 181) C dL_law_181 rfl rfl ?_
  refine z_iconst (v := 0) (pc := 182) C dL_law_182 (by decide) ?_
  refine z_lald (pc := 183) C rfl dL_law_183 ?_
  refine z_iload (i := 6) (pc := 184) C dL_law_184 rfl ?_
  refine z_i2l (pc := 186) C dL_law_186 ?_
  refine z_lcmp (pc := 187) C dL_law_187 ?_
  exact z_if_eq (tgt := 193) (pc := 188) C dL_law_188 (by decide) (fun _ => J9) (fun c6 => absurd ((lg_cmp_eq _ _).mpr c4) c6)
set_option maxHeartbeats 4000000 in
set_option maxRecDepth 100000 in
theorem law_tell (hfl : l.stackTraces = false) (hL : L ≤ 2560) (hX : va_X b L xs s s.heap) (hbl : b < s.heap.size) (hbA : ¬ zA E s.heap.size b) (C : zC p s m #[Value.ref b] c E sa cL_law 7 RL wsL_law) (h : zR2 μ μ t c9 nc n A) (hA : A < 512) (hi : i + 4 < L) (hc0 : cells ≤ 601024) (hs0 : slots ≤ 7293034) (hc : cells + 1 ≤ 601024) (hs : slots + 6 ≤ 7293034)
    (K : ∀ (μ' : zM) (ov' : Nat → Int64) (t' c' nc' n' : Nat), zR2 μ' μ' t' c' nc' n' (A + 1) → zW p l e room_1 s m #[Value.ref b] below meth c E 7 (cells + 1) (slots + 6) (lw_Z below #[Value.ref b] s) 1405 [some (.ref b), some (.ref (zob E 0)), some (.ref (zob E 7)), some (.ref (zob E 8)), some (.int (nI i)), none, none] [] μ' ov') :
    zW p l e room_1 s m #[Value.ref b] below meth c E 7 cells slots (lw_Z below #[Value.ref b] s) 196 [some (.ref b), some (.ref (zob E 0)), some (.ref (zob E 7)), some (.ref (zob E 8)), some (.int (nI i)), none, none] [] μ ov := by
  refine z_aloadn (i := 1) (pc := 196) C dL_law_196 rfl rfl ?_
  refine z_aloadn (i := 0) (pc := 197) C dL_law_197 rfl rfl ?_
  refine z_iload (i := 4) (pc := 198) C dL_law_198 rfl ?_
  refine z_iconst (v := 1) (pc := 200) C dL_law_200 (by decide) ?_
  refine z_iadd (pc := 201) C dL_law_201 ?_
  refine z_sld (pc := 202) C hX hbl hbA (i + 1) (nI_add i 1) (by omega) hL dL_law_202 ?_
  refine z_aloadn (i := 0) (pc := 203) C dL_law_203 rfl rfl ?_
  refine z_iload (i := 4) (pc := 204) C dL_law_204 rfl ?_
  refine z_iconst (v := 2) (pc := 206) C dL_law_206 (by decide) ?_
  refine z_iadd (pc := 207) C dL_law_207 ?_
  refine z_sld (pc := 208) C hX hbl hbA (i + 2) (nI_add i 2) (by omega) hL dL_law_208 ?_
  refine z_aloadn (i := 0) (pc := 209) C dL_law_209 rfl rfl ?_
  refine z_iload (i := 4) (pc := 210) C dL_law_210 rfl ?_
  refine z_iconst (v := 3) (pc := 212) C dL_law_212 (by decide) ?_
  refine z_iadd (pc := 213) C dL_law_213 ?_
  refine z_sld (pc := 214) C hX hbl hbA (i + 3) (nI_add i 3) (by omega) hL dL_law_214 ?_
  refine z_aloadn (i := 3) (pc := 215) C dL_law_215 rfl rfl ?_
  refine z_callSWi (pc := 216) (n := 5) (As := [.ref (zob E 0), .int (xs (i + 1)), .int (xs (i + 2)), .int (xs (i + 3)), .ref (zob E 8)]) (rest := []) C (c_L_tell l hfl E sa (μ := μ) (ov := ov) (i := (xs (i + 1))) (d := (xs (i + 2))) (w := (xs (i + 3))) t c9 nc n h.1) (zwS_g gL_law_L_tell) rfl zfV_L_tell.2 ⟨(Nat.le_of_ble_eq_true rfl), (Nat.le_of_ble_eq_true rfl)⟩ rfl rfl (Nat.le_of_ble_eq_true rfl) ⟨hc, hs⟩ dL_law_216 (fun r9 μ9 ov9 hp => ?_)
  obtain ⟨hms, hK⟩ := s_tell (i := (xs (i + 1))) (d := (xs (i + 2))) (w := (xs (i + 3))) h hA hp
  have HM := hms.MI h.2.1
  obtain ⟨M1, M2, M3, M4, M5, M6, M7, M8, M9⟩ := id HM
  refine z_istore5 (pc := 219) C (by decide) (fun w hw => by cases hw; exact (show ¬ (1 = 2) from by decide)) dL_law_219 ?_
  refine z_aloadn (i := 2) (pc := 221) C dL_law_221 rfl rfl ?_
  refine z_aloadn (i := 0) (pc := 222) C dL_law_222 rfl rfl ?_
  refine z_iload (i := 4) (pc := 223) C dL_law_223 rfl ?_
  refine z_iconst (v := 1) (pc := 225) C dL_law_225 (by decide) ?_
  refine z_iadd (pc := 226) C dL_law_226 ?_
  refine z_sld (pc := 227) C hX hbl hbA (i + 1) (nI_add i 1) (by omega) hL dL_law_227 ?_
  refine z_aloadn (i := 0) (pc := 228) C dL_law_228 rfl rfl ?_
  refine z_iload (i := 4) (pc := 229) C dL_law_229 rfl ?_
  refine z_iconst (v := 2) (pc := 231) C dL_law_231 (by decide) ?_
  refine z_iadd (pc := 232) C dL_law_232 ?_
  refine z_sld (pc := 233) C hX hbl hbA (i + 2) (nI_add i 2) (by omega) hL dL_law_233 ?_
  refine z_aloadn (i := 0) (pc := 234) C dL_law_234 rfl rfl ?_
  refine z_iload (i := 4) (pc := 235) C dL_law_235 rfl ?_
  refine z_iconst (v := 3) (pc := 237) C dL_law_237 (by decide) ?_
  refine z_iadd (pc := 238) C dL_law_238 ?_
  refine z_sld (pc := 239) C hX hbl hbA (i + 3) (nI_add i 3) (by omega) hL dL_law_239 ?_
  refine z_callVi (pc := 240) (n := 3) (As := [.int (xs (i + 1)), .int (xs (i + 2)), .int (xs (i + 3))]) (rest := []) C (c_X5_tell l E sa (μ := μ9) (ov := ov9) (i := (xs (i + 1))) (d := (xs (i + 2))) (w := (xs (i + 3))) nc M4 M5) gL_law_X5_tell rfl zfV_X5_tell ⟨(Nat.le_of_ble_eq_true rfl), (Nat.le_of_ble_eq_true rfl)⟩ rfl (zRec_X5 E) rfl (Nat.le_of_ble_eq_true rfl) ⟨hc, hs⟩ dL_law_240 (fun r8 μ8 ov8 hq => ?_)
  have ok := hK _ _ _ hq
  refine z_istore6 (pc := 243) C (by decide) (fun w hw => by cases hw; exact (show ¬ (1 = 2) from by decide)) dL_law_243 ?_
  refine z_aloadn (i := 2) (pc := 245) C dL_law_245 rfl rfl ?_
  refine z_callVi (pc := 246) (n := 0) (As := []) (rest := []) C (c_X5_thrown l E sa (μ := μ8) (ov := ov8)) gL_law_X5_thrown rfl zfV_X5_thrown ⟨(Nat.le_of_ble_eq_true rfl), (Nat.le_of_ble_eq_true rfl)⟩ rfl (zRec_X5 E) rfl (Nat.le_of_ble_eq_true rfl) ⟨hc, hs⟩ dL_law_246 (fun r7 μ7 ov7 hv => ?_)
  obtain ⟨v1, v2, v3⟩ := hv
  subst v2 v3
  refine z_iload (i := 5) (pc := 249) C dL_law_249 rfl ?_
  refine z_icmp_eq (tgt := 256) (pc := 251) C dL_law_251 (by decide) (fun _ => ?_) (fun c2 => absurd (v1.trans ok.1.symm) c2)
  refine z_iload (i := 5) (pc := 256) C dL_law_256 rfl ?_
  have J9 : zW p l e room_1 s m #[Value.ref b] below meth c E 7 (cells + 1) (slots + 6) (lw_Z below #[Value.ref b] s) 273 [some (.ref b), some (.ref (zob E 0)), some (.ref (zob E 7)), some (.ref (zob E 8)), some (.int (nI i)), some (.int r9), some (.int r8)] [] μ7 ov7 := by
    obtain ⟨t1, d1, nc1, n1, h1⟩ := ok.2.2
    have K2 := K _ ov7 _ _ _ _ h1
    exact z_goto (tgt := 1405) (pc := 273) C dL_law_273 (by decide) (z_weak (lv' := [some (.ref b), some (.ref (zob E 0)), some (.ref (zob E 7)), some (.ref (zob E 8)), some (.int (nI i)), none, none]) ⟨rfl, rfl, rfl, rfl, rfl, trivial⟩ K2)
  refine z_if_ne (tgt := 273) (pc := 258) C dL_law_258 (by decide) (fun _ => J9) (fun c3 => ?_)
  have c4 := ok.2.1 c3
  refine z_aloadn (i := 3) (pc := 261) C dL_law_261 rfl rfl ?_
  refine z_iconst (v := 0) (pc := 262) C dL_law_262 (by decide) ?_
  refine z_lald (pc := 263) C rfl dL_law_263 ?_
  refine z_iload (i := 6) (pc := 264) C dL_law_264 rfl ?_
  refine z_i2l (pc := 266) C dL_law_266 ?_
  refine z_lcmp (pc := 267) C dL_law_267 ?_
  exact z_if_eq (tgt := 273) (pc := 268) C dL_law_268 (by decide) (fun _ => J9) (fun c6 => absurd ((lg_cmp_eq _ _).mpr c4) c6)
set_option maxHeartbeats 4000000 in
set_option maxRecDepth 100000 in
theorem law_link (hfl : l.stackTraces = false) (hL : L ≤ 2560) (hX : va_X b L xs s s.heap) (hbl : b < s.heap.size) (hbA : ¬ zA E s.heap.size b) (C : zC p s m #[Value.ref b] c E sa cL_law 7 RL wsL_law) (h : zR2 μ μ t c9 nc n A) (hA : A < 512) (hi : i + 4 < L) (hc0 : cells ≤ 601024) (hs0 : slots ≤ 7293034) (hc : cells + 1 ≤ 601024) (hs : slots + 6 ≤ 7293034)
    (K : ∀ (μ' : zM) (ov' : Nat → Int64) (t' c' nc' n' : Nat), zR2 μ' μ' t' c' nc' n' (A + 1) → zW p l e room_1 s m #[Value.ref b] below meth c E 7 (cells + 1) (slots + 6) (lw_Z below #[Value.ref b] s) 1405 [some (.ref b), some (.ref (zob E 0)), some (.ref (zob E 7)), some (.ref (zob E 8)), some (.int (nI i)), none, none] [] μ' ov') :
    zW p l e room_1 s m #[Value.ref b] below meth c E 7 cells slots (lw_Z below #[Value.ref b] s) 276 [some (.ref b), some (.ref (zob E 0)), some (.ref (zob E 7)), some (.ref (zob E 8)), some (.int (nI i)), none, none] [] μ ov := by
  refine z_aloadn (i := 1) (pc := 276) C dL_law_276 rfl rfl ?_
  refine z_aloadn (i := 0) (pc := 277) C dL_law_277 rfl rfl ?_
  refine z_iload (i := 4) (pc := 278) C dL_law_278 rfl ?_
  refine z_iconst (v := 1) (pc := 280) C dL_law_280 (by decide) ?_
  refine z_iadd (pc := 281) C dL_law_281 ?_
  refine z_sld (pc := 282) C hX hbl hbA (i + 1) (nI_add i 1) (by omega) hL dL_law_282 ?_
  refine z_aloadn (i := 0) (pc := 283) C dL_law_283 rfl rfl ?_
  refine z_iload (i := 4) (pc := 284) C dL_law_284 rfl ?_
  refine z_iconst (v := 2) (pc := 286) C dL_law_286 (by decide) ?_
  refine z_iadd (pc := 287) C dL_law_287 ?_
  refine z_sld (pc := 288) C hX hbl hbA (i + 2) (nI_add i 2) (by omega) hL dL_law_288 ?_
  refine z_aloadn (i := 0) (pc := 289) C dL_law_289 rfl rfl ?_
  refine z_iload (i := 4) (pc := 290) C dL_law_290 rfl ?_
  refine z_iconst (v := 3) (pc := 292) C dL_law_292 (by decide) ?_
  refine z_iadd (pc := 293) C dL_law_293 ?_
  refine z_sld (pc := 294) C hX hbl hbA (i + 3) (nI_add i 3) (by omega) hL dL_law_294 ?_
  refine z_aloadn (i := 3) (pc := 295) C dL_law_295 rfl rfl ?_
  refine z_callSWi (pc := 296) (n := 5) (As := [.ref (zob E 0), .int (xs (i + 1)), .int (xs (i + 2)), .int (xs (i + 3)), .ref (zob E 8)]) (rest := []) C (c_L_link l hfl E sa (μ := μ) (ov := ov) (i := (xs (i + 1))) (j := (xs (i + 2))) (d := (xs (i + 3))) t c9 nc n h.1) (zwS_g gL_law_L_link) rfl zfV_L_link.2 ⟨(Nat.le_of_ble_eq_true rfl), (Nat.le_of_ble_eq_true rfl)⟩ rfl rfl (Nat.le_of_ble_eq_true rfl) ⟨hc, hs⟩ dL_law_296 (fun r9 μ9 ov9 hp => ?_)
  obtain ⟨hms, hK⟩ := s_link (i := (xs (i + 1))) (j := (xs (i + 2))) (d := (xs (i + 3))) h hA hp
  have HM := hms.MI h.2.1
  obtain ⟨M1, M2, M3, M4, M5, M6, M7, M8, M9⟩ := id HM
  refine z_istore5 (pc := 299) C (by decide) (fun w hw => by cases hw; exact (show ¬ (1 = 2) from by decide)) dL_law_299 ?_
  refine z_aloadn (i := 2) (pc := 301) C dL_law_301 rfl rfl ?_
  refine z_aloadn (i := 0) (pc := 302) C dL_law_302 rfl rfl ?_
  refine z_iload (i := 4) (pc := 303) C dL_law_303 rfl ?_
  refine z_iconst (v := 1) (pc := 305) C dL_law_305 (by decide) ?_
  refine z_iadd (pc := 306) C dL_law_306 ?_
  refine z_sld (pc := 307) C hX hbl hbA (i + 1) (nI_add i 1) (by omega) hL dL_law_307 ?_
  refine z_aloadn (i := 0) (pc := 308) C dL_law_308 rfl rfl ?_
  refine z_iload (i := 4) (pc := 309) C dL_law_309 rfl ?_
  refine z_iconst (v := 2) (pc := 311) C dL_law_311 (by decide) ?_
  refine z_iadd (pc := 312) C dL_law_312 ?_
  refine z_sld (pc := 313) C hX hbl hbA (i + 2) (nI_add i 2) (by omega) hL dL_law_313 ?_
  refine z_aloadn (i := 0) (pc := 314) C dL_law_314 rfl rfl ?_
  refine z_iload (i := 4) (pc := 315) C dL_law_315 rfl ?_
  refine z_iconst (v := 3) (pc := 317) C dL_law_317 (by decide) ?_
  refine z_iadd (pc := 318) C dL_law_318 ?_
  refine z_sld (pc := 319) C hX hbl hbA (i + 3) (nI_add i 3) (by omega) hL dL_law_319 ?_
  refine z_callVi (pc := 320) (n := 3) (As := [.int (xs (i + 1)), .int (xs (i + 2)), .int (xs (i + 3))]) (rest := []) C (c_X5_link l E sa (μ := μ9) (ov := ov9) (i := (xs (i + 1))) (j := (xs (i + 2))) (d := (xs (i + 3))) nc M4 M5 n M6 M7) gL_law_X5_link rfl zfV_X5_link ⟨(Nat.le_of_ble_eq_true rfl), (Nat.le_of_ble_eq_true rfl)⟩ rfl (zRec_X5 E) rfl (Nat.le_of_ble_eq_true rfl) ⟨hc, hs⟩ dL_law_320 (fun r8 μ8 ov8 hq => ?_)
  have ok := hK _ _ _ hq
  refine z_istore6 (pc := 323) C (by decide) (fun w hw => by cases hw; exact (show ¬ (1 = 2) from by decide)) dL_law_323 ?_
  refine z_aloadn (i := 2) (pc := 325) C dL_law_325 rfl rfl ?_
  refine z_callVi (pc := 326) (n := 0) (As := []) (rest := []) C (c_X5_thrown l E sa (μ := μ8) (ov := ov8)) gL_law_X5_thrown rfl zfV_X5_thrown ⟨(Nat.le_of_ble_eq_true rfl), (Nat.le_of_ble_eq_true rfl)⟩ rfl (zRec_X5 E) rfl (Nat.le_of_ble_eq_true rfl) ⟨hc, hs⟩ dL_law_326 (fun r7 μ7 ov7 hv => ?_)
  obtain ⟨v1, v2, v3⟩ := hv
  subst v2 v3
  refine z_iload (i := 5) (pc := 329) C dL_law_329 rfl ?_
  refine z_icmp_eq (tgt := 336) (pc := 331) C dL_law_331 (by decide) (fun _ => ?_) (fun c2 => absurd (v1.trans ok.1.symm) c2)
  refine z_iload (i := 5) (pc := 336) C dL_law_336 rfl ?_
  have J9 : zW p l e room_1 s m #[Value.ref b] below meth c E 7 (cells + 1) (slots + 6) (lw_Z below #[Value.ref b] s) 353 [some (.ref b), some (.ref (zob E 0)), some (.ref (zob E 7)), some (.ref (zob E 8)), some (.int (nI i)), some (.int r9), some (.int r8)] [] μ7 ov7 := by
    obtain ⟨t1, d1, nc1, n1, h1⟩ := ok.2.2
    have K2 := K _ ov7 _ _ _ _ h1
    exact z_goto (tgt := 1405) (pc := 353) C dL_law_353 (by decide) (z_weak (lv' := [some (.ref b), some (.ref (zob E 0)), some (.ref (zob E 7)), some (.ref (zob E 8)), some (.int (nI i)), none, none]) ⟨rfl, rfl, rfl, rfl, rfl, trivial⟩ K2)
  refine z_if_ne (tgt := 353) (pc := 338) C dL_law_338 (by decide) (fun _ => J9) (fun c3 => ?_)
  have c4 := ok.2.1 c3
  refine z_aloadn (i := 3) (pc := 341) C dL_law_341 rfl rfl ?_
  refine z_iconst (v := 0) (pc := 342) C dL_law_342 (by decide) ?_
  refine z_lald (pc := 343) C rfl dL_law_343 ?_
  refine z_iload (i := 6) (pc := 344) C dL_law_344 rfl ?_
  refine z_i2l (pc := 346) C dL_law_346 ?_
  refine z_lcmp (pc := 347) C dL_law_347 ?_
  exact z_if_eq (tgt := 353) (pc := 348) C dL_law_348 (by decide) (fun _ => J9) (fun c6 => absurd ((lg_cmp_eq _ _).mpr c4) c6)
set_option maxHeartbeats 4000000 in
set_option maxRecDepth 100000 in
theorem law_event (hfl : l.stackTraces = false) (hL : L ≤ 2560) (hX : va_X b L xs s s.heap) (hbl : b < s.heap.size) (hbA : ¬ zA E s.heap.size b) (C : zC p s m #[Value.ref b] c E sa cL_law 7 RL wsL_law) (h : zR2 μ μ t c9 nc n A) (hA : A < 512) (hi : i + 4 < L) (hc0 : cells ≤ 601024) (hs0 : slots ≤ 7293034) (hc : cells + 1 ≤ 601024) (hs : slots + 6 ≤ 7293034)
    (K : ∀ (μ' : zM) (ov' : Nat → Int64) (t' c' nc' n' : Nat), zR2 μ' μ' t' c' nc' n' (A + 1) → zW p l e room_1 s m #[Value.ref b] below meth c E 7 (cells + 1) (slots + 6) (lw_Z below #[Value.ref b] s) 1405 [some (.ref b), some (.ref (zob E 0)), some (.ref (zob E 7)), some (.ref (zob E 8)), some (.int (nI i)), none, none] [] μ' ov') :
    zW p l e room_1 s m #[Value.ref b] below meth c E 7 cells slots (lw_Z below #[Value.ref b] s) 356 [some (.ref b), some (.ref (zob E 0)), some (.ref (zob E 7)), some (.ref (zob E 8)), some (.int (nI i)), none, none] [] μ ov := by
  refine z_aloadn (i := 1) (pc := 356) C dL_law_356 rfl rfl ?_
  refine z_aloadn (i := 0) (pc := 357) C dL_law_357 rfl rfl ?_
  refine z_iload (i := 4) (pc := 358) C dL_law_358 rfl ?_
  refine z_iconst (v := 1) (pc := 360) C dL_law_360 (by decide) ?_
  refine z_iadd (pc := 361) C dL_law_361 ?_
  refine z_sld (pc := 362) C hX hbl hbA (i + 1) (nI_add i 1) (by omega) hL dL_law_362 ?_
  refine z_aloadn (i := 0) (pc := 363) C dL_law_363 rfl rfl ?_
  refine z_iload (i := 4) (pc := 364) C dL_law_364 rfl ?_
  refine z_iconst (v := 2) (pc := 366) C dL_law_366 (by decide) ?_
  refine z_iadd (pc := 367) C dL_law_367 ?_
  refine z_sld (pc := 368) C hX hbl hbA (i + 2) (nI_add i 2) (by omega) hL dL_law_368 ?_
  refine z_aloadn (i := 0) (pc := 369) C dL_law_369 rfl rfl ?_
  refine z_iload (i := 4) (pc := 370) C dL_law_370 rfl ?_
  refine z_iconst (v := 3) (pc := 372) C dL_law_372 (by decide) ?_
  refine z_iadd (pc := 373) C dL_law_373 ?_
  refine z_sld (pc := 374) C hX hbl hbA (i + 3) (nI_add i 3) (by omega) hL dL_law_374 ?_
  refine z_aloadn (i := 0) (pc := 375) C dL_law_375 rfl rfl ?_
  refine z_iload (i := 4) (pc := 376) C dL_law_376 rfl ?_
  refine z_iconst (v := 4) (pc := 378) C dL_law_378 (by decide) ?_
  refine z_iadd (pc := 379) C dL_law_379 ?_
  refine z_sld (pc := 380) C hX hbl hbA (i + 4) (nI_add i 4) (by omega) hL dL_law_380 ?_
  refine z_aloadn (i := 3) (pc := 381) C dL_law_381 rfl rfl ?_
  refine z_callSWi (pc := 382) (n := 6) (As := [.ref (zob E 0), .int (xs (i + 1)), .int (xs (i + 2)), .int (xs (i + 3)), .int (xs (i + 4)), .ref (zob E 8)]) (rest := []) C (c_L_event l hfl E sa (μ := μ) (ov := ov) (d := (xs (i + 1))) (k := (xs (i + 2))) (i := (xs (i + 3))) (a := (xs (i + 4))) t c9 nc n h.1) (zwS_g gL_law_L_event) rfl zfV_L_event.2 ⟨(Nat.le_of_ble_eq_true rfl), (Nat.le_of_ble_eq_true rfl)⟩ rfl rfl (Nat.le_of_ble_eq_true rfl) ⟨hc, hs⟩ dL_law_382 (fun r9 μ9 ov9 hp => ?_)
  obtain ⟨hms, hK⟩ := s_event (d := (xs (i + 1))) (k := (xs (i + 2))) (i := (xs (i + 3))) (a := (xs (i + 4))) h hA hp
  have HM := hms.MI h.2.1
  obtain ⟨M1, M2, M3, M4, M5, M6, M7, M8, M9⟩ := id HM
  refine z_istore5 (pc := 385) C (by decide) (fun w hw => by cases hw; exact (show ¬ (1 = 2) from by decide)) dL_law_385 ?_
  refine z_aloadn (i := 2) (pc := 387) C dL_law_387 rfl rfl ?_
  refine z_aloadn (i := 0) (pc := 388) C dL_law_388 rfl rfl ?_
  refine z_iload (i := 4) (pc := 389) C dL_law_389 rfl ?_
  refine z_iconst (v := 1) (pc := 391) C dL_law_391 (by decide) ?_
  refine z_iadd (pc := 392) C dL_law_392 ?_
  refine z_sld (pc := 393) C hX hbl hbA (i + 1) (nI_add i 1) (by omega) hL dL_law_393 ?_
  refine z_aloadn (i := 0) (pc := 394) C dL_law_394 rfl rfl ?_
  refine z_iload (i := 4) (pc := 395) C dL_law_395 rfl ?_
  refine z_iconst (v := 2) (pc := 397) C dL_law_397 (by decide) ?_
  refine z_iadd (pc := 398) C dL_law_398 ?_
  refine z_sld (pc := 399) C hX hbl hbA (i + 2) (nI_add i 2) (by omega) hL dL_law_399 ?_
  refine z_aloadn (i := 0) (pc := 400) C dL_law_400 rfl rfl ?_
  refine z_iload (i := 4) (pc := 401) C dL_law_401 rfl ?_
  refine z_iconst (v := 3) (pc := 403) C dL_law_403 (by decide) ?_
  refine z_iadd (pc := 404) C dL_law_404 ?_
  refine z_sld (pc := 405) C hX hbl hbA (i + 3) (nI_add i 3) (by omega) hL dL_law_405 ?_
  refine z_aloadn (i := 0) (pc := 406) C dL_law_406 rfl rfl ?_
  refine z_iload (i := 4) (pc := 407) C dL_law_407 rfl ?_
  refine z_iconst (v := 4) (pc := 409) C dL_law_409 (by decide) ?_
  refine z_iadd (pc := 410) C dL_law_410 ?_
  refine z_sld (pc := 411) C hX hbl hbA (i + 4) (nI_add i 4) (by omega) hL dL_law_411 ?_
  refine z_callVi (pc := 412) (n := 4) (As := [.int (xs (i + 1)), .int (xs (i + 2)), .int (xs (i + 3)), .int (xs (i + 4))]) (rest := []) C (c_X5_event l E sa (μ := μ9) (ov := ov9) (d := (xs (i + 1))) (k := (xs (i + 2))) (i := (xs (i + 3))) (a := (xs (i + 4))) nc M4 M5 n M6 M7 c9 M3.1 M3.2.1) gL_law_X5_event rfl zfV_X5_event ⟨(Nat.le_of_ble_eq_true rfl), (Nat.le_of_ble_eq_true rfl)⟩ rfl (zRec_X5 E) rfl (Nat.le_of_ble_eq_true rfl) ⟨hc, hs⟩ dL_law_412 (fun r8 μ8 ov8 hq => ?_)
  have ok := hK _ _ _ hq
  refine z_istore6 (pc := 415) C (by decide) (fun w hw => by cases hw; exact (show ¬ (1 = 2) from by decide)) dL_law_415 ?_
  refine z_aloadn (i := 2) (pc := 417) C dL_law_417 rfl rfl ?_
  refine z_callVi (pc := 418) (n := 0) (As := []) (rest := []) C (c_X5_thrown l E sa (μ := μ8) (ov := ov8)) gL_law_X5_thrown rfl zfV_X5_thrown ⟨(Nat.le_of_ble_eq_true rfl), (Nat.le_of_ble_eq_true rfl)⟩ rfl (zRec_X5 E) rfl (Nat.le_of_ble_eq_true rfl) ⟨hc, hs⟩ dL_law_418 (fun r7 μ7 ov7 hv => ?_)
  obtain ⟨v1, v2, v3⟩ := hv
  subst v2 v3
  refine z_iload (i := 5) (pc := 421) C dL_law_421 rfl ?_
  refine z_icmp_eq (tgt := 428) (pc := 423) C dL_law_423 (by decide) (fun _ => ?_) (fun c2 => absurd (v1.trans ok.1.symm) c2)
  refine z_iload (i := 5) (pc := 428) C dL_law_428 rfl ?_
  have J9 : zW p l e room_1 s m #[Value.ref b] below meth c E 7 (cells + 1) (slots + 6) (lw_Z below #[Value.ref b] s) 445 [some (.ref b), some (.ref (zob E 0)), some (.ref (zob E 7)), some (.ref (zob E 8)), some (.int (nI i)), some (.int r9), some (.int r8)] [] μ7 ov7 := by
    obtain ⟨t1, d1, nc1, n1, h1⟩ := ok.2.2
    have K2 := K _ ov7 _ _ _ _ h1
    exact z_goto (tgt := 1405) (pc := 445) C dL_law_445 (by decide) (z_weak (lv' := [some (.ref b), some (.ref (zob E 0)), some (.ref (zob E 7)), some (.ref (zob E 8)), some (.int (nI i)), none, none]) ⟨rfl, rfl, rfl, rfl, rfl, trivial⟩ K2)
  refine z_if_ne (tgt := 445) (pc := 430) C dL_law_430 (by decide) (fun _ => J9) (fun c3 => ?_)
  have c4 := ok.2.1 c3
  refine z_aloadn (i := 3) (pc := 433) C dL_law_433 rfl rfl ?_
  refine z_iconst (v := 0) (pc := 434) C dL_law_434 (by decide) ?_
  refine z_lald (pc := 435) C rfl dL_law_435 ?_
  refine z_iload (i := 6) (pc := 436) C dL_law_436 rfl ?_
  refine z_i2l (pc := 438) C dL_law_438 ?_
  refine z_lcmp (pc := 439) C dL_law_439 ?_
  exact z_if_eq (tgt := 445) (pc := 440) C dL_law_440 (by decide) (fun _ => J9) (fun c6 => absurd ((lg_cmp_eq _ _).mpr c4) c6)
set_option maxHeartbeats 4000000 in
set_option maxRecDepth 100000 in
theorem law_calibrate (hfl : l.stackTraces = false) (hL : L ≤ 2560) (hX : va_X b L xs s s.heap) (hbl : b < s.heap.size) (hbA : ¬ zA E s.heap.size b) (C : zC p s m #[Value.ref b] c E sa cL_law 7 RL wsL_law) (h : zR2 μ μ t c9 nc n A) (hA : A < 512) (hi : i + 4 < L) (hc0 : cells ≤ 601024) (hs0 : slots ≤ 7293034) (hc : cells + 1 ≤ 601024) (hs : slots + 6 ≤ 7293034)
    (K : ∀ (μ' : zM) (ov' : Nat → Int64) (t' c' nc' n' : Nat), zR2 μ' μ' t' c' nc' n' (A + 1) → zW p l e room_1 s m #[Value.ref b] below meth c E 7 (cells + 1) (slots + 6) (lw_Z below #[Value.ref b] s) 1405 [some (.ref b), some (.ref (zob E 0)), some (.ref (zob E 7)), some (.ref (zob E 8)), some (.int (nI i)), none, none] [] μ' ov') :
    zW p l e room_1 s m #[Value.ref b] below meth c E 7 cells slots (lw_Z below #[Value.ref b] s) 448 [some (.ref b), some (.ref (zob E 0)), some (.ref (zob E 7)), some (.ref (zob E 8)), some (.int (nI i)), none, none] [] μ ov := by
  refine z_aloadn (i := 1) (pc := 448) C dL_law_448 rfl rfl ?_
  refine z_aloadn (i := 0) (pc := 449) C dL_law_449 rfl rfl ?_
  refine z_iload (i := 4) (pc := 450) C dL_law_450 rfl ?_
  refine z_iconst (v := 1) (pc := 452) C dL_law_452 (by decide) ?_
  refine z_iadd (pc := 453) C dL_law_453 ?_
  refine z_sld (pc := 454) C hX hbl hbA (i + 1) (nI_add i 1) (by omega) hL dL_law_454 ?_
  refine z_aloadn (i := 0) (pc := 455) C dL_law_455 rfl rfl ?_
  refine z_iload (i := 4) (pc := 456) C dL_law_456 rfl ?_
  refine z_iconst (v := 2) (pc := 458) C dL_law_458 (by decide) ?_
  refine z_iadd (pc := 459) C dL_law_459 ?_
  refine z_sld (pc := 460) C hX hbl hbA (i + 2) (nI_add i 2) (by omega) hL dL_law_460 ?_
  refine z_aloadn (i := 0) (pc := 461) C dL_law_461 rfl rfl ?_
  refine z_iload (i := 4) (pc := 462) C dL_law_462 rfl ?_
  refine z_iconst (v := 3) (pc := 464) C dL_law_464 (by decide) ?_
  refine z_iadd (pc := 465) C dL_law_465 ?_
  refine z_sld (pc := 466) C hX hbl hbA (i + 3) (nI_add i 3) (by omega) hL dL_law_466 ?_
  refine z_aloadn (i := 0) (pc := 467) C dL_law_467 rfl rfl ?_
  refine z_iload (i := 4) (pc := 468) C dL_law_468 rfl ?_
  refine z_iconst (v := 4) (pc := 470) C dL_law_470 (by decide) ?_
  refine z_iadd (pc := 471) C dL_law_471 ?_
  refine z_sld (pc := 472) C hX hbl hbA (i + 4) (nI_add i 4) (by omega) hL dL_law_472 ?_
  refine z_aloadn (i := 3) (pc := 473) C dL_law_473 rfl rfl ?_
  refine z_callSWi (pc := 474) (n := 6) (As := [.ref (zob E 0), .int (xs (i + 1)), .int (xs (i + 2)), .int (xs (i + 3)), .int (xs (i + 4)), .ref (zob E 8)]) (rest := []) C (c_L_calibrate l hfl E sa (μ := μ) (ov := ov) (i := (xs (i + 1))) (a := (xs (i + 2))) (b := (xs (i + 3))) (x := (xs (i + 4))) t c9 nc n h.1) (zwS_g gL_law_L_calibrate) rfl zfV_L_calibrate.2 ⟨(Nat.le_of_ble_eq_true rfl), (Nat.le_of_ble_eq_true rfl)⟩ rfl rfl (Nat.le_of_ble_eq_true rfl) ⟨hc, hs⟩ dL_law_474 (fun r9 μ9 ov9 hp => ?_)
  obtain ⟨hms, hK⟩ := s_calibrate (i := (xs (i + 1))) (a := (xs (i + 2))) (b := (xs (i + 3))) (x := (xs (i + 4))) h hA hp
  have HM := hms.MI h.2.1
  obtain ⟨M1, M2, M3, M4, M5, M6, M7, M8, M9⟩ := id HM
  refine z_istore5 (pc := 477) C (by decide) (fun w hw => by cases hw; exact (show ¬ (1 = 2) from by decide)) dL_law_477 ?_
  refine z_aloadn (i := 2) (pc := 479) C dL_law_479 rfl rfl ?_
  refine z_aloadn (i := 0) (pc := 480) C dL_law_480 rfl rfl ?_
  refine z_iload (i := 4) (pc := 481) C dL_law_481 rfl ?_
  refine z_iconst (v := 1) (pc := 483) C dL_law_483 (by decide) ?_
  refine z_iadd (pc := 484) C dL_law_484 ?_
  refine z_sld (pc := 485) C hX hbl hbA (i + 1) (nI_add i 1) (by omega) hL dL_law_485 ?_
  refine z_aloadn (i := 0) (pc := 486) C dL_law_486 rfl rfl ?_
  refine z_iload (i := 4) (pc := 487) C dL_law_487 rfl ?_
  refine z_iconst (v := 2) (pc := 489) C dL_law_489 (by decide) ?_
  refine z_iadd (pc := 490) C dL_law_490 ?_
  refine z_sld (pc := 491) C hX hbl hbA (i + 2) (nI_add i 2) (by omega) hL dL_law_491 ?_
  refine z_aloadn (i := 0) (pc := 492) C dL_law_492 rfl rfl ?_
  refine z_iload (i := 4) (pc := 493) C dL_law_493 rfl ?_
  refine z_iconst (v := 3) (pc := 495) C dL_law_495 (by decide) ?_
  refine z_iadd (pc := 496) C dL_law_496 ?_
  refine z_sld (pc := 497) C hX hbl hbA (i + 3) (nI_add i 3) (by omega) hL dL_law_497 ?_
  refine z_aloadn (i := 0) (pc := 498) C dL_law_498 rfl rfl ?_
  refine z_iload (i := 4) (pc := 499) C dL_law_499 rfl ?_
  refine z_iconst (v := 4) (pc := 501) C dL_law_501 (by decide) ?_
  refine z_iadd (pc := 502) C dL_law_502 ?_
  refine z_sld (pc := 503) C hX hbl hbA (i + 4) (nI_add i 4) (by omega) hL dL_law_503 ?_
  refine z_callVi (pc := 504) (n := 4) (As := [.int (xs (i + 1)), .int (xs (i + 2)), .int (xs (i + 3)), .int (xs (i + 4))]) (rest := []) C (c_X5_calibrate l E sa (μ := μ9) (ov := ov9) (i := (xs (i + 1))) (a := (xs (i + 2))) (b := (xs (i + 3))) (x := (xs (i + 4))) n M6 M7 M9) gL_law_X5_calibrate rfl zfV_X5_calibrate ⟨(Nat.le_of_ble_eq_true rfl), (Nat.le_of_ble_eq_true rfl)⟩ rfl (zRec_X5 E) rfl (Nat.le_of_ble_eq_true rfl) ⟨hc, hs⟩ dL_law_504 (fun r8 μ8 ov8 hq => ?_)
  have ok := hK _ _ _ hq
  refine z_istore6 (pc := 507) C (by decide) (fun w hw => by cases hw; exact (show ¬ (1 = 2) from by decide)) dL_law_507 ?_
  refine z_aloadn (i := 2) (pc := 509) C dL_law_509 rfl rfl ?_
  refine z_callVi (pc := 510) (n := 0) (As := []) (rest := []) C (c_X5_thrown l E sa (μ := μ8) (ov := ov8)) gL_law_X5_thrown rfl zfV_X5_thrown ⟨(Nat.le_of_ble_eq_true rfl), (Nat.le_of_ble_eq_true rfl)⟩ rfl (zRec_X5 E) rfl (Nat.le_of_ble_eq_true rfl) ⟨hc, hs⟩ dL_law_510 (fun r7 μ7 ov7 hv => ?_)
  obtain ⟨v1, v2, v3⟩ := hv
  subst v2 v3
  refine z_iload (i := 5) (pc := 513) C dL_law_513 rfl ?_
  refine z_icmp_eq (tgt := 520) (pc := 515) C dL_law_515 (by decide) (fun _ => ?_) (fun c2 => absurd (v1.trans ok.1.symm) c2)
  refine z_iload (i := 5) (pc := 520) C dL_law_520 rfl ?_
  have J9 : zW p l e room_1 s m #[Value.ref b] below meth c E 7 (cells + 1) (slots + 6) (lw_Z below #[Value.ref b] s) 537 [some (.ref b), some (.ref (zob E 0)), some (.ref (zob E 7)), some (.ref (zob E 8)), some (.int (nI i)), some (.int r9), some (.int r8)] [] μ7 ov7 := by
    obtain ⟨t1, d1, nc1, n1, h1⟩ := ok.2.2
    have K2 := K _ ov7 _ _ _ _ h1
    exact z_goto (tgt := 1405) (pc := 537) C dL_law_537 (by decide) (z_weak (lv' := [some (.ref b), some (.ref (zob E 0)), some (.ref (zob E 7)), some (.ref (zob E 8)), some (.int (nI i)), none, none]) ⟨rfl, rfl, rfl, rfl, rfl, trivial⟩ K2)
  refine z_if_ne (tgt := 537) (pc := 522) C dL_law_522 (by decide) (fun _ => J9) (fun c3 => ?_)
  have c4 := ok.2.1 c3
  refine z_aloadn (i := 3) (pc := 525) C dL_law_525 rfl rfl ?_
  refine z_iconst (v := 0) (pc := 526) C dL_law_526 (by decide) ?_
  refine z_lald (pc := 527) C rfl dL_law_527 ?_
  refine z_iload (i := 6) (pc := 528) C dL_law_528 rfl ?_
  refine z_i2l (pc := 530) C dL_law_530 ?_
  refine z_lcmp (pc := 531) C dL_law_531 ?_
  exact z_if_eq (tgt := 537) (pc := 532) C dL_law_532 (by decide) (fun _ => J9) (fun c6 => absurd ((lg_cmp_eq _ _).mpr c4) c6)
set_option maxHeartbeats 4000000 in
set_option maxRecDepth 100000 in
theorem law_bounds (hfl : l.stackTraces = false) (hL : L ≤ 2560) (hX : va_X b L xs s s.heap) (hbl : b < s.heap.size) (hbA : ¬ zA E s.heap.size b) (C : zC p s m #[Value.ref b] c E sa cL_law 7 RL wsL_law) (h : zR2 μ μ t c9 nc n A) (hA : A < 512) (hi : i + 4 < L) (hc0 : cells ≤ 601024) (hs0 : slots ≤ 7293034) (hc : cells + 1 ≤ 601024) (hs : slots + 6 ≤ 7293034)
    (K : ∀ (μ' : zM) (ov' : Nat → Int64) (t' c' nc' n' : Nat), zR2 μ' μ' t' c' nc' n' (A + 1) → zW p l e room_1 s m #[Value.ref b] below meth c E 7 (cells + 1) (slots + 6) (lw_Z below #[Value.ref b] s) 1405 [some (.ref b), some (.ref (zob E 0)), some (.ref (zob E 7)), some (.ref (zob E 8)), some (.int (nI i)), none, none] [] μ' ov') :
    zW p l e room_1 s m #[Value.ref b] below meth c E 7 cells slots (lw_Z below #[Value.ref b] s) 540 [some (.ref b), some (.ref (zob E 0)), some (.ref (zob E 7)), some (.ref (zob E 8)), some (.int (nI i)), none, none] [] μ ov := by
  refine z_aloadn (i := 1) (pc := 540) C dL_law_540 rfl rfl ?_
  refine z_aloadn (i := 0) (pc := 541) C dL_law_541 rfl rfl ?_
  refine z_iload (i := 4) (pc := 542) C dL_law_542 rfl ?_
  refine z_iconst (v := 1) (pc := 544) C dL_law_544 (by decide) ?_
  refine z_iadd (pc := 545) C dL_law_545 ?_
  refine z_sld (pc := 546) C hX hbl hbA (i + 1) (nI_add i 1) (by omega) hL dL_law_546 ?_
  refine z_aloadn (i := 0) (pc := 547) C dL_law_547 rfl rfl ?_
  refine z_iload (i := 4) (pc := 548) C dL_law_548 rfl ?_
  refine z_iconst (v := 2) (pc := 550) C dL_law_550 (by decide) ?_
  refine z_iadd (pc := 551) C dL_law_551 ?_
  refine z_sld (pc := 552) C hX hbl hbA (i + 2) (nI_add i 2) (by omega) hL dL_law_552 ?_
  refine z_callSWi (pc := 553) (n := 3) (As := [.ref (zob E 0), .int (xs (i + 1)), .int (xs (i + 2))]) (rest := []) C (c_L_bounds l hfl E sa (μ := μ) (ov := ov) (a := (xs (i + 1))) (b := (xs (i + 2))) t c9 nc n h.1) (zwS_g gL_law_L_bounds) rfl zfV_L_bounds.2 ⟨(Nat.le_of_ble_eq_true rfl), (Nat.le_of_ble_eq_true rfl)⟩ rfl rfl (Nat.le_of_ble_eq_true rfl) ⟨hc, hs⟩ dL_law_553 (fun r9 μ9 ov9 hp => ?_)
  obtain ⟨hms, hK⟩ := s_bounds (a := (xs (i + 1))) (b := (xs (i + 2))) h hA hp
  have HM := hms.MI h.2.1
  obtain ⟨M1, M2, M3, M4, M5, M6, M7, M8, M9⟩ := id HM
  refine z_istore5 (pc := 556) C (by decide) (fun w hw => by cases hw; exact (show ¬ (1 = 2) from by decide)) dL_law_556 ?_
  refine z_aloadn (i := 2) (pc := 558) C dL_law_558 rfl rfl ?_
  refine z_aloadn (i := 0) (pc := 559) C dL_law_559 rfl rfl ?_
  refine z_iload (i := 4) (pc := 560) C dL_law_560 rfl ?_
  refine z_iconst (v := 1) (pc := 562) C dL_law_562 (by decide) ?_
  refine z_iadd (pc := 563) C dL_law_563 ?_
  refine z_sld (pc := 564) C hX hbl hbA (i + 1) (nI_add i 1) (by omega) hL dL_law_564 ?_
  refine z_aloadn (i := 0) (pc := 565) C dL_law_565 rfl rfl ?_
  refine z_iload (i := 4) (pc := 566) C dL_law_566 rfl ?_
  refine z_iconst (v := 2) (pc := 568) C dL_law_568 (by decide) ?_
  refine z_iadd (pc := 569) C dL_law_569 ?_
  refine z_sld (pc := 570) C hX hbl hbA (i + 2) (nI_add i 2) (by omega) hL dL_law_570 ?_
  refine z_callVv (pc := 571) (n := 2) (As := [.int (xs (i + 1)), .int (xs (i + 2))]) (rest := []) C (c_X5_bounds l E sa (μ := μ9) (ov := ov9) (a := (xs (i + 1))) (b := (xs (i + 2))) ) gL_law_X5_bounds rfl zfV_X5_bounds ⟨(Nat.le_of_ble_eq_true rfl), (Nat.le_of_ble_eq_true rfl)⟩ rfl (zRec_X5 E) rfl (Nat.le_of_ble_eq_true rfl) ⟨hc, hs⟩ dL_law_571 (fun μ8 ov8 hq => ?_)
  have ok := hK _ _ hq
  refine z_aloadn (i := 2) (pc := 574) C dL_law_574 rfl rfl ?_
  refine z_callVi (pc := 575) (n := 0) (As := []) (rest := []) C (c_X5_thrown l E sa (μ := μ8) (ov := ov8)) gL_law_X5_thrown rfl zfV_X5_thrown ⟨(Nat.le_of_ble_eq_true rfl), (Nat.le_of_ble_eq_true rfl)⟩ rfl (zRec_X5 E) rfl (Nat.le_of_ble_eq_true rfl) ⟨hc, hs⟩ dL_law_575 (fun r7 μ7 ov7 hv => ?_)
  obtain ⟨v1, v2, v3⟩ := hv
  subst v2 v3
  refine z_iload (i := 5) (pc := 578) C dL_law_578 rfl ?_
  refine z_icmp_eq (tgt := 585) (pc := 580) C dL_law_580 (by decide) (fun _ => ?_) (fun c2 => absurd (v1.trans ok.1.symm) c2)
  obtain ⟨t1, d1, nc1, n1, h1⟩ := ok.2
  have K2 := K _ ov7 _ _ _ _ h1
  exact z_goto (tgt := 1405) (pc := 585) C dL_law_585 (by decide) (z_weak (lv' := [some (.ref b), some (.ref (zob E 0)), some (.ref (zob E 7)), some (.ref (zob E 8)), some (.int (nI i)), none, none]) ⟨rfl, rfl, rfl, rfl, rfl, trivial⟩ K2)
set_option maxHeartbeats 4000000 in
set_option maxRecDepth 100000 in
theorem law_pass (hfl : l.stackTraces = false) (hL : L ≤ 2560) (hX : va_X b L xs s s.heap) (hbl : b < s.heap.size) (hbA : ¬ zA E s.heap.size b) (C : zC p s m #[Value.ref b] c E sa cL_law 7 RL wsL_law) (h : zR2 μ μ t c9 nc n A) (hA : A < 512) (hi : i + 4 < L) (hc0 : cells ≤ 601024) (hs0 : slots ≤ 7293034) (hc : cells + 1 ≤ 601024) (hs : slots + 6 ≤ 7293034)
    (K : ∀ (μ' : zM) (ov' : Nat → Int64) (t' c' nc' n' : Nat), zR2 μ' μ' t' c' nc' n' (A + 1) → zW p l e room_1 s m #[Value.ref b] below meth c E 7 (cells + 1) (slots + 6) (lw_Z below #[Value.ref b] s) 1405 [some (.ref b), some (.ref (zob E 0)), some (.ref (zob E 7)), some (.ref (zob E 8)), some (.int (nI i)), none, none] [] μ' ov') :
    zW p l e room_1 s m #[Value.ref b] below meth c E 7 cells slots (lw_Z below #[Value.ref b] s) 588 [some (.ref b), some (.ref (zob E 0)), some (.ref (zob E 7)), some (.ref (zob E 8)), some (.int (nI i)), none, none] [] μ ov := by
  refine z_aloadn (i := 1) (pc := 588) C dL_law_588 rfl rfl ?_
  refine z_aloadn (i := 0) (pc := 589) C dL_law_589 rfl rfl ?_
  refine z_iload (i := 4) (pc := 590) C dL_law_590 rfl ?_
  refine z_iconst (v := 1) (pc := 592) C dL_law_592 (by decide) ?_
  refine z_iadd (pc := 593) C dL_law_593 ?_
  refine z_sld (pc := 594) C hX hbl hbA (i + 1) (nI_add i 1) (by omega) hL dL_law_594 ?_
  refine z_aloadn (i := 3) (pc := 595) C dL_law_595 rfl rfl ?_
  refine z_callSWi (pc := 596) (n := 3) (As := [.ref (zob E 0), .int (xs (i + 1)), .ref (zob E 8)]) (rest := []) C (c_L_pass l hfl E sa (μ := μ) (ov := ov) (f := (xs (i + 1))) t c9 nc n h.1) (zwS_g gL_law_L_pass) rfl zfV_L_pass.2 ⟨(Nat.le_of_ble_eq_true rfl), (Nat.le_of_ble_eq_true rfl)⟩ rfl rfl (Nat.le_of_ble_eq_true rfl) ⟨hc, hs⟩ dL_law_596 (fun r9 μ9 ov9 hp => ?_)
  obtain ⟨hms, hK⟩ := s_pass (f := (xs (i + 1))) h hA hp
  have HM := hms.MI h.2.1
  obtain ⟨M1, M2, M3, M4, M5, M6, M7, M8, M9⟩ := id HM
  refine z_istore5 (pc := 599) C (by decide) (fun w hw => by cases hw; exact (show ¬ (1 = 2) from by decide)) dL_law_599 ?_
  refine z_aloadn (i := 2) (pc := 601) C dL_law_601 rfl rfl ?_
  refine z_aloadn (i := 0) (pc := 602) C dL_law_602 rfl rfl ?_
  refine z_iload (i := 4) (pc := 603) C dL_law_603 rfl ?_
  refine z_iconst (v := 1) (pc := 605) C dL_law_605 (by decide) ?_
  refine z_iadd (pc := 606) C dL_law_606 ?_
  refine z_sld (pc := 607) C hX hbl hbA (i + 1) (nI_add i 1) (by omega) hL dL_law_607 ?_
  refine z_callVi (pc := 608) (n := 1) (As := [.int (xs (i + 1))]) (rest := []) C (c_X5_pass l E sa (μ := μ9) (ov := ov9) (f := (xs (i + 1))) t c9 nc n HM) gL_law_X5_pass rfl zfV_X5_pass ⟨(Nat.le_of_ble_eq_true rfl), (Nat.le_of_ble_eq_true rfl)⟩ rfl (zRec_X5 E) rfl (Nat.le_of_ble_eq_true rfl) ⟨hc, hs⟩ dL_law_608 (fun r8 μ8 ov8 hq => ?_)
  have ok := hK _ _ _ hq
  refine z_istore6 (pc := 611) C (by decide) (fun w hw => by cases hw; exact (show ¬ (1 = 2) from by decide)) dL_law_611 ?_
  refine z_aloadn (i := 2) (pc := 613) C dL_law_613 rfl rfl ?_
  refine z_callVi (pc := 614) (n := 0) (As := []) (rest := []) C (c_X5_thrown l E sa (μ := μ8) (ov := ov8)) gL_law_X5_thrown rfl zfV_X5_thrown ⟨(Nat.le_of_ble_eq_true rfl), (Nat.le_of_ble_eq_true rfl)⟩ rfl (zRec_X5 E) rfl (Nat.le_of_ble_eq_true rfl) ⟨hc, hs⟩ dL_law_614 (fun r7 μ7 ov7 hv => ?_)
  obtain ⟨v1, v2, v3⟩ := hv
  subst v2 v3
  refine z_iload (i := 5) (pc := 617) C dL_law_617 rfl ?_
  refine z_icmp_eq (tgt := 624) (pc := 619) C dL_law_619 (by decide) (fun _ => ?_) (fun c2 => absurd (v1.trans ok.1.symm) c2)
  refine z_iload (i := 5) (pc := 624) C dL_law_624 rfl ?_
  have J9 : zW p l e room_1 s m #[Value.ref b] below meth c E 7 (cells + 1) (slots + 6) (lw_Z below #[Value.ref b] s) 641 [some (.ref b), some (.ref (zob E 0)), some (.ref (zob E 7)), some (.ref (zob E 8)), some (.int (nI i)), some (.int r9), some (.int r8)] [] μ7 ov7 := by
    obtain ⟨t1, d1, nc1, n1, h1⟩ := ok.2.2
    have K2 := K _ ov7 _ _ _ _ h1
    exact z_goto (tgt := 1405) (pc := 641) C dL_law_641 (by decide) (z_weak (lv' := [some (.ref b), some (.ref (zob E 0)), some (.ref (zob E 7)), some (.ref (zob E 8)), some (.int (nI i)), none, none]) ⟨rfl, rfl, rfl, rfl, rfl, trivial⟩ K2)
  refine z_if_ne (tgt := 641) (pc := 626) C dL_law_626 (by decide) (fun _ => J9) (fun c3 => ?_)
  have c4 := ok.2.1 c3
  refine z_aloadn (i := 3) (pc := 629) C dL_law_629 rfl rfl ?_
  refine z_iconst (v := 0) (pc := 630) C dL_law_630 (by decide) ?_
  refine z_lald (pc := 631) C rfl dL_law_631 ?_
  refine z_iload (i := 6) (pc := 632) C dL_law_632 rfl ?_
  refine z_i2l (pc := 634) C dL_law_634 ?_
  refine z_lcmp (pc := 635) C dL_law_635 ?_
  exact z_if_eq (tgt := 641) (pc := 636) C dL_law_636 (by decide) (fun _ => J9) (fun c6 => absurd ((lg_cmp_eq _ _).mpr c4) c6)
set_option maxHeartbeats 4000000 in
set_option maxRecDepth 100000 in
theorem law_vote (hfl : l.stackTraces = false) (hL : L ≤ 2560) (hX : va_X b L xs s s.heap) (hbl : b < s.heap.size) (hbA : ¬ zA E s.heap.size b) (C : zC p s m #[Value.ref b] c E sa cL_law 7 RL wsL_law) (h : zR2 μ μ t c9 nc n A) (hA : A < 512) (hi : i + 4 < L) (hc0 : cells ≤ 601024) (hs0 : slots ≤ 7293034) (hc : cells + 1 ≤ 601024) (hs : slots + 6 ≤ 7293034)
    (K : ∀ (μ' : zM) (ov' : Nat → Int64) (t' c' nc' n' : Nat), zR2 μ' μ' t' c' nc' n' (A + 1) → zW p l e room_1 s m #[Value.ref b] below meth c E 7 (cells + 1) (slots + 6) (lw_Z below #[Value.ref b] s) 1405 [some (.ref b), some (.ref (zob E 0)), some (.ref (zob E 7)), some (.ref (zob E 8)), some (.int (nI i)), none, none] [] μ' ov') :
    zW p l e room_1 s m #[Value.ref b] below meth c E 7 cells slots (lw_Z below #[Value.ref b] s) 644 [some (.ref b), some (.ref (zob E 0)), some (.ref (zob E 7)), some (.ref (zob E 8)), some (.int (nI i)), none, none] [] μ ov := by
  refine z_aloadn (i := 1) (pc := 644) C dL_law_644 rfl rfl ?_
  refine z_aloadn (i := 0) (pc := 645) C dL_law_645 rfl rfl ?_
  refine z_iload (i := 4) (pc := 646) C dL_law_646 rfl ?_
  refine z_iconst (v := 1) (pc := 648) C dL_law_648 (by decide) ?_
  refine z_iadd (pc := 649) C dL_law_649 ?_
  refine z_sld (pc := 650) C hX hbl hbA (i + 1) (nI_add i 1) (by omega) hL dL_law_650 ?_
  refine z_aloadn (i := 0) (pc := 651) C dL_law_651 rfl rfl ?_
  refine z_iload (i := 4) (pc := 652) C dL_law_652 rfl ?_
  refine z_iconst (v := 2) (pc := 654) C dL_law_654 (by decide) ?_
  refine z_iadd (pc := 655) C dL_law_655 ?_
  refine z_sld (pc := 656) C hX hbl hbA (i + 2) (nI_add i 2) (by omega) hL dL_law_656 ?_
  have J1 : zW p l e room_1 s m #[Value.ref b] below meth c E 7 cells slots (lw_Z below #[Value.ref b] s) 665 [some (.ref b), some (.ref (zob E 0)), some (.ref (zob E 7)), some (.ref (zob E 8)), some (.int (nI i)), none, none] [.int (zb (¬ xs (i + 2) = 0)), .int (xs (i + 1)), .ref (zob E 0)] μ ov := by
    refine z_aloadn (i := 3) (pc := 665) C dL_law_665 rfl rfl ?_
    refine z_callSWi (pc := 666) (n := 4) (As := [.ref (zob E 0), .int (xs (i + 1)), .int (zb (¬ xs (i + 2) = 0)), .ref (zob E 8)]) (rest := []) C (c_L_vote l hfl E sa (μ := μ) (ov := ov) (i := (xs (i + 1))) (b := (zb (¬ xs (i + 2) = 0))) (zb_01) t c9 nc n h.1) (zwS_g gL_law_L_vote) rfl zfV_L_vote.2 ⟨(Nat.le_of_ble_eq_true rfl), (Nat.le_of_ble_eq_true rfl)⟩ rfl rfl (Nat.le_of_ble_eq_true rfl) ⟨hc, hs⟩ dL_law_666 (fun r9 μ9 ov9 hp => ?_)
    obtain ⟨hms, hK⟩ := s_vote (i := (xs (i + 1))) (b := (zb (¬ xs (i + 2) = 0))) (zb_01) h hA hp
    have HM := hms.MI h.2.1
    obtain ⟨M1, M2, M3, M4, M5, M6, M7, M8, M9⟩ := id HM
    refine z_istore5 (pc := 669) C (by decide) (fun w hw => by cases hw; exact (show ¬ (1 = 2) from by decide)) dL_law_669 ?_
    refine z_aloadn (i := 2) (pc := 671) C dL_law_671 rfl rfl ?_
    refine z_aloadn (i := 0) (pc := 672) C dL_law_672 rfl rfl ?_
    refine z_iload (i := 4) (pc := 673) C dL_law_673 rfl ?_
    refine z_iconst (v := 1) (pc := 675) C dL_law_675 (by decide) ?_
    refine z_iadd (pc := 676) C dL_law_676 ?_
    refine z_sld (pc := 677) C hX hbl hbA (i + 1) (nI_add i 1) (by omega) hL dL_law_677 ?_
    refine z_aloadn (i := 0) (pc := 678) C dL_law_678 rfl rfl ?_
    refine z_iload (i := 4) (pc := 679) C dL_law_679 rfl ?_
    refine z_iconst (v := 2) (pc := 681) C dL_law_681 (by decide) ?_
    refine z_iadd (pc := 682) C dL_law_682 ?_
    refine z_sld (pc := 683) C hX hbl hbA (i + 2) (nI_add i 2) (by omega) hL dL_law_683 ?_
    have J2 : zW p l e room_1 s m #[Value.ref b] below meth c E 7 (cells + 1) (slots + 6) (lw_Z below #[Value.ref b] s) 692 [some (.ref b), some (.ref (zob E 0)), some (.ref (zob E 7)), some (.ref (zob E 8)), some (.int (nI i)), some (.int r9), none] [.int (zb (¬ xs (i + 2) = 0)), .int (xs (i + 1)), .ref (zob E 7)] μ9 ov9 := by
      refine z_callVi (pc := 692) (n := 2) (As := [.int (xs (i + 1)), .int (zb (¬ xs (i + 2) = 0))]) (rest := []) C (c_X5_vote l E sa (μ := μ9) (ov := ov9) (i := (xs (i + 1))) (b := (zb (¬ xs (i + 2) = 0))) zb_01) gL_law_X5_vote rfl zfV_X5_vote ⟨(Nat.le_of_ble_eq_true rfl), (Nat.le_of_ble_eq_true rfl)⟩ rfl (zRec_X5 E) rfl (Nat.le_of_ble_eq_true rfl) ⟨hc, hs⟩ dL_law_692 (fun r8 μ8 ov8 hq => ?_)
      have ok := hK _ _ _ hq
      refine z_istore6 (pc := 695) C (by decide) (fun w hw => by cases hw; exact (show ¬ (1 = 2) from by decide)) dL_law_695 ?_
      refine z_aloadn (i := 2) (pc := 697) C dL_law_697 rfl rfl ?_
      refine z_callVi (pc := 698) (n := 0) (As := []) (rest := []) C (c_X5_thrown l E sa (μ := μ8) (ov := ov8)) gL_law_X5_thrown rfl zfV_X5_thrown ⟨(Nat.le_of_ble_eq_true rfl), (Nat.le_of_ble_eq_true rfl)⟩ rfl (zRec_X5 E) rfl (Nat.le_of_ble_eq_true rfl) ⟨hc, hs⟩ dL_law_698 (fun r7 μ7 ov7 hv => ?_)
      obtain ⟨v1, v2, v3⟩ := hv
      subst v2 v3
      refine z_iload (i := 5) (pc := 701) C dL_law_701 rfl ?_
      refine z_icmp_eq (tgt := 708) (pc := 703) C dL_law_703 (by decide) (fun _ => ?_) (fun c2 => absurd (v1.trans ok.1.symm) c2)
      refine z_iload (i := 5) (pc := 708) C dL_law_708 rfl ?_
      have J9 : zW p l e room_1 s m #[Value.ref b] below meth c E 7 (cells + 1) (slots + 6) (lw_Z below #[Value.ref b] s) 725 [some (.ref b), some (.ref (zob E 0)), some (.ref (zob E 7)), some (.ref (zob E 8)), some (.int (nI i)), some (.int r9), some (.int r8)] [] μ7 ov7 := by
        obtain ⟨t1, d1, nc1, n1, h1⟩ := ok.2.2
        have K2 := K _ ov7 _ _ _ _ h1
        exact z_goto (tgt := 1405) (pc := 725) C dL_law_725 (by decide) (z_weak (lv' := [some (.ref b), some (.ref (zob E 0)), some (.ref (zob E 7)), some (.ref (zob E 8)), some (.int (nI i)), none, none]) ⟨rfl, rfl, rfl, rfl, rfl, trivial⟩ K2)
      refine z_if_ne (tgt := 725) (pc := 710) C dL_law_710 (by decide) (fun _ => J9) (fun c3 => ?_)
      have c4 := ok.2.1 c3
      refine z_aloadn (i := 3) (pc := 713) C dL_law_713 rfl rfl ?_
      refine z_iconst (v := 0) (pc := 714) C dL_law_714 (by decide) ?_
      refine z_lald (pc := 715) C rfl dL_law_715 ?_
      refine z_iload (i := 6) (pc := 716) C dL_law_716 rfl ?_
      refine z_i2l (pc := 718) C dL_law_718 ?_
      refine z_lcmp (pc := 719) C dL_law_719 ?_
      exact z_if_eq (tgt := 725) (pc := 720) C dL_law_720 (by decide) (fun _ => J9) (fun c6 => absurd ((lg_cmp_eq _ _).mpr c4) c6)
    refine z_if_eq (tgt := 691) (pc := 684) C dL_law_684 (by decide) (fun c1 => ?_) (fun c1 => ?_)
    · refine z_iconst (v := 0) (pc := 691) C dL_law_691 (by decide) ?_
      exact z_topi (y := zb (¬ xs (i + 2) = 0)) (zb_f (fun z => z c1)).symm J2
    · refine z_iconst (v := 1) (pc := 687) C dL_law_687 (by decide) ?_
      refine z_goto (tgt := 692) (pc := 688) C dL_law_688 (by decide) ?_
      exact z_topi (y := zb (¬ xs (i + 2) = 0)) (zb_t c1).symm J2
  refine z_if_eq (tgt := 664) (pc := 657) C dL_law_657 (by decide) (fun c1 => ?_) (fun c1 => ?_)
  · refine z_iconst (v := 0) (pc := 664) C dL_law_664 (by decide) ?_
    exact z_topi (y := zb (¬ xs (i + 2) = 0)) (zb_f (fun z => z c1)).symm J1
  · refine z_iconst (v := 1) (pc := 660) C dL_law_660 (by decide) ?_
    refine z_goto (tgt := 665) (pc := 661) C dL_law_661 (by decide) ?_
    exact z_topi (y := zb (¬ xs (i + 2) = 0)) (zb_t c1).symm J1
set_option maxHeartbeats 4000000 in
set_option maxRecDepth 100000 in
theorem law_adopt (hfl : l.stackTraces = false) (hL : L ≤ 2560) (hX : va_X b L xs s s.heap) (hbl : b < s.heap.size) (hbA : ¬ zA E s.heap.size b) (C : zC p s m #[Value.ref b] c E sa cL_law 7 RL wsL_law) (h : zR2 μ μ t c9 nc n A) (hA : A < 512) (hi : i + 4 < L) (hc0 : cells ≤ 601024) (hs0 : slots ≤ 7293034) (hc : cells + 1 ≤ 601024) (hs : slots + 6 ≤ 7293034)
    (K : ∀ (μ' : zM) (ov' : Nat → Int64) (t' c' nc' n' : Nat), zR2 μ' μ' t' c' nc' n' (A + 1) → zW p l e room_1 s m #[Value.ref b] below meth c E 7 (cells + 1) (slots + 6) (lw_Z below #[Value.ref b] s) 1405 [some (.ref b), some (.ref (zob E 0)), some (.ref (zob E 7)), some (.ref (zob E 8)), some (.int (nI i)), none, none] [] μ' ov') :
    zW p l e room_1 s m #[Value.ref b] below meth c E 7 cells slots (lw_Z below #[Value.ref b] s) 728 [some (.ref b), some (.ref (zob E 0)), some (.ref (zob E 7)), some (.ref (zob E 8)), some (.int (nI i)), none, none] [] μ ov := by
  refine z_aloadn (i := 1) (pc := 728) C dL_law_728 rfl rfl ?_
  refine z_aloadn (i := 3) (pc := 729) C dL_law_729 rfl rfl ?_
  refine z_callSWi (pc := 730) (n := 2) (As := [.ref (zob E 0), .ref (zob E 8)]) (rest := []) C (c_L_adopt l hfl E sa (μ := μ) (ov := ov) t c9 nc n h.1) (zwS_g gL_law_L_adopt) rfl zfV_L_adopt.2 ⟨(Nat.le_of_ble_eq_true rfl), (Nat.le_of_ble_eq_true rfl)⟩ rfl rfl (Nat.le_of_ble_eq_true rfl) ⟨hc, hs⟩ dL_law_730 (fun r9 μ9 ov9 hp => ?_)
  obtain ⟨hms, hK⟩ := s_adopt h hA hp
  have HM := hms.MI h.2.1
  obtain ⟨M1, M2, M3, M4, M5, M6, M7, M8, M9⟩ := id HM
  refine z_istore5 (pc := 733) C (by decide) (fun w hw => by cases hw; exact (show ¬ (1 = 2) from by decide)) dL_law_733 ?_
  refine z_aloadn (i := 2) (pc := 735) C dL_law_735 rfl rfl ?_
  refine z_callVi (pc := 736) (n := 0) (As := []) (rest := []) C (c_X5_adopt l E sa (μ := μ9) (ov := ov9) t c9 nc n HM) gL_law_X5_adopt rfl zfV_X5_adopt ⟨(Nat.le_of_ble_eq_true rfl), (Nat.le_of_ble_eq_true rfl)⟩ rfl (zRec_X5 E) rfl (Nat.le_of_ble_eq_true rfl) ⟨hc, hs⟩ dL_law_736 (fun r8 μ8 ov8 hq => ?_)
  have ok := hK _ _ _ hq
  refine z_istore6 (pc := 739) C (by decide) (fun w hw => by cases hw; exact (show ¬ (1 = 2) from by decide)) dL_law_739 ?_
  refine z_aloadn (i := 2) (pc := 741) C dL_law_741 rfl rfl ?_
  refine z_callVi (pc := 742) (n := 0) (As := []) (rest := []) C (c_X5_thrown l E sa (μ := μ8) (ov := ov8)) gL_law_X5_thrown rfl zfV_X5_thrown ⟨(Nat.le_of_ble_eq_true rfl), (Nat.le_of_ble_eq_true rfl)⟩ rfl (zRec_X5 E) rfl (Nat.le_of_ble_eq_true rfl) ⟨hc, hs⟩ dL_law_742 (fun r7 μ7 ov7 hv => ?_)
  obtain ⟨v1, v2, v3⟩ := hv
  subst v2 v3
  refine z_iload (i := 5) (pc := 745) C dL_law_745 rfl ?_
  refine z_icmp_eq (tgt := 752) (pc := 747) C dL_law_747 (by decide) (fun _ => ?_) (fun c2 => absurd (v1.trans ok.1.symm) c2)
  refine z_iload (i := 5) (pc := 752) C dL_law_752 rfl ?_
  have J9 : zW p l e room_1 s m #[Value.ref b] below meth c E 7 (cells + 1) (slots + 6) (lw_Z below #[Value.ref b] s) 776 [some (.ref b), some (.ref (zob E 0)), some (.ref (zob E 7)), some (.ref (zob E 8)), some (.int (nI i)), some (.int r9), some (.int r8)] [] μ7 ov7 := by
    obtain ⟨t1, d1, nc1, n1, h1⟩ := ok.2.2
    have K2 := K _ ov7 _ _ _ _ h1
    exact z_goto (tgt := 1405) (pc := 776) C dL_law_776 (by decide) (z_weak (lv' := [some (.ref b), some (.ref (zob E 0)), some (.ref (zob E 7)), some (.ref (zob E 8)), some (.int (nI i)), none, none]) ⟨rfl, rfl, rfl, rfl, rfl, trivial⟩ K2)
  refine z_if_ne (tgt := 776) (pc := 754) C dL_law_754 (by decide) (fun _ => J9) (fun c3 => ?_)
  have c4 := ok.2.1 c3
  refine z_aloadn (i := 3) (pc := 757) C dL_law_757 rfl rfl ?_
  refine z_iconst (v := 0) (pc := 758) C dL_law_758 (by decide) ?_
  refine z_lald (pc := 759) C rfl dL_law_759 ?_
  refine z_iload (i := 6) (pc := 760) C dL_law_760 rfl ?_
  have J8 : ∀ z : Int64, z = r8.toInt64 → zW p l e room_1 s m #[Value.ref b] below meth c E 7 (cells + 1) (slots + 6) (lw_Z below #[Value.ref b] s) 770 [some (.ref b), some (.ref (zob E 0)), some (.ref (zob E 7)), some (.ref (zob E 8)), some (.int (nI i)), some (.int r9), some (.int r8)] [.long z, .long (ov7 0)] μ7 ov7 := by
    intro z hz
    refine z_lcmp (pc := 770) C dL_law_770 ?_
    exact z_if_eq (tgt := 776) (pc := 771) C dL_law_771 (by decide) (fun _ => J9) (fun c6 => absurd ((lg_cmp_eq _ _).mpr (c4.trans hz.symm)) c6)
  refine z_if_eq (tgt := 769) (pc := 762) C dL_law_762 (by decide) (fun c5 => ?_) (fun c5 => ?_)
  · refine z_lconst (v := 0) (pc := 769) C dL_law_769 (by decide) ?_
    exact J8 _ (by rw [c5]; rfl)
  · refine z_lconst (v := 1) (pc := 765) C dL_law_765 (by decide) ?_
    refine z_goto (tgt := 770) (pc := 766) C dL_law_766 (by decide) ?_
    refine J8 _ ?_
    rcases hq with ⟨-, e8, -⟩ | ⟨-, e8, -⟩
    · rw [e8] at c5 ⊢
      rw [zb_ne0] at c5
      rw [zb_t c5]; rfl
    · exact absurd e8 c5
set_option maxHeartbeats 4000000 in
set_option maxRecDepth 100000 in
theorem law_day (hfl : l.stackTraces = false) (hL : L ≤ 2560) (hX : va_X b L xs s s.heap) (hbl : b < s.heap.size) (hbA : ¬ zA E s.heap.size b) (C : zC p s m #[Value.ref b] c E sa cL_law 7 RL wsL_law) (h : zR2 μ μ t c9 nc n A) (hA : A < 512) (hi : i + 4 < L) (hc0 : cells ≤ 601024) (hs0 : slots ≤ 7293034) (hc : cells + 1 ≤ 601024) (hs : slots + 6 ≤ 7293034)
    (K : ∀ (μ' : zM) (ov' : Nat → Int64) (t' c' nc' n' : Nat), zR2 μ' μ' t' c' nc' n' (A + 1) → zW p l e room_1 s m #[Value.ref b] below meth c E 7 (cells + 1) (slots + 6) (lw_Z below #[Value.ref b] s) 1405 [some (.ref b), some (.ref (zob E 0)), some (.ref (zob E 7)), some (.ref (zob E 8)), some (.int (nI i)), none, none] [] μ' ov') :
    zW p l e room_1 s m #[Value.ref b] below meth c E 7 cells slots (lw_Z below #[Value.ref b] s) 779 [some (.ref b), some (.ref (zob E 0)), some (.ref (zob E 7)), some (.ref (zob E 8)), some (.int (nI i)), none, none] [] μ ov := by
  refine z_aloadn (i := 1) (pc := 779) C dL_law_779 rfl rfl ?_
  refine z_callVi (pc := 780) (n := 0) (As := []) (rest := []) C (c_X4_day l E sa (μ := μ) (ov := ov)) gL_law_X4_day rfl zfV_X4_day ⟨(Nat.le_of_ble_eq_true rfl), (Nat.le_of_ble_eq_true rfl)⟩ rfl (zRec_X4 E) rfl (Nat.le_of_ble_eq_true rfl) ⟨hc0, hs0⟩ dL_law_780 (fun r9 μ9 ov9 hp => ?_)
  obtain ⟨u1, u2, u3⟩ := hp
  subst u2 u3
  refine z_aloadn (i := 2) (pc := 783) C dL_law_783 rfl rfl ?_
  refine z_callVi (pc := 784) (n := 0) (As := []) (rest := [.int r9]) C (c_X5_day l E sa (μ := μ9) (ov := ov9)) gL_law_X5_day rfl zfV_X5_day ⟨(Nat.le_of_ble_eq_true rfl), (Nat.le_of_ble_eq_true rfl)⟩ rfl (zRec_X5 E) rfl (Nat.le_of_ble_eq_true rfl) ⟨hc0, hs0⟩ dL_law_784 (fun r8 μ8 ov8 hq => ?_)
  obtain ⟨v1, v2, v3⟩ := hq
  refine z_icmp_eq (tgt := 1405) (pc := 787) C dL_law_787 (by decide) (fun _ => ?_) (fun c2 => absurd (u1.trans (h.today.1.trans v1.symm)) c2)
  subst v2 v3
  have K2 := K _ ov8 _ _ _ _ (h.th hA 0)
  exact (z_widen (by omega) (by omega) K2)
end
