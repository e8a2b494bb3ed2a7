set_option maxHeartbeats 4000000 in
set_option maxRecDepth 100000 in
theorem c_L_areRings (l : Launch) (hfl : l.stackTraces = false) (E : zE) (sa : Nat → Nat) {μ : zM} {ov : Nat → Int64} {B : Nat} (t c9 nc n A q : Nat) (h : zLI μ t c9 nc n A) (h1 : 1 ≤ q) (hq : q ≤ t) (hB : μ 63 1 = nI B) (hB9 : B ≤ 499) : zMi l E sa yL_areRings wsL_areRings 17 465 1600 9600 [.ref (zob E 0), .ref (zad E 38), .ref (zad E 39), .int (nI q), .int (nI B)] μ ov (fun r μ1 ov1 => r = 1 ∧ zLI μ1 t c9 nc n A ∧ ov1 = ov) := by
  refine z_ofMi (cc := cL_areRings) (nL := 13) (ret := (some .boolean)) (own := RL) zfp_L_areRings rfl (by simp [Value.category]) (Nat.le_of_ble_eq_true rfl) rfl ?_
  intro p e s m below meth c C hr hlk
  show zW p l e (zR 17 465 1600 9600) s m [Value.ref (zob E 0), Value.ref (zad E 38), Value.ref (zad E 39), Value.int (nI q), Value.int (nI B)].toArray below meth c E 13 0 0 (MQ below (zQi E s.heap.size (fun r μ1 ov1 => r = 1 ∧ zLI μ1 t c9 nc n A ∧ ov1 = ov)) [Value.ref (zob E 0), Value.ref (zad E 38), Value.ref (zad E 39), Value.int (nI q), Value.int (nI B)].toArray s 1600 9600 (zA E s.heap.size)) 0 [some (.ref (zob E 0)), some (.ref (zad E 38)), some (.ref (zad E 39)), some (.int (nI q)), some (.int (nI B)), none, none, none, none, none, none, none, none] [] μ ov
  obtain ⟨H, hL, hS, hW, hG, hK, ht6, hA60⟩ := id h
  obtain ⟨X1, X2, X3, X4, X5, X6, X7, X8, X9⟩ := id H
  obtain ⟨G0, G1, G2, G3⟩ := id hG
  obtain ⟨k9, K1, K2, K3, K4, K5⟩ := id hK
  refine z_iconst (v := 0) (pc := 0) C dL_areRings_0 (by decide) ?_
  refine z_istore5 (pc := 1) C (by decide) (fun w hw => by cases hw; exact (show ¬ (1 = 2) from by decide)) dL_areRings_1 ?_
  refine z_iconst (v := 1) (pc := 3) C dL_areRings_3 (by decide) ?_
  refine z_istore6 (pc := 4) C (by decide) (fun w hw => by cases hw; exact (show ¬ (1 = 2) from by decide)) dL_areRings_4 ?_
  refine z_iconst (v := 0) (pc := 6) C dL_areRings_6 (by decide) ?_
  refine z_istore7 (pc := 7) C (by decide) (fun w hw => by cases hw; exact (show ¬ (1 = 2) from by decide)) dL_areRings_7 ?_
  have hn0 : ∀ u, u < n * n * n → 0 < n := fun u hm => by rcases Nat.eq_zero_or_pos n with z | z; (rw [z] at hm; omega); exact z
  have eg : μ 38 1 * μ 38 1 * μ 38 1 = nI (n * n * n) := by rw [G1, pk_mul, pk_mul]
  have hnn : n * n * n ≤ 512 := by
    have z : n * n ≤ 8 * 8 := Nat.mul_le_mul X7 X7
    have z2 : n * n * n ≤ 64 * 8 := Nat.mul_le_mul z X7
    omega
  have fin : ∀ M : zM, zLI M t c9 nc n A → M 63 1 = nI B → zopen M q n = zopen μ q n → zW p l e (zR 17 465 1600 9600) s m [Value.ref (zob E 0), Value.ref (zad E 38), Value.ref (zad E 39), Value.int (nI q), Value.int (nI B)].toArray below meth c E 13 (3 * (n * n * n)) (18 * (n * n * n)) (MQ below (zQi E s.heap.size (fun r μ1 ov1 => r = 1 ∧ zLI μ1 t c9 nc n A ∧ ov1 = ov)) [Value.ref (zob E 0), Value.ref (zad E 38), Value.ref (zad E 39), Value.int (nI q), Value.int (nI B)].toArray s 1600 9600 (zA E s.heap.size)) 276 [some (.ref (zob E 0)), some (.ref (zad E 38)), some (.ref (zad E 39)), some (.int (nI q)), some (.int (nI B)), some (.int (nI (zcnt (zopq μ q n) (n * n * n)))), some (.int (1)), none, none, none, none, none, none] [] M ov := by
    intro M hM hMB hMo
    have Z := zopen_n (μ := μ) (t := q) (g := n)
    have Z56 : zopen μ q n ≤ 56 := Nat.le_trans List.countP_le_length (zgat_56 μ X7)
    refine z_iload (i := 6) (pc := 276) C dL_areRings_276 rfl ?_
    refine z_if_eq (tgt := 308) (pc := 278) C dL_areRings_278 (by decide) (fun c_y => ?_) (fun c_y => ?_)
    · exact absurd c_y (by decide)
    · refine z_aloadn (i := 0) (pc := 281) C dL_areRings_281 rfl rfl ?_
      refine z_iloadn (i := 3) (pc := 282) C dL_areRings_282 rfl rfl ?_
      refine z_callSWi (pc := 283) (n := 2) (As := [.ref (zob E 0), .int (nI q)]) (rest := []) C (c_L_open l hfl E sa (μ := M) (ov := ov) (d := nI q) t c9 nc n hM.1) gL_areRings_L_open rfl zfV_L_open.2 ⟨Nat.le_of_ble_eq_true rfl, Nat.le_of_ble_eq_true rfl⟩ rfl rfl (Nat.le_of_ble_eq_true rfl) ⟨by show _ ≤ 1600; omega, by show _ ≤ 9600; omega⟩ dL_areRings_283 (fun r9 μ8 ov9 hp => ?_)
      have e : r9 = nI (zopen M q n) ∧ zScr M μ8 ∧ ov9 = ov := by
        rcases hp with ⟨-, hp⟩ | ⟨hn, -⟩
        · rw [nI_clamp (by omega)] at hp; exact hp
        · exact absurd ⟨nI_le (a := 1) (by omega) (by omega), by rw [hM.1.1]; exact nI_le hq (by omega)⟩ hn
      obtain ⟨e1, hs9, e3⟩ := e
      have e3 := e3.symm
      subst e1 e3
      clear hp
      have h8 : zLI μ8 t c9 nc n A := hM.scr hs9
      have o8 : zopen μ8 q n = zopen M q n := zopen_s X7 (hs9.1 7 (Or.inl (by decide)) (by decide)) (hs9.1 8 (Or.inl (by decide)) (by decide)) (hs9.1 11 (Or.inl (by decide)) (by decide)) (hs9.2 1 (Or.inl (by decide))) (fun b x y => hs9.1 b (Or.inr x) (by omega)) q
      have b8 : μ8 63 1 = nI B := (hs9.2 1 (Or.inl (by decide))).trans hMB
      clear hs9
      refine z_iload (i := 5) (pc := 286) C dL_areRings_286 rfl ?_
      refine z_icmp_ne (tgt := 308) (pc := 288) C dL_areRings_288 (by decide) (fun c_x => ?_) (fun c_x => ?_)
      · exact absurd (by rw [hMo, Z]) c_x
      · have again : zW p l e (zR 17 465 1600 9600) s m [Value.ref (zob E 0), Value.ref (zad E 38), Value.ref (zad E 39), Value.int (nI q), Value.int (nI B)].toArray below meth c E 13 (3 * (n * n * n) + 1) (18 * (n * n * n) + 6) (MQ below (zQi E s.heap.size (fun r μ1 ov1 => r = 1 ∧ zLI μ1 t c9 nc n A ∧ ov1 = ov)) [Value.ref (zob E 0), Value.ref (zad E 38), Value.ref (zad E 39), Value.int (nI q), Value.int (nI B)].toArray s 1600 9600 (zA E s.heap.size)) 308 [some (.ref (zob E 0)), some (.ref (zad E 38)), some (.ref (zad E 39)), some (.int (nI q)), some (.int (nI B)), some (.int (nI (zcnt (zopq μ q n) (n * n * n)))), some (.int (1)), none, none, none, none, none, none] [] μ8 ov := by
          refine z_iload (i := 6) (pc := 308) C dL_areRings_308 rfl ?_
          refine z_if_eq (tgt := 327) (pc := 310) C dL_areRings_310 (by decide) (fun c_y => ?_) (fun c_y => ?_)
          · exact absurd c_y (by decide)
          · refine z_aloadn (i := 0) (pc := 313) C dL_areRings_313 rfl rfl ?_
            refine z_iloadn (i := 3) (pc := 314) C dL_areRings_314 rfl rfl ?_
            refine z_callSWi (pc := 315) (n := 2) (As := [.ref (zob E 0), .int (nI q)]) (rest := []) C (c_L_open l hfl E sa (μ := μ8) (ov := ov) (d := nI q) t c9 nc n h8.1) gL_areRings_L_open rfl zfV_L_open.2 ⟨Nat.le_of_ble_eq_true rfl, Nat.le_of_ble_eq_true rfl⟩ rfl rfl (Nat.le_of_ble_eq_true rfl) ⟨by show _ ≤ 1600; omega, by show _ ≤ 9600; omega⟩ dL_areRings_315 (fun r9 μ7 ov9 hp => ?_)
            have e : r9 = nI (zopen μ8 q n) ∧ zScr μ8 μ7 ∧ ov9 = ov := by
              rcases hp with ⟨-, hp⟩ | ⟨hn, -⟩
              · rw [nI_clamp (by omega)] at hp; exact hp
              · exact absurd ⟨nI_le (a := 1) (by omega) (by omega), by rw [h8.1.1]; exact nI_le hq (by omega)⟩ hn
            obtain ⟨e1, hs9, e3⟩ := e
            have e3 := e3.symm
            subst e1 e3
            clear hp
            have h7 : zLI μ7 t c9 nc n A := h8.scr hs9
            have o7 : zopen μ7 q n = zopen μ8 q n := zopen_s X7 (hs9.1 7 (Or.inl (by decide)) (by decide)) (hs9.1 8 (Or.inl (by decide)) (by decide)) (hs9.1 11 (Or.inl (by decide)) (by decide)) (hs9.2 1 (Or.inl (by decide))) (fun b x y => hs9.1 b (Or.inr x) (by omega)) q
            have b7 : μ7 63 1 = nI B := (hs9.2 1 (Or.inl (by decide))).trans b8
            clear hs9
            refine z_iload (i := 5) (pc := 318) C dL_areRings_318 rfl ?_
            refine z_icmp_ne (tgt := 327) (pc := 320) C dL_areRings_320 (by decide) (fun c_x => ?_) (fun c_x => ?_)
            · exact absurd (by rw [o8, hMo, Z]) c_x
            · refine z_iconst (v := 1) (pc := 323) C dL_areRings_323 (by decide) ?_
              refine z_goto (tgt := 328) (pc := 324) C dL_areRings_324 (by decide) ?_
              exact z_zret (pc := 328) C hr hlk (by decide) ⟨rfl, h7, rfl⟩ (by omega) (by omega) dL_areRings_328
        refine z_aloadn (i := 1) (pc := 291) C dL_areRings_291 rfl rfl ?_
        refine z_bipush (v := 6) (pc := 292) C dL_areRings_292 (by decide) ?_
        refine z_iald (pc := 294) C 38 6 (by decide) rfl rfl (show 6 < 9 from by omega) dL_areRings_294 ?_
        refine z_bipush (v := 6) (pc := 295) C dL_areRings_295 (by decide) ?_
        refine z_icmp_gt (tgt := 308) (pc := 297) C dL_areRings_297 (by decide) (fun c_7 => ?_) (fun c_7 => ?_)
        · exact again
        · refine z_aloadn (i := 1) (pc := 300) C dL_areRings_300 rfl rfl ?_
          refine z_iconst (v := 1) (pc := 301) C dL_areRings_301 (by decide) ?_
          refine z_iald (pc := 302) C 38 1 (by decide) rfl rfl (show 1 < 9 from by omega) dL_areRings_302 ?_
          refine z_bipush (v := 6) (pc := 303) C dL_areRings_303 (by decide) ?_
          refine z_icmp_le (tgt := 329) (pc := 305) C dL_areRings_305 (by decide) (fun c_6 => ?_) (fun c_6 => ?_)
          · have hn6 : n ≤ 6 := by
              rw [h8.2.2.2.2.1.2.1] at c_6
              exact (nI_leI (by omega) (by decide)).mp c_6
            have lps : ∀ (f k : Nat), k + f = n → zW p l e (zR 17 465 1600 9600) s m [Value.ref (zob E 0), Value.ref (zad E 38), Value.ref (zad E 39), Value.int (nI q), Value.int (nI B)].toArray below meth c E 13 (3 * (n * n * n) + 1) (18 * (n * n * n) + 6) (MQ below (zQi E s.heap.size (fun r μ1 ov1 => r = 1 ∧ zLI μ1 t c9 nc n A ∧ ov1 = ov)) [Value.ref (zob E 0), Value.ref (zad E 38), Value.ref (zad E 39), Value.int (nI q), Value.int (nI B)].toArray s 1600 9600 (zA E s.heap.size)) 338 [some (.ref (zob E 0)), some (.ref (zad E 38)), some (.ref (zad E 39)), some (.int (nI q)), some (.int (nI B)), some (.int (nI (zcnt (zopq μ q n) (n * n * n)))), some (.int (1)), some (.int (nI (zpl k))), some (.int (nI (3 ^ k))), some (.int (nI k)), none, none, none] [] μ8 ov := by
              intro f
              induction f with
              | zero =>
                intro k hk
                refine z_iload (i := 9) (pc := 338) C dL_areRings_338 rfl ?_
                refine z_aloadn (i := 1) (pc := 340) C dL_areRings_340 rfl rfl ?_
                refine z_iconst (v := 1) (pc := 341) C dL_areRings_341 (by decide) ?_
                refine z_iald (pc := 342) C 38 1 (by decide) rfl rfl (show 1 < 9 from by omega) dL_areRings_342 ?_
                refine z_icmp_ge (tgt := 365) (pc := 343) C dL_areRings_343 (by decide) (fun c_k => ?_) (fun c_k => ?_)
                · obtain rfl : k = n := by omega
                  have P3 : 3 ^ k ≤ 729 := Nat.le_trans (Nat.pow_le_pow_right (by decide) hn6) (by decide)
                  have pl := zpl_lt k
                  refine z_aloadn (i := 0) (pc := 365) C dL_areRings_365 rfl rfl ?_
                  refine z_iloadn (i := 3) (pc := 366) C dL_areRings_366 rfl rfl ?_
                  refine z_callSWi (pc := 367) (n := 2) (As := [.ref (zob E 0), .int (nI q)]) (rest := []) C (c_L_slips l hfl E sa (μ := μ8) (ov := ov) (d := nI q) t c9 nc k h8.1) gL_areRings_L_slips rfl zfV_L_slips.2 ⟨Nat.le_of_ble_eq_true rfl, Nat.le_of_ble_eq_true rfl⟩ rfl rfl (Nat.le_of_ble_eq_true rfl) ⟨by show _ ≤ 1600; omega, by show _ ≤ 9600; omega⟩ dL_areRings_367 (fun r9 μ6 ov9 hp => ?_)
                  have e : (∃ ν, zRI μ8 q ν (zgat μ8 q k k) ∧ r9 = zdfs (zgat μ8 q k k).length k (zu (zu (zu ν 63 8 (μ8 63 1)) 63 9 (nI (k + 1))) 63 10 (-1)) 0 0 63 10 ∧ μ6 = zdfs (zgat μ8 q k k).length k (zu (zu (zu ν 63 8 (μ8 63 1)) 63 9 (nI (k + 1))) 63 10 (-1)) 0 0) ∧ ov9 = ov := by
                    rcases hp with ⟨-, hp⟩ | ⟨hn, -⟩
                    · rw [nI_clamp (by omega)] at hp; exact hp
                    · exact absurd ⟨nI_le (a := 1) (by omega) (by omega), by rw [h8.1.1]; exact nI_le hq (by omega)⟩ hn
                  obtain ⟨⟨ν, hν, e1, e2⟩, e3⟩ := e
                  have e3 := e3.symm
                  subst e3
                  clear hp
                  have h6 : zLI μ6 t c9 nc k A := h8.scr (by rw [e2]; exact zslp_s hν)
                  obtain ⟨X, eX, hX⟩ := zslp_q X7 hν zopen_0
                  rw [eX] at e1
                  have e1 := e1.symm
                  subst e1
                  rw [o8, hMo] at hX
                  clear e2 eX
                  refine z_istore9 (pc := 370) C (by decide) (fun w hw => by cases hw; exact (show ¬ (1 = 2) from by decide)) dL_areRings_370 ?_
                  refine z_iload (i := 9) (pc := 372) C dL_areRings_372 rfl ?_
                  refine z_iconst (v := -1) (pc := 374) C dL_areRings_374 (by decide) ?_
                  refine z_icmp_lt (tgt := 414) (pc := 375) C dL_areRings_375 (by decide) (fun c_1 => ?_) (fun c_1 => ?_)
                  · exact absurd c_1 (by rcases hX with ⟨z, -⟩ | ⟨p, p1, z, -⟩; (rw [z]; decide); (rw [z, zlt, nI_toInt (by omega)]; rw [show (-1 : Int32).toInt = -1 from by decide]; omega))
                  · refine z_iload (i := 9) (pc := 378) C dL_areRings_378 rfl ?_
                    refine z_iload (i := 8) (pc := 380) C dL_areRings_380 rfl ?_
                    refine z_icmp_ge (tgt := 414) (pc := 382) C dL_areRings_382 (by decide) (fun c_2 => ?_) (fun c_2 => ?_)
                    · exact absurd c_2 (by rcases hX with ⟨z, -⟩ | ⟨p, p1, z, -⟩; (rw [z, zle2, nI_toInt (by omega)]; rw [show (-1 : Int32).toInt = -1 from by decide]; omega); (rw [z]; exact nI_ge p1 (by omega)))
                    · by_cases hz : zopen μ q k = 0
                      · have eX : X = nI (zpl k) := by rcases hX with ⟨-, z⟩ | ⟨p, -, z, z2⟩; exact absurd hz z; rw [z, z2.mpr hz]
                        refine z_iload (i := 9) (pc := 385) C dL_areRings_385 rfl ?_
                        refine z_iload (i := 7) (pc := 387) C dL_areRings_387 rfl ?_
                        refine z_icmp_ne (tgt := 396) (pc := 389) C dL_areRings_389 (by decide) (fun c_3 => ?_) (fun c_3 => ?_)
                        · exact absurd eX c_3
                        · refine z_iconst (v := 1) (pc := 392) C dL_areRings_392 (by decide) ?_
                          refine z_goto (tgt := 397) (pc := 393) C dL_areRings_393 (by decide) ?_
                          refine z_iload (i := 5) (pc := 397) C dL_areRings_397 rfl ?_
                          refine z_if_ne (tgt := 406) (pc := 399) C dL_areRings_399 (by decide) (fun c_4 => ?_) (fun c_4 => ?_)
                          · exact absurd (by rw [Z, hz]; rfl) c_4
                          · refine z_iconst (v := 1) (pc := 402) C dL_areRings_402 (by decide) ?_
                            refine z_goto (tgt := 407) (pc := 403) C dL_areRings_403 (by decide) ?_
                            refine z_icmp_ne (tgt := 414) (pc := 407) C dL_areRings_407 (by decide) (fun c_5 => ?_) (fun c_5 => ?_)
                            · exact absurd rfl c_5
                            · refine z_iconst (v := 1) (pc := 410) C dL_areRings_410 (by decide) ?_
                              refine z_goto (tgt := 415) (pc := 411) C dL_areRings_411 (by decide) ?_
                              exact z_zret (pc := 415) C hr hlk (by decide) ⟨rfl, h6, rfl⟩ (by omega) (by omega) dL_areRings_415
                      · have eX : ¬ X = nI (zpl k) := by
                          rcases hX with ⟨z, -⟩ | ⟨p, p1, z, z2⟩
                          · rw [z, zeq, nI_toInt (by omega), show (-1 : Int32).toInt = -1 from by decide]; omega
                          · rw [z, nI_eq (by omega) (by omega)]; exact fun z3 => hz (z2.mp z3)
                        refine z_iload (i := 9) (pc := 385) C dL_areRings_385 rfl ?_
                        refine z_iload (i := 7) (pc := 387) C dL_areRings_387 rfl ?_
                        refine z_icmp_ne (tgt := 396) (pc := 389) C dL_areRings_389 (by decide) (fun c_3 => ?_) (fun c_3 => ?_)
                        · refine z_iconst (v := 0) (pc := 396) C dL_areRings_396 (by decide) ?_
                          refine z_iload (i := 5) (pc := 397) C dL_areRings_397 rfl ?_
                          refine z_if_ne (tgt := 406) (pc := 399) C dL_areRings_399 (by decide) (fun c_4 => ?_) (fun c_4 => ?_)
                          · refine z_iconst (v := 0) (pc := 406) C dL_areRings_406 (by decide) ?_
                            refine z_icmp_ne (tgt := 414) (pc := 407) C dL_areRings_407 (by decide) (fun c_5 => ?_) (fun c_5 => ?_)
                            · exact absurd rfl c_5
                            · refine z_iconst (v := 1) (pc := 410) C dL_areRings_410 (by decide) ?_
                              refine z_goto (tgt := 415) (pc := 411) C dL_areRings_411 (by decide) ?_
                              exact z_zret (pc := 415) C hr hlk (by decide) ⟨rfl, h6, rfl⟩ (by omega) (by omega) dL_areRings_415
                          · exact absurd c_4 (by rw [Z]; exact fun z => hz ((nI_eq (b := 0) (by omega) (by decide)).mp z))
                        · exact absurd c_3 eX
                · exact absurd (by rw [h8.2.2.2.2.1.2.1]; exact nI_le (by omega) (by omega)) c_k
              | succ f ih =>
                intro k hk
                refine z_iload (i := 9) (pc := 338) C dL_areRings_338 rfl ?_
                refine z_aloadn (i := 1) (pc := 340) C dL_areRings_340 rfl rfl ?_
                refine z_iconst (v := 1) (pc := 341) C dL_areRings_341 (by decide) ?_
                refine z_iald (pc := 342) C 38 1 (by decide) rfl rfl (show 1 < 9 from by omega) dL_areRings_342 ?_
                refine z_icmp_ge (tgt := 365) (pc := 343) C dL_areRings_343 (by decide) (fun c_k => ?_) (fun c_k => ?_)
                · exact absurd c_k (by rw [h8.2.2.2.2.1.2.1]; exact nI_ge (by omega) (by omega))
                · refine z_iload (i := 7) (pc := 346) C dL_areRings_346 rfl ?_
                  refine z_iload (i := 8) (pc := 348) C dL_areRings_348 rfl ?_
                  refine z_iadd (pc := 350) C dL_areRings_350 ?_
                  refine z_topi (y := nI (zpl (k + 1))) (by rw [zpl_s, nI_add]) ?_
                  refine z_istore7 (pc := 351) C (by decide) (fun w hw => by cases hw; exact (show ¬ (1 = 2) from by decide)) dL_areRings_351 ?_
                  refine z_iload (i := 8) (pc := 353) C dL_areRings_353 rfl ?_
                  refine z_iconst (v := 3) (pc := 355) C dL_areRings_355 (by decide) ?_
                  refine z_imul (pc := 356) C dL_areRings_356 ?_
                  refine z_topi (y := nI (3 ^ (k + 1))) (by rw [Nat.pow_succ, ← pk_mul]; rfl) ?_
                  refine z_istore8 (pc := 357) C (by decide) (fun w hw => by cases hw; exact (show ¬ (1 = 2) from by decide)) dL_areRings_357 ?_
                  refine z_iinc9 (v := 1) (pc := 359) C (by decide) (by decide) (fun w hw => by cases hw; exact (show ¬ (1 = 2) from by decide)) dL_areRings_359 ?_
                  rw [nI_1]
                  refine z_goto (tgt := 338) (pc := 362) C dL_areRings_362 (by decide) ?_
                  exact ih (k + 1) (by omega)
            refine z_iconst (v := 0) (pc := 329) C dL_areRings_329 (by decide) ?_
            refine z_istore7 (pc := 330) C (by decide) (fun w hw => by cases hw; exact (show ¬ (1 = 2) from by decide)) dL_areRings_330 ?_
            refine z_iconst (v := 1) (pc := 332) C dL_areRings_332 (by decide) ?_
            refine z_istore8 (pc := 333) C (by decide) (fun w hw => by cases hw; exact (show ¬ (1 = 2) from by decide)) dL_areRings_333 ?_
            refine z_iconst (v := 0) (pc := 335) C dL_areRings_335 (by decide) ?_
            refine z_istore9 (pc := 336) C (by decide) (fun w hw => by cases hw; exact (show ¬ (1 = 2) from by decide)) dL_areRings_336 ?_
            exact lps n 0 (by omega)
          · exact again
  have loop : ∀ (f u : Nat), u + f = n * n * n → zW p l e (zR 17 465 1600 9600) s m [Value.ref (zob E 0), Value.ref (zad E 38), Value.ref (zad E 39), Value.int (nI q), Value.int (nI B)].toArray below meth c E 13 (3 * u) (18 * u) (MQ below (zQi E s.heap.size (fun r μ1 ov1 => r = 1 ∧ zLI μ1 t c9 nc n A ∧ ov1 = ov)) [Value.ref (zob E 0), Value.ref (zad E 38), Value.ref (zad E 39), Value.int (nI q), Value.int (nI B)].toArray s 1600 9600 (zA E s.heap.size)) 9 [some (.ref (zob E 0)), some (.ref (zad E 38)), some (.ref (zad E 39)), some (.int (nI q)), some (.int (nI B)), some (.int (nI (zcnt (zopq μ q n) u))), some (.int (1)), some (.int (nI u)), none, none, none, none, none] [] μ ov := by
    intro f
    induction f with
    | zero =>
      intro u hm
      refine z_iload (i := 7) (pc := 9) C dL_areRings_9 rfl ?_
      refine z_aloadn (i := 1) (pc := 11) C dL_areRings_11 rfl rfl ?_
      refine z_iconst (v := 1) (pc := 12) C dL_areRings_12 (by decide) ?_
      refine z_iald (pc := 13) C 38 1 (by decide) rfl rfl (show 1 < 9 from by omega) dL_areRings_13 ?_
      refine z_aloadn (i := 1) (pc := 14) C dL_areRings_14 rfl rfl ?_
      refine z_iconst (v := 1) (pc := 15) C dL_areRings_15 (by decide) ?_
      refine z_iald (pc := 16) C 38 1 (by decide) rfl rfl (show 1 < 9 from by omega) dL_areRings_16 ?_
      refine z_imul (pc := 17) C dL_areRings_17 ?_
      refine z_aloadn (i := 1) (pc := 18) C dL_areRings_18 rfl rfl ?_
      refine z_iconst (v := 1) (pc := 19) C dL_areRings_19 (by decide) ?_
      refine z_iald (pc := 20) C 38 1 (by decide) rfl rfl (show 1 < 9 from by omega) dL_areRings_20 ?_
      refine z_imul (pc := 21) C dL_areRings_21 ?_
      refine z_topi (y := nI (n * n * n)) eg ?_
      refine z_icmp_ge (tgt := 268) (pc := 22) C dL_areRings_22 (by decide) (fun c_l => ?_) (fun c_l => ?_)
      · obtain rfl : u = n * n * n := by omega
        refine z_weak (lv' := [some (.ref (zob E 0)), some (.ref (zad E 38)), some (.ref (zad E 39)), some (.int (nI q)), some (.int (nI B)), some (.int (nI (zcnt (zopq μ q n) (n * n * n)))), some (.int (1)), none, none, none, none, none, none]) ⟨rfl, rfl, rfl, rfl, rfl, rfl, rfl, trivial⟩ ?_
        refine z_aloadn (i := 1) (pc := 268) C dL_areRings_268 rfl rfl ?_
        refine z_bipush (v := 6) (pc := 269) C dL_areRings_269 (by decide) ?_
        refine z_dup2 (pc := 271) C dL_areRings_271 rfl rfl ?_
        refine z_iald (pc := 272) C 38 6 (by decide) rfl rfl (show 6 < 9 from by omega) dL_areRings_272 ?_
        refine z_iconst (v := 1) (pc := 273) C dL_areRings_273 (by decide) ?_
        refine z_iadd (pc := 274) C dL_areRings_274 ?_
        refine z_iast (pc := 275) C 38 6 (by decide) rfl rfl (show 6 < 9 from by omega) dL_areRings_275 ?_
        exact fin _ (h.g (Or.inr (Or.inl rfl))) (by rw [zu_n _ _ _ (by decide)]; exact hB) (zopen_s (μ := μ) (κ := zu μ 38 6 (μ 38 6 + 1)) X7 rfl rfl rfl rfl (fun b x y => zu_n _ _ _ (by omega)) q)
      · exact absurd (nI_le (by omega) (by omega)) c_l
    | succ f ih =>
      intro u hm
      have hn1 := hn0 u (by omega)
      have hne : ¬ μ 38 1 = 0 := by rw [G1]; exact nI_ne0 hn1 (by omega)
      obtain ⟨a, ha⟩ : ∃ a, a = u % n := ⟨_, rfl⟩
      obtain ⟨b, hb⟩ : ∃ b, b = u / n % n := ⟨_, rfl⟩
      obtain ⟨c3, hc⟩ : ∃ c3, c3 = u / n / n := ⟨_, rfl⟩
      have han : a < n := by rw [ha]; exact Nat.mod_lt _ hn1
      have hbn : b < n := by rw [hb]; exact Nat.mod_lt _ hn1
      have hcn : c3 < n := by rw [hc]; exact Nat.div_lt_of_lt_mul (Nat.div_lt_of_lt_mul (by rw [← Nat.mul_assoc]; omega))
      have ha8 : a < 8 := by omega
      have hb8 : b < 8 := by omega
      have hc8 : c3 < 8 := by omega
      have hT : zT3n n u = (a, b, c3) := by unfold zT3n; rw [ha, hb, hc]
      have ho : zopq μ q n u = (decide ((a, b, c3) ∈ zgat μ q n n) && decide (μ 63 1 < zabs (zsum μ q (a, b, c3)))) := by unfold zopq; rw [hT]
      have hst : ∀ v : Bool, zopq μ q n u = v → zcnt (zopq μ q n) (u + 1) = zcnt (zopq μ q n) u + (if v then 1 else 0) := fun v e => by rw [zcnt, e]
      have mem9 : (a, b, c3) ∈ zgat μ q n n ↔ a < b ∧ b < c3 ∧ (μ 11 a < nI q ∧ μ 11 b < nI q ∧ μ 11 c3 < nI q) ∧ zbits (μ 7 a) (μ 8 a) ^^^ zbits (μ 7 b) (μ 8 b) ^^^ zbits (μ 7 c3) (μ 8 c3) = 0 := by
        rw [zgat_mem]
        unfold zPr
        rw [decide_eq_true_eq]
        exact ⟨fun z => ⟨z.2.2.1.1, z.2.2.2.1.1, ⟨z.2.1, z.2.2.2.2.2.1, z.2.2.2.2.2.2⟩, z.2.2.2.2.1⟩, fun z => ⟨han, z.2.2.1.1, ⟨z.1, hbn⟩, ⟨z.2.1, hcn⟩, z.2.2.2, z.2.2.1.2.1, z.2.2.1.2.2⟩⟩
      have bk : ∀ v : Int32, v = nI (zcnt (zopq μ q n) (u + 1)) → zW p l e (zR 17 465 1600 9600) s m [Value.ref (zob E 0), Value.ref (zad E 38), Value.ref (zad E 39), Value.int (nI q), Value.int (nI B)].toArray below meth c E 13 (3 * u + 3) (18 * u + 18) (MQ below (zQi E s.heap.size (fun r μ1 ov1 => r = 1 ∧ zLI μ1 t c9 nc n A ∧ ov1 = ov)) [Value.ref (zob E 0), Value.ref (zad E 38), Value.ref (zad E 39), Value.int (nI q), Value.int (nI B)].toArray s 1600 9600 (zA E s.heap.size)) 262 [some (.ref (zob E 0)), some (.ref (zad E 38)), some (.ref (zad E 39)), some (.int (nI q)), some (.int (nI B)), some (.int (v)), some (.int (1)), some (.int (nI u)), none, none, none, none, none] [] μ ov := by
        intro v hv
        subst hv
        refine z_iinc7 (v := 1) (pc := 262) C (by decide) (by decide) (fun w hw => by cases hw; exact (show ¬ (1 = 2) from by decide)) dL_areRings_262 ?_
        rw [nI_1]
        refine z_goto (tgt := 9) (pc := 265) C dL_areRings_265 (by decide) ?_
        exact z_widen (by omega) (by omega) (ih (u + 1) (by omega))
      have chk : a < b → b < c3 → zW p l e (zR 17 465 1600 9600) s m [Value.ref (zob E 0), Value.ref (zad E 38), Value.ref (zad E 39), Value.int (nI q), Value.int (nI B)].toArray below meth c E 13 (3 * u) (18 * u) (MQ below (zQi E s.heap.size (fun r μ1 ov1 => r = 1 ∧ zLI μ1 t c9 nc n A ∧ ov1 = ov)) [Value.ref (zob E 0), Value.ref (zad E 38), Value.ref (zad E 39), Value.int (nI q), Value.int (nI B)].toArray s 1600 9600 (zA E s.heap.size)) 76 [some (.ref (zob E 0)), some (.ref (zad E 38)), some (.ref (zad E 39)), some (.int (nI q)), some (.int (nI B)), some (.int (nI (zcnt (zopq μ q n) u))), some (.int (1)), some (.int (nI u)), some (.int (nI a)), some (.int (nI b)), some (.int (nI c3)), none, none] [] μ ov := by
        intro hab hbc
        have g3a := (G3 a han).2.2
        have g3b := (G3 b hbn).2.2
        have g3c := (G3 c3 hcn).2.2
        have hmz : ∀ k, k < n → (zmea μ (nI k) (nI q) ↔ μ 11 k < nI q) := fun k hk => by
          rw [zmea, nI_clamp (by omega), X1, X6]
          exact ⟨fun z => z.2.2, fun z => ⟨⟨nI_le (a := 1) (by omega) (by omega), nI_le (by omega) (by omega)⟩, ⟨nI_pos' (by omega), nI_lt (by omega) (by omega)⟩, z⟩⟩
        obtain ⟨od1, od2, od3⟩ := zord_s hab hbc
        by_cases hl : μ 11 a < nI q ∧ μ 11 b < nI q ∧ μ 11 c3 < nI q
        · have hz : zmea μ (nI a) (nI q) ∧ zmea μ (nI b) (nI q) ∧ zmea μ (nI c3) (nI q) := ⟨(hmz a han).mpr hl.1, (hmz b hbn).mpr hl.2.1, (hmz c3 hcn).mpr hl.2.2⟩
          obtain ⟨a1, a2, a3, a4, a5, a6, a7⟩ := X8 a han
          obtain ⟨b1, b2, b3, b4, b5, b6, b7⟩ := X8 b hbn
          obtain ⟨d1, d2, d3, d4, d5, d6, d7⟩ := X8 c3 hcn
          have ri := zisr_iff (f := μ 39) (a := a) (b := b) (c := c3) ((G3 a han).1.trans a6) ((G3 a han).2.1.trans a7) ((G3 b hbn).1.trans b6) ((G3 b hbn).2.1.trans b7) ((G3 c3 hcn).1.trans d6) ((G3 c3 hcn).2.1.trans d7) (by omega) (by omega) (by omega) (by omega) (by omega) (by omega) a5 b5 d5
          rw [← a6, ← a7, ← b6, ← b7, ← d6, ← d7] at ri
          by_cases hr3 : zbits (μ 7 a) (μ 8 a) ^^^ zbits (μ 7 b) (μ 8 b) ^^^ zbits (μ 7 c3) (μ 8 c3) = 0
          · have hR := ri.mpr hr3
            have bS := zsum_q h (x := (a, b, c3)) ha8 hb8 hc8 (q := q) (by omega)
            have zd := zabs_d bS (by decide) (show (0 : Int32) ≤ nI B from nI_pos' (by omega)) (nI_le (b := 499) hB9 (by decide))
            have ho2 : zopq μ q n u = decide (nI B < zabs (zsum μ q (a, b, c3))) := by rw [ho, decide_eq_true (mem9.mpr ⟨hab, hbc, hl, hr3⟩), Bool.true_and, hB]
            refine z_iloadn (i := 3) (pc := 76) C dL_areRings_76 rfl rfl ?_
            refine z_aloadn (i := 2) (pc := 77) C dL_areRings_77 rfl rfl ?_
            refine z_iconst (v := 3) (pc := 78) C dL_areRings_78 (by decide) ?_
            refine z_iload (i := 8) (pc := 79) C dL_areRings_79 rfl ?_
            refine z_imul (pc := 81) C dL_areRings_81 ?_
            refine z_iconst (v := 2) (pc := 82) C dL_areRings_82 (by decide) ?_
            refine z_iadd (pc := 83) C dL_areRings_83 ?_
            refine z_iald (pc := 84) C 39 (3 * a + 2) (by decide) rfl (zx3 a).2.2 (show (3 * a + 2) < 24 from by omega) dL_areRings_84 ?_
            refine z_icmp_le (tgt := 116) (pc := 85) C dL_areRings_85 (by decide) (fun c_1 => ?_) (fun c_1 => ?_)
            · exact absurd hl.1 (by rw [g3a] at c_1; rw [zlt]; rw [zle2] at c_1; omega)
            · refine z_iloadn (i := 3) (pc := 88) C dL_areRings_88 rfl rfl ?_
              refine z_aloadn (i := 2) (pc := 89) C dL_areRings_89 rfl rfl ?_
              refine z_iconst (v := 3) (pc := 90) C dL_areRings_90 (by decide) ?_
              refine z_iload (i := 9) (pc := 91) C dL_areRings_91 rfl ?_
              refine z_imul (pc := 93) C dL_areRings_93 ?_
              refine z_iconst (v := 2) (pc := 94) C dL_areRings_94 (by decide) ?_
              refine z_iadd (pc := 95) C dL_areRings_95 ?_
              refine z_iald (pc := 96) C 39 (3 * b + 2) (by decide) rfl (zx3 b).2.2 (show (3 * b + 2) < 24 from by omega) dL_areRings_96 ?_
              refine z_icmp_le (tgt := 116) (pc := 97) C dL_areRings_97 (by decide) (fun c_2 => ?_) (fun c_2 => ?_)
              · exact absurd hl.2.1 (by rw [g3b] at c_2; rw [zlt]; rw [zle2] at c_2; omega)
              · refine z_iloadn (i := 3) (pc := 100) C dL_areRings_100 rfl rfl ?_
                refine z_aloadn (i := 2) (pc := 101) C dL_areRings_101 rfl rfl ?_
                refine z_iconst (v := 3) (pc := 102) C dL_areRings_102 (by decide) ?_
                refine z_iload (i := 10) (pc := 103) C dL_areRings_103 rfl ?_
                refine z_imul (pc := 105) C dL_areRings_105 ?_
                refine z_iconst (v := 2) (pc := 106) C dL_areRings_106 (by decide) ?_
                refine z_iadd (pc := 107) C dL_areRings_107 ?_
                refine z_iald (pc := 108) C 39 (3 * c3 + 2) (by decide) rfl (zx3 c3).2.2 (show (3 * c3 + 2) < 24 from by omega) dL_areRings_108 ?_
                refine z_icmp_le (tgt := 116) (pc := 109) C dL_areRings_109 (by decide) (fun c_3 => ?_) (fun c_3 => ?_)
                · exact absurd hl.2.2 (by rw [g3c] at c_3; rw [zlt]; rw [zle2] at c_3; omega)
                · refine z_iconst (v := 1) (pc := 112) C dL_areRings_112 (by decide) ?_
                  refine z_goto (tgt := 117) (pc := 113) C dL_areRings_113 (by decide) ?_
                  refine z_istore11 (pc := 117) C (by decide) (fun w hw => by cases hw; exact (show ¬ (1 = 2) from by decide)) dL_areRings_117 ?_
                  refine z_aloadn (i := 0) (pc := 119) C dL_areRings_119 rfl rfl ?_
                  refine z_iload (i := 8) (pc := 120) C dL_areRings_120 rfl ?_
                  refine z_iload (i := 9) (pc := 122) C dL_areRings_122 rfl ?_
                  refine z_iload (i := 10) (pc := 124) C dL_areRings_124 rfl ?_
                  refine z_iloadn (i := 3) (pc := 126) C dL_areRings_126 rfl rfl ?_
                  refine z_callSWi (pc := 127) (n := 5) (As := [.ref (zob E 0), .int (nI a), .int (nI b), .int (nI c3), .int (nI q)]) (rest := []) C (c_L_closes l hfl E sa (μ := μ) (ov := ov) (a := nI a) (b := nI b) (c8 := nI c3) (d := nI q) t c9 nc n H) gL_areRings_L_closes rfl zfV_L_closes.2 ⟨Nat.le_of_ble_eq_true rfl, Nat.le_of_ble_eq_true rfl⟩ rfl rfl (Nat.le_of_ble_eq_true rfl) ⟨by show _ ≤ 1600; omega, by show _ ≤ 9600; omega⟩ dL_areRings_127 (fun r9 μ9 ov9 hp => ?_)
                  have e : r9 = zsum μ q (a, b, c3) ∧ μ9 = μ ∧ ov9 = ov := by
                    rcases hp with ⟨-, -, hp⟩ | ⟨hn, -⟩ | ⟨-, hn, -⟩
                    · rw [nI_clamp (by omega), nI_clamp (by omega), nI_clamp (by omega), nI_clamp (by omega), od1] at hp
                      exact hp
                    · exact absurd ⟨hz.1, hz.2.1, hz.2.2⟩ hn
                    · exact absurd (by rw [nI_clamp (by omega), nI_clamp (by omega), nI_clamp (by omega)]; exact hr3) hn
                  obtain ⟨e1, e2, e3⟩ := e
                  have e2 := e2.symm
                  have e3 := e3.symm
                  subst e1 e2 e3
                  clear hp
                  refine z_istore12 (pc := 130) C (by decide) (fun w hw => by cases hw; exact (show ¬ (1 = 2) from by decide)) dL_areRings_130 ?_
                  refine z_iload (i := 11) (pc := 132) C dL_areRings_132 rfl ?_
                  refine z_if_ne (tgt := 152) (pc := 134) C dL_areRings_134 (by decide) (fun c_4 => ?_) (fun c_4 => ?_)
                  · refine z_aloadn (i := 2) (pc := 152) C dL_areRings_152 rfl rfl ?_
                    refine z_iload (i := 8) (pc := 153) C dL_areRings_153 rfl ?_
                    refine z_iload (i := 9) (pc := 155) C dL_areRings_155 rfl ?_
                    refine z_iload (i := 10) (pc := 157) C dL_areRings_157 rfl ?_
                    refine z_callSi (pc := 159) (n := 4) (As := [.ref (zad E 39), .int (nI a), .int (nI b), .int (nI c3)]) (rest := []) C (c_L_isRing l E sa (μ := μ) (ov := ov) a b c3 ha8 hb8 hc8) gL_areRings_L_isRing rfl zfV_L_isRing.2 ⟨Nat.le_of_ble_eq_true rfl, Nat.le_of_ble_eq_true rfl⟩ rfl rfl (Nat.le_of_ble_eq_true rfl) ⟨by show _ ≤ 1600; omega, by show _ ≤ 9600; omega⟩ dL_areRings_159 (fun r9 μ9 ov9 hp => ?_)
                    have e1 := hp.1.symm
                    have e2 := hp.2.1.symm
                    have e3 := hp.2.2.symm
                    clear hp
                    subst e1 e2 e3
                    refine z_if_ne (tgt := 180) (pc := 162) C dL_areRings_162 (by decide) (fun c_5 => ?_) (fun c_5 => ?_)
                    · refine z_aloadn (i := 0) (pc := 180) C dL_areRings_180 rfl rfl ?_
                      refine z_iload (i := 10) (pc := 181) C dL_areRings_181 rfl ?_
                      refine z_iload (i := 8) (pc := 183) C dL_areRings_183 rfl ?_
                      refine z_iload (i := 9) (pc := 185) C dL_areRings_185 rfl ?_
                      refine z_iloadn (i := 3) (pc := 187) C dL_areRings_187 rfl rfl ?_
                      refine z_callSWi (pc := 188) (n := 5) (As := [.ref (zob E 0), .int (nI c3), .int (nI a), .int (nI b), .int (nI q)]) (rest := []) C (c_L_closes l hfl E sa (μ := μ) (ov := ov) (a := nI c3) (b := nI a) (c8 := nI b) (d := nI q) t c9 nc n H) gL_areRings_L_closes rfl zfV_L_closes.2 ⟨Nat.le_of_ble_eq_true rfl, Nat.le_of_ble_eq_true rfl⟩ rfl rfl (Nat.le_of_ble_eq_true rfl) ⟨by show _ ≤ 1600; omega, by show _ ≤ 9600; omega⟩ dL_areRings_188 (fun r9 μ9 ov9 hp => ?_)
                      have e : r9 = zsum μ q (a, b, c3) ∧ μ9 = μ ∧ ov9 = ov := by
                        rcases hp with ⟨-, -, hp⟩ | ⟨hn, -⟩ | ⟨-, hn, -⟩
                        · rw [nI_clamp (by omega), nI_clamp (by omega), nI_clamp (by omega), nI_clamp (by omega), od2] at hp
                          exact hp
                        · exact absurd ⟨hz.2.2, hz.1, hz.2.1⟩ hn
                        · exact absurd (by rw [nI_clamp (by omega), nI_clamp (by omega), nI_clamp (by omega)]; rw [Int32.xor_assoc, Int32.xor_comm]; exact hr3) hn
                      obtain ⟨e1, e2, e3⟩ := e
                      have e2 := e2.symm
                      have e3 := e3.symm
                      subst e1 e2 e3
                      clear hp
                      refine z_iload (i := 12) (pc := 191) C dL_areRings_191 rfl ?_
                      refine z_icmp_ne (tgt := 216) (pc := 193) C dL_areRings_193 (by decide) (fun c_6 => ?_) (fun c_6 => ?_)
                      · exact absurd rfl c_6
                      · refine z_aloadn (i := 0) (pc := 196) C dL_areRings_196 rfl rfl ?_
                        refine z_iload (i := 10) (pc := 197) C dL_areRings_197 rfl ?_
                        refine z_iload (i := 9) (pc := 199) C dL_areRings_199 rfl ?_
                        refine z_iload (i := 8) (pc := 201) C dL_areRings_201 rfl ?_
                        refine z_iloadn (i := 3) (pc := 203) C dL_areRings_203 rfl rfl ?_
                        refine z_callSWi (pc := 204) (n := 5) (As := [.ref (zob E 0), .int (nI c3), .int (nI b), .int (nI a), .int (nI q)]) (rest := []) C (c_L_closes l hfl E sa (μ := μ) (ov := ov) (a := nI c3) (b := nI b) (c8 := nI a) (d := nI q) t c9 nc n H) gL_areRings_L_closes rfl zfV_L_closes.2 ⟨Nat.le_of_ble_eq_true rfl, Nat.le_of_ble_eq_true rfl⟩ rfl rfl (Nat.le_of_ble_eq_true rfl) ⟨by show _ ≤ 1600; omega, by show _ ≤ 9600; omega⟩ dL_areRings_204 (fun r9 μ9 ov9 hp => ?_)
                        have e : r9 = zsum μ q (a, b, c3) ∧ μ9 = μ ∧ ov9 = ov := by
                          rcases hp with ⟨-, -, hp⟩ | ⟨hn, -⟩ | ⟨-, hn, -⟩
                          · rw [nI_clamp (by omega), nI_clamp (by omega), nI_clamp (by omega), nI_clamp (by omega), od3] at hp
                            exact hp
                          · exact absurd ⟨hz.2.2, hz.2.1, hz.1⟩ hn
                          · exact absurd (by rw [nI_clamp (by omega), nI_clamp (by omega), nI_clamp (by omega)]; rw [Int32.xor_comm (zbits (μ 7 c3) (μ 8 c3)), Int32.xor_comm _ (zbits (μ 7 a) (μ 8 a)), ← Int32.xor_assoc]; exact hr3) hn
                        obtain ⟨e1, e2, e3⟩ := e
                        have e2 := e2.symm
                        have e3 := e3.symm
                        subst e1 e2 e3
                        clear hp
                        refine z_iload (i := 12) (pc := 207) C dL_areRings_207 rfl ?_
                        refine z_icmp_ne (tgt := 216) (pc := 209) C dL_areRings_209 (by decide) (fun c_7 => ?_) (fun c_7 => ?_)
                        · exact absurd rfl c_7
                        · refine z_iconst (v := 1) (pc := 212) C dL_areRings_212 (by decide) ?_
                          refine z_goto (tgt := 217) (pc := 213) C dL_areRings_213 (by decide) ?_
                          refine z_istore6 (pc := 217) C (by decide) (fun w hw => by cases hw; exact (show ¬ (1 = 2) from by decide)) dL_areRings_217 ?_
                          refine z_iload (i := 5) (pc := 219) C dL_areRings_219 rfl ?_
                          refine z_iload (i := 11) (pc := 221) C dL_areRings_221 rfl ?_
                          refine z_if_eq (tgt := 258) (pc := 223) C dL_areRings_223 (by decide) (fun c_8 => ?_) (fun c_8 => ?_)
                          · exact absurd c_8 (by decide)
                          · refine z_aloadn (i := 2) (pc := 226) C dL_areRings_226 rfl rfl ?_
                            refine z_iload (i := 8) (pc := 227) C dL_areRings_227 rfl ?_
                            refine z_iload (i := 9) (pc := 229) C dL_areRings_229 rfl ?_
                            refine z_iload (i := 10) (pc := 231) C dL_areRings_231 rfl ?_
                            refine z_callSi (pc := 233) (n := 4) (As := [.ref (zad E 39), .int (nI a), .int (nI b), .int (nI c3)]) (rest := [.int (nI (zcnt (zopq μ q n) u))]) C (c_L_isRing l E sa (μ := μ) (ov := ov) a b c3 ha8 hb8 hc8) gL_areRings_L_isRing rfl zfV_L_isRing.2 ⟨Nat.le_of_ble_eq_true rfl, Nat.le_of_ble_eq_true rfl⟩ rfl rfl (Nat.le_of_ble_eq_true rfl) ⟨by show _ ≤ 1600; omega, by show _ ≤ 9600; omega⟩ dL_areRings_233 (fun r9 μ9 ov9 hp => ?_)
                            have e1 := hp.1.symm
                            have e2 := hp.2.1.symm
                            have e3 := hp.2.2.symm
                            clear hp
                            subst e1 e2 e3
                            refine z_if_eq (tgt := 258) (pc := 236) C dL_areRings_236 (by decide) (fun c_9 => ?_) (fun c_9 => ?_)
                            · exact absurd c_9 (by rw [zb_t hR]; decide)
                            · refine z_iload (i := 12) (pc := 239) C dL_areRings_239 rfl ?_
                              refine z_iload (i := 4) (pc := 241) C dL_areRings_241 rfl ?_
                              refine z_icmp_gt (tgt := 254) (pc := 243) C dL_areRings_243 (by decide) (fun c_a => ?_) (fun c_a => ?_)
                              · refine z_iconst (v := 1) (pc := 254) C dL_areRings_254 (by decide) ?_
                                refine z_goto (tgt := 259) (pc := 255) C dL_areRings_255 (by decide) ?_
                                refine z_iadd (pc := 259) C dL_areRings_259 ?_
                                refine z_istore5 (pc := 260) C (by decide) (fun w hw => by cases hw; exact (show ¬ (1 = 2) from by decide)) dL_areRings_260 ?_
                                have he : zopq μ q n u = true := by rw [ho2]; exact decide_eq_true (zd.mpr (Or.inl c_a))
                                refine z_weak (lv' := [some (.ref (zob E 0)), some (.ref (zad E 38)), some (.ref (zad E 39)), some (.int (nI q)), some (.int (nI B)), some (.int ((nI (zcnt (zopq μ q n) u)) + 1)), some (.int (1)), some (.int (nI u)), none, none, none, none, none]) ⟨rfl, rfl, rfl, rfl, rfl, rfl, rfl, rfl, trivial⟩ ?_
                                exact z_widen (by omega) (by omega) (bk _ (by rw [hst true he]; exact nI_1 _))
                              · refine z_iload (i := 12) (pc := 246) C dL_areRings_246 rfl ?_
                                refine z_iload (i := 4) (pc := 248) C dL_areRings_248 rfl ?_
                                refine z_ineg (pc := 250) C dL_areRings_250 ?_
                                refine z_icmp_ge (tgt := 258) (pc := 251) C dL_areRings_251 (by decide) (fun c_b => ?_) (fun c_b => ?_)
                                · refine z_iconst (v := 0) (pc := 258) C dL_areRings_258 (by decide) ?_
                                  refine z_iadd (pc := 259) C dL_areRings_259 ?_
                                  refine z_istore5 (pc := 260) C (by decide) (fun w hw => by cases hw; exact (show ¬ (1 = 2) from by decide)) dL_areRings_260 ?_
                                  have he : zopq μ q n u = false := by rw [ho2]; exact decide_eq_false (fun z => (zd.mp z).elim c_a (fun z2 => by rw [zlt] at z2; rw [zle2] at c_b; omega))
                                  refine z_weak (lv' := [some (.ref (zob E 0)), some (.ref (zad E 38)), some (.ref (zad E 39)), some (.int (nI q)), some (.int (nI B)), some (.int ((nI (zcnt (zopq μ q n) u)) + 0)), some (.int (1)), some (.int (nI u)), none, none, none, none, none]) ⟨rfl, rfl, rfl, rfl, rfl, rfl, rfl, rfl, trivial⟩ ?_
                                  exact z_widen (by omega) (by omega) (bk _ (by rw [hst false he]; exact Int32.add_zero _))
                                · refine z_iconst (v := 1) (pc := 254) C dL_areRings_254 (by decide) ?_
                                  refine z_goto (tgt := 259) (pc := 255) C dL_areRings_255 (by decide) ?_
                                  refine z_iadd (pc := 259) C dL_areRings_259 ?_
                                  refine z_istore5 (pc := 260) C (by decide) (fun w hw => by cases hw; exact (show ¬ (1 = 2) from by decide)) dL_areRings_260 ?_
                                  have he : zopq μ q n u = true := by rw [ho2]; exact decide_eq_true (zd.mpr (Or.inr (znot_le c_b)))
                                  refine z_weak (lv' := [some (.ref (zob E 0)), some (.ref (zad E 38)), some (.ref (zad E 39)), some (.int (nI q)), some (.int (nI B)), some (.int ((nI (zcnt (zopq μ q n) u)) + 1)), some (.int (1)), some (.int (nI u)), none, none, none, none, none]) ⟨rfl, rfl, rfl, rfl, rfl, rfl, rfl, rfl, trivial⟩ ?_
                                  exact z_widen (by omega) (by omega) (bk _ (by rw [hst true he]; exact nI_1 _))
                    · exact absurd c_5 (by rw [zb_t hR]; decide)
                  · exact absurd c_4 (by decide)
          · have hR : ¬ zisr (μ 39) a b c3 := fun z => hr3 (ri.mp z)
            have hno : zopq μ q n u = false := by rw [ho, decide_eq_false (fun z => hr3 (mem9.mp z).2.2.2), Bool.false_and]
            refine z_iloadn (i := 3) (pc := 76) C dL_areRings_76 rfl rfl ?_
            refine z_aloadn (i := 2) (pc := 77) C dL_areRings_77 rfl rfl ?_
            refine z_iconst (v := 3) (pc := 78) C dL_areRings_78 (by decide) ?_
            refine z_iload (i := 8) (pc := 79) C dL_areRings_79 rfl ?_
            refine z_imul (pc := 81) C dL_areRings_81 ?_
            refine z_iconst (v := 2) (pc := 82) C dL_areRings_82 (by decide) ?_
            refine z_iadd (pc := 83) C dL_areRings_83 ?_
            refine z_iald (pc := 84) C 39 (3 * a + 2) (by decide) rfl (zx3 a).2.2 (show (3 * a + 2) < 24 from by omega) dL_areRings_84 ?_
            refine z_icmp_le (tgt := 116) (pc := 85) C dL_areRings_85 (by decide) (fun c_1 => ?_) (fun c_1 => ?_)
            · exact absurd hl.1 (by rw [g3a] at c_1; rw [zlt]; rw [zle2] at c_1; omega)
            · refine z_iloadn (i := 3) (pc := 88) C dL_areRings_88 rfl rfl ?_
              refine z_aloadn (i := 2) (pc := 89) C dL_areRings_89 rfl rfl ?_
              refine z_iconst (v := 3) (pc := 90) C dL_areRings_90 (by decide) ?_
              refine z_iload (i := 9) (pc := 91) C dL_areRings_91 rfl ?_
              refine z_imul (pc := 93) C dL_areRings_93 ?_
              refine z_iconst (v := 2) (pc := 94) C dL_areRings_94 (by decide) ?_
              refine z_iadd (pc := 95) C dL_areRings_95 ?_
              refine z_iald (pc := 96) C 39 (3 * b + 2) (by decide) rfl (zx3 b).2.2 (show (3 * b + 2) < 24 from by omega) dL_areRings_96 ?_
              refine z_icmp_le (tgt := 116) (pc := 97) C dL_areRings_97 (by decide) (fun c_2 => ?_) (fun c_2 => ?_)
              · exact absurd hl.2.1 (by rw [g3b] at c_2; rw [zlt]; rw [zle2] at c_2; omega)
              · refine z_iloadn (i := 3) (pc := 100) C dL_areRings_100 rfl rfl ?_
                refine z_aloadn (i := 2) (pc := 101) C dL_areRings_101 rfl rfl ?_
                refine z_iconst (v := 3) (pc := 102) C dL_areRings_102 (by decide) ?_
                refine z_iload (i := 10) (pc := 103) C dL_areRings_103 rfl ?_
                refine z_imul (pc := 105) C dL_areRings_105 ?_
                refine z_iconst (v := 2) (pc := 106) C dL_areRings_106 (by decide) ?_
                refine z_iadd (pc := 107) C dL_areRings_107 ?_
                refine z_iald (pc := 108) C 39 (3 * c3 + 2) (by decide) rfl (zx3 c3).2.2 (show (3 * c3 + 2) < 24 from by omega) dL_areRings_108 ?_
                refine z_icmp_le (tgt := 116) (pc := 109) C dL_areRings_109 (by decide) (fun c_3 => ?_) (fun c_3 => ?_)
                · exact absurd hl.2.2 (by rw [g3c] at c_3; rw [zlt]; rw [zle2] at c_3; omega)
                · refine z_iconst (v := 1) (pc := 112) C dL_areRings_112 (by decide) ?_
                  refine z_goto (tgt := 117) (pc := 113) C dL_areRings_113 (by decide) ?_
                  refine z_istore11 (pc := 117) C (by decide) (fun w hw => by cases hw; exact (show ¬ (1 = 2) from by decide)) dL_areRings_117 ?_
                  refine z_aloadn (i := 0) (pc := 119) C dL_areRings_119 rfl rfl ?_
                  refine z_iload (i := 8) (pc := 120) C dL_areRings_120 rfl ?_
                  refine z_iload (i := 9) (pc := 122) C dL_areRings_122 rfl ?_
                  refine z_iload (i := 10) (pc := 124) C dL_areRings_124 rfl ?_
                  refine z_iloadn (i := 3) (pc := 126) C dL_areRings_126 rfl rfl ?_
                  refine z_callSWi (pc := 127) (n := 5) (As := [.ref (zob E 0), .int (nI a), .int (nI b), .int (nI c3), .int (nI q)]) (rest := []) C (c_L_closes l hfl E sa (μ := μ) (ov := ov) (a := nI a) (b := nI b) (c8 := nI c3) (d := nI q) t c9 nc n H) gL_areRings_L_closes rfl zfV_L_closes.2 ⟨Nat.le_of_ble_eq_true rfl, Nat.le_of_ble_eq_true rfl⟩ rfl rfl (Nat.le_of_ble_eq_true rfl) ⟨by show _ ≤ 1600; omega, by show _ ≤ 9600; omega⟩ dL_areRings_127 (fun r9 μ9 ov9 hp => ?_)
                  have e : r9 = (-1000002) ∧ μ9 = μ ∧ ov9 = ov := by
                    rcases hp with ⟨-, hn, -⟩ | ⟨hn, -⟩ | ⟨-, -, hp⟩
                    · rw [nI_clamp (by omega), nI_clamp (by omega), nI_clamp (by omega)] at hn
                      exact absurd hn hr3
                    · exact absurd hz hn
                    · exact hp
                  obtain ⟨e1, e2, e3⟩ := e
                  have e2 := e2.symm
                  have e3 := e3.symm
                  subst e1 e2 e3
                  clear hp
                  refine z_istore12 (pc := 130) C (by decide) (fun w hw => by cases hw; exact (show ¬ (1 = 2) from by decide)) dL_areRings_130 ?_
                  refine z_iload (i := 11) (pc := 132) C dL_areRings_132 rfl ?_
                  refine z_if_ne (tgt := 152) (pc := 134) C dL_areRings_134 (by decide) (fun c_4 => ?_) (fun c_4 => ?_)
                  · refine z_aloadn (i := 2) (pc := 152) C dL_areRings_152 rfl rfl ?_
                    refine z_iload (i := 8) (pc := 153) C dL_areRings_153 rfl ?_
                    refine z_iload (i := 9) (pc := 155) C dL_areRings_155 rfl ?_
                    refine z_iload (i := 10) (pc := 157) C dL_areRings_157 rfl ?_
                    refine z_callSi (pc := 159) (n := 4) (As := [.ref (zad E 39), .int (nI a), .int (nI b), .int (nI c3)]) (rest := []) C (c_L_isRing l E sa (μ := μ) (ov := ov) a b c3 ha8 hb8 hc8) gL_areRings_L_isRing rfl zfV_L_isRing.2 ⟨Nat.le_of_ble_eq_true rfl, Nat.le_of_ble_eq_true rfl⟩ rfl rfl (Nat.le_of_ble_eq_true rfl) ⟨by show _ ≤ 1600; omega, by show _ ≤ 9600; omega⟩ dL_areRings_159 (fun r9 μ9 ov9 hp => ?_)
                    have e1 := hp.1.symm
                    have e2 := hp.2.1.symm
                    have e3 := hp.2.2.symm
                    clear hp
                    subst e1 e2 e3
                    refine z_if_ne (tgt := 180) (pc := 162) C dL_areRings_162 (by decide) (fun c_5 => ?_) (fun c_5 => ?_)
                    · exact absurd (zb_f hR) c_5
                    · refine z_iload (i := 12) (pc := 165) C dL_areRings_165 rfl ?_
                      refine z_ldc (v := (-1000002)) (pc := 167) C dL_areRings_167 (C.1.2.2.2.2 (.constant RL 18 (-1000002)) (by decide +kernel)) ?_
                      refine z_icmp_ne (tgt := 176) (pc := 169) C dL_areRings_169 (by decide) (fun c_6 => ?_) (fun c_6 => ?_)
                      · exact absurd rfl c_6
                      · refine z_iconst (v := 1) (pc := 172) C dL_areRings_172 (by decide) ?_
                        refine z_goto (tgt := 217) (pc := 173) C dL_areRings_173 (by decide) ?_
                        refine z_istore6 (pc := 217) C (by decide) (fun w hw => by cases hw; exact (show ¬ (1 = 2) from by decide)) dL_areRings_217 ?_
                        refine z_iload (i := 5) (pc := 219) C dL_areRings_219 rfl ?_
                        refine z_iload (i := 11) (pc := 221) C dL_areRings_221 rfl ?_
                        refine z_if_eq (tgt := 258) (pc := 223) C dL_areRings_223 (by decide) (fun c_8 => ?_) (fun c_8 => ?_)
                        · exact absurd c_8 (by decide)
                        · refine z_aloadn (i := 2) (pc := 226) C dL_areRings_226 rfl rfl ?_
                          refine z_iload (i := 8) (pc := 227) C dL_areRings_227 rfl ?_
                          refine z_iload (i := 9) (pc := 229) C dL_areRings_229 rfl ?_
                          refine z_iload (i := 10) (pc := 231) C dL_areRings_231 rfl ?_
                          refine z_callSi (pc := 233) (n := 4) (As := [.ref (zad E 39), .int (nI a), .int (nI b), .int (nI c3)]) (rest := [.int (nI (zcnt (zopq μ q n) u))]) C (c_L_isRing l E sa (μ := μ) (ov := ov) a b c3 ha8 hb8 hc8) gL_areRings_L_isRing rfl zfV_L_isRing.2 ⟨Nat.le_of_ble_eq_true rfl, Nat.le_of_ble_eq_true rfl⟩ rfl rfl (Nat.le_of_ble_eq_true rfl) ⟨by show _ ≤ 1600; omega, by show _ ≤ 9600; omega⟩ dL_areRings_233 (fun r9 μ9 ov9 hp => ?_)
                          have e1 := hp.1.symm
                          have e2 := hp.2.1.symm
                          have e3 := hp.2.2.symm
                          clear hp
                          subst e1 e2 e3
                          refine z_if_eq (tgt := 258) (pc := 236) C dL_areRings_236 (by decide) (fun c_9 => ?_) (fun c_9 => ?_)
                          · refine z_iconst (v := 0) (pc := 258) C dL_areRings_258 (by decide) ?_
                            refine z_iadd (pc := 259) C dL_areRings_259 ?_
                            refine z_istore5 (pc := 260) C (by decide) (fun w hw => by cases hw; exact (show ¬ (1 = 2) from by decide)) dL_areRings_260 ?_
                            refine z_weak (lv' := [some (.ref (zob E 0)), some (.ref (zad E 38)), some (.ref (zad E 39)), some (.int (nI q)), some (.int (nI B)), some (.int ((nI (zcnt (zopq μ q n) u)) + 0)), some (.int (1)), some (.int (nI u)), none, none, none, none, none]) ⟨rfl, rfl, rfl, rfl, rfl, rfl, rfl, rfl, trivial⟩ ?_
                            exact z_widen (by omega) (by omega) (bk _ (by rw [hst false hno]; exact Int32.add_zero _))
                          · exact absurd (zb_f hR) c_9
                  · exact absurd c_4 (by decide)
        · have hno : zopq μ q n u = false := by rw [ho, decide_eq_false (fun z => hl (mem9.mp z).2.2.1), Bool.false_and]
          have hz : ¬ (zmea μ (nI a) (nI q) ∧ zmea μ (nI b) (nI q) ∧ zmea μ (nI c3) (nI q)) := fun z => hl ⟨(hmz a han).mp z.1, (hmz b hbn).mp z.2.1, (hmz c3 hcn).mp z.2.2⟩
          have J : zW p l e (zR 17 465 1600 9600) s m [Value.ref (zob E 0), Value.ref (zad E 38), Value.ref (zad E 39), Value.int (nI q), Value.int (nI B)].toArray below meth c E 13 (3 * u) (18 * u) (MQ below (zQi E s.heap.size (fun r μ1 ov1 => r = 1 ∧ zLI μ1 t c9 nc n A ∧ ov1 = ov)) [Value.ref (zob E 0), Value.ref (zad E 38), Value.ref (zad E 39), Value.int (nI q), Value.int (nI B)].toArray s 1600 9600 (zA E s.heap.size)) 117 [some (.ref (zob E 0)), some (.ref (zad E 38)), some (.ref (zad E 39)), some (.int (nI q)), some (.int (nI B)), some (.int (nI (zcnt (zopq μ q n) u))), some (.int (1)), some (.int (nI u)), some (.int (nI a)), some (.int (nI b)), some (.int (nI c3)), none, none] [.int (0)] μ ov := by
            refine z_istore11 (pc := 117) C (by decide) (fun w hw => by cases hw; exact (show ¬ (1 = 2) from by decide)) dL_areRings_117 ?_
            refine z_aloadn (i := 0) (pc := 119) C dL_areRings_119 rfl rfl ?_
            refine z_iload (i := 8) (pc := 120) C dL_areRings_120 rfl ?_
            refine z_iload (i := 9) (pc := 122) C dL_areRings_122 rfl ?_
            refine z_iload (i := 10) (pc := 124) C dL_areRings_124 rfl ?_
            refine z_iloadn (i := 3) (pc := 126) C dL_areRings_126 rfl rfl ?_
            refine z_callSWi (pc := 127) (n := 5) (As := [.ref (zob E 0), .int (nI a), .int (nI b), .int (nI c3), .int (nI q)]) (rest := []) C (c_L_closes l hfl E sa (μ := μ) (ov := ov) (a := nI a) (b := nI b) (c8 := nI c3) (d := nI q) t c9 nc n H) gL_areRings_L_closes rfl zfV_L_closes.2 ⟨Nat.le_of_ble_eq_true rfl, Nat.le_of_ble_eq_true rfl⟩ rfl rfl (Nat.le_of_ble_eq_true rfl) ⟨by show _ ≤ 1600; omega, by show _ ≤ 9600; omega⟩ dL_areRings_127 (fun r9 μ9 ov9 hp => ?_)
            have e : r9 = (-1000001) ∧ μ9 = μ ∧ ov9 = ov := by
              rcases hp with ⟨hn, -⟩ | ⟨-, hp⟩ | ⟨hn, -⟩
              · exact absurd hn hz
              · exact hp
              · exact absurd hn hz
            obtain ⟨e1, e2, e3⟩ := e
            have e2 := e2.symm
            have e3 := e3.symm
            subst e1 e2 e3
            clear hp
            refine z_istore12 (pc := 130) C (by decide) (fun w hw => by cases hw; exact (show ¬ (1 = 2) from by decide)) dL_areRings_130 ?_
            refine z_iload (i := 11) (pc := 132) C dL_areRings_132 rfl ?_
            refine z_if_ne (tgt := 152) (pc := 134) C dL_areRings_134 (by decide) (fun c_4 => ?_) (fun c_4 => ?_)
            · exact absurd rfl c_4
            · refine z_iload (i := 12) (pc := 137) C dL_areRings_137 rfl ?_
              refine z_ldc (v := (-1000001)) (pc := 139) C dL_areRings_139 (C.1.2.2.2.2 (.constant RL 28 (-1000001)) (by decide +kernel)) ?_
              refine z_icmp_ne (tgt := 148) (pc := 141) C dL_areRings_141 (by decide) (fun c_6 => ?_) (fun c_6 => ?_)
              · exact absurd rfl c_6
              · refine z_iconst (v := 1) (pc := 144) C dL_areRings_144 (by decide) ?_
                refine z_goto (tgt := 217) (pc := 145) C dL_areRings_145 (by decide) ?_
                refine z_istore6 (pc := 217) C (by decide) (fun w hw => by cases hw; exact (show ¬ (1 = 2) from by decide)) dL_areRings_217 ?_
                refine z_iload (i := 5) (pc := 219) C dL_areRings_219 rfl ?_
                refine z_iload (i := 11) (pc := 221) C dL_areRings_221 rfl ?_
                refine z_if_eq (tgt := 258) (pc := 223) C dL_areRings_223 (by decide) (fun c_8 => ?_) (fun c_8 => ?_)
                · refine z_iconst (v := 0) (pc := 258) C dL_areRings_258 (by decide) ?_
                  refine z_iadd (pc := 259) C dL_areRings_259 ?_
                  refine z_istore5 (pc := 260) C (by decide) (fun w hw => by cases hw; exact (show ¬ (1 = 2) from by decide)) dL_areRings_260 ?_
                  refine z_weak (lv' := [some (.ref (zob E 0)), some (.ref (zad E 38)), some (.ref (zad E 39)), some (.int (nI q)), some (.int (nI B)), some (.int ((nI (zcnt (zopq μ q n) u)) + 0)), some (.int (1)), some (.int (nI u)), none, none, none, none, none]) ⟨rfl, rfl, rfl, rfl, rfl, rfl, rfl, rfl, trivial⟩ ?_
                  exact z_widen (by omega) (by omega) (bk _ (by rw [hst false hno]; exact Int32.add_zero _))
                · exact absurd rfl c_8
          refine z_iloadn (i := 3) (pc := 76) C dL_areRings_76 rfl rfl ?_
          refine z_aloadn (i := 2) (pc := 77) C dL_areRings_77 rfl rfl ?_
          refine z_iconst (v := 3) (pc := 78) C dL_areRings_78 (by decide) ?_
          refine z_iload (i := 8) (pc := 79) C dL_areRings_79 rfl ?_
          refine z_imul (pc := 81) C dL_areRings_81 ?_
          refine z_iconst (v := 2) (pc := 82) C dL_areRings_82 (by decide) ?_
          refine z_iadd (pc := 83) C dL_areRings_83 ?_
          refine z_iald (pc := 84) C 39 (3 * a + 2) (by decide) rfl (zx3 a).2.2 (show (3 * a + 2) < 24 from by omega) dL_areRings_84 ?_
          refine z_icmp_le (tgt := 116) (pc := 85) C dL_areRings_85 (by decide) (fun c_1 => ?_) (fun c_1 => ?_)
          · refine z_iconst (v := 0) (pc := 116) C dL_areRings_116 (by decide) ?_
            exact J
          · refine z_iloadn (i := 3) (pc := 88) C dL_areRings_88 rfl rfl ?_
            refine z_aloadn (i := 2) (pc := 89) C dL_areRings_89 rfl rfl ?_
            refine z_iconst (v := 3) (pc := 90) C dL_areRings_90 (by decide) ?_
            refine z_iload (i := 9) (pc := 91) C dL_areRings_91 rfl ?_
            refine z_imul (pc := 93) C dL_areRings_93 ?_
            refine z_iconst (v := 2) (pc := 94) C dL_areRings_94 (by decide) ?_
            refine z_iadd (pc := 95) C dL_areRings_95 ?_
            refine z_iald (pc := 96) C 39 (3 * b + 2) (by decide) rfl (zx3 b).2.2 (show (3 * b + 2) < 24 from by omega) dL_areRings_96 ?_
            refine z_icmp_le (tgt := 116) (pc := 97) C dL_areRings_97 (by decide) (fun c_2 => ?_) (fun c_2 => ?_)
            · refine z_iconst (v := 0) (pc := 116) C dL_areRings_116 (by decide) ?_
              exact J
            · refine z_iloadn (i := 3) (pc := 100) C dL_areRings_100 rfl rfl ?_
              refine z_aloadn (i := 2) (pc := 101) C dL_areRings_101 rfl rfl ?_
              refine z_iconst (v := 3) (pc := 102) C dL_areRings_102 (by decide) ?_
              refine z_iload (i := 10) (pc := 103) C dL_areRings_103 rfl ?_
              refine z_imul (pc := 105) C dL_areRings_105 ?_
              refine z_iconst (v := 2) (pc := 106) C dL_areRings_106 (by decide) ?_
              refine z_iadd (pc := 107) C dL_areRings_107 ?_
              refine z_iald (pc := 108) C 39 (3 * c3 + 2) (by decide) rfl (zx3 c3).2.2 (show (3 * c3 + 2) < 24 from by omega) dL_areRings_108 ?_
              refine z_icmp_le (tgt := 116) (pc := 109) C dL_areRings_109 (by decide) (fun c_3 => ?_) (fun c_3 => ?_)
              · refine z_iconst (v := 0) (pc := 116) C dL_areRings_116 (by decide) ?_
                exact J
              · exact absurd ⟨by rw [← g3a]; exact znot_le c_1, by rw [← g3b]; exact znot_le c_2, by rw [← g3c]; exact znot_le c_3⟩ hl
      refine z_iload (i := 7) (pc := 9) C dL_areRings_9 rfl ?_
      refine z_aloadn (i := 1) (pc := 11) C dL_areRings_11 rfl rfl ?_
      refine z_iconst (v := 1) (pc := 12) C dL_areRings_12 (by decide) ?_
      refine z_iald (pc := 13) C 38 1 (by decide) rfl rfl (show 1 < 9 from by omega) dL_areRings_13 ?_
      refine z_aloadn (i := 1) (pc := 14) C dL_areRings_14 rfl rfl ?_
      refine z_iconst (v := 1) (pc := 15) C dL_areRings_15 (by decide) ?_
      refine z_iald (pc := 16) C 38 1 (by decide) rfl rfl (show 1 < 9 from by omega) dL_areRings_16 ?_
      refine z_imul (pc := 17) C dL_areRings_17 ?_
      refine z_aloadn (i := 1) (pc := 18) C dL_areRings_18 rfl rfl ?_
      refine z_iconst (v := 1) (pc := 19) C dL_areRings_19 (by decide) ?_
      refine z_iald (pc := 20) C 38 1 (by decide) rfl rfl (show 1 < 9 from by omega) dL_areRings_20 ?_
      refine z_imul (pc := 21) C dL_areRings_21 ?_
      refine z_topi (y := nI (n * n * n)) eg ?_
      refine z_icmp_ge (tgt := 268) (pc := 22) C dL_areRings_22 (by decide) (fun c_l => ?_) (fun c_l => ?_)
      · exact absurd c_l (nI_ge (by omega) (by omega))
      · refine z_iload (i := 6) (pc := 25) C dL_areRings_25 rfl ?_
        refine z_if_eq (tgt := 268) (pc := 27) C dL_areRings_27 (by decide) (fun c_z => ?_) (fun c_z => ?_)
        · exact absurd c_z (by decide)
        · refine z_iload (i := 7) (pc := 30) C dL_areRings_30 rfl ?_
          refine z_aloadn (i := 1) (pc := 32) C dL_areRings_32 rfl rfl ?_
          refine z_iconst (v := 1) (pc := 33) C dL_areRings_33 (by decide) ?_
          refine z_iald (pc := 34) C 38 1 (by decide) rfl rfl (show 1 < 9 from by omega) dL_areRings_34 ?_
          refine z_irem (pc := 35) C dL_areRings_35 hne ?_
          refine z_topi (y := nI a) (by rw [G1, ha]; exact pk_rem (by omega) hn1 (by omega)) ?_
          refine z_istore8 (pc := 36) C (by decide) (fun w hw => by cases hw; exact (show ¬ (1 = 2) from by decide)) dL_areRings_36 ?_
          refine z_iload (i := 7) (pc := 38) C dL_areRings_38 rfl ?_
          refine z_aloadn (i := 1) (pc := 40) C dL_areRings_40 rfl rfl ?_
          refine z_iconst (v := 1) (pc := 41) C dL_areRings_41 (by decide) ?_
          refine z_iald (pc := 42) C 38 1 (by decide) rfl rfl (show 1 < 9 from by omega) dL_areRings_42 ?_
          refine z_idiv (pc := 43) C dL_areRings_43 hne ?_
          refine z_aloadn (i := 1) (pc := 44) C dL_areRings_44 rfl rfl ?_
          refine z_iconst (v := 1) (pc := 45) C dL_areRings_45 (by decide) ?_
          refine z_iald (pc := 46) C 38 1 (by decide) rfl rfl (show 1 < 9 from by omega) dL_areRings_46 ?_
          refine z_irem (pc := 47) C dL_areRings_47 hne ?_
          refine z_topi (y := nI b) (by rw [G1, hb, pk_div (by omega) hn1 (by omega)]; exact pk_rem (Nat.lt_of_le_of_lt (Nat.div_le_self _ _) (by omega)) hn1 (by omega)) ?_
          refine z_istore9 (pc := 48) C (by decide) (fun w hw => by cases hw; exact (show ¬ (1 = 2) from by decide)) dL_areRings_48 ?_
          refine z_iload (i := 7) (pc := 50) C dL_areRings_50 rfl ?_
          refine z_aloadn (i := 1) (pc := 52) C dL_areRings_52 rfl rfl ?_
          refine z_iconst (v := 1) (pc := 53) C dL_areRings_53 (by decide) ?_
          refine z_iald (pc := 54) C 38 1 (by decide) rfl rfl (show 1 < 9 from by omega) dL_areRings_54 ?_
          refine z_idiv (pc := 55) C dL_areRings_55 hne ?_
          refine z_aloadn (i := 1) (pc := 56) C dL_areRings_56 rfl rfl ?_
          refine z_iconst (v := 1) (pc := 57) C dL_areRings_57 (by decide) ?_
          refine z_iald (pc := 58) C 38 1 (by decide) rfl rfl (show 1 < 9 from by omega) dL_areRings_58 ?_
          refine z_idiv (pc := 59) C dL_areRings_59 hne ?_
          refine z_topi (y := nI c3) (by rw [G1, hc, pk_div (by omega) hn1 (by omega)]; exact pk_div (Nat.lt_of_le_of_lt (Nat.div_le_self _ _) (by omega)) hn1 (by omega)) ?_
          refine z_istore10 (pc := 60) C (by decide) (fun w hw => by cases hw; exact (show ¬ (1 = 2) from by decide)) dL_areRings_60 ?_
          refine z_iload (i := 8) (pc := 62) C dL_areRings_62 rfl ?_
          refine z_iload (i := 9) (pc := 64) C dL_areRings_64 rfl ?_
          refine z_icmp_ge (tgt := 262) (pc := 66) C dL_areRings_66 (by decide) (fun c_i => ?_) (fun c_i => ?_)
          · have hno : zopq μ q n u = false := by rw [ho, decide_eq_false (fun z => by have := (mem9.mp z).1; rw [nI_leI (by omega) (by omega)] at c_i; omega), Bool.false_and]
            refine z_weak (lv' := [some (.ref (zob E 0)), some (.ref (zad E 38)), some (.ref (zad E 39)), some (.int (nI q)), some (.int (nI B)), some (.int (nI (zcnt (zopq μ q n) u))), some (.int (1)), some (.int (nI u)), none, none, none, none, none]) ⟨rfl, rfl, rfl, rfl, rfl, rfl, rfl, rfl, trivial⟩ ?_
            exact z_widen (by omega) (by omega) (bk _ (by rw [hst false hno]; rfl))
          · refine z_iload (i := 9) (pc := 69) C dL_areRings_69 rfl ?_
            refine z_iload (i := 10) (pc := 71) C dL_areRings_71 rfl ?_
            refine z_icmp_ge (tgt := 262) (pc := 73) C dL_areRings_73 (by decide) (fun c_j => ?_) (fun c_j => ?_)
            · have hno : zopq μ q n u = false := by rw [ho, decide_eq_false (fun z => by have := (mem9.mp z).2.1; rw [nI_leI (by omega) (by omega)] at c_j; omega), Bool.false_and]
              refine z_weak (lv' := [some (.ref (zob E 0)), some (.ref (zad E 38)), some (.ref (zad E 39)), some (.int (nI q)), some (.int (nI B)), some (.int (nI (zcnt (zopq μ q n) u))), some (.int (1)), some (.int (nI u)), none, none, none, none, none]) ⟨rfl, rfl, rfl, rfl, rfl, rfl, rfl, rfl, trivial⟩ ?_
              exact z_widen (by omega) (by omega) (bk _ (by rw [hst false hno]; rfl))
            · exact chk ((nI_ltI (by omega) (by omega)).mp (znot_le c_i)) ((nI_ltI (by omega) (by omega)).mp (znot_le c_j))
  exact loop (n * n * n) 0 (by omega)
