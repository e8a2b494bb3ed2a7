theorem zam3 {w : Nat} {a : Int32} (h : zbn a 3) (hw : w = 0 ∨ w = 2 ∨ w = 3) : zamt (nI w) a := by
  unfold zbn at h
  unfold zamt
  rcases hw with rfl | rfl | rfl
  · exact Or.inl ⟨rfl, by rw [zle2, show (-500 : Int32).toInt = -500 from by decide]; omega, by rw [zle2, show (500 : Int32).toInt = 500 from rfl]; omega⟩
  · exact Or.inr (Or.inr (Or.inl ⟨rfl, by rw [zle2, show (-50 : Int32).toInt = -50 from by decide]; omega, by rw [zle2, show (50 : Int32).toInt = 50 from rfl]; omega⟩))
  · exact Or.inr (Or.inr (Or.inr ⟨rfl, by rw [zle2, show (-3 : Int32).toInt = -3 from by decide]; omega, by rw [zle2, show (3 : Int32).toInt = 3 from rfl]; omega⟩))
theorem zbs {a b B : Nat} (ha : a ≤ 2 * b) (hb : b < 100000) (hB : b ≤ B) : zbn (nI a - nI b) B := by
  unfold zbn
  rw [pk_sub_toInt (by omega) (by omega)]
  omega
set_option maxHeartbeats 4000000 in
set_option maxRecDepth 100000 in
theorem c_L_sets (l : Launch) (hfl : l.stackTraces = false) (E : zE) (sa : Nat → Nat) {μ : zM} {ov : Nat → Int64} {x y : Int32} (t c9 nc n A : Nat) (h : zLI μ t c9 nc n A) (hA : A < 60) (h2 : 2 ≤ nc) : zMi l E sa yL_sets wsL_sets 8 183 6 36 [.ref (zob E 0), .ref (zad E 38), .ref (zad E 40), .ref (zad E 41), .int x, .int y] μ ov (fun r μ1 ov1 => r = 1 ∧ (∃ c1, zLI μ1 t c1 nc n (A + 1)) ∧ ov1 = ov) := by
  refine z_ofMi (cc := cL_sets) (nL := 12) (ret := (some .boolean)) (own := RL) zfp_L_sets rfl (by simp [Value.category]) (Nat.le_of_ble_eq_true rfl) rfl ?_
  intro p e s m below meth c C hr hlk
  show zW p l e (zR 8 183 6 36) s m [Value.ref (zob E 0), Value.ref (zad E 38), Value.ref (zad E 40), Value.ref (zad E 41), Value.int x, Value.int y].toArray below meth c E 12 0 0 (MQ below (zQi E s.heap.size (fun r μ1 ov1 => r = 1 ∧ (∃ c1, zLI μ1 t c1 nc n (A + 1)) ∧ ov1 = ov)) [Value.ref (zob E 0), Value.ref (zad E 38), Value.ref (zad E 40), Value.ref (zad E 41), Value.int x, Value.int y].toArray s 6 36 (zA E s.heap.size)) 0 [some (.ref (zob E 0)), some (.ref (zad E 38)), some (.ref (zad E 40)), some (.ref (zad E 41)), some (.int (x)), some (.int (y)), none, none, none, none, none, none] [] μ ov
  obtain ⟨H, hL, hS, hW, hG, hK, ht6, hA60⟩ := id h
  obtain ⟨X1, X2, X3, X4, X5, X6, X7, X8, X9⟩ := id H
  obtain ⟨G0, G1, G2, G3⟩ := id hG
  obtain ⟨k9, K1, K2, K3, K4, K5⟩ := id hK
  obtain ⟨W1, W2, W3, W4, W5, W6, W7, W8, W9, W10⟩ := id hW
  have AD : ∀ w6 : Int32, zW p l e (zR 8 183 6 36) s m [Value.ref (zob E 0), Value.ref (zad E 38), Value.ref (zad E 40), Value.ref (zad E 41), Value.int x, Value.int y].toArray below meth c E 12 0 0 (MQ below (zQi E s.heap.size (fun r μ1 ov1 => r = 1 ∧ (∃ c1, zLI μ1 t c1 nc n (A + 1)) ∧ ov1 = ov)) [Value.ref (zob E 0), Value.ref (zad E 38), Value.ref (zad E 40), Value.ref (zad E 41), Value.int x, Value.int y].toArray s 6 36 (zA E s.heap.size)) 496 [some (.ref (zob E 0)), some (.ref (zad E 38)), some (.ref (zad E 40)), some (.ref (zad E 41)), some (.int (x)), some (.int (y)), some (.int (w6)), none, none, none, none, none] [] μ ov := by
    intro w6
    have hb38 : μ 38 5 = μ 63 3 := W10
    have hb2 : μ 38 2 = μ 63 0 := G2.trans X1.symm
    by_cases hb : μ 63 3 = 0 ∧ ¬ μ 63 0 = 0
    · refine z_aloadn (i := 0) (pc := 496) C dL_sets_496 rfl rfl ?_
      refine z_callSWi (pc := 497) (n := 1) (As := [.ref (zob E 0)]) (rest := []) C (c_L_adopt l hfl E sa (μ := μ) (ov := ov) t c9 nc n H) gL_sets_L_adopt rfl zfV_L_adopt.2 ⟨Nat.le_of_ble_eq_true rfl, Nat.le_of_ble_eq_true rfl⟩ rfl rfl (Nat.le_of_ble_eq_true rfl) ⟨by show _ ≤ 6; omega, by show _ ≤ 36; omega⟩ dL_sets_497 (fun r9 μ9 ov9 hp => ?_)
      have e : r9 = zb (5 ≤ zcnt (zhou μ) 7 ∧ nI (zopen μ t n) = 0) ∧ (∃ ν, zScr μ ν ∧ μ9 = zu ν 63 3 (zb (5 ≤ zcnt (zhou μ) 7 ∧ nI (zopen μ t n) = 0))) ∧ ov9 = ov := by
        rcases hp with ⟨-, hp⟩ | ⟨hn, -⟩
        · exact hp
        · exact absurd hb hn
      obtain ⟨e1, ⟨ν, hs, e2⟩, e3⟩ := e
      have e2 := e2.symm
      have e3 := e3.symm
      subst e1 e2 e3
      clear hp
      have n38 : ν 38 = μ 38 := hs.1 38 (Or.inr (by decide)) (by decide)
      refine z_istore7 (pc := 500) C (by decide) (fun w hw => by cases hw; exact (show ¬ (1 = 2) from by decide)) dL_sets_500 ?_
      refine z_aloadn (i := 1) (pc := 502) C dL_sets_502 rfl rfl ?_
      refine z_iconst (v := 5) (pc := 503) C dL_sets_503 (by decide) ?_
      refine z_iald (pc := 504) C 38 5 (by decide) rfl rfl (show 5 < 9 from by omega) dL_sets_504 ?_
      refine z_iconst (v := 1) (pc := 505) C dL_sets_505 (by decide) ?_
      refine z_icmp_eq (tgt := 515) (pc := 506) C dL_sets_506 (by decide) (fun c_1 => ?_) (fun c_1 => ?_)
      · exact absurd (show μ 38 5 = 1 from (congrFun n38 5).symm.trans c_1) (by rw [hb38, hb.1]; decide)
      · refine z_aloadn (i := 1) (pc := 509) C dL_sets_509 rfl rfl ?_
        refine z_iconst (v := 2) (pc := 510) C dL_sets_510 (by decide) ?_
        refine z_iald (pc := 511) C 38 2 (by decide) rfl rfl (show 2 < 9 from by omega) dL_sets_511 ?_
        refine z_if_ne (tgt := 528) (pc := 512) C dL_sets_512 (by decide) (fun c_2 => ?_) (fun c_2 => ?_)
        · have J541 : ∀ v : Int32, v = zb (5 ≤ zcnt (zhou μ) 7 ∧ nI (zopen μ t n) = 0) → zW p l e (zR 8 183 6 36) s m [Value.ref (zob E 0), Value.ref (zad E 38), Value.ref (zad E 40), Value.ref (zad E 41), Value.int x, Value.int y].toArray below meth c E 12 1 6 (MQ below (zQi E s.heap.size (fun r μ1 ov1 => r = 1 ∧ (∃ c1, zLI μ1 t c1 nc n (A + 1)) ∧ ov1 = ov)) [Value.ref (zob E 0), Value.ref (zad E 38), Value.ref (zad E 40), Value.ref (zad E 41), Value.int x, Value.int y].toArray s 6 36 (zA E s.heap.size)) 541 [some (.ref (zob E 0)), some (.ref (zad E 38)), some (.ref (zad E 40)), some (.ref (zad E 41)), some (.int (x)), some (.int (y)), some (.int (w6)), some (.int (zb (5 ≤ zcnt (zhou μ) 7 ∧ nI (zopen μ t n) = 0))), none, none, none, none] [.int (v), .int (5), .ref (zad E 38)] (zu ν 63 3 (zb (5 ≤ zcnt (zhou μ) 7 ∧ nI (zopen μ t n) = 0))) ov := by
            intro v hv
            subst hv
            refine z_iast (pc := 541) C 38 5 (by decide) rfl rfl (show 5 < 9 from by omega) dL_sets_541 ?_
            have hk : zLI (zu (zu ν 63 3 (zb (5 ≤ zcnt (zhou μ) 7 ∧ nI (zopen μ t n) = 0))) 38 5 (zb (5 ≤ zcnt (zhou μ) 7 ∧ nI (zopen μ t n) = 0))) t c9 nc n A := h.adopt hs zb_01 rfl
            have hso : zopen (zu (zu ν 63 3 (zb (5 ≤ zcnt (zhou μ) 7 ∧ nI (zopen μ t n) = 0))) 38 5 (zb (5 ≤ zcnt (zhou μ) 7 ∧ nI (zopen μ t n) = 0))) t n = zopen μ t n := zopen_s (μ := μ) (κ := (zu (zu ν 63 3 (zb (5 ≤ zcnt (zhou μ) 7 ∧ nI (zopen μ t n) = 0))) 38 5 (zb (5 ≤ zcnt (zhou μ) 7 ∧ nI (zopen μ t n) = 0)))) X7 (hs.1 7 (Or.inl (by decide)) (by decide)) (hs.1 8 (Or.inl (by decide)) (by decide)) (hs.1 11 (Or.inl (by decide)) (by decide)) (hs.2 1 (Or.inl (by decide))) (fun b x y => by rw [zu_n _ _ _ (by omega), zu_n _ _ _ (by omega)]; exact hs.1 b (Or.inr x) (by omega)) t
            have hz : (zu (zu ν 63 3 (zb (5 ≤ zcnt (zhou μ) 7 ∧ nI (zopen μ t n) = 0))) 38 5 (zb (5 ≤ zcnt (zhou μ) 7 ∧ nI (zopen μ t n) = 0))) 38 4 = nI (zcnt (zhou μ) 7) := (congrFun n38 4).trans W9
            obtain ⟨κ, eκ⟩ : ∃ κ, (zu (zu ν 63 3 (zb (5 ≤ zcnt (zhou μ) 7 ∧ nI (zopen μ t n) = 0))) 38 5 (zb (5 ≤ zcnt (zhou μ) 7 ∧ nI (zopen μ t n) = 0))) = κ := ⟨_, rfl⟩
            rw [eκ] at hk hso hz
            refine z_mem (μ' := κ) eκ ?_
            have l7 := zcnt_le (zhou μ) 7
            have Z56 : zopen μ t n ≤ 56 := Nat.le_trans List.countP_le_length (zgat_56 μ X7)
            have ht1 : 1 ≤ t := by rcases Nat.eq_zero_or_pos t with z | z; (exact absurd (by rw [X1, z]; rfl) hb.2); exact z
            refine z_iload (i := 7) (pc := 542) C dL_sets_542 rfl ?_
            refine z_aloadn (i := 1) (pc := 544) C dL_sets_544 rfl rfl ?_
            refine z_iconst (v := 4) (pc := 545) C dL_sets_545 (by decide) ?_
            refine z_iald (pc := 546) C 38 4 (by decide) rfl rfl (show 4 < 9 from by omega) dL_sets_546 ?_
            refine z_topi (y := nI (zcnt (zhou μ) 7)) hz ?_
            refine z_iconst (v := 4) (pc := 547) C dL_sets_547 (by decide) ?_
            refine z_icmp_le (tgt := 565) (pc := 548) C dL_sets_548 (by decide) (fun c_4 => ?_) (fun c_4 => ?_)
            · have np : ¬ (5 ≤ zcnt (zhou μ) 7 ∧ nI (zopen μ t n) = 0) := fun z => by rw [show (4 : Int32) = nI 4 from rfl, nI_leI (by omega) (by decide)] at c_4; omega
              refine z_iconst (v := 0) (pc := 565) C dL_sets_565 (by decide) ?_
              refine z_icmp_ne (tgt := 573) (pc := 566) C dL_sets_566 (by decide) (fun c_7 => ?_) (fun c_7 => ?_)
              · exact absurd (zb_f np) c_7
              · refine z_iconst (v := 1) (pc := 569) C dL_sets_569 (by decide) ?_
                refine z_goto (tgt := 574) (pc := 570) C dL_sets_570 (by decide) ?_
                exact z_zret (pc := 574) C hr hlk (by decide) ⟨rfl, ⟨c9, hk.more hA⟩, rfl⟩ (by omega) (by omega) dL_sets_574
            · refine z_aloadn (i := 0) (pc := 551) C dL_sets_551 rfl rfl ?_
              refine z_aloadn (i := 1) (pc := 552) C dL_sets_552 rfl rfl ?_
              refine z_iconst (v := 2) (pc := 553) C dL_sets_553 (by decide) ?_
              refine z_iald (pc := 554) C 38 2 (by decide) rfl rfl (show 2 < 9 from by omega) dL_sets_554 ?_
              refine z_topi (y := nI t) hk.2.2.2.2.1.2.2.1 ?_
              refine z_callSWi (pc := 555) (n := 2) (As := [.ref (zob E 0), .int (nI t)]) (rest := [.int (zb (5 ≤ zcnt (zhou μ) 7 ∧ nI (zopen μ t n) = 0))]) C (c_L_open l hfl E sa (μ := κ) (ov := ov) (d := nI t) t c9 nc n hk.1) gL_sets_L_open rfl zfV_L_open.2 ⟨Nat.le_of_ble_eq_true rfl, Nat.le_of_ble_eq_true rfl⟩ rfl rfl (Nat.le_of_ble_eq_true rfl) ⟨by show _ ≤ 6; omega, by show _ ≤ 36; omega⟩ dL_sets_555 (fun r9 μ8 ov9 hp => ?_)
              have e : r9 = nI (zopen κ t n) ∧ zScr κ μ8 ∧ ov9 = ov := by
                rcases hp with ⟨-, hp⟩ | ⟨hn, -⟩
                · rw [nI_clamp (by omega)] at hp; exact hp
                · exact absurd ⟨nI_le (a := 1) (by omega) (by omega), by rw [hk.1.1]; exact Int32.le_refl _⟩ hn
              obtain ⟨e1, hs8, e3⟩ := e
              rw [hso] at e1
              have e3 := e3.symm
              subst e1 e3
              clear hp
              have h8 := (hk.scr hs8).more hA
              refine z_if_ne (tgt := 565) (pc := 558) C dL_sets_558 (by decide) (fun c_5 => ?_) (fun c_5 => ?_)
              · have np : ¬ (5 ≤ zcnt (zhou μ) 7 ∧ nI (zopen μ t n) = 0) := fun z => c_5 z.2
                refine z_iconst (v := 0) (pc := 565) C dL_sets_565 (by decide) ?_
                refine z_icmp_ne (tgt := 573) (pc := 566) C dL_sets_566 (by decide) (fun c_7 => ?_) (fun c_7 => ?_)
                · exact absurd (zb_f np) c_7
                · refine z_iconst (v := 1) (pc := 569) C dL_sets_569 (by decide) ?_
                  refine z_goto (tgt := 574) (pc := 570) C dL_sets_570 (by decide) ?_
                  exact z_zret (pc := 574) C hr hlk (by decide) ⟨rfl, ⟨c9, h8⟩, rfl⟩ (by omega) (by omega) dL_sets_574
              · have np : 5 ≤ zcnt (zhou μ) 7 ∧ nI (zopen μ t n) = 0 := ⟨by have z := znot_le c_4; rw [show (4 : Int32) = nI 4 from rfl, nI_ltI (by decide) (by omega)] at z; omega, c_5⟩
                refine z_iconst (v := 1) (pc := 561) C dL_sets_561 (by decide) ?_
                refine z_goto (tgt := 566) (pc := 562) C dL_sets_562 (by decide) ?_
                refine z_icmp_ne (tgt := 573) (pc := 566) C dL_sets_566 (by decide) (fun c_7 => ?_) (fun c_7 => ?_)
                · exact absurd (zb_t np) c_7
                · refine z_iconst (v := 1) (pc := 569) C dL_sets_569 (by decide) ?_
                  refine z_goto (tgt := 574) (pc := 570) C dL_sets_570 (by decide) ?_
                  exact z_zret (pc := 574) C hr hlk (by decide) ⟨rfl, ⟨c9, h8⟩, rfl⟩ (by omega) (by omega) dL_sets_574
          refine z_aloadn (i := 1) (pc := 528) C dL_sets_528 rfl rfl ?_
          refine z_iconst (v := 5) (pc := 529) C dL_sets_529 (by decide) ?_
          refine z_iload (i := 7) (pc := 530) C dL_sets_530 rfl ?_
          refine z_iconst (v := 1) (pc := 532) C dL_sets_532 (by decide) ?_
          refine z_icmp_ne (tgt := 540) (pc := 533) C dL_sets_533 (by decide) (fun c_3 => ?_) (fun c_3 => ?_)
          · refine z_iconst (v := 0) (pc := 540) C dL_sets_540 (by decide) ?_
            exact J541 _ (zb_01.resolve_right c_3).symm
          · refine z_iconst (v := 1) (pc := 536) C dL_sets_536 (by decide) ?_
            refine z_goto (tgt := 541) (pc := 537) C dL_sets_537 (by decide) ?_
            exact J541 _ c_3.symm
        · exact absurd ((hb2.symm.trans (congrFun n38 2).symm).trans c_2) hb.2
    · refine z_aloadn (i := 0) (pc := 496) C dL_sets_496 rfl rfl ?_
      refine z_callSWi (pc := 497) (n := 1) (As := [.ref (zob E 0)]) (rest := []) C (c_L_adopt l hfl E sa (μ := μ) (ov := ov)  t c9 nc n H) gL_sets_L_adopt rfl zfV_L_adopt.2 ⟨Nat.le_of_ble_eq_true rfl, Nat.le_of_ble_eq_true rfl⟩ rfl rfl (Nat.le_of_ble_eq_true rfl) ⟨by show _ ≤ 6; omega, by show _ ≤ 36; omega⟩ dL_sets_497 (fun r9 μ9 ov9 hp => ?_)
      have e : r9 = (-1000003) ∧ μ9 = μ ∧ ov9 = ov := by
        rcases hp with ⟨hn, -⟩ | ⟨-, hp⟩
        · exact absurd hn hb
        · exact hp
      obtain ⟨e1, e2, e3⟩ := e
      have e2 := e2.symm
      have e3 := e3.symm
      subst e1 e2 e3
      clear hp
      refine z_istore7 (pc := 500) C (by decide) (fun w hw => by cases hw; exact (show ¬ (1 = 2) from by decide)) dL_sets_500 ?_
      refine z_aloadn (i := 1) (pc := 502) C dL_sets_502 rfl rfl ?_
      refine z_iconst (v := 5) (pc := 503) C dL_sets_503 (by decide) ?_
      refine z_iald (pc := 504) C 38 5 (by decide) rfl rfl (show 5 < 9 from by omega) dL_sets_504 ?_
      refine z_iconst (v := 1) (pc := 505) C dL_sets_505 (by decide) ?_
      refine z_icmp_eq (tgt := 515) (pc := 506) C dL_sets_506 (by decide) (fun c_1 => ?_) (fun c_1 => ?_)
      · refine z_iload (i := 7) (pc := 515) C dL_sets_515 rfl ?_
        refine z_ldc (v := (-1000003)) (pc := 517) C dL_sets_517 (C.1.2.2.2.2 (.constant RL 21 (-1000003)) (by decide +kernel)) ?_
        refine z_icmp_ne (tgt := 526) (pc := 519) C dL_sets_519 (by decide) (fun c_3 => ?_) (fun c_3 => ?_)
        · exact absurd rfl c_3
        · refine z_iconst (v := 1) (pc := 522) C dL_sets_522 (by decide) ?_
          refine z_goto (tgt := 527) (pc := 523) C dL_sets_523 (by decide) ?_
          exact z_zret (pc := 527) C hr hlk (by decide) ⟨rfl, ⟨c9, h.more hA⟩, rfl⟩ (by omega) (by omega) dL_sets_527
      · refine z_aloadn (i := 1) (pc := 509) C dL_sets_509 rfl rfl ?_
        refine z_iconst (v := 2) (pc := 510) C dL_sets_510 (by decide) ?_
        refine z_iald (pc := 511) C 38 2 (by decide) rfl rfl (show 2 < 9 from by omega) dL_sets_511 ?_
        refine z_if_ne (tgt := 528) (pc := 512) C dL_sets_512 (by decide) (fun c_2 => ?_) (fun c_2 => ?_)
        · exact absurd ⟨(W6.resolve_right (fun z => c_1 (hb38.trans z))), fun z => c_2 (hb2.trans z)⟩ hb
        · refine z_iload (i := 7) (pc := 515) C dL_sets_515 rfl ?_
          refine z_ldc (v := (-1000003)) (pc := 517) C dL_sets_517 (C.1.2.2.2.2 (.constant RL 21 (-1000003)) (by decide +kernel)) ?_
          refine z_icmp_ne (tgt := 526) (pc := 519) C dL_sets_519 (by decide) (fun c_3 => ?_) (fun c_3 => ?_)
          · exact absurd rfl c_3
          · refine z_iconst (v := 1) (pc := 522) C dL_sets_522 (by decide) ?_
            refine z_goto (tgt := 527) (pc := 523) C dL_sets_523 (by decide) ?_
            exact z_zret (pc := 527) C hr hlk (by decide) ⟨rfl, ⟨c9, h.more hA⟩, rfl⟩ (by omega) (by omega) dL_sets_527
  refine z_iload (i := 4) (pc := 0) C dL_sets_0 rfl ?_
  refine z_iconst (v := 5) (pc := 2) C dL_sets_2 (by decide) ?_
  obtain ⟨k0, hk0, ek0⟩ := zlow_k x (k := 5) (by omega) (by omega)
  refine z_callSi (pc := 3) (n := 2) (As := [.int (x), .int (5)]) (rest := []) C (c_L_low l E sa (μ := μ) (ov := ov) (v := x) (n := 5) 5 rfl (by omega) (by omega)) gL_sets_L_low rfl zfV_L_low.2 ⟨Nat.le_of_ble_eq_true rfl, Nat.le_of_ble_eq_true rfl⟩ rfl rfl (Nat.le_of_ble_eq_true rfl) ⟨by show _ ≤ 6; omega, by show _ ≤ 36; omega⟩ dL_sets_3 (fun r9 μ9 ov9 hp => ?_)
  have e1 := hp.1.symm
  have e2 := hp.2.1.symm
  have e3 := hp.2.2.symm
  clear hp
  subst e1 e2 e3
  refine z_topi (y := nI k0) ek0 ?_
  refine z_istore6 (pc := 6) C (by decide) (fun w hw => by cases hw; exact (show ¬ (1 = 2) from by decide)) dL_sets_6 ?_
  rcases (show k0 = 0 ∨ k0 = 1 ∨ k0 = 2 ∨ k0 = 3 ∨ k0 = 4 by omega) with rfl | rfl | rfl | rfl | rfl
  · refine z_iload (i := 6) (pc := 8) C dL_sets_8 rfl ?_
    refine z_if_ne (tgt := 178) (pc := 10) C dL_sets_10 (by decide) (fun c_0 => ?_) (fun c_0 => ?_)
    · exact absurd rfl c_0
    · refine z_aloadn (i := 1) (pc := 13) C dL_sets_13 rfl rfl ?_
      refine z_iconst (v := 2) (pc := 14) C dL_sets_14 (by decide) ?_
      refine z_iald (pc := 15) C 38 2 (by decide) rfl rfl (show 2 < 9 from by omega) dL_sets_15 ?_
      refine z_iconst (v := 1) (pc := 16) C dL_sets_16 (by decide) ?_
      refine z_iadd (pc := 17) C dL_sets_17 ?_
      refine z_topi (y := nI (t + 1)) (by rw [G2]; exact nI_1 t) ?_
      refine z_iload (i := 5) (pc := 18) C dL_sets_18 rfl ?_
      refine z_bipush (v := 10) (pc := 20) C dL_sets_20 (by decide) ?_
      obtain ⟨d0, hd0, ed0⟩ := zlow_k y (k := 10) (by omega) (by omega)
      refine z_callSi (pc := 22) (n := 2) (As := [.int (y), .int (10)]) (rest := [.int (nI (t + 1))]) C (c_L_low l E sa (μ := μ) (ov := ov) (v := y) (n := 10) 10 rfl (by omega) (by omega)) gL_sets_L_low rfl zfV_L_low.2 ⟨Nat.le_of_ble_eq_true rfl, Nat.le_of_ble_eq_true rfl⟩ rfl rfl (Nat.le_of_ble_eq_true rfl) ⟨by show _ ≤ 6; omega, by show _ ≤ 36; omega⟩ dL_sets_22 (fun r9 μ9 ov9 hp => ?_)
      have e1 := hp.1.symm
      have e2 := hp.2.1.symm
      have e3 := hp.2.2.symm
      clear hp
      subst e1 e2 e3
      refine z_topi (y := nI d0) ed0 ?_
      refine z_iadd (pc := 25) C dL_sets_25 ?_
      refine z_topi (y := nI (t + 1 + d0)) (nI_add _ _) ?_
      refine z_istore7 (pc := 26) C (by decide) (fun w hw => by cases hw; exact (show ¬ (1 = 2) from by decide)) dL_sets_26 ?_
      refine z_iload (i := 5) (pc := 28) C dL_sets_28 rfl ?_
      refine z_iconst (v := 4) (pc := 30) C dL_sets_30 (by decide) ?_
      refine z_ishr (pc := 31) C dL_sets_31 ?_
      refine z_iconst (v := 4) (pc := 32) C dL_sets_32 (by decide) ?_
      obtain ⟨w0, hw0, ew0⟩ := zlow_k (y >>> (4 &&& 31)) (k := 4) (by omega) (by omega)
      refine z_callSi (pc := 33) (n := 2) (As := [.int (y >>> (4 &&& 31)), .int (4)]) (rest := []) C (c_L_low l E sa (μ := μ) (ov := ov) (v := y >>> (4 &&& 31)) (n := 4) 4 rfl (by omega) (by omega)) gL_sets_L_low rfl zfV_L_low.2 ⟨Nat.le_of_ble_eq_true rfl, Nat.le_of_ble_eq_true rfl⟩ rfl rfl (Nat.le_of_ble_eq_true rfl) ⟨by show _ ≤ 6; omega, by show _ ≤ 36; omega⟩ dL_sets_33 (fun r9 μ9 ov9 hp => ?_)
      have e1 := hp.1.symm
      have e2 := hp.2.1.symm
      have e3 := hp.2.2.symm
      clear hp
      subst e1 e2 e3
      refine z_topi (y := nI w0) ew0 ?_
      refine z_istore8 (pc := 36) C (by decide) (fun w hw => by cases hw; exact (show ¬ (1 = 2) from by decide)) dL_sets_36 ?_
      refine z_iload (i := 5) (pc := 38) C dL_sets_38 rfl ?_
      refine z_bipush (v := 6) (pc := 40) C dL_sets_40 (by decide) ?_
      refine z_ishr (pc := 42) C dL_sets_42 ?_
      refine z_bipush (v := 8) (pc := 43) C dL_sets_43 (by decide) ?_
      obtain ⟨u0, hu0, eu0⟩ := zlow_k (y >>> (6 &&& 31)) (k := 8) (by omega) (by omega)
      refine z_callSi (pc := 45) (n := 2) (As := [.int (y >>> (6 &&& 31)), .int (8)]) (rest := []) C (c_L_low l E sa (μ := μ) (ov := ov) (v := y >>> (6 &&& 31)) (n := 8) 8 rfl (by omega) (by omega)) gL_sets_L_low rfl zfV_L_low.2 ⟨Nat.le_of_ble_eq_true rfl, Nat.le_of_ble_eq_true rfl⟩ rfl rfl (Nat.le_of_ble_eq_true rfl) ⟨by show _ ≤ 6; omega, by show _ ≤ 36; omega⟩ dL_sets_45 (fun r9 μ9 ov9 hp => ?_)
      have e1 := hp.1.symm
      have e2 := hp.2.1.symm
      have e3 := hp.2.2.symm
      clear hp
      subst e1 e2 e3
      refine z_topi (y := nI u0) eu0 ?_
      refine z_istore9 (pc := 48) C (by decide) (fun w hw => by cases hw; exact (show ¬ (1 = 2) from by decide)) dL_sets_48 ?_
      have J : ∀ b : Int32, zamt (nI w0) b → (w0 ≠ 1 → zbn b 3) → zW p l e (zR 8 183 6 36) s m [Value.ref (zob E 0), Value.ref (zad E 38), Value.ref (zad E 40), Value.ref (zad E 41), Value.int x, Value.int y].toArray below meth c E 12 0 0 (MQ below (zQi E s.heap.size (fun r μ1 ov1 => r = 1 ∧ (∃ c1, zLI μ1 t c1 nc n (A + 1)) ∧ ov1 = ov)) [Value.ref (zob E 0), Value.ref (zad E 38), Value.ref (zad E 40), Value.ref (zad E 41), Value.int x, Value.int y].toArray s 6 36 (zA E s.heap.size)) 82 [some (.ref (zob E 0)), some (.ref (zad E 38)), some (.ref (zad E 40)), some (.ref (zad E 41)), some (.int (x)), some (.int (y)), some (.int (nI 0)), some (.int (nI (t + 1 + d0))), some (.int (nI w0)), some (.int (nI u0)), none, none] [.int (b)] μ ov := by
        intro b ham hb3
        have hk01 : (nI w0 = 0 ∨ nI w0 = 1) ↔ w0 < 2 := by rw [show nI w0 = 0 ↔ w0 = 0 from nI_eq (b := 0) (by omega) (by decide), show nI w0 = 1 ↔ w0 = 1 from nI_eq (b := 1) (by omega) (by decide)]; omega
        have hV : (((nI w0 = 0 ∨ nI w0 = 1) ∧ 0 ≤ nI u0 ∧ nI u0 < μ 63 4) ∨ (¬ (nI w0 = 0 ∨ nI w0 = 1) ∧ 0 ≤ nI u0 ∧ nI u0 < μ 63 5)) ↔ ((w0 < 2 ∧ u0 < nc) ∨ (¬ w0 < 2 ∧ u0 < n)) := by
          rw [hk01, X4, X6, nI_ltI (by omega) (by omega), nI_ltI (by omega) (by omega)]
          exact ⟨fun z => z.elim (fun z => Or.inl ⟨z.1, z.2.2⟩) (fun z => Or.inr ⟨z.1, z.2.2⟩), fun z => z.elim (fun z => Or.inl ⟨z.1, nI_pos' (by omega), z.2⟩) (fun z => Or.inr ⟨z.1, nI_pos' (by omega), z.2⟩)⟩
        have q1 : μ 63 0 < nI (t + 1 + d0) ∧ nI (t + 1 + d0) ≤ 500 ∧ 0 ≤ nI w0 ∧ nI w0 ≤ 3 := by rw [X1]; exact ⟨nI_lt (by omega) (by omega), nI_le (b := 500) (by omega) (by decide), nI_pos' (by omega), nI_le (b := 3) (by omega) (by decide)⟩
        have w2 : (2 : Int32) ≤ nI w0 ↔ ¬ w0 < 2 := by rw [show (2 : Int32) = nI 2 from rfl, nI_leI (by decide) (by omega)]; omega
        by_cases V : (w0 < 2 ∧ u0 < nc) ∨ (¬ w0 < 2 ∧ u0 < n)
        · by_cases hc : c9 < 40
          · refine z_istore10 (pc := 82) C (by decide) (fun w hw => by cases hw; exact (show ¬ (1 = 2) from by decide)) dL_sets_82 ?_
            refine z_aloadn (i := 0) (pc := 84) C dL_sets_84 rfl rfl ?_
            refine z_iload (i := 7) (pc := 85) C dL_sets_85 rfl ?_
            refine z_iload (i := 8) (pc := 87) C dL_sets_87 rfl ?_
            refine z_iload (i := 9) (pc := 89) C dL_sets_89 rfl ?_
            refine z_iload (i := 10) (pc := 91) C dL_sets_91 rfl ?_
            refine z_callSWi (pc := 93) (n := 5) (As := [.ref (zob E 0), .int (nI (t + 1 + d0)), .int (nI w0), .int (nI u0), .int (b)]) (rest := []) C (c_L_event l hfl E sa (μ := μ) (ov := ov) (d := nI (t + 1 + d0)) (k := nI w0) (i := nI u0) (a := b) t c9 nc n H) gL_sets_L_event rfl zfV_L_event.2 ⟨Nat.le_of_ble_eq_true rfl, Nat.le_of_ble_eq_true rfl⟩ rfl rfl (Nat.le_of_ble_eq_true rfl) ⟨by show _ ≤ 6; omega, by show _ ≤ 36; omega⟩ dL_sets_93 (fun r9 μ9 ov9 hp => ?_)
            have e : r9 = nI (c9 + 1) ∧ (∃ (p9 : Nat) (f9 : Nat → Int32), zins (μ 13) c9 (zevC (nI (t + 1 + d0)) (nI w0) (nI u0) b) p9 f9 ∧ μ9 = (zu (zur μ 13 (upd f9 p9 (zevC (nI (t + 1 + d0)) (nI w0) (nI u0) b))) 63 6 (nI (c9 + 1)))) ∧ ov9 = ov := by
              rcases hp with ⟨-, -, -, z1, ⟨p9, f9, z2, -, z3⟩, z4⟩ | ⟨hn, -⟩ | ⟨-, hn, -⟩ | ⟨-, -, hn, -⟩
              · exact ⟨z1, ⟨p9, f9, z2, z3⟩, z4⟩
              · exact absurd q1 hn
              · exact absurd (hV.mpr V) hn
              · exact absurd ⟨ham, hc⟩ hn
            obtain ⟨e1, ⟨p9, f9, hins, e2⟩, e3⟩ := e
            have e2 := e2.symm
            have e3 := e3.symm
            subst e1 e2 e3
            clear hp
            refine z_istore11 (pc := 96) C (by decide) (fun w hw => by cases hw; exact (show ¬ (1 = 2) from by decide)) dL_sets_96 ?_
            have J131 : zW p l e (zR 8 183 6 36) s m [Value.ref (zob E 0), Value.ref (zad E 38), Value.ref (zad E 40), Value.ref (zad E 41), Value.int x, Value.int y].toArray below meth c E 12 1 6 (MQ below (zQi E s.heap.size (fun r μ1 ov1 => r = 1 ∧ (∃ c1, zLI μ1 t c1 nc n (A + 1)) ∧ ov1 = ov)) [Value.ref (zob E 0), Value.ref (zad E 38), Value.ref (zad E 40), Value.ref (zad E 41), Value.int x, Value.int y].toArray s 6 36 (zA E s.heap.size)) 131 [some (.ref (zob E 0)), some (.ref (zad E 38)), some (.ref (zad E 40)), some (.ref (zad E 41)), some (.int (x)), some (.int (y)), some (.int (nI 0)), some (.int (nI (t + 1 + d0))), some (.int (nI w0)), some (.int (nI u0)), some (.int (b)), some (.int (nI (c9 + 1)))] [] (zu (zur μ 13 (upd f9 p9 (zevC (nI (t + 1 + d0)) (nI w0) (nI u0) b))) 63 6 (nI (c9 + 1))) ov := by
              refine z_aloadn (i := 1) (pc := 131) C dL_sets_131 rfl rfl ?_
              refine z_iconst (v := 3) (pc := 132) C dL_sets_132 (by decide) ?_
              refine z_dup2 (pc := 133) C dL_sets_133 rfl rfl ?_
              refine z_iald (pc := 134) C 38 3 (by decide) rfl rfl (show 3 < 9 from by omega) dL_sets_134 ?_
              refine z_iload (i := 11) (pc := 135) C dL_sets_135 rfl ?_
              refine z_if_le (tgt := 144) (pc := 137) C dL_sets_137 (by decide) (fun c_x => ?_) (fun c_x => ?_)
              · exact absurd c_x (nI_nle (by omega) (by omega))
              · refine z_iconst (v := 1) (pc := 140) C dL_sets_140 (by decide) ?_
                refine z_goto (tgt := 145) (pc := 141) C dL_sets_141 (by decide) ?_
                refine z_iadd (pc := 145) C dL_sets_145 ?_
                refine z_iast (pc := 146) C 38 3 (by decide) rfl rfl (show 3 < 9 from by omega) dL_sets_146 ?_
                have hk : zLI (zu (zu (zur μ 13 (upd f9 p9 (zevC (nI (t + 1 + d0)) (nI w0) (nI u0) b))) 63 6 (nI (c9 + 1))) 38 3 (((zu (zur μ 13 (upd f9 p9 (zevC (nI (t + 1 + d0)) (nI w0) (nI u0) b))) 63 6 (nI (c9 + 1))) 38 3) + 1)) t (c9 + 1) nc n (A + 1) := h.event hA hc rfl (by omega) rfl hw0 rfl hu0 (fun z => by rcases V with q | q <;> omega) ham hb3 hins
                obtain ⟨κ, eκ⟩ : ∃ κ, (zu (zu (zur μ 13 (upd f9 p9 (zevC (nI (t + 1 + d0)) (nI w0) (nI u0) b))) 63 6 (nI (c9 + 1))) 38 3 (((zu (zur μ 13 (upd f9 p9 (zevC (nI (t + 1 + d0)) (nI w0) (nI u0) b))) 63 6 (nI (c9 + 1))) 38 3) + 1)) = κ := ⟨_, rfl⟩
                rw [eκ] at hk
                refine z_mem (μ' := κ) eκ ?_
                refine z_aloadn (i := 0) (pc := 147) C dL_sets_147 rfl rfl ?_
                refine z_callVi (pc := 148) (n := 0) (As := []) (rest := []) C (c_X4_events l E sa (μ := κ) (ov := ov)) gL_sets_X4_events rfl zfV_X4_events ⟨Nat.le_of_ble_eq_true rfl, Nat.le_of_ble_eq_true rfl⟩ rfl (zRec_X4 E) rfl (Nat.le_of_ble_eq_true rfl) ⟨by show _ ≤ 6; omega, by show _ ≤ 36; omega⟩ dL_sets_148 (fun r9 μ9 ov9 hp => ?_)
                have e1 := hp.1.symm
                have e2 := hp.2.1.symm
                have e3 := hp.2.2.symm
                clear hp
                subst e1 e2 e3
                refine z_iload (i := 11) (pc := 151) C dL_sets_151 rfl ?_
                refine z_icmp_eq (tgt := 172) (pc := 153) C dL_sets_153 (by decide) (fun c_e => ?_) (fun c_e => ?_)
                · refine z_iconst (v := 1) (pc := 172) C dL_sets_172 (by decide) ?_
                  refine z_goto (tgt := 177) (pc := 173) C dL_sets_173 (by decide) ?_
                  exact z_zret (pc := 177) C hr hlk (by decide) ⟨rfl, ⟨(c9 + 1), hk⟩, rfl⟩ (by omega) (by omega) dL_sets_177
                · exact absurd hk.1.2.2.1.1 c_e
            refine z_iload (i := 9) (pc := 98) C dL_sets_98 rfl ?_
            refine z_iload (i := 8) (pc := 100) C dL_sets_100 rfl ?_
            refine z_iconst (v := 2) (pc := 102) C dL_sets_102 (by decide) ?_
            refine z_icmp_ge (tgt := 112) (pc := 103) C dL_sets_103 (by decide) (fun c_k => ?_) (fun c_k => ?_)
            · refine z_aloadn (i := 1) (pc := 112) C dL_sets_112 rfl rfl ?_
              refine z_iconst (v := 1) (pc := 113) C dL_sets_113 (by decide) ?_
              refine z_iald (pc := 114) C 38 1 (by decide) rfl rfl (show 1 < 9 from by omega) dL_sets_114 ?_
              refine z_icmp_lt (tgt := 131) (pc := 115) C dL_sets_115 (by decide) (fun c_v => ?_) (fun c_v => ?_)
              · have c_u : u0 < n := by have z : nI u0 < μ 38 1 := c_v; rw [G1, nI_ltI (by omega) (by omega)] at z; exact z
                exact J131 -- Or.inr ⟨w2.mp c_k, c_u⟩
              · have c_u : ¬ u0 < n := fun y => c_v (show nI u0 < μ 38 1 by rw [G1, nI_ltI (by omega) (by omega)]; exact y)
                exact absurd V (fun z => z.elim (fun z => w2.mp c_k z.1) (fun z => c_u z.2))
            · refine z_aloadn (i := 1) (pc := 106) C dL_sets_106 rfl rfl ?_
              refine z_iconst (v := 0) (pc := 107) C dL_sets_107 (by decide) ?_
              refine z_iald (pc := 108) C 38 0 (by decide) rfl rfl (show 0 < 9 from by omega) dL_sets_108 ?_
              refine z_goto (tgt := 115) (pc := 109) C dL_sets_109 (by decide) ?_
              refine z_icmp_lt (tgt := 131) (pc := 115) C dL_sets_115 (by decide) (fun c_v => ?_) (fun c_v => ?_)
              · have c_u : u0 < nc := by have z : nI u0 < μ 38 0 := c_v; rw [G0, nI_ltI (by omega) (by omega)] at z; exact z
                exact J131 -- Or.inl ⟨Classical.byContradiction (fun z => c_k (w2.mpr z)), c_u⟩
              · have c_u : ¬ u0 < nc := fun y => c_v (show nI u0 < μ 38 0 by rw [G0, nI_ltI (by omega) (by omega)]; exact y)
                exact absurd V (fun z => z.elim (fun z => c_u z.2) (fun z => c_k (w2.mpr z.1)))
          · have h40 : c9 = 40 := by have := X3.2.1; omega
            refine z_istore10 (pc := 82) C (by decide) (fun w hw => by cases hw; exact (show ¬ (1 = 2) from by decide)) dL_sets_82 ?_
            refine z_aloadn (i := 0) (pc := 84) C dL_sets_84 rfl rfl ?_
            refine z_iload (i := 7) (pc := 85) C dL_sets_85 rfl ?_
            refine z_iload (i := 8) (pc := 87) C dL_sets_87 rfl ?_
            refine z_iload (i := 9) (pc := 89) C dL_sets_89 rfl ?_
            refine z_iload (i := 10) (pc := 91) C dL_sets_91 rfl ?_
            refine z_callSWi (pc := 93) (n := 5) (As := [.ref (zob E 0), .int (nI (t + 1 + d0)), .int (nI w0), .int (nI u0), .int (b)]) (rest := []) C (c_L_event l hfl E sa (μ := μ) (ov := ov) (d := nI (t + 1 + d0)) (k := nI w0) (i := nI u0) (a := b) t c9 nc n H) gL_sets_L_event rfl zfV_L_event.2 ⟨Nat.le_of_ble_eq_true rfl, Nat.le_of_ble_eq_true rfl⟩ rfl rfl (Nat.le_of_ble_eq_true rfl) ⟨by show _ ≤ 6; omega, by show _ ≤ 36; omega⟩ dL_sets_93 (fun r9 μ9 ov9 hp => ?_)
            have e : r9 = (-1000003) ∧ μ9 = μ ∧ ov9 = ov := by
              rcases hp with ⟨-, -, hn, -⟩ | ⟨hn, -⟩ | ⟨-, hn, -⟩ | ⟨-, -, -, hp⟩
              · exact absurd hn.2 hc
              · exact absurd q1 hn
              · exact absurd (hV.mpr V) hn
              · exact hp
            obtain ⟨e1, e2, e3⟩ := e
            have e2 := e2.symm
            have e3 := e3.symm
            subst e1 e2 e3
            clear hp
            refine z_istore11 (pc := 96) C (by decide) (fun w hw => by cases hw; exact (show ¬ (1 = 2) from by decide)) dL_sets_96 ?_
            have J131 : zW p l e (zR 8 183 6 36) s m [Value.ref (zob E 0), Value.ref (zad E 38), Value.ref (zad E 40), Value.ref (zad E 41), Value.int x, Value.int y].toArray below meth c E 12 1 6 (MQ below (zQi E s.heap.size (fun r μ1 ov1 => r = 1 ∧ (∃ c1, zLI μ1 t c1 nc n (A + 1)) ∧ ov1 = ov)) [Value.ref (zob E 0), Value.ref (zad E 38), Value.ref (zad E 40), Value.ref (zad E 41), Value.int x, Value.int y].toArray s 6 36 (zA E s.heap.size)) 131 [some (.ref (zob E 0)), some (.ref (zad E 38)), some (.ref (zad E 40)), some (.ref (zad E 41)), some (.int (x)), some (.int (y)), some (.int (nI 0)), some (.int (nI (t + 1 + d0))), some (.int (nI w0)), some (.int (nI u0)), some (.int (b)), some (.int ((-1000003)))] [] μ ov := by
              refine z_aloadn (i := 1) (pc := 131) C dL_sets_131 rfl rfl ?_
              refine z_iconst (v := 3) (pc := 132) C dL_sets_132 (by decide) ?_
              refine z_dup2 (pc := 133) C dL_sets_133 rfl rfl ?_
              refine z_iald (pc := 134) C 38 3 (by decide) rfl rfl (show 3 < 9 from by omega) dL_sets_134 ?_
              refine z_iload (i := 11) (pc := 135) C dL_sets_135 rfl ?_
              refine z_if_le (tgt := 144) (pc := 137) C dL_sets_137 (by decide) (fun c_x => ?_) (fun c_x => ?_)
              · refine z_iconst (v := 0) (pc := 144) C dL_sets_144 (by decide) ?_
                refine z_iadd (pc := 145) C dL_sets_145 ?_
                refine z_iast (pc := 146) C 38 3 (by decide) rfl rfl (show 3 < 9 from by omega) dL_sets_146 ?_
                have hk : zLI (zu μ 38 3 ((μ 38 3) + 0)) t c9 nc n (A + 1) := (h.more hA).g (Or.inl rfl)
                obtain ⟨κ, eκ⟩ : ∃ κ, (zu μ 38 3 ((μ 38 3) + 0)) = κ := ⟨_, rfl⟩
                rw [eκ] at hk
                refine z_mem (μ' := κ) eκ ?_
                have k40 : κ 63 6 = 40 := by rw [hk.1.2.2.1.1, h40]; rfl
                refine z_aloadn (i := 0) (pc := 147) C dL_sets_147 rfl rfl ?_
                refine z_callVi (pc := 148) (n := 0) (As := []) (rest := []) C (c_X4_events l E sa (μ := κ) (ov := ov)) gL_sets_X4_events rfl zfV_X4_events ⟨Nat.le_of_ble_eq_true rfl, Nat.le_of_ble_eq_true rfl⟩ rfl (zRec_X4 E) rfl (Nat.le_of_ble_eq_true rfl) ⟨by show _ ≤ 6; omega, by show _ ≤ 36; omega⟩ dL_sets_148 (fun r9 μ9 ov9 hp => ?_)
                have e1 := hp.1.symm
                have e2 := hp.2.1.symm
                have e3 := hp.2.2.symm
                clear hp
                subst e1 e2 e3
                refine z_iload (i := 11) (pc := 151) C dL_sets_151 rfl ?_
                refine z_icmp_eq (tgt := 172) (pc := 153) C dL_sets_153 (by decide) (fun c_e => ?_) (fun c_e => ?_)
                · exact absurd c_e (by rw [k40]; decide)
                · refine z_iload (i := 11) (pc := 156) C dL_sets_156 rfl ?_
                  refine z_ldc (v := (-1000003)) (pc := 158) C dL_sets_158 (C.1.2.2.2.2 (.constant RL 21 (-1000003)) (by decide +kernel)) ?_
                  refine z_icmp_ne (tgt := 176) (pc := 160) C dL_sets_160 (by decide) (fun c_f => ?_) (fun c_f => ?_)
                  · exact absurd rfl c_f
                  · refine z_aloadn (i := 0) (pc := 163) C dL_sets_163 rfl rfl ?_
                    refine z_callVi (pc := 164) (n := 0) (As := []) (rest := []) C (c_X4_events l E sa (μ := κ) (ov := ov)) gL_sets_X4_events rfl zfV_X4_events ⟨Nat.le_of_ble_eq_true rfl, Nat.le_of_ble_eq_true rfl⟩ rfl (zRec_X4 E) rfl (Nat.le_of_ble_eq_true rfl) ⟨by show _ ≤ 6; omega, by show _ ≤ 36; omega⟩ dL_sets_164 (fun r9 μ9 ov9 hp => ?_)
                    have e1 := hp.1.symm
                    have e2 := hp.2.1.symm
                    have e3 := hp.2.2.symm
                    clear hp
                    subst e1 e2 e3
                    refine z_bipush (v := 40) (pc := 167) C dL_sets_167 (by decide) ?_
                    refine z_icmp_ne (tgt := 176) (pc := 169) C dL_sets_169 (by decide) (fun c_h => ?_) (fun c_h => ?_)
                    · exact absurd k40 c_h
                    · refine z_iconst (v := 1) (pc := 172) C dL_sets_172 (by decide) ?_
                      refine z_goto (tgt := 177) (pc := 173) C dL_sets_173 (by decide) ?_
                      exact z_zret (pc := 177) C hr hlk (by decide) ⟨rfl, ⟨c9, hk⟩, rfl⟩ (by omega) (by omega) dL_sets_177
              · exact absurd (by decide) c_x
            refine z_iload (i := 9) (pc := 98) C dL_sets_98 rfl ?_
            refine z_iload (i := 8) (pc := 100) C dL_sets_100 rfl ?_
            refine z_iconst (v := 2) (pc := 102) C dL_sets_102 (by decide) ?_
            refine z_icmp_ge (tgt := 112) (pc := 103) C dL_sets_103 (by decide) (fun c_k => ?_) (fun c_k => ?_)
            · refine z_aloadn (i := 1) (pc := 112) C dL_sets_112 rfl rfl ?_
              refine z_iconst (v := 1) (pc := 113) C dL_sets_113 (by decide) ?_
              refine z_iald (pc := 114) C 38 1 (by decide) rfl rfl (show 1 < 9 from by omega) dL_sets_114 ?_
              refine z_icmp_lt (tgt := 131) (pc := 115) C dL_sets_115 (by decide) (fun c_v => ?_) (fun c_v => ?_)
              · have c_u : u0 < n := by have z : nI u0 < μ 38 1 := c_v; rw [G1, nI_ltI (by omega) (by omega)] at z; exact z
                exact J131 -- Or.inr ⟨w2.mp c_k, c_u⟩
              · have c_u : ¬ u0 < n := fun y => c_v (show nI u0 < μ 38 1 by rw [G1, nI_ltI (by omega) (by omega)]; exact y)
                exact absurd V (fun z => z.elim (fun z => w2.mp c_k z.1) (fun z => c_u z.2))
            · refine z_aloadn (i := 1) (pc := 106) C dL_sets_106 rfl rfl ?_
              refine z_iconst (v := 0) (pc := 107) C dL_sets_107 (by decide) ?_
              refine z_iald (pc := 108) C 38 0 (by decide) rfl rfl (show 0 < 9 from by omega) dL_sets_108 ?_
              refine z_goto (tgt := 115) (pc := 109) C dL_sets_109 (by decide) ?_
              refine z_icmp_lt (tgt := 131) (pc := 115) C dL_sets_115 (by decide) (fun c_v => ?_) (fun c_v => ?_)
              · have c_u : u0 < nc := by have z : nI u0 < μ 38 0 := c_v; rw [G0, nI_ltI (by omega) (by omega)] at z; exact z
                exact J131 -- Or.inl ⟨Classical.byContradiction (fun z => c_k (w2.mpr z)), c_u⟩
              · have c_u : ¬ u0 < nc := fun y => c_v (show nI u0 < μ 38 0 by rw [G0, nI_ltI (by omega) (by omega)]; exact y)
                exact absurd V (fun z => z.elim (fun z => c_u z.2) (fun z => c_k (w2.mpr z.1)))
        · refine z_istore10 (pc := 82) C (by decide) (fun w hw => by cases hw; exact (show ¬ (1 = 2) from by decide)) dL_sets_82 ?_
          refine z_aloadn (i := 0) (pc := 84) C dL_sets_84 rfl rfl ?_
          refine z_iload (i := 7) (pc := 85) C dL_sets_85 rfl ?_
          refine z_iload (i := 8) (pc := 87) C dL_sets_87 rfl ?_
          refine z_iload (i := 9) (pc := 89) C dL_sets_89 rfl ?_
          refine z_iload (i := 10) (pc := 91) C dL_sets_91 rfl ?_
          refine z_callSWi (pc := 93) (n := 5) (As := [.ref (zob E 0), .int (nI (t + 1 + d0)), .int (nI w0), .int (nI u0), .int (b)]) (rest := []) C (c_L_event l hfl E sa (μ := μ) (ov := ov) (d := nI (t + 1 + d0)) (k := nI w0) (i := nI u0) (a := b) t c9 nc n H) gL_sets_L_event rfl zfV_L_event.2 ⟨Nat.le_of_ble_eq_true rfl, Nat.le_of_ble_eq_true rfl⟩ rfl rfl (Nat.le_of_ble_eq_true rfl) ⟨by show _ ≤ 6; omega, by show _ ≤ 36; omega⟩ dL_sets_93 (fun r9 μ9 ov9 hp => ?_)
          have e : r9 = (-1000001) ∧ μ9 = μ ∧ ov9 = ov := by
            rcases hp with ⟨-, hn, -⟩ | ⟨hn, -⟩ | ⟨-, -, hp⟩ | ⟨-, hn, -⟩
            · exact absurd (hV.mp hn) V
            · exact absurd q1 hn
            · exact hp
            · exact absurd (hV.mp hn) V
          obtain ⟨e1, e2, e3⟩ := e
          have e2 := e2.symm
          have e3 := e3.symm
          subst e1 e2 e3
          clear hp
          refine z_istore11 (pc := 96) C (by decide) (fun w hw => by cases hw; exact (show ¬ (1 = 2) from by decide)) dL_sets_96 ?_
          have J118 : zW p l e (zR 8 183 6 36) s m [Value.ref (zob E 0), Value.ref (zad E 38), Value.ref (zad E 40), Value.ref (zad E 41), Value.int x, Value.int y].toArray below meth c E 12 1 6 (MQ below (zQi E s.heap.size (fun r μ1 ov1 => r = 1 ∧ (∃ c1, zLI μ1 t c1 nc n (A + 1)) ∧ ov1 = ov)) [Value.ref (zob E 0), Value.ref (zad E 38), Value.ref (zad E 40), Value.ref (zad E 41), Value.int x, Value.int y].toArray s 6 36 (zA E s.heap.size)) 118 [some (.ref (zob E 0)), some (.ref (zad E 38)), some (.ref (zad E 40)), some (.ref (zad E 41)), some (.int (x)), some (.int (y)), some (.int (nI 0)), some (.int (nI (t + 1 + d0))), some (.int (nI w0)), some (.int (nI u0)), some (.int (b)), some (.int ((-1000001)))] [] μ ov := by
            refine z_iload (i := 11) (pc := 118) C dL_sets_118 rfl ?_
            refine z_ldc (v := (-1000001)) (pc := 120) C dL_sets_120 (C.1.2.2.2.2 (.constant RL 28 (-1000001)) (by decide +kernel)) ?_
            refine z_icmp_ne (tgt := 129) (pc := 122) C dL_sets_122 (by decide) (fun c_y => ?_) (fun c_y => ?_)
            · exact absurd rfl c_y
            · refine z_iconst (v := 1) (pc := 125) C dL_sets_125 (by decide) ?_
              refine z_goto (tgt := 130) (pc := 126) C dL_sets_126 (by decide) ?_
              exact z_zret (pc := 130) C hr hlk (by decide) ⟨rfl, ⟨c9, h.more hA⟩, rfl⟩ (by omega) (by omega) dL_sets_130
          refine z_iload (i := 9) (pc := 98) C dL_sets_98 rfl ?_
          refine z_iload (i := 8) (pc := 100) C dL_sets_100 rfl ?_
          refine z_iconst (v := 2) (pc := 102) C dL_sets_102 (by decide) ?_
          refine z_icmp_ge (tgt := 112) (pc := 103) C dL_sets_103 (by decide) (fun c_k => ?_) (fun c_k => ?_)
          · refine z_aloadn (i := 1) (pc := 112) C dL_sets_112 rfl rfl ?_
            refine z_iconst (v := 1) (pc := 113) C dL_sets_113 (by decide) ?_
            refine z_iald (pc := 114) C 38 1 (by decide) rfl rfl (show 1 < 9 from by omega) dL_sets_114 ?_
            refine z_icmp_lt (tgt := 131) (pc := 115) C dL_sets_115 (by decide) (fun c_v => ?_) (fun c_v => ?_)
            · have c_u : u0 < n := by have z : nI u0 < μ 38 1 := c_v; rw [G1, nI_ltI (by omega) (by omega)] at z; exact z
              exact absurd (Or.inr ⟨w2.mp c_k, c_u⟩) V
            · have c_u : ¬ u0 < n := fun y => c_v (show nI u0 < μ 38 1 by rw [G1, nI_ltI (by omega) (by omega)]; exact y)
              exact J118 -- fun z => z.elim (fun z => w2.mp c_k z.1) (fun z => c_u z.2)
          · refine z_aloadn (i := 1) (pc := 106) C dL_sets_106 rfl rfl ?_
            refine z_iconst (v := 0) (pc := 107) C dL_sets_107 (by decide) ?_
            refine z_iald (pc := 108) C 38 0 (by decide) rfl rfl (show 0 < 9 from by omega) dL_sets_108 ?_
            refine z_goto (tgt := 115) (pc := 109) C dL_sets_109 (by decide) ?_
            refine z_icmp_lt (tgt := 131) (pc := 115) C dL_sets_115 (by decide) (fun c_v => ?_) (fun c_v => ?_)
            · have c_u : u0 < nc := by have z : nI u0 < μ 38 0 := c_v; rw [G0, nI_ltI (by omega) (by omega)] at z; exact z
              exact absurd (Or.inl ⟨Classical.byContradiction (fun z => c_k (w2.mpr z)), c_u⟩) V
            · have c_u : ¬ u0 < nc := fun y => c_v (show nI u0 < μ 38 0 by rw [G0, nI_ltI (by omega) (by omega)]; exact y)
              exact J118 -- fun z => z.elim (fun z => c_u z.2) (fun z => c_k (w2.mpr z.1))
      refine z_iload (i := 8) (pc := 50) C dL_sets_50 rfl ?_
      refine z_iconst (v := 1) (pc := 52) C dL_sets_52 (by decide) ?_
      refine z_icmp_ne (tgt := 70) (pc := 53) C dL_sets_53 (by decide) (fun c_w => ?_) (fun c_w => ?_)
      · refine z_iload (i := 5) (pc := 70) C dL_sets_70 rfl ?_
        refine z_bipush (v := 9) (pc := 72) C dL_sets_72 (by decide) ?_
        refine z_ishr (pc := 74) C dL_sets_74 ?_
        refine z_bipush (v := 7) (pc := 75) C dL_sets_75 (by decide) ?_
        obtain ⟨b1, hb1, eb1⟩ := zlow_k (y >>> (9 &&& 31)) (k := 7) (by omega) (by omega)
        refine z_callSi (pc := 77) (n := 2) (As := [.int (y >>> (9 &&& 31)), .int (7)]) (rest := []) C (c_L_low l E sa (μ := μ) (ov := ov) (v := y >>> (9 &&& 31)) (n := 7) 7 rfl (by omega) (by omega)) gL_sets_L_low rfl zfV_L_low.2 ⟨Nat.le_of_ble_eq_true rfl, Nat.le_of_ble_eq_true rfl⟩ rfl rfl (Nat.le_of_ble_eq_true rfl) ⟨by show _ ≤ 6; omega, by show _ ≤ 36; omega⟩ dL_sets_77 (fun r9 μ9 ov9 hp => ?_)
        have e1 := hp.1.symm
        have e2 := hp.2.1.symm
        have e3 := hp.2.2.symm
        clear hp
        subst e1 e2 e3
        refine z_topi (y := nI b1) eb1 ?_
        refine z_iconst (v := 3) (pc := 80) C dL_sets_80 (by decide) ?_
        refine z_isub (pc := 81) C dL_sets_81 ?_
        have w1 : w0 ≠ 1 := fun z => c_w (by rw [z]; rfl)
        have z3 : zbn (nI b1 - 3) 3 := zbs (b := 3) (by omega) (by decide) (by decide)
        exact J _ (zam3 z3 (by omega)) (fun _ => z3)
      · refine z_iload (i := 5) (pc := 56) C dL_sets_56 rfl ?_
        refine z_bipush (v := 9) (pc := 58) C dL_sets_58 (by decide) ?_
        refine z_ishr (pc := 60) C dL_sets_60 ?_
        refine z_sipush (v := 5001) (pc := 61) C dL_sets_61 (by decide) ?_
        obtain ⟨b0, hb0, eb0⟩ := zlow_k (y >>> (9 &&& 31)) (k := 5001) (by omega) (by omega)
        refine z_callSi (pc := 64) (n := 2) (As := [.int (y >>> (9 &&& 31)), .int (5001)]) (rest := []) C (c_L_low l E sa (μ := μ) (ov := ov) (v := y >>> (9 &&& 31)) (n := 5001) 5001 rfl (by omega) (by omega)) gL_sets_L_low rfl zfV_L_low.2 ⟨Nat.le_of_ble_eq_true rfl, Nat.le_of_ble_eq_true rfl⟩ rfl rfl (Nat.le_of_ble_eq_true rfl) ⟨by show _ ≤ 6; omega, by show _ ≤ 36; omega⟩ dL_sets_64 (fun r9 μ9 ov9 hp => ?_)
        have e1 := hp.1.symm
        have e2 := hp.2.1.symm
        have e3 := hp.2.2.symm
        clear hp
        subst e1 e2 e3
        refine z_topi (y := nI b0) eb0 ?_
        refine z_goto (tgt := 82) (pc := 67) C dL_sets_67 (by decide) ?_
        exact J _ (Or.inr (Or.inl ⟨c_w, nI_pos' (by omega), nI_le (b := 5000) (by omega) (by decide)⟩)) (fun z => absurd ((nI_eq (b := 1) (by omega) (by decide)).mp c_w) z)
  · refine z_iload (i := 6) (pc := 8) C dL_sets_8 rfl ?_
    refine z_if_ne (tgt := 178) (pc := 10) C dL_sets_10 (by decide) (fun c_0 => ?_) (fun c_0 => ?_)
    · refine z_iload (i := 6) (pc := 178) C dL_sets_178 rfl ?_
      refine z_iconst (v := 1) (pc := 180) C dL_sets_180 (by decide) ?_
      refine z_icmp_ne (tgt := 321) (pc := 181) C dL_sets_181 (by decide) (fun c_1 => ?_) (fun c_1 => ?_)
      · exact absurd rfl c_1
      · refine z_aloadn (i := 1) (pc := 184) C dL_sets_184 rfl rfl ?_
        refine z_iconst (v := 1) (pc := 185) C dL_sets_185 (by decide) ?_
        refine z_iald (pc := 186) C 38 1 (by decide) rfl rfl (show 1 < 9 from by omega) dL_sets_186 ?_
        refine z_if_le (tgt := 321) (pc := 187) C dL_sets_187 (by decide) (fun c_n => ?_) (fun c_n => ?_)
        · refine z_iload (i := 6) (pc := 321) C dL_sets_321 rfl ?_
          refine z_iconst (v := 2) (pc := 323) C dL_sets_323 (by decide) ?_
          refine z_icmp_ne (tgt := 415) (pc := 324) C dL_sets_324 (by decide) (fun c_2 => ?_) (fun c_2 => ?_)
          · refine z_iload (i := 6) (pc := 415) C dL_sets_415 rfl ?_
            refine z_iconst (v := 3) (pc := 417) C dL_sets_417 (by decide) ?_
            refine z_icmp_ne (tgt := 496) (pc := 418) C dL_sets_418 (by decide) (fun c_3 => ?_) (fun c_3 => ?_)
            · exact AD _
            · exact absurd c_3 (by decide)
          · exact absurd c_2 (by decide)
        · refine z_aloadn (i := 1) (pc := 190) C dL_sets_190 rfl rfl ?_
          refine z_bipush (v := 7) (pc := 191) C dL_sets_191 (by decide) ?_
          refine z_iald (pc := 193) C 38 7 (by decide) rfl rfl (show 7 < 9 from by omega) dL_sets_193 ?_
          refine z_bipush (v := 10) (pc := 194) C dL_sets_194 (by decide) ?_
          refine z_icmp_ge (tgt := 321) (pc := 196) C dL_sets_196 (by decide) (fun c_q => ?_) (fun c_q => ?_)
          · refine z_iload (i := 6) (pc := 321) C dL_sets_321 rfl ?_
            refine z_iconst (v := 2) (pc := 323) C dL_sets_323 (by decide) ?_
            refine z_icmp_ne (tgt := 415) (pc := 324) C dL_sets_324 (by decide) (fun c_2 => ?_) (fun c_2 => ?_)
            · refine z_iload (i := 6) (pc := 415) C dL_sets_415 rfl ?_
              refine z_iconst (v := 3) (pc := 417) C dL_sets_417 (by decide) ?_
              refine z_icmp_ne (tgt := 496) (pc := 418) C dL_sets_418 (by decide) (fun c_3 => ?_) (fun c_3 => ?_)
              · exact AD _
              · exact absurd c_3 (by decide)
            · exact absurd c_2 (by decide)
          · have hn0 : 0 < n := by have z := znot_le c_n; rw [G1, show (0 : Int32) = nI 0 from rfl, nI_ltI (by decide) (by omega)] at z; exact z
            have hq9 : k9 < 10 := by have z := znot_le c_q; rw [K2, show (10 : Int32) = nI 10 from rfl, nI_ltI (by omega) (by decide)] at z; exact z
            refine z_iconst (v := 4) (pc := 199) C dL_sets_199 (by decide) ?_
            refine z_aloadn (i := 1) (pc := 200) C dL_sets_200 rfl rfl ?_
            refine z_bipush (v := 7) (pc := 201) C dL_sets_201 (by decide) ?_
            refine z_iald (pc := 203) C 38 7 (by decide) rfl rfl (show 7 < 9 from by omega) dL_sets_203 ?_
            refine z_topi (y := nI k9) K2 ?_
            refine z_imul (pc := 204) C dL_sets_204 ?_
            refine z_istore7 (pc := 205) C (by decide) (fun w hw => by cases hw; exact (show ¬ (1 = 2) from by decide)) dL_sets_205 ?_
            refine z_aloadn (i := 2) (pc := 207) C dL_sets_207 rfl rfl ?_
            refine z_iload (i := 7) (pc := 208) C dL_sets_208 rfl ?_
            refine z_iload (i := 5) (pc := 210) C dL_sets_210 rfl ?_
            refine z_aloadn (i := 1) (pc := 212) C dL_sets_212 rfl rfl ?_
            refine z_iconst (v := 1) (pc := 213) C dL_sets_213 (by decide) ?_
            refine z_iald (pc := 214) C 38 1 (by decide) rfl rfl (show 1 < 9 from by omega) dL_sets_214 ?_
            refine z_topi (y := nI n) G1 ?_
            obtain ⟨i0, hi0, ei0⟩ := zlow_k y (k := n) (by omega) (by omega)
            refine z_callSi (pc := 215) (n := 2) (As := [.int (y), .int (nI n)]) (rest := [.int (4 * (nI k9)), .ref (zad E 40)]) C (c_L_low l E sa (μ := μ) (ov := ov) (v := y) (n := nI n) n rfl (by omega) (by omega)) gL_sets_L_low rfl zfV_L_low.2 ⟨Nat.le_of_ble_eq_true rfl, Nat.le_of_ble_eq_true rfl⟩ rfl rfl (Nat.le_of_ble_eq_true rfl) ⟨by show _ ≤ 6; omega, by show _ ≤ 36; omega⟩ dL_sets_215 (fun r9 μ9 ov9 hp => ?_)
            have e1 := hp.1.symm
            have e2 := hp.2.1.symm
            have e3 := hp.2.2.symm
            clear hp
            subst e1 e2 e3
            refine z_topi (y := nI i0) ei0 ?_
            refine z_iast (pc := 218) C 40 (4 * k9) (by decide) rfl (zx4 k9).1 (show (4 * k9) < 40 from by omega) dL_sets_218 ?_
            refine z_aloadn (i := 2) (pc := 219) C dL_sets_219 rfl rfl ?_
            refine z_iload (i := 7) (pc := 220) C dL_sets_220 rfl ?_
            refine z_iconst (v := 1) (pc := 222) C dL_sets_222 (by decide) ?_
            refine z_iadd (pc := 223) C dL_sets_223 ?_
            refine z_iload (i := 5) (pc := 224) C dL_sets_224 rfl ?_
            refine z_iconst (v := 3) (pc := 226) C dL_sets_226 (by decide) ?_
            refine z_ishr (pc := 227) C dL_sets_227 ?_
            refine z_bipush (v := 60) (pc := 228) C dL_sets_228 (by decide) ?_
            obtain ⟨f0, hf0, ef0⟩ := zlow_k (y >>> (3 &&& 31)) (k := 60) (by omega) (by omega)
            refine z_callSi (pc := 230) (n := 2) (As := [.int (y >>> (3 &&& 31)), .int (60)]) (rest := [.int ((4 * (nI k9)) + 1), .ref (zad E 40)]) C (c_L_low l E sa (μ := (zu μ 40 (4 * k9) (nI i0))) (ov := ov) (v := y >>> (3 &&& 31)) (n := 60) 60 rfl (by omega) (by omega)) gL_sets_L_low rfl zfV_L_low.2 ⟨Nat.le_of_ble_eq_true rfl, Nat.le_of_ble_eq_true rfl⟩ rfl rfl (Nat.le_of_ble_eq_true rfl) ⟨by show _ ≤ 6; omega, by show _ ≤ 36; omega⟩ dL_sets_230 (fun r9 μ9 ov9 hp => ?_)
            have e1 := hp.1.symm
            have e2 := hp.2.1.symm
            have e3 := hp.2.2.symm
            clear hp
            subst e1 e2 e3
            refine z_topi (y := nI f0) ef0 ?_
            refine z_iast (pc := 233) C 40 (4 * k9 + 1) (by decide) rfl (zx4 k9).2.1 (show (4 * k9 + 1) < 40 from by omega) dL_sets_233 ?_
            refine z_aloadn (i := 2) (pc := 234) C dL_sets_234 rfl rfl ?_
            refine z_iload (i := 7) (pc := 235) C dL_sets_235 rfl ?_
            refine z_iconst (v := 2) (pc := 237) C dL_sets_237 (by decide) ?_
            refine z_iadd (pc := 238) C dL_sets_238 ?_
            refine z_aloadn (i := 2) (pc := 239) C dL_sets_239 rfl rfl ?_
            refine z_iload (i := 7) (pc := 240) C dL_sets_240 rfl ?_
            refine z_iconst (v := 1) (pc := 242) C dL_sets_242 (by decide) ?_
            refine z_iadd (pc := 243) C dL_sets_243 ?_
            refine z_iald (pc := 244) C 40 (4 * k9 + 1) (by decide) rfl (zx4 k9).2.1 (show (4 * k9 + 1) < 40 from by omega) dL_sets_244 ?_
            refine z_topi (y := nI f0) (show upd (upd (μ 40) (4 * k9) (nI i0)) (4 * k9 + 1) (nI f0) (4 * k9 + 1) = _ by rw [upd_s]) ?_
            refine z_iload (i := 5) (pc := 245) C dL_sets_245 rfl ?_
            refine z_bipush (v := 9) (pc := 247) C dL_sets_247 (by decide) ?_
            refine z_ishr (pc := 249) C dL_sets_249 ?_
            refine z_bipush (v := 20) (pc := 250) C dL_sets_250 (by decide) ?_
            obtain ⟨g0, hg0, eg0⟩ := zlow_k (y >>> (9 &&& 31)) (k := 20) (by omega) (by omega)
            refine z_callSi (pc := 252) (n := 2) (As := [.int (y >>> (9 &&& 31)), .int (20)]) (rest := [.int (nI f0), .int ((4 * (nI k9)) + 2), .ref (zad E 40)]) C (c_L_low l E sa (μ := (zu (zu μ 40 (4 * k9) (nI i0)) 40 (4 * k9 + 1) (nI f0))) (ov := ov) (v := y >>> (9 &&& 31)) (n := 20) 20 rfl (by omega) (by omega)) gL_sets_L_low rfl zfV_L_low.2 ⟨Nat.le_of_ble_eq_true rfl, Nat.le_of_ble_eq_true rfl⟩ rfl rfl (Nat.le_of_ble_eq_true rfl) ⟨by show _ ≤ 6; omega, by show _ ≤ 36; omega⟩ dL_sets_252 (fun r9 μ9 ov9 hp => ?_)
            have e1 := hp.1.symm
            have e2 := hp.2.1.symm
            have e3 := hp.2.2.symm
            clear hp
            subst e1 e2 e3
            refine z_topi (y := nI g0) eg0 ?_
            refine z_iadd (pc := 255) C dL_sets_255 ?_
            refine z_topi (y := nI (f0 + g0)) (nI_add _ _) ?_
            refine z_iast (pc := 256) C 40 (4 * k9 + 2) (by decide) rfl (zx4 k9).2.2.1 (show (4 * k9 + 2) < 40 from by omega) dL_sets_256 ?_
            refine z_aloadn (i := 2) (pc := 257) C dL_sets_257 rfl rfl ?_
            refine z_iload (i := 7) (pc := 258) C dL_sets_258 rfl ?_
            refine z_iconst (v := 3) (pc := 260) C dL_sets_260 (by decide) ?_
            refine z_iadd (pc := 261) C dL_sets_261 ?_
            refine z_iload (i := 5) (pc := 262) C dL_sets_262 rfl ?_
            refine z_bipush (v := 14) (pc := 264) C dL_sets_264 (by decide) ?_
            refine z_ishr (pc := 266) C dL_sets_266 ?_
            refine z_sipush (v := 3001) (pc := 267) C dL_sets_267 (by decide) ?_
            obtain ⟨x0, hx0, ex0⟩ := zlow_k (y >>> (14 &&& 31)) (k := 3001) (by omega) (by omega)
            refine z_callSi (pc := 270) (n := 2) (As := [.int (y >>> (14 &&& 31)), .int (3001)]) (rest := [.int ((4 * (nI k9)) + 3), .ref (zad E 40)]) C (c_L_low l E sa (μ := (zu (zu (zu μ 40 (4 * k9) (nI i0)) 40 (4 * k9 + 1) (nI f0)) 40 (4 * k9 + 2) (nI (f0 + g0)))) (ov := ov) (v := y >>> (14 &&& 31)) (n := 3001) 3001 rfl (by omega) (by omega)) gL_sets_L_low rfl zfV_L_low.2 ⟨Nat.le_of_ble_eq_true rfl, Nat.le_of_ble_eq_true rfl⟩ rfl rfl (Nat.le_of_ble_eq_true rfl) ⟨by show _ ≤ 6; omega, by show _ ≤ 36; omega⟩ dL_sets_270 (fun r9 μ9 ov9 hp => ?_)
            have e1 := hp.1.symm
            have e2 := hp.2.1.symm
            have e3 := hp.2.2.symm
            clear hp
            subst e1 e2 e3
            refine z_topi (y := nI x0) ex0 ?_
            refine z_sipush (v := 1500) (pc := 273) C dL_sets_273 (by decide) ?_
            refine z_isub (pc := 276) C dL_sets_276 ?_
            refine z_iast (pc := 277) C 40 (4 * k9 + 3) (by decide) rfl (zx4 k9).2.2.2 (show (4 * k9 + 3) < 40 from by omega) dL_sets_277 ?_
            refine z_aloadn (i := 1) (pc := 278) C dL_sets_278 rfl rfl ?_
            refine z_bipush (v := 7) (pc := 279) C dL_sets_279 (by decide) ?_
            refine z_dup2 (pc := 281) C dL_sets_281 rfl rfl ?_
            refine z_iald (pc := 282) C 38 7 (by decide) rfl rfl (show 7 < 9 from by omega) dL_sets_282 ?_
            refine z_topi (y := nI k9) K2 ?_
            refine z_iconst (v := 1) (pc := 283) C dL_sets_283 (by decide) ?_
            refine z_iadd (pc := 284) C dL_sets_284 ?_
            refine z_topi (y := nI (k9 + 1)) (nI_1 k9) ?_
            refine z_iast (pc := 285) C 38 7 (by decide) rfl rfl (show 7 < 9 from by omega) dL_sets_285 ?_
            obtain ⟨z12, hz1, hz2⟩ := K3 i0
            have H0 : zCI (zu (zu (zu (zu (zu μ 40 (4 * k9) (nI i0)) 40 (4 * k9 + 1) (nI f0)) 40 (4 * k9 + 2) (nI (f0 + g0))) 40 (4 * k9 + 3) ((nI x0) - 1500)) 38 7 (nI (k9 + 1))) t c9 nc n := H.c2 rfl rfl rfl rfl rfl rfl rfl rfl
            have hx0 : zbn (nI x0 - nI 1500) 1500 := zbs (by omega) (by decide) (by decide)
            have q1 : (0 : Int32) ≤ nI i0 ∧ nI i0 < μ 63 5 := by rw [X6]; exact ⟨nI_pos' (by omega), nI_lt hi0 (by omega)⟩
            have q2 : ((0 : Int32) ≤ nI f0 ∧ nI f0 ≤ 500) ∧ (nI f0 ≤ nI (f0 + g0) ∧ nI (f0 + g0) ≤ 500) ∧ (-10000 : Int32) ≤ nI x0 - 1500 ∧ nI x0 - 1500 ≤ 10000 := by
              unfold zbn at hx0
              refine ⟨⟨nI_pos' (by omega), nI_le (b := 500) (by omega) (by decide)⟩, ⟨nI_le (by omega) (by omega), nI_le (b := 500) (by omega) (by decide)⟩, ?_, ?_⟩
              · rw [zle2, show (1500 : Int32) = nI 1500 from rfl, show (-10000 : Int32).toInt = -10000 from by decide]; omega
              · rw [zle2, show (1500 : Int32) = nI 1500 from rfl, show (10000 : Int32).toInt = 10000 from rfl]; omega
            have q3 : μ 12 i0 < 10 := by rw [hz2]; exact nI_lt (b := 10) (by omega) (by decide)
            have hk := h.calib (x := nI x0 - 1500) hA hq9 K2 (i := i0) (by omega) (show f0 ≤ f0 + g0 by omega) (by omega) hx0
            refine z_aloadn (i := 0) (pc := 286) C dL_sets_286 rfl rfl ?_
            refine z_aloadn (i := 2) (pc := 287) C dL_sets_287 rfl rfl ?_
            refine z_iload (i := 7) (pc := 288) C dL_sets_288 rfl ?_
            refine z_iald (pc := 290) C 40 (4 * k9) (by decide) rfl (zx4 k9).1 (show (4 * k9) < 40 from by omega) dL_sets_290 ?_
            refine z_topi (y := nI i0) (show upd (upd (upd (upd (μ 40) (4 * k9) (nI i0)) (4 * k9 + 1) (nI f0)) (4 * k9 + 2) (nI (f0 + g0))) (4 * k9 + 3) (nI x0 - 1500) (4 * k9) = _ by rw [upd_n _ _ (by omega), upd_n _ _ (by omega), upd_n _ _ (by omega), upd_s]) ?_
            refine z_aloadn (i := 2) (pc := 291) C dL_sets_291 rfl rfl ?_
            refine z_iload (i := 7) (pc := 292) C dL_sets_292 rfl ?_
            refine z_iconst (v := 1) (pc := 294) C dL_sets_294 (by decide) ?_
            refine z_iadd (pc := 295) C dL_sets_295 ?_
            refine z_iald (pc := 296) C 40 (4 * k9 + 1) (by decide) rfl (zx4 k9).2.1 (show (4 * k9 + 1) < 40 from by omega) dL_sets_296 ?_
            refine z_topi (y := nI f0) (show upd (upd (upd (upd (μ 40) (4 * k9) (nI i0)) (4 * k9 + 1) (nI f0)) (4 * k9 + 2) (nI (f0 + g0))) (4 * k9 + 3) (nI x0 - 1500) (4 * k9 + 1) = _ by rw [upd_n _ _ (by omega), upd_n _ _ (by omega), upd_s]) ?_
            refine z_aloadn (i := 2) (pc := 297) C dL_sets_297 rfl rfl ?_
            refine z_iload (i := 7) (pc := 298) C dL_sets_298 rfl ?_
            refine z_iconst (v := 2) (pc := 300) C dL_sets_300 (by decide) ?_
            refine z_iadd (pc := 301) C dL_sets_301 ?_
            refine z_iald (pc := 302) C 40 (4 * k9 + 2) (by decide) rfl (zx4 k9).2.2.1 (show (4 * k9 + 2) < 40 from by omega) dL_sets_302 ?_
            refine z_topi (y := nI (f0 + g0)) (show upd (upd (upd (upd (μ 40) (4 * k9) (nI i0)) (4 * k9 + 1) (nI f0)) (4 * k9 + 2) (nI (f0 + g0))) (4 * k9 + 3) (nI x0 - 1500) (4 * k9 + 2) = _ by rw [upd_n _ _ (by omega), upd_s]) ?_
            refine z_aloadn (i := 2) (pc := 303) C dL_sets_303 rfl rfl ?_
            refine z_iload (i := 7) (pc := 304) C dL_sets_304 rfl ?_
            refine z_iconst (v := 3) (pc := 306) C dL_sets_306 (by decide) ?_
            refine z_iadd (pc := 307) C dL_sets_307 ?_
            refine z_iald (pc := 308) C 40 (4 * k9 + 3) (by decide) rfl (zx4 k9).2.2.2 (show (4 * k9 + 3) < 40 from by omega) dL_sets_308 ?_
            refine z_topi (y := nI x0 - 1500) (show upd (upd (upd (upd (μ 40) (4 * k9) (nI i0)) (4 * k9 + 1) (nI f0)) (4 * k9 + 2) (nI (f0 + g0))) (4 * k9 + 3) (nI x0 - 1500) (4 * k9 + 3) = _ by rw [upd_s]) ?_
            refine z_callSWi (pc := 309) (n := 5) (As := [.ref (zob E 0), .int (nI i0), .int (nI f0), .int (nI (f0 + g0)), .int (nI x0 - 1500)]) (rest := []) C (c_L_calibrate l hfl E sa (μ := (zu (zu (zu (zu (zu μ 40 (4 * k9) (nI i0)) 40 (4 * k9 + 1) (nI f0)) 40 (4 * k9 + 2) (nI (f0 + g0))) 40 (4 * k9 + 3) ((nI x0) - 1500)) 38 7 (nI (k9 + 1)))) (ov := ov) (i := nI i0) (a := nI f0) (b := nI (f0 + g0)) (x := nI x0 - 1500) t c9 nc n H0) gL_sets_L_calibrate rfl zfV_L_calibrate.2 ⟨Nat.le_of_ble_eq_true rfl, Nat.le_of_ble_eq_true rfl⟩ rfl rfl (Nat.le_of_ble_eq_true rfl) ⟨by show _ ≤ 6; omega, by show _ ≤ 36; omega⟩ dL_sets_309 (fun r9 μ9 ov9 hp => ?_)
            have e : r9 = nI (z12 + 1) ∧ μ9 = (zu (zitr (fun j ν => zu ν (30 + i0) (f0 + j) (ν (30 + i0) (f0 + j) + (nI x0 - 1500))) (f0 + g0 + 1 - f0) (zu (zu (zu (zu (zu μ 40 (4 * k9) (nI i0)) 40 (4 * k9 + 1) (nI f0)) 40 (4 * k9 + 2) (nI (f0 + g0))) 40 (4 * k9 + 3) ((nI x0) - 1500)) 38 7 (nI (k9 + 1)))) 12 i0 (μ 12 i0 + 1)) ∧ ov9 = ov := by
              rcases hp with ⟨-, -, -, hp⟩ | ⟨hn, -⟩ | ⟨-, hn, -⟩ | ⟨-, -, hn, -⟩
              · rw [nI_clamp (by omega), nI_clamp (by omega), nI_clamp (by omega)] at hp
                exact ⟨hp.1.trans (show μ 12 i0 + 1 = nI (z12 + 1) by rw [hz2]; exact nI_1 _), hp.2⟩
              · exact absurd q1 hn
              · exact absurd q2 hn
              · rw [nI_clamp (by omega)] at hn; exact absurd q3 hn
            obtain ⟨e1, e2, e3⟩ := e
            rw [← e2] at hk
            have e3 := e3.symm
            subst e1 e3
            clear hp e2
            refine z_if_le (tgt := 319) (pc := 312) C dL_sets_312 (by decide) (fun c_c => ?_) (fun c_c => ?_)
            · exact absurd c_c (nI_nle (by omega) (by omega))
            · refine z_iconst (v := 1) (pc := 315) C dL_sets_315 (by decide) ?_
              refine z_goto (tgt := 320) (pc := 316) C dL_sets_316 (by decide) ?_
              exact z_zret (pc := 320) C hr hlk (by decide) ⟨rfl, ⟨c9, hk⟩, rfl⟩ (by omega) (by omega) dL_sets_320
    · exact absurd c_0 (by decide)
  · refine z_iload (i := 6) (pc := 8) C dL_sets_8 rfl ?_
    refine z_if_ne (tgt := 178) (pc := 10) C dL_sets_10 (by decide) (fun c_0 => ?_) (fun c_0 => ?_)
    · refine z_iload (i := 6) (pc := 178) C dL_sets_178 rfl ?_
      refine z_iconst (v := 1) (pc := 180) C dL_sets_180 (by decide) ?_
      refine z_icmp_ne (tgt := 321) (pc := 181) C dL_sets_181 (by decide) (fun c_1 => ?_) (fun c_1 => ?_)
      · refine z_iload (i := 6) (pc := 321) C dL_sets_321 rfl ?_
        refine z_iconst (v := 2) (pc := 323) C dL_sets_323 (by decide) ?_
        refine z_icmp_ne (tgt := 415) (pc := 324) C dL_sets_324 (by decide) (fun c_2 => ?_) (fun c_2 => ?_)
        · exact absurd rfl c_2
        · refine z_iload (i := 5) (pc := 327) C dL_sets_327 rfl ?_
          refine z_aloadn (i := 1) (pc := 329) C dL_sets_329 rfl rfl ?_
          refine z_iconst (v := 0) (pc := 330) C dL_sets_330 (by decide) ?_
          refine z_iald (pc := 331) C 38 0 (by decide) rfl rfl (show 0 < 9 from by omega) dL_sets_331 ?_
          obtain ⟨i0, hi0, ei0⟩ := zlow_k y (k := nc) (by omega) (by omega)
          refine z_callSi (pc := 332) (n := 2) (As := [.int (y), .int (μ 38 0)]) (rest := []) C (c_L_low l E sa (μ := μ) (ov := ov) (v := y) (n := μ 38 0) nc G0 (by omega) (by omega)) gL_sets_L_low rfl zfV_L_low.2 ⟨Nat.le_of_ble_eq_true rfl, Nat.le_of_ble_eq_true rfl⟩ rfl rfl (Nat.le_of_ble_eq_true rfl) ⟨by show _ ≤ 6; omega, by show _ ≤ 36; omega⟩ dL_sets_332 (fun r9 μ9 ov9 hp => ?_)
          have e1 := hp.1.symm
          have e2 := hp.2.1.symm
          have e3 := hp.2.2.symm
          clear hp
          subst e1 e2 e3
          refine z_topi (y := nI i0) (by rw [G0]; exact ei0) ?_
          refine z_istore7 (pc := 335) C (by decide) (fun w hw => by cases hw; exact (show ¬ (1 = 2) from by decide)) dL_sets_335 ?_
          obtain ⟨w9, hw9, ew9⟩ := W1 i0
          have q1 : (0 : Int32) ≤ nI i0 ∧ nI i0 < μ 63 4 := by rw [X4]; exact ⟨nI_pos' (by omega), nI_lt hi0 (by omega)⟩
          refine z_aloadn (i := 0) (pc := 337) C dL_sets_337 rfl rfl ?_
          refine z_iload (i := 7) (pc := 338) C dL_sets_338 rfl ?_
          refine z_iload (i := 5) (pc := 340) C dL_sets_340 rfl ?_
          refine z_iconst (v := 3) (pc := 342) C dL_sets_342 (by decide) ?_
          refine z_ishr (pc := 343) C dL_sets_343 ?_
          refine z_bipush (v := 41) (pc := 344) C dL_sets_344 (by decide) ?_
          obtain ⟨d0, hd0, ed0⟩ := zlow_k (y >>> (3 &&& 31)) (k := 41) (by omega) (by omega)
          refine z_callSi (pc := 346) (n := 2) (As := [.int (y >>> (3 &&& 31)), .int (41)]) (rest := [.int (nI i0), .ref (zob E 0)]) C (c_L_low l E sa (μ := μ) (ov := ov) (v := y >>> (3 &&& 31)) (n := 41) 41 rfl (by omega) (by omega)) gL_sets_L_low rfl zfV_L_low.2 ⟨Nat.le_of_ble_eq_true rfl, Nat.le_of_ble_eq_true rfl⟩ rfl rfl (Nat.le_of_ble_eq_true rfl) ⟨by show _ ≤ 6; omega, by show _ ≤ 36; omega⟩ dL_sets_346 (fun r9 μ9 ov9 hp => ?_)
          have e1 := hp.1.symm
          have e2 := hp.2.1.symm
          have e3 := hp.2.2.symm
          clear hp
          subst e1 e2 e3
          refine z_topi (y := nI d0) ed0 ?_
          refine z_bipush (v := 20) (pc := 349) C dL_sets_349 (by decide) ?_
          refine z_isub (pc := 351) C dL_sets_351 ?_
          refine z_iload (i := 5) (pc := 352) C dL_sets_352 rfl ?_
          refine z_bipush (v := 9) (pc := 354) C dL_sets_354 (by decide) ?_
          refine z_ishr (pc := 356) C dL_sets_356 ?_
          refine z_bipush (v := 101) (pc := 357) C dL_sets_357 (by decide) ?_
          obtain ⟨a0, ha0, ea0⟩ := zlow_k (y >>> (9 &&& 31)) (k := 101) (by omega) (by omega)
          refine z_callSi (pc := 359) (n := 2) (As := [.int (y >>> (9 &&& 31)), .int (101)]) (rest := [.int ((nI d0) - 20), .int (nI i0), .ref (zob E 0)]) C (c_L_low l E sa (μ := μ) (ov := ov) (v := y >>> (9 &&& 31)) (n := 101) 101 rfl (by omega) (by omega)) gL_sets_L_low rfl zfV_L_low.2 ⟨Nat.le_of_ble_eq_true rfl, Nat.le_of_ble_eq_true rfl⟩ rfl rfl (Nat.le_of_ble_eq_true rfl) ⟨by show _ ≤ 6; omega, by show _ ≤ 36; omega⟩ dL_sets_359 (fun r9 μ9 ov9 hp => ?_)
          have e1 := hp.1.symm
          have e2 := hp.2.1.symm
          have e3 := hp.2.2.symm
          clear hp
          subst e1 e2 e3
          refine z_topi (y := nI a0) ea0 ?_
          have hd : zbn (nI d0 - nI 20) 20 := zbs (by omega) (by decide) (by decide)
          have q2 : ((-20 : Int32) ≤ nI d0 - 20 ∧ nI d0 - 20 ≤ 20) ∧ (0 : Int32) ≤ nI a0 ∧ nI a0 ≤ 100 := by
            unfold zbn at hd
            refine ⟨⟨?_, ?_⟩, nI_pos' (by omega), nI_le (b := 100) (by omega) (by decide)⟩
            · rw [zle2, show (nI d0 - 20 : Int32) = nI d0 - nI 20 from rfl, show (-20 : Int32).toInt = -20 from by decide]; omega
            · rw [zle2, show (nI d0 - 20 : Int32) = nI d0 - nI 20 from rfl, show (20 : Int32).toInt = 20 from rfl]; omega
          refine z_callSWi (pc := 362) (n := 4) (As := [.ref (zob E 0), .int (nI i0), .int ((nI d0) - 20), .int (nI a0)]) (rest := []) C (c_L_tell l hfl E sa (μ := μ) (ov := ov) (i := nI i0) (d := nI d0 - 20) (w := nI a0) t c9 nc n H) gL_sets_L_tell rfl zfV_L_tell.2 ⟨Nat.le_of_ble_eq_true rfl, Nat.le_of_ble_eq_true rfl⟩ rfl rfl (Nat.le_of_ble_eq_true rfl) ⟨by show _ ≤ 6; omega, by show _ ≤ 36; omega⟩ dL_sets_362 (fun r9 μ9 ov9 hp => ?_)
          have e : r9 = μ 4 i0 ∧ μ9 = (zu (zu μ 3 i0 (nI d0 - 20)) 4 i0 (nI a0)) ∧ ov9 = ov := by
            rcases hp with ⟨-, -, hp⟩ | ⟨hn, -⟩ | ⟨-, hn, -⟩
            · rw [nI_clamp (by omega)] at hp
              exact hp
            · exact absurd q1 hn
            · exact absurd q2 hn
          obtain ⟨e1, e2, e3⟩ := e
          have e2 := e2.symm
          have e3 := e3.symm
          subst e1 e2 e3
          clear hp
          have hk : zLI (zu (zu μ 3 i0 (nI d0 - 20)) 4 i0 (nI a0)) t c9 nc n A := h.tell hd rfl (by omega)
          have qa : (zu (zu μ 3 i0 (nI d0 - 20)) 4 i0 (nI a0)) 4 i0 = nI a0 := upd_s _ _ _
          have q1 : (0 : Int32) ≤ nI i0 ∧ nI i0 < (zu (zu μ 3 i0 (nI d0 - 20)) 4 i0 (nI a0)) 63 4 := q1
          obtain ⟨κ, eκ⟩ : ∃ κ, (zu (zu μ 3 i0 (nI d0 - 20)) 4 i0 (nI a0)) = κ := ⟨_, rfl⟩
          rw [eκ] at hk qa q1
          refine z_mem (μ' := κ) eκ ?_
          refine z_istore8 (pc := 365) C (by decide) (fun w hw => by cases hw; exact (show ¬ (1 = 2) from by decide)) dL_sets_365 ?_
          refine z_iload (i := 8) (pc := 367) C dL_sets_367 rfl ?_
          refine z_if_lt (tgt := 413) (pc := 369) C dL_sets_369 (by decide) (fun c_a => ?_) (fun c_a => ?_)
          · exact absurd c_a (by rw [ew9]; exact nI_pos (by omega))
          · refine z_iload (i := 8) (pc := 372) C dL_sets_372 rfl ?_
            refine z_bipush (v := 100) (pc := 374) C dL_sets_374 (by decide) ?_
            refine z_icmp_gt (tgt := 413) (pc := 376) C dL_sets_376 (by decide) (fun c_b => ?_) (fun c_b => ?_)
            · exact absurd c_b (by rw [ew9, zlt, nI_toInt (by omega), show (100 : Int32).toInt = 100 from rfl]; omega)
            · refine z_aloadn (i := 0) (pc := 379) C dL_sets_379 rfl rfl ?_
              refine z_iload (i := 7) (pc := 380) C dL_sets_380 rfl ?_
              refine z_iconst (v := 0) (pc := 382) C dL_sets_382 (by decide) ?_
              refine z_iload (i := 5) (pc := 383) C dL_sets_383 rfl ?_
              refine z_bipush (v := 9) (pc := 385) C dL_sets_385 (by decide) ?_
              refine z_ishr (pc := 387) C dL_sets_387 ?_
              refine z_bipush (v := 101) (pc := 388) C dL_sets_388 (by decide) ?_
              refine z_callSi (pc := 390) (n := 2) (As := [.int (y >>> (9 &&& 31)), .int (101)]) (rest := [.int (0), .int (nI i0), .ref (zob E 0)]) C (c_L_low l E sa (μ := κ) (ov := ov) (v := y >>> (9 &&& 31)) (n := 101) 101 rfl (by omega) (by omega)) gL_sets_L_low rfl zfV_L_low.2 ⟨Nat.le_of_ble_eq_true rfl, Nat.le_of_ble_eq_true rfl⟩ rfl rfl (Nat.le_of_ble_eq_true rfl) ⟨by show _ ≤ 6; omega, by show _ ≤ 36; omega⟩ dL_sets_390 (fun r9 μ9 ov9 hp => ?_)
              have e1 := hp.1.symm
              have e2 := hp.2.1.symm
              have e3 := hp.2.2.symm
              clear hp
              subst e1 e2 e3
              refine z_topi (y := nI a0) ea0 ?_
              refine z_callSWi (pc := 393) (n := 4) (As := [.ref (zob E 0), .int (nI i0), .int (0), .int (nI a0)]) (rest := []) C (c_L_tell l hfl E sa (μ := κ) (ov := ov) (i := nI i0) (d := 0) (w := nI a0) t c9 nc n hk.1) gL_sets_L_tell rfl zfV_L_tell.2 ⟨Nat.le_of_ble_eq_true rfl, Nat.le_of_ble_eq_true rfl⟩ rfl rfl (Nat.le_of_ble_eq_true rfl) ⟨by show _ ≤ 6; omega, by show _ ≤ 36; omega⟩ dL_sets_393 (fun r9 μ9 ov9 hp => ?_)
              have e : r9 = nI a0 ∧ μ9 = (zu (zu κ 3 i0 0) 4 i0 (nI a0)) ∧ ov9 = ov := by
                rcases hp with ⟨-, -, hp⟩ | ⟨hn, -⟩ | ⟨-, hn, -⟩
                · rw [nI_clamp (by omega)] at hp
                  rw [qa] at hp
                  exact hp
                · exact absurd q1 hn
                · exact absurd ⟨by decide, q2.2⟩ hn
              obtain ⟨e1, e2, e3⟩ := e
              have e2 := e2.symm
              have e3 := e3.symm
              subst e1 e2 e3
              clear hp
              have hk2 : zLI (zu (zu κ 3 i0 0) 4 i0 (nI a0)) t c9 nc n A := hk.tell (zbn_0.le (by decide)) rfl (show a0 ≤ 100 by omega)
              obtain ⟨ρ, eρ⟩ : ∃ ρ, (zu (zu κ 3 i0 0) 4 i0 (nI a0)) = ρ := ⟨_, rfl⟩
              rw [eρ] at hk2
              refine z_mem (μ' := ρ) eρ ?_
              refine z_iload (i := 5) (pc := 396) C dL_sets_396 rfl ?_
              refine z_bipush (v := 9) (pc := 398) C dL_sets_398 (by decide) ?_
              refine z_ishr (pc := 400) C dL_sets_400 ?_
              refine z_bipush (v := 101) (pc := 401) C dL_sets_401 (by decide) ?_
              refine z_callSi (pc := 403) (n := 2) (As := [.int (y >>> (9 &&& 31)), .int (101)]) (rest := [.int (nI a0)]) C (c_L_low l E sa (μ := ρ) (ov := ov) (v := y >>> (9 &&& 31)) (n := 101) 101 rfl (by omega) (by omega)) gL_sets_L_low rfl zfV_L_low.2 ⟨Nat.le_of_ble_eq_true rfl, Nat.le_of_ble_eq_true rfl⟩ rfl rfl (Nat.le_of_ble_eq_true rfl) ⟨by show _ ≤ 6; omega, by show _ ≤ 36; omega⟩ dL_sets_403 (fun r9 μ9 ov9 hp => ?_)
              have e1 := hp.1.symm
              have e2 := hp.2.1.symm
              have e3 := hp.2.2.symm
              clear hp
              subst e1 e2 e3
              refine z_topi (y := nI a0) ea0 ?_
              refine z_icmp_ne (tgt := 413) (pc := 406) C dL_sets_406 (by decide) (fun c_c => ?_) (fun c_c => ?_)
              · exact absurd rfl c_c
              · refine z_iconst (v := 1) (pc := 409) C dL_sets_409 (by decide) ?_
                refine z_goto (tgt := 414) (pc := 410) C dL_sets_410 (by decide) ?_
                exact z_zret (pc := 414) C hr hlk (by decide) ⟨rfl, ⟨c9, hk2.more hA⟩, rfl⟩ (by omega) (by omega) dL_sets_414
      · exact absurd c_1 (by decide)
    · exact absurd c_0 (by decide)
  · refine z_iload (i := 6) (pc := 8) C dL_sets_8 rfl ?_
    refine z_if_ne (tgt := 178) (pc := 10) C dL_sets_10 (by decide) (fun c_0 => ?_) (fun c_0 => ?_)
    · refine z_iload (i := 6) (pc := 178) C dL_sets_178 rfl ?_
      refine z_iconst (v := 1) (pc := 180) C dL_sets_180 (by decide) ?_
      refine z_icmp_ne (tgt := 321) (pc := 181) C dL_sets_181 (by decide) (fun c_1 => ?_) (fun c_1 => ?_)
      · refine z_iload (i := 6) (pc := 321) C dL_sets_321 rfl ?_
        refine z_iconst (v := 2) (pc := 323) C dL_sets_323 (by decide) ?_
        refine z_icmp_ne (tgt := 415) (pc := 324) C dL_sets_324 (by decide) (fun c_2 => ?_) (fun c_2 => ?_)
        · refine z_iload (i := 6) (pc := 415) C dL_sets_415 rfl ?_
          refine z_iconst (v := 3) (pc := 417) C dL_sets_417 (by decide) ?_
          refine z_icmp_ne (tgt := 496) (pc := 418) C dL_sets_418 (by decide) (fun c_3 => ?_) (fun c_3 => ?_)
          · exact absurd rfl c_3
          · refine z_iload (i := 5) (pc := 421) C dL_sets_421 rfl ?_
            refine z_bipush (v := 7) (pc := 423) C dL_sets_423 (by decide) ?_
            obtain ⟨i0, hi0, ei0⟩ := zlow_k y (k := 7) (by omega) (by omega)
            refine z_callSi (pc := 425) (n := 2) (As := [.int (y), .int (7)]) (rest := []) C (c_L_low l E sa (μ := μ) (ov := ov) (v := y) (n := 7) 7 rfl (by omega) (by omega)) gL_sets_L_low rfl zfV_L_low.2 ⟨Nat.le_of_ble_eq_true rfl, Nat.le_of_ble_eq_true rfl⟩ rfl rfl (Nat.le_of_ble_eq_true rfl) ⟨by show _ ≤ 6; omega, by show _ ≤ 36; omega⟩ dL_sets_425 (fun r9 μ9 ov9 hp => ?_)
            have e1 := hp.1.symm
            have e2 := hp.2.1.symm
            have e3 := hp.2.2.symm
            clear hp
            subst e1 e2 e3
            refine z_topi (y := nI i0) ei0 ?_
            refine z_istore7 (pc := 428) C (by decide) (fun w hw => by cases hw; exact (show ¬ (1 = 2) from by decide)) dL_sets_428 ?_
            have J : ∀ b : Int32, (b = 0 ∨ b = 1) → zW p l e (zR 8 183 6 36) s m [Value.ref (zob E 0), Value.ref (zad E 38), Value.ref (zad E 40), Value.ref (zad E 41), Value.int x, Value.int y].toArray below meth c E 12 0 0 (MQ below (zQi E s.heap.size (fun r μ1 ov1 => r = 1 ∧ (∃ c1, zLI μ1 t c1 nc n (A + 1)) ∧ ov1 = ov)) [Value.ref (zob E 0), Value.ref (zad E 38), Value.ref (zad E 40), Value.ref (zad E 41), Value.int x, Value.int y].toArray s 6 36 (zA E s.heap.size)) 446 [some (.ref (zob E 0)), some (.ref (zad E 38)), some (.ref (zad E 40)), some (.ref (zad E 41)), some (.int (x)), some (.int (y)), some (.int (nI 3)), some (.int (nI i0)), none, none, none, none] [.int (b)] μ ov := by
              intro b hb
              refine z_istore8 (pc := 446) C (by decide) (fun w hw => by cases hw; exact (show ¬ (1 = 2) from by decide)) dL_sets_446 ?_
              refine z_aloadn (i := 1) (pc := 448) C dL_sets_448 rfl rfl ?_
              refine z_iconst (v := 4) (pc := 449) C dL_sets_449 (by decide) ?_
              refine z_dup2 (pc := 450) C dL_sets_450 rfl rfl ?_
              refine z_iald (pc := 451) C 38 4 (by decide) rfl rfl (show 4 < 9 from by omega) dL_sets_451 ?_
              refine z_iload (i := 8) (pc := 452) C dL_sets_452 rfl ?_
              refine z_aloadn (i := 3) (pc := 454) C dL_sets_454 rfl rfl ?_
              refine z_iload (i := 7) (pc := 455) C dL_sets_455 rfl ?_
              refine z_iald (pc := 457) C 41 i0 (by decide) rfl rfl (show i0 < 7 from by omega) dL_sets_457 ?_
              refine z_isub (pc := 458) C dL_sets_458 ?_
              refine z_iadd (pc := 459) C dL_sets_459 ?_
              refine z_iast (pc := 460) C 38 4 (by decide) rfl rfl (show 4 < 9 from by omega) dL_sets_460 ?_
              refine z_aloadn (i := 3) (pc := 461) C dL_sets_461 rfl rfl ?_
              refine z_iload (i := 7) (pc := 462) C dL_sets_462 rfl ?_
              refine z_iload (i := 8) (pc := 464) C dL_sets_464 rfl ?_
              refine z_iast (pc := 466) C 41 i0 (by decide) rfl rfl (show i0 < 7 from by omega) dL_sets_466 ?_
              obtain ⟨hk, ey⟩ := h.vote (y := μ 38 4 + (b - μ 41 i0)) hA hi0 hb rfl
              have H0 : zCI (zu (zu μ 38 4 ((μ 38 4) + (b - (μ 41 i0)))) 41 i0 (b)) t c9 nc n := H.c2 rfl rfl rfl rfl rfl rfl rfl rfl
              have hzz : zhou (zu (zu (zu μ 38 4 ((μ 38 4) + (b - (μ 41 i0)))) 41 i0 (b)) 1 i0 b) = zhou (zu μ 1 i0 b) := zhou_cg rfl
              have q38 : (zu (zu μ 38 4 ((μ 38 4) + (b - (μ 41 i0)))) 41 i0 (b)) 38 4 = nI (zcnt (zhou (zu μ 1 i0 b)) 7) := ey
              obtain ⟨κ, eκ⟩ : ∃ κ, (zu (zu μ 38 4 ((μ 38 4) + (b - (μ 41 i0)))) 41 i0 (b)) = κ := ⟨_, rfl⟩
              rw [eκ] at hk H0 hzz q38
              refine z_mem (μ' := κ) eκ ?_
              have J2 : zW p l e (zR 8 183 6 36) s m [Value.ref (zob E 0), Value.ref (zad E 38), Value.ref (zad E 40), Value.ref (zad E 41), Value.int x, Value.int y].toArray below meth c E 12 0 0 (MQ below (zQi E s.heap.size (fun r μ1 ov1 => r = 1 ∧ (∃ c1, zLI μ1 t c1 nc n (A + 1)) ∧ ov1 = ov)) [Value.ref (zob E 0), Value.ref (zad E 38), Value.ref (zad E 40), Value.ref (zad E 41), Value.int x, Value.int y].toArray s 6 36 (zA E s.heap.size)) 481 [some (.ref (zob E 0)), some (.ref (zad E 38)), some (.ref (zad E 40)), some (.ref (zad E 41)), some (.int (x)), some (.int (y)), some (.int (nI 3)), some (.int (nI i0)), some (.int (b)), none, none, none] [.int (b), .int (nI i0), .ref (zob E 0)] κ ov := by
                refine z_callSWi (pc := 481) (n := 3) (As := [.ref (zob E 0), .int (nI i0), .int (b)]) (rest := []) C (c_L_vote l hfl E sa (μ := κ) (ov := ov) (i := nI i0) (b := b) hb t c9 nc n H0) gL_sets_L_vote rfl zfV_L_vote.2 ⟨Nat.le_of_ble_eq_true rfl, Nat.le_of_ble_eq_true rfl⟩ rfl rfl (Nat.le_of_ble_eq_true rfl) ⟨by show _ ≤ 6; omega, by show _ ≤ 36; omega⟩ dL_sets_481 (fun r9 μ9 ov9 hp => ?_)
                have e : r9 = nI (zcnt (zhou (zu μ 1 i0 b)) 7) ∧ μ9 = (zu κ 1 i0 b) ∧ ov9 = ov := by
                  rcases hp with ⟨-, hp⟩ | ⟨hn, -⟩
                  · rw [nI_clamp (by omega), hzz] at hp
                    exact hp
                  · exact absurd ⟨nI_pos' (by omega), nI_le (b := 6) (by omega) (by decide)⟩ hn
                obtain ⟨e1, e2, e3⟩ := e
                have e2 := e2.symm
                have e3 := e3.symm
                subst e1 e2 e3
                clear hp
                refine z_aloadn (i := 1) (pc := 484) C dL_sets_484 rfl rfl ?_
                refine z_iconst (v := 4) (pc := 485) C dL_sets_485 (by decide) ?_
                refine z_iald (pc := 486) C 38 4 (by decide) rfl rfl (show 4 < 9 from by omega) dL_sets_486 ?_
                refine z_icmp_ne (tgt := 494) (pc := 487) C dL_sets_487 (by decide) (fun c_d => ?_) (fun c_d => ?_)
                · exact absurd q38.symm c_d
                · refine z_iconst (v := 1) (pc := 490) C dL_sets_490 (by decide) ?_
                  refine z_goto (tgt := 495) (pc := 491) C dL_sets_491 (by decide) ?_
                  exact z_zret (pc := 495) C hr hlk (by decide) ⟨rfl, ⟨c9, hk⟩, rfl⟩ (by omega) (by omega) dL_sets_495
              refine z_aloadn (i := 0) (pc := 467) C dL_sets_467 rfl rfl ?_
              refine z_iload (i := 7) (pc := 468) C dL_sets_468 rfl ?_
              refine z_iload (i := 8) (pc := 470) C dL_sets_470 rfl ?_
              refine z_iconst (v := 1) (pc := 472) C dL_sets_472 (by decide) ?_
              refine z_icmp_ne (tgt := 480) (pc := 473) C dL_sets_473 (by decide) (fun c_s => ?_) (fun c_s => ?_)
              · refine z_iconst (v := 0) (pc := 480) C dL_sets_480 (by decide) ?_
                exact z_topi (y := b) (hb.resolve_right c_s).symm J2
              · refine z_iconst (v := 1) (pc := 476) C dL_sets_476 (by decide) ?_
                refine z_goto (tgt := 481) (pc := 477) C dL_sets_477 (by decide) ?_
                exact z_topi (y := b) c_s.symm J2
            refine z_iload (i := 5) (pc := 430) C dL_sets_430 rfl ?_
            refine z_iconst (v := 3) (pc := 432) C dL_sets_432 (by decide) ?_
            refine z_ishr (pc := 433) C dL_sets_433 ?_
            refine z_iconst (v := 3) (pc := 434) C dL_sets_434 (by decide) ?_
            obtain ⟨s0, hs0, es0⟩ := zlow_k (y >>> (3 &&& 31)) (k := 3) (by omega) (by omega)
            refine z_callSi (pc := 435) (n := 2) (As := [.int (y >>> (3 &&& 31)), .int (3)]) (rest := []) C (c_L_low l E sa (μ := μ) (ov := ov) (v := y >>> (3 &&& 31)) (n := 3) 3 rfl (by omega) (by omega)) gL_sets_L_low rfl zfV_L_low.2 ⟨Nat.le_of_ble_eq_true rfl, Nat.le_of_ble_eq_true rfl⟩ rfl rfl (Nat.le_of_ble_eq_true rfl) ⟨by show _ ≤ 6; omega, by show _ ≤ 36; omega⟩ dL_sets_435 (fun r9 μ9 ov9 hp => ?_)
            have e1 := hp.1.symm
            have e2 := hp.2.1.symm
            have e3 := hp.2.2.symm
            clear hp
            subst e1 e2 e3
            refine z_topi (y := nI s0) es0 ?_
            refine z_if_le (tgt := 445) (pc := 438) C dL_sets_438 (by decide) (fun c_t => ?_) (fun c_t => ?_)
            · refine z_iconst (v := 0) (pc := 445) C dL_sets_445 (by decide) ?_
              exact J _ (Or.inl rfl)
            · refine z_iconst (v := 1) (pc := 441) C dL_sets_441 (by decide) ?_
              refine z_goto (tgt := 446) (pc := 442) C dL_sets_442 (by decide) ?_
              exact J _ (Or.inr rfl)
        · exact absurd c_2 (by decide)
      · exact absurd c_1 (by decide)
    · exact absurd c_0 (by decide)
  · refine z_iload (i := 6) (pc := 8) C dL_sets_8 rfl ?_
    refine z_if_ne (tgt := 178) (pc := 10) C dL_sets_10 (by decide) (fun c_0 => ?_) (fun c_0 => ?_)
    · refine z_iload (i := 6) (pc := 178) C dL_sets_178 rfl ?_
      refine z_iconst (v := 1) (pc := 180) C dL_sets_180 (by decide) ?_
      refine z_icmp_ne (tgt := 321) (pc := 181) C dL_sets_181 (by decide) (fun c_1 => ?_) (fun c_1 => ?_)
      · refine z_iload (i := 6) (pc := 321) C dL_sets_321 rfl ?_
        refine z_iconst (v := 2) (pc := 323) C dL_sets_323 (by decide) ?_
        refine z_icmp_ne (tgt := 415) (pc := 324) C dL_sets_324 (by decide) (fun c_2 => ?_) (fun c_2 => ?_)
        · refine z_iload (i := 6) (pc := 415) C dL_sets_415 rfl ?_
          refine z_iconst (v := 3) (pc := 417) C dL_sets_417 (by decide) ?_
          refine z_icmp_ne (tgt := 496) (pc := 418) C dL_sets_418 (by decide) (fun c_3 => ?_) (fun c_3 => ?_)
          · exact AD _
          · exact absurd c_3 (by decide)
        · exact absurd c_2 (by decide)
      · exact absurd c_1 (by decide)
    · exact absurd c_0 (by decide)
