set_option maxHeartbeats 4000000 in
set_option maxRecDepth 100000 in
theorem c_X5_laysOut (l : Launch) (E : zE) (sa : Nat → Nat) {μ : zM} {ov : Nat → Int64} {d : Int32} (p9 q n : Nat) (hp9 : p9 < 6561) (hd : d = nI q) (hcl : μ 63 13 = nI n) (hnl : n ≤ 8) : zMi l E sa yX5_laysOut wsX5_laysOut 3 65 0 0 [.ref (zob E 7), .int (nI p9), .int d] μ ov (fun r μ1 ov1 => r = nI (zcsM μ q p9 n) ∧ μ1 = zly n p9 μ ∧ ov1 = ov) := by
  refine z_ofMi (cc := cX5_laysOut) (nL := 6) (ret := (some .int)) (own := RX5) zfp_X5_laysOut rfl (by simp [Value.category]) (Nat.le_of_ble_eq_true rfl) rfl ?_
  intro p e s m below meth c C hr hlk
  have iX5 : ∀ w ∈ wsX50, w ∈ wsX5_laysOut := by decide +kernel
  have f74 := C.1.2.2.2.2 (.fieldLink RX5 74 "TickFallModel" "cycles" "[I") (by decide +kernel)
  have f103 := C.1.2.2.2.2 (.fieldLink RX5 103 "TickFallModel" "links" "I") (by decide +kernel)
  show zW p l e (zR 3 65 0 0) s m [Value.ref (zob E 7), Value.int (nI p9), Value.int d].toArray below meth c E 6 0 0 (MQ below (zQi E s.heap.size (fun r μ1 ov1 => r = nI (zcsM μ q p9 n) ∧ μ1 = zly n p9 μ ∧ ov1 = ov)) [Value.ref (zob E 7), Value.int (nI p9), Value.int d].toArray s 0 0 (zA E s.heap.size)) 0 [some (.ref (zob E 7)), some (.int (nI p9)), some (.int (d)), none, none, none] [] μ ov
  refine z_iloadn (i := 1) (pc := 0) C dX5_laysOut_0 rfl rfl ?_
  refine z_istore3 (pc := 1) C (by decide) (fun w hw => by cases hw; exact (show ¬ (1 = 2) from by decide)) dX5_laysOut_1 ?_
  refine z_iconst (v := 0) (pc := 2) C dX5_laysOut_2 (by decide) ?_
  refine z_istore4 (pc := 3) C (by decide) (fun w hw => by cases hw; exact (show ¬ (1 = 2) from by decide)) dX5_laysOut_3 ?_
  refine z_iconst (v := 0) (pc := 5) C dX5_laysOut_5 (by decide) ?_
  refine z_istore5 (pc := 6) C (by decide) (fun w hw => by cases hw; exact (show ¬ (1 = 2) from by decide)) dX5_laysOut_6 ?_
  have h0 : nI p9 = nI (p9 / 3 ^ 0) := by rw [Nat.pow_zero, Nat.div_one]
  have loop : ∀ (f i : Nat), i + f = n → zW p l e (zR 3 65 0 0) s m [Value.ref (zob E 7), Value.int (nI p9), Value.int d].toArray below meth c E 6 0 0 (MQ below (zQi E s.heap.size (fun r μ1 ov1 => r = nI (zcsM μ q p9 n) ∧ μ1 = zly n p9 μ ∧ ov1 = ov)) [Value.ref (zob E 7), Value.int (nI p9), Value.int d].toArray s 0 0 (zA E s.heap.size)) 8 [some (.ref (zob E 7)), some (.int (nI p9)), some (.int (d)), some (.int (nI (p9 / 3 ^ i))), some (.int (nI (zcsM μ q p9 i))), some (.int (nI i))] [] (zly i p9 μ) ov := by
    intro f
    induction f with
    | zero =>
      intro i hi
      obtain rfl : i = n := by omega
      refine z_iload (i := 5) (pc := 8) C dX5_laysOut_8 rfl ?_
      refine z_aloadn (i := 0) (pc := 10) C dX5_laysOut_10 rfl rfl ?_
      refine zg_X5_links (pc := 11) C dX5_laysOut_11 iX5 f103 ?_
      refine z_topi (y := nI i) (by rw [zly_k _ _ _ (by decide)]; exact hcl) ?_
      refine z_icmp_ge (tgt := 74) (pc := 14) C dX5_laysOut_14 (by decide) (fun c_l => ?_) (fun c_l => ?_)
      · refine z_iload (i := 4) (pc := 74) C dX5_laysOut_74 rfl ?_
        exact z_iret (pc := 76) C hr hlk ⟨rfl, rfl, rfl⟩ (Nat.zero_le _) (Nat.zero_le _) dX5_laysOut_76
      · exact absurd (nI_le (a := i) (b := i) (Nat.le_refl _) (by omega)) c_l
    | succ f ih =>
      intro i hi
      have hlt : p9 / 3 ^ i < 2 ^ 31 := Nat.lt_of_le_of_lt (Nat.div_le_self _ _) (by omega)
      have go : ∀ v : Int32, v = nI (if zdig p9 i = 1 then 0 else if zmeaM μ (nI i) (nI q) then 1 else 9) → zW p l e (zR 3 65 0 0) s m [Value.ref (zob E 7), Value.int (nI p9), Value.int d].toArray below meth c E 6 0 0 (MQ below (zQi E s.heap.size (fun r μ1 ov1 => r = nI (zcsM μ q p9 n) ∧ μ1 = zly n p9 μ ∧ ov1 = ov)) [Value.ref (zob E 7), Value.int (nI p9), Value.int d].toArray s 0 0 (zA E s.heap.size)) 61 [some (.ref (zob E 7)), some (.int (nI p9)), some (.int (d)), some (.int (nI (p9 / 3 ^ i))), some (.int (nI (zcsM μ q p9 i))), some (.int (nI i))] [.int (v), .int (nI (zcsM μ q p9 i))] (zly (i + 1) p9 μ) ov := by
        intro v hv
        refine z_iadd (pc := 61) C dX5_laysOut_61 ?_
        refine z_topi (y := nI (zcsM μ q p9 (i + 1))) (by rw [hv, nI_add]; rfl) ?_
        refine z_istore4 (pc := 62) C (by decide) (fun w hw => by cases hw; exact (show ¬ (1 = 2) from by decide)) dX5_laysOut_62 ?_
        refine z_iloadn (i := 3) (pc := 64) C dX5_laysOut_64 rfl rfl ?_
        refine z_iconst (v := 3) (pc := 65) C dX5_laysOut_65 (by decide) ?_
        refine z_idiv (pc := 66) C dX5_laysOut_66 (by decide) ?_
        refine z_topi (y := nI (p9 / 3 ^ (i + 1))) (by rw [zdiv3 hlt, Nat.div_div_eq_div_mul, ← Nat.pow_succ]) ?_
        refine z_istore3 (pc := 67) C (by decide) (fun w hw => by cases hw; exact (show ¬ (1 = 2) from by decide)) dX5_laysOut_67 ?_
        refine z_iinc5 (v := 1) (pc := 68) C (by decide) (by decide) (fun w hw => by cases hw; exact (show ¬ (1 = 2) from by decide)) dX5_laysOut_68 ?_
        rw [nI_1]
        refine z_goto (tgt := 8) (pc := 71) C dX5_laysOut_71 (by decide) ?_
        exact ih (i + 1) (by omega)
      refine z_iload (i := 5) (pc := 8) C dX5_laysOut_8 rfl ?_
      refine z_aloadn (i := 0) (pc := 10) C dX5_laysOut_10 rfl rfl ?_
      refine zg_X5_links (pc := 11) C dX5_laysOut_11 iX5 f103 ?_
      refine z_icmp_ge (tgt := 74) (pc := 14) C dX5_laysOut_14 (by decide) (fun c_l => ?_) (fun c_l => ?_)
      · exact absurd c_l (by rw [zly_k _ _ _ (by decide), hcl]; exact nI_ge (by omega) (by omega))
      · refine z_aloadn (i := 0) (pc := 17) C dX5_laysOut_17 rfl rfl ?_
        refine zg_X5_cycles (pc := 18) C dX5_laysOut_18 iX5 f74 ?_
        refine z_iload (i := 5) (pc := 21) C dX5_laysOut_21 rfl ?_
        refine z_iloadn (i := 3) (pc := 23) C dX5_laysOut_23 rfl rfl ?_
        refine z_iconst (v := 3) (pc := 24) C dX5_laysOut_24 (by decide) ?_
        refine z_irem (pc := 25) C dX5_laysOut_25 (by decide) ?_
        refine z_topi (y := nI (zdig p9 i)) (zrem3 hlt) ?_
        refine z_iconst (v := 1) (pc := 26) C dX5_laysOut_26 (by decide) ?_
        refine z_isub (pc := 27) C dX5_laysOut_27 ?_
        refine z_iast (pc := 28) C 59 i (by decide) rfl rfl (show i < 8 by omega) dX5_laysOut_28 ?_
        refine z_mem (μ' := (zly (i + 1) p9 μ)) rfl ?_
        refine z_iload (i := 4) (pc := 29) C dX5_laysOut_29 rfl ?_
        refine z_aloadn (i := 0) (pc := 31) C dX5_laysOut_31 rfl rfl ?_
        refine zg_X5_cycles (pc := 32) C dX5_laysOut_32 iX5 f74 ?_
        refine z_iload (i := 5) (pc := 35) C dX5_laysOut_35 rfl ?_
        refine z_iald (pc := 37) C 59 i (by decide) rfl rfl (show i < 8 by omega) dX5_laysOut_37 ?_
        refine z_topi (y := nI (zdig p9 i) - 1) (by rw [zly_59, if_pos (by omega)]) ?_
        refine z_if_ne (tgt := 45) (pc := 38) C dX5_laysOut_38 (by decide) (fun c_1 => ?_) (fun c_1 => ?_)
        · rw [zdig_1 _ (zdig_lt p9 i)] at c_1
          refine z_aloadn (i := 0) (pc := 45) C dX5_laysOut_45 rfl rfl ?_
          refine z_iload (i := 5) (pc := 46) C dX5_laysOut_46 rfl ?_
          refine z_iloadn (i := 2) (pc := 48) C dX5_laysOut_48 rfl rfl ?_
          refine z_callVi (pc := 49) (n := 2) (As := [.int (nI i), .int (d)]) (rest := [.int (nI (zcsM μ q p9 i))]) C (c_X5_hasMeasured l E sa (μ := (zly (i + 1) p9 μ)) (ov := ov) (nI i) d n (by rw [zly_k _ _ _ (by decide)]; exact hcl) hnl) gX5_laysOut_X5_hasMeasured rfl zfV_X5_hasMeasured ⟨Nat.le_of_ble_eq_true rfl, Nat.le_of_ble_eq_true rfl⟩ rfl (zRec_X5 E) rfl (Nat.le_of_ble_eq_true rfl) ⟨Nat.zero_le _, Nat.zero_le _⟩ dX5_laysOut_49 (fun r9 μ9 ov9 hp => ?_)
          have e1 := hp.1.symm
          have e2 := hp.2.1.symm
          have e3 := hp.2.2.symm
          clear hp
          subst e1 e2 e3
          refine z_topi (y := zb (zmeaM μ (nI i) (nI q))) (zb_cg (by unfold zmeaM; rw [zly_k _ _ _ (by decide), zly_k _ _ _ (by decide), hd])) ?_
          refine z_if_eq (tgt := 59) (pc := 52) C dX5_laysOut_52 (by decide) (fun c_2 => ?_) (fun c_2 => ?_)
          · rw [zb_eq0] at c_2
            refine z_bipush (v := 9) (pc := 59) C dX5_laysOut_59 (by decide) ?_
            exact go _ (by rw [if_neg c_1, if_neg c_2]; rfl)
          · rw [zb_ne0] at c_2
            refine z_iconst (v := 1) (pc := 55) C dX5_laysOut_55 (by decide) ?_
            refine z_goto (tgt := 61) (pc := 56) C dX5_laysOut_56 (by decide) ?_
            exact go _ (by rw [if_neg c_1, if_pos c_2]; rfl)
        · rw [zdig_1 _ (zdig_lt p9 i)] at c_1
          refine z_iconst (v := 0) (pc := 41) C dX5_laysOut_41 (by decide) ?_
          refine z_goto (tgt := 61) (pc := 42) C dX5_laysOut_42 (by decide) ?_
          exact go _ (by rw [if_pos c_1]; rfl)
  have z : zW p l e (zR 3 65 0 0) s m [Value.ref (zob E 7), Value.int (nI p9), Value.int d].toArray below meth c E 6 0 0 (MQ below (zQi E s.heap.size (fun r μ1 ov1 => r = nI (zcsM μ q p9 n) ∧ μ1 = zly n p9 μ ∧ ov1 = ov)) [Value.ref (zob E 7), Value.int (nI p9), Value.int d].toArray s 0 0 (zA E s.heap.size)) 8 [some (.ref (zob E 7)), some (.int (nI p9)), some (.int (d)), some (.int (nI p9)), some (.int (0)), some (.int (0))] [] μ ov := by have h := loop n 0 (by omega); rw [← h0] at h; exact h
  exact z
set_option maxHeartbeats 4000000 in
set_option maxRecDepth 100000 in
theorem c_X5_open (l : Launch) (E : zE) (sa : Nat → Nat) {μ : zM} {ov : Nat → Int64} {d : Int32} (t c0 nc n : Nat) (H : zMI μ t c0 nc n) : zMi l E sa yX5_open wsX5_open 5 121 0 0 [.ref (zob E 7), .int d] μ ov (fun r μ1 ov1 => (((1 ≤ d ∧ d ≤ μ 63 11) ∧ (True) ∧ (True)) ∧ r = nI (zopM μ d.toNatClampNeg n) ∧ zScM (zu μ 63 19 0) μ1 ∧ ov1 = ov) ∨ (¬ ((1 ≤ d ∧ d ≤ μ 63 11) ∧ (True) ∧ (True)) ∧ r = 0 ∧ μ1 = zu μ 63 19 (zgo (1 ≤ d ∧ d ≤ μ 63 11) (True) (True)) ∧ ov1 = ov)) := by
  refine z_ofMi (cc := cX5_open) (nL := 2) (ret := (some .int)) (own := RX5) zfp_X5_open rfl (by simp [Value.category]) (Nat.le_of_ble_eq_true rfl) rfl ?_
  intro p e s m below meth c C hr hlk
  show zW p l e (zR 5 121 0 0) s m [Value.ref (zob E 7), Value.int d].toArray below meth c E 2 0 0 (MQ below (zQi E s.heap.size (fun r μ1 ov1 => (((1 ≤ d ∧ d ≤ μ 63 11) ∧ (True) ∧ (True)) ∧ r = nI (zopM μ d.toNatClampNeg n) ∧ zScM (zu μ 63 19 0) μ1 ∧ ov1 = ov) ∨ (¬ ((1 ≤ d ∧ d ≤ μ 63 11) ∧ (True) ∧ (True)) ∧ r = 0 ∧ μ1 = zu μ 63 19 (zgo (1 ≤ d ∧ d ≤ μ 63 11) (True) (True)) ∧ ov1 = ov))) [Value.ref (zob E 7), Value.int d].toArray s 0 0 (zA E s.heap.size)) 0 [some (.ref (zob E 7)), some (.int (d))] [] μ ov
  obtain ⟨H1, H2, H3, H4, H5, H6, H7, H8, H9⟩ := id H
  refine z_aloadn (i := 0) (pc := 0) C dX5_open_0 rfl rfl ?_
  refine z_aloadn (i := 0) (pc := 1) C dX5_open_1 rfl rfl ?_
  refine z_iloadn (i := 1) (pc := 2) C dX5_open_2 rfl rfl ?_
  refine z_callVi (pc := 3) (n := 1) (As := [.int (d)]) (rest := [.ref (zob E 7)]) C (c_X5_isDay l E sa (μ := μ) (ov := ov) d) gX5_open_X5_isDay rfl zfV_X5_isDay ⟨Nat.le_of_ble_eq_true rfl, Nat.le_of_ble_eq_true rfl⟩ rfl (zRec_X5 E) rfl (Nat.le_of_ble_eq_true rfl) ⟨Nat.zero_le _, Nat.zero_le _⟩ dX5_open_3 (fun r9 μ9 ov9 hp => ?_)
  have e1 := hp.1.symm
  have e2 := hp.2.1.symm
  have e3 := hp.2.2.symm
  clear hp
  subst e1 e2 e3
  refine z_iconst (v := 1) (pc := 6) C dX5_open_6 (by decide) ?_
  refine z_iconst (v := 1) (pc := 7) C dX5_open_7 (by decide) ?_
  refine z_callVi (pc := 8) (n := 3) (As := [.int (zb (1 ≤ d ∧ d ≤ μ 63 11)), .int (1), .int (1)]) (rest := []) C (c_X5_goes l E sa (μ := μ) (ov := ov) (1 ≤ d ∧ d ≤ μ 63 11) (True) (True) rfl (zb_t trivial).symm (zb_t trivial).symm) gX5_open_X5_goes rfl zfV_X5_goes ⟨Nat.le_of_ble_eq_true rfl, Nat.le_of_ble_eq_true rfl⟩ rfl (zRec_X5 E) rfl (Nat.le_of_ble_eq_true rfl) ⟨Nat.zero_le _, Nat.zero_le _⟩ dX5_open_8 (fun r9 μ9 ov9 hp => ?_)
  have e1 := hp.1.symm
  have e2 := hp.2.1.symm
  have e3 := hp.2.2.symm
  clear hp
  subst e1 e2 e3
  refine z_if_ne (tgt := 16) (pc := 11) C dX5_open_11 (by decide) (fun c_g => ?_) (fun c_g => ?_)
  · rw [zb_ne0] at c_g
    obtain ⟨ν, hν⟩ : ∃ ν, ν = zu μ 63 19 0 := ⟨_, rfl⟩
    have hk : ∀ b, b ≠ 63 → ν b = μ b := fun b h => by rw [hν]; exact zu_n _ _ _ h
    have h63 : ∀ j, j ≠ 19 → ν 63 j = μ 63 j := fun j h => by rw [hν, zu_s, upd_n _ _ h]
    refine z_mem (μ' := ν) (by rw [hν, zgo_t c_g]) ?_
    obtain ⟨q, h1q, hq, hdq⟩ := znat2 (n := t) c_g.1.1 (by rw [← H1]; exact c_g.1.2) (by omega)
    have edq : d.toNatClampNeg = q := by rw [hdq, nI_clamp (by omega)]
    have Hν : zMI ν t c0 nc n := H.nu hk h63
    obtain ⟨N1, N2, N3, N4, N5, N6, N7, N8, N9⟩ := id Hν
    have hmν : ∀ i d, zmeaM ν i d ↔ zmeaM μ i d := zmeaM_cg hk h63
    refine z_aloadn (i := 0) (pc := 16) C dX5_open_16 rfl rfl ?_
    refine z_iloadn (i := 1) (pc := 17) C dX5_open_17 rfl rfl ?_
    refine z_callVv (pc := 18) (n := 1) (As := [.int (d)]) (rest := []) C (c_X5_laysRings l E sa (μ := ν) (ov := ov) q n hdq h1q (by omega) N6 N7 N9) gX5_open_X5_laysRings rfl zfV_X5_laysRings ⟨Nat.le_of_ble_eq_true rfl, Nat.le_of_ble_eq_true rfl⟩ rfl (zRec_X5 E) rfl (Nat.le_of_ble_eq_true rfl) ⟨Nat.zero_le _, Nat.zero_le _⟩ dX5_open_18 (fun κ ov9 hp => ?_)
    obtain ⟨hR, e3⟩ := hp
    have e3 := e3.symm
    subst e3
    refine z_aloadn (i := 0) (pc := 21) C dX5_open_21 rfl rfl ?_
    refine z_callVi (pc := 22) (n := 0) (As := []) (rest := []) C (c_X5_openRings l E sa (μ := κ) (ov := ov) _ hR.2.2.1 (zgaM_56 ν q N7) hR.ids) gX5_open_X5_openRings rfl zfV_X5_openRings ⟨Nat.le_of_ble_eq_true rfl, Nat.le_of_ble_eq_true rfl⟩ rfl (zRec_X5 E) rfl (Nat.le_of_ble_eq_true rfl) ⟨Nat.zero_le _, Nat.zero_le _⟩ dX5_open_22 (fun r9 μ9 ov9 hp => ?_)
    have e1 := hp.1.symm
    have e2 := hp.2.1.symm
    have e3 := hp.2.2.symm
    clear hp
    subst e1 e2 e3
    exact z_iret (pc := 25) C hr hlk (Or.inl ⟨c_g, by rw [hR.opq, edq, zopM_cg (fun b hb => hk b (by omega)) hmν (h63 15 (by decide))], by rw [← hν]; exact hR.scr (μ := μ), rfl⟩) (Nat.zero_le _) (Nat.zero_le _) dX5_open_25
  · rw [zb_eq0] at c_g
    refine z_iconst (v := 0) (pc := 14) C dX5_open_14 (by decide) ?_
    exact z_iret (pc := 15) C hr hlk (Or.inr ⟨c_g, rfl, rfl, rfl⟩) (Nat.zero_le _) (Nat.zero_le _) dX5_open_15
set_option maxHeartbeats 4000000 in
set_option maxRecDepth 100000 in
theorem c_X5_adopt (l : Launch) (E : zE) (sa : Nat → Nat) {μ : zM} {ov : Nat → Int64}  (t c0 nc n : Nat) (H : zMI μ t c0 nc n) : zMi l E sa yX5_adopt wsX5_adopt 5 121 0 0 [.ref (zob E 7)] μ ov (fun r μ1 ov1 => (((μ 63 17 = 0 ∧ 0 < μ 63 11) ∧ (True) ∧ (True)) ∧ r = zb (5 ≤ zcnt (zhoM μ) 7 ∧ nI (zopM μ t n) = 0) ∧ (∃ κ, zScM (zu μ 63 19 0) κ ∧ μ1 = zu κ 63 17 (zb (5 ≤ zcnt (zhoM μ) 7 ∧ nI (zopM μ t n) = 0))) ∧ ov1 = ov) ∨ (¬ ((μ 63 17 = 0 ∧ 0 < μ 63 11) ∧ (True) ∧ (True)) ∧ r = 0 ∧ μ1 = zu μ 63 19 (zgo (μ 63 17 = 0 ∧ 0 < μ 63 11) (True) (True)) ∧ ov1 = ov)) := by
  refine z_ofMi (cc := cX5_adopt) (nL := 1) (ret := (some .boolean)) (own := RX5) zfp_X5_adopt rfl (by simp [Value.category]) (Nat.le_of_ble_eq_true rfl) rfl ?_
  intro p e s m below meth c C hr hlk
  have iX5 : ∀ w ∈ wsX50, w ∈ wsX5_adopt := by decide +kernel
  have f106 := C.1.2.2.2.2 (.fieldLink RX5 106 "TickFallModel" "day" "I") (by decide +kernel)
  have f198 := C.1.2.2.2.2 (.fieldLink RX5 198 "TickFallModel" "isAdopted" "Z") (by decide +kernel)
  show zW p l e (zR 5 121 0 0) s m [Value.ref (zob E 7)].toArray below meth c E 1 0 0 (MQ below (zQi E s.heap.size (fun r μ1 ov1 => (((μ 63 17 = 0 ∧ 0 < μ 63 11) ∧ (True) ∧ (True)) ∧ r = zb (5 ≤ zcnt (zhoM μ) 7 ∧ nI (zopM μ t n) = 0) ∧ (∃ κ, zScM (zu μ 63 19 0) κ ∧ μ1 = zu κ 63 17 (zb (5 ≤ zcnt (zhoM μ) 7 ∧ nI (zopM μ t n) = 0))) ∧ ov1 = ov) ∨ (¬ ((μ 63 17 = 0 ∧ 0 < μ 63 11) ∧ (True) ∧ (True)) ∧ r = 0 ∧ μ1 = zu μ 63 19 (zgo (μ 63 17 = 0 ∧ 0 < μ 63 11) (True) (True)) ∧ ov1 = ov))) [Value.ref (zob E 7)].toArray s 0 0 (zA E s.heap.size)) 0 [some (.ref (zob E 7))] [] μ ov
  obtain ⟨H1, H2, H3, H4, H5, H6, H7, H8, H9⟩ := id H
  refine z_aloadn (i := 0) (pc := 0) C dX5_adopt_0 rfl rfl ?_
  have J1 : ∀ v : Int32, v = zb (μ 63 17 = 0 ∧ 0 < μ 63 11) → zW p l e (zR 5 121 0 0) s m [Value.ref (zob E 7)].toArray below meth c E 1 0 0 (MQ below (zQi E s.heap.size (fun r μ1 ov1 => (((μ 63 17 = 0 ∧ 0 < μ 63 11) ∧ (True) ∧ (True)) ∧ r = zb (5 ≤ zcnt (zhoM μ) 7 ∧ nI (zopM μ t n) = 0) ∧ (∃ κ, zScM (zu μ 63 19 0) κ ∧ μ1 = zu κ 63 17 (zb (5 ≤ zcnt (zhoM μ) 7 ∧ nI (zopM μ t n) = 0))) ∧ ov1 = ov) ∨ (¬ ((μ 63 17 = 0 ∧ 0 < μ 63 11) ∧ (True) ∧ (True)) ∧ r = 0 ∧ μ1 = zu μ 63 19 (zgo (μ 63 17 = 0 ∧ 0 < μ 63 11) (True) (True)) ∧ ov1 = ov))) [Value.ref (zob E 7)].toArray s 0 0 (zA E s.heap.size)) 20 [some (.ref (zob E 7))] [.int (v), .ref (zob E 7)] μ ov := by
    intro v hv
    subst hv
    refine z_iconst (v := 1) (pc := 20) C dX5_adopt_20 (by decide) ?_
    refine z_iconst (v := 1) (pc := 21) C dX5_adopt_21 (by decide) ?_
    refine z_callVi (pc := 22) (n := 3) (As := [.int (zb (μ 63 17 = 0 ∧ 0 < μ 63 11)), .int (1), .int (1)]) (rest := []) C (c_X5_goes l E sa (μ := μ) (ov := ov) (μ 63 17 = 0 ∧ 0 < μ 63 11) (True) (True) rfl (zb_t trivial).symm (zb_t trivial).symm) gX5_adopt_X5_goes rfl zfV_X5_goes ⟨Nat.le_of_ble_eq_true rfl, Nat.le_of_ble_eq_true rfl⟩ rfl (zRec_X5 E) rfl (Nat.le_of_ble_eq_true rfl) ⟨Nat.zero_le _, Nat.zero_le _⟩ dX5_adopt_22 (fun r9 μ9 ov9 hp => ?_)
    have e1 := hp.1.symm
    have e2 := hp.2.1.symm
    have e3 := hp.2.2.symm
    clear hp
    subst e1 e2 e3
    refine z_if_ne (tgt := 30) (pc := 25) C dX5_adopt_25 (by decide) (fun c_g => ?_) (fun c_g => ?_)
    · rw [zb_ne0] at c_g
      obtain ⟨ν, hν⟩ : ∃ ν, ν = zu μ 63 19 0 := ⟨_, rfl⟩
      have hk : ∀ b, b ≠ 63 → ν b = μ b := fun b h => by rw [hν]; exact zu_n _ _ _ h
      have h63 : ∀ j, j ≠ 19 → ν 63 j = μ 63 j := fun j h => by rw [hν, zu_s, upd_n _ _ h]
      refine z_mem (μ' := ν) (by rw [hν, zgo_t c_g]) ?_
      have Hν : zMI ν t c0 nc n := H.nu hk h63
      obtain ⟨N1, N2, N3, N4, N5, N6, N7, N8, N9⟩ := id Hν
      have hmν : ∀ i d, zmeaM ν i d ↔ zmeaM μ i d := zmeaM_cg hk h63
      have ht1 : 1 ≤ t := by have h := c_g.1.2; rw [H1, zlt, nI_toInt (by omega), show (0 : Int32).toInt = 0 from rfl] at h; omega
      refine z_aloadn (i := 0) (pc := 30) C dX5_adopt_30 rfl rfl ?_
      refine z_aloadn (i := 0) (pc := 31) C dX5_adopt_31 rfl rfl ?_
      refine zg_X5_day (pc := 32) C dX5_adopt_32 iX5 f106 ?_
      refine z_callVv (pc := 35) (n := 1) (As := [.int (ν 63 11)]) (rest := []) C (c_X5_laysRings l E sa (μ := ν) (ov := ov) t n N1 ht1 (by omega) N6 N7 N9) gX5_adopt_X5_laysRings rfl zfV_X5_laysRings ⟨Nat.le_of_ble_eq_true rfl, Nat.le_of_ble_eq_true rfl⟩ rfl (zRec_X5 E) rfl (Nat.le_of_ble_eq_true rfl) ⟨Nat.zero_le _, Nat.zero_le _⟩ dX5_adopt_35 (fun κ ov9 hp => ?_)
      obtain ⟨hR, e3⟩ := hp
      have e3 := e3.symm
      subst e3
      refine z_aloadn (i := 0) (pc := 38) C dX5_adopt_38 rfl rfl ?_
      have hzz := zcnt_le (zhoM μ) 7
      have ehz : zhoM κ = zhoM μ := by funext j; unfold zhoM; rw [hR.1 58 (by decide) (by decide) (by decide) (by decide), zcy_k ν (by decide), hk 58 (by decide)]
      have J2 : ∀ v : Int32, v = zb (5 ≤ zcnt (zhoM μ) 7 ∧ nI (zopM μ t n) = 0) → zW p l e (zR 5 121 0 0) s m [Value.ref (zob E 7)].toArray below meth c E 1 0 0 (MQ below (zQi E s.heap.size (fun r μ1 ov1 => (((μ 63 17 = 0 ∧ 0 < μ 63 11) ∧ (True) ∧ (True)) ∧ r = zb (5 ≤ zcnt (zhoM μ) 7 ∧ nI (zopM μ t n) = 0) ∧ (∃ κ, zScM (zu μ 63 19 0) κ ∧ μ1 = zu κ 63 17 (zb (5 ≤ zcnt (zhoM μ) 7 ∧ nI (zopM μ t n) = 0))) ∧ ov1 = ov) ∨ (¬ ((μ 63 17 = 0 ∧ 0 < μ 63 11) ∧ (True) ∧ (True)) ∧ r = 0 ∧ μ1 = zu μ 63 19 (zgo (μ 63 17 = 0 ∧ 0 < μ 63 11) (True) (True)) ∧ ov1 = ov))) [Value.ref (zob E 7)].toArray s 0 0 (zA E s.heap.size)) 59 [some (.ref (zob E 7))] [.int (v), .ref (zob E 7)] κ ov := by
        intro v hv
        subst hv
        refine zp_X5_isAdopted (pc := 59) C dX5_adopt_59 zb_01 iX5 f198 ?_
        refine z_aloadn (i := 0) (pc := 62) C dX5_adopt_62 rfl rfl ?_
        refine zg_X5_isAdopted (pc := 63) C dX5_adopt_63 iX5 f198 ?_
        exact z_zret (pc := 66) C hr hlk (by rw [zu_s, upd_s]; exact znarz zb_01) (Or.inl ⟨c_g, by rw [zu_s, upd_s], ⟨κ, by rw [← hν]; exact hR.scr (μ := μ), rfl⟩, rfl⟩) (Nat.zero_le _) (Nat.zero_le _) dX5_adopt_66
      have hzz := zcnt_le (zhoM μ) 7
      have ehz : zhoM κ = zhoM μ := by funext j; unfold zhoM; rw [hR.1 58 (by decide) (by decide) (by decide) (by decide), zcy_k ν (by decide), hk 58 (by decide)]
      refine z_aloadn (i := 0) (pc := 39) C dX5_adopt_39 rfl rfl ?_
      refine z_callVi (pc := 40) (n := 0) (As := []) (rest := [.ref (zob E 7)]) C (c_X5_forIt l E sa (μ := κ) (ov := ov)) gX5_adopt_X5_forIt rfl zfV_X5_forIt ⟨Nat.le_of_ble_eq_true rfl, Nat.le_of_ble_eq_true rfl⟩ rfl (zRec_X5 E) rfl (Nat.le_of_ble_eq_true rfl) ⟨Nat.zero_le _, Nat.zero_le _⟩ dX5_adopt_40 (fun r9 μ9 ov9 hp => ?_)
      have e1 := hp.1.symm
      have e2 := hp.2.1.symm
      have e3 := hp.2.2.symm
      clear hp
      subst e1 e2 e3
      refine z_topi (y := nI (zcnt (zhoM μ) 7)) (by rw [ehz]) ?_
      refine z_iconst (v := 5) (pc := 43) C dX5_adopt_43 (by decide) ?_
      refine z_icmp_lt (tgt := 58) (pc := 44) C dX5_adopt_44 (by decide) (fun c_3 => ?_) (fun c_3 => ?_)
      · refine z_iconst (v := 0) (pc := 58) C dX5_adopt_58 (by decide) ?_
        exact J2 _ (zb_f (fun h => zno_lt c_3 (nI_le h.1 (by omega)))).symm
      · refine z_aloadn (i := 0) (pc := 47) C dX5_adopt_47 rfl rfl ?_
        refine z_callVi (pc := 48) (n := 0) (As := []) (rest := [.ref (zob E 7)]) C (c_X5_openRings l E sa (μ := κ) (ov := ov) _ hR.2.2.1 (zgaM_56 ν t N7) hR.ids) gX5_adopt_X5_openRings rfl zfV_X5_openRings ⟨Nat.le_of_ble_eq_true rfl, Nat.le_of_ble_eq_true rfl⟩ rfl (zRec_X5 E) rfl (Nat.le_of_ble_eq_true rfl) ⟨Nat.zero_le _, Nat.zero_le _⟩ dX5_adopt_48 (fun r9 μ9 ov9 hp => ?_)
        have e1 := hp.1.symm
        have e2 := hp.2.1.symm
        have e3 := hp.2.2.symm
        clear hp
        subst e1 e2 e3
        refine z_topi (y := nI (zopM μ t n)) (by rw [hR.opq, zopM_cg (fun b hb => hk b (by omega)) hmν (h63 15 (by decide))]) ?_
        refine z_if_ne (tgt := 58) (pc := 51) C dX5_adopt_51 (by decide) (fun c_4 => ?_) (fun c_4 => ?_)
        · refine z_iconst (v := 0) (pc := 58) C dX5_adopt_58 (by decide) ?_
          exact J2 _ (zb_f (fun h => c_4 h.2)).symm
        · refine z_iconst (v := 1) (pc := 54) C dX5_adopt_54 (by decide) ?_
          refine z_goto (tgt := 59) (pc := 55) C dX5_adopt_55 (by decide) ?_
          exact J2 _ (zb_t ⟨by have h := znot_lt c_3; rw [show (5 : Int32) = nI 5 from rfl, nI_leI (by omega) (by omega)] at h; exact h, c_4⟩).symm
    · rw [zb_eq0] at c_g
      refine z_iconst (v := 0) (pc := 28) C dX5_adopt_28 (by decide) ?_
      exact z_zret (pc := 29) C hr hlk (by decide) (Or.inr ⟨c_g, rfl, rfl, rfl⟩) (Nat.zero_le _) (Nat.zero_le _) dX5_adopt_29
  refine z_aloadn (i := 0) (pc := 1) C dX5_adopt_1 rfl rfl ?_
  refine zg_X5_isAdopted (pc := 2) C dX5_adopt_2 iX5 f198 ?_
  refine z_if_ne (tgt := 19) (pc := 5) C dX5_adopt_5 (by decide) (fun c_1 => ?_) (fun c_1 => ?_)
  · refine z_iconst (v := 0) (pc := 19) C dX5_adopt_19 (by decide) ?_
    exact J1 _ (zb_f (fun h => c_1 (h.1))).symm
  · refine z_aloadn (i := 0) (pc := 8) C dX5_adopt_8 rfl rfl ?_
    refine zg_X5_day (pc := 9) C dX5_adopt_9 iX5 f106 ?_
    refine z_if_le (tgt := 19) (pc := 12) C dX5_adopt_12 (by decide) (fun c_2 => ?_) (fun c_2 => ?_)
    · refine z_iconst (v := 0) (pc := 19) C dX5_adopt_19 (by decide) ?_
      exact J1 _ (zb_f (fun h => zno_le c_2 (h.2))).symm
    · refine z_iconst (v := 1) (pc := 15) C dX5_adopt_15 (by decide) ?_
      refine z_goto (tgt := 20) (pc := 16) C dX5_adopt_16 (by decide) ?_
      exact J1 _ (zb_t ⟨c_1, (znot_le c_2)⟩).symm
set_option maxHeartbeats 4000000 in
set_option maxRecDepth 100000 in
theorem c_X5_slips (l : Launch) (E : zE) (sa : Nat → Nat) {μ : zM} {ov : Nat → Int64} {d : Int32} (t c0 nc n : Nat) (H : zMI μ t c0 nc n) : zMi l E sa yX5_slips wsX5_slips 5 121 0 0 [.ref (zob E 7), .int d] μ ov (fun r μ1 ov1 => (((1 ≤ d ∧ d ≤ μ 63 11) ∧ (True) ∧ (True)) ∧ (∃ κ, zRM (zcy (zu μ 63 19 0)) d.toNatClampNeg κ (zgaM (zu μ 63 19 0) d.toNatClampNeg n) ∧ r = (zslM (zu μ 63 19 0) κ d.toNatClampNeg n (zgaM (zu μ 63 19 0) d.toNatClampNeg n).length (3 ^ n)).1 ∧ zScM (zu μ 63 19 0) μ1) ∧ ov1 = ov) ∨ (¬ ((1 ≤ d ∧ d ≤ μ 63 11) ∧ (True) ∧ (True)) ∧ r = 0 ∧ μ1 = zu μ 63 19 (zgo (1 ≤ d ∧ d ≤ μ 63 11) (True) (True)) ∧ ov1 = ov)) := by
  refine z_ofMi (cc := cX5_slips) (nL := 7) (ret := (some .int)) (own := RX5) zfp_X5_slips rfl (by simp [Value.category]) (Nat.le_of_ble_eq_true rfl) rfl ?_
  intro p e s m below meth c C hr hlk
  have iX5 : ∀ w ∈ wsX50, w ∈ wsX5_slips := by decide +kernel
  have f103 := C.1.2.2.2.2 (.fieldLink RX5 103 "TickFallModel" "links" "I") (by decide +kernel)
  show zW p l e (zR 5 121 0 0) s m [Value.ref (zob E 7), Value.int d].toArray below meth c E 7 0 0 (MQ below (zQi E s.heap.size (fun r μ1 ov1 => (((1 ≤ d ∧ d ≤ μ 63 11) ∧ (True) ∧ (True)) ∧ (∃ κ, zRM (zcy (zu μ 63 19 0)) d.toNatClampNeg κ (zgaM (zu μ 63 19 0) d.toNatClampNeg n) ∧ r = (zslM (zu μ 63 19 0) κ d.toNatClampNeg n (zgaM (zu μ 63 19 0) d.toNatClampNeg n).length (3 ^ n)).1 ∧ zScM (zu μ 63 19 0) μ1) ∧ ov1 = ov) ∨ (¬ ((1 ≤ d ∧ d ≤ μ 63 11) ∧ (True) ∧ (True)) ∧ r = 0 ∧ μ1 = zu μ 63 19 (zgo (1 ≤ d ∧ d ≤ μ 63 11) (True) (True)) ∧ ov1 = ov))) [Value.ref (zob E 7), Value.int d].toArray s 0 0 (zA E s.heap.size)) 0 [some (.ref (zob E 7)), some (.int (d)), none, none, none, none, none] [] μ ov
  obtain ⟨H1, H2, H3, H4, H5, H6, H7, H8, H9⟩ := id H
  refine z_aloadn (i := 0) (pc := 0) C dX5_slips_0 rfl rfl ?_
  refine z_aloadn (i := 0) (pc := 1) C dX5_slips_1 rfl rfl ?_
  refine z_iloadn (i := 1) (pc := 2) C dX5_slips_2 rfl rfl ?_
  refine z_callVi (pc := 3) (n := 1) (As := [.int (d)]) (rest := [.ref (zob E 7)]) C (c_X5_isDay l E sa (μ := μ) (ov := ov) d) gX5_slips_X5_isDay rfl zfV_X5_isDay ⟨Nat.le_of_ble_eq_true rfl, Nat.le_of_ble_eq_true rfl⟩ rfl (zRec_X5 E) rfl (Nat.le_of_ble_eq_true rfl) ⟨Nat.zero_le _, Nat.zero_le _⟩ dX5_slips_3 (fun r9 μ9 ov9 hp => ?_)
  have e1 := hp.1.symm
  have e2 := hp.2.1.symm
  have e3 := hp.2.2.symm
  clear hp
  subst e1 e2 e3
  refine z_iconst (v := 1) (pc := 6) C dX5_slips_6 (by decide) ?_
  refine z_iconst (v := 1) (pc := 7) C dX5_slips_7 (by decide) ?_
  refine z_callVi (pc := 8) (n := 3) (As := [.int (zb (1 ≤ d ∧ d ≤ μ 63 11)), .int (1), .int (1)]) (rest := []) C (c_X5_goes l E sa (μ := μ) (ov := ov) (1 ≤ d ∧ d ≤ μ 63 11) (True) (True) rfl (zb_t trivial).symm (zb_t trivial).symm) gX5_slips_X5_goes rfl zfV_X5_goes ⟨Nat.le_of_ble_eq_true rfl, Nat.le_of_ble_eq_true rfl⟩ rfl (zRec_X5 E) rfl (Nat.le_of_ble_eq_true rfl) ⟨Nat.zero_le _, Nat.zero_le _⟩ dX5_slips_8 (fun r9 μ9 ov9 hp => ?_)
  have e1 := hp.1.symm
  have e2 := hp.2.1.symm
  have e3 := hp.2.2.symm
  clear hp
  subst e1 e2 e3
  refine z_if_ne (tgt := 16) (pc := 11) C dX5_slips_11 (by decide) (fun c_g => ?_) (fun c_g => ?_)
  · rw [zb_ne0] at c_g
    obtain ⟨ν, hν⟩ : ∃ ν, ν = zu μ 63 19 0 := ⟨_, rfl⟩
    have hk : ∀ b, b ≠ 63 → ν b = μ b := fun b h => by rw [hν]; exact zu_n _ _ _ h
    have h63 : ∀ j, j ≠ 19 → ν 63 j = μ 63 j := fun j h => by rw [hν, zu_s, upd_n _ _ h]
    refine z_mem (μ' := ν) (by rw [hν, zgo_t c_g]) ?_
    obtain ⟨q, h1q, hq, hdq⟩ := znat2 (n := t) c_g.1.1 (by rw [← H1]; exact c_g.1.2) (by omega)
    have edq : d.toNatClampNeg = q := by rw [hdq, nI_clamp (by omega)]
    have Hν : zMI ν t c0 nc n := H.nu hk h63
    obtain ⟨N1, N2, N3, N4, N5, N6, N7, N8, N9⟩ := id Hν
    have hmν : ∀ i d, zmeaM ν i d ↔ zmeaM μ i d := zmeaM_cg hk h63
    refine z_iconst (v := 1) (pc := 16) C dX5_slips_16 (by decide) ?_
    refine z_istore2 (pc := 17) C (by decide) (fun w hw => by cases hw; exact (show ¬ (1 = 2) from by decide)) dX5_slips_17 ?_
    refine z_iconst (v := 0) (pc := 18) C dX5_slips_18 (by decide) ?_
    refine z_istore3 (pc := 19) C (by decide) (fun w hw => by cases hw; exact (show ¬ (1 = 2) from by decide)) dX5_slips_19 ?_
    have pw : ∀ (f i : Nat), i + f = n → (∀ w, zW p l e (zR 5 121 0 0) s m [Value.ref (zob E 7), Value.int d].toArray below meth c E 7 0 0 (MQ below (zQi E s.heap.size (fun r μ1 ov1 => (((1 ≤ d ∧ d ≤ μ 63 11) ∧ (True) ∧ (True)) ∧ (∃ κ, zRM (zcy (zu μ 63 19 0)) d.toNatClampNeg κ (zgaM (zu μ 63 19 0) d.toNatClampNeg n) ∧ r = (zslM (zu μ 63 19 0) κ d.toNatClampNeg n (zgaM (zu μ 63 19 0) d.toNatClampNeg n).length (3 ^ n)).1 ∧ zScM (zu μ 63 19 0) μ1) ∧ ov1 = ov) ∨ (¬ ((1 ≤ d ∧ d ≤ μ 63 11) ∧ (True) ∧ (True)) ∧ r = 0 ∧ μ1 = zu μ 63 19 (zgo (1 ≤ d ∧ d ≤ μ 63 11) (True) (True)) ∧ ov1 = ov))) [Value.ref (zob E 7), Value.int d].toArray s 0 0 (zA E s.heap.size)) 38 [some (.ref (zob E 7)), some (.int (d)), some (.int (nI (3 ^ n))), some (.int (w)), none, none, none] [] ν ov) → zW p l e (zR 5 121 0 0) s m [Value.ref (zob E 7), Value.int d].toArray below meth c E 7 0 0 (MQ below (zQi E s.heap.size (fun r μ1 ov1 => (((1 ≤ d ∧ d ≤ μ 63 11) ∧ (True) ∧ (True)) ∧ (∃ κ, zRM (zcy (zu μ 63 19 0)) d.toNatClampNeg κ (zgaM (zu μ 63 19 0) d.toNatClampNeg n) ∧ r = (zslM (zu μ 63 19 0) κ d.toNatClampNeg n (zgaM (zu μ 63 19 0) d.toNatClampNeg n).length (3 ^ n)).1 ∧ zScM (zu μ 63 19 0) μ1) ∧ ov1 = ov) ∨ (¬ ((1 ≤ d ∧ d ≤ μ 63 11) ∧ (True) ∧ (True)) ∧ r = 0 ∧ μ1 = zu μ 63 19 (zgo (1 ≤ d ∧ d ≤ μ 63 11) (True) (True)) ∧ ov1 = ov))) [Value.ref (zob E 7), Value.int d].toArray s 0 0 (zA E s.heap.size)) 20 [some (.ref (zob E 7)), some (.int (d)), some (.int (nI (3 ^ i))), some (.int (nI i)), none, none, none] [] ν ov := by
      intro f
      induction f with
      | zero =>
        intro i hi K
        obtain rfl : i = n := by omega
        refine z_iloadn (i := 3) (pc := 20) C dX5_slips_20 rfl rfl ?_
        refine z_aloadn (i := 0) (pc := 21) C dX5_slips_21 rfl rfl ?_
        refine zg_X5_links (pc := 22) C dX5_slips_22 iX5 f103 ?_
        refine z_topi (y := nI i) N6 ?_
        refine z_icmp_ge (tgt := 38) (pc := 25) C dX5_slips_25 (by decide) (fun c_l => ?_) (fun c_l => ?_)
        · exact K _
        · exact absurd (nI_le (a := i) (b := i) (Nat.le_refl _) (by omega)) c_l
      | succ f ih =>
        intro i hi K
        refine z_iloadn (i := 3) (pc := 20) C dX5_slips_20 rfl rfl ?_
        refine z_aloadn (i := 0) (pc := 21) C dX5_slips_21 rfl rfl ?_
        refine zg_X5_links (pc := 22) C dX5_slips_22 iX5 f103 ?_
        refine z_icmp_ge (tgt := 38) (pc := 25) C dX5_slips_25 (by decide) (fun c_l => ?_) (fun c_l => ?_)
        · exact absurd c_l (by rw [N6]; exact nI_ge (by omega) (by omega))
        · refine z_iloadn (i := 2) (pc := 28) C dX5_slips_28 rfl rfl ?_
          refine z_iconst (v := 3) (pc := 29) C dX5_slips_29 (by decide) ?_
          refine z_imul (pc := 30) C dX5_slips_30 ?_
          refine z_topi (y := nI (3 ^ (i + 1))) (by rw [show (3 : Int32) = nI 3 from rfl, pk_mul, Nat.pow_succ]) ?_
          refine z_istore2 (pc := 31) C (by decide) (fun w hw => by cases hw; exact (show ¬ (1 = 2) from by decide)) dX5_slips_31 ?_
          refine z_iinc3 (v := 1) (pc := 32) C (by decide) (by decide) (fun w hw => by cases hw; exact (show ¬ (1 = 2) from by decide)) dX5_slips_32 ?_
          rw [nI_1]
          refine z_goto (tgt := 20) (pc := 35) C dX5_slips_35 (by decide) ?_
          exact ih (i + 1) (by omega) K
    refine pw n 0 (by omega) (fun w0 => ?_)
    have h3n : 3 ^ n ≤ 6561 := show 3 ^ n ≤ 3 ^ 8 from Nat.pow_le_pow_right (by decide) N7
    refine z_iconst (v := -1) (pc := 38) C dX5_slips_38 (by decide) ?_
    refine z_istore3 (pc := 39) C (by decide) (fun w hw => by cases hw; exact (show ¬ (1 = 2) from by decide)) dX5_slips_39 ?_
    refine z_bipush (v := 9) (pc := 40) C dX5_slips_40 (by decide) ?_
    refine z_istore4 (pc := 42) C (by decide) (fun w hw => by cases hw; exact (show ¬ (1 = 2) from by decide)) dX5_slips_42 ?_
    refine z_aloadn (i := 0) (pc := 44) C dX5_slips_44 rfl rfl ?_
    refine z_iloadn (i := 1) (pc := 45) C dX5_slips_45 rfl rfl ?_
    refine z_callVv (pc := 46) (n := 1) (As := [.int (d)]) (rest := []) C (c_X5_laysRings l E sa (μ := ν) (ov := ov) q n hdq h1q (by omega) N6 N7 N9) gX5_slips_X5_laysRings rfl zfV_X5_laysRings ⟨Nat.le_of_ble_eq_true rfl, Nat.le_of_ble_eq_true rfl⟩ rfl (zRec_X5 E) rfl (Nat.le_of_ble_eq_true rfl) ⟨Nat.zero_le _, Nat.zero_le _⟩ dX5_slips_46 (fun κ ov9 hp => ?_)
    obtain ⟨hR, e3⟩ := hp
    have e3 := e3.symm
    subst e3
    refine z_iconst (v := 0) (pc := 49) C dX5_slips_49 (by decide) ?_
    refine z_istore5 (pc := 50) C (by decide) (fun w hw => by cases hw; exact (show ¬ (1 = 2) from by decide)) dX5_slips_50 ?_
    have hmκ : ∀ i d, zmeaM κ i d ↔ zmeaM ν i d := fun i d => by unfold zmeaM; rw [hR.2.1 13 (by decide), hR.2.1 11 (by decide), hR.1 47 (by decide) (by decide) (by decide) (by decide), zcy_k ν (by decide), zcy_k ν (by decide)]
    have loop : ∀ (f p9 : Nat), p9 + f = 3 ^ n → ∀ (τ : zM) (w6 : Option Value), (∀ b, b ≠ 59 → τ b = κ b) → (∀ x, zly n x τ = zly n x κ) → zW p l e (zR 5 121 0 0) s m [Value.ref (zob E 7), Value.int d].toArray below meth c E 7 0 0 (MQ below (zQi E s.heap.size (fun r μ1 ov1 => (((1 ≤ d ∧ d ≤ μ 63 11) ∧ (True) ∧ (True)) ∧ (∃ κ, zRM (zcy (zu μ 63 19 0)) d.toNatClampNeg κ (zgaM (zu μ 63 19 0) d.toNatClampNeg n) ∧ r = (zslM (zu μ 63 19 0) κ d.toNatClampNeg n (zgaM (zu μ 63 19 0) d.toNatClampNeg n).length (3 ^ n)).1 ∧ zScM (zu μ 63 19 0) μ1) ∧ ov1 = ov) ∨ (¬ ((1 ≤ d ∧ d ≤ μ 63 11) ∧ (True) ∧ (True)) ∧ r = 0 ∧ μ1 = zu μ 63 19 (zgo (1 ≤ d ∧ d ≤ μ 63 11) (True) (True)) ∧ ov1 = ov))) [Value.ref (zob E 7), Value.int d].toArray s 0 0 (zA E s.heap.size)) 52 [some (.ref (zob E 7)), some (.int (d)), some (.int (nI (3 ^ n))), some (.int ((zslM ν κ q n (zgaM ν q n).length p9).1)), some (.int (nI (zslM ν κ q n (zgaM ν q n).length p9).2)), some (.int (nI p9)), w6] [] τ ov := by
      intro f
      induction f with
      | zero =>
        intro p9 hi τ w6 hτ hτ2
        refine z_iload (i := 5) (pc := 52) C dX5_slips_52 rfl ?_
        refine z_iloadn (i := 2) (pc := 54) C dX5_slips_54 rfl rfl ?_
        refine z_icmp_ge (tgt := 94) (pc := 55) C dX5_slips_55 (by decide) (fun c_l => ?_) (fun c_l => ?_)
        · refine z_iloadn (i := 3) (pc := 94) C dX5_slips_94 rfl rfl ?_
          exact z_iret (pc := 95) C hr hlk (Or.inl ⟨c_g, ⟨κ, by rw [← hν, edq]; exact hR, by rw [← hν, edq, show 3 ^ n = p9 by omega], ⟨fun b h9 h0 h1 h2 h3 => by rw [hτ b h9, ← hν]; exact (hR.scr (μ := μ)).1 b h9 h0 h1 h2 h3, fun j hj => by rw [hτ 63 (by decide), ← hν]; exact (hR.scr (μ := μ)).2 j hj⟩⟩, rfl⟩) (Nat.zero_le _) (Nat.zero_le _) dX5_slips_95
        · exact absurd (nI_le (by omega) (by omega)) c_l
      | succ f ih =>
        intro p9 hi τ w6 hτ hτ2
        have k13 : τ 63 13 = nI n := by rw [hτ 63 (by decide), hR.2.1 13 (by decide), zcy_k ν (by decide)]; exact N6
        have ec : zcsM τ q p9 n = zcsM ν q p9 n := zcsM_cg (fun i d => by rw [← hmκ]; unfold zmeaM; rw [hτ 63 (by decide), hτ 47 (by decide)]) q p9 n
        have hc1 := zcsM_le ν q p9 n
        have hz1 := zslM_le ν κ q n (zgaM ν q n).length p9
        obtain ⟨σ, hσ⟩ : ∃ σ, σ = zly n p9 κ := ⟨_, rfl⟩
        have s63 : ∀ b, b ≠ 59 → σ b = κ b := fun b h => by rw [hσ]; exact zly_k _ _ _ h
        have go : ∀ z : Int32 × Nat, z = (zslM ν κ q n (zgaM ν q n).length (p9 + 1)) → zW p l e (zR 5 121 0 0) s m [Value.ref (zob E 7), Value.int d].toArray below meth c E 7 0 0 (MQ below (zQi E s.heap.size (fun r μ1 ov1 => (((1 ≤ d ∧ d ≤ μ 63 11) ∧ (True) ∧ (True)) ∧ (∃ κ, zRM (zcy (zu μ 63 19 0)) d.toNatClampNeg κ (zgaM (zu μ 63 19 0) d.toNatClampNeg n) ∧ r = (zslM (zu μ 63 19 0) κ d.toNatClampNeg n (zgaM (zu μ 63 19 0) d.toNatClampNeg n).length (3 ^ n)).1 ∧ zScM (zu μ 63 19 0) μ1) ∧ ov1 = ov) ∨ (¬ ((1 ≤ d ∧ d ≤ μ 63 11) ∧ (True) ∧ (True)) ∧ r = 0 ∧ μ1 = zu μ 63 19 (zgo (1 ≤ d ∧ d ≤ μ 63 11) (True) (True)) ∧ ov1 = ov))) [Value.ref (zob E 7), Value.int d].toArray s 0 0 (zA E s.heap.size)) 88 [some (.ref (zob E 7)), some (.int (d)), some (.int (nI (3 ^ n))), some (.int (z.1)), some (.int (nI z.2)), some (.int (nI p9)), some (.int (nI (zcsM ν q p9 n)))] [] σ ov := by
          intro z hz
          subst hz
          refine z_iinc5 (v := 1) (pc := 88) C (by decide) (by decide) (fun w hw => by cases hw; exact (show ¬ (1 = 2) from by decide)) dX5_slips_88 ?_
          rw [nI_1]
          refine z_goto (tgt := 52) (pc := 91) C dX5_slips_91 (by decide) ?_
          exact ih (p9 + 1) (by omega) σ _ s63 (fun x => by rw [hσ, zly_ly])
        refine z_iload (i := 5) (pc := 52) C dX5_slips_52 rfl ?_
        refine z_iloadn (i := 2) (pc := 54) C dX5_slips_54 rfl rfl ?_
        refine z_icmp_ge (tgt := 94) (pc := 55) C dX5_slips_55 (by decide) (fun c_l => ?_) (fun c_l => ?_)
        · exact absurd c_l (nI_ge (by omega) (by omega))
        · refine z_aloadn (i := 0) (pc := 58) C dX5_slips_58 rfl rfl ?_
          refine z_iload (i := 5) (pc := 59) C dX5_slips_59 rfl ?_
          refine z_iloadn (i := 1) (pc := 61) C dX5_slips_61 rfl rfl ?_
          refine z_callVi (pc := 62) (n := 2) (As := [.int (nI p9), .int (d)]) (rest := []) C (c_X5_laysOut l E sa (μ := τ) (ov := ov) p9 q n (by omega) hdq k13 N7) gX5_slips_X5_laysOut rfl zfV_X5_laysOut ⟨Nat.le_of_ble_eq_true rfl, Nat.le_of_ble_eq_true rfl⟩ rfl (zRec_X5 E) rfl (Nat.le_of_ble_eq_true rfl) ⟨Nat.zero_le _, Nat.zero_le _⟩ dX5_slips_62 (fun r9 μ9 ov9 hp => ?_)
          obtain ⟨e1, e2, e3⟩ := hp
          rw [ec] at e1
          rw [hτ2, ← hσ] at e2
          have e1 := e1.symm
          have e2 := e2.symm
          have e3 := e3.symm
          subst e1 e2 e3
          refine z_istore6 (pc := 65) C (by decide) (fun w hw => by cases hw; exact (show ¬ (1 = 2) from by decide)) dX5_slips_65 ?_
          refine z_iload (i := 6) (pc := 67) C dX5_slips_67 rfl ?_
          refine z_iload (i := 4) (pc := 69) C dX5_slips_69 rfl ?_
          refine z_icmp_ge (tgt := 88) (pc := 71) C dX5_slips_71 (by decide) (fun c_1 => ?_) (fun c_1 => ?_)
          · exact go (zslM ν κ q n (zgaM ν q n).length p9) (by rw [zslM]; exact (if_neg (fun h => zno_le c_1 (by rw [nI_ltI (by omega) (by omega)]; exact h.1))).symm)
          · have c_1 := znot_le c_1
            rw [nI_ltI (by omega) (by omega)] at c_1
            refine z_aloadn (i := 0) (pc := 74) C dX5_slips_74 rfl rfl ?_
            refine z_callVi (pc := 75) (n := 0) (As := []) (rest := []) C (c_X5_openRings l E sa (μ := σ) (ov := ov) (zgaM ν q n).length (by rw [s63 63 (by decide)]; exact hR.2.2.1) (zgaM_56 ν q N7) (fun j hj => by rw [s63 60 (by decide)]; exact hR.ids j hj)) gX5_slips_X5_openRings rfl zfV_X5_openRings ⟨Nat.le_of_ble_eq_true rfl, Nat.le_of_ble_eq_true rfl⟩ rfl (zRec_X5 E) rfl (Nat.le_of_ble_eq_true rfl) ⟨Nat.zero_le _, Nat.zero_le _⟩ dX5_slips_75 (fun r9 μ9 ov9 hp => ?_)
            have e1 := hp.1.symm
            have e2 := hp.2.1.symm
            have e3 := hp.2.2.symm
            clear hp
            subst e1 e2 e3
            have hz2 := zcnt_le (zbdM σ) (zgaM ν q n).length
            have hz3 := zgaM_56 ν q N7
            refine z_if_ne (tgt := 88) (pc := 78) C dX5_slips_78 (by decide) (fun c_2 => ?_) (fun c_2 => ?_)
            · exact go (zslM ν κ q n (zgaM ν q n).length p9) (by rw [zslM]; exact (if_neg (fun h => c_2 (by rw [hσ, h.2]; rfl))).symm)
            · have c_2 : zcnt (zbdM σ) (zgaM ν q n).length = 0 := (nI_eq (b := 0) (by omega) (by omega)).mp c_2
              refine z_iload (i := 5) (pc := 81) C dX5_slips_81 rfl ?_
              refine z_istore3 (pc := 83) C (by decide) (fun w hw => by cases hw; exact (show ¬ (1 = 2) from by decide)) dX5_slips_83 ?_
              refine z_iload (i := 6) (pc := 84) C dX5_slips_84 rfl ?_
              refine z_istore4 (pc := 86) C (by decide) (fun w hw => by cases hw; exact (show ¬ (1 = 2) from by decide)) dX5_slips_86 ?_
              exact go (nI p9, zcsM ν q p9 n) (by rw [zslM]; exact (if_pos ⟨c_1, by rw [← hσ]; exact c_2⟩).symm)
    exact loop (3 ^ n) 0 (by omega) κ _ (fun _ _ => rfl) (fun _ => rfl)
  · rw [zb_eq0] at c_g
    refine z_iconst (v := 0) (pc := 14) C dX5_slips_14 (by decide) ?_
    exact z_iret (pc := 15) C hr hlk (Or.inr ⟨c_g, rfl, rfl, rfl⟩) (Nat.zero_le _) (Nat.zero_le _) dX5_slips_15
set_option maxHeartbeats 4000000 in
set_option maxRecDepth 100000 in
theorem c_X5_closes (l : Launch) (E : zE) (sa : Nat → Nat) {μ : zM} {ov : Nat → Int64} {a b c8 d : Int32} (t c0 nc n : Nat) (H : zMI μ t c0 nc n) : zMi l E sa yX5_closes wsX5_closes 4 96 0 0 [.ref (zob E 7), .int a, .int b, .int c8, .int d] μ ov (fun r μ1 ov1 => (((zmeaM μ a d ∧ zmeaM μ b d ∧ zmeaM μ c8 d) ∧ ((zmeaM μ a d ∧ zmeaM μ b d ∧ zmeaM μ c8 d) ∧ ¬ a = b ∧ ¬ a = c8 ∧ ¬ b = c8 ∧ zriM μ (zord a.toNatClampNeg b.toNatClampNeg c8.toNatClampNeg).1 (zord a.toNatClampNeg b.toNatClampNeg c8.toNatClampNeg).2.1 (zord a.toNatClampNeg b.toNatClampNeg c8.toNatClampNeg).2.2) ∧ (True)) ∧ r = zsumM μ d.toNatClampNeg (zord a.toNatClampNeg b.toNatClampNeg c8.toNatClampNeg) ∧ zScM (zu μ 63 19 0) μ1 ∧ ov1 = ov) ∨ (¬ ((zmeaM μ a d ∧ zmeaM μ b d ∧ zmeaM μ c8 d) ∧ ((zmeaM μ a d ∧ zmeaM μ b d ∧ zmeaM μ c8 d) ∧ ¬ a = b ∧ ¬ a = c8 ∧ ¬ b = c8 ∧ zriM μ (zord a.toNatClampNeg b.toNatClampNeg c8.toNatClampNeg).1 (zord a.toNatClampNeg b.toNatClampNeg c8.toNatClampNeg).2.1 (zord a.toNatClampNeg b.toNatClampNeg c8.toNatClampNeg).2.2) ∧ (True)) ∧ r = 0 ∧ μ1 = zu μ 63 19 (zgo (zmeaM μ a d ∧ zmeaM μ b d ∧ zmeaM μ c8 d) ((zmeaM μ a d ∧ zmeaM μ b d ∧ zmeaM μ c8 d) ∧ ¬ a = b ∧ ¬ a = c8 ∧ ¬ b = c8 ∧ zriM μ (zord a.toNatClampNeg b.toNatClampNeg c8.toNatClampNeg).1 (zord a.toNatClampNeg b.toNatClampNeg c8.toNatClampNeg).2.1 (zord a.toNatClampNeg b.toNatClampNeg c8.toNatClampNeg).2.2) (True)) ∧ ov1 = ov)) := by
  refine z_ofMi (cc := cX5_closes) (nL := 9) (ret := (some .int)) (own := RX5) zfp_X5_closes rfl (by simp [Value.category]) (Nat.le_of_ble_eq_true rfl) rfl ?_
  intro p e s m below meth c C hr hlk
  have iX5 : ∀ w ∈ wsX50, w ∈ wsX5_closes := by decide +kernel
  have f83 := C.1.2.2.2.2 (.fieldLink RX5 83 "TickFallModel" "sum" "[I") (by decide +kernel)
  have f161 := C.1.2.2.2.2 (.fieldLink RX5 161 "TickFallModel" "rings" "I") (by decide +kernel)
  show zW p l e (zR 4 96 0 0) s m [Value.ref (zob E 7), Value.int a, Value.int b, Value.int c8, Value.int d].toArray below meth c E 9 0 0 (MQ below (zQi E s.heap.size (fun r μ1 ov1 => (((zmeaM μ a d ∧ zmeaM μ b d ∧ zmeaM μ c8 d) ∧ ((zmeaM μ a d ∧ zmeaM μ b d ∧ zmeaM μ c8 d) ∧ ¬ a = b ∧ ¬ a = c8 ∧ ¬ b = c8 ∧ zriM μ (zord a.toNatClampNeg b.toNatClampNeg c8.toNatClampNeg).1 (zord a.toNatClampNeg b.toNatClampNeg c8.toNatClampNeg).2.1 (zord a.toNatClampNeg b.toNatClampNeg c8.toNatClampNeg).2.2) ∧ (True)) ∧ r = zsumM μ d.toNatClampNeg (zord a.toNatClampNeg b.toNatClampNeg c8.toNatClampNeg) ∧ zScM (zu μ 63 19 0) μ1 ∧ ov1 = ov) ∨ (¬ ((zmeaM μ a d ∧ zmeaM μ b d ∧ zmeaM μ c8 d) ∧ ((zmeaM μ a d ∧ zmeaM μ b d ∧ zmeaM μ c8 d) ∧ ¬ a = b ∧ ¬ a = c8 ∧ ¬ b = c8 ∧ zriM μ (zord a.toNatClampNeg b.toNatClampNeg c8.toNatClampNeg).1 (zord a.toNatClampNeg b.toNatClampNeg c8.toNatClampNeg).2.1 (zord a.toNatClampNeg b.toNatClampNeg c8.toNatClampNeg).2.2) ∧ (True)) ∧ r = 0 ∧ μ1 = zu μ 63 19 (zgo (zmeaM μ a d ∧ zmeaM μ b d ∧ zmeaM μ c8 d) ((zmeaM μ a d ∧ zmeaM μ b d ∧ zmeaM μ c8 d) ∧ ¬ a = b ∧ ¬ a = c8 ∧ ¬ b = c8 ∧ zriM μ (zord a.toNatClampNeg b.toNatClampNeg c8.toNatClampNeg).1 (zord a.toNatClampNeg b.toNatClampNeg c8.toNatClampNeg).2.1 (zord a.toNatClampNeg b.toNatClampNeg c8.toNatClampNeg).2.2) (True)) ∧ ov1 = ov))) [Value.ref (zob E 7), Value.int a, Value.int b, Value.int c8, Value.int d].toArray s 0 0 (zA E s.heap.size)) 0 [some (.ref (zob E 7)), some (.int (a)), some (.int (b)), some (.int (c8)), some (.int (d)), none, none, none, none] [] μ ov
  obtain ⟨H1, H2, H3, H4, H5, H6, H7, H8, H9⟩ := id H
  refine z_iloadn (i := 1) (pc := 0) C dX5_closes_0 rfl rfl ?_
  refine z_iloadn (i := 2) (pc := 1) C dX5_closes_1 rfl rfl ?_
  refine z_iloadn (i := 3) (pc := 2) C dX5_closes_2 rfl rfl ?_
  refine z_callSi (pc := 3) (n := 3) (As := [.int (a), .int (b), .int (c8)]) (rest := []) C (c_X5_least l E sa (μ := μ) (ov := ov) a b c8) gX5_closes_X5_least rfl zfV_X5_least.2 ⟨Nat.le_of_ble_eq_true rfl, Nat.le_of_ble_eq_true rfl⟩ rfl rfl (Nat.le_of_ble_eq_true rfl) ⟨Nat.zero_le _, Nat.zero_le _⟩ dX5_closes_3 (fun r9 μ9 ov9 hp => ?_)
  have e1 := hp.1.symm
  have e2 := hp.2.1.symm
  have e3 := hp.2.2.symm
  clear hp
  subst e1 e2 e3
  refine z_istore5 (pc := 6) C (by decide) (fun w hw => by cases hw; exact (show ¬ (1 = 2) from by decide)) dX5_closes_6 ?_
  refine z_iloadn (i := 1) (pc := 8) C dX5_closes_8 rfl rfl ?_
  refine z_iloadn (i := 2) (pc := 9) C dX5_closes_9 rfl rfl ?_
  refine z_iloadn (i := 3) (pc := 10) C dX5_closes_10 rfl rfl ?_
  refine z_callSi (pc := 11) (n := 3) (As := [.int (a), .int (b), .int (c8)]) (rest := []) C (c_X5_most l E sa (μ := μ) (ov := ov) a b c8) gX5_closes_X5_most rfl zfV_X5_most.2 ⟨Nat.le_of_ble_eq_true rfl, Nat.le_of_ble_eq_true rfl⟩ rfl rfl (Nat.le_of_ble_eq_true rfl) ⟨Nat.zero_le _, Nat.zero_le _⟩ dX5_closes_11 (fun r9 μ9 ov9 hp => ?_)
  have e1 := hp.1.symm
  have e2 := hp.2.1.symm
  have e3 := hp.2.2.symm
  clear hp
  subst e1 e2 e3
  refine z_istore6 (pc := 14) C (by decide) (fun w hw => by cases hw; exact (show ¬ (1 = 2) from by decide)) dX5_closes_14 ?_
  have gmid : ∀ v : Int32, v = zmdX a b c8 → zW p l e (zR 4 96 0 0) s m [Value.ref (zob E 7), Value.int a, Value.int b, Value.int c8, Value.int d].toArray below meth c E 9 0 0 (MQ below (zQi E s.heap.size (fun r μ1 ov1 => (((zmeaM μ a d ∧ zmeaM μ b d ∧ zmeaM μ c8 d) ∧ ((zmeaM μ a d ∧ zmeaM μ b d ∧ zmeaM μ c8 d) ∧ ¬ a = b ∧ ¬ a = c8 ∧ ¬ b = c8 ∧ zriM μ (zord a.toNatClampNeg b.toNatClampNeg c8.toNatClampNeg).1 (zord a.toNatClampNeg b.toNatClampNeg c8.toNatClampNeg).2.1 (zord a.toNatClampNeg b.toNatClampNeg c8.toNatClampNeg).2.2) ∧ (True)) ∧ r = zsumM μ d.toNatClampNeg (zord a.toNatClampNeg b.toNatClampNeg c8.toNatClampNeg) ∧ zScM (zu μ 63 19 0) μ1 ∧ ov1 = ov) ∨ (¬ ((zmeaM μ a d ∧ zmeaM μ b d ∧ zmeaM μ c8 d) ∧ ((zmeaM μ a d ∧ zmeaM μ b d ∧ zmeaM μ c8 d) ∧ ¬ a = b ∧ ¬ a = c8 ∧ ¬ b = c8 ∧ zriM μ (zord a.toNatClampNeg b.toNatClampNeg c8.toNatClampNeg).1 (zord a.toNatClampNeg b.toNatClampNeg c8.toNatClampNeg).2.1 (zord a.toNatClampNeg b.toNatClampNeg c8.toNatClampNeg).2.2) ∧ (True)) ∧ r = 0 ∧ μ1 = zu μ 63 19 (zgo (zmeaM μ a d ∧ zmeaM μ b d ∧ zmeaM μ c8 d) ((zmeaM μ a d ∧ zmeaM μ b d ∧ zmeaM μ c8 d) ∧ ¬ a = b ∧ ¬ a = c8 ∧ ¬ b = c8 ∧ zriM μ (zord a.toNatClampNeg b.toNatClampNeg c8.toNatClampNeg).1 (zord a.toNatClampNeg b.toNatClampNeg c8.toNatClampNeg).2.1 (zord a.toNatClampNeg b.toNatClampNeg c8.toNatClampNeg).2.2) (True)) ∧ ov1 = ov))) [Value.ref (zob E 7), Value.int a, Value.int b, Value.int c8, Value.int d].toArray s 0 0 (zA E s.heap.size)) 49 [some (.ref (zob E 7)), some (.int (a)), some (.int (b)), some (.int (c8)), some (.int (d)), some (.int (zlst a b c8)), some (.int (-zlst (-a) (-b) (-c8))), none, none] [.int (v)] μ ov := by
    intro v hv
    subst hv
    refine z_istore7 (pc := 49) C (by decide) (fun w hw => by cases hw; exact (show ¬ (1 = 2) from by decide)) dX5_closes_49 ?_
    have J1 : ∀ v : Int32, v = zb (zmeaM μ a d ∧ zmeaM μ b d ∧ zmeaM μ c8 d) → zW p l e (zR 4 96 0 0) s m [Value.ref (zob E 7), Value.int a, Value.int b, Value.int c8, Value.int d].toArray below meth c E 9 0 0 (MQ below (zQi E s.heap.size (fun r μ1 ov1 => (((zmeaM μ a d ∧ zmeaM μ b d ∧ zmeaM μ c8 d) ∧ ((zmeaM μ a d ∧ zmeaM μ b d ∧ zmeaM μ c8 d) ∧ ¬ a = b ∧ ¬ a = c8 ∧ ¬ b = c8 ∧ zriM μ (zord a.toNatClampNeg b.toNatClampNeg c8.toNatClampNeg).1 (zord a.toNatClampNeg b.toNatClampNeg c8.toNatClampNeg).2.1 (zord a.toNatClampNeg b.toNatClampNeg c8.toNatClampNeg).2.2) ∧ (True)) ∧ r = zsumM μ d.toNatClampNeg (zord a.toNatClampNeg b.toNatClampNeg c8.toNatClampNeg) ∧ zScM (zu μ 63 19 0) μ1 ∧ ov1 = ov) ∨ (¬ ((zmeaM μ a d ∧ zmeaM μ b d ∧ zmeaM μ c8 d) ∧ ((zmeaM μ a d ∧ zmeaM μ b d ∧ zmeaM μ c8 d) ∧ ¬ a = b ∧ ¬ a = c8 ∧ ¬ b = c8 ∧ zriM μ (zord a.toNatClampNeg b.toNatClampNeg c8.toNatClampNeg).1 (zord a.toNatClampNeg b.toNatClampNeg c8.toNatClampNeg).2.1 (zord a.toNatClampNeg b.toNatClampNeg c8.toNatClampNeg).2.2) ∧ (True)) ∧ r = 0 ∧ μ1 = zu μ 63 19 (zgo (zmeaM μ a d ∧ zmeaM μ b d ∧ zmeaM μ c8 d) ((zmeaM μ a d ∧ zmeaM μ b d ∧ zmeaM μ c8 d) ∧ ¬ a = b ∧ ¬ a = c8 ∧ ¬ b = c8 ∧ zriM μ (zord a.toNatClampNeg b.toNatClampNeg c8.toNatClampNeg).1 (zord a.toNatClampNeg b.toNatClampNeg c8.toNatClampNeg).2.1 (zord a.toNatClampNeg b.toNatClampNeg c8.toNatClampNeg).2.2) (True)) ∧ ov1 = ov))) [Value.ref (zob E 7), Value.int a, Value.int b, Value.int c8, Value.int d].toArray s 0 0 (zA E s.heap.size)) 86 [some (.ref (zob E 7)), some (.int (a)), some (.int (b)), some (.int (c8)), some (.int (d)), some (.int (zlst a b c8)), some (.int (-zlst (-a) (-b) (-c8))), some (.int (zmdX a b c8)), none] [.int (v)] μ ov := by
      intro v hv
      subst hv
      refine z_istore8 (pc := 86) C (by decide) (fun w hw => by cases hw; exact (show ¬ (1 = 2) from by decide)) dX5_closes_86 ?_
      refine z_aloadn (i := 0) (pc := 88) C dX5_closes_88 rfl rfl ?_
      refine z_iload (i := 8) (pc := 89) C dX5_closes_89 rfl ?_
      have J2 : ∀ v : Int32, v = zb ((zmeaM μ a d ∧ zmeaM μ b d ∧ zmeaM μ c8 d) ∧ ¬ a = b ∧ ¬ a = c8 ∧ ¬ b = c8 ∧ zriM μ (zord a.toNatClampNeg b.toNatClampNeg c8.toNatClampNeg).1 (zord a.toNatClampNeg b.toNatClampNeg c8.toNatClampNeg).2.1 (zord a.toNatClampNeg b.toNatClampNeg c8.toNatClampNeg).2.2) → zW p l e (zR 4 96 0 0) s m [Value.ref (zob E 7), Value.int a, Value.int b, Value.int c8, Value.int d].toArray below meth c E 9 0 0 (MQ below (zQi E s.heap.size (fun r μ1 ov1 => (((zmeaM μ a d ∧ zmeaM μ b d ∧ zmeaM μ c8 d) ∧ ((zmeaM μ a d ∧ zmeaM μ b d ∧ zmeaM μ c8 d) ∧ ¬ a = b ∧ ¬ a = c8 ∧ ¬ b = c8 ∧ zriM μ (zord a.toNatClampNeg b.toNatClampNeg c8.toNatClampNeg).1 (zord a.toNatClampNeg b.toNatClampNeg c8.toNatClampNeg).2.1 (zord a.toNatClampNeg b.toNatClampNeg c8.toNatClampNeg).2.2) ∧ (True)) ∧ r = zsumM μ d.toNatClampNeg (zord a.toNatClampNeg b.toNatClampNeg c8.toNatClampNeg) ∧ zScM (zu μ 63 19 0) μ1 ∧ ov1 = ov) ∨ (¬ ((zmeaM μ a d ∧ zmeaM μ b d ∧ zmeaM μ c8 d) ∧ ((zmeaM μ a d ∧ zmeaM μ b d ∧ zmeaM μ c8 d) ∧ ¬ a = b ∧ ¬ a = c8 ∧ ¬ b = c8 ∧ zriM μ (zord a.toNatClampNeg b.toNatClampNeg c8.toNatClampNeg).1 (zord a.toNatClampNeg b.toNatClampNeg c8.toNatClampNeg).2.1 (zord a.toNatClampNeg b.toNatClampNeg c8.toNatClampNeg).2.2) ∧ (True)) ∧ r = 0 ∧ μ1 = zu μ 63 19 (zgo (zmeaM μ a d ∧ zmeaM μ b d ∧ zmeaM μ c8 d) ((zmeaM μ a d ∧ zmeaM μ b d ∧ zmeaM μ c8 d) ∧ ¬ a = b ∧ ¬ a = c8 ∧ ¬ b = c8 ∧ zriM μ (zord a.toNatClampNeg b.toNatClampNeg c8.toNatClampNeg).1 (zord a.toNatClampNeg b.toNatClampNeg c8.toNatClampNeg).2.1 (zord a.toNatClampNeg b.toNatClampNeg c8.toNatClampNeg).2.2) (True)) ∧ ov1 = ov))) [Value.ref (zob E 7), Value.int a, Value.int b, Value.int c8, Value.int d].toArray s 0 0 (zA E s.heap.size)) 129 [some (.ref (zob E 7)), some (.int (a)), some (.int (b)), some (.int (c8)), some (.int (d)), some (.int (zlst a b c8)), some (.int (-zlst (-a) (-b) (-c8))), some (.int (zmdX a b c8)), some (.int (zb (zmeaM μ a d ∧ zmeaM μ b d ∧ zmeaM μ c8 d)))] [.int (v), .int (zb (zmeaM μ a d ∧ zmeaM μ b d ∧ zmeaM μ c8 d)), .ref (zob E 7)] μ ov := by
        intro v hv
        subst hv
        refine z_iconst (v := 1) (pc := 129) C dX5_closes_129 (by decide) ?_
        refine z_callVi (pc := 130) (n := 3) (As := [.int (zb (zmeaM μ a d ∧ zmeaM μ b d ∧ zmeaM μ c8 d)), .int (zb ((zmeaM μ a d ∧ zmeaM μ b d ∧ zmeaM μ c8 d) ∧ ¬ a = b ∧ ¬ a = c8 ∧ ¬ b = c8 ∧ zriM μ (zord a.toNatClampNeg b.toNatClampNeg c8.toNatClampNeg).1 (zord a.toNatClampNeg b.toNatClampNeg c8.toNatClampNeg).2.1 (zord a.toNatClampNeg b.toNatClampNeg c8.toNatClampNeg).2.2)), .int (1)]) (rest := []) C (c_X5_goes l E sa (μ := μ) (ov := ov) (zmeaM μ a d ∧ zmeaM μ b d ∧ zmeaM μ c8 d) ((zmeaM μ a d ∧ zmeaM μ b d ∧ zmeaM μ c8 d) ∧ ¬ a = b ∧ ¬ a = c8 ∧ ¬ b = c8 ∧ zriM μ (zord a.toNatClampNeg b.toNatClampNeg c8.toNatClampNeg).1 (zord a.toNatClampNeg b.toNatClampNeg c8.toNatClampNeg).2.1 (zord a.toNatClampNeg b.toNatClampNeg c8.toNatClampNeg).2.2) (True) rfl rfl (zb_t trivial).symm) gX5_closes_X5_goes rfl zfV_X5_goes ⟨Nat.le_of_ble_eq_true rfl, Nat.le_of_ble_eq_true rfl⟩ rfl (zRec_X5 E) rfl (Nat.le_of_ble_eq_true rfl) ⟨Nat.zero_le _, Nat.zero_le _⟩ dX5_closes_130 (fun r9 μ9 ov9 hp => ?_)
        have e1 := hp.1.symm
        have e2 := hp.2.1.symm
        have e3 := hp.2.2.symm
        clear hp
        subst e1 e2 e3
        refine z_if_ne (tgt := 138) (pc := 133) C dX5_closes_133 (by decide) (fun c_g => ?_) (fun c_g => ?_)
        · rw [zb_ne0] at c_g
          obtain ⟨ν, hν⟩ : ∃ ν, ν = zu μ 63 19 0 := ⟨_, rfl⟩
          have hk : ∀ b, b ≠ 63 → ν b = μ b := fun b h => by rw [hν]; exact zu_n _ _ _ h
          have h63 : ∀ j, j ≠ 19 → ν 63 j = μ 63 j := fun j h => by rw [hν, zu_s, upd_n _ _ h]
          refine z_mem (μ' := ν) (by rw [hν, zgo_t c_g]) ?_
          obtain ⟨q, h1q, hq, hdq⟩ := znat2 (n := t) c_g.1.1.1.1 (by rw [← H1]; exact c_g.1.1.1.2) (by omega)
          have edq : d.toNatClampNeg = q := by rw [hdq, nI_clamp (by omega)]
          obtain ⟨k1, hk1, ek1⟩ := znat (n := n) c_g.1.1.2.1.1 (by rw [← H6]; exact c_g.1.1.2.1.2) (by omega)
          have tk1 : a.toNatClampNeg = k1 := by rw [ek1, nI_clamp (by omega)]
          obtain ⟨k2, hk2, ek2⟩ := znat (n := n) c_g.1.2.1.2.1.1 (by rw [← H6]; exact c_g.1.2.1.2.1.2) (by omega)
          have tk2 : b.toNatClampNeg = k2 := by rw [ek2, nI_clamp (by omega)]
          obtain ⟨k3, hk3, ek3⟩ := znat (n := n) c_g.1.2.2.2.1.1 (by rw [← H6]; exact c_g.1.2.2.2.1.2) (by omega)
          have tk3 : c8.toNatClampNeg = k3 := by rw [ek3, nI_clamp (by omega)]
          have n12 : ¬ k1 = k2 := fun e => c_g.2.1.2.1 (by rw [ek1, ek2, e])
          have n13 : ¬ k1 = k3 := fun e => c_g.2.1.2.2.1 (by rw [ek1, ek3, e])
          have n23 : ¬ k2 = k3 := fun e => c_g.2.1.2.2.2.1 (by rw [ek2, ek3, e])
          have elo : zlst a b c8 = nI (zord k1 k2 k3).1 := by rw [ek1, ek2, ek3]; exact zlst3 k1 (by omega) k2 (by omega) k3 (by omega)
          have ehi : -zlst (-a) (-b) (-c8) = nI (zord k1 k2 k3).2.2 := by rw [ek1, ek2, ek3]; exact zlst4 k1 (by omega) k2 (by omega) k3 (by omega)
          have emd : zmdX a b c8 = nI (zord k1 k2 k3).2.1 := by rw [ek1, ek2, ek3]; exact (((zlst5 k1 (by omega) k2 (by omega) k3 (by omega)).resolve_left n12).resolve_left n13).resolve_left n23
          obtain ⟨o1, o2, o3⟩ := zord_lt (a := k1) (b := k2) (c := k3) (by omega) (by omega) (by omega)
          have Hν : zMI ν t c0 nc n := H.nu hk h63
          refine z_aloadn (i := 0) (pc := 138) C dX5_closes_138 rfl rfl ?_
          refine z_iconst (v := 0) (pc := 139) C dX5_closes_139 (by decide) ?_
          refine zp_X5_rings (pc := 140) C dX5_closes_140 iX5 f161 ?_
          refine z_aloadn (i := 0) (pc := 143) C dX5_closes_143 rfl rfl ?_
          refine z_iload (i := 5) (pc := 144) C dX5_closes_144 rfl ?_
          refine z_iload (i := 7) (pc := 146) C dX5_closes_146 rfl ?_
          refine z_iload (i := 6) (pc := 148) C dX5_closes_148 rfl ?_
          refine z_iload (i := 4) (pc := 150) C dX5_closes_150 rfl ?_
          refine z_callVv (pc := 152) (n := 4) (As := [.int (zlst a b c8), .int (zmdX a b c8), .int (-zlst (-a) (-b) (-c8)), .int (d)]) (rest := []) C (c_X5_laysRing l E sa (μ := (zu ν 63 18 0)) (ov := ov) (zord k1 k2 k3).1 (zord k1 k2 k3).2.1 (zord k1 k2 k3).2.2 q 0 elo emd ehi o1 o2 o3 hdq h1q (by omega) (by rw [zu_s, upd_s]; rfl) (by decide) (fun z hz => by rw [zu_n _ _ _ (by decide)]; exact Hν.2.2.2.2.2.2.2.2 z hz)) gX5_closes_X5_laysRing rfl zfV_X5_laysRing ⟨Nat.le_of_ble_eq_true rfl, Nat.le_of_ble_eq_true rfl⟩ rfl (zRec_X5 E) rfl (Nat.le_of_ble_eq_true rfl) ⟨Nat.zero_le _, Nat.zero_le _⟩ dX5_closes_152 (fun μ9 ov9 hp => ?_)
          have e2 := hp.1.symm
          have e3 := hp.2.symm
          clear hp
          subst e2 e3
          refine z_aloadn (i := 0) (pc := 155) C dX5_closes_155 rfl rfl ?_
          refine zg_X5_sum (pc := 156) C dX5_closes_156 iX5 f83 ?_
          refine z_iconst (v := 0) (pc := 159) C dX5_closes_159 (by decide) ?_
          refine z_iald (pc := 160) C 62 0 (by decide) rfl rfl (show 0 < 56 from by omega) dX5_closes_160 ?_
          exact z_iret (pc := 161) C hr hlk (Or.inl ⟨c_g, by rw [zrgM_62, upd_s, tk1, tk2, tk3, edq]; exact zsumM_cg (fun b hb => by rw [zu_n _ _ _ (by omega)]; exact hk b (by omega)) q _, ⟨fun b h9 h0 h1 h2 h3 => by rw [zrgM_k _ _ _ _ _ _ h0 h1 h2 h3, zu_n _ _ _ h3, hν], fun j hj => by rw [zrgM_63, upd_n _ _ hj, zu_s, upd_n _ _ hj, hν]⟩, rfl⟩) (Nat.zero_le _) (Nat.zero_le _) dX5_closes_161
        · rw [zb_eq0] at c_g
          refine z_iconst (v := 0) (pc := 136) C dX5_closes_136 (by decide) ?_
          exact z_iret (pc := 137) C hr hlk (Or.inr ⟨c_g, rfl, rfl, rfl⟩) (Nat.zero_le _) (Nat.zero_le _) dX5_closes_137
      refine z_iload (i := 8) (pc := 91) C dX5_closes_91 rfl ?_
      refine z_if_eq (tgt := 128) (pc := 93) C dX5_closes_93 (by decide) (fun c_5 => ?_) (fun c_5 => ?_)
      · rw [zb_eq0] at c_5
        refine z_iconst (v := 0) (pc := 128) C dX5_closes_128 (by decide) ?_
        exact J2 _ (zb_f (fun h => c_5 h.1)).symm
      · rw [zb_ne0] at c_5
        refine z_iloadn (i := 1) (pc := 96) C dX5_closes_96 rfl rfl ?_
        refine z_iloadn (i := 2) (pc := 97) C dX5_closes_97 rfl rfl ?_
        refine z_icmp_eq (tgt := 128) (pc := 98) C dX5_closes_98 (by decide) (fun c_6 => ?_) (fun c_6 => ?_)
        · refine z_iconst (v := 0) (pc := 128) C dX5_closes_128 (by decide) ?_
          exact J2 _ (zb_f (fun h => h.2.1 c_6)).symm
        · refine z_iloadn (i := 1) (pc := 101) C dX5_closes_101 rfl rfl ?_
          refine z_iloadn (i := 3) (pc := 102) C dX5_closes_102 rfl rfl ?_
          refine z_icmp_eq (tgt := 128) (pc := 103) C dX5_closes_103 (by decide) (fun c_7 => ?_) (fun c_7 => ?_)
          · refine z_iconst (v := 0) (pc := 128) C dX5_closes_128 (by decide) ?_
            exact J2 _ (zb_f (fun h => h.2.2.1 c_7)).symm
          · refine z_iloadn (i := 2) (pc := 106) C dX5_closes_106 rfl rfl ?_
            refine z_iloadn (i := 3) (pc := 107) C dX5_closes_107 rfl rfl ?_
            refine z_icmp_eq (tgt := 128) (pc := 108) C dX5_closes_108 (by decide) (fun c_8 => ?_) (fun c_8 => ?_)
            · refine z_iconst (v := 0) (pc := 128) C dX5_closes_128 (by decide) ?_
              exact J2 _ (zb_f (fun h => h.2.2.2.1 c_8)).symm
            · obtain ⟨q, h1q, hq, hdq⟩ := znat2 (n := t) c_5.1.1.1 (by rw [← H1]; exact c_5.1.1.2) (by omega)
              have edq : d.toNatClampNeg = q := by rw [hdq, nI_clamp (by omega)]
              obtain ⟨k1, hk1, ek1⟩ := znat (n := n) c_5.1.2.1.1 (by rw [← H6]; exact c_5.1.2.1.2) (by omega)
              have tk1 : a.toNatClampNeg = k1 := by rw [ek1, nI_clamp (by omega)]
              obtain ⟨k2, hk2, ek2⟩ := znat (n := n) c_5.2.1.2.1.1 (by rw [← H6]; exact c_5.2.1.2.1.2) (by omega)
              have tk2 : b.toNatClampNeg = k2 := by rw [ek2, nI_clamp (by omega)]
              obtain ⟨k3, hk3, ek3⟩ := znat (n := n) c_5.2.2.2.1.1 (by rw [← H6]; exact c_5.2.2.2.1.2) (by omega)
              have tk3 : c8.toNatClampNeg = k3 := by rw [ek3, nI_clamp (by omega)]
              have n12 : ¬ k1 = k2 := fun e => c_6 (by rw [ek1, ek2, e])
              have n13 : ¬ k1 = k3 := fun e => c_7 (by rw [ek1, ek3, e])
              have n23 : ¬ k2 = k3 := fun e => c_8 (by rw [ek2, ek3, e])
              have elo : zlst a b c8 = nI (zord k1 k2 k3).1 := by rw [ek1, ek2, ek3]; exact zlst3 k1 (by omega) k2 (by omega) k3 (by omega)
              have ehi : -zlst (-a) (-b) (-c8) = nI (zord k1 k2 k3).2.2 := by rw [ek1, ek2, ek3]; exact zlst4 k1 (by omega) k2 (by omega) k3 (by omega)
              have emd : zmdX a b c8 = nI (zord k1 k2 k3).2.1 := by rw [ek1, ek2, ek3]; exact (((zlst5 k1 (by omega) k2 (by omega) k3 (by omega)).resolve_left n12).resolve_left n13).resolve_left n23
              obtain ⟨o1, o2, o3⟩ := zord_lt (a := k1) (b := k2) (c := k3) (by omega) (by omega) (by omega)
              refine z_aloadn (i := 0) (pc := 111) C dX5_closes_111 rfl rfl ?_
              refine z_iload (i := 5) (pc := 112) C dX5_closes_112 rfl ?_
              refine z_iload (i := 7) (pc := 114) C dX5_closes_114 rfl ?_
              refine z_iload (i := 6) (pc := 116) C dX5_closes_116 rfl ?_
              refine z_callVi (pc := 118) (n := 3) (As := [.int (zlst a b c8), .int (zmdX a b c8), .int (-zlst (-a) (-b) (-c8))]) (rest := [.int (zb (zmeaM μ a d ∧ zmeaM μ b d ∧ zmeaM μ c8 d)), .ref (zob E 7)]) C (c_X5_isRing l E sa (μ := μ) (ov := ov) (zord k1 k2 k3).1 (zord k1 k2 k3).2.1 (zord k1 k2 k3).2.2 elo emd ehi o1 o2 o3) gX5_closes_X5_isRing rfl zfV_X5_isRing ⟨Nat.le_of_ble_eq_true rfl, Nat.le_of_ble_eq_true rfl⟩ rfl (zRec_X5 E) rfl (Nat.le_of_ble_eq_true rfl) ⟨Nat.zero_le _, Nat.zero_le _⟩ dX5_closes_118 (fun r9 μ9 ov9 hp => ?_)
              have e1 := hp.1.symm
              have e2 := hp.2.1.symm
              have e3 := hp.2.2.symm
              clear hp
              subst e1 e2 e3
              refine z_if_eq (tgt := 128) (pc := 121) C dX5_closes_121 (by decide) (fun c_9 => ?_) (fun c_9 => ?_)
              · rw [zb_eq0] at c_9
                refine z_iconst (v := 0) (pc := 128) C dX5_closes_128 (by decide) ?_
                exact J2 _ (zb_f (fun h => c_9 (by have x := h.2.2.2.2; rw [tk1, tk2, tk3] at x; exact x))).symm
              · rw [zb_ne0] at c_9
                refine z_iconst (v := 1) (pc := 124) C dX5_closes_124 (by decide) ?_
                refine z_goto (tgt := 129) (pc := 125) C dX5_closes_125 (by decide) ?_
                exact J2 _ (zb_t ⟨c_5, c_6, c_7, c_8, by rw [tk1, tk2, tk3]; exact c_9⟩).symm
    refine z_aloadn (i := 0) (pc := 51) C dX5_closes_51 rfl rfl ?_
    refine z_iloadn (i := 1) (pc := 52) C dX5_closes_52 rfl rfl ?_
    refine z_iload (i := 4) (pc := 53) C dX5_closes_53 rfl ?_
    refine z_callVi (pc := 55) (n := 2) (As := [.int (a), .int (d)]) (rest := []) C (c_X5_hasMeasured l E sa (μ := μ) (ov := ov) a d n H6 H7) gX5_closes_X5_hasMeasured rfl zfV_X5_hasMeasured ⟨Nat.le_of_ble_eq_true rfl, Nat.le_of_ble_eq_true rfl⟩ rfl (zRec_X5 E) rfl (Nat.le_of_ble_eq_true rfl) ⟨Nat.zero_le _, Nat.zero_le _⟩ dX5_closes_55 (fun r9 μ9 ov9 hp => ?_)
    have e1 := hp.1.symm
    have e2 := hp.2.1.symm
    have e3 := hp.2.2.symm
    clear hp
    subst e1 e2 e3
    refine z_if_eq (tgt := 85) (pc := 58) C dX5_closes_58 (by decide) (fun c_1 => ?_) (fun c_1 => ?_)
    · rw [zb_eq0] at c_1
      refine z_iconst (v := 0) (pc := 85) C dX5_closes_85 (by decide) ?_
      exact J1 _ (zb_f (fun h => c_1 (h.1))).symm
    · rw [zb_ne0] at c_1
      refine z_aloadn (i := 0) (pc := 61) C dX5_closes_61 rfl rfl ?_
      refine z_iloadn (i := 2) (pc := 62) C dX5_closes_62 rfl rfl ?_
      refine z_iload (i := 4) (pc := 63) C dX5_closes_63 rfl ?_
      refine z_callVi (pc := 65) (n := 2) (As := [.int (b), .int (d)]) (rest := []) C (c_X5_hasMeasured l E sa (μ := μ) (ov := ov) b d n H6 H7) gX5_closes_X5_hasMeasured rfl zfV_X5_hasMeasured ⟨Nat.le_of_ble_eq_true rfl, Nat.le_of_ble_eq_true rfl⟩ rfl (zRec_X5 E) rfl (Nat.le_of_ble_eq_true rfl) ⟨Nat.zero_le _, Nat.zero_le _⟩ dX5_closes_65 (fun r9 μ9 ov9 hp => ?_)
      have e1 := hp.1.symm
      have e2 := hp.2.1.symm
      have e3 := hp.2.2.symm
      clear hp
      subst e1 e2 e3
      refine z_if_eq (tgt := 85) (pc := 68) C dX5_closes_68 (by decide) (fun c_2 => ?_) (fun c_2 => ?_)
      · rw [zb_eq0] at c_2
        refine z_iconst (v := 0) (pc := 85) C dX5_closes_85 (by decide) ?_
        exact J1 _ (zb_f (fun h => c_2 (h.2.1))).symm
      · rw [zb_ne0] at c_2
        refine z_aloadn (i := 0) (pc := 71) C dX5_closes_71 rfl rfl ?_
        refine z_iloadn (i := 3) (pc := 72) C dX5_closes_72 rfl rfl ?_
        refine z_iload (i := 4) (pc := 73) C dX5_closes_73 rfl ?_
        refine z_callVi (pc := 75) (n := 2) (As := [.int (c8), .int (d)]) (rest := []) C (c_X5_hasMeasured l E sa (μ := μ) (ov := ov) c8 d n H6 H7) gX5_closes_X5_hasMeasured rfl zfV_X5_hasMeasured ⟨Nat.le_of_ble_eq_true rfl, Nat.le_of_ble_eq_true rfl⟩ rfl (zRec_X5 E) rfl (Nat.le_of_ble_eq_true rfl) ⟨Nat.zero_le _, Nat.zero_le _⟩ dX5_closes_75 (fun r9 μ9 ov9 hp => ?_)
        have e1 := hp.1.symm
        have e2 := hp.2.1.symm
        have e3 := hp.2.2.symm
        clear hp
        subst e1 e2 e3
        refine z_if_eq (tgt := 85) (pc := 78) C dX5_closes_78 (by decide) (fun c_3 => ?_) (fun c_3 => ?_)
        · rw [zb_eq0] at c_3
          refine z_iconst (v := 0) (pc := 85) C dX5_closes_85 (by decide) ?_
          exact J1 _ (zb_f (fun h => c_3 (h.2.2))).symm
        · rw [zb_ne0] at c_3
          refine z_iconst (v := 1) (pc := 81) C dX5_closes_81 (by decide) ?_
          refine z_goto (tgt := 86) (pc := 82) C dX5_closes_82 (by decide) ?_
          exact J1 _ (zb_t ⟨c_1, c_2, c_3⟩).symm
  refine z_iloadn (i := 1) (pc := 16) C dX5_closes_16 rfl rfl ?_
  refine z_iload (i := 5) (pc := 17) C dX5_closes_17 rfl ?_
  refine z_icmp_eq (tgt := 32) (pc := 19) C dX5_closes_19 (by decide) (fun c_1 => ?_) (fun c_1 => ?_)
  · refine z_iloadn (i := 2) (pc := 32) C dX5_closes_32 rfl rfl ?_
    refine z_iload (i := 5) (pc := 33) C dX5_closes_33 rfl ?_
    refine z_icmp_eq (tgt := 48) (pc := 35) C dX5_closes_35 (by decide) (fun c_3 => ?_) (fun c_3 => ?_)
    · refine z_iloadn (i := 3) (pc := 48) C dX5_closes_48 rfl rfl ?_
      exact gmid _ (by unfold zmdX; rw [if_pos (Or.inl c_1), if_pos (Or.inl c_3)])
    · refine z_iloadn (i := 2) (pc := 38) C dX5_closes_38 rfl rfl ?_
      refine z_iload (i := 6) (pc := 39) C dX5_closes_39 rfl ?_
      refine z_icmp_eq (tgt := 48) (pc := 41) C dX5_closes_41 (by decide) (fun c_4 => ?_) (fun c_4 => ?_)
      · refine z_iloadn (i := 3) (pc := 48) C dX5_closes_48 rfl rfl ?_
        exact gmid _ (by unfold zmdX; rw [if_pos (Or.inl c_1), if_pos (Or.inr c_4)])
      · refine z_iloadn (i := 2) (pc := 44) C dX5_closes_44 rfl rfl ?_
        refine z_goto (tgt := 49) (pc := 45) C dX5_closes_45 (by decide) ?_
        exact gmid _ (by unfold zmdX; rw [if_pos (Or.inl c_1), if_neg (fun h => h.elim c_3 c_4)])
  · refine z_iloadn (i := 1) (pc := 22) C dX5_closes_22 rfl rfl ?_
    refine z_iload (i := 6) (pc := 23) C dX5_closes_23 rfl ?_
    refine z_icmp_eq (tgt := 32) (pc := 25) C dX5_closes_25 (by decide) (fun c_2 => ?_) (fun c_2 => ?_)
    · refine z_iloadn (i := 2) (pc := 32) C dX5_closes_32 rfl rfl ?_
      refine z_iload (i := 5) (pc := 33) C dX5_closes_33 rfl ?_
      refine z_icmp_eq (tgt := 48) (pc := 35) C dX5_closes_35 (by decide) (fun c_3 => ?_) (fun c_3 => ?_)
      · refine z_iloadn (i := 3) (pc := 48) C dX5_closes_48 rfl rfl ?_
        exact gmid _ (by unfold zmdX; rw [if_pos (Or.inr c_2), if_pos (Or.inl c_3)])
      · refine z_iloadn (i := 2) (pc := 38) C dX5_closes_38 rfl rfl ?_
        refine z_iload (i := 6) (pc := 39) C dX5_closes_39 rfl ?_
        refine z_icmp_eq (tgt := 48) (pc := 41) C dX5_closes_41 (by decide) (fun c_4 => ?_) (fun c_4 => ?_)
        · refine z_iloadn (i := 3) (pc := 48) C dX5_closes_48 rfl rfl ?_
          exact gmid _ (by unfold zmdX; rw [if_pos (Or.inr c_2), if_pos (Or.inr c_4)])
        · refine z_iloadn (i := 2) (pc := 44) C dX5_closes_44 rfl rfl ?_
          refine z_goto (tgt := 49) (pc := 45) C dX5_closes_45 (by decide) ?_
          exact gmid _ (by unfold zmdX; rw [if_pos (Or.inr c_2), if_neg (fun h => h.elim c_3 c_4)])
    · refine z_iloadn (i := 1) (pc := 28) C dX5_closes_28 rfl rfl ?_
      refine z_goto (tgt := 49) (pc := 29) C dX5_closes_29 (by decide) ?_
      exact gmid _ (by unfold zmdX; rw [if_neg (fun h => h.elim c_1 c_2)])
