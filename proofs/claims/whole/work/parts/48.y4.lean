set_option maxHeartbeats 4000000 in
set_option maxRecDepth 100000 in
theorem c_X5_goesBy (l : Launch) (E : zE) (sa : Nat → Nat) {μ : zM} {ov : Nat → Int64} {k9 fr d : Int32} (k j q r9 : Nat) (hk1 : k9 = nI k) (hk8 : k < 8) (hj : j < 3) (hd : d = nI q) (h1q : 1 ≤ q) (hq : q < 501) (hr9 : μ 63 18 = nI r9) (hrr : r9 < 56) (hg : zGv μ) : zMv l E sa yX5_goesBy wsX5_goesBy 2 46 0 0 [.ref (zob E 7), .int k9, .int fr, .int (nI j), .int d] μ ov (fun μ1 ov1 => μ1 = zgbM μ r9 k fr j q ∧ ov1 = ov) := by
  refine z_ofMv (cc := cX5_goesBy) (nL := 6) (ret := none) (own := RX5) zfp_X5_goesBy rfl (by simp [Value.category]) (Nat.le_of_ble_eq_true rfl) rfl ?_
  intro p e s m below meth c C hr hlk
  have iX5 : ∀ w ∈ wsX50, w ∈ wsX5_goesBy := by decide +kernel
  have f25 := C.1.2.2.2.2 (.fieldLink RX5 25 "TickFallModel" "one" "[I") (by decide +kernel)
  have f77 := C.1.2.2.2.2 (.fieldLink RX5 77 "TickFallModel" "ringOf" "[I") (by decide +kernel)
  have f80 := C.1.2.2.2.2 (.fieldLink RX5 80 "TickFallModel" "sign" "[I") (by decide +kernel)
  have f83 := C.1.2.2.2.2 (.fieldLink RX5 83 "TickFallModel" "sum" "[I") (by decide +kernel)
  have f161 := C.1.2.2.2.2 (.fieldLink RX5 161 "TickFallModel" "rings" "I") (by decide +kernel)
  show zW p l e (zR 2 46 0 0) s m [Value.ref (zob E 7), Value.int k9, Value.int fr, Value.int (nI j), Value.int d].toArray below meth c E 6 0 0 (MQ below (zQv E s.heap.size (fun μ1 ov1 => μ1 = zgbM μ r9 k fr j q ∧ ov1 = ov)) [Value.ref (zob E 7), Value.int k9, Value.int fr, Value.int (nI j), Value.int d].toArray s 0 0 (zA E s.heap.size)) 0 [some (.ref (zob E 7)), some (.int (k9)), some (.int (fr)), some (.int (nI j)), some (.int (d)), none] [] μ ov
  refine z_iconst (v := 3) (pc := 0) C dX5_goesBy_0 (by decide) ?_
  refine z_aloadn (i := 0) (pc := 1) C dX5_goesBy_1 rfl rfl ?_
  refine zg_X5_rings (pc := 2) C dX5_goesBy_2 iX5 f161 ?_
  refine z_imul (pc := 5) C dX5_goesBy_5 ?_
  refine z_iloadn (i := 3) (pc := 6) C dX5_goesBy_6 rfl rfl ?_
  refine z_iadd (pc := 7) C dX5_goesBy_7 ?_
  refine z_topi (y := nI (3 * r9 + j)) (by rw [hr9, show (3 : Int32) = nI 3 from rfl, pk_mul, nI_add]) ?_
  refine z_istore5 (pc := 8) C (by decide) (fun w hw => by cases hw; exact (show ¬ (1 = 2) from by decide)) dX5_goesBy_8 ?_
  refine z_aloadn (i := 0) (pc := 10) C dX5_goesBy_10 rfl rfl ?_
  refine zg_X5_ringOf (pc := 11) C dX5_goesBy_11 iX5 f77 ?_
  refine z_iload (i := 5) (pc := 14) C dX5_goesBy_14 rfl ?_
  refine z_iloadn (i := 1) (pc := 16) C dX5_goesBy_16 rfl rfl ?_
  refine z_iast (pc := 17) C 60 (3 * r9 + j) (by decide) rfl rfl (show 3 * r9 + j < 168 by omega) dX5_goesBy_17 ?_
  refine z_aloadn (i := 0) (pc := 18) C dX5_goesBy_18 rfl rfl ?_
  refine zg_X5_sign (pc := 19) C dX5_goesBy_19 iX5 f80 ?_
  refine z_iload (i := 5) (pc := 22) C dX5_goesBy_22 rfl ?_
  refine z_aloadn (i := 0) (pc := 24) C dX5_goesBy_24 rfl rfl ?_
  refine zg_X5_one (pc := 25) C dX5_goesBy_25 iX5 f25 ?_
  refine z_iloadn (i := 1) (pc := 28) C dX5_goesBy_28 rfl rfl ?_
  have e1 : (zu μ 60 (3 * r9 + j) (k9)) 43 k = μ 43 k := by rw [zu_n _ _ _ (by decide)]
  refine z_iald (pc := 29) C 43 k (by decide) rfl hk1 (show k < 8 by omega) dX5_goesBy_29 ?_
  refine z_topi (y := μ 43 k) e1 ?_
  refine z_iloadn (i := 2) (pc := 30) C dX5_goesBy_30 rfl rfl ?_
  refine z_icmp_ne (tgt := 38) (pc := 31) C dX5_goesBy_31 (by decide) (fun c_1 => ?_) (fun c_1 => ?_)
  · refine z_iconst (v := -1) (pc := 38) C dX5_goesBy_38 (by decide) ?_
    refine z_topi (y := zsgM μ k fr) (by unfold zsgM; rw [if_neg c_1]) ?_
    refine z_iast (pc := 39) C 61 (3 * r9 + j) (by decide) rfl rfl (show 3 * r9 + j < 168 by omega) dX5_goesBy_39 ?_
    have er2 : (zu (zu μ 60 (3 * r9 + j) (k9)) 61 (3 * r9 + j) (zsgM μ k fr)) 63 18 = nI r9 := by rw [zu_n _ _ _ (by decide), zu_n _ _ _ (by decide)]; exact hr9
    have hg2 : zGv (zu (zu μ 60 (3 * r9 + j) (k9)) 61 (3 * r9 + j) (zsgM μ k fr)) := fun a ha => by rw [zu_n _ _ _ (by decide), zu_n _ _ _ (by decide)]; exact hg a ha
    refine z_aloadn (i := 0) (pc := 40) C dX5_goesBy_40 rfl rfl ?_
    refine zg_X5_sum (pc := 41) C dX5_goesBy_41 iX5 f83 ?_
    refine z_aloadn (i := 0) (pc := 44) C dX5_goesBy_44 rfl rfl ?_
    refine zg_X5_rings (pc := 45) C dX5_goesBy_45 iX5 f161 ?_
    have go : ∀ v : Int32, v = (if j = 0 then 0 else μ 62 r9) → zW p l e (zR 2 46 0 0) s m [Value.ref (zob E 7), Value.int k9, Value.int fr, Value.int (nI j), Value.int d].toArray below meth c E 6 0 0 (MQ below (zQv E s.heap.size (fun μ1 ov1 => μ1 = zgbM μ r9 k fr j q ∧ ov1 = ov)) [Value.ref (zob E 7), Value.int k9, Value.int fr, Value.int (nI j), Value.int d].toArray s 0 0 (zA E s.heap.size)) 65 [some (.ref (zob E 7)), some (.int (k9)), some (.int (fr)), some (.int (nI j)), some (.int (d)), some (.int (nI (3 * r9 + j)))] [.int (v), .int ((zu (zu μ 60 (3 * r9 + j) (k9)) 61 (3 * r9 + j) (zsgM μ k fr)) 63 18), .ref (zad E 62)] (zu (zu μ 60 (3 * r9 + j) (k9)) 61 (3 * r9 + j) (zsgM μ k fr)) ov := by
      intro v hv
      subst hv
      refine z_aloadn (i := 0) (pc := 65) C dX5_goesBy_65 rfl rfl ?_
      refine zg_X5_sign (pc := 66) C dX5_goesBy_66 iX5 f80 ?_
      refine z_iload (i := 5) (pc := 69) C dX5_goesBy_69 rfl ?_
      refine z_iald (pc := 71) C 61 (3 * r9 + j) (by decide) rfl rfl (show 3 * r9 + j < 168 by omega) dX5_goesBy_71 ?_
      refine z_topi (y := zsgM μ k fr) (by rw [zu_s, upd_s]) ?_
      refine z_aloadn (i := 0) (pc := 72) C dX5_goesBy_72 rfl rfl ?_
      refine z_iloadn (i := 1) (pc := 73) C dX5_goesBy_73 rfl rfl ?_
      refine z_iload (i := 4) (pc := 74) C dX5_goesBy_74 rfl ?_
      refine z_callVi (pc := 76) (n := 2) (As := [.int (k9), .int (d)]) (rest := [.int (zsgM μ k fr), .int (if j = 0 then 0 else μ 62 r9), .int ((zu (zu μ 60 (3 * r9 + j) (k9)) 61 (3 * r9 + j) (zsgM μ k fr)) 63 18), .ref (zad E 62)]) C (c_X5_corrected l E sa (μ := (zu (zu μ 60 (3 * r9 + j) (k9)) 61 (3 * r9 + j) (zsgM μ k fr))) (ov := ov) k q hk1 hk8 hd h1q hq hg2) gX5_goesBy_X5_corrected rfl zfV_X5_corrected ⟨Nat.le_of_ble_eq_true rfl, Nat.le_of_ble_eq_true rfl⟩ rfl (zRec_X5 E) rfl (Nat.le_of_ble_eq_true rfl) ⟨Nat.zero_le _, Nat.zero_le _⟩ dX5_goesBy_76 (fun r9 μ9 ov9 hp => ?_)
      have e1 := hp.1.symm
      have e2 := hp.2.1.symm
      have e3 := hp.2.2.symm
      clear hp
      subst e1 e2 e3
      refine z_topi (y := zcorM μ k q) (zcorM_c3 (fun b hb => by rw [zu_n _ _ _ (by omega), zu_n _ _ _ (by omega)]) k q) ?_
      refine z_imul (pc := 79) C dX5_goesBy_79 ?_
      refine z_iadd (pc := 80) C dX5_goesBy_80 ?_
      refine z_iast (pc := 81) C 62 r9 (by decide) rfl er2 (show r9 < 56 by omega) dX5_goesBy_81 ?_
      exact z_vret (pc := 82) C hr hlk ⟨by rw [hk1]; rfl, rfl⟩ (Nat.zero_le _) (Nat.zero_le _) dX5_goesBy_82
    refine z_iloadn (i := 3) (pc := 48) C dX5_goesBy_48 rfl rfl ?_
    refine z_if_ne (tgt := 56) (pc := 49) C dX5_goesBy_49 (by decide) (fun c_2 => ?_) (fun c_2 => ?_)
    · have ej : ¬ j = 0 := fun e => c_2 (by rw [e]; rfl)
      refine z_aloadn (i := 0) (pc := 56) C dX5_goesBy_56 rfl rfl ?_
      refine zg_X5_sum (pc := 57) C dX5_goesBy_57 iX5 f83 ?_
      refine z_aloadn (i := 0) (pc := 60) C dX5_goesBy_60 rfl rfl ?_
      refine zg_X5_rings (pc := 61) C dX5_goesBy_61 iX5 f161 ?_
      refine z_iald (pc := 64) C 62 r9 (by decide) rfl er2 (show r9 < 56 by omega) dX5_goesBy_64 ?_
      exact go _ (by rw [if_neg ej, zu_n _ _ _ (by decide), zu_n _ _ _ (by decide)])
    · have ej : j = 0 := (nI_eq (a := j) (b := 0) (by omega) (by omega)).mp c_2
      refine z_iconst (v := 0) (pc := 52) C dX5_goesBy_52 (by decide) ?_
      refine z_goto (tgt := 65) (pc := 53) C dX5_goesBy_53 (by decide) ?_
      exact go _ (by rw [if_pos ej])
  · refine z_iconst (v := 1) (pc := 34) C dX5_goesBy_34 (by decide) ?_
    refine z_goto (tgt := 39) (pc := 35) C dX5_goesBy_35 (by decide) ?_
    refine z_topi (y := zsgM μ k fr) (by unfold zsgM; rw [if_pos c_1]) ?_
    refine z_iast (pc := 39) C 61 (3 * r9 + j) (by decide) rfl rfl (show 3 * r9 + j < 168 by omega) dX5_goesBy_39 ?_
    have er2 : (zu (zu μ 60 (3 * r9 + j) (k9)) 61 (3 * r9 + j) (zsgM μ k fr)) 63 18 = nI r9 := by rw [zu_n _ _ _ (by decide), zu_n _ _ _ (by decide)]; exact hr9
    have hg2 : zGv (zu (zu μ 60 (3 * r9 + j) (k9)) 61 (3 * r9 + j) (zsgM μ k fr)) := fun a ha => by rw [zu_n _ _ _ (by decide), zu_n _ _ _ (by decide)]; exact hg a ha
    refine z_aloadn (i := 0) (pc := 40) C dX5_goesBy_40 rfl rfl ?_
    refine zg_X5_sum (pc := 41) C dX5_goesBy_41 iX5 f83 ?_
    refine z_aloadn (i := 0) (pc := 44) C dX5_goesBy_44 rfl rfl ?_
    refine zg_X5_rings (pc := 45) C dX5_goesBy_45 iX5 f161 ?_
    have go : ∀ v : Int32, v = (if j = 0 then 0 else μ 62 r9) → zW p l e (zR 2 46 0 0) s m [Value.ref (zob E 7), Value.int k9, Value.int fr, Value.int (nI j), Value.int d].toArray below meth c E 6 0 0 (MQ below (zQv E s.heap.size (fun μ1 ov1 => μ1 = zgbM μ r9 k fr j q ∧ ov1 = ov)) [Value.ref (zob E 7), Value.int k9, Value.int fr, Value.int (nI j), Value.int d].toArray s 0 0 (zA E s.heap.size)) 65 [some (.ref (zob E 7)), some (.int (k9)), some (.int (fr)), some (.int (nI j)), some (.int (d)), some (.int (nI (3 * r9 + j)))] [.int (v), .int ((zu (zu μ 60 (3 * r9 + j) (k9)) 61 (3 * r9 + j) (zsgM μ k fr)) 63 18), .ref (zad E 62)] (zu (zu μ 60 (3 * r9 + j) (k9)) 61 (3 * r9 + j) (zsgM μ k fr)) ov := by
      intro v hv
      subst hv
      refine z_aloadn (i := 0) (pc := 65) C dX5_goesBy_65 rfl rfl ?_
      refine zg_X5_sign (pc := 66) C dX5_goesBy_66 iX5 f80 ?_
      refine z_iload (i := 5) (pc := 69) C dX5_goesBy_69 rfl ?_
      refine z_iald (pc := 71) C 61 (3 * r9 + j) (by decide) rfl rfl (show 3 * r9 + j < 168 by omega) dX5_goesBy_71 ?_
      refine z_topi (y := zsgM μ k fr) (by rw [zu_s, upd_s]) ?_
      refine z_aloadn (i := 0) (pc := 72) C dX5_goesBy_72 rfl rfl ?_
      refine z_iloadn (i := 1) (pc := 73) C dX5_goesBy_73 rfl rfl ?_
      refine z_iload (i := 4) (pc := 74) C dX5_goesBy_74 rfl ?_
      refine z_callVi (pc := 76) (n := 2) (As := [.int (k9), .int (d)]) (rest := [.int (zsgM μ k fr), .int (if j = 0 then 0 else μ 62 r9), .int ((zu (zu μ 60 (3 * r9 + j) (k9)) 61 (3 * r9 + j) (zsgM μ k fr)) 63 18), .ref (zad E 62)]) C (c_X5_corrected l E sa (μ := (zu (zu μ 60 (3 * r9 + j) (k9)) 61 (3 * r9 + j) (zsgM μ k fr))) (ov := ov) k q hk1 hk8 hd h1q hq hg2) gX5_goesBy_X5_corrected rfl zfV_X5_corrected ⟨Nat.le_of_ble_eq_true rfl, Nat.le_of_ble_eq_true rfl⟩ rfl (zRec_X5 E) rfl (Nat.le_of_ble_eq_true rfl) ⟨Nat.zero_le _, Nat.zero_le _⟩ dX5_goesBy_76 (fun r9 μ9 ov9 hp => ?_)
      have e1 := hp.1.symm
      have e2 := hp.2.1.symm
      have e3 := hp.2.2.symm
      clear hp
      subst e1 e2 e3
      refine z_topi (y := zcorM μ k q) (zcorM_c3 (fun b hb => by rw [zu_n _ _ _ (by omega), zu_n _ _ _ (by omega)]) k q) ?_
      refine z_imul (pc := 79) C dX5_goesBy_79 ?_
      refine z_iadd (pc := 80) C dX5_goesBy_80 ?_
      refine z_iast (pc := 81) C 62 r9 (by decide) rfl er2 (show r9 < 56 by omega) dX5_goesBy_81 ?_
      exact z_vret (pc := 82) C hr hlk ⟨by rw [hk1]; rfl, rfl⟩ (Nat.zero_le _) (Nat.zero_le _) dX5_goesBy_82
    refine z_iloadn (i := 3) (pc := 48) C dX5_goesBy_48 rfl rfl ?_
    refine z_if_ne (tgt := 56) (pc := 49) C dX5_goesBy_49 (by decide) (fun c_2 => ?_) (fun c_2 => ?_)
    · have ej : ¬ j = 0 := fun e => c_2 (by rw [e]; rfl)
      refine z_aloadn (i := 0) (pc := 56) C dX5_goesBy_56 rfl rfl ?_
      refine zg_X5_sum (pc := 57) C dX5_goesBy_57 iX5 f83 ?_
      refine z_aloadn (i := 0) (pc := 60) C dX5_goesBy_60 rfl rfl ?_
      refine zg_X5_rings (pc := 61) C dX5_goesBy_61 iX5 f161 ?_
      refine z_iald (pc := 64) C 62 r9 (by decide) rfl er2 (show r9 < 56 by omega) dX5_goesBy_64 ?_
      exact go _ (by rw [if_neg ej, zu_n _ _ _ (by decide), zu_n _ _ _ (by decide)])
    · have ej : j = 0 := (nI_eq (a := j) (b := 0) (by omega) (by omega)).mp c_2
      refine z_iconst (v := 0) (pc := 52) C dX5_goesBy_52 (by decide) ?_
      refine z_goto (tgt := 65) (pc := 53) C dX5_goesBy_53 (by decide) ?_
      exact go _ (by rw [if_pos ej])
set_option maxHeartbeats 4000000 in
set_option maxRecDepth 100000 in
theorem c_X5_laysRing (l : Launch) (E : zE) (sa : Nat → Nat) {μ : zM} {ov : Nat → Int64} {i1 i2 i3 d : Int32} (a b c8 q r9 : Nat) (h1 : i1 = nI a) (h2 : i2 = nI b) (h3 : i3 = nI c8) (g1 : a < 8) (g2 : b < 8) (g3 : c8 < 8) (hd : d = nI q) (h1q : 1 ≤ q) (hq : q < 501) (hr9 : μ 63 18 = nI r9) (hrr : r9 < 56) (hg : zGv μ) : zMv l E sa yX5_laysRing wsX5_laysRing 3 71 0 0 [.ref (zob E 7), .int i1, .int i2, .int i3, .int d] μ ov (fun μ1 ov1 => μ1 = zrgM μ r9 a b c8 q ∧ ov1 = ov) := by
  refine z_ofMv (cc := cX5_laysRing) (nL := 6) (ret := none) (own := RX5) zfp_X5_laysRing rfl (by simp [Value.category]) (Nat.le_of_ble_eq_true rfl) rfl ?_
  intro p e s m below meth c C hr hlk
  have iX5 : ∀ w ∈ wsX50, w ∈ wsX5_laysRing := by decide +kernel
  have f25 := C.1.2.2.2.2 (.fieldLink RX5 25 "TickFallModel" "one" "[I") (by decide +kernel)
  have f28 := C.1.2.2.2.2 (.fieldLink RX5 28 "TickFallModel" "two" "[I") (by decide +kernel)
  have f161 := C.1.2.2.2.2 (.fieldLink RX5 161 "TickFallModel" "rings" "I") (by decide +kernel)
  show zW p l e (zR 3 71 0 0) s m [Value.ref (zob E 7), Value.int i1, Value.int i2, Value.int i3, Value.int d].toArray below meth c E 6 0 0 (MQ below (zQv E s.heap.size (fun μ1 ov1 => μ1 = zrgM μ r9 a b c8 q ∧ ov1 = ov)) [Value.ref (zob E 7), Value.int i1, Value.int i2, Value.int i3, Value.int d].toArray s 0 0 (zA E s.heap.size)) 0 [some (.ref (zob E 7)), some (.int (i1)), some (.int (i2)), some (.int (i3)), some (.int (d)), none] [] μ ov
  refine z_aloadn (i := 0) (pc := 0) C dX5_laysRing_0 rfl rfl ?_
  refine z_iloadn (i := 2) (pc := 1) C dX5_laysRing_1 rfl rfl ?_
  refine z_aloadn (i := 0) (pc := 2) C dX5_laysRing_2 rfl rfl ?_
  refine zg_X5_two (pc := 3) C dX5_laysRing_3 iX5 f28 ?_
  refine z_iloadn (i := 1) (pc := 6) C dX5_laysRing_6 rfl rfl ?_
  refine z_iald (pc := 7) C 44 a (by decide) rfl h1 (show a < 8 from g1) dX5_laysRing_7 ?_
  refine z_callVi (pc := 8) (n := 2) (As := [.int (i2), .int (μ 44 a)]) (rest := []) C (c_X5_otherEnd l E sa (μ := μ) (ov := ov) (b) h2 g2 (μ 44 a)) gX5_laysRing_X5_otherEnd rfl zfV_X5_otherEnd ⟨Nat.le_of_ble_eq_true rfl, Nat.le_of_ble_eq_true rfl⟩ rfl (zRec_X5 E) rfl (Nat.le_of_ble_eq_true rfl) ⟨Nat.zero_le _, Nat.zero_le _⟩ dX5_laysRing_8 (fun r9 μ9 ov9 hp => ?_)
  have e1 := hp.1.symm
  have e2 := hp.2.1.symm
  have e3 := hp.2.2.symm
  clear hp
  subst e1 e2 e3
  refine z_iconst (v := -1) (pc := 11) C dX5_laysRing_11 (by decide) ?_
  refine z_icmp_eq (tgt := 19) (pc := 12) C dX5_laysRing_12 (by decide) (fun c_1 => ?_) (fun c_1 => ?_)
  · have en : zneM μ a b c8 = c8 := if_pos c_1
    refine z_iloadn (i := 3) (pc := 19) C dX5_laysRing_19 rfl rfl ?_
    refine z_topi (y := nI (zneM μ a b c8)) (by rw [en]; exact h3) ?_
    have gn : (zneM μ a b c8) < 8 := zneM_lt g2 g3
    have gl : (zlaM μ a b c8) < 8 := zlaM_lt g2 g3
    refine z_istore5 (pc := 20) C (by decide) (fun w hw => by cases hw; exact (show ¬ (1 = 2) from by decide)) dX5_laysRing_20 ?_
    refine z_aloadn (i := 0) (pc := 22) C dX5_laysRing_22 rfl rfl ?_
    refine z_iloadn (i := 1) (pc := 23) C dX5_laysRing_23 rfl rfl ?_
    refine z_aloadn (i := 0) (pc := 24) C dX5_laysRing_24 rfl rfl ?_
    refine zg_X5_one (pc := 25) C dX5_laysRing_25 iX5 f25 ?_
    refine z_iloadn (i := 1) (pc := 28) C dX5_laysRing_28 rfl rfl ?_
    refine z_iald (pc := 29) C 43 a (by decide) rfl h1 (show a < 8 from g1) dX5_laysRing_29 ?_
    refine z_iconst (v := 0) (pc := 30) C dX5_laysRing_30 (by decide) ?_
    refine z_iload (i := 4) (pc := 31) C dX5_laysRing_31 rfl ?_
    refine z_callVv (pc := 33) (n := 4) (As := [.int (i1), .int (μ 43 a), .int (0), .int (d)]) (rest := []) C (c_X5_goesBy l E sa (μ := μ) (ov := ov) (fr := μ 43 a) (a) 0 q r9 h1 g1 (by decide) hd h1q hq hr9 hrr hg) gX5_laysRing_X5_goesBy rfl zfV_X5_goesBy ⟨Nat.le_of_ble_eq_true rfl, Nat.le_of_ble_eq_true rfl⟩ rfl (zRec_X5 E) rfl (Nat.le_of_ble_eq_true rfl) ⟨Nat.zero_le _, Nat.zero_le _⟩ dX5_laysRing_33 (fun μ9 ov9 hp => ?_)
    have e2 := hp.1.symm
    have e3 := hp.2.symm
    clear hp
    subst e2 e3
    refine z_aloadn (i := 0) (pc := 36) C dX5_laysRing_36 rfl rfl ?_
    refine z_iload (i := 5) (pc := 37) C dX5_laysRing_37 rfl ?_
    refine z_aloadn (i := 0) (pc := 39) C dX5_laysRing_39 rfl rfl ?_
    refine zg_X5_two (pc := 40) C dX5_laysRing_40 iX5 f28 ?_
    have k63 : (zgbM μ r9 a (μ 43 a) 0 q) 63 = μ 63 := zgbM_k _ _ _ _ _ _ (by decide) (by decide) (by decide)
    have k44 : (zgbM μ r9 a (μ 43 a) 0 q) 44 = μ 44 := zgbM_k _ _ _ _ _ _ (by decide) (by decide) (by decide)
    have kg : zGv (zgbM μ r9 a (μ 43 a) 0 q) := fun z hz => by rw [zgbM_k _ _ _ _ _ _ (by decide) (by decide) (by decide)]; exact hg z hz
    refine z_iloadn (i := 1) (pc := 43) C dX5_laysRing_43 rfl rfl ?_
    refine z_iald (pc := 44) C 44 a (by decide) rfl h1 (show a < 8 from g1) dX5_laysRing_44 ?_
    refine z_topi (y := μ 44 a) (by rw [k44]) ?_
    refine z_iconst (v := 1) (pc := 45) C dX5_laysRing_45 (by decide) ?_
    refine z_iload (i := 4) (pc := 46) C dX5_laysRing_46 rfl ?_
    refine z_callVv (pc := 48) (n := 4) (As := [.int (nI (zneM μ a b c8)), .int (μ 44 a), .int (1), .int (d)]) (rest := []) C (c_X5_goesBy l E sa (μ := (zgbM μ r9 a (μ 43 a) 0 q)) (ov := ov) (fr := μ 44 a) ((zneM μ a b c8)) 1 q r9 rfl gn (by decide) hd h1q hq (by rw [k63]; exact hr9) hrr kg) gX5_laysRing_X5_goesBy rfl zfV_X5_goesBy ⟨Nat.le_of_ble_eq_true rfl, Nat.le_of_ble_eq_true rfl⟩ rfl (zRec_X5 E) rfl (Nat.le_of_ble_eq_true rfl) ⟨Nat.zero_le _, Nat.zero_le _⟩ dX5_laysRing_48 (fun μ9 ov9 hp => ?_)
    have e2 := hp.1.symm
    have e3 := hp.2.symm
    clear hp
    subst e2 e3
    have m63 : (zgbM (zgbM μ r9 a (μ 43 a) 0 q) r9 (zneM μ a b c8) (μ 44 a) 1 q) 63 = μ 63 := (zgbM_k _ _ _ _ _ _ (by decide) (by decide) (by decide)).trans k63
    have m44 : (zgbM (zgbM μ r9 a (μ 43 a) 0 q) r9 (zneM μ a b c8) (μ 44 a) 1 q) 44 = μ 44 := (zgbM_k _ _ _ _ _ _ (by decide) (by decide) (by decide)).trans k44
    have m43 : (zgbM (zgbM μ r9 a (μ 43 a) 0 q) r9 (zneM μ a b c8) (μ 44 a) 1 q) 43 = μ 43 := (zgbM_k _ _ _ _ _ _ (by decide) (by decide) (by decide)).trans (zgbM_k _ _ _ _ _ _ (by decide) (by decide) (by decide))
    have mg : zGv (zgbM (zgbM μ r9 a (μ 43 a) 0 q) r9 (zneM μ a b c8) (μ 44 a) 1 q) := fun z hz => by rw [zgbM_k _ _ _ _ _ _ (by decide) (by decide) (by decide)]; exact kg z hz
    refine z_aloadn (i := 0) (pc := 51) C dX5_laysRing_51 rfl rfl ?_
    refine z_iload (i := 5) (pc := 52) C dX5_laysRing_52 rfl ?_
    refine z_iloadn (i := 2) (pc := 54) C dX5_laysRing_54 rfl rfl ?_
    refine z_icmp_ne (tgt := 62) (pc := 55) C dX5_laysRing_55 (by decide) (fun c_2 => ?_) (fun c_2 => ?_)
    · have el : zlaM μ a b c8 = b := if_neg (fun e => c_2 (by rw [e]; exact h2.symm))
      refine z_iloadn (i := 2) (pc := 62) C dX5_laysRing_62 rfl rfl ?_
      refine z_topi (y := nI (zlaM μ a b c8)) (by rw [el]; exact h2) ?_
      refine z_aloadn (i := 0) (pc := 63) C dX5_laysRing_63 rfl rfl ?_
      refine z_iload (i := 5) (pc := 64) C dX5_laysRing_64 rfl ?_
      refine z_aloadn (i := 0) (pc := 66) C dX5_laysRing_66 rfl rfl ?_
      refine zg_X5_two (pc := 67) C dX5_laysRing_67 iX5 f28 ?_
      refine z_iloadn (i := 1) (pc := 70) C dX5_laysRing_70 rfl rfl ?_
      refine z_iald (pc := 71) C 44 a (by decide) rfl h1 (show a < 8 from g1) dX5_laysRing_71 ?_
      refine z_topi (y := μ 44 a) (by rw [m44]) ?_
      refine z_callVi (pc := 72) (n := 2) (As := [.int (nI (zneM μ a b c8)), .int (μ 44 a)]) (rest := [.int (nI (zlaM μ a b c8)), .ref (zob E 7)]) C (c_X5_otherEnd l E sa (μ := (zgbM (zgbM μ r9 a (μ 43 a) 0 q) r9 (zneM μ a b c8) (μ 44 a) 1 q)) (ov := ov) ((zneM μ a b c8)) rfl gn (μ 44 a)) gX5_laysRing_X5_otherEnd rfl zfV_X5_otherEnd ⟨Nat.le_of_ble_eq_true rfl, Nat.le_of_ble_eq_true rfl⟩ rfl (zRec_X5 E) rfl (Nat.le_of_ble_eq_true rfl) ⟨Nat.zero_le _, Nat.zero_le _⟩ dX5_laysRing_72 (fun r9 μ9 ov9 hp => ?_)
      have e1 := hp.1.symm
      have e2 := hp.2.1.symm
      have e3 := hp.2.2.symm
      clear hp
      subst e1 e2 e3
      refine z_topi (y := zoeM μ (zneM μ a b c8) (μ 44 a)) (zoeM_cg m43 m44 _ _) ?_
      refine z_iconst (v := 2) (pc := 75) C dX5_laysRing_75 (by decide) ?_
      refine z_iload (i := 4) (pc := 76) C dX5_laysRing_76 rfl ?_
      refine z_callVv (pc := 78) (n := 4) (As := [.int (nI (zlaM μ a b c8)), .int (zoeM μ (zneM μ a b c8) (μ 44 a)), .int (2), .int (d)]) (rest := []) C (c_X5_goesBy l E sa (μ := (zgbM (zgbM μ r9 a (μ 43 a) 0 q) r9 (zneM μ a b c8) (μ 44 a) 1 q)) (ov := ov) (fr := zoeM μ (zneM μ a b c8) (μ 44 a)) ((zlaM μ a b c8)) 2 q r9 rfl gl (by decide) hd h1q hq (by rw [m63]; exact hr9) hrr mg) gX5_laysRing_X5_goesBy rfl zfV_X5_goesBy ⟨Nat.le_of_ble_eq_true rfl, Nat.le_of_ble_eq_true rfl⟩ rfl (zRec_X5 E) rfl (Nat.le_of_ble_eq_true rfl) ⟨Nat.zero_le _, Nat.zero_le _⟩ dX5_laysRing_78 (fun μ9 ov9 hp => ?_)
      have e2 := hp.1.symm
      have e3 := hp.2.symm
      clear hp
      subst e2 e3
      refine z_aloadn (i := 0) (pc := 81) C dX5_laysRing_81 rfl rfl ?_
      refine z_dup (pc := 82) C dX5_laysRing_82 rfl ?_
      refine zg_X5_rings (pc := 83) C dX5_laysRing_83 iX5 f161 ?_
      refine z_iconst (v := 1) (pc := 86) C dX5_laysRing_86 (by decide) ?_
      refine z_iadd (pc := 87) C dX5_laysRing_87 ?_
      refine z_topi (y := nI (r9 + 1)) (by rw [zgbM_k _ _ _ _ _ _ (by decide) (by decide) (by decide), m63, hr9, nI_1]) ?_
      refine zp_X5_rings (pc := 88) C dX5_laysRing_88 iX5 f161 ?_
      exact z_vret (pc := 91) C hr hlk ⟨rfl, rfl⟩ (Nat.zero_le _) (Nat.zero_le _) dX5_laysRing_91
    · have el : zlaM μ a b c8 = c8 := if_pos (by have e := c_2; rw [h2, nI_eq (by omega) (by omega)] at e; exact e)
      refine z_iloadn (i := 3) (pc := 58) C dX5_laysRing_58 rfl rfl ?_
      refine z_goto (tgt := 63) (pc := 59) C dX5_laysRing_59 (by decide) ?_
      refine z_topi (y := nI (zlaM μ a b c8)) (by rw [el]; exact h3) ?_
      refine z_aloadn (i := 0) (pc := 63) C dX5_laysRing_63 rfl rfl ?_
      refine z_iload (i := 5) (pc := 64) C dX5_laysRing_64 rfl ?_
      refine z_aloadn (i := 0) (pc := 66) C dX5_laysRing_66 rfl rfl ?_
      refine zg_X5_two (pc := 67) C dX5_laysRing_67 iX5 f28 ?_
      refine z_iloadn (i := 1) (pc := 70) C dX5_laysRing_70 rfl rfl ?_
      refine z_iald (pc := 71) C 44 a (by decide) rfl h1 (show a < 8 from g1) dX5_laysRing_71 ?_
      refine z_topi (y := μ 44 a) (by rw [m44]) ?_
      refine z_callVi (pc := 72) (n := 2) (As := [.int (nI (zneM μ a b c8)), .int (μ 44 a)]) (rest := [.int (nI (zlaM μ a b c8)), .ref (zob E 7)]) C (c_X5_otherEnd l E sa (μ := (zgbM (zgbM μ r9 a (μ 43 a) 0 q) r9 (zneM μ a b c8) (μ 44 a) 1 q)) (ov := ov) ((zneM μ a b c8)) rfl gn (μ 44 a)) gX5_laysRing_X5_otherEnd rfl zfV_X5_otherEnd ⟨Nat.le_of_ble_eq_true rfl, Nat.le_of_ble_eq_true rfl⟩ rfl (zRec_X5 E) rfl (Nat.le_of_ble_eq_true rfl) ⟨Nat.zero_le _, Nat.zero_le _⟩ dX5_laysRing_72 (fun r9 μ9 ov9 hp => ?_)
      have e1 := hp.1.symm
      have e2 := hp.2.1.symm
      have e3 := hp.2.2.symm
      clear hp
      subst e1 e2 e3
      refine z_topi (y := zoeM μ (zneM μ a b c8) (μ 44 a)) (zoeM_cg m43 m44 _ _) ?_
      refine z_iconst (v := 2) (pc := 75) C dX5_laysRing_75 (by decide) ?_
      refine z_iload (i := 4) (pc := 76) C dX5_laysRing_76 rfl ?_
      refine z_callVv (pc := 78) (n := 4) (As := [.int (nI (zlaM μ a b c8)), .int (zoeM μ (zneM μ a b c8) (μ 44 a)), .int (2), .int (d)]) (rest := []) C (c_X5_goesBy l E sa (μ := (zgbM (zgbM μ r9 a (μ 43 a) 0 q) r9 (zneM μ a b c8) (μ 44 a) 1 q)) (ov := ov) (fr := zoeM μ (zneM μ a b c8) (μ 44 a)) ((zlaM μ a b c8)) 2 q r9 rfl gl (by decide) hd h1q hq (by rw [m63]; exact hr9) hrr mg) gX5_laysRing_X5_goesBy rfl zfV_X5_goesBy ⟨Nat.le_of_ble_eq_true rfl, Nat.le_of_ble_eq_true rfl⟩ rfl (zRec_X5 E) rfl (Nat.le_of_ble_eq_true rfl) ⟨Nat.zero_le _, Nat.zero_le _⟩ dX5_laysRing_78 (fun μ9 ov9 hp => ?_)
      have e2 := hp.1.symm
      have e3 := hp.2.symm
      clear hp
      subst e2 e3
      refine z_aloadn (i := 0) (pc := 81) C dX5_laysRing_81 rfl rfl ?_
      refine z_dup (pc := 82) C dX5_laysRing_82 rfl ?_
      refine zg_X5_rings (pc := 83) C dX5_laysRing_83 iX5 f161 ?_
      refine z_iconst (v := 1) (pc := 86) C dX5_laysRing_86 (by decide) ?_
      refine z_iadd (pc := 87) C dX5_laysRing_87 ?_
      refine z_topi (y := nI (r9 + 1)) (by rw [zgbM_k _ _ _ _ _ _ (by decide) (by decide) (by decide), m63, hr9, nI_1]) ?_
      refine zp_X5_rings (pc := 88) C dX5_laysRing_88 iX5 f161 ?_
      exact z_vret (pc := 91) C hr hlk ⟨rfl, rfl⟩ (Nat.zero_le _) (Nat.zero_le _) dX5_laysRing_91
  · have en : zneM μ a b c8 = b := if_neg c_1
    refine z_iloadn (i := 2) (pc := 15) C dX5_laysRing_15 rfl rfl ?_
    refine z_goto (tgt := 20) (pc := 16) C dX5_laysRing_16 (by decide) ?_
    refine z_topi (y := nI (zneM μ a b c8)) (by rw [en]; exact h2) ?_
    have gn : (zneM μ a b c8) < 8 := zneM_lt g2 g3
    have gl : (zlaM μ a b c8) < 8 := zlaM_lt g2 g3
    refine z_istore5 (pc := 20) C (by decide) (fun w hw => by cases hw; exact (show ¬ (1 = 2) from by decide)) dX5_laysRing_20 ?_
    refine z_aloadn (i := 0) (pc := 22) C dX5_laysRing_22 rfl rfl ?_
    refine z_iloadn (i := 1) (pc := 23) C dX5_laysRing_23 rfl rfl ?_
    refine z_aloadn (i := 0) (pc := 24) C dX5_laysRing_24 rfl rfl ?_
    refine zg_X5_one (pc := 25) C dX5_laysRing_25 iX5 f25 ?_
    refine z_iloadn (i := 1) (pc := 28) C dX5_laysRing_28 rfl rfl ?_
    refine z_iald (pc := 29) C 43 a (by decide) rfl h1 (show a < 8 from g1) dX5_laysRing_29 ?_
    refine z_iconst (v := 0) (pc := 30) C dX5_laysRing_30 (by decide) ?_
    refine z_iload (i := 4) (pc := 31) C dX5_laysRing_31 rfl ?_
    refine z_callVv (pc := 33) (n := 4) (As := [.int (i1), .int (μ 43 a), .int (0), .int (d)]) (rest := []) C (c_X5_goesBy l E sa (μ := μ) (ov := ov) (fr := μ 43 a) (a) 0 q r9 h1 g1 (by decide) hd h1q hq hr9 hrr hg) gX5_laysRing_X5_goesBy rfl zfV_X5_goesBy ⟨Nat.le_of_ble_eq_true rfl, Nat.le_of_ble_eq_true rfl⟩ rfl (zRec_X5 E) rfl (Nat.le_of_ble_eq_true rfl) ⟨Nat.zero_le _, Nat.zero_le _⟩ dX5_laysRing_33 (fun μ9 ov9 hp => ?_)
    have e2 := hp.1.symm
    have e3 := hp.2.symm
    clear hp
    subst e2 e3
    refine z_aloadn (i := 0) (pc := 36) C dX5_laysRing_36 rfl rfl ?_
    refine z_iload (i := 5) (pc := 37) C dX5_laysRing_37 rfl ?_
    refine z_aloadn (i := 0) (pc := 39) C dX5_laysRing_39 rfl rfl ?_
    refine zg_X5_two (pc := 40) C dX5_laysRing_40 iX5 f28 ?_
    have k63 : (zgbM μ r9 a (μ 43 a) 0 q) 63 = μ 63 := zgbM_k _ _ _ _ _ _ (by decide) (by decide) (by decide)
    have k44 : (zgbM μ r9 a (μ 43 a) 0 q) 44 = μ 44 := zgbM_k _ _ _ _ _ _ (by decide) (by decide) (by decide)
    have kg : zGv (zgbM μ r9 a (μ 43 a) 0 q) := fun z hz => by rw [zgbM_k _ _ _ _ _ _ (by decide) (by decide) (by decide)]; exact hg z hz
    refine z_iloadn (i := 1) (pc := 43) C dX5_laysRing_43 rfl rfl ?_
    refine z_iald (pc := 44) C 44 a (by decide) rfl h1 (show a < 8 from g1) dX5_laysRing_44 ?_
    refine z_topi (y := μ 44 a) (by rw [k44]) ?_
    refine z_iconst (v := 1) (pc := 45) C dX5_laysRing_45 (by decide) ?_
    refine z_iload (i := 4) (pc := 46) C dX5_laysRing_46 rfl ?_
    refine z_callVv (pc := 48) (n := 4) (As := [.int (nI (zneM μ a b c8)), .int (μ 44 a), .int (1), .int (d)]) (rest := []) C (c_X5_goesBy l E sa (μ := (zgbM μ r9 a (μ 43 a) 0 q)) (ov := ov) (fr := μ 44 a) ((zneM μ a b c8)) 1 q r9 rfl gn (by decide) hd h1q hq (by rw [k63]; exact hr9) hrr kg) gX5_laysRing_X5_goesBy rfl zfV_X5_goesBy ⟨Nat.le_of_ble_eq_true rfl, Nat.le_of_ble_eq_true rfl⟩ rfl (zRec_X5 E) rfl (Nat.le_of_ble_eq_true rfl) ⟨Nat.zero_le _, Nat.zero_le _⟩ dX5_laysRing_48 (fun μ9 ov9 hp => ?_)
    have e2 := hp.1.symm
    have e3 := hp.2.symm
    clear hp
    subst e2 e3
    have m63 : (zgbM (zgbM μ r9 a (μ 43 a) 0 q) r9 (zneM μ a b c8) (μ 44 a) 1 q) 63 = μ 63 := (zgbM_k _ _ _ _ _ _ (by decide) (by decide) (by decide)).trans k63
    have m44 : (zgbM (zgbM μ r9 a (μ 43 a) 0 q) r9 (zneM μ a b c8) (μ 44 a) 1 q) 44 = μ 44 := (zgbM_k _ _ _ _ _ _ (by decide) (by decide) (by decide)).trans k44
    have m43 : (zgbM (zgbM μ r9 a (μ 43 a) 0 q) r9 (zneM μ a b c8) (μ 44 a) 1 q) 43 = μ 43 := (zgbM_k _ _ _ _ _ _ (by decide) (by decide) (by decide)).trans (zgbM_k _ _ _ _ _ _ (by decide) (by decide) (by decide))
    have mg : zGv (zgbM (zgbM μ r9 a (μ 43 a) 0 q) r9 (zneM μ a b c8) (μ 44 a) 1 q) := fun z hz => by rw [zgbM_k _ _ _ _ _ _ (by decide) (by decide) (by decide)]; exact kg z hz
    refine z_aloadn (i := 0) (pc := 51) C dX5_laysRing_51 rfl rfl ?_
    refine z_iload (i := 5) (pc := 52) C dX5_laysRing_52 rfl ?_
    refine z_iloadn (i := 2) (pc := 54) C dX5_laysRing_54 rfl rfl ?_
    refine z_icmp_ne (tgt := 62) (pc := 55) C dX5_laysRing_55 (by decide) (fun c_2 => ?_) (fun c_2 => ?_)
    · have el : zlaM μ a b c8 = b := if_neg (fun e => c_2 (by rw [e]; exact h2.symm))
      refine z_iloadn (i := 2) (pc := 62) C dX5_laysRing_62 rfl rfl ?_
      refine z_topi (y := nI (zlaM μ a b c8)) (by rw [el]; exact h2) ?_
      refine z_aloadn (i := 0) (pc := 63) C dX5_laysRing_63 rfl rfl ?_
      refine z_iload (i := 5) (pc := 64) C dX5_laysRing_64 rfl ?_
      refine z_aloadn (i := 0) (pc := 66) C dX5_laysRing_66 rfl rfl ?_
      refine zg_X5_two (pc := 67) C dX5_laysRing_67 iX5 f28 ?_
      refine z_iloadn (i := 1) (pc := 70) C dX5_laysRing_70 rfl rfl ?_
      refine z_iald (pc := 71) C 44 a (by decide) rfl h1 (show a < 8 from g1) dX5_laysRing_71 ?_
      refine z_topi (y := μ 44 a) (by rw [m44]) ?_
      refine z_callVi (pc := 72) (n := 2) (As := [.int (nI (zneM μ a b c8)), .int (μ 44 a)]) (rest := [.int (nI (zlaM μ a b c8)), .ref (zob E 7)]) C (c_X5_otherEnd l E sa (μ := (zgbM (zgbM μ r9 a (μ 43 a) 0 q) r9 (zneM μ a b c8) (μ 44 a) 1 q)) (ov := ov) ((zneM μ a b c8)) rfl gn (μ 44 a)) gX5_laysRing_X5_otherEnd rfl zfV_X5_otherEnd ⟨Nat.le_of_ble_eq_true rfl, Nat.le_of_ble_eq_true rfl⟩ rfl (zRec_X5 E) rfl (Nat.le_of_ble_eq_true rfl) ⟨Nat.zero_le _, Nat.zero_le _⟩ dX5_laysRing_72 (fun r9 μ9 ov9 hp => ?_)
      have e1 := hp.1.symm
      have e2 := hp.2.1.symm
      have e3 := hp.2.2.symm
      clear hp
      subst e1 e2 e3
      refine z_topi (y := zoeM μ (zneM μ a b c8) (μ 44 a)) (zoeM_cg m43 m44 _ _) ?_
      refine z_iconst (v := 2) (pc := 75) C dX5_laysRing_75 (by decide) ?_
      refine z_iload (i := 4) (pc := 76) C dX5_laysRing_76 rfl ?_
      refine z_callVv (pc := 78) (n := 4) (As := [.int (nI (zlaM μ a b c8)), .int (zoeM μ (zneM μ a b c8) (μ 44 a)), .int (2), .int (d)]) (rest := []) C (c_X5_goesBy l E sa (μ := (zgbM (zgbM μ r9 a (μ 43 a) 0 q) r9 (zneM μ a b c8) (μ 44 a) 1 q)) (ov := ov) (fr := zoeM μ (zneM μ a b c8) (μ 44 a)) ((zlaM μ a b c8)) 2 q r9 rfl gl (by decide) hd h1q hq (by rw [m63]; exact hr9) hrr mg) gX5_laysRing_X5_goesBy rfl zfV_X5_goesBy ⟨Nat.le_of_ble_eq_true rfl, Nat.le_of_ble_eq_true rfl⟩ rfl (zRec_X5 E) rfl (Nat.le_of_ble_eq_true rfl) ⟨Nat.zero_le _, Nat.zero_le _⟩ dX5_laysRing_78 (fun μ9 ov9 hp => ?_)
      have e2 := hp.1.symm
      have e3 := hp.2.symm
      clear hp
      subst e2 e3
      refine z_aloadn (i := 0) (pc := 81) C dX5_laysRing_81 rfl rfl ?_
      refine z_dup (pc := 82) C dX5_laysRing_82 rfl ?_
      refine zg_X5_rings (pc := 83) C dX5_laysRing_83 iX5 f161 ?_
      refine z_iconst (v := 1) (pc := 86) C dX5_laysRing_86 (by decide) ?_
      refine z_iadd (pc := 87) C dX5_laysRing_87 ?_
      refine z_topi (y := nI (r9 + 1)) (by rw [zgbM_k _ _ _ _ _ _ (by decide) (by decide) (by decide), m63, hr9, nI_1]) ?_
      refine zp_X5_rings (pc := 88) C dX5_laysRing_88 iX5 f161 ?_
      exact z_vret (pc := 91) C hr hlk ⟨rfl, rfl⟩ (Nat.zero_le _) (Nat.zero_le _) dX5_laysRing_91
    · have el : zlaM μ a b c8 = c8 := if_pos (by have e := c_2; rw [h2, nI_eq (by omega) (by omega)] at e; exact e)
      refine z_iloadn (i := 3) (pc := 58) C dX5_laysRing_58 rfl rfl ?_
      refine z_goto (tgt := 63) (pc := 59) C dX5_laysRing_59 (by decide) ?_
      refine z_topi (y := nI (zlaM μ a b c8)) (by rw [el]; exact h3) ?_
      refine z_aloadn (i := 0) (pc := 63) C dX5_laysRing_63 rfl rfl ?_
      refine z_iload (i := 5) (pc := 64) C dX5_laysRing_64 rfl ?_
      refine z_aloadn (i := 0) (pc := 66) C dX5_laysRing_66 rfl rfl ?_
      refine zg_X5_two (pc := 67) C dX5_laysRing_67 iX5 f28 ?_
      refine z_iloadn (i := 1) (pc := 70) C dX5_laysRing_70 rfl rfl ?_
      refine z_iald (pc := 71) C 44 a (by decide) rfl h1 (show a < 8 from g1) dX5_laysRing_71 ?_
      refine z_topi (y := μ 44 a) (by rw [m44]) ?_
      refine z_callVi (pc := 72) (n := 2) (As := [.int (nI (zneM μ a b c8)), .int (μ 44 a)]) (rest := [.int (nI (zlaM μ a b c8)), .ref (zob E 7)]) C (c_X5_otherEnd l E sa (μ := (zgbM (zgbM μ r9 a (μ 43 a) 0 q) r9 (zneM μ a b c8) (μ 44 a) 1 q)) (ov := ov) ((zneM μ a b c8)) rfl gn (μ 44 a)) gX5_laysRing_X5_otherEnd rfl zfV_X5_otherEnd ⟨Nat.le_of_ble_eq_true rfl, Nat.le_of_ble_eq_true rfl⟩ rfl (zRec_X5 E) rfl (Nat.le_of_ble_eq_true rfl) ⟨Nat.zero_le _, Nat.zero_le _⟩ dX5_laysRing_72 (fun r9 μ9 ov9 hp => ?_)
      have e1 := hp.1.symm
      have e2 := hp.2.1.symm
      have e3 := hp.2.2.symm
      clear hp
      subst e1 e2 e3
      refine z_topi (y := zoeM μ (zneM μ a b c8) (μ 44 a)) (zoeM_cg m43 m44 _ _) ?_
      refine z_iconst (v := 2) (pc := 75) C dX5_laysRing_75 (by decide) ?_
      refine z_iload (i := 4) (pc := 76) C dX5_laysRing_76 rfl ?_
      refine z_callVv (pc := 78) (n := 4) (As := [.int (nI (zlaM μ a b c8)), .int (zoeM μ (zneM μ a b c8) (μ 44 a)), .int (2), .int (d)]) (rest := []) C (c_X5_goesBy l E sa (μ := (zgbM (zgbM μ r9 a (μ 43 a) 0 q) r9 (zneM μ a b c8) (μ 44 a) 1 q)) (ov := ov) (fr := zoeM μ (zneM μ a b c8) (μ 44 a)) ((zlaM μ a b c8)) 2 q r9 rfl gl (by decide) hd h1q hq (by rw [m63]; exact hr9) hrr mg) gX5_laysRing_X5_goesBy rfl zfV_X5_goesBy ⟨Nat.le_of_ble_eq_true rfl, Nat.le_of_ble_eq_true rfl⟩ rfl (zRec_X5 E) rfl (Nat.le_of_ble_eq_true rfl) ⟨Nat.zero_le _, Nat.zero_le _⟩ dX5_laysRing_78 (fun μ9 ov9 hp => ?_)
      have e2 := hp.1.symm
      have e3 := hp.2.symm
      clear hp
      subst e2 e3
      refine z_aloadn (i := 0) (pc := 81) C dX5_laysRing_81 rfl rfl ?_
      refine z_dup (pc := 82) C dX5_laysRing_82 rfl ?_
      refine zg_X5_rings (pc := 83) C dX5_laysRing_83 iX5 f161 ?_
      refine z_iconst (v := 1) (pc := 86) C dX5_laysRing_86 (by decide) ?_
      refine z_iadd (pc := 87) C dX5_laysRing_87 ?_
      refine z_topi (y := nI (r9 + 1)) (by rw [zgbM_k _ _ _ _ _ _ (by decide) (by decide) (by decide), m63, hr9, nI_1]) ?_
      refine zp_X5_rings (pc := 88) C dX5_laysRing_88 iX5 f161 ?_
      exact z_vret (pc := 91) C hr hlk ⟨rfl, rfl⟩ (Nat.zero_le _) (Nat.zero_le _) dX5_laysRing_91
theorem zcy_63 (μ : zM) : zitr (fun k ν => zu ν 59 k 0) 8 (zu μ 63 18 0) = zu (zcy μ) 63 18 0 := by
  have sw : ∀ (ν : zM) (k : Nat), zu (zu ν 63 18 0) 59 k 0 = zu (zu ν 59 k 0) 63 18 0 := by
    intro ν k
    funext b
    by_cases h : b = 59
    · subst h; rw [zu_s, zu_n _ _ _ (by decide), zu_n _ _ _ (by decide), zu_s]
    · rw [zu_n _ _ _ h]
      by_cases h2 : b = 63
      · subst h2; rw [zu_s, zu_s, zu_n _ _ _ (by decide)]
      · rw [zu_n _ _ _ h2, zu_n _ _ _ h2, zu_n _ _ _ h]
  have h : ∀ n, zitr (fun k ν => zu ν 59 k 0) n (zu μ 63 18 0) = zu (zitr (fun k ν => zu ν 59 k 0) n μ) 63 18 0 := by
    intro n
    induction n with
    | zero => rfl
    | succ n ih => rw [zitr_s, zitr_s, ih, sw]
  exact h 8
set_option maxHeartbeats 4000000 in
set_option maxRecDepth 100000 in
theorem c_X5_laysRings (l : Launch) (E : zE) (sa : Nat → Nat) {μ : zM} {ov : Nat → Int64} {d : Int32} (q n : Nat) (hd : d = nI q) (h1q : 1 ≤ q) (hq : q < 501) (hcl : μ 63 13 = nI n) (hnl : n ≤ 8) (hgv : zGv μ) : zMv l E sa yX5_laysRings wsX5_laysRings 4 96 0 0 [.ref (zob E 7), .int d] μ ov (fun μ1 ov1 => zRM (zcy μ) q μ1 (zgaM μ q n) ∧ ov1 = ov) := by
  refine z_ofMv (cc := cX5_laysRings) (nL := 6) (ret := none) (own := RX5) zfp_X5_laysRings rfl (by simp [Value.category]) (Nat.le_of_ble_eq_true rfl) rfl ?_
  intro p e s m below meth c C hr hlk
  have iX5 : ∀ w ∈ wsX50, w ∈ wsX5_laysRings := by decide +kernel
  have f74 := C.1.2.2.2.2 (.fieldLink RX5 74 "TickFallModel" "cycles" "[I") (by decide +kernel)
  have f103 := C.1.2.2.2.2 (.fieldLink RX5 103 "TickFallModel" "links" "I") (by decide +kernel)
  have f161 := C.1.2.2.2.2 (.fieldLink RX5 161 "TickFallModel" "rings" "I") (by decide +kernel)
  show zW p l e (zR 4 96 0 0) s m [Value.ref (zob E 7), Value.int d].toArray below meth c E 6 0 0 (MQ below (zQv E s.heap.size (fun μ1 ov1 => zRM (zcy μ) q μ1 (zgaM μ q n) ∧ ov1 = ov)) [Value.ref (zob E 7), Value.int d].toArray s 0 0 (zA E s.heap.size)) 0 [some (.ref (zob E 7)), some (.int (d)), none, none, none, none] [] μ ov
  refine z_aloadn (i := 0) (pc := 0) C dX5_laysRings_0 rfl rfl ?_
  refine z_iconst (v := 0) (pc := 1) C dX5_laysRings_1 (by decide) ?_
  refine zp_X5_rings (pc := 2) C dX5_laysRings_2 iX5 f161 ?_
  refine z_iconst (v := 0) (pc := 5) C dX5_laysRings_5 (by decide) ?_
  refine z_istore2 (pc := 6) C (by decide) (fun w hw => by cases hw; exact (show ¬ (1 = 2) from by decide)) dX5_laysRings_6 ?_
  have F13 : ∀ {κ : zM} {L : List z3}, zRM (zcy μ) q κ L → κ 63 13 = nI n := fun h => by rw [h.2.1 13 (by decide), zcy_k μ (by decide)]; exact hcl
  have Fm : ∀ {κ : zM} {L : List z3}, zRM (zcy μ) q κ L → ∀ i : Int32, zmeaM κ i d ↔ zmeaM μ i d := fun h i => by unfold zmeaM; rw [h.2.1 13 (by decide), h.2.1 11 (by decide), h.1 47 (by decide) (by decide) (by decide) (by decide), zcy_k μ (by decide), zcy_k μ (by decide)]
  have Fr : ∀ {κ : zM} {L : List z3}, zRM (zcy μ) q κ L → ∀ a b c, zriM κ a b c ↔ zriM μ a b c := fun h a b c => zriM_cg ((h.1 43 (by decide) (by decide) (by decide) (by decide)).trans (zcy_k μ (by decide))) ((h.1 44 (by decide) (by decide) (by decide) (by decide)).trans (zcy_k μ (by decide))) a b c
  have Fg : ∀ {κ : zM} {L : List z3}, zRM (zcy μ) q κ L → zGv κ := fun h z hz => by rw [h.1 53 (by decide) (by decide) (by decide) (by decide), zcy_k μ (by decide)]; exact hgv z hz
  have e13 : ∀ {κ : zM} {L : List z3}, zRM (zcy μ) q κ L → zmeaM μ = zmeaM μ := fun _ => rfl
  have outer : ∀ (f c8 : Nat), c8 + f = n → ∀ (κ : zM) (w3 w4 w5 : Option Value), zRM (zcy μ) q κ (zgaM μ q c8) → zW p l e (zR 4 96 0 0) s m [Value.ref (zob E 7), Value.int d].toArray below meth c E 6 0 0 (MQ below (zQv E s.heap.size (fun μ1 ov1 => zRM (zcy μ) q μ1 (zgaM μ q n) ∧ ov1 = ov)) [Value.ref (zob E 7), Value.int d].toArray s 0 0 (zA E s.heap.size)) 28 [some (.ref (zob E 7)), some (.int (d)), some (.int (nI c8)), w3, w4, w5] [] κ ov := by
    intro f
    induction f with
    | zero =>
      intro c8 hi κ w3 w4 w5 hR
      obtain rfl : c8 = n := by omega
      refine z_iloadn (i := 2) (pc := 28) C dX5_laysRings_28 rfl rfl ?_
      refine z_aloadn (i := 0) (pc := 29) C dX5_laysRings_29 rfl rfl ?_
      refine zg_X5_links (pc := 30) C dX5_laysRings_30 iX5 f103 ?_
      refine z_topi (y := nI c8) (F13 hR) ?_
      refine z_icmp_ge (tgt := 130) (pc := 33) C dX5_laysRings_33 (by decide) (fun c_l => ?_) (fun c_l => ?_)
      · exact z_vret (pc := 130) C hr hlk ⟨hR, rfl⟩ (Nat.zero_le _) (Nat.zero_le _) dX5_laysRings_130
      · exact absurd (nI_le (a := c8) (b := c8) (Nat.le_refl _) (by omega)) c_l
    | succ f ih =>
      intro c8 hi κ0 w3 w4 w5 hR0
      refine z_iloadn (i := 2) (pc := 28) C dX5_laysRings_28 rfl rfl ?_
      refine z_aloadn (i := 0) (pc := 29) C dX5_laysRings_29 rfl rfl ?_
      refine zg_X5_links (pc := 30) C dX5_laysRings_30 iX5 f103 ?_
      refine z_icmp_ge (tgt := 130) (pc := 33) C dX5_laysRings_33 (by decide) (fun c_l => ?_) (fun c_l => ?_)
      · exact absurd c_l (by rw [F13 hR0]; exact nI_ge (by omega) (by omega))
      · refine z_iconst (v := 1) (pc := 36) C dX5_laysRings_36 (by decide) ?_
        refine z_istore3 (pc := 37) C (by decide) (fun w hw => by cases hw; exact (show ¬ (1 = 2) from by decide)) dX5_laysRings_37 ?_
        have middle : ∀ (f b : Nat), 1 ≤ b → b + f = max c8 1 → ∀ (κ : zM) (w4 w5 : Option Value), zRM (zcy μ) q κ (zgaM μ q c8 ++ zmiM μ q c8 b) → zW p l e (zR 4 96 0 0) s m [Value.ref (zob E 7), Value.int d].toArray below meth c E 6 0 0 (MQ below (zQv E s.heap.size (fun μ1 ov1 => zRM (zcy μ) q μ1 (zgaM μ q n) ∧ ov1 = ov)) [Value.ref (zob E 7), Value.int d].toArray s 0 0 (zA E s.heap.size)) 38 [some (.ref (zob E 7)), some (.int (d)), some (.int (nI c8)), some (.int (nI b)), w4, w5] [] κ ov := by
          intro g
          induction g with
          | zero =>
            intro b hb1 hb κ w4 w5 hR
            refine z_iloadn (i := 3) (pc := 38) C dX5_laysRings_38 rfl rfl ?_
            refine z_iloadn (i := 2) (pc := 39) C dX5_laysRings_39 rfl rfl ?_
            refine z_icmp_ge (tgt := 124) (pc := 40) C dX5_laysRings_40 (by decide) (fun c_l => ?_) (fun c_l => ?_)
            · refine z_iinc2 (v := 1) (pc := 124) C (by decide) (by decide) (fun w hw => by cases hw; exact (show ¬ (1 = 2) from by decide)) dX5_laysRings_124 ?_
              rw [nI_1]
              refine z_goto (tgt := 28) (pc := 127) C dX5_laysRings_127 (by decide) ?_
              refine ih (c8 + 1) (by omega) κ _ _ _ ?_
              rw [zgaM_s]
              rcases Nat.lt_or_ge c8 1 with h0 | h0
              · have e0 : c8 = 0 := by omega
                subst e0; rw [show b = 1 by omega, zmiM_1] at hR; exact hR
              · rw [show b = c8 by omega] at hR; exact hR
            · exact absurd (nI_le (by omega) (by omega)) c_l
          | succ g ih2 =>
            intro b hb1 hb κ0 w4 w5 hR0
            refine z_iloadn (i := 3) (pc := 38) C dX5_laysRings_38 rfl rfl ?_
            refine z_iloadn (i := 2) (pc := 39) C dX5_laysRings_39 rfl rfl ?_
            refine z_icmp_ge (tgt := 124) (pc := 40) C dX5_laysRings_40 (by decide) (fun c_l => ?_) (fun c_l => ?_)
            · exact absurd c_l (nI_ge (by omega) (by omega))
            · refine z_iconst (v := 0) (pc := 43) C dX5_laysRings_43 (by decide) ?_
              refine z_istore4 (pc := 44) C (by decide) (fun w hw => by cases hw; exact (show ¬ (1 = 2) from by decide)) dX5_laysRings_44 ?_
              have inner : ∀ (f a : Nat), a + f = b → ∀ (κ : zM) (w5 : Option Value), zRM (zcy μ) q κ (zgaM μ q c8 ++ zmiM μ q c8 b ++ ziaM μ q c8 b a) → zW p l e (zR 4 96 0 0) s m [Value.ref (zob E 7), Value.int d].toArray below meth c E 6 0 0 (MQ below (zQv E s.heap.size (fun μ1 ov1 => zRM (zcy μ) q μ1 (zgaM μ q n) ∧ ov1 = ov)) [Value.ref (zob E 7), Value.int d].toArray s 0 0 (zA E s.heap.size)) 46 [some (.ref (zob E 7)), some (.int (d)), some (.int (nI c8)), some (.int (nI b)), some (.int (nI a)), w5] [] κ ov := by
                intro h
                induction h with
                | zero =>
                  intro a ha κ w5 hR
                  obtain rfl : a = b := by omega
                  refine z_iload (i := 4) (pc := 46) C dX5_laysRings_46 rfl ?_
                  refine z_iloadn (i := 3) (pc := 48) C dX5_laysRings_48 rfl rfl ?_
                  refine z_icmp_ge (tgt := 118) (pc := 49) C dX5_laysRings_49 (by decide) (fun c_l => ?_) (fun c_l => ?_)
                  · refine z_iinc3 (v := 1) (pc := 118) C (by decide) (by decide) (fun w hw => by cases hw; exact (show ¬ (1 = 2) from by decide)) dX5_laysRings_118 ?_
                    rw [nI_1]
                    refine z_goto (tgt := 38) (pc := 121) C dX5_laysRings_121 (by decide) ?_
                    refine ih2 (a + 1) (by omega) (by omega) κ _ _ ?_
                    rw [zmiM_s, ← List.append_assoc]; exact hR
                  · exact absurd (nI_le (by omega) (by omega)) c_l
                | succ h ih3 =>
                  intro a ha κ w5 hR
                  have hlen : (zgaM μ q c8 ++ zmiM μ q c8 b ++ ziaM μ q c8 b a).length < 56 := by rw [List.length_append, List.length_append]; have x1 := zgaM_len μ q c8; have x2 := zmiM_len μ q c8 b; have x3 := ziaM_len μ q c8 b a; have x4 := zB_ltM c8 (by omega) b (by omega) a (by omega) (by omega) (by omega); omega
                  have go : ∀ (ν : zM) (v : Int32), zRM (zcy μ) q ν (zgaM μ q c8 ++ zmiM μ q c8 b ++ ziaM μ q c8 b (a + 1)) → zW p l e (zR 4 96 0 0) s m [Value.ref (zob E 7), Value.int d].toArray below meth c E 6 0 0 (MQ below (zQv E s.heap.size (fun μ1 ov1 => zRM (zcy μ) q μ1 (zgaM μ q n) ∧ ov1 = ov)) [Value.ref (zob E 7), Value.int d].toArray s 0 0 (zA E s.heap.size)) 112 [some (.ref (zob E 7)), some (.int (d)), some (.int (nI c8)), some (.int (nI b)), some (.int (nI a)), some (.int (v))] [] ν ov := by
                    intro ν v hν
                    refine z_iinc4 (v := 1) (pc := 112) C (by decide) (by decide) (fun w hw => by cases hw; exact (show ¬ (1 = 2) from by decide)) dX5_laysRings_112 ?_
                    rw [nI_1]
                    refine z_goto (tgt := 46) (pc := 115) C dX5_laysRings_115 (by decide) ?_
                    exact ih3 (a + 1) (by omega) ν _ hν
                  have go2 : ∀ v : Int32, v = zb (zmeaM μ (nI a) d ∧ zmeaM μ (nI b) d ∧ zmeaM μ (nI c8) d) → zW p l e (zR 4 96 0 0) s m [Value.ref (zob E 7), Value.int d].toArray below meth c E 6 0 0 (MQ below (zQv E s.heap.size (fun μ1 ov1 => zRM (zcy μ) q μ1 (zgaM μ q n) ∧ ov1 = ov)) [Value.ref (zob E 7), Value.int d].toArray s 0 0 (zA E s.heap.size)) 85 [some (.ref (zob E 7)), some (.int (d)), some (.int (nI c8)), some (.int (nI b)), some (.int (nI a)), w5] [.int (v)] κ ov := by
                    intro v hv
                    subst hv
                    refine z_istore5 (pc := 85) C (by decide) (fun w hw => by cases hw; exact (show ¬ (1 = 2) from by decide)) dX5_laysRings_85 ?_
                    refine z_iload (i := 5) (pc := 87) C dX5_laysRings_87 rfl ?_
                    refine z_if_eq (tgt := 112) (pc := 89) C dX5_laysRings_89 (by decide) (fun c_5 => ?_) (fun c_5 => ?_)
                    · rw [zb_eq0] at c_5
                      exact go κ _ (by rw [ziaM_s, if_neg (fun h => c_5 (by rw [hd]; exact (of_decide_eq_true h).1)), List.append_nil]; exact hR)
                    · rw [zb_ne0] at c_5
                      refine z_aloadn (i := 0) (pc := 92) C dX5_laysRings_92 rfl rfl ?_
                      refine z_iload (i := 4) (pc := 93) C dX5_laysRings_93 rfl ?_
                      refine z_iloadn (i := 3) (pc := 95) C dX5_laysRings_95 rfl rfl ?_
                      refine z_iloadn (i := 2) (pc := 96) C dX5_laysRings_96 rfl rfl ?_
                      refine z_callVi (pc := 97) (n := 3) (As := [.int (nI a), .int (nI b), .int (nI c8)]) (rest := []) C (c_X5_isRing l E sa (μ := κ) (ov := ov) a b c8 rfl rfl rfl (by omega) (by omega) (by omega)) gX5_laysRings_X5_isRing rfl zfV_X5_isRing ⟨Nat.le_of_ble_eq_true rfl, Nat.le_of_ble_eq_true rfl⟩ rfl (zRec_X5 E) rfl (Nat.le_of_ble_eq_true rfl) ⟨Nat.zero_le _, Nat.zero_le _⟩ dX5_laysRings_97 (fun r9 μ9 ov9 hp => ?_)
                      have e1 := hp.1.symm
                      have e2 := hp.2.1.symm
                      have e3 := hp.2.2.symm
                      clear hp
                      subst e1 e2 e3
                      refine z_if_eq (tgt := 112) (pc := 100) C dX5_laysRings_100 (by decide) (fun c_6 => ?_) (fun c_6 => ?_)
                      · rw [zb_eq0] at c_6
                        exact go κ _ (by rw [ziaM_s, if_neg (fun h => c_6 ((Fr hR a b c8).mpr (of_decide_eq_true h).2)), List.append_nil]; exact hR)
                      · rw [zb_ne0] at c_6
                        refine z_aloadn (i := 0) (pc := 103) C dX5_laysRings_103 rfl rfl ?_
                        refine z_iload (i := 4) (pc := 104) C dX5_laysRings_104 rfl ?_
                        refine z_iloadn (i := 3) (pc := 106) C dX5_laysRings_106 rfl rfl ?_
                        refine z_iloadn (i := 2) (pc := 107) C dX5_laysRings_107 rfl rfl ?_
                        refine z_iloadn (i := 1) (pc := 108) C dX5_laysRings_108 rfl rfl ?_
                        refine z_callVv (pc := 109) (n := 4) (As := [.int (nI a), .int (nI b), .int (nI c8), .int (d)]) (rest := []) C (c_X5_laysRing l E sa (μ := κ) (ov := ov) a b c8 q _ rfl rfl rfl (by omega) (by omega) (by omega) hd h1q hq hR.2.2.1 hlen (Fg hR)) gX5_laysRings_X5_laysRing rfl zfV_X5_laysRing ⟨Nat.le_of_ble_eq_true rfl, Nat.le_of_ble_eq_true rfl⟩ rfl (zRec_X5 E) rfl (Nat.le_of_ble_eq_true rfl) ⟨Nat.zero_le _, Nat.zero_le _⟩ dX5_laysRings_109 (fun μ9 ov9 hp => ?_)
                        have e2 := hp.1.symm
                        have e3 := hp.2.symm
                        clear hp
                        subst e2 e3
                        exact go _ _ (by rw [ziaM_s, if_pos (by unfold zPM; rw [decide_eq_true_eq, ← hd]; exact ⟨c_5, (Fr hR a b c8).mp c_6⟩), ← List.append_assoc]; exact hR.add (by omega) (by omega) (by omega))
                  refine z_iload (i := 4) (pc := 46) C dX5_laysRings_46 rfl ?_
                  refine z_iloadn (i := 3) (pc := 48) C dX5_laysRings_48 rfl rfl ?_
                  refine z_icmp_ge (tgt := 118) (pc := 49) C dX5_laysRings_49 (by decide) (fun c_l => ?_) (fun c_l => ?_)
                  · exact absurd c_l (nI_ge (by omega) (by omega))
                  · refine z_aloadn (i := 0) (pc := 52) C dX5_laysRings_52 rfl rfl ?_
                    refine z_iload (i := 4) (pc := 53) C dX5_laysRings_53 rfl ?_
                    refine z_iloadn (i := 1) (pc := 55) C dX5_laysRings_55 rfl rfl ?_
                    refine z_callVi (pc := 56) (n := 2) (As := [.int (nI a), .int (d)]) (rest := []) C (c_X5_hasMeasured l E sa (μ := κ) (ov := ov) (nI a) d n (F13 hR) hnl) gX5_laysRings_X5_hasMeasured rfl zfV_X5_hasMeasured ⟨Nat.le_of_ble_eq_true rfl, Nat.le_of_ble_eq_true rfl⟩ rfl (zRec_X5 E) rfl (Nat.le_of_ble_eq_true rfl) ⟨Nat.zero_le _, Nat.zero_le _⟩ dX5_laysRings_56 (fun r9 μ9 ov9 hp => ?_)
                    have e1 := hp.1.symm
                    have e2 := hp.2.1.symm
                    have e3 := hp.2.2.symm
                    clear hp
                    subst e1 e2 e3
                    refine z_if_eq (tgt := 84) (pc := 59) C dX5_laysRings_59 (by decide) (fun c_1 => ?_) (fun c_1 => ?_)
                    · rw [zb_eq0] at c_1
                      refine z_iconst (v := 0) (pc := 84) C dX5_laysRings_84 (by decide) ?_
                      exact go2 _ (zb_f (fun h => c_1 ((Fm hR _).mpr h.1))).symm
                    · rw [zb_ne0] at c_1
                      refine z_aloadn (i := 0) (pc := 62) C dX5_laysRings_62 rfl rfl ?_
                      refine z_iloadn (i := 3) (pc := 63) C dX5_laysRings_63 rfl rfl ?_
                      refine z_iloadn (i := 1) (pc := 64) C dX5_laysRings_64 rfl rfl ?_
                      refine z_callVi (pc := 65) (n := 2) (As := [.int (nI b), .int (d)]) (rest := []) C (c_X5_hasMeasured l E sa (μ := κ) (ov := ov) (nI b) d n (F13 hR) hnl) gX5_laysRings_X5_hasMeasured rfl zfV_X5_hasMeasured ⟨Nat.le_of_ble_eq_true rfl, Nat.le_of_ble_eq_true rfl⟩ rfl (zRec_X5 E) rfl (Nat.le_of_ble_eq_true rfl) ⟨Nat.zero_le _, Nat.zero_le _⟩ dX5_laysRings_65 (fun r9 μ9 ov9 hp => ?_)
                      have e1 := hp.1.symm
                      have e2 := hp.2.1.symm
                      have e3 := hp.2.2.symm
                      clear hp
                      subst e1 e2 e3
                      refine z_if_eq (tgt := 84) (pc := 68) C dX5_laysRings_68 (by decide) (fun c_2 => ?_) (fun c_2 => ?_)
                      · rw [zb_eq0] at c_2
                        refine z_iconst (v := 0) (pc := 84) C dX5_laysRings_84 (by decide) ?_
                        exact go2 _ (zb_f (fun h => c_2 ((Fm hR _).mpr h.2.1))).symm
                      · rw [zb_ne0] at c_2
                        refine z_aloadn (i := 0) (pc := 71) C dX5_laysRings_71 rfl rfl ?_
                        refine z_iloadn (i := 2) (pc := 72) C dX5_laysRings_72 rfl rfl ?_
                        refine z_iloadn (i := 1) (pc := 73) C dX5_laysRings_73 rfl rfl ?_
                        refine z_callVi (pc := 74) (n := 2) (As := [.int (nI c8), .int (d)]) (rest := []) C (c_X5_hasMeasured l E sa (μ := κ) (ov := ov) (nI c8) d n (F13 hR) hnl) gX5_laysRings_X5_hasMeasured rfl zfV_X5_hasMeasured ⟨Nat.le_of_ble_eq_true rfl, Nat.le_of_ble_eq_true rfl⟩ rfl (zRec_X5 E) rfl (Nat.le_of_ble_eq_true rfl) ⟨Nat.zero_le _, Nat.zero_le _⟩ dX5_laysRings_74 (fun r9 μ9 ov9 hp => ?_)
                        have e1 := hp.1.symm
                        have e2 := hp.2.1.symm
                        have e3 := hp.2.2.symm
                        clear hp
                        subst e1 e2 e3
                        refine z_if_eq (tgt := 84) (pc := 77) C dX5_laysRings_77 (by decide) (fun c_3 => ?_) (fun c_3 => ?_)
                        · rw [zb_eq0] at c_3
                          refine z_iconst (v := 0) (pc := 84) C dX5_laysRings_84 (by decide) ?_
                          exact go2 _ (zb_f (fun h => c_3 ((Fm hR _).mpr h.2.2))).symm
                        · rw [zb_ne0] at c_3
                          refine z_iconst (v := 1) (pc := 80) C dX5_laysRings_80 (by decide) ?_
                          refine z_goto (tgt := 85) (pc := 81) C dX5_laysRings_81 (by decide) ?_
                          exact go2 _ (zb_t ⟨(Fm hR _).mp c_1, (Fm hR _).mp c_2, (Fm hR _).mp c_3⟩).symm
              exact inner b 0 (by omega) _ _ (by rw [show ziaM μ q c8 b 0 = [] from rfl, List.append_nil]; exact hR0)
        exact middle (max c8 1 - 1) 1 (by omega) (by omega) _ _ _ (by rw [zmiM_1, List.append_nil]; exact hR0)
  have hR1 : zRM (zcy μ) q (zitr (fun k ν => zu ν 59 k 0) 8 (zu μ 63 18 0)) [] := by
    have e : zitr (fun k ν => zu ν 59 k 0) 8 (zu μ 63 18 0) = zu (zcy μ) 63 18 0 := zcy_63 μ
    rw [e]
    exact ⟨fun b _ _ _ h => zu_n _ _ _ h, fun j hj => by rw [zu_s, upd_n _ _ hj], by rw [zu_s, upd_s]; rfl, fun j x hx => (by cases hx), fun x hx => (by cases hx)⟩
  have zero : ∀ (f i : Nat), i + f = 8 → zW p l e (zR 4 96 0 0) s m [Value.ref (zob E 7), Value.int d].toArray below meth c E 6 0 0 (MQ below (zQv E s.heap.size (fun μ1 ov1 => zRM (zcy μ) q μ1 (zgaM μ q n) ∧ ov1 = ov)) [Value.ref (zob E 7), Value.int d].toArray s 0 0 (zA E s.heap.size)) 7 [some (.ref (zob E 7)), some (.int (d)), some (.int (nI i)), none, none, none] [] (zitr (fun k ν => zu ν 59 k 0) i (zu μ 63 18 0)) ov := by
    intro f
    induction f with
    | zero =>
      intro i hi
      obtain rfl : i = 8 := by omega
      refine z_iloadn (i := 2) (pc := 7) C dX5_laysRings_7 rfl rfl ?_
      refine z_bipush (v := 8) (pc := 8) C dX5_laysRings_8 (by decide) ?_
      refine z_icmp_ge (tgt := 26) (pc := 10) C dX5_laysRings_10 (by decide) (fun c_l => ?_) (fun c_l => ?_)
      · refine z_iconst (v := 2) (pc := 26) C dX5_laysRings_26 (by decide) ?_
        refine z_istore2 (pc := 27) C (by decide) (fun w hw => by cases hw; exact (show ¬ (1 = 2) from by decide)) dX5_laysRings_27 ?_
        rcases Nat.lt_or_ge n 2 with hn2 | hn2
        · have hR := hR1
          refine z_iloadn (i := 2) (pc := 28) C dX5_laysRings_28 rfl rfl ?_
          refine z_aloadn (i := 0) (pc := 29) C dX5_laysRings_29 rfl rfl ?_
          refine zg_X5_links (pc := 30) C dX5_laysRings_30 iX5 f103 ?_
          refine z_topi (y := nI n) (F13 hR1) ?_
          refine z_icmp_ge (tgt := 130) (pc := 33) C dX5_laysRings_33 (by decide) (fun c_l => ?_) (fun c_l => ?_)
          · exact z_vret (pc := 130) C hr hlk ⟨by rw [zgaM_01 μ q (by omega)]; exact hR1, rfl⟩ (Nat.zero_le _) (Nat.zero_le _) dX5_laysRings_130
          · exact absurd (nI_le (b := 2) (by omega) (by omega)) c_l
        · exact outer (n - 2) 2 (by omega) _ _ _ _ (by rw [zgaM_2]; exact hR1)
      · exact absurd (by decide) c_l
    | succ f ih =>
      intro i hi
      refine z_iloadn (i := 2) (pc := 7) C dX5_laysRings_7 rfl rfl ?_
      refine z_bipush (v := 8) (pc := 8) C dX5_laysRings_8 (by decide) ?_
      refine z_icmp_ge (tgt := 26) (pc := 10) C dX5_laysRings_10 (by decide) (fun c_l => ?_) (fun c_l => ?_)
      · exact absurd c_l (nI_ge (b := 8) (by omega) (by omega))
      · refine z_aloadn (i := 0) (pc := 13) C dX5_laysRings_13 rfl rfl ?_
        refine zg_X5_cycles (pc := 14) C dX5_laysRings_14 iX5 f74 ?_
        refine z_iloadn (i := 2) (pc := 17) C dX5_laysRings_17 rfl rfl ?_
        refine z_iconst (v := 0) (pc := 18) C dX5_laysRings_18 (by decide) ?_
        refine z_iast (pc := 19) C 59 i (by decide) rfl rfl (show i < 8 by omega) dX5_laysRings_19 ?_
        refine z_mem (μ' := (zitr (fun k ν => zu ν 59 k 0) (i + 1) (zu μ 63 18 0))) rfl ?_
        refine z_iinc2 (v := 1) (pc := 20) C (by decide) (by decide) (fun w hw => by cases hw; exact (show ¬ (1 = 2) from by decide)) dX5_laysRings_20 ?_
        rw [nI_1]
        refine z_goto (tgt := 7) (pc := 23) C dX5_laysRings_23 (by decide) ?_
        exact ih (i + 1) (by omega)
  exact zero 8 0 (by omega)
set_option maxHeartbeats 4000000 in
set_option maxRecDepth 100000 in
theorem c_X5_openRings (l : Launch) (E : zE) (sa : Nat → Nat) {μ : zM} {ov : Nat → Int64} (n9 : Nat) (hrn : μ 63 18 = nI n9) (hn : n9 ≤ 56) (hid : ∀ j, j < 3 * n9 → ∃ k, k < 8 ∧ μ 60 j = nI k) : zMi l E sa yX5_openRings wsX5_openRings 0 0 0 0 [.ref (zob E 7)] μ ov (fun r μ1 ov1 => r = nI (zcnt (zbdM μ) n9) ∧ μ1 = μ ∧ ov1 = ov) := by
  refine z_ofMi (cc := cX5_openRings) (nL := 5) (ret := (some .int)) (own := RX5) zfp_X5_openRings rfl (by simp [Value.category]) (Nat.le_of_ble_eq_true rfl) rfl ?_
  intro p e s m below meth c C hr hlk
  have iX5 : ∀ w ∈ wsX50, w ∈ wsX5_openRings := by decide +kernel
  have f74 := C.1.2.2.2.2 (.fieldLink RX5 74 "TickFallModel" "cycles" "[I") (by decide +kernel)
  have f77 := C.1.2.2.2.2 (.fieldLink RX5 77 "TickFallModel" "ringOf" "[I") (by decide +kernel)
  have f80 := C.1.2.2.2.2 (.fieldLink RX5 80 "TickFallModel" "sign" "[I") (by decide +kernel)
  have f83 := C.1.2.2.2.2 (.fieldLink RX5 83 "TickFallModel" "sum" "[I") (by decide +kernel)
  have f86 := C.1.2.2.2.2 (.fieldLink RX5 86 "TickFallModel" "doubt" "I") (by decide +kernel)
  have f161 := C.1.2.2.2.2 (.fieldLink RX5 161 "TickFallModel" "rings" "I") (by decide +kernel)
  show zW p l e (zR 0 0 0 0) s m [Value.ref (zob E 7)].toArray below meth c E 5 0 0 (MQ below (zQi E s.heap.size (fun r μ1 ov1 => r = nI (zcnt (zbdM μ) n9) ∧ μ1 = μ ∧ ov1 = ov)) [Value.ref (zob E 7)].toArray s 0 0 (zA E s.heap.size)) 0 [some (.ref (zob E 7)), none, none, none, none] [] μ ov
  refine z_iconst (v := 0) (pc := 0) C dX5_openRings_0 (by decide) ?_
  refine z_istore1 (pc := 1) C (by decide) (fun w hw => by cases hw; exact (show ¬ (1 = 2) from by decide)) dX5_openRings_1 ?_
  refine z_iconst (v := 0) (pc := 2) C dX5_openRings_2 (by decide) ?_
  refine z_istore2 (pc := 3) C (by decide) (fun w hw => by cases hw; exact (show ¬ (1 = 2) from by decide)) dX5_openRings_3 ?_
  have loop : ∀ (f j : Nat) (w3 w4 : Option Value), j + f = n9 → zW p l e (zR 0 0 0 0) s m [Value.ref (zob E 7)].toArray below meth c E 5 0 0 (MQ below (zQi E s.heap.size (fun r μ1 ov1 => r = nI (zcnt (zbdM μ) n9) ∧ μ1 = μ ∧ ov1 = ov)) [Value.ref (zob E 7)].toArray s 0 0 (zA E s.heap.size)) 4 [some (.ref (zob E 7)), some (.int (nI (zcnt (zbdM μ) j))), some (.int (nI j)), w3, w4] [] μ ov := by
    intro f
    induction f with
    | zero =>
      intro j w3 w4 hj
      obtain rfl : j = n9 := by omega
      refine z_iloadn (i := 2) (pc := 4) C dX5_openRings_4 rfl rfl ?_
      refine z_aloadn (i := 0) (pc := 5) C dX5_openRings_5 rfl rfl ?_
      refine zg_X5_rings (pc := 6) C dX5_openRings_6 iX5 f161 ?_
      refine z_topi (y := nI j) hrn ?_
      refine z_icmp_ge (tgt := 98) (pc := 9) C dX5_openRings_9 (by decide) (fun c_l => ?_) (fun c_l => ?_)
      · refine z_iloadn (i := 1) (pc := 98) C dX5_openRings_98 rfl rfl ?_
        exact z_iret (pc := 99) C hr hlk ⟨rfl, rfl, rfl⟩ (Nat.zero_le _) (Nat.zero_le _) dX5_openRings_99
      · exact absurd (nI_le (a := j) (b := j) (Nat.le_refl _) (by omega)) c_l
    | succ f ih =>
      intro j w3 w4 hj
      have go : ∀ v : Int32, v = zb (μ 63 15 < zmuM μ j 3 ∨ zmuM μ j 3 < -μ 63 15) → zW p l e (zR 0 0 0 0) s m [Value.ref (zob E 7)].toArray below meth c E 5 0 0 (MQ below (zQi E s.heap.size (fun r μ1 ov1 => r = nI (zcnt (zbdM μ) n9) ∧ μ1 = μ ∧ ov1 = ov)) [Value.ref (zob E 7)].toArray s 0 0 (zA E s.heap.size)) 90 [some (.ref (zob E 7)), some (.int (nI (zcnt (zbdM μ) j))), some (.int (nI j)), some (.int (zmuM μ j 3)), some (.int (nI (3 * j + 3)))] [.int (v), .int (nI (zcnt (zbdM μ) j))] μ ov := by
        intro v hv
        have e : nI (zcnt (zbdM μ) j) + v = nI (zcnt (zbdM μ) (j + 1)) := by
          rw [zcnt, hv]
          by_cases h : μ 63 15 < zmuM μ j 3 ∨ zmuM μ j 3 < -μ 63 15
          · rw [zb_t h, if_pos (by unfold zbdM; rw [decide_eq_true_eq]; exact h)]; exact nI_1 _
          · rw [zb_f h, if_neg (by unfold zbdM; rw [decide_eq_true_eq]; exact h)]; exact Int32.add_zero _
        refine z_iadd (pc := 90) C dX5_openRings_90 ?_
        refine z_topi (y := nI (zcnt (zbdM μ) (j + 1))) e ?_
        refine z_istore1 (pc := 91) C (by decide) (fun w hw => by cases hw; exact (show ¬ (1 = 2) from by decide)) dX5_openRings_91 ?_
        refine z_iinc2 (v := 1) (pc := 92) C (by decide) (by decide) (fun w hw => by cases hw; exact (show ¬ (1 = 2) from by decide)) dX5_openRings_92 ?_
        rw [nI_1]
        refine z_goto (tgt := 4) (pc := 95) C dX5_openRings_95 (by decide) ?_
        exact ih (j + 1) _ _ (by omega)
      have h3 : (3 : Int32) * nI j = nI (3 * j) := by rw [show (3 : Int32) = nI 3 from rfl, pk_mul]
      have inner : ∀ (f i : Nat), i + f = 3 → zW p l e (zR 0 0 0 0) s m [Value.ref (zob E 7)].toArray below meth c E 5 0 0 (MQ below (zQi E s.heap.size (fun r μ1 ov1 => r = nI (zcnt (zbdM μ) n9) ∧ μ1 = μ ∧ ov1 = ov)) [Value.ref (zob E 7)].toArray s 0 0 (zA E s.heap.size)) 24 [some (.ref (zob E 7)), some (.int (nI (zcnt (zbdM μ) j))), some (.int (nI j)), some (.int (zmuM μ j i)), some (.int (nI (3 * j + i)))] [] μ ov := by
        intro f
        induction f with
        | zero =>
          intro i hi
          obtain rfl : i = 3 := by omega
          refine z_iload (i := 4) (pc := 24) C dX5_openRings_24 rfl ?_
          refine z_iconst (v := 3) (pc := 26) C dX5_openRings_26 (by decide) ?_
          refine z_iloadn (i := 2) (pc := 27) C dX5_openRings_27 rfl rfl ?_
          refine z_imul (pc := 28) C dX5_openRings_28 ?_
          refine z_iconst (v := 3) (pc := 29) C dX5_openRings_29 (by decide) ?_
          refine z_iadd (pc := 30) C dX5_openRings_30 ?_
          refine z_topi (y := nI (3 * j + 3)) (by rw [h3, show (3 : Int32) = nI 3 from rfl, nI_add]) ?_
          refine z_icmp_ge (tgt := 67) (pc := 31) C dX5_openRings_31 (by decide) (fun c_l => ?_) (fun c_l => ?_)
          · refine z_iloadn (i := 1) (pc := 67) C dX5_openRings_67 rfl rfl ?_
            refine z_iloadn (i := 3) (pc := 68) C dX5_openRings_68 rfl rfl ?_
            refine z_aloadn (i := 0) (pc := 69) C dX5_openRings_69 rfl rfl ?_
            refine zg_X5_doubt (pc := 70) C dX5_openRings_70 iX5 f86 ?_
            refine z_icmp_gt (tgt := 85) (pc := 73) C dX5_openRings_73 (by decide) (fun c_1 => ?_) (fun c_1 => ?_)
            · refine z_iconst (v := 1) (pc := 85) C dX5_openRings_85 (by decide) ?_
              refine z_goto (tgt := 90) (pc := 86) C dX5_openRings_86 (by decide) ?_
              exact go _ (zb_t (Or.inl c_1)).symm
            · refine z_iloadn (i := 3) (pc := 76) C dX5_openRings_76 rfl rfl ?_
              refine z_aloadn (i := 0) (pc := 77) C dX5_openRings_77 rfl rfl ?_
              refine zg_X5_doubt (pc := 78) C dX5_openRings_78 iX5 f86 ?_
              refine z_ineg (pc := 81) C dX5_openRings_81 ?_
              refine z_icmp_ge (tgt := 89) (pc := 82) C dX5_openRings_82 (by decide) (fun c_2 => ?_) (fun c_2 => ?_)
              · refine z_iconst (v := 0) (pc := 89) C dX5_openRings_89 (by decide) ?_
                exact go _ (zb_f (fun h => h.elim c_1 (fun z => zno_le c_2 z))).symm
              · refine z_iconst (v := 1) (pc := 85) C dX5_openRings_85 (by decide) ?_
                refine z_goto (tgt := 90) (pc := 86) C dX5_openRings_86 (by decide) ?_
                exact go _ (zb_t (Or.inr (znot_le c_2))).symm
          · exact absurd (nI_le (a := 3 * j + 3) (b := 3 * j + 3) (Nat.le_refl _) (by omega)) c_l
        | succ f ih2 =>
          intro i hi
          obtain ⟨k, hk, ek⟩ := hid (3 * j + i) (by omega)
          refine z_iload (i := 4) (pc := 24) C dX5_openRings_24 rfl ?_
          refine z_iconst (v := 3) (pc := 26) C dX5_openRings_26 (by decide) ?_
          refine z_iloadn (i := 2) (pc := 27) C dX5_openRings_27 rfl rfl ?_
          refine z_imul (pc := 28) C dX5_openRings_28 ?_
          refine z_iconst (v := 3) (pc := 29) C dX5_openRings_29 (by decide) ?_
          refine z_iadd (pc := 30) C dX5_openRings_30 ?_
          refine z_topi (y := nI (3 * j + 3)) (by rw [h3, show (3 : Int32) = nI 3 from rfl, nI_add]) ?_
          refine z_icmp_ge (tgt := 67) (pc := 31) C dX5_openRings_31 (by decide) (fun c_l => ?_) (fun c_l => ?_)
          · exact absurd c_l (nI_ge (by omega) (by omega))
          · refine z_iloadn (i := 3) (pc := 34) C dX5_openRings_34 rfl rfl ?_
            refine z_sipush (v := 1000) (pc := 35) C dX5_openRings_35 (by decide) ?_
            refine z_aloadn (i := 0) (pc := 38) C dX5_openRings_38 rfl rfl ?_
            refine zg_X5_sign (pc := 39) C dX5_openRings_39 iX5 f80 ?_
            refine z_iload (i := 4) (pc := 42) C dX5_openRings_42 rfl ?_
            refine z_iald (pc := 44) C 61 (3 * j + i) (by decide) rfl rfl (show 3 * j + i < 168 by omega) dX5_openRings_44 ?_
            refine z_imul (pc := 45) C dX5_openRings_45 ?_
            refine z_aloadn (i := 0) (pc := 46) C dX5_openRings_46 rfl rfl ?_
            refine zg_X5_cycles (pc := 47) C dX5_openRings_47 iX5 f74 ?_
            refine z_aloadn (i := 0) (pc := 50) C dX5_openRings_50 rfl rfl ?_
            refine zg_X5_ringOf (pc := 51) C dX5_openRings_51 iX5 f77 ?_
            refine z_iload (i := 4) (pc := 54) C dX5_openRings_54 rfl ?_
            refine z_iald (pc := 56) C 60 (3 * j + i) (by decide) rfl rfl (show 3 * j + i < 168 by omega) dX5_openRings_56 ?_
            refine z_iald (pc := 57) C 59 k (by decide) rfl ek (show k < 8 by omega) dX5_openRings_57 ?_
            refine z_imul (pc := 58) C dX5_openRings_58 ?_
            refine z_isub (pc := 59) C dX5_openRings_59 ?_
            refine z_topi (y := zmuM μ j (i + 1)) (by rw [zmuM, ek, nI_clamp (by omega)]) ?_
            refine z_istore3 (pc := 60) C (by decide) (fun w hw => by cases hw; exact (show ¬ (1 = 2) from by decide)) dX5_openRings_60 ?_
            refine z_iinc4 (v := 1) (pc := 61) C (by decide) (by decide) (fun w hw => by cases hw; exact (show ¬ (1 = 2) from by decide)) dX5_openRings_61 ?_
            rw [nI_1]
            refine z_goto (tgt := 24) (pc := 64) C dX5_openRings_64 (by decide) ?_
            exact ih2 (i + 1) (by omega)
      refine z_iloadn (i := 2) (pc := 4) C dX5_openRings_4 rfl rfl ?_
      refine z_aloadn (i := 0) (pc := 5) C dX5_openRings_5 rfl rfl ?_
      refine zg_X5_rings (pc := 6) C dX5_openRings_6 iX5 f161 ?_
      refine z_icmp_ge (tgt := 98) (pc := 9) C dX5_openRings_9 (by decide) (fun c_l => ?_) (fun c_l => ?_)
      · exact absurd c_l (by rw [hrn]; exact nI_ge (by omega) (by omega))
      · refine z_aloadn (i := 0) (pc := 12) C dX5_openRings_12 rfl rfl ?_
        refine zg_X5_sum (pc := 13) C dX5_openRings_13 iX5 f83 ?_
        refine z_iloadn (i := 2) (pc := 16) C dX5_openRings_16 rfl rfl ?_
        refine z_iald (pc := 17) C 62 j (by decide) rfl rfl (show j < 56 by omega) dX5_openRings_17 ?_
        refine z_istore3 (pc := 18) C (by decide) (fun w hw => by cases hw; exact (show ¬ (1 = 2) from by decide)) dX5_openRings_18 ?_
        refine z_iconst (v := 3) (pc := 19) C dX5_openRings_19 (by decide) ?_
        refine z_iloadn (i := 2) (pc := 20) C dX5_openRings_20 rfl rfl ?_
        refine z_imul (pc := 21) C dX5_openRings_21 ?_
        refine z_topi (y := nI (3 * j + 0)) (by rw [h3]; rfl) ?_
        refine z_istore4 (pc := 22) C (by decide) (fun w hw => by cases hw; exact (show ¬ (1 = 2) from by decide)) dX5_openRings_22 ?_
        exact inner 3 0 (by omega)
  exact loop n9 0 _ _ (by omega)
