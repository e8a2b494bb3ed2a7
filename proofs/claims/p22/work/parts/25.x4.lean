set_option maxHeartbeats 4000000 in
set_option maxRecDepth 100000 in
theorem c_X3_add (l : Launch) (E : zE) (sa : Nat → Nat) {μ : zM} {ov : Nat → Int64} {i1 i2 i3 i5 : Int32} (L : List z3) (a b d t : Nat) (h1 : i1 = nI a) (h2 : i2 = nI b) (h3 : i3 = nI d) (h5 : i5 = nI t) (ha : a < 8) (hb : b < 8) (hd : d < 8) (ht : t < 501) (hc : μ 63 7 = nI L.length) (hL : L.length < 56) : zMv l E sa yX3_add wsX3_add 2 46 0 0 [.ref (zob E 4), .int i1, .int i2, .int i3, .ref (zob E 2), .int i5] μ ov (fun μ1 ov1 => μ1 = zaddR μ L.length a b d t ∧ ov1 = ov) := by
  refine z_ofMv (cc := cX3_add) (nL := 6) (ret := none) (own := RX3) zfp_X3_add rfl (by simp [Value.category]) (Nat.le_of_ble_eq_true rfl) rfl ?_
  intro p e s m below meth c C hr hlk
  have iX3 : ∀ w ∈ wsX30, w ∈ wsX3_add := by decide +kernel
  have f9 := C.1.2.2.2.2 (.fieldLink RX3 9 "TickFall$Rings" "lowest" "[I") (by decide +kernel)
  have f15 := C.1.2.2.2.2 (.fieldLink RX3 15 "TickFall$Rings" "between" "[I") (by decide +kernel)
  have f18 := C.1.2.2.2.2 (.fieldLink RX3 18 "TickFall$Rings" "highest" "[I") (by decide +kernel)
  have f21 := C.1.2.2.2.2 (.fieldLink RX3 21 "TickFall$Rings" "betweenSigns" "[I") (by decide +kernel)
  have f24 := C.1.2.2.2.2 (.fieldLink RX3 24 "TickFall$Rings" "highestSigns" "[I") (by decide +kernel)
  have f27 := C.1.2.2.2.2 (.fieldLink RX3 27 "TickFall$Rings" "sums" "[I") (by decide +kernel)
  have f30 := C.1.2.2.2.2 (.fieldLink RX3 30 "TickFall$Rings" "count" "I") (by decide +kernel)
  have f34 := C.1.2.2.2.2 (.fieldLink RX3 34 "TickFall$Rings" "isInRing" "[Z") (by decide +kernel)
  show zW p l e (zR 2 46 0 0) s m [Value.ref (zob E 4), Value.int i1, Value.int i2, Value.int i3, Value.ref (zob E 2), Value.int i5].toArray below meth c E 6 0 0 (MQ below (zQv E s.heap.size (fun μ1 ov1 => μ1 = zaddR μ L.length a b d t ∧ ov1 = ov)) [Value.ref (zob E 4), Value.int i1, Value.int i2, Value.int i3, Value.ref (zob E 2), Value.int i5].toArray s 0 0 (zA E s.heap.size)) 0 [some (.ref (zob E 4)), some (.int (i1)), some (.int (i2)), some (.int (i3)), some (.ref (zob E 2)), some (.int (i5))] [] μ ov
  refine z_aloadn (i := 0) (pc := 0) C dX3_add_0 rfl rfl ?_
  refine zg_X3_count (pc := 1) C dX3_add_1 iX3 f30 ?_
  refine z_bipush (v := 56) (pc := 4) C dX3_add_4 (by decide) ?_
  refine z_icmp_lt (tgt := 10) (pc := 6) C dX3_add_6 (by decide) (fun c_1 => ?_) (fun c_1 => ?_)
  · refine z_aloadn (i := 0) (pc := 10) C dX3_add_10 rfl rfl ?_
    refine zg_X3_lowest (pc := 11) C dX3_add_11 iX3 f9 ?_
    refine z_aloadn (i := 0) (pc := 14) C dX3_add_14 rfl rfl ?_
    refine zg_X3_count (pc := 15) C dX3_add_15 iX3 f30 ?_
    refine z_iloadn (i := 1) (pc := 18) C dX3_add_18 rfl rfl ?_
    refine z_topi (y := nI a) h1 ?_
    refine z_iast (pc := 19) C 14 L.length (by decide) rfl (by exact hc) (show L.length < 56 from hL) dX3_add_19 ?_
    refine z_aloadn (i := 0) (pc := 20) C dX3_add_20 rfl rfl ?_
    refine zg_X3_between (pc := 21) C dX3_add_21 iX3 f15 ?_
    refine z_aloadn (i := 0) (pc := 24) C dX3_add_24 rfl rfl ?_
    refine zg_X3_count (pc := 25) C dX3_add_25 iX3 f30 ?_
    refine z_iloadn (i := 2) (pc := 28) C dX3_add_28 rfl rfl ?_
    refine z_topi (y := nI b) h2 ?_
    refine z_iast (pc := 29) C 15 L.length (by decide) rfl (by rw [zu_n _ _ _ (by decide)]; exact hc) (show L.length < 56 from hL) dX3_add_29 ?_
    refine z_aloadn (i := 0) (pc := 30) C dX3_add_30 rfl rfl ?_
    refine zg_X3_highest (pc := 31) C dX3_add_31 iX3 f18 ?_
    refine z_aloadn (i := 0) (pc := 34) C dX3_add_34 rfl rfl ?_
    refine zg_X3_count (pc := 35) C dX3_add_35 iX3 f30 ?_
    refine z_iloadn (i := 3) (pc := 38) C dX3_add_38 rfl rfl ?_
    refine z_topi (y := nI d) h3 ?_
    refine z_iast (pc := 39) C 16 L.length (by decide) rfl (by rw [zu_n _ _ _ (by decide), zu_n _ _ _ (by decide)]; exact hc) (show L.length < 56 from hL) dX3_add_39 ?_
    refine z_aloadn (i := 0) (pc := 40) C dX3_add_40 rfl rfl ?_
    refine zg_X3_betweenSigns (pc := 41) C dX3_add_41 iX3 f21 ?_
    refine z_aloadn (i := 0) (pc := 44) C dX3_add_44 rfl rfl ?_
    refine zg_X3_count (pc := 45) C dX3_add_45 iX3 f30 ?_
    refine z_aload (i := 4) (pc := 48) C dX3_add_48 rfl ?_
    refine z_iloadn (i := 1) (pc := 50) C dX3_add_50 rfl rfl ?_
    refine z_iloadn (i := 2) (pc := 51) C dX3_add_51 rfl rfl ?_
    refine z_callVi (pc := 52) (n := 2) (As := [.int (i1), .int (i2)]) (rest := [.int ((zu (zu (zu μ 14 L.length (nI a)) 15 L.length (nI b)) 16 L.length (nI d)) 63 7), .ref (zad E 17)]) C (c_X2_signBehind l E sa (μ := (zu (zu (zu μ 14 L.length (nI a)) 15 L.length (nI b)) 16 L.length (nI d))) a b h1 h2 ha hb) gX3_add_X2_signBehind rfl zfV_X2_signBehind ⟨Nat.le_of_ble_eq_true rfl, Nat.le_of_ble_eq_true rfl⟩ rfl (zRec_X2 E) rfl (Nat.le_of_ble_eq_true rfl) ⟨Nat.zero_le _, Nat.zero_le _⟩ dX3_add_52 (fun r9 μ9 ov9 hp => ?_)
    have e1 := hp.1.symm
    have e2 := hp.2.1.symm
    have e3 := hp.2.2.symm
    clear hp
    subst e1 e2 e3
    refine z_topi (y := zsgn μ a b) (zsgn_cg rfl rfl a b) ?_
    refine z_iast (pc := 55) C 17 L.length (by decide) rfl (by rw [zu_n _ _ _ (by decide), zu_n _ _ _ (by decide), zu_n _ _ _ (by decide)]; exact hc) (show L.length < 56 from hL) dX3_add_55 ?_
    refine z_aloadn (i := 0) (pc := 56) C dX3_add_56 rfl rfl ?_
    refine zg_X3_highestSigns (pc := 57) C dX3_add_57 iX3 f24 ?_
    refine z_aloadn (i := 0) (pc := 60) C dX3_add_60 rfl rfl ?_
    refine zg_X3_count (pc := 61) C dX3_add_61 iX3 f30 ?_
    refine z_aload (i := 4) (pc := 64) C dX3_add_64 rfl ?_
    refine z_iloadn (i := 1) (pc := 66) C dX3_add_66 rfl rfl ?_
    refine z_iloadn (i := 3) (pc := 67) C dX3_add_67 rfl rfl ?_
    refine z_callVi (pc := 68) (n := 2) (As := [.int (i1), .int (i3)]) (rest := [.int ((zu (zu (zu (zu μ 14 L.length (nI a)) 15 L.length (nI b)) 16 L.length (nI d)) 17 L.length (zsgn μ a b)) 63 7), .ref (zad E 18)]) C (c_X2_signBehind l E sa (μ := (zu (zu (zu (zu μ 14 L.length (nI a)) 15 L.length (nI b)) 16 L.length (nI d)) 17 L.length (zsgn μ a b))) a d h1 h3 ha hd) gX3_add_X2_signBehind rfl zfV_X2_signBehind ⟨Nat.le_of_ble_eq_true rfl, Nat.le_of_ble_eq_true rfl⟩ rfl (zRec_X2 E) rfl (Nat.le_of_ble_eq_true rfl) ⟨Nat.zero_le _, Nat.zero_le _⟩ dX3_add_68 (fun r9 μ9 ov9 hp => ?_)
    have e1 := hp.1.symm
    have e2 := hp.2.1.symm
    have e3 := hp.2.2.symm
    clear hp
    subst e1 e2 e3
    refine z_topi (y := zsgn μ a d) (zsgn_cg rfl rfl a d) ?_
    refine z_iast (pc := 71) C 18 L.length (by decide) rfl (by rw [zu_n _ _ _ (by decide), zu_n _ _ _ (by decide), zu_n _ _ _ (by decide), zu_n _ _ _ (by decide)]; exact hc) (show L.length < 56 from hL) dX3_add_71 ?_
    refine z_aloadn (i := 0) (pc := 72) C dX3_add_72 rfl rfl ?_
    refine zg_X3_sums (pc := 73) C dX3_add_73 iX3 f27 ?_
    refine z_aloadn (i := 0) (pc := 76) C dX3_add_76 rfl rfl ?_
    refine zg_X3_count (pc := 77) C dX3_add_77 iX3 f30 ?_
    refine z_aload (i := 4) (pc := 80) C dX3_add_80 rfl ?_
    refine z_iloadn (i := 1) (pc := 82) C dX3_add_82 rfl rfl ?_
    refine z_iloadn (i := 2) (pc := 83) C dX3_add_83 rfl rfl ?_
    refine z_iloadn (i := 3) (pc := 84) C dX3_add_84 rfl rfl ?_
    refine z_iload (i := 5) (pc := 85) C dX3_add_85 rfl ?_
    refine z_callVi (pc := 87) (n := 4) (As := [.int (i1), .int (i2), .int (i3), .int (i5)]) (rest := [.int ((zu (zu (zu (zu (zu μ 14 L.length (nI a)) 15 L.length (nI b)) 16 L.length (nI d)) 17 L.length (zsgn μ a b)) 18 L.length (zsgn μ a d)) 63 7), .ref (zad E 19)]) C (c_X2_around l E sa (μ := (zu (zu (zu (zu (zu μ 14 L.length (nI a)) 15 L.length (nI b)) 16 L.length (nI d)) 17 L.length (zsgn μ a b)) 18 L.length (zsgn μ a d))) a b d h1 h2 h3 ha hb hd t h5 ht) gX3_add_X2_around rfl zfV_X2_around ⟨Nat.le_of_ble_eq_true rfl, Nat.le_of_ble_eq_true rfl⟩ rfl (zRec_X2 E) rfl (Nat.le_of_ble_eq_true rfl) ⟨Nat.zero_le _, Nat.zero_le _⟩ dX3_add_87 (fun r9 μ9 ov9 hp => ?_)
    have e1 := hp.1.symm
    have e2 := hp.2.1.symm
    have e3 := hp.2.2.symm
    clear hp
    subst e1 e2 e3
    refine z_topi (y := zsum μ t (a, b, d)) (by unfold zsum; rw [zcorX_cg (ν := μ) (fun b hb h63 => by rw [zu_n _ _ _ (by omega), zu_n _ _ _ (by omega), zu_n _ _ _ (by omega), zu_n _ _ _ (by omega), zu_n _ _ _ (by omega)]) ha, zcorX_cg (ν := μ) (fun b hb h63 => by rw [zu_n _ _ _ (by omega), zu_n _ _ _ (by omega), zu_n _ _ _ (by omega), zu_n _ _ _ (by omega), zu_n _ _ _ (by omega)]) hb, zcorX_cg (ν := μ) (fun b hb h63 => by rw [zu_n _ _ _ (by omega), zu_n _ _ _ (by omega), zu_n _ _ _ (by omega), zu_n _ _ _ (by omega), zu_n _ _ _ (by omega)]) hd, zsgn_cg (μ := (zu (zu (zu (zu (zu μ 14 L.length (nI a)) 15 L.length (nI b)) 16 L.length (nI d)) 17 L.length (zsgn μ a b)) 18 L.length (zsgn μ a d))) (ν := μ) rfl rfl a b, zsgn_cg (μ := (zu (zu (zu (zu (zu μ 14 L.length (nI a)) 15 L.length (nI b)) 16 L.length (nI d)) 17 L.length (zsgn μ a b)) 18 L.length (zsgn μ a d))) (ν := μ) rfl rfl a d]) ?_
    refine z_iast (pc := 90) C 19 L.length (by decide) rfl (by rw [zu_n _ _ _ (by decide), zu_n _ _ _ (by decide), zu_n _ _ _ (by decide), zu_n _ _ _ (by decide), zu_n _ _ _ (by decide)]; exact hc) (show L.length < 56 from hL) dX3_add_90 ?_
    refine z_aloadn (i := 0) (pc := 91) C dX3_add_91 rfl rfl ?_
    refine zg_X3_isInRing (pc := 92) C dX3_add_92 iX3 f34 ?_
    refine z_iloadn (i := 1) (pc := 95) C dX3_add_95 rfl rfl ?_
    refine z_iconst (v := 1) (pc := 96) C dX3_add_96 (by decide) ?_
    refine z_bast (pc := 97) C 20 a (by decide) rfl h1 (show a < 8 from ha) (by decide) dX3_add_97 ?_
    refine z_aloadn (i := 0) (pc := 98) C dX3_add_98 rfl rfl ?_
    refine zg_X3_isInRing (pc := 99) C dX3_add_99 iX3 f34 ?_
    refine z_iloadn (i := 2) (pc := 102) C dX3_add_102 rfl rfl ?_
    refine z_iconst (v := 1) (pc := 103) C dX3_add_103 (by decide) ?_
    refine z_bast (pc := 104) C 20 b (by decide) rfl h2 (show b < 8 from hb) (by decide) dX3_add_104 ?_
    refine z_aloadn (i := 0) (pc := 105) C dX3_add_105 rfl rfl ?_
    refine zg_X3_isInRing (pc := 106) C dX3_add_106 iX3 f34 ?_
    refine z_iloadn (i := 3) (pc := 109) C dX3_add_109 rfl rfl ?_
    refine z_iconst (v := 1) (pc := 110) C dX3_add_110 (by decide) ?_
    refine z_bast (pc := 111) C 20 d (by decide) rfl h3 (show d < 8 from hd) (by decide) dX3_add_111 ?_
    refine z_aloadn (i := 0) (pc := 112) C dX3_add_112 rfl rfl ?_
    refine z_dup (pc := 113) C dX3_add_113 rfl ?_
    refine zg_X3_count (pc := 114) C dX3_add_114 iX3 f30 ?_
    refine z_iconst (v := 1) (pc := 117) C dX3_add_117 (by decide) ?_
    refine z_iadd (pc := 118) C dX3_add_118 ?_
    refine z_topi (y := nI (L.length + 1)) (by rw [zu_n _ _ _ (by decide), zu_n _ _ _ (by decide), zu_n _ _ _ (by decide), zu_n _ _ _ (by decide), zu_n _ _ _ (by decide), zu_n _ _ _ (by decide), zu_n _ _ _ (by decide), zu_n _ _ _ (by decide), zu_n _ _ _ (by decide), hc]; exact nI_1 _) ?_
    refine zp_X3_count (pc := 119) C dX3_add_119 iX3 f30 ?_
    exact z_vret (pc := 122) C hr hlk ⟨rfl, rfl⟩ (Nat.zero_le _) (Nat.zero_le _) dX3_add_122
  · exact absurd (by rw [hc]; exact nI_lt hL (by decide)) c_1
set_option maxHeartbeats 4000000 in
set_option maxRecDepth 100000 in
theorem c_X3_gatherFrom (l : Launch) (E : zE) (sa : Nat → Nat) {μ0 μ : zM} {ov : Nat → Int64} {i1 i3 : Int32} (L : List z3) (a t n : Nat) (h1 : i1 = nI a) (h3 : i3 = nI t) (ha : a < n) (hn : n ≤ 8) (ht : t < 501) (hnl : μ0 63 5 = nI n) (hz : zRI μ0 t μ L) (hL : L.length ≤ zBa a) : zMv l E sa yX3_gatherFrom wsX3_gatherFrom 3 71 0 0 [.ref (zob E 4), .int i1, .ref (zob E 2), .int i3] μ ov (fun μ1 ov1 => zRI μ0 t μ1 (L ++ zmid μ0 t n a (a + 1) (n - (a + 1))) ∧ ov1 = ov) := by
  refine z_ofMv (cc := cX3_gatherFrom) (nL := 6) (ret := none) (own := RX3) zfp_X3_gatherFrom rfl (by simp [Value.category]) (Nat.le_of_ble_eq_true rfl) rfl ?_
  intro p e s m below meth c C hr hlk
  show zW p l e (zR 3 71 0 0) s m [Value.ref (zob E 4), Value.int i1, Value.ref (zob E 2), Value.int i3].toArray below meth c E 6 0 0 (MQ below (zQv E s.heap.size (fun μ1 ov1 => zRI μ0 t μ1 (L ++ zmid μ0 t n a (a + 1) (n - (a + 1))) ∧ ov1 = ov)) [Value.ref (zob E 4), Value.int i1, Value.ref (zob E 2), Value.int i3].toArray s 0 0 (zA E s.heap.size)) 0 [some (.ref (zob E 4)), some (.int (i1)), some (.ref (zob E 2)), some (.int (i3)), none, none] [] μ ov
  refine z_iloadn (i := 1) (pc := 0) C dX3_gatherFrom_0 rfl rfl ?_
  refine z_iconst (v := 1) (pc := 1) C dX3_gatherFrom_1 (by decide) ?_
  refine z_iadd (pc := 2) C dX3_gatherFrom_2 ?_
  refine z_istore4 (pc := 3) C (by decide) (fun w hw => by cases hw; exact (show ¬ (1 = 2) from by decide)) dX3_gatherFrom_3 ?_
  have inner : ∀ (f k q : Nat) (ν : zM), a + 1 + k < n → (a + 1 + k + 1) + q + f = max n (a + 1 + k + 1) → zRI μ0 t ν (L ++ zmid μ0 t n a (a + 1) k ++ zinn μ0 t a (a + 1 + k) (a + 1 + k + 1) q) → (∀ ν1 : zM, zRI μ0 t ν1 (L ++ zmid μ0 t n a (a + 1) (k + 1)) → zW p l e (zR 3 71 0 0) s m [Value.ref (zob E 4), Value.int i1, Value.ref (zob E 2), Value.int i3].toArray below meth c E 6 0 0 (MQ below (zQv E s.heap.size (fun μ1 ov1 => zRI μ0 t μ1 (L ++ zmid μ0 t n a (a + 1) (n - (a + 1))) ∧ ov1 = ov)) [Value.ref (zob E 4), Value.int i1, Value.ref (zob E 2), Value.int i3].toArray s 0 0 (zA E s.heap.size)) 78 [some (.ref (zob E 4)), some (.int (i1)), some (.ref (zob E 2)), some (.int (i3)), some (.int (nI (a + 1 + k))), none] [] ν1 ov) → zW p l e (zR 3 71 0 0) s m [Value.ref (zob E 4), Value.int i1, Value.ref (zob E 2), Value.int i3].toArray below meth c E 6 0 0 (MQ below (zQv E s.heap.size (fun μ1 ov1 => zRI μ0 t μ1 (L ++ zmid μ0 t n a (a + 1) (n - (a + 1))) ∧ ov1 = ov)) [Value.ref (zob E 4), Value.int i1, Value.ref (zob E 2), Value.int i3].toArray s 0 0 (zA E s.heap.size)) 20 [some (.ref (zob E 4)), some (.int (i1)), some (.ref (zob E 2)), some (.int (i3)), some (.int (nI (a + 1 + k))), some (.int (nI (a + 1 + k + 1 + q)))] [] ν ov := by
    intro f
    induction f with
    | zero =>
      intro k q ν hk hq hi kx
      have c5 : ν 63 5 = nI n := (hi.2.1 5 (by decide)).trans hnl
      refine z_iload (i := 5) (pc := 20) C dX3_gatherFrom_20 rfl ?_
      refine z_aloadn (i := 2) (pc := 22) C dX3_gatherFrom_22 rfl rfl ?_
      refine z_callVi (pc := 23) (n := 0) (As := []) (rest := [.int (nI (a + 1 + k + 1 + q))]) C (c_X2_count l E sa (μ := ν) (ov := ov)) gX3_gatherFrom_X2_count rfl zfV_X2_count ⟨Nat.le_of_ble_eq_true rfl, Nat.le_of_ble_eq_true rfl⟩ rfl (zRec_X2 E) rfl (Nat.le_of_ble_eq_true rfl) ⟨Nat.zero_le _, Nat.zero_le _⟩ dX3_gatherFrom_23 (fun r9 μ9 ov9 hp => ?_)
      have e1 := hp.1.symm
      have e2 := hp.2.1.symm
      have e3 := hp.2.2.symm
      clear hp
      subst e1 e2 e3
      refine z_icmp_ge (tgt := 78) (pc := 26) C dX3_gatherFrom_26 (by decide) (fun c_l => ?_) (fun c_l => ?_)
      · refine z_weak (lv' := [some (.ref (zob E 4)), some (.int (i1)), some (.ref (zob E 2)), some (.int (i3)), some (.int (nI (a + 1 + k))), none]) ⟨rfl, rfl, rfl, rfl, rfl, trivial⟩ (kx ν ?_)
        rw [zmid_s, ← List.append_assoc, show n - (a + 1 + k + 1) = q by omega]
        exact hi
      · exact absurd (by rw [c5]; exact nI_le (by omega) (by omega)) c_l
    | succ f ih =>
      intro k q ν hk hq hi kx
      have c5 : ν 63 5 = nI n := (hi.2.1 5 (by decide)).trans hnl
      have hlen : (L ++ zmid μ0 t n a (a + 1) k ++ zinn μ0 t a (a + 1 + k) (a + 1 + k + 1) q).length < 56 := by
        have l1 := zmid_len μ0 (t := t) (a := a) hn k
        have l2 := zinn_len μ0 t a (a + 1 + k) (a + 1 + k + 1) q
        have l3 := zB_lt a (by omega) (a + 1 + k) (by omega) (a + 1 + k + 1 + q) (by omega) (by omega) (by omega)
        rw [show a + 1 + k - (a + 1) = k by omega, show a + 1 + k + 1 + q - (a + 1 + k + 1) = q by omega] at l3
        rw [List.length_append, List.length_append]
        omega
      have c7 : ν 7 = μ0 7 := hi.1 7 (by decide) (by decide)
      have c8 : ν 8 = μ0 8 := hi.1 8 (by decide) (by decide)
      have c11 : ν 11 = μ0 11 := hi.1 11 (by decide) (by decide)
      have go : ∀ ν1 : zM, zRI μ0 t ν1 (L ++ zmid μ0 t n a (a + 1) k ++ zinn μ0 t a (a + 1 + k) (a + 1 + k + 1) (q + 1)) → zW p l e (zR 3 71 0 0) s m [Value.ref (zob E 4), Value.int i1, Value.ref (zob E 2), Value.int i3].toArray below meth c E 6 0 0 (MQ below (zQv E s.heap.size (fun μ1 ov1 => zRI μ0 t μ1 (L ++ zmid μ0 t n a (a + 1) (n - (a + 1))) ∧ ov1 = ov)) [Value.ref (zob E 4), Value.int i1, Value.ref (zob E 2), Value.int i3].toArray s 0 0 (zA E s.heap.size)) 72 [some (.ref (zob E 4)), some (.int (i1)), some (.ref (zob E 2)), some (.int (i3)), some (.int (nI (a + 1 + k))), some (.int (nI (a + 1 + k + 1 + q)))] [] ν1 ov := by
        intro ν1 hi1
        refine z_iinc5 (v := 1) (pc := 72) C (by decide) (by decide) (fun w hw => by cases hw; exact (show ¬ (1 = 2) from by decide)) dX3_gatherFrom_72 ?_
        rw [nI_1]
        refine z_goto (tgt := 20) (pc := 75) C dX3_gatherFrom_75 (by decide) ?_
        exact ih k (q + 1) ν1 hk (by omega) hi1 kx
      have no : ¬ zPr μ0 t a (a + 1 + k) (a + 1 + k + 1 + q) = true → zRI μ0 t ν (L ++ zmid μ0 t n a (a + 1) k ++ zinn μ0 t a (a + 1 + k) (a + 1 + k + 1) (q + 1)) := by
        intro hp
        rw [zinn_s, if_neg hp, List.append_nil]
        exact hi
      refine z_iload (i := 5) (pc := 20) C dX3_gatherFrom_20 rfl ?_
      refine z_aloadn (i := 2) (pc := 22) C dX3_gatherFrom_22 rfl rfl ?_
      refine z_callVi (pc := 23) (n := 0) (As := []) (rest := [.int (nI (a + 1 + k + 1 + q))]) C (c_X2_count l E sa (μ := ν) (ov := ov)) gX3_gatherFrom_X2_count rfl zfV_X2_count ⟨Nat.le_of_ble_eq_true rfl, Nat.le_of_ble_eq_true rfl⟩ rfl (zRec_X2 E) rfl (Nat.le_of_ble_eq_true rfl) ⟨Nat.zero_le _, Nat.zero_le _⟩ dX3_gatherFrom_23 (fun r9 μ9 ov9 hp => ?_)
      have e1 := hp.1.symm
      have e2 := hp.2.1.symm
      have e3 := hp.2.2.symm
      clear hp
      subst e1 e2 e3
      refine z_icmp_ge (tgt := 78) (pc := 26) C dX3_gatherFrom_26 (by decide) (fun c_l => ?_) (fun c_l => ?_)
      · exact absurd c_l (by rw [c5]; exact nI_ge (by omega) (by omega))
      · refine z_aloadn (i := 2) (pc := 29) C dX3_gatherFrom_29 rfl rfl ?_
        refine z_iloadn (i := 1) (pc := 30) C dX3_gatherFrom_30 rfl rfl ?_
        refine z_iload (i := 4) (pc := 31) C dX3_gatherFrom_31 rfl ?_
        refine z_iload (i := 5) (pc := 33) C dX3_gatherFrom_33 rfl ?_
        refine z_callVi (pc := 35) (n := 3) (As := [.int (i1), .int (nI (a + 1 + k)), .int (nI (a + 1 + k + 1 + q))]) (rest := []) C (c_X2_areRing l E sa (μ := ν) a (a + 1 + k) (a + 1 + k + 1 + q) h1 rfl rfl (by omega) (by omega) (by omega)) gX3_gatherFrom_X2_areRing rfl zfV_X2_areRing ⟨Nat.le_of_ble_eq_true rfl, Nat.le_of_ble_eq_true rfl⟩ rfl (zRec_X2 E) rfl (Nat.le_of_ble_eq_true rfl) ⟨Nat.zero_le _, Nat.zero_le _⟩ dX3_gatherFrom_35 (fun r9 μ9 ov9 hp => ?_)
        have e1 := hp.1.symm
        have e2 := hp.2.1.symm
        have e3 := hp.2.2.symm
        clear hp
        subst e1 e2 e3
        refine z_if_eq (tgt := 72) (pc := 38) C dX3_gatherFrom_38 (by decide) (fun c_1 => ?_) (fun c_1 => ?_)
        · exact go ν (no (by rw [zb_eq0, c7, c8] at c_1; unfold zPr; rw [decide_eq_true_eq]; exact fun h => c_1 h.1))
        · refine z_aloadn (i := 2) (pc := 41) C dX3_gatherFrom_41 rfl rfl ?_
          refine z_iload (i := 4) (pc := 42) C dX3_gatherFrom_42 rfl ?_
          refine z_iloadn (i := 3) (pc := 44) C dX3_gatherFrom_44 rfl rfl ?_
          refine z_callVi (pc := 45) (n := 2) (As := [.int (nI (a + 1 + k)), .int (i3)]) (rest := []) C (c_X2_isLaidBefore l E sa (μ := ν) (a + 1 + k) rfl (by omega) i3) gX3_gatherFrom_X2_isLaidBefore rfl zfV_X2_isLaidBefore ⟨Nat.le_of_ble_eq_true rfl, Nat.le_of_ble_eq_true rfl⟩ rfl (zRec_X2 E) rfl (Nat.le_of_ble_eq_true rfl) ⟨Nat.zero_le _, Nat.zero_le _⟩ dX3_gatherFrom_45 (fun r9 μ9 ov9 hp => ?_)
          have e1 := hp.1.symm
          have e2 := hp.2.1.symm
          have e3 := hp.2.2.symm
          clear hp
          subst e1 e2 e3
          refine z_if_eq (tgt := 72) (pc := 48) C dX3_gatherFrom_48 (by decide) (fun c_2 => ?_) (fun c_2 => ?_)
          · exact go ν (no (by rw [zb_eq0, c11, h3] at c_2; unfold zPr; rw [decide_eq_true_eq]; exact fun h => c_2 h.2.1))
          · refine z_aloadn (i := 2) (pc := 51) C dX3_gatherFrom_51 rfl rfl ?_
            refine z_iload (i := 5) (pc := 52) C dX3_gatherFrom_52 rfl ?_
            refine z_iloadn (i := 3) (pc := 54) C dX3_gatherFrom_54 rfl rfl ?_
            refine z_callVi (pc := 55) (n := 2) (As := [.int (nI (a + 1 + k + 1 + q)), .int (i3)]) (rest := []) C (c_X2_isLaidBefore l E sa (μ := ν) (a + 1 + k + 1 + q) rfl (by omega) i3) gX3_gatherFrom_X2_isLaidBefore rfl zfV_X2_isLaidBefore ⟨Nat.le_of_ble_eq_true rfl, Nat.le_of_ble_eq_true rfl⟩ rfl (zRec_X2 E) rfl (Nat.le_of_ble_eq_true rfl) ⟨Nat.zero_le _, Nat.zero_le _⟩ dX3_gatherFrom_55 (fun r9 μ9 ov9 hp => ?_)
            have e1 := hp.1.symm
            have e2 := hp.2.1.symm
            have e3 := hp.2.2.symm
            clear hp
            subst e1 e2 e3
            refine z_if_eq (tgt := 72) (pc := 58) C dX3_gatherFrom_58 (by decide) (fun c_3 => ?_) (fun c_3 => ?_)
            · exact go ν (no (by rw [zb_eq0, c11, h3] at c_3; unfold zPr; rw [decide_eq_true_eq]; exact fun h => c_3 h.2.2))
            · refine z_aloadn (i := 0) (pc := 61) C dX3_gatherFrom_61 rfl rfl ?_
              refine z_iloadn (i := 1) (pc := 62) C dX3_gatherFrom_62 rfl rfl ?_
              refine z_iload (i := 4) (pc := 63) C dX3_gatherFrom_63 rfl ?_
              refine z_iload (i := 5) (pc := 65) C dX3_gatherFrom_65 rfl ?_
              refine z_aloadn (i := 2) (pc := 67) C dX3_gatherFrom_67 rfl rfl ?_
              refine z_iloadn (i := 3) (pc := 68) C dX3_gatherFrom_68 rfl rfl ?_
              refine z_callVv (pc := 69) (n := 5) (As := [.int (i1), .int (nI (a + 1 + k)), .int (nI (a + 1 + k + 1 + q)), .ref (zob E 2), .int (i3)]) (rest := []) C (c_X3_add l E sa (μ := ν) (L ++ zmid μ0 t n a (a + 1) k ++ zinn μ0 t a (a + 1 + k) (a + 1 + k + 1) q) a (a + 1 + k) (a + 1 + k + 1 + q) t h1 rfl rfl h3 (by omega) (by omega) (by omega) ht hi.2.2.1 hlen) gX3_gatherFrom_X3_add rfl zfV_X3_add ⟨Nat.le_of_ble_eq_true rfl, Nat.le_of_ble_eq_true rfl⟩ rfl (zRec_X3 E) rfl (Nat.le_of_ble_eq_true rfl) ⟨Nat.zero_le _, Nat.zero_le _⟩ dX3_gatherFrom_69 (fun μ9 ov9 hp => ?_)
              have e2 := hp.1.symm
              have e3 := hp.2.symm
              clear hp
              subst e2 e3
              refine go _ ?_
              have hp : zPr μ0 t a (a + 1 + k) (a + 1 + k + 1 + q) = true := by rw [zb_ne0, c7, c8] at c_1; rw [zb_ne0, c11, h3] at c_2 c_3; unfold zPr; rw [decide_eq_true_eq]; exact ⟨c_1, c_2, c_3⟩
              rw [zinn_s, if_pos hp, ← List.append_assoc]
              exact hi.add (by omega) (by omega) (by omega)
  have outer : ∀ (f k : Nat) (ν : zM), (a + 1) + k + f = n → zRI μ0 t ν (L ++ zmid μ0 t n a (a + 1) k) → zW p l e (zR 3 71 0 0) s m [Value.ref (zob E 4), Value.int i1, Value.ref (zob E 2), Value.int i3].toArray below meth c E 6 0 0 (MQ below (zQv E s.heap.size (fun μ1 ov1 => zRI μ0 t μ1 (L ++ zmid μ0 t n a (a + 1) (n - (a + 1))) ∧ ov1 = ov)) [Value.ref (zob E 4), Value.int i1, Value.ref (zob E 2), Value.int i3].toArray s 0 0 (zA E s.heap.size)) 5 [some (.ref (zob E 4)), some (.int (i1)), some (.ref (zob E 2)), some (.int (i3)), some (.int (nI (a + 1 + k))), none] [] ν ov := by
    intro f
    induction f with
    | zero =>
      intro k ν hk hi
      have c5 : ν 63 5 = nI n := (hi.2.1 5 (by decide)).trans hnl
      refine z_iload (i := 4) (pc := 5) C dX3_gatherFrom_5 rfl ?_
      refine z_aloadn (i := 2) (pc := 7) C dX3_gatherFrom_7 rfl rfl ?_
      refine z_callVi (pc := 8) (n := 0) (As := []) (rest := [.int (nI (a + 1 + k))]) C (c_X2_count l E sa (μ := ν) (ov := ov)) gX3_gatherFrom_X2_count rfl zfV_X2_count ⟨Nat.le_of_ble_eq_true rfl, Nat.le_of_ble_eq_true rfl⟩ rfl (zRec_X2 E) rfl (Nat.le_of_ble_eq_true rfl) ⟨Nat.zero_le _, Nat.zero_le _⟩ dX3_gatherFrom_8 (fun r9 μ9 ov9 hp => ?_)
      have e1 := hp.1.symm
      have e2 := hp.2.1.symm
      have e3 := hp.2.2.symm
      clear hp
      subst e1 e2 e3
      refine z_icmp_ge (tgt := 84) (pc := 11) C dX3_gatherFrom_11 (by decide) (fun c_l => ?_) (fun c_l => ?_)
      · exact z_vret (pc := 84) C hr hlk ⟨by rw [show n - (a + 1) = k by omega]; exact hi, rfl⟩ (Nat.zero_le _) (Nat.zero_le _) dX3_gatherFrom_84
      · exact absurd (by rw [c5]; exact nI_le (by omega) (by omega)) c_l
    | succ f ih =>
      intro k ν hk hi
      have c5 : ν 63 5 = nI n := (hi.2.1 5 (by decide)).trans hnl
      refine z_iload (i := 4) (pc := 5) C dX3_gatherFrom_5 rfl ?_
      refine z_aloadn (i := 2) (pc := 7) C dX3_gatherFrom_7 rfl rfl ?_
      refine z_callVi (pc := 8) (n := 0) (As := []) (rest := [.int (nI (a + 1 + k))]) C (c_X2_count l E sa (μ := ν) (ov := ov)) gX3_gatherFrom_X2_count rfl zfV_X2_count ⟨Nat.le_of_ble_eq_true rfl, Nat.le_of_ble_eq_true rfl⟩ rfl (zRec_X2 E) rfl (Nat.le_of_ble_eq_true rfl) ⟨Nat.zero_le _, Nat.zero_le _⟩ dX3_gatherFrom_8 (fun r9 μ9 ov9 hp => ?_)
      have e1 := hp.1.symm
      have e2 := hp.2.1.symm
      have e3 := hp.2.2.symm
      clear hp
      subst e1 e2 e3
      refine z_icmp_ge (tgt := 84) (pc := 11) C dX3_gatherFrom_11 (by decide) (fun c_l => ?_) (fun c_l => ?_)
      · exact absurd c_l (by rw [c5]; exact nI_ge (by omega) (by omega))
      · refine z_iload (i := 4) (pc := 14) C dX3_gatherFrom_14 rfl ?_
        refine z_iconst (v := 1) (pc := 16) C dX3_gatherFrom_16 (by decide) ?_
        refine z_iadd (pc := 17) C dX3_gatherFrom_17 ?_
        refine z_istore5 (pc := 18) C (by decide) (fun w hw => by cases hw; exact (show ¬ (1 = 2) from by decide)) dX3_gatherFrom_18 ?_
        rw [nI_1]
        refine inner (n - (a + 1 + k + 1)) k 0 ν (by omega) (by omega) (by simpa [zinn] using hi) (fun ν1 hi1 => ?_)
        refine z_iinc4 (v := 1) (pc := 78) C (by decide) (by decide) (fun w hw => by cases hw; exact (show ¬ (1 = 2) from by decide)) dX3_gatherFrom_78 ?_
        rw [nI_1]
        refine z_goto (tgt := 5) (pc := 81) C dX3_gatherFrom_81 (by decide) ?_
        exact ih (k + 1) ν1 (by omega) hi1
  subst h1
  rw [nI_1]
  refine z_weak (lv' := [some (.ref (zob E 4)), some (.int (nI a)), some (.ref (zob E 2)), some (.int (i3)), some (.int (nI (a + 1))), none]) ⟨rfl, rfl, rfl, rfl, rfl, trivial⟩ ?_
  exact outer (n - (a + 1)) 0 μ (by omega) (by simpa [zmid] using hz)
