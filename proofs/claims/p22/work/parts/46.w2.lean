/-! ===== the law's helpers and its first check ===== -/
theorem zx3 (i : Nat) : (3 : Int32) * nI i = nI (3 * i) ∧ (3 : Int32) * nI i + 1 = nI (3 * i + 1) ∧ (3 : Int32) * nI i + 2 = nI (3 * i + 2) := by
  have h : (3 : Int32) * nI i = nI (3 * i) := pk_mul 3 i
  exact ⟨h, by rw [h]; exact nI_add _ 1, by rw [h]; exact nI_add _ 2⟩
theorem zx4 (i : Nat) : (4 : Int32) * nI i = nI (4 * i) ∧ (4 : Int32) * nI i + 1 = nI (4 * i + 1) ∧ (4 : Int32) * nI i + 2 = nI (4 * i + 2) ∧ (4 : Int32) * nI i + 3 = nI (4 * i + 3) := by
  have h : (4 : Int32) * nI i = nI (4 * i) := pk_mul 4 i
  exact ⟨h, by rw [h]; exact nI_add _ 1, by rw [h]; exact nI_add _ 2, by rw [h]; exact nI_add _ 3⟩
def zlow (v n : Int32) : Int32 := (v &&& 2147483647) - (v &&& 2147483647) / n * n
theorem zlow_k (v : Int32) {k : Nat} (h0 : 0 < k) (hk : k < 2 ^ 31) : ∃ j, j < k ∧ zlow v (nI k) = nI j := by
  obtain ⟨m, hm, e⟩ := pk_andE v (m := 2147483647) 31 (by decide)
  exact ⟨m % k, Nat.mod_lt _ h0, by unfold zlow; rw [e]; exact pk_rem hm h0 hk⟩
set_option maxHeartbeats 4000000 in
set_option maxRecDepth 100000 in
theorem c_L_low (l : Launch) (E : zE) (sa : Nat → Nat) {μ : zM} {ov : Nat → Int64} {v n : Int32} (k : Nat) (hn : n = nI k) (hk : 0 < k) (hk2 : k < 2 ^ 31) : zMi l E sa yL_low wsL_low 0 0 0 0 [.int v, .int n] μ ov (fun r μ1 ov1 => r = zlow v n ∧ μ1 = μ ∧ ov1 = ov) := by
  refine z_ofMi (cc := cL_low) (nL := 2) (ret := (some .int)) (own := RL) zfp_L_low rfl (by simp [Value.category]) (Nat.le_of_ble_eq_true rfl) rfl ?_
  intro p e s m below meth c C hr hlk
  show zW p l e (zR 0 0 0 0) s m [Value.int v, Value.int n].toArray below meth c E 2 0 0 (MQ below (zQi E s.heap.size (fun r μ1 ov1 => r = zlow v n ∧ μ1 = μ ∧ ov1 = ov)) [Value.int v, Value.int n].toArray s 0 0 (zA E s.heap.size)) 0 [some (.int (v)), some (.int (n))] [] μ ov
  refine z_iloadn (i := 0) (pc := 0) C dL_low_0 rfl rfl ?_
  refine z_ldc (v := (2147483647)) (pc := 1) C dL_low_1 (C.1.2.2.2.2 (.constant RL 9 (2147483647)) (by decide +kernel)) ?_
  refine z_iand (pc := 3) C dL_low_3 ?_
  refine z_iloadn (i := 1) (pc := 4) C dL_low_4 rfl rfl ?_
  refine z_irem (pc := 5) C dL_low_5 (by rw [hn]; exact nI_ne0 hk hk2) ?_
  exact z_iret (pc := 6) C hr hlk ⟨rfl, rfl, rfl⟩ (Nat.zero_le _) (Nat.zero_le _) dL_low_6
set_option maxHeartbeats 4000000 in
set_option maxRecDepth 100000 in
theorem c_L_touch (l : Launch) (E : zE) (sa : Nat → Nat) {μ : zM} {ov : Nat → Int64} (i j : Nat) (hi : i < 8) (hj : j < 8) : zMi l E sa yL_touch wsL_touch 0 0 0 0 [.ref (zad E 39), .int (nI i), .int (nI j)] μ ov (fun r μ1 ov1 => r = zb (ztou (μ 39) i j) ∧ μ1 = μ ∧ ov1 = ov) := by
  refine z_ofMi (cc := cL_touch) (nL := 3) (ret := (some .boolean)) (own := RL) zfp_L_touch rfl (by simp [Value.category]) (Nat.le_of_ble_eq_true rfl) rfl ?_
  intro p e s m below meth c C hr hlk
  show zW p l e (zR 0 0 0 0) s m [Value.ref (zad E 39), Value.int (nI i), Value.int (nI j)].toArray below meth c E 3 0 0 (MQ below (zQi E s.heap.size (fun r μ1 ov1 => r = zb (ztou (μ 39) i j) ∧ μ1 = μ ∧ ov1 = ov)) [Value.ref (zad E 39), Value.int (nI i), Value.int (nI j)].toArray s 0 0 (zA E s.heap.size)) 0 [some (.ref (zad E 39)), some (.int (nI i)), some (.int (nI j))] [] μ ov
  refine z_aloadn (i := 0) (pc := 0) C dL_touch_0 rfl rfl ?_
  refine z_iconst (v := 3) (pc := 1) C dL_touch_1 (by decide) ?_
  refine z_iloadn (i := 1) (pc := 2) C dL_touch_2 rfl rfl ?_
  refine z_imul (pc := 3) C dL_touch_3 ?_
  refine z_iald (pc := 4) C 39 (3 * i) (by decide) rfl (zx3 i).1 (show (3 * i) < 24 from by omega) dL_touch_4 ?_
  refine z_aloadn (i := 0) (pc := 5) C dL_touch_5 rfl rfl ?_
  refine z_iconst (v := 3) (pc := 6) C dL_touch_6 (by decide) ?_
  refine z_iloadn (i := 2) (pc := 7) C dL_touch_7 rfl rfl ?_
  refine z_imul (pc := 8) C dL_touch_8 ?_
  refine z_iald (pc := 9) C 39 (3 * j) (by decide) rfl (zx3 j).1 (show (3 * j) < 24 from by omega) dL_touch_9 ?_
  refine z_icmp_eq (tgt := 60) (pc := 10) C dL_touch_10 (by decide) (fun c1 => ?_) (fun c1 => ?_)
  · refine z_iconst (v := 1) (pc := 60) C dL_touch_60 (by decide) ?_
    refine z_goto (tgt := 65) (pc := 61) C dL_touch_61 (by decide) ?_
    exact z_zret (pc := 65) C hr hlk (by decide) ⟨(zb_t (Or.inl c1)).symm, rfl, rfl⟩ (Nat.zero_le _) (Nat.zero_le _) dL_touch_65
  · refine z_aloadn (i := 0) (pc := 13) C dL_touch_13 rfl rfl ?_
    refine z_iconst (v := 3) (pc := 14) C dL_touch_14 (by decide) ?_
    refine z_iloadn (i := 1) (pc := 15) C dL_touch_15 rfl rfl ?_
    refine z_imul (pc := 16) C dL_touch_16 ?_
    refine z_iald (pc := 17) C 39 (3 * i) (by decide) rfl (zx3 i).1 (show (3 * i) < 24 from by omega) dL_touch_17 ?_
    refine z_aloadn (i := 0) (pc := 18) C dL_touch_18 rfl rfl ?_
    refine z_iconst (v := 3) (pc := 19) C dL_touch_19 (by decide) ?_
    refine z_iloadn (i := 2) (pc := 20) C dL_touch_20 rfl rfl ?_
    refine z_imul (pc := 21) C dL_touch_21 ?_
    refine z_iconst (v := 1) (pc := 22) C dL_touch_22 (by decide) ?_
    refine z_iadd (pc := 23) C dL_touch_23 ?_
    refine z_iald (pc := 24) C 39 (3 * j + 1) (by decide) rfl (zx3 j).2.1 (show (3 * j + 1) < 24 from by omega) dL_touch_24 ?_
    refine z_icmp_eq (tgt := 60) (pc := 25) C dL_touch_25 (by decide) (fun c2 => ?_) (fun c2 => ?_)
    · refine z_iconst (v := 1) (pc := 60) C dL_touch_60 (by decide) ?_
      refine z_goto (tgt := 65) (pc := 61) C dL_touch_61 (by decide) ?_
      exact z_zret (pc := 65) C hr hlk (by decide) ⟨(zb_t (Or.inr (Or.inl c2))).symm, rfl, rfl⟩ (Nat.zero_le _) (Nat.zero_le _) dL_touch_65
    · refine z_aloadn (i := 0) (pc := 28) C dL_touch_28 rfl rfl ?_
      refine z_iconst (v := 3) (pc := 29) C dL_touch_29 (by decide) ?_
      refine z_iloadn (i := 1) (pc := 30) C dL_touch_30 rfl rfl ?_
      refine z_imul (pc := 31) C dL_touch_31 ?_
      refine z_iconst (v := 1) (pc := 32) C dL_touch_32 (by decide) ?_
      refine z_iadd (pc := 33) C dL_touch_33 ?_
      refine z_iald (pc := 34) C 39 (3 * i + 1) (by decide) rfl (zx3 i).2.1 (show (3 * i + 1) < 24 from by omega) dL_touch_34 ?_
      refine z_aloadn (i := 0) (pc := 35) C dL_touch_35 rfl rfl ?_
      refine z_iconst (v := 3) (pc := 36) C dL_touch_36 (by decide) ?_
      refine z_iloadn (i := 2) (pc := 37) C dL_touch_37 rfl rfl ?_
      refine z_imul (pc := 38) C dL_touch_38 ?_
      refine z_iald (pc := 39) C 39 (3 * j) (by decide) rfl (zx3 j).1 (show (3 * j) < 24 from by omega) dL_touch_39 ?_
      refine z_icmp_eq (tgt := 60) (pc := 40) C dL_touch_40 (by decide) (fun c3 => ?_) (fun c3 => ?_)
      · refine z_iconst (v := 1) (pc := 60) C dL_touch_60 (by decide) ?_
        refine z_goto (tgt := 65) (pc := 61) C dL_touch_61 (by decide) ?_
        exact z_zret (pc := 65) C hr hlk (by decide) ⟨(zb_t (Or.inr (Or.inr (Or.inl c3)))).symm, rfl, rfl⟩ (Nat.zero_le _) (Nat.zero_le _) dL_touch_65
      · refine z_aloadn (i := 0) (pc := 43) C dL_touch_43 rfl rfl ?_
        refine z_iconst (v := 3) (pc := 44) C dL_touch_44 (by decide) ?_
        refine z_iloadn (i := 1) (pc := 45) C dL_touch_45 rfl rfl ?_
        refine z_imul (pc := 46) C dL_touch_46 ?_
        refine z_iconst (v := 1) (pc := 47) C dL_touch_47 (by decide) ?_
        refine z_iadd (pc := 48) C dL_touch_48 ?_
        refine z_iald (pc := 49) C 39 (3 * i + 1) (by decide) rfl (zx3 i).2.1 (show (3 * i + 1) < 24 from by omega) dL_touch_49 ?_
        refine z_aloadn (i := 0) (pc := 50) C dL_touch_50 rfl rfl ?_
        refine z_iconst (v := 3) (pc := 51) C dL_touch_51 (by decide) ?_
        refine z_iloadn (i := 2) (pc := 52) C dL_touch_52 rfl rfl ?_
        refine z_imul (pc := 53) C dL_touch_53 ?_
        refine z_iconst (v := 1) (pc := 54) C dL_touch_54 (by decide) ?_
        refine z_iadd (pc := 55) C dL_touch_55 ?_
        refine z_iald (pc := 56) C 39 (3 * j + 1) (by decide) rfl (zx3 j).2.1 (show (3 * j + 1) < 24 from by omega) dL_touch_56 ?_
        refine z_icmp_ne (tgt := 64) (pc := 57) C dL_touch_57 (by decide) (fun c4 => ?_) (fun c4 => ?_)
        · refine z_iconst (v := 0) (pc := 64) C dL_touch_64 (by decide) ?_
          exact z_zret (pc := 65) C hr hlk (by decide) ⟨(zb_f (fun h => h.elim c1 (fun h => h.elim c2 (fun h => h.elim c3 c4)))).symm, rfl, rfl⟩ (Nat.zero_le _) (Nat.zero_le _) dL_touch_65
        · refine z_iconst (v := 1) (pc := 60) C dL_touch_60 (by decide) ?_
          refine z_goto (tgt := 65) (pc := 61) C dL_touch_61 (by decide) ?_
          exact z_zret (pc := 65) C hr hlk (by decide) ⟨(zb_t (Or.inr (Or.inr (Or.inr (c4))))).symm, rfl, rfl⟩ (Nat.zero_le _) (Nat.zero_le _) dL_touch_65
set_option maxHeartbeats 4000000 in
set_option maxRecDepth 100000 in
theorem c_L_areAlike (l : Launch) (E : zE) (sa : Nat → Nat) {μ : zM} {ov : Nat → Int64} (i j : Nat) (hi : i < 8) (hj : j < 8) : zMi l E sa yL_areAlike wsL_areAlike 0 0 0 0 [.ref (zad E 39), .int (nI i), .int (nI j)] μ ov (fun r μ1 ov1 => r = zb (zali (μ 39) i j) ∧ μ1 = μ ∧ ov1 = ov) := by
  refine z_ofMi (cc := cL_areAlike) (nL := 3) (ret := (some .boolean)) (own := RL) zfp_L_areAlike rfl (by simp [Value.category]) (Nat.le_of_ble_eq_true rfl) rfl ?_
  intro p e s m below meth c C hr hlk
  show zW p l e (zR 0 0 0 0) s m [Value.ref (zad E 39), Value.int (nI i), Value.int (nI j)].toArray below meth c E 3 0 0 (MQ below (zQi E s.heap.size (fun r μ1 ov1 => r = zb (zali (μ 39) i j) ∧ μ1 = μ ∧ ov1 = ov)) [Value.ref (zad E 39), Value.int (nI i), Value.int (nI j)].toArray s 0 0 (zA E s.heap.size)) 0 [some (.ref (zad E 39)), some (.int (nI i)), some (.int (nI j))] [] μ ov
  refine z_aloadn (i := 0) (pc := 0) C dL_areAlike_0 rfl rfl ?_
  refine z_iconst (v := 3) (pc := 1) C dL_areAlike_1 (by decide) ?_
  refine z_iloadn (i := 1) (pc := 2) C dL_areAlike_2 rfl rfl ?_
  refine z_imul (pc := 3) C dL_areAlike_3 ?_
  refine z_iald (pc := 4) C 39 (3 * i) (by decide) rfl (zx3 i).1 (show (3 * i) < 24 from by omega) dL_areAlike_4 ?_
  refine z_aloadn (i := 0) (pc := 5) C dL_areAlike_5 rfl rfl ?_
  refine z_iconst (v := 3) (pc := 6) C dL_areAlike_6 (by decide) ?_
  refine z_iloadn (i := 1) (pc := 7) C dL_areAlike_7 rfl rfl ?_
  refine z_imul (pc := 8) C dL_areAlike_8 ?_
  refine z_iconst (v := 1) (pc := 9) C dL_areAlike_9 (by decide) ?_
  refine z_iadd (pc := 10) C dL_areAlike_10 ?_
  refine z_iald (pc := 11) C 39 (3 * i + 1) (by decide) rfl (zx3 i).2.1 (show (3 * i + 1) < 24 from by omega) dL_areAlike_11 ?_
  refine z_iadd (pc := 12) C dL_areAlike_12 ?_
  refine z_aloadn (i := 0) (pc := 13) C dL_areAlike_13 rfl rfl ?_
  refine z_iconst (v := 3) (pc := 14) C dL_areAlike_14 (by decide) ?_
  refine z_iloadn (i := 2) (pc := 15) C dL_areAlike_15 rfl rfl ?_
  refine z_imul (pc := 16) C dL_areAlike_16 ?_
  refine z_iald (pc := 17) C 39 (3 * j) (by decide) rfl (zx3 j).1 (show (3 * j) < 24 from by omega) dL_areAlike_17 ?_
  refine z_aloadn (i := 0) (pc := 18) C dL_areAlike_18 rfl rfl ?_
  refine z_iconst (v := 3) (pc := 19) C dL_areAlike_19 (by decide) ?_
  refine z_iloadn (i := 2) (pc := 20) C dL_areAlike_20 rfl rfl ?_
  refine z_imul (pc := 21) C dL_areAlike_21 ?_
  refine z_iconst (v := 1) (pc := 22) C dL_areAlike_22 (by decide) ?_
  refine z_iadd (pc := 23) C dL_areAlike_23 ?_
  refine z_iald (pc := 24) C 39 (3 * j + 1) (by decide) rfl (zx3 j).2.1 (show (3 * j + 1) < 24 from by omega) dL_areAlike_24 ?_
  refine z_iadd (pc := 25) C dL_areAlike_25 ?_
  refine z_icmp_ne (tgt := 61) (pc := 26) C dL_areAlike_26 (by decide) (fun c1 => ?_) (fun c1 => ?_)
  · refine z_iconst (v := 0) (pc := 61) C dL_areAlike_61 (by decide) ?_
    exact z_zret (pc := 62) C hr hlk (by decide) ⟨(zb_f (fun h => c1 h.1)).symm, rfl, rfl⟩ (Nat.zero_le _) (Nat.zero_le _) dL_areAlike_62
  · refine z_aloadn (i := 0) (pc := 29) C dL_areAlike_29 rfl rfl ?_
    refine z_iconst (v := 3) (pc := 30) C dL_areAlike_30 (by decide) ?_
    refine z_iloadn (i := 1) (pc := 31) C dL_areAlike_31 rfl rfl ?_
    refine z_imul (pc := 32) C dL_areAlike_32 ?_
    refine z_iald (pc := 33) C 39 (3 * i) (by decide) rfl (zx3 i).1 (show (3 * i) < 24 from by omega) dL_areAlike_33 ?_
    refine z_aloadn (i := 0) (pc := 34) C dL_areAlike_34 rfl rfl ?_
    refine z_iconst (v := 3) (pc := 35) C dL_areAlike_35 (by decide) ?_
    refine z_iloadn (i := 2) (pc := 36) C dL_areAlike_36 rfl rfl ?_
    refine z_imul (pc := 37) C dL_areAlike_37 ?_
    refine z_iald (pc := 38) C 39 (3 * j) (by decide) rfl (zx3 j).1 (show (3 * j) < 24 from by omega) dL_areAlike_38 ?_
    refine z_icmp_eq (tgt := 57) (pc := 39) C dL_areAlike_39 (by decide) (fun c2 => ?_) (fun c2 => ?_)
    · refine z_iconst (v := 1) (pc := 57) C dL_areAlike_57 (by decide) ?_
      refine z_goto (tgt := 62) (pc := 58) C dL_areAlike_58 (by decide) ?_
      exact z_zret (pc := 62) C hr hlk (by decide) ⟨(zb_t ⟨c1, Or.inl c2⟩).symm, rfl, rfl⟩ (Nat.zero_le _) (Nat.zero_le _) dL_areAlike_62
    · refine z_aloadn (i := 0) (pc := 42) C dL_areAlike_42 rfl rfl ?_
      refine z_iconst (v := 3) (pc := 43) C dL_areAlike_43 (by decide) ?_
      refine z_iloadn (i := 1) (pc := 44) C dL_areAlike_44 rfl rfl ?_
      refine z_imul (pc := 45) C dL_areAlike_45 ?_
      refine z_iald (pc := 46) C 39 (3 * i) (by decide) rfl (zx3 i).1 (show (3 * i) < 24 from by omega) dL_areAlike_46 ?_
      refine z_aloadn (i := 0) (pc := 47) C dL_areAlike_47 rfl rfl ?_
      refine z_iconst (v := 3) (pc := 48) C dL_areAlike_48 (by decide) ?_
      refine z_iloadn (i := 2) (pc := 49) C dL_areAlike_49 rfl rfl ?_
      refine z_imul (pc := 50) C dL_areAlike_50 ?_
      refine z_iconst (v := 1) (pc := 51) C dL_areAlike_51 (by decide) ?_
      refine z_iadd (pc := 52) C dL_areAlike_52 ?_
      refine z_iald (pc := 53) C 39 (3 * j + 1) (by decide) rfl (zx3 j).2.1 (show (3 * j + 1) < 24 from by omega) dL_areAlike_53 ?_
      refine z_icmp_ne (tgt := 61) (pc := 54) C dL_areAlike_54 (by decide) (fun c3 => ?_) (fun c3 => ?_)
      · refine z_iconst (v := 0) (pc := 61) C dL_areAlike_61 (by decide) ?_
        exact z_zret (pc := 62) C hr hlk (by decide) ⟨(zb_f (fun h => h.2.elim c2 c3)).symm, rfl, rfl⟩ (Nat.zero_le _) (Nat.zero_le _) dL_areAlike_62
      · refine z_iconst (v := 1) (pc := 57) C dL_areAlike_57 (by decide) ?_
        refine z_goto (tgt := 62) (pc := 58) C dL_areAlike_58 (by decide) ?_
        exact z_zret (pc := 62) C hr hlk (by decide) ⟨(zb_t ⟨c1, Or.inr c3⟩).symm, rfl, rfl⟩ (Nat.zero_le _) (Nat.zero_le _) dL_areAlike_62
set_option maxHeartbeats 4000000 in
set_option maxRecDepth 100000 in
theorem c_L_isRing (l : Launch) (E : zE) (sa : Nat → Nat) {μ : zM} {ov : Nat → Int64} (a b c3 : Nat) (ha : a < 8) (hb : b < 8) (hc : c3 < 8) : zMi l E sa yL_isRing wsL_isRing 1 22 0 0 [.ref (zad E 39), .int (nI a), .int (nI b), .int (nI c3)] μ ov (fun r μ1 ov1 => r = zb (zisr (μ 39) a b c3) ∧ μ1 = μ ∧ ov1 = ov) := by
  refine z_ofMi (cc := cL_isRing) (nL := 7) (ret := (some .boolean)) (own := RL) zfp_L_isRing rfl (by simp [Value.category]) (Nat.le_of_ble_eq_true rfl) rfl ?_
  intro p e s m below meth c C hr hlk
  show zW p l e (zR 1 22 0 0) s m [Value.ref (zad E 39), Value.int (nI a), Value.int (nI b), Value.int (nI c3)].toArray below meth c E 7 0 0 (MQ below (zQi E s.heap.size (fun r μ1 ov1 => r = zb (zisr (μ 39) a b c3) ∧ μ1 = μ ∧ ov1 = ov)) [Value.ref (zad E 39), Value.int (nI a), Value.int (nI b), Value.int (nI c3)].toArray s 0 0 (zA E s.heap.size)) 0 [some (.ref (zad E 39)), some (.int (nI a)), some (.int (nI b)), some (.int (nI c3)), none, none, none] [] μ ov
  refine z_iconst (v := 1) (pc := 0) C dL_isRing_0 (by decide) ?_
  refine z_aloadn (i := 0) (pc := 1) C dL_isRing_1 rfl rfl ?_
  refine z_iconst (v := 3) (pc := 2) C dL_isRing_2 (by decide) ?_
  refine z_iloadn (i := 1) (pc := 3) C dL_isRing_3 rfl rfl ?_
  refine z_imul (pc := 4) C dL_isRing_4 ?_
  refine z_iald (pc := 5) C 39 (3 * a) (by decide) rfl (zx3 a).1 (show (3 * a) < 24 from by omega) dL_isRing_5 ?_
  refine z_ishl (pc := 6) C dL_isRing_6 ?_
  refine z_iconst (v := 1) (pc := 7) C dL_isRing_7 (by decide) ?_
  refine z_aloadn (i := 0) (pc := 8) C dL_isRing_8 rfl rfl ?_
  refine z_iconst (v := 3) (pc := 9) C dL_isRing_9 (by decide) ?_
  refine z_iloadn (i := 1) (pc := 10) C dL_isRing_10 rfl rfl ?_
  refine z_imul (pc := 11) C dL_isRing_11 ?_
  refine z_iconst (v := 1) (pc := 12) C dL_isRing_12 (by decide) ?_
  refine z_iadd (pc := 13) C dL_isRing_13 ?_
  refine z_iald (pc := 14) C 39 (3 * a + 1) (by decide) rfl (zx3 a).2.1 (show (3 * a + 1) < 24 from by omega) dL_isRing_14 ?_
  refine z_ishl (pc := 15) C dL_isRing_15 ?_
  refine z_ior (pc := 16) C dL_isRing_16 ?_
  refine z_iconst (v := 1) (pc := 17) C dL_isRing_17 (by decide) ?_
  refine z_aloadn (i := 0) (pc := 18) C dL_isRing_18 rfl rfl ?_
  refine z_iconst (v := 3) (pc := 19) C dL_isRing_19 (by decide) ?_
  refine z_iloadn (i := 2) (pc := 20) C dL_isRing_20 rfl rfl ?_
  refine z_imul (pc := 21) C dL_isRing_21 ?_
  refine z_iald (pc := 22) C 39 (3 * b) (by decide) rfl (zx3 b).1 (show (3 * b) < 24 from by omega) dL_isRing_22 ?_
  refine z_ishl (pc := 23) C dL_isRing_23 ?_
  refine z_ior (pc := 24) C dL_isRing_24 ?_
  refine z_iconst (v := 1) (pc := 25) C dL_isRing_25 (by decide) ?_
  refine z_aloadn (i := 0) (pc := 26) C dL_isRing_26 rfl rfl ?_
  refine z_iconst (v := 3) (pc := 27) C dL_isRing_27 (by decide) ?_
  refine z_iloadn (i := 2) (pc := 28) C dL_isRing_28 rfl rfl ?_
  refine z_imul (pc := 29) C dL_isRing_29 ?_
  refine z_iconst (v := 1) (pc := 30) C dL_isRing_30 (by decide) ?_
  refine z_iadd (pc := 31) C dL_isRing_31 ?_
  refine z_iald (pc := 32) C 39 (3 * b + 1) (by decide) rfl (zx3 b).2.1 (show (3 * b + 1) < 24 from by omega) dL_isRing_32 ?_
  refine z_ishl (pc := 33) C dL_isRing_33 ?_
  refine z_ior (pc := 34) C dL_isRing_34 ?_
  refine z_iconst (v := 1) (pc := 35) C dL_isRing_35 (by decide) ?_
  refine z_aloadn (i := 0) (pc := 36) C dL_isRing_36 rfl rfl ?_
  refine z_iconst (v := 3) (pc := 37) C dL_isRing_37 (by decide) ?_
  refine z_iloadn (i := 3) (pc := 38) C dL_isRing_38 rfl rfl ?_
  refine z_imul (pc := 39) C dL_isRing_39 ?_
  refine z_iald (pc := 40) C 39 (3 * c3) (by decide) rfl (zx3 c3).1 (show (3 * c3) < 24 from by omega) dL_isRing_40 ?_
  refine z_ishl (pc := 41) C dL_isRing_41 ?_
  refine z_ior (pc := 42) C dL_isRing_42 ?_
  refine z_iconst (v := 1) (pc := 43) C dL_isRing_43 (by decide) ?_
  refine z_aloadn (i := 0) (pc := 44) C dL_isRing_44 rfl rfl ?_
  refine z_iconst (v := 3) (pc := 45) C dL_isRing_45 (by decide) ?_
  refine z_iloadn (i := 3) (pc := 46) C dL_isRing_46 rfl rfl ?_
  refine z_imul (pc := 47) C dL_isRing_47 ?_
  refine z_iconst (v := 1) (pc := 48) C dL_isRing_48 (by decide) ?_
  refine z_iadd (pc := 49) C dL_isRing_49 ?_
  refine z_iald (pc := 50) C 39 (3 * c3 + 1) (by decide) rfl (zx3 c3).2.1 (show (3 * c3 + 1) < 24 from by omega) dL_isRing_50 ?_
  refine z_ishl (pc := 51) C dL_isRing_51 ?_
  refine z_ior (pc := 52) C dL_isRing_52 ?_
  refine z_topi (y := zseti (μ 39) a b c3) rfl ?_
  refine z_istore4 (pc := 53) C (by decide) (fun w hw => by cases hw; exact (show ¬ (1 = 2) from by decide)) dL_isRing_53 ?_
  refine z_iconst (v := 0) (pc := 55) C dL_isRing_55 (by decide) ?_
  refine z_istore5 (pc := 56) C (by decide) (fun w hw => by cases hw; exact (show ¬ (1 = 2) from by decide)) dL_isRing_56 ?_
  refine z_iconst (v := 0) (pc := 58) C dL_isRing_58 (by decide) ?_
  refine z_istore6 (pc := 59) C (by decide) (fun w hw => by cases hw; exact (show ¬ (1 = 2) from by decide)) dL_isRing_59 ?_
  have loop : ∀ (f i : Nat), i + f = 6 → zW p l e (zR 1 22 0 0) s m [Value.ref (zad E 39), Value.int (nI a), Value.int (nI b), Value.int (nI c3)].toArray below meth c E 7 0 0 (MQ below (zQi E s.heap.size (fun r μ1 ov1 => r = zb (zisr (μ 39) a b c3) ∧ μ1 = μ ∧ ov1 = ov)) [Value.ref (zad E 39), Value.int (nI a), Value.int (nI b), Value.int (nI c3)].toArray s 0 0 (zA E s.heap.size)) 61 [some (.ref (zad E 39)), some (.int (nI a)), some (.int (nI b)), some (.int (nI c3)), some (.int ((zseti (μ 39) a b c3))), some (.int (zpc (zseti (μ 39) a b c3) i)), some (.int (nI i))] [] μ ov := by
    intro f
    induction f with
    | zero =>
      intro i hi
      refine z_iload (i := 6) (pc := 61) C dL_isRing_61 rfl ?_
      refine z_bipush (v := 6) (pc := 63) C dL_isRing_63 (by decide) ?_
      refine z_icmp_ge (tgt := 86) (pc := 65) C dL_isRing_65 (by decide) (fun c_l => ?_) (fun c_l => ?_)
      · obtain rfl : i = 6 := by omega
        refine z_iload (i := 5) (pc := 86) C dL_isRing_86 rfl ?_
        refine z_iconst (v := 3) (pc := 88) C dL_isRing_88 (by decide) ?_
        refine z_icmp_ne (tgt := 150) (pc := 89) C dL_isRing_89 (by decide) (fun c_0 => ?_) (fun c_0 => ?_)
        · refine z_iconst (v := 0) (pc := 150) C dL_isRing_150 (by decide) ?_
          exact z_zret (pc := 151) C hr hlk (by decide) ⟨(zb_f (fun h => c_0 (h.1))).symm, rfl, rfl⟩ (Nat.zero_le _) (Nat.zero_le _) dL_isRing_151
        · refine z_aloadn (i := 0) (pc := 92) C dL_isRing_92 rfl rfl ?_
          refine z_iloadn (i := 1) (pc := 93) C dL_isRing_93 rfl rfl ?_
          refine z_iloadn (i := 2) (pc := 94) C dL_isRing_94 rfl rfl ?_
          refine z_callSi (pc := 95) (n := 3) (As := [.ref (zad E 39), .int (nI a), .int (nI b)]) (rest := []) C (c_L_touch l E sa (μ := μ) (ov := ov) a b ha hb) gL_isRing_L_touch rfl zfV_L_touch.2 ⟨Nat.le_of_ble_eq_true rfl, Nat.le_of_ble_eq_true rfl⟩ rfl rfl (Nat.le_of_ble_eq_true rfl) ⟨Nat.zero_le _, Nat.zero_le _⟩ dL_isRing_95 (fun r9 μ9 ov9 hp => ?_)
          have e1 := hp.1.symm
          have e2 := hp.2.1.symm
          have e3 := hp.2.2.symm
          clear hp
          subst e1 e2 e3
          refine z_if_eq (tgt := 150) (pc := 98) C dL_isRing_98 (by decide) (fun c_1 => ?_) (fun c_1 => ?_)
          · rw [zb_eq0] at c_1
            refine z_iconst (v := 0) (pc := 150) C dL_isRing_150 (by decide) ?_
            exact z_zret (pc := 151) C hr hlk (by decide) ⟨(zb_f (fun h => c_1 (h.2.1))).symm, rfl, rfl⟩ (Nat.zero_le _) (Nat.zero_le _) dL_isRing_151
          · rw [zb_ne0] at c_1
            refine z_aloadn (i := 0) (pc := 101) C dL_isRing_101 rfl rfl ?_
            refine z_iloadn (i := 2) (pc := 102) C dL_isRing_102 rfl rfl ?_
            refine z_iloadn (i := 3) (pc := 103) C dL_isRing_103 rfl rfl ?_
            refine z_callSi (pc := 104) (n := 3) (As := [.ref (zad E 39), .int (nI b), .int (nI c3)]) (rest := []) C (c_L_touch l E sa (μ := μ) (ov := ov) b c3 hb hc) gL_isRing_L_touch rfl zfV_L_touch.2 ⟨Nat.le_of_ble_eq_true rfl, Nat.le_of_ble_eq_true rfl⟩ rfl rfl (Nat.le_of_ble_eq_true rfl) ⟨Nat.zero_le _, Nat.zero_le _⟩ dL_isRing_104 (fun r9 μ9 ov9 hp => ?_)
            have e1 := hp.1.symm
            have e2 := hp.2.1.symm
            have e3 := hp.2.2.symm
            clear hp
            subst e1 e2 e3
            refine z_if_eq (tgt := 150) (pc := 107) C dL_isRing_107 (by decide) (fun c_2 => ?_) (fun c_2 => ?_)
            · rw [zb_eq0] at c_2
              refine z_iconst (v := 0) (pc := 150) C dL_isRing_150 (by decide) ?_
              exact z_zret (pc := 151) C hr hlk (by decide) ⟨(zb_f (fun h => c_2 (h.2.2.1))).symm, rfl, rfl⟩ (Nat.zero_le _) (Nat.zero_le _) dL_isRing_151
            · rw [zb_ne0] at c_2
              refine z_aloadn (i := 0) (pc := 110) C dL_isRing_110 rfl rfl ?_
              refine z_iloadn (i := 1) (pc := 111) C dL_isRing_111 rfl rfl ?_
              refine z_iloadn (i := 3) (pc := 112) C dL_isRing_112 rfl rfl ?_
              refine z_callSi (pc := 113) (n := 3) (As := [.ref (zad E 39), .int (nI a), .int (nI c3)]) (rest := []) C (c_L_touch l E sa (μ := μ) (ov := ov) a c3 ha hc) gL_isRing_L_touch rfl zfV_L_touch.2 ⟨Nat.le_of_ble_eq_true rfl, Nat.le_of_ble_eq_true rfl⟩ rfl rfl (Nat.le_of_ble_eq_true rfl) ⟨Nat.zero_le _, Nat.zero_le _⟩ dL_isRing_113 (fun r9 μ9 ov9 hp => ?_)
              have e1 := hp.1.symm
              have e2 := hp.2.1.symm
              have e3 := hp.2.2.symm
              clear hp
              subst e1 e2 e3
              refine z_if_eq (tgt := 150) (pc := 116) C dL_isRing_116 (by decide) (fun c_3 => ?_) (fun c_3 => ?_)
              · rw [zb_eq0] at c_3
                refine z_iconst (v := 0) (pc := 150) C dL_isRing_150 (by decide) ?_
                exact z_zret (pc := 151) C hr hlk (by decide) ⟨(zb_f (fun h => c_3 (h.2.2.2.1))).symm, rfl, rfl⟩ (Nat.zero_le _) (Nat.zero_le _) dL_isRing_151
              · rw [zb_ne0] at c_3
                refine z_aloadn (i := 0) (pc := 119) C dL_isRing_119 rfl rfl ?_
                refine z_iloadn (i := 1) (pc := 120) C dL_isRing_120 rfl rfl ?_
                refine z_iloadn (i := 2) (pc := 121) C dL_isRing_121 rfl rfl ?_
                refine z_callSi (pc := 122) (n := 3) (As := [.ref (zad E 39), .int (nI a), .int (nI b)]) (rest := []) C (c_L_areAlike l E sa (μ := μ) (ov := ov) a b ha hb) gL_isRing_L_areAlike rfl zfV_L_areAlike.2 ⟨Nat.le_of_ble_eq_true rfl, Nat.le_of_ble_eq_true rfl⟩ rfl rfl (Nat.le_of_ble_eq_true rfl) ⟨Nat.zero_le _, Nat.zero_le _⟩ dL_isRing_122 (fun r9 μ9 ov9 hp => ?_)
                have e1 := hp.1.symm
                have e2 := hp.2.1.symm
                have e3 := hp.2.2.symm
                clear hp
                subst e1 e2 e3
                refine z_if_ne (tgt := 150) (pc := 125) C dL_isRing_125 (by decide) (fun c_4 => ?_) (fun c_4 => ?_)
                · rw [zb_ne0] at c_4
                  refine z_iconst (v := 0) (pc := 150) C dL_isRing_150 (by decide) ?_
                  exact z_zret (pc := 151) C hr hlk (by decide) ⟨(zb_f (fun h => (h.2.2.2.2.1) c_4)).symm, rfl, rfl⟩ (Nat.zero_le _) (Nat.zero_le _) dL_isRing_151
                · rw [zb_eq0] at c_4
                  refine z_aloadn (i := 0) (pc := 128) C dL_isRing_128 rfl rfl ?_
                  refine z_iloadn (i := 2) (pc := 129) C dL_isRing_129 rfl rfl ?_
                  refine z_iloadn (i := 3) (pc := 130) C dL_isRing_130 rfl rfl ?_
                  refine z_callSi (pc := 131) (n := 3) (As := [.ref (zad E 39), .int (nI b), .int (nI c3)]) (rest := []) C (c_L_areAlike l E sa (μ := μ) (ov := ov) b c3 hb hc) gL_isRing_L_areAlike rfl zfV_L_areAlike.2 ⟨Nat.le_of_ble_eq_true rfl, Nat.le_of_ble_eq_true rfl⟩ rfl rfl (Nat.le_of_ble_eq_true rfl) ⟨Nat.zero_le _, Nat.zero_le _⟩ dL_isRing_131 (fun r9 μ9 ov9 hp => ?_)
                  have e1 := hp.1.symm
                  have e2 := hp.2.1.symm
                  have e3 := hp.2.2.symm
                  clear hp
                  subst e1 e2 e3
                  refine z_if_ne (tgt := 150) (pc := 134) C dL_isRing_134 (by decide) (fun c_5 => ?_) (fun c_5 => ?_)
                  · rw [zb_ne0] at c_5
                    refine z_iconst (v := 0) (pc := 150) C dL_isRing_150 (by decide) ?_
                    exact z_zret (pc := 151) C hr hlk (by decide) ⟨(zb_f (fun h => (h.2.2.2.2.2.1) c_5)).symm, rfl, rfl⟩ (Nat.zero_le _) (Nat.zero_le _) dL_isRing_151
                  · rw [zb_eq0] at c_5
                    refine z_aloadn (i := 0) (pc := 137) C dL_isRing_137 rfl rfl ?_
                    refine z_iloadn (i := 1) (pc := 138) C dL_isRing_138 rfl rfl ?_
                    refine z_iloadn (i := 3) (pc := 139) C dL_isRing_139 rfl rfl ?_
                    refine z_callSi (pc := 140) (n := 3) (As := [.ref (zad E 39), .int (nI a), .int (nI c3)]) (rest := []) C (c_L_areAlike l E sa (μ := μ) (ov := ov) a c3 ha hc) gL_isRing_L_areAlike rfl zfV_L_areAlike.2 ⟨Nat.le_of_ble_eq_true rfl, Nat.le_of_ble_eq_true rfl⟩ rfl rfl (Nat.le_of_ble_eq_true rfl) ⟨Nat.zero_le _, Nat.zero_le _⟩ dL_isRing_140 (fun r9 μ9 ov9 hp => ?_)
                    have e1 := hp.1.symm
                    have e2 := hp.2.1.symm
                    have e3 := hp.2.2.symm
                    clear hp
                    subst e1 e2 e3
                    refine z_if_ne (tgt := 150) (pc := 143) C dL_isRing_143 (by decide) (fun c_6 => ?_) (fun c_6 => ?_)
                    · rw [zb_ne0] at c_6
                      refine z_iconst (v := 0) (pc := 150) C dL_isRing_150 (by decide) ?_
                      exact z_zret (pc := 151) C hr hlk (by decide) ⟨(zb_f (fun h => (h.2.2.2.2.2.2) c_6)).symm, rfl, rfl⟩ (Nat.zero_le _) (Nat.zero_le _) dL_isRing_151
                    · rw [zb_eq0] at c_6
                      refine z_iconst (v := 1) (pc := 146) C dL_isRing_146 (by decide) ?_
                      refine z_goto (tgt := 151) (pc := 147) C dL_isRing_147 (by decide) ?_
                      exact z_zret (pc := 151) C hr hlk (by decide) ⟨(zb_t ⟨c_0, c_1, c_2, c_3, c_4, c_5, c_6⟩).symm, rfl, rfl⟩ (Nat.zero_le _) (Nat.zero_le _) dL_isRing_151
      · exact absurd (by rw [show i = 6 by omega]; exact Int32.le_refl _) c_l
    | succ f ih =>
      intro i hi
      refine z_iload (i := 6) (pc := 61) C dL_isRing_61 rfl ?_
      refine z_bipush (v := 6) (pc := 63) C dL_isRing_63 (by decide) ?_
      refine z_icmp_ge (tgt := 86) (pc := 65) C dL_isRing_65 (by decide) (fun c_l => ?_) (fun c_l => ?_)
      · exact absurd c_l (nI_ge (a := i) (b := 6) (by omega) (by decide))
      · refine z_iload (i := 5) (pc := 68) C dL_isRing_68 rfl ?_
        refine z_iload (i := 4) (pc := 70) C dL_isRing_70 rfl ?_
        refine z_iload (i := 6) (pc := 72) C dL_isRing_72 rfl ?_
        refine z_ishr (pc := 74) C dL_isRing_74 ?_
        refine z_iconst (v := 1) (pc := 75) C dL_isRing_75 (by decide) ?_
        refine z_iand (pc := 76) C dL_isRing_76 ?_
        refine z_iadd (pc := 77) C dL_isRing_77 ?_
        refine z_topi (y := zpc (zseti (μ 39) a b c3) (i + 1)) rfl ?_
        refine z_istore5 (pc := 78) C (by decide) (fun w hw => by cases hw; exact (show ¬ (1 = 2) from by decide)) dL_isRing_78 ?_
        refine z_iinc6 (v := 1) (pc := 80) C (by decide) (by decide) (fun w hw => by cases hw; exact (show ¬ (1 = 2) from by decide)) dL_isRing_80 ?_
        rw [nI_1]
        refine z_goto (tgt := 61) (pc := 83) C dL_isRing_83 (by decide) ?_
        exact ih (i + 1) (by omega)
  exact loop 6 0 (by omega)
