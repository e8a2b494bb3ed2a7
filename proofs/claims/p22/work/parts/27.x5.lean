theorem zclr20 (μ : zM) : ∀ (i k : Nat), k < i → zitr (fun j μ => zu μ 20 j 0) i μ 20 k = 0
  | 0, k, h => absurd h (Nat.not_lt_zero k)
  | i + 1, k, h => by
    show zu _ 20 i 0 20 k = 0
    rw [zu_s]
    by_cases e : k = i
    · subst e; exact upd_s _ _ _
    · rw [upd_n _ _ e]; exact zclr20 μ i k (by omega)
theorem zRI_0 (μ : zM) (t : Nat) {n9 : Nat} : zRI μ t (zitr (fun j μ => zu μ 20 j 0) 8 (zu μ 63 7 0)) (zgat μ t n9 0) := by
  have hk : ∀ b, b ≠ 20 → zitr (fun j μ => zu μ 20 j 0) 8 (zu μ 63 7 0) b = zu μ 63 7 0 b := fun b hb => zitr_k (fun j μ => zu_n _ _ _ hb)
  refine ⟨fun b hb h63 => by rw [hk b (by omega), zu_n _ _ _ h63], fun j hj => by rw [hk 63 (by decide), zu_s, upd_n _ _ hj], by rw [hk 63 (by decide), zu_s, upd_s]; rfl, fun j x hx => by simp [zgat] at hx, fun k hk8 => ?_, fun x hx => by simp [zgat] at hx⟩
  rw [zclr20 _ 8 k hk8]
  refine ⟨Or.inl rfl, fun h => absurd h (by decide), fun h => ?_⟩
  obtain ⟨x, hx, -⟩ := h
  simp [zgat] at hx
set_option maxHeartbeats 4000000 in
set_option maxRecDepth 100000 in
theorem c_X3_gather (l : Launch) (E : zE) (sa : Nat → Nat) {μ : zM} {ov : Nat → Int64} {i1 : Int32} (t n : Nat) (h1 : i1 = nI t) (ht : t < 501) (hn : n ≤ 8) (hc : μ 63 5 = nI n) : zMv l E sa yX3_gather wsX3_gather 4 96 0 0 [.ref (zob E 4), .ref (zob E 2), .int i1] μ ov (fun μ1 ov1 => zRI μ t μ1 (zgat μ t n n) ∧ ov1 = ov) := by
  refine z_ofMv (cc := cX3_gather) (nL := 4) (ret := none) (own := RX3) zfp_X3_gather rfl (by simp [Value.category]) (Nat.le_of_ble_eq_true rfl) rfl ?_
  intro p e s m below meth c C hr hlk
  have iX3 : ∀ w ∈ wsX30, w ∈ wsX3_gather := by decide +kernel
  have f30 := C.1.2.2.2.2 (.fieldLink RX3 30 "TickFall$Rings" "count" "I") (by decide +kernel)
  have f34 := C.1.2.2.2.2 (.fieldLink RX3 34 "TickFall$Rings" "isInRing" "[Z") (by decide +kernel)
  show zW p l e (zR 4 96 0 0) s m [Value.ref (zob E 4), Value.ref (zob E 2), Value.int i1].toArray below meth c E 4 0 0 (MQ below (zQv E s.heap.size (fun μ1 ov1 => zRI μ t μ1 (zgat μ t n n) ∧ ov1 = ov)) [Value.ref (zob E 4), Value.ref (zob E 2), Value.int i1].toArray s 0 0 (zA E s.heap.size)) 0 [some (.ref (zob E 4)), some (.ref (zob E 2)), some (.int (i1)), none] [] μ ov
  refine z_aloadn (i := 0) (pc := 0) C dX3_gather_0 rfl rfl ?_
  refine z_iconst (v := 0) (pc := 1) C dX3_gather_1 (by decide) ?_
  refine zp_X3_count (pc := 2) C dX3_gather_2 iX3 f30 ?_
  refine z_iconst (v := 0) (pc := 5) C dX3_gather_5 (by decide) ?_
  refine z_istore3 (pc := 6) C (by decide) (fun w hw => by cases hw; exact (show ¬ (1 = 2) from by decide)) dX3_gather_6 ?_
  have outer : ∀ (f a : Nat) (ν : zM), a + f = n → zRI μ t ν (zgat μ t n a) → zW p l e (zR 4 96 0 0) s m [Value.ref (zob E 4), Value.ref (zob E 2), Value.int i1].toArray below meth c E 4 0 0 (MQ below (zQv E s.heap.size (fun μ1 ov1 => zRI μ t μ1 (zgat μ t n n) ∧ ov1 = ov)) [Value.ref (zob E 4), Value.ref (zob E 2), Value.int i1].toArray s 0 0 (zA E s.heap.size)) 28 [some (.ref (zob E 4)), some (.ref (zob E 2)), some (.int (i1)), some (.int (nI a))] [] ν ov := by
    intro f
    induction f with
    | zero =>
      intro a ν ha hi
      have c5 : ν 63 5 = nI n := (hi.2.1 5 (by decide)).trans hc
      refine z_iloadn (i := 3) (pc := 28) C dX3_gather_28 rfl rfl ?_
      refine z_aloadn (i := 1) (pc := 29) C dX3_gather_29 rfl rfl ?_
      refine z_callVi (pc := 30) (n := 0) (As := []) (rest := [.int (nI a)]) C (c_X2_count l E sa (μ := ν) (ov := ov)) gX3_gather_X2_count rfl zfV_X2_count ⟨Nat.le_of_ble_eq_true rfl, Nat.le_of_ble_eq_true rfl⟩ rfl (zRec_X2 E) rfl (Nat.le_of_ble_eq_true rfl) ⟨Nat.zero_le _, Nat.zero_le _⟩ dX3_gather_30 (fun r9 μ9 ov9 hp => ?_)
      have e1 := hp.1.symm
      have e2 := hp.2.1.symm
      have e3 := hp.2.2.symm
      clear hp
      subst e1 e2 e3
      refine z_icmp_ge (tgt := 58) (pc := 33) C dX3_gather_33 (by decide) (fun c_l => ?_) (fun c_l => ?_)
      · exact z_vret (pc := 58) C hr hlk ⟨by rw [show n = a by omega] at hi ⊢; exact hi, rfl⟩ (Nat.zero_le _) (Nat.zero_le _) dX3_gather_58
      · exact absurd (by rw [c5]; exact nI_le (by omega) (by omega)) c_l
    | succ f ih =>
      intro a ν ha hi
      have c5 : ν 63 5 = nI n := (hi.2.1 5 (by decide)).trans hc
      have c11 : ν 11 = μ 11 := hi.1 11 (by decide) (by decide)
      have go : ∀ ν1 : zM, zRI μ t ν1 (zgat μ t n (a + 1)) → zW p l e (zR 4 96 0 0) s m [Value.ref (zob E 4), Value.ref (zob E 2), Value.int i1].toArray below meth c E 4 0 0 (MQ below (zQv E s.heap.size (fun μ1 ov1 => zRI μ t μ1 (zgat μ t n n) ∧ ov1 = ov)) [Value.ref (zob E 4), Value.ref (zob E 2), Value.int i1].toArray s 0 0 (zA E s.heap.size)) 52 [some (.ref (zob E 4)), some (.ref (zob E 2)), some (.int (i1)), some (.int (nI a))] [] ν1 ov := by
        intro ν1 hi1
        refine z_iinc3 (v := 1) (pc := 52) C (by decide) (by decide) (fun w hw => by cases hw; exact (show ¬ (1 = 2) from by decide)) dX3_gather_52 ?_
        rw [nI_1]
        refine z_goto (tgt := 28) (pc := 55) C dX3_gather_55 (by decide) ?_
        exact ih (a + 1) ν1 (by omega) hi1
      refine z_iloadn (i := 3) (pc := 28) C dX3_gather_28 rfl rfl ?_
      refine z_aloadn (i := 1) (pc := 29) C dX3_gather_29 rfl rfl ?_
      refine z_callVi (pc := 30) (n := 0) (As := []) (rest := [.int (nI a)]) C (c_X2_count l E sa (μ := ν) (ov := ov)) gX3_gather_X2_count rfl zfV_X2_count ⟨Nat.le_of_ble_eq_true rfl, Nat.le_of_ble_eq_true rfl⟩ rfl (zRec_X2 E) rfl (Nat.le_of_ble_eq_true rfl) ⟨Nat.zero_le _, Nat.zero_le _⟩ dX3_gather_30 (fun r9 μ9 ov9 hp => ?_)
      have e1 := hp.1.symm
      have e2 := hp.2.1.symm
      have e3 := hp.2.2.symm
      clear hp
      subst e1 e2 e3
      refine z_icmp_ge (tgt := 58) (pc := 33) C dX3_gather_33 (by decide) (fun c_l => ?_) (fun c_l => ?_)
      · exact absurd c_l (by rw [c5]; exact nI_ge (by omega) (by omega))
      · refine z_aloadn (i := 1) (pc := 36) C dX3_gather_36 rfl rfl ?_
        refine z_iloadn (i := 3) (pc := 37) C dX3_gather_37 rfl rfl ?_
        refine z_iloadn (i := 2) (pc := 38) C dX3_gather_38 rfl rfl ?_
        refine z_callVi (pc := 39) (n := 2) (As := [.int (nI a), .int (i1)]) (rest := []) C (c_X2_isLaidBefore l E sa (μ := ν) a rfl (by omega) i1) gX3_gather_X2_isLaidBefore rfl zfV_X2_isLaidBefore ⟨Nat.le_of_ble_eq_true rfl, Nat.le_of_ble_eq_true rfl⟩ rfl (zRec_X2 E) rfl (Nat.le_of_ble_eq_true rfl) ⟨Nat.zero_le _, Nat.zero_le _⟩ dX3_gather_39 (fun r9 μ9 ov9 hp => ?_)
        have e1 := hp.1.symm
        have e2 := hp.2.1.symm
        have e3 := hp.2.2.symm
        clear hp
        subst e1 e2 e3
        refine z_if_eq (tgt := 52) (pc := 42) C dX3_gather_42 (by decide) (fun c_1 => ?_) (fun c_1 => ?_)
        · exact go ν (by rw [zb_eq0, c11, h1] at c_1; rw [zgat_s, if_neg c_1, List.append_nil]; exact hi)
        · refine z_aloadn (i := 0) (pc := 45) C dX3_gather_45 rfl rfl ?_
          refine z_iloadn (i := 3) (pc := 46) C dX3_gather_46 rfl rfl ?_
          refine z_aloadn (i := 1) (pc := 47) C dX3_gather_47 rfl rfl ?_
          refine z_iloadn (i := 2) (pc := 48) C dX3_gather_48 rfl rfl ?_
          refine z_callVv (pc := 49) (n := 3) (As := [.int (nI a), .ref (zob E 2), .int (i1)]) (rest := []) C (c_X3_gatherFrom l E sa (μ0 := μ) (μ := ν) (zgat μ t n a) a t n rfl h1 (by omega) hn ht hc hi (zgat_len μ hn a (by omega))) gX3_gather_X3_gatherFrom rfl zfV_X3_gatherFrom ⟨Nat.le_of_ble_eq_true rfl, Nat.le_of_ble_eq_true rfl⟩ rfl (zRec_X3 E) rfl (Nat.le_of_ble_eq_true rfl) ⟨Nat.zero_le _, Nat.zero_le _⟩ dX3_gather_49 (fun ν1 ov9 hp => ?_)
          obtain ⟨hi1, e3⟩ := hp
          have e3 := e3.symm
          subst e3
          refine go ν1 ?_
          rw [zb_ne0, c11, h1] at c_1
          rw [zgat_s, if_pos c_1]
          exact hi1
  have loop : ∀ (f i : Nat), i + f = 8 → zW p l e (zR 4 96 0 0) s m [Value.ref (zob E 4), Value.ref (zob E 2), Value.int i1].toArray below meth c E 4 0 0 (MQ below (zQv E s.heap.size (fun μ1 ov1 => zRI μ t μ1 (zgat μ t n n) ∧ ov1 = ov)) [Value.ref (zob E 4), Value.ref (zob E 2), Value.int i1].toArray s 0 0 (zA E s.heap.size)) 7 [some (.ref (zob E 4)), some (.ref (zob E 2)), some (.int (i1)), some (.int (nI i))] [] (zitr (fun j μ => zu μ 20 j 0) i (zu μ 63 7 0)) ov := by
    intro f
    induction f with
    | zero =>
      intro i hi
      obtain rfl : i = 8 := by omega
      refine z_iloadn (i := 3) (pc := 7) C dX3_gather_7 rfl rfl ?_
      refine z_bipush (v := 8) (pc := 8) C dX3_gather_8 (by decide) ?_
      refine z_icmp_ge (tgt := 26) (pc := 10) C dX3_gather_10 (by decide) (fun c_l => ?_) (fun c_l => ?_)
      · refine z_iconst (v := 0) (pc := 26) C dX3_gather_26 (by decide) ?_
        refine z_istore3 (pc := 27) C (by decide) (fun w hw => by cases hw; exact (show ¬ (1 = 2) from by decide)) dX3_gather_27 ?_
        exact outer n 0 _ (by omega) (zRI_0 μ t)
      · exact absurd (by decide) c_l
    | succ f ih =>
      intro i hi
      refine z_iloadn (i := 3) (pc := 7) C dX3_gather_7 rfl rfl ?_
      refine z_bipush (v := 8) (pc := 8) C dX3_gather_8 (by decide) ?_
      refine z_icmp_ge (tgt := 26) (pc := 10) C dX3_gather_10 (by decide) (fun c_l => ?_) (fun c_l => ?_)
      · exact absurd c_l (nI_ge (b := 8) (by omega) (by omega))
      · refine z_aloadn (i := 0) (pc := 13) C dX3_gather_13 rfl rfl ?_
        refine zg_X3_isInRing (pc := 14) C dX3_gather_14 iX3 f34 ?_
        refine z_iloadn (i := 3) (pc := 17) C dX3_gather_17 rfl rfl ?_
        refine z_iconst (v := 0) (pc := 18) C dX3_gather_18 (by decide) ?_
        refine z_bast (pc := 19) C 20 i (by decide) rfl rfl (show i < 8 from by omega) (by decide) dX3_gather_19 ?_
        refine z_mem (μ' := (zitr (fun j μ => zu μ 20 j 0) (i + 1) (zu μ 63 7 0))) rfl ?_
        refine z_iinc3 (v := 1) (pc := 20) C (by decide) (by decide) (fun w hw => by cases hw; exact (show ¬ (1 = 2) from by decide)) dX3_gather_20 ?_
        rw [nI_1]
        refine z_goto (tgt := 7) (pc := 23) C dX3_gather_23 (by decide) ?_
        exact ih (i + 1) (by omega)
  exact loop 8 0 (by omega)
def zopn (μ : zM) (d : Int32) (j : Nat) : Bool := decide (d < zabs (μ 19 j))
set_option maxHeartbeats 4000000 in
set_option maxRecDepth 100000 in
theorem c_X3_countOpen (l : Launch) (E : zE) (sa : Nat → Nat) {μ : zM} {ov : Nat → Int64} {d : Int32} (n : Nat) (hc : μ 63 7 = nI n) (hn : n ≤ 56) : zMi l E sa yX3_countOpen wsX3_countOpen 1 24 0 0 [.ref (zob E 4), .int d] μ ov (fun r μ1 ov1 => r = nI (zcnt (zopn μ d) n) ∧ μ1 = μ ∧ ov1 = ov) := by
  refine z_ofMi (cc := cX3_countOpen) (nL := 4) (ret := (some .int)) (own := RX3) zfp_X3_countOpen rfl (by simp [Value.category]) (Nat.le_of_ble_eq_true rfl) rfl ?_
  intro p e s m below meth c C hr hlk
  have iX3 : ∀ w ∈ wsX30, w ∈ wsX3_countOpen := by decide +kernel
  have f27 := C.1.2.2.2.2 (.fieldLink RX3 27 "TickFall$Rings" "sums" "[I") (by decide +kernel)
  have f30 := C.1.2.2.2.2 (.fieldLink RX3 30 "TickFall$Rings" "count" "I") (by decide +kernel)
  show zW p l e (zR 1 24 0 0) s m [Value.ref (zob E 4), Value.int d].toArray below meth c E 4 0 0 (MQ below (zQi E s.heap.size (fun r μ1 ov1 => r = nI (zcnt (zopn μ d) n) ∧ μ1 = μ ∧ ov1 = ov)) [Value.ref (zob E 4), Value.int d].toArray s 0 0 (zA E s.heap.size)) 0 [some (.ref (zob E 4)), some (.int (d)), none, none] [] μ ov
  refine z_iconst (v := 0) (pc := 0) C dX3_countOpen_0 (by decide) ?_
  refine z_istore2 (pc := 1) C (by decide) (fun w hw => by cases hw; exact (show ¬ (1 = 2) from by decide)) dX3_countOpen_1 ?_
  refine z_iconst (v := 0) (pc := 2) C dX3_countOpen_2 (by decide) ?_
  refine z_istore3 (pc := 3) C (by decide) (fun w hw => by cases hw; exact (show ¬ (1 = 2) from by decide)) dX3_countOpen_3 ?_
  have loop : ∀ (f i : Nat), i + f = n → zW p l e (zR 1 24 0 0) s m [Value.ref (zob E 4), Value.int d].toArray below meth c E 4 0 0 (MQ below (zQi E s.heap.size (fun r μ1 ov1 => r = nI (zcnt (zopn μ d) n) ∧ μ1 = μ ∧ ov1 = ov)) [Value.ref (zob E 4), Value.int d].toArray s 0 0 (zA E s.heap.size)) 4 [some (.ref (zob E 4)), some (.int (d)), some (.int (nI (zcnt (zopn μ d) i))), some (.int (nI i))] [] μ ov := by
    intro f
    induction f with
    | zero =>
      intro i hi
      refine z_iloadn (i := 3) (pc := 4) C dX3_countOpen_4 rfl rfl ?_
      refine z_aloadn (i := 0) (pc := 5) C dX3_countOpen_5 rfl rfl ?_
      refine zg_X3_count (pc := 6) C dX3_countOpen_6 iX3 f30 ?_
      refine z_icmp_ge (tgt := 34) (pc := 9) C dX3_countOpen_9 (by decide) (fun c_l => ?_) (fun c_l => ?_)
      · refine z_iloadn (i := 2) (pc := 34) C dX3_countOpen_34 rfl rfl ?_
        exact z_iret (pc := 35) C hr hlk ⟨by rw [show i = n by omega], rfl, rfl⟩ (Nat.zero_le _) (Nat.zero_le _) dX3_countOpen_35
      · exact absurd (by rw [hc]; exact nI_le (by omega) (by omega)) c_l
    | succ f ih =>
      intro i hi
      have go : zW p l e (zR 1 24 0 0) s m [Value.ref (zob E 4), Value.int d].toArray below meth c E 4 0 0 (MQ below (zQi E s.heap.size (fun r μ1 ov1 => r = nI (zcnt (zopn μ d) n) ∧ μ1 = μ ∧ ov1 = ov)) [Value.ref (zob E 4), Value.int d].toArray s 0 0 (zA E s.heap.size)) 28 [some (.ref (zob E 4)), some (.int (d)), some (.int (nI (zcnt (zopn μ d) (i + 1)))), some (.int (nI i))] [] μ ov := by
        refine z_iinc3 (v := 1) (pc := 28) C (by decide) (by decide) (fun w hw => by cases hw; exact (show ¬ (1 = 2) from by decide)) dX3_countOpen_28 ?_
        rw [nI_1]
        refine z_goto (tgt := 4) (pc := 31) C dX3_countOpen_31 (by decide) ?_
        exact ih (i + 1) (by omega)
      refine z_iloadn (i := 3) (pc := 4) C dX3_countOpen_4 rfl rfl ?_
      refine z_aloadn (i := 0) (pc := 5) C dX3_countOpen_5 rfl rfl ?_
      refine zg_X3_count (pc := 6) C dX3_countOpen_6 iX3 f30 ?_
      refine z_icmp_ge (tgt := 34) (pc := 9) C dX3_countOpen_9 (by decide) (fun c_l => ?_) (fun c_l => ?_)
      · exact absurd c_l (by rw [hc]; exact nI_ge (by omega) (by omega))
      · refine z_aloadn (i := 0) (pc := 12) C dX3_countOpen_12 rfl rfl ?_
        refine zg_X3_sums (pc := 13) C dX3_countOpen_13 iX3 f27 ?_
        refine z_iloadn (i := 3) (pc := 16) C dX3_countOpen_16 rfl rfl ?_
        refine z_iald (pc := 17) C 19 i (by decide) rfl rfl (show i < 56 from by omega) dX3_countOpen_17 ?_
        refine z_mabs (pc := 18) C (C.1.2.2.2.2 (.methodLink RX3 79 Lib.Math.abs.name) (by decide +kernel)) (C.1.2.2.2.2 (.static Lib.Math.abs.name) (by decide +kernel)) (C.1.2.2.2.2 (.initialized "java/lang/Math") (by decide +kernel)) (C.1.2.2.2.2 (.code Lib.Math.abs.name Lib.Math.abs.code 1 (some .int)) (by decide +kernel)) (Nat.le_of_ble_eq_true rfl) (Nat.le_of_ble_eq_true rfl) (Nat.zero_le _) (Nat.zero_le _) dX3_countOpen_18 ?_
        refine z_iloadn (i := 1) (pc := 21) C dX3_countOpen_21 rfl rfl ?_
        refine z_icmp_le (tgt := 28) (pc := 22) C dX3_countOpen_22 (by decide) (fun c_1 => ?_) (fun c_1 => ?_)
        · have e : zcnt (zopn μ d) (i + 1) = zcnt (zopn μ d) i := by rw [zcnt, if_neg (by unfold zopn; rw [decide_eq_true_eq]; exact fun h => by rw [zlt] at h; rw [zle2] at c_1; unfold zabs at h; omega)]; rfl
          rw [e] at go
          exact go
        · refine z_iinc2 (v := 1) (pc := 25) C (by decide) (by decide) (fun w hw => by cases hw; exact (show ¬ (1 = 2) from by decide)) dX3_countOpen_25 ?_
          have e : zcnt (zopn μ d) (i + 1) = zcnt (zopn μ d) i + 1 := by rw [zcnt, if_pos (by unfold zopn zabs; rw [decide_eq_true_eq]; exact znot_le c_1)]
          rw [e, ← nI_1] at go
          exact go
  exact loop n 0 (by omega)
set_option maxHeartbeats 4000000 in
set_option maxRecDepth 100000 in
theorem c_X3_takenOff (l : Launch) (E : zE) (sa : Nat → Nat) {μ : zM} {ov : Nat → Int64} {i : Int32} (c9 j : Nat) (hi : i = nI j) (hj : j < c9) (H : zH c9 μ) : zMi l E sa yX3_takenOff wsX3_takenOff 0 0 0 0 [.ref (zob E 4), .int i] μ ov (fun r μ1 ov1 => r = ztoff μ j ∧ μ1 = μ ∧ ov1 = ov) := by
  refine z_ofMi (cc := cX3_takenOff) (nL := 2) (ret := (some .int)) (own := RX3) zfp_X3_takenOff rfl (by simp [Value.category]) (Nat.le_of_ble_eq_true rfl) rfl ?_
  intro p e s m below meth c C hr hlk
  have iX3 : ∀ w ∈ wsX30, w ∈ wsX3_takenOff := by decide +kernel
  have f9 := C.1.2.2.2.2 (.fieldLink RX3 9 "TickFall$Rings" "lowest" "[I") (by decide +kernel)
  have f15 := C.1.2.2.2.2 (.fieldLink RX3 15 "TickFall$Rings" "between" "[I") (by decide +kernel)
  have f18 := C.1.2.2.2.2 (.fieldLink RX3 18 "TickFall$Rings" "highest" "[I") (by decide +kernel)
  have f21 := C.1.2.2.2.2 (.fieldLink RX3 21 "TickFall$Rings" "betweenSigns" "[I") (by decide +kernel)
  have f24 := C.1.2.2.2.2 (.fieldLink RX3 24 "TickFall$Rings" "highestSigns" "[I") (by decide +kernel)
  have f38 := C.1.2.2.2.2 (.fieldLink RX3 38 "TickFall$Rings" "taken" "[I") (by decide +kernel)
  show zW p l e (zR 0 0 0 0) s m [Value.ref (zob E 4), Value.int i].toArray below meth c E 2 0 0 (MQ below (zQi E s.heap.size (fun r μ1 ov1 => r = ztoff μ j ∧ μ1 = μ ∧ ov1 = ov)) [Value.ref (zob E 4), Value.int i].toArray s 0 0 (zA E s.heap.size)) 0 [some (.ref (zob E 4)), some (.int (i))] [] μ ov
  obtain ⟨h7, h56, hq9⟩ := id H
  obtain ⟨a, b, d, ha, hb, hd, ea, eb, ed⟩ := hq9 j hj
  refine z_aloadn (i := 0) (pc := 0) C dX3_takenOff_0 rfl rfl ?_
  refine zg_X3_taken (pc := 1) C dX3_takenOff_1 iX3 f38 ?_
  refine z_aloadn (i := 0) (pc := 4) C dX3_takenOff_4 rfl rfl ?_
  refine zg_X3_lowest (pc := 5) C dX3_takenOff_5 iX3 f9 ?_
  refine z_iloadn (i := 1) (pc := 8) C dX3_takenOff_8 rfl rfl ?_
  refine z_iald (pc := 9) C 14 j (by decide) rfl hi (show j < 56 from by omega) dX3_takenOff_9 ?_
  refine z_iald (pc := 10) C 21 a (by decide) rfl ea (show a < 8 from ha) dX3_takenOff_10 ?_
  refine z_aloadn (i := 0) (pc := 11) C dX3_takenOff_11 rfl rfl ?_
  refine zg_X3_betweenSigns (pc := 12) C dX3_takenOff_12 iX3 f21 ?_
  refine z_iloadn (i := 1) (pc := 15) C dX3_takenOff_15 rfl rfl ?_
  refine z_iald (pc := 16) C 17 j (by decide) rfl hi (show j < 56 from by omega) dX3_takenOff_16 ?_
  refine z_aloadn (i := 0) (pc := 17) C dX3_takenOff_17 rfl rfl ?_
  refine zg_X3_taken (pc := 18) C dX3_takenOff_18 iX3 f38 ?_
  refine z_aloadn (i := 0) (pc := 21) C dX3_takenOff_21 rfl rfl ?_
  refine zg_X3_between (pc := 22) C dX3_takenOff_22 iX3 f15 ?_
  refine z_iloadn (i := 1) (pc := 25) C dX3_takenOff_25 rfl rfl ?_
  refine z_iald (pc := 26) C 15 j (by decide) rfl hi (show j < 56 from by omega) dX3_takenOff_26 ?_
  refine z_iald (pc := 27) C 21 b (by decide) rfl eb (show b < 8 from hb) dX3_takenOff_27 ?_
  refine z_imul (pc := 28) C dX3_takenOff_28 ?_
  refine z_iadd (pc := 29) C dX3_takenOff_29 ?_
  refine z_aloadn (i := 0) (pc := 30) C dX3_takenOff_30 rfl rfl ?_
  refine zg_X3_highestSigns (pc := 31) C dX3_takenOff_31 iX3 f24 ?_
  refine z_iloadn (i := 1) (pc := 34) C dX3_takenOff_34 rfl rfl ?_
  refine z_iald (pc := 35) C 18 j (by decide) rfl hi (show j < 56 from by omega) dX3_takenOff_35 ?_
  refine z_aloadn (i := 0) (pc := 36) C dX3_takenOff_36 rfl rfl ?_
  refine zg_X3_taken (pc := 37) C dX3_takenOff_37 iX3 f38 ?_
  refine z_aloadn (i := 0) (pc := 40) C dX3_takenOff_40 rfl rfl ?_
  refine zg_X3_highest (pc := 41) C dX3_takenOff_41 iX3 f18 ?_
  refine z_iloadn (i := 1) (pc := 44) C dX3_takenOff_44 rfl rfl ?_
  refine z_iald (pc := 45) C 16 j (by decide) rfl hi (show j < 56 from by omega) dX3_takenOff_45 ?_
  refine z_iald (pc := 46) C 21 d (by decide) rfl ed (show d < 8 from hd) dX3_takenOff_46 ?_
  refine z_imul (pc := 47) C dX3_takenOff_47 ?_
  refine z_iadd (pc := 48) C dX3_takenOff_48 ?_
  exact z_iret (pc := 49) C hr hlk ⟨by rw [ztoff, ea, eb, ed, nI_clamp (by omega), nI_clamp (by omega), nI_clamp (by omega)], rfl, rfl⟩ (Nat.zero_le _) (Nat.zero_le _) dX3_takenOff_49
set_option maxHeartbeats 4000000 in
set_option maxRecDepth 100000 in
theorem c_X3_areClosedAbove (l : Launch) (E : zE) (sa : Nat → Nat) {μ : zM} {ov : Nat → Int64} {i : Int32} (c9 : Nat) (H : zH c9 μ) : zMi l E sa yX3_areClosedAbove wsX3_areClosedAbove 1 24 0 0 [.ref (zob E 4), .int i] μ ov (fun r μ1 ov1 => r = zb (zclA μ c9 i) ∧ μ1 = μ ∧ ov1 = ov) := by
  refine z_ofMi (cc := cX3_areClosedAbove) (nL := 3) (ret := (some .boolean)) (own := RX3) zfp_X3_areClosedAbove rfl (by simp [Value.category]) (Nat.le_of_ble_eq_true rfl) rfl ?_
  intro p e s m below meth c C hr hlk
  have iX3 : ∀ w ∈ wsX30, w ∈ wsX3_areClosedAbove := by decide +kernel
  have f9 := C.1.2.2.2.2 (.fieldLink RX3 9 "TickFall$Rings" "lowest" "[I") (by decide +kernel)
  have f27 := C.1.2.2.2.2 (.fieldLink RX3 27 "TickFall$Rings" "sums" "[I") (by decide +kernel)
  have f30 := C.1.2.2.2.2 (.fieldLink RX3 30 "TickFall$Rings" "count" "I") (by decide +kernel)
  have f41 := C.1.2.2.2.2 (.fieldLink RX3 41 "TickFall$Rings" "doubt" "I") (by decide +kernel)
  show zW p l e (zR 1 24 0 0) s m [Value.ref (zob E 4), Value.int i].toArray below meth c E 3 0 0 (MQ below (zQi E s.heap.size (fun r μ1 ov1 => r = zb (zclA μ c9 i) ∧ μ1 = μ ∧ ov1 = ov)) [Value.ref (zob E 4), Value.int i].toArray s 0 0 (zA E s.heap.size)) 0 [some (.ref (zob E 4)), some (.int (i)), none] [] μ ov
  refine z_iconst (v := 0) (pc := 0) C dX3_areClosedAbove_0 (by decide) ?_
  refine z_istore2 (pc := 1) C (by decide) (fun w hw => by cases hw; exact (show ¬ (1 = 2) from by decide)) dX3_areClosedAbove_1 ?_
  have h7 := H.1
  have h56 := H.2.1
  have loop : ∀ (f j : Nat), j + f = c9 → (∀ q, q < j → (μ 14 q = i → zabs (μ 19 q - 1000 * ztoff μ q) ≤ μ 63 8)) → zW p l e (zR 1 24 0 0) s m [Value.ref (zob E 4), Value.int i].toArray below meth c E 3 0 0 (MQ below (zQi E s.heap.size (fun r μ1 ov1 => r = zb (zclA μ c9 i) ∧ μ1 = μ ∧ ov1 = ov)) [Value.ref (zob E 4), Value.int i].toArray s 0 0 (zA E s.heap.size)) 2 [some (.ref (zob E 4)), some (.int (i)), some (.int (nI j))] [] μ ov := by
    intro f
    induction f with
    | zero =>
      intro j hj hi
      refine z_iloadn (i := 2) (pc := 2) C dX3_areClosedAbove_2 rfl rfl ?_
      refine z_aloadn (i := 0) (pc := 3) C dX3_areClosedAbove_3 rfl rfl ?_
      refine zg_X3_count (pc := 4) C dX3_areClosedAbove_4 iX3 f30 ?_
      refine z_icmp_ge (tgt := 54) (pc := 7) C dX3_areClosedAbove_7 (by decide) (fun c_l => ?_) (fun c_l => ?_)
      · refine z_iconst (v := 1) (pc := 54) C dX3_areClosedAbove_54 (by decide) ?_
        exact z_zret (pc := 55) C hr hlk (by decide) ⟨(zb_t (by rw [← show j = c9 by omega]; exact hi)).symm, rfl, rfl⟩ (Nat.zero_le _) (Nat.zero_le _) dX3_areClosedAbove_55
      · exact absurd (by rw [h7]; exact nI_le (by omega) (by omega)) c_l
    | succ f ih =>
      intro j hj hi
      have go : (μ 14 j = i → zabs (μ 19 j - 1000 * ztoff μ j) ≤ μ 63 8) → zW p l e (zR 1 24 0 0) s m [Value.ref (zob E 4), Value.int i].toArray below meth c E 3 0 0 (MQ below (zQi E s.heap.size (fun r μ1 ov1 => r = zb (zclA μ c9 i) ∧ μ1 = μ ∧ ov1 = ov)) [Value.ref (zob E 4), Value.int i].toArray s 0 0 (zA E s.heap.size)) 48 [some (.ref (zob E 4)), some (.int (i)), some (.int (nI j))] [] μ ov := by
        intro hq
        refine z_iinc2 (v := 1) (pc := 48) C (by decide) (by decide) (fun w hw => by cases hw; exact (show ¬ (1 = 2) from by decide)) dX3_areClosedAbove_48 ?_
        rw [nI_1]
        refine z_goto (tgt := 2) (pc := 51) C dX3_areClosedAbove_51 (by decide) ?_
        exact ih (j + 1) (by omega) (fun q hq1 => by rcases Nat.lt_or_eq_of_le (Nat.le_of_lt_succ hq1) with z | z; exact hi q z; subst z; exact hq)
      refine z_iloadn (i := 2) (pc := 2) C dX3_areClosedAbove_2 rfl rfl ?_
      refine z_aloadn (i := 0) (pc := 3) C dX3_areClosedAbove_3 rfl rfl ?_
      refine zg_X3_count (pc := 4) C dX3_areClosedAbove_4 iX3 f30 ?_
      refine z_icmp_ge (tgt := 54) (pc := 7) C dX3_areClosedAbove_7 (by decide) (fun c_l => ?_) (fun c_l => ?_)
      · exact absurd c_l (by rw [h7]; exact nI_ge (by omega) (by omega))
      · refine z_aloadn (i := 0) (pc := 10) C dX3_areClosedAbove_10 rfl rfl ?_
        refine zg_X3_lowest (pc := 11) C dX3_areClosedAbove_11 iX3 f9 ?_
        refine z_iloadn (i := 2) (pc := 14) C dX3_areClosedAbove_14 rfl rfl ?_
        refine z_iald (pc := 15) C 14 j (by decide) rfl rfl (show j < 56 from by omega) dX3_areClosedAbove_15 ?_
        refine z_iloadn (i := 1) (pc := 16) C dX3_areClosedAbove_16 rfl rfl ?_
        refine z_icmp_ne (tgt := 48) (pc := 17) C dX3_areClosedAbove_17 (by decide) (fun c_1 => ?_) (fun c_1 => ?_)
        · exact go (fun h => absurd h c_1)
        · refine z_aloadn (i := 0) (pc := 20) C dX3_areClosedAbove_20 rfl rfl ?_
          refine zg_X3_sums (pc := 21) C dX3_areClosedAbove_21 iX3 f27 ?_
          refine z_iloadn (i := 2) (pc := 24) C dX3_areClosedAbove_24 rfl rfl ?_
          refine z_iald (pc := 25) C 19 j (by decide) rfl rfl (show j < 56 from by omega) dX3_areClosedAbove_25 ?_
          refine z_sipush (v := 1000) (pc := 26) C dX3_areClosedAbove_26 (by decide) ?_
          refine z_aloadn (i := 0) (pc := 29) C dX3_areClosedAbove_29 rfl rfl ?_
          refine z_iloadn (i := 2) (pc := 30) C dX3_areClosedAbove_30 rfl rfl ?_
          refine z_callVi (pc := 31) (n := 1) (As := [.int (nI j)]) (rest := [.int (1000), .int (μ 19 j)]) C (c_X3_takenOff l E sa c9 j rfl (by omega) H) gX3_areClosedAbove_X3_takenOff rfl zfV_X3_takenOff ⟨Nat.le_of_ble_eq_true rfl, Nat.le_of_ble_eq_true rfl⟩ rfl (zRec_X3 E) rfl (Nat.le_of_ble_eq_true rfl) ⟨Nat.zero_le _, Nat.zero_le _⟩ dX3_areClosedAbove_31 (fun r9 μ9 ov9 hp => ?_)
          have e1 := hp.1.symm
          have e2 := hp.2.1.symm
          have e3 := hp.2.2.symm
          clear hp
          subst e1 e2 e3
          refine z_imul (pc := 34) C dX3_areClosedAbove_34 ?_
          refine z_isub (pc := 35) C dX3_areClosedAbove_35 ?_
          refine z_mabs (pc := 36) C (C.1.2.2.2.2 (.methodLink RX3 79 Lib.Math.abs.name) (by decide +kernel)) (C.1.2.2.2.2 (.static Lib.Math.abs.name) (by decide +kernel)) (C.1.2.2.2.2 (.initialized "java/lang/Math") (by decide +kernel)) (C.1.2.2.2.2 (.code Lib.Math.abs.name Lib.Math.abs.code 1 (some .int)) (by decide +kernel)) (Nat.le_of_ble_eq_true rfl) (Nat.le_of_ble_eq_true rfl) (Nat.zero_le _) (Nat.zero_le _) dX3_areClosedAbove_36 ?_
          refine z_aloadn (i := 0) (pc := 39) C dX3_areClosedAbove_39 rfl rfl ?_
          refine zg_X3_doubt (pc := 40) C dX3_areClosedAbove_40 iX3 f41 ?_
          refine z_icmp_le (tgt := 48) (pc := 43) C dX3_areClosedAbove_43 (by decide) (fun c_2 => ?_) (fun c_2 => ?_)
          · exact go (fun _ => c_2)
          · refine z_iconst (v := 0) (pc := 46) C dX3_areClosedAbove_46 (by decide) ?_
            exact z_zret (pc := 47) C hr hlk (by decide) ⟨(zb_f (fun h => c_2 (h j (by omega) c_1))).symm, rfl, rfl⟩ (Nat.zero_le _) (Nat.zero_le _) dX3_areClosedAbove_47
  exact loop c9 0 (by omega) (fun q hq => absurd hq (Nat.not_lt_zero q))
set_option maxHeartbeats 4000000 in
set_option maxRecDepth 100000 in
theorem c_X3_tryFrom_0 (l : Launch) (E : zE) (sa : Nat → Nat) {μ : zM} {ov : Nat → Int64} {i1 num sl : Int32} (c9 : Nat) (h1 : i1 = -1) (H : zH c9 μ) : zMv l E sa yX3_tryFrom wsX3_tryFrom 3 120 0 0 [.ref (zob E 4), .int i1, .int num, .int sl] μ ov (fun μ1 ov1 => μ1 = zdfs c9 0 μ num sl ∧ ov1 = ov) := by
  refine z_ofMv (cc := cX3_tryFrom) (nL := 6) (ret := none) (own := RX3) zfp_X3_tryFrom rfl (by simp [Value.category]) (Nat.le_of_ble_eq_true rfl) rfl ?_
  intro p e s m below meth c C hr hlk
  have iX3 : ∀ w ∈ wsX30, w ∈ wsX3_tryFrom := by decide +kernel
  have f34 := C.1.2.2.2.2 (.fieldLink RX3 34 "TickFall$Rings" "isInRing" "[Z") (by decide +kernel)
  have f38 := C.1.2.2.2.2 (.fieldLink RX3 38 "TickFall$Rings" "taken" "[I") (by decide +kernel)
  have f44 := C.1.2.2.2.2 (.fieldLink RX3 44 "TickFall$Rings" "fewest" "I") (by decide +kernel)
  have f47 := C.1.2.2.2.2 (.fieldLink RX3 47 "TickFall$Rings" "found" "I") (by decide +kernel)
  show zW p l e (zR 3 120 0 0) s m [Value.ref (zob E 4), Value.int i1, Value.int num, Value.int sl].toArray below meth c E 6 0 0 (MQ below (zQv E s.heap.size (fun μ1 ov1 => μ1 = zdfs c9 0 μ num sl ∧ ov1 = ov)) [Value.ref (zob E 4), Value.int i1, Value.int num, Value.int sl].toArray s 0 0 (zA E s.heap.size)) 0 [some (.ref (zob E 4)), some (.int (i1)), some (.int (num)), some (.int (sl)), none, none] [] μ ov
  refine z_iloadn (i := 3) (pc := 0) C dX3_tryFrom_0 rfl rfl ?_
  refine z_aloadn (i := 0) (pc := 1) C dX3_tryFrom_1 rfl rfl ?_
  refine zg_X3_fewest (pc := 2) C dX3_tryFrom_2 iX3 f44 ?_
  refine z_icmp_lt (tgt := 9) (pc := 5) C dX3_tryFrom_5 (by decide) (fun c_0 => ?_) (fun c_0 => ?_)
  · refine z_iloadn (i := 1) (pc := 9) C dX3_tryFrom_9 rfl rfl ?_
    refine z_if_ge (tgt := 24) (pc := 10) C dX3_tryFrom_10 (by decide) (fun c_1 => ?_) (fun c_1 => ?_)
    · exact absurd c_1 (by rw [h1]; decide)
    · refine z_aloadn (i := 0) (pc := 13) C dX3_tryFrom_13 rfl rfl ?_
      refine z_iloadn (i := 3) (pc := 14) C dX3_tryFrom_14 rfl rfl ?_
      refine zp_X3_fewest (pc := 15) C dX3_tryFrom_15 iX3 f44 ?_
      refine z_aloadn (i := 0) (pc := 18) C dX3_tryFrom_18 rfl rfl ?_
      refine z_iloadn (i := 2) (pc := 19) C dX3_tryFrom_19 rfl rfl ?_
      refine zp_X3_found (pc := 20) C dX3_tryFrom_20 iX3 f47 ?_
      exact z_vret (pc := 23) C hr hlk ⟨(if_pos c_0).symm, rfl⟩ (Nat.zero_le _) (Nat.zero_le _) dX3_tryFrom_23
  · exact z_vret (pc := 8) C hr hlk ⟨(if_neg c_0).symm, rfl⟩ (Nat.zero_le _) (Nat.zero_le _) dX3_tryFrom_8
set_option maxHeartbeats 4000000 in
set_option maxRecDepth 100000 in
theorem c_X3_tryFrom_1 (l : Launch) (E : zE) (sa : Nat → Nat) {μ : zM} {ov : Nat → Int64} {i1 num sl : Int32} (c9 : Nat) (h1 : i1 = nI 0) (H : zH c9 μ) : zMv l E sa yX3_tryFrom wsX3_tryFrom 4 146 0 0 [.ref (zob E 4), .int i1, .int num, .int sl] μ ov (fun μ1 ov1 => μ1 = zdfs c9 1 μ num sl ∧ ov1 = ov) := by
  refine z_ofMv (cc := cX3_tryFrom) (nL := 6) (ret := none) (own := RX3) zfp_X3_tryFrom rfl (by simp [Value.category]) (Nat.le_of_ble_eq_true rfl) rfl ?_
  intro p e s m below meth c C hr hlk
  have iX3 : ∀ w ∈ wsX30, w ∈ wsX3_tryFrom := by decide +kernel
  have f34 := C.1.2.2.2.2 (.fieldLink RX3 34 "TickFall$Rings" "isInRing" "[Z") (by decide +kernel)
  have f38 := C.1.2.2.2.2 (.fieldLink RX3 38 "TickFall$Rings" "taken" "[I") (by decide +kernel)
  have f44 := C.1.2.2.2.2 (.fieldLink RX3 44 "TickFall$Rings" "fewest" "I") (by decide +kernel)
  have f47 := C.1.2.2.2.2 (.fieldLink RX3 47 "TickFall$Rings" "found" "I") (by decide +kernel)
  show zW p l e (zR 4 146 0 0) s m [Value.ref (zob E 4), Value.int i1, Value.int num, Value.int sl].toArray below meth c E 6 0 0 (MQ below (zQv E s.heap.size (fun μ1 ov1 => μ1 = zdfs c9 1 μ num sl ∧ ov1 = ov)) [Value.ref (zob E 4), Value.int i1, Value.int num, Value.int sl].toArray s 0 0 (zA E s.heap.size)) 0 [some (.ref (zob E 4)), some (.int (i1)), some (.int (num)), some (.int (sl)), none, none] [] μ ov
  refine z_iloadn (i := 3) (pc := 0) C dX3_tryFrom_0 rfl rfl ?_
  refine z_aloadn (i := 0) (pc := 1) C dX3_tryFrom_1 rfl rfl ?_
  refine zg_X3_fewest (pc := 2) C dX3_tryFrom_2 iX3 f44 ?_
  refine z_icmp_lt (tgt := 9) (pc := 5) C dX3_tryFrom_5 (by decide) (fun c_0 => ?_) (fun c_0 => ?_)
  · refine z_iloadn (i := 1) (pc := 9) C dX3_tryFrom_9 rfl rfl ?_
    refine z_if_ge (tgt := 24) (pc := 10) C dX3_tryFrom_10 (by decide) (fun c_1 => ?_) (fun c_1 => ?_)
    · have body : ∀ (w : zM) (mo cyc : Int32), zH c9 w → cyc ≤ mo → zW p l e (zR 4 146 0 0) s m [Value.ref (zob E 4), Value.int i1, Value.int num, Value.int sl].toArray below meth c E 6 0 0 (MQ below (zQv E s.heap.size (fun μ1 ov1 => μ1 = zdfs c9 1 μ num sl ∧ ov1 = ov)) [Value.ref (zob E 4), Value.int i1, Value.int num, Value.int sl].toArray s 0 0 (zA E s.heap.size)) 90 [some (.ref (zob E 4)), some (.int (i1)), some (.int (num)), some (.int (sl)), some (.int (mo)), some (.int (cyc))] [] (zone (zdfs c9 0) c9 0 num sl (cyc) w) ov → zW p l e (zR 4 146 0 0) s m [Value.ref (zob E 4), Value.int i1, Value.int num, Value.int sl].toArray below meth c E 6 0 0 (MQ below (zQv E s.heap.size (fun μ1 ov1 => μ1 = zdfs c9 1 μ num sl ∧ ov1 = ov)) [Value.ref (zob E 4), Value.int i1, Value.int num, Value.int sl].toArray s 0 0 (zA E s.heap.size)) 45 [some (.ref (zob E 4)), some (.int (i1)), some (.int (num)), some (.int (sl)), some (.int (mo)), some (.int (cyc))] [] w ov := by
        intro w mo cyc hw hcm K
        refine z_iload (i := 5) (pc := 45) C dX3_tryFrom_45 rfl ?_
        refine z_iload (i := 4) (pc := 47) C dX3_tryFrom_47 rfl ?_
        refine z_icmp_gt (tgt := 96) (pc := 49) C dX3_tryFrom_49 (by decide) (fun c_l => ?_) (fun c_l => ?_)
        · exact absurd c_l (by rw [zlt]; rw [zle2] at hcm; omega)
        · refine z_aloadn (i := 0) (pc := 52) C dX3_tryFrom_52 rfl rfl ?_
          refine zg_X3_taken (pc := 53) C dX3_tryFrom_53 iX3 f38 ?_
          refine z_iloadn (i := 1) (pc := 56) C dX3_tryFrom_56 rfl rfl ?_
          refine z_iload (i := 5) (pc := 57) C dX3_tryFrom_57 rfl ?_
          refine z_iast (pc := 59) C 21 0 (by decide) rfl h1 (by decide) dX3_tryFrom_59 ?_
          refine z_aloadn (i := 0) (pc := 60) C dX3_tryFrom_60 rfl rfl ?_
          refine z_iloadn (i := 1) (pc := 61) C dX3_tryFrom_61 rfl rfl ?_
          refine z_callVi (pc := 62) (n := 1) (As := [.int (i1)]) (rest := []) C (c_X3_areClosedAbove l E sa (μ := zu w 21 0 cyc) (i := i1) c9 (hw.t21 0 cyc)) gX3_tryFrom_X3_areClosedAbove rfl zfV_X3_areClosedAbove ⟨Nat.le_of_ble_eq_true rfl, Nat.le_of_ble_eq_true rfl⟩ rfl (zRec_X3 E) rfl (Nat.le_of_ble_eq_true rfl) ⟨Nat.zero_le _, Nat.zero_le _⟩ dX3_tryFrom_62 (fun r9 μ9 ov9 hp => ?_)
          have e1 := hp.1.symm
          have e2 := hp.2.1.symm
          have e3 := hp.2.2.symm
          clear hp
          subst e1 e2 e3
          refine z_if_eq (tgt := 90) (pc := 65) C dX3_tryFrom_65 (by decide) (fun c_1 => ?_) (fun c_1 => ?_)
          · rw [zb_eq0, h1] at c_1
            refine z_mem (μ' := (zone (zdfs c9 0) c9 0 num sl (cyc) w)) (by rw [zone, if_neg c_1]) ?_
            exact K
          · rw [zb_ne0, h1] at c_1
            refine z_aloadn (i := 0) (pc := 68) C dX3_tryFrom_68 rfl rfl ?_
            refine z_iloadn (i := 1) (pc := 69) C dX3_tryFrom_69 rfl rfl ?_
            refine z_iconst (v := 1) (pc := 70) C dX3_tryFrom_70 (by decide) ?_
            refine z_isub (pc := 71) C dX3_tryFrom_71 ?_
            refine z_iloadn (i := 2) (pc := 72) C dX3_tryFrom_72 rfl rfl ?_
            refine z_iconst (v := 3) (pc := 73) C dX3_tryFrom_73 (by decide) ?_
            refine z_imul (pc := 74) C dX3_tryFrom_74 ?_
            refine z_iconst (v := 1) (pc := 75) C dX3_tryFrom_75 (by decide) ?_
            refine z_iadd (pc := 76) C dX3_tryFrom_76 ?_
            refine z_iload (i := 5) (pc := 77) C dX3_tryFrom_77 rfl ?_
            refine z_iadd (pc := 79) C dX3_tryFrom_79 ?_
            refine z_iloadn (i := 3) (pc := 80) C dX3_tryFrom_80 rfl rfl ?_
            refine z_iload (i := 5) (pc := 81) C dX3_tryFrom_81 rfl ?_
            refine z_mabs (pc := 83) C (C.1.2.2.2.2 (.methodLink RX3 79 Lib.Math.abs.name) (by decide +kernel)) (C.1.2.2.2.2 (.static Lib.Math.abs.name) (by decide +kernel)) (C.1.2.2.2.2 (.initialized "java/lang/Math") (by decide +kernel)) (C.1.2.2.2.2 (.code Lib.Math.abs.name Lib.Math.abs.code 1 (some .int)) (by decide +kernel)) (Nat.le_of_ble_eq_true rfl) (Nat.le_of_ble_eq_true rfl) (Nat.zero_le _) (Nat.zero_le _) dX3_tryFrom_83 ?_
            refine z_iadd (pc := 86) C dX3_tryFrom_86 ?_
            refine z_callSv (pc := 87) (n := 4) (As := [.ref (zob E 4), .int (i1 - 1), .int (((num * 3) + 1) + cyc), .int (sl + (if 0 ≤ cyc then cyc else 0 - cyc))]) (rest := []) C (c_X3_tryFrom_0 l E sa (μ := zu w 21 0 cyc) c9 (by rw [h1]; rfl) (hw.t21 0 cyc)) gX3_tryFrom_X3_tryFrom rfl zfV_X3_tryFrom.2 ⟨Nat.le_of_ble_eq_true rfl, Nat.le_of_ble_eq_true rfl⟩ rfl rfl (Nat.le_of_ble_eq_true rfl) ⟨Nat.zero_le _, Nat.zero_le _⟩ dX3_tryFrom_87 (fun μ9 ov9 hp => ?_)
            have e2 := hp.1.symm
            have e3 := hp.2.symm
            clear hp
            subst e2 e3
            refine z_mem (μ' := (zone (zdfs c9 0) c9 0 num sl (cyc) w)) (by rw [zone, if_pos c_1]; rfl) ?_
            exact K
      refine z_aloadn (i := 0) (pc := 24) C dX3_tryFrom_24 rfl rfl ?_
      refine zg_X3_isInRing (pc := 25) C dX3_tryFrom_25 iX3 f34 ?_
      refine z_iloadn (i := 1) (pc := 28) C dX3_tryFrom_28 rfl rfl ?_
      refine z_bald (pc := 29) C 20 0 (by decide) rfl h1 (by decide) dX3_tryFrom_29 ?_
      refine z_if_eq (tgt := 37) (pc := 30) C dX3_tryFrom_30 (by decide) (fun c_2 => ?_) (fun c_2 => ?_)
      · refine z_iconst (v := 0) (pc := 37) C dX3_tryFrom_37 (by decide) ?_
        refine z_istore4 (pc := 38) C (by decide) (fun w hw => by cases hw; exact (show ¬ (1 = 2) from by decide)) dX3_tryFrom_38 ?_
        refine z_iload (i := 4) (pc := 40) C dX3_tryFrom_40 rfl ?_
        refine z_ineg (pc := 42) C dX3_tryFrom_42 ?_
        refine z_istore5 (pc := 43) C (by decide) (fun w hw => by cases hw; exact (show ¬ (1 = 2) from by decide)) dX3_tryFrom_43 ?_
        rw [show (-(0 : Int32)) = 0 from by decide]
        refine body μ (0) (0) H (by decide) ?_
        refine z_iinc5 (v := 1) (pc := 90) C (by decide) (by decide) (fun w hw => by cases hw; exact (show ¬ (1 = 2) from by decide)) dX3_tryFrom_90 ?_
        rw [show (0 : Int32) + 1 = 1 from by decide]
        refine z_goto (tgt := 45) (pc := 93) C dX3_tryFrom_93 (by decide) ?_
        refine z_iload (i := 5) (pc := 45) C dX3_tryFrom_45 rfl ?_
        refine z_iload (i := 4) (pc := 47) C dX3_tryFrom_47 rfl ?_
        refine z_icmp_gt (tgt := 96) (pc := 49) C dX3_tryFrom_49 (by decide) (fun c_l => ?_) (fun c_l => ?_)
        · exact z_vret (pc := 96) C hr hlk ⟨by rw [zdfs, if_pos c_0, if_pos c_2], rfl⟩ (Nat.zero_le _) (Nat.zero_le _) dX3_tryFrom_96
        · exact absurd (by decide) c_l
      · refine z_iconst (v := 1) (pc := 33) C dX3_tryFrom_33 (by decide) ?_
        refine z_goto (tgt := 38) (pc := 34) C dX3_tryFrom_34 (by decide) ?_
        refine z_istore4 (pc := 38) C (by decide) (fun w hw => by cases hw; exact (show ¬ (1 = 2) from by decide)) dX3_tryFrom_38 ?_
        refine z_iload (i := 4) (pc := 40) C dX3_tryFrom_40 rfl ?_
        refine z_ineg (pc := 42) C dX3_tryFrom_42 ?_
        refine z_istore5 (pc := 43) C (by decide) (fun w hw => by cases hw; exact (show ¬ (1 = 2) from by decide)) dX3_tryFrom_43 ?_
        refine body μ (1) (-1) H (by decide) ?_
        refine z_iinc5 (v := 1) (pc := 90) C (by decide) (by decide) (fun w hw => by cases hw; exact (show ¬ (1 = 2) from by decide)) dX3_tryFrom_90 ?_
        rw [show (-1 : Int32) + 1 = 0 from by decide]
        refine z_goto (tgt := 45) (pc := 93) C dX3_tryFrom_93 (by decide) ?_
        refine body (zone (zdfs c9 0) c9 0 num sl (-1) μ) (1) (0) (by refine zone_H (fun ν a b hν => zdfs_H c9 _ ν a b hν) ?_; exact H) (by decide) ?_
        refine z_iinc5 (v := 1) (pc := 90) C (by decide) (by decide) (fun w hw => by cases hw; exact (show ¬ (1 = 2) from by decide)) dX3_tryFrom_90 ?_
        rw [show (0 : Int32) + 1 = 1 from by decide]
        refine z_goto (tgt := 45) (pc := 93) C dX3_tryFrom_93 (by decide) ?_
        refine body (zone (zdfs c9 0) c9 0 num sl (0) (zone (zdfs c9 0) c9 0 num sl (-1) μ)) (1) (1) (by refine zone_H (fun ν a b hν => zdfs_H c9 _ ν a b hν) ?_; refine zone_H (fun ν a b hν => zdfs_H c9 _ ν a b hν) ?_; exact H) (by decide) ?_
        refine z_iinc5 (v := 1) (pc := 90) C (by decide) (by decide) (fun w hw => by cases hw; exact (show ¬ (1 = 2) from by decide)) dX3_tryFrom_90 ?_
        rw [show (1 : Int32) + 1 = 2 from by decide]
        refine z_goto (tgt := 45) (pc := 93) C dX3_tryFrom_93 (by decide) ?_
        refine z_iload (i := 5) (pc := 45) C dX3_tryFrom_45 rfl ?_
        refine z_iload (i := 4) (pc := 47) C dX3_tryFrom_47 rfl ?_
        refine z_icmp_gt (tgt := 96) (pc := 49) C dX3_tryFrom_49 (by decide) (fun c_l => ?_) (fun c_l => ?_)
        · exact z_vret (pc := 96) C hr hlk ⟨by rw [zdfs, if_pos c_0, if_neg c_2], rfl⟩ (Nat.zero_le _) (Nat.zero_le _) dX3_tryFrom_96
        · exact absurd (by decide) c_l
    · exact absurd (by rw [h1]; decide) c_1
  · exact z_vret (pc := 8) C hr hlk ⟨by rw [zdfs, if_neg c_0], rfl⟩ (Nat.zero_le _) (Nat.zero_le _) dX3_tryFrom_8
set_option maxHeartbeats 4000000 in
set_option maxRecDepth 100000 in
theorem c_X3_tryFrom_2 (l : Launch) (E : zE) (sa : Nat → Nat) {μ : zM} {ov : Nat → Int64} {i1 num sl : Int32} (c9 : Nat) (h1 : i1 = nI 1) (H : zH c9 μ) : zMv l E sa yX3_tryFrom wsX3_tryFrom 5 172 0 0 [.ref (zob E 4), .int i1, .int num, .int sl] μ ov (fun μ1 ov1 => μ1 = zdfs c9 2 μ num sl ∧ ov1 = ov) := by
  refine z_ofMv (cc := cX3_tryFrom) (nL := 6) (ret := none) (own := RX3) zfp_X3_tryFrom rfl (by simp [Value.category]) (Nat.le_of_ble_eq_true rfl) rfl ?_
  intro p e s m below meth c C hr hlk
  have iX3 : ∀ w ∈ wsX30, w ∈ wsX3_tryFrom := by decide +kernel
  have f34 := C.1.2.2.2.2 (.fieldLink RX3 34 "TickFall$Rings" "isInRing" "[Z") (by decide +kernel)
  have f38 := C.1.2.2.2.2 (.fieldLink RX3 38 "TickFall$Rings" "taken" "[I") (by decide +kernel)
  have f44 := C.1.2.2.2.2 (.fieldLink RX3 44 "TickFall$Rings" "fewest" "I") (by decide +kernel)
  have f47 := C.1.2.2.2.2 (.fieldLink RX3 47 "TickFall$Rings" "found" "I") (by decide +kernel)
  show zW p l e (zR 5 172 0 0) s m [Value.ref (zob E 4), Value.int i1, Value.int num, Value.int sl].toArray below meth c E 6 0 0 (MQ below (zQv E s.heap.size (fun μ1 ov1 => μ1 = zdfs c9 2 μ num sl ∧ ov1 = ov)) [Value.ref (zob E 4), Value.int i1, Value.int num, Value.int sl].toArray s 0 0 (zA E s.heap.size)) 0 [some (.ref (zob E 4)), some (.int (i1)), some (.int (num)), some (.int (sl)), none, none] [] μ ov
  refine z_iloadn (i := 3) (pc := 0) C dX3_tryFrom_0 rfl rfl ?_
  refine z_aloadn (i := 0) (pc := 1) C dX3_tryFrom_1 rfl rfl ?_
  refine zg_X3_fewest (pc := 2) C dX3_tryFrom_2 iX3 f44 ?_
  refine z_icmp_lt (tgt := 9) (pc := 5) C dX3_tryFrom_5 (by decide) (fun c_0 => ?_) (fun c_0 => ?_)
  · refine z_iloadn (i := 1) (pc := 9) C dX3_tryFrom_9 rfl rfl ?_
    refine z_if_ge (tgt := 24) (pc := 10) C dX3_tryFrom_10 (by decide) (fun c_1 => ?_) (fun c_1 => ?_)
    · have body : ∀ (w : zM) (mo cyc : Int32), zH c9 w → cyc ≤ mo → zW p l e (zR 5 172 0 0) s m [Value.ref (zob E 4), Value.int i1, Value.int num, Value.int sl].toArray below meth c E 6 0 0 (MQ below (zQv E s.heap.size (fun μ1 ov1 => μ1 = zdfs c9 2 μ num sl ∧ ov1 = ov)) [Value.ref (zob E 4), Value.int i1, Value.int num, Value.int sl].toArray s 0 0 (zA E s.heap.size)) 90 [some (.ref (zob E 4)), some (.int (i1)), some (.int (num)), some (.int (sl)), some (.int (mo)), some (.int (cyc))] [] (zone (zdfs c9 1) c9 1 num sl (cyc) w) ov → zW p l e (zR 5 172 0 0) s m [Value.ref (zob E 4), Value.int i1, Value.int num, Value.int sl].toArray below meth c E 6 0 0 (MQ below (zQv E s.heap.size (fun μ1 ov1 => μ1 = zdfs c9 2 μ num sl ∧ ov1 = ov)) [Value.ref (zob E 4), Value.int i1, Value.int num, Value.int sl].toArray s 0 0 (zA E s.heap.size)) 45 [some (.ref (zob E 4)), some (.int (i1)), some (.int (num)), some (.int (sl)), some (.int (mo)), some (.int (cyc))] [] w ov := by
        intro w mo cyc hw hcm K
        refine z_iload (i := 5) (pc := 45) C dX3_tryFrom_45 rfl ?_
        refine z_iload (i := 4) (pc := 47) C dX3_tryFrom_47 rfl ?_
        refine z_icmp_gt (tgt := 96) (pc := 49) C dX3_tryFrom_49 (by decide) (fun c_l => ?_) (fun c_l => ?_)
        · exact absurd c_l (by rw [zlt]; rw [zle2] at hcm; omega)
        · refine z_aloadn (i := 0) (pc := 52) C dX3_tryFrom_52 rfl rfl ?_
          refine zg_X3_taken (pc := 53) C dX3_tryFrom_53 iX3 f38 ?_
          refine z_iloadn (i := 1) (pc := 56) C dX3_tryFrom_56 rfl rfl ?_
          refine z_iload (i := 5) (pc := 57) C dX3_tryFrom_57 rfl ?_
          refine z_iast (pc := 59) C 21 1 (by decide) rfl h1 (by decide) dX3_tryFrom_59 ?_
          refine z_aloadn (i := 0) (pc := 60) C dX3_tryFrom_60 rfl rfl ?_
          refine z_iloadn (i := 1) (pc := 61) C dX3_tryFrom_61 rfl rfl ?_
          refine z_callVi (pc := 62) (n := 1) (As := [.int (i1)]) (rest := []) C (c_X3_areClosedAbove l E sa (μ := zu w 21 1 cyc) (i := i1) c9 (hw.t21 1 cyc)) gX3_tryFrom_X3_areClosedAbove rfl zfV_X3_areClosedAbove ⟨Nat.le_of_ble_eq_true rfl, Nat.le_of_ble_eq_true rfl⟩ rfl (zRec_X3 E) rfl (Nat.le_of_ble_eq_true rfl) ⟨Nat.zero_le _, Nat.zero_le _⟩ dX3_tryFrom_62 (fun r9 μ9 ov9 hp => ?_)
          have e1 := hp.1.symm
          have e2 := hp.2.1.symm
          have e3 := hp.2.2.symm
          clear hp
          subst e1 e2 e3
          refine z_if_eq (tgt := 90) (pc := 65) C dX3_tryFrom_65 (by decide) (fun c_1 => ?_) (fun c_1 => ?_)
          · rw [zb_eq0, h1] at c_1
            refine z_mem (μ' := (zone (zdfs c9 1) c9 1 num sl (cyc) w)) (by rw [zone, if_neg c_1]) ?_
            exact K
          · rw [zb_ne0, h1] at c_1
            refine z_aloadn (i := 0) (pc := 68) C dX3_tryFrom_68 rfl rfl ?_
            refine z_iloadn (i := 1) (pc := 69) C dX3_tryFrom_69 rfl rfl ?_
            refine z_iconst (v := 1) (pc := 70) C dX3_tryFrom_70 (by decide) ?_
            refine z_isub (pc := 71) C dX3_tryFrom_71 ?_
            refine z_iloadn (i := 2) (pc := 72) C dX3_tryFrom_72 rfl rfl ?_
            refine z_iconst (v := 3) (pc := 73) C dX3_tryFrom_73 (by decide) ?_
            refine z_imul (pc := 74) C dX3_tryFrom_74 ?_
            refine z_iconst (v := 1) (pc := 75) C dX3_tryFrom_75 (by decide) ?_
            refine z_iadd (pc := 76) C dX3_tryFrom_76 ?_
            refine z_iload (i := 5) (pc := 77) C dX3_tryFrom_77 rfl ?_
            refine z_iadd (pc := 79) C dX3_tryFrom_79 ?_
            refine z_iloadn (i := 3) (pc := 80) C dX3_tryFrom_80 rfl rfl ?_
            refine z_iload (i := 5) (pc := 81) C dX3_tryFrom_81 rfl ?_
            refine z_mabs (pc := 83) C (C.1.2.2.2.2 (.methodLink RX3 79 Lib.Math.abs.name) (by decide +kernel)) (C.1.2.2.2.2 (.static Lib.Math.abs.name) (by decide +kernel)) (C.1.2.2.2.2 (.initialized "java/lang/Math") (by decide +kernel)) (C.1.2.2.2.2 (.code Lib.Math.abs.name Lib.Math.abs.code 1 (some .int)) (by decide +kernel)) (Nat.le_of_ble_eq_true rfl) (Nat.le_of_ble_eq_true rfl) (Nat.zero_le _) (Nat.zero_le _) dX3_tryFrom_83 ?_
            refine z_iadd (pc := 86) C dX3_tryFrom_86 ?_
            refine z_callSv (pc := 87) (n := 4) (As := [.ref (zob E 4), .int (i1 - 1), .int (((num * 3) + 1) + cyc), .int (sl + (if 0 ≤ cyc then cyc else 0 - cyc))]) (rest := []) C (c_X3_tryFrom_1 l E sa (μ := zu w 21 1 cyc) c9 (by rw [h1]; rfl) (hw.t21 1 cyc)) gX3_tryFrom_X3_tryFrom rfl zfV_X3_tryFrom.2 ⟨Nat.le_of_ble_eq_true rfl, Nat.le_of_ble_eq_true rfl⟩ rfl rfl (Nat.le_of_ble_eq_true rfl) ⟨Nat.zero_le _, Nat.zero_le _⟩ dX3_tryFrom_87 (fun μ9 ov9 hp => ?_)
            have e2 := hp.1.symm
            have e3 := hp.2.symm
            clear hp
            subst e2 e3
            refine z_mem (μ' := (zone (zdfs c9 1) c9 1 num sl (cyc) w)) (by rw [zone, if_pos c_1]; rfl) ?_
            exact K
      refine z_aloadn (i := 0) (pc := 24) C dX3_tryFrom_24 rfl rfl ?_
      refine zg_X3_isInRing (pc := 25) C dX3_tryFrom_25 iX3 f34 ?_
      refine z_iloadn (i := 1) (pc := 28) C dX3_tryFrom_28 rfl rfl ?_
      refine z_bald (pc := 29) C 20 1 (by decide) rfl h1 (by decide) dX3_tryFrom_29 ?_
      refine z_if_eq (tgt := 37) (pc := 30) C dX3_tryFrom_30 (by decide) (fun c_2 => ?_) (fun c_2 => ?_)
      · refine z_iconst (v := 0) (pc := 37) C dX3_tryFrom_37 (by decide) ?_
        refine z_istore4 (pc := 38) C (by decide) (fun w hw => by cases hw; exact (show ¬ (1 = 2) from by decide)) dX3_tryFrom_38 ?_
        refine z_iload (i := 4) (pc := 40) C dX3_tryFrom_40 rfl ?_
        refine z_ineg (pc := 42) C dX3_tryFrom_42 ?_
        refine z_istore5 (pc := 43) C (by decide) (fun w hw => by cases hw; exact (show ¬ (1 = 2) from by decide)) dX3_tryFrom_43 ?_
        rw [show (-(0 : Int32)) = 0 from by decide]
        refine body μ (0) (0) H (by decide) ?_
        refine z_iinc5 (v := 1) (pc := 90) C (by decide) (by decide) (fun w hw => by cases hw; exact (show ¬ (1 = 2) from by decide)) dX3_tryFrom_90 ?_
        rw [show (0 : Int32) + 1 = 1 from by decide]
        refine z_goto (tgt := 45) (pc := 93) C dX3_tryFrom_93 (by decide) ?_
        refine z_iload (i := 5) (pc := 45) C dX3_tryFrom_45 rfl ?_
        refine z_iload (i := 4) (pc := 47) C dX3_tryFrom_47 rfl ?_
        refine z_icmp_gt (tgt := 96) (pc := 49) C dX3_tryFrom_49 (by decide) (fun c_l => ?_) (fun c_l => ?_)
        · exact z_vret (pc := 96) C hr hlk ⟨by rw [zdfs, if_pos c_0, if_pos c_2], rfl⟩ (Nat.zero_le _) (Nat.zero_le _) dX3_tryFrom_96
        · exact absurd (by decide) c_l
      · refine z_iconst (v := 1) (pc := 33) C dX3_tryFrom_33 (by decide) ?_
        refine z_goto (tgt := 38) (pc := 34) C dX3_tryFrom_34 (by decide) ?_
        refine z_istore4 (pc := 38) C (by decide) (fun w hw => by cases hw; exact (show ¬ (1 = 2) from by decide)) dX3_tryFrom_38 ?_
        refine z_iload (i := 4) (pc := 40) C dX3_tryFrom_40 rfl ?_
        refine z_ineg (pc := 42) C dX3_tryFrom_42 ?_
        refine z_istore5 (pc := 43) C (by decide) (fun w hw => by cases hw; exact (show ¬ (1 = 2) from by decide)) dX3_tryFrom_43 ?_
        refine body μ (1) (-1) H (by decide) ?_
        refine z_iinc5 (v := 1) (pc := 90) C (by decide) (by decide) (fun w hw => by cases hw; exact (show ¬ (1 = 2) from by decide)) dX3_tryFrom_90 ?_
        rw [show (-1 : Int32) + 1 = 0 from by decide]
        refine z_goto (tgt := 45) (pc := 93) C dX3_tryFrom_93 (by decide) ?_
        refine body (zone (zdfs c9 1) c9 1 num sl (-1) μ) (1) (0) (by refine zone_H (fun ν a b hν => zdfs_H c9 _ ν a b hν) ?_; exact H) (by decide) ?_
        refine z_iinc5 (v := 1) (pc := 90) C (by decide) (by decide) (fun w hw => by cases hw; exact (show ¬ (1 = 2) from by decide)) dX3_tryFrom_90 ?_
        rw [show (0 : Int32) + 1 = 1 from by decide]
        refine z_goto (tgt := 45) (pc := 93) C dX3_tryFrom_93 (by decide) ?_
        refine body (zone (zdfs c9 1) c9 1 num sl (0) (zone (zdfs c9 1) c9 1 num sl (-1) μ)) (1) (1) (by refine zone_H (fun ν a b hν => zdfs_H c9 _ ν a b hν) ?_; refine zone_H (fun ν a b hν => zdfs_H c9 _ ν a b hν) ?_; exact H) (by decide) ?_
        refine z_iinc5 (v := 1) (pc := 90) C (by decide) (by decide) (fun w hw => by cases hw; exact (show ¬ (1 = 2) from by decide)) dX3_tryFrom_90 ?_
        rw [show (1 : Int32) + 1 = 2 from by decide]
        refine z_goto (tgt := 45) (pc := 93) C dX3_tryFrom_93 (by decide) ?_
        refine z_iload (i := 5) (pc := 45) C dX3_tryFrom_45 rfl ?_
        refine z_iload (i := 4) (pc := 47) C dX3_tryFrom_47 rfl ?_
        refine z_icmp_gt (tgt := 96) (pc := 49) C dX3_tryFrom_49 (by decide) (fun c_l => ?_) (fun c_l => ?_)
        · exact z_vret (pc := 96) C hr hlk ⟨by rw [zdfs, if_pos c_0, if_neg c_2], rfl⟩ (Nat.zero_le _) (Nat.zero_le _) dX3_tryFrom_96
        · exact absurd (by decide) c_l
    · exact absurd (by rw [h1]; decide) c_1
  · exact z_vret (pc := 8) C hr hlk ⟨by rw [zdfs, if_neg c_0], rfl⟩ (Nat.zero_le _) (Nat.zero_le _) dX3_tryFrom_8
set_option maxHeartbeats 4000000 in
set_option maxRecDepth 100000 in
theorem c_X3_tryFrom_3 (l : Launch) (E : zE) (sa : Nat → Nat) {μ : zM} {ov : Nat → Int64} {i1 num sl : Int32} (c9 : Nat) (h1 : i1 = nI 2) (H : zH c9 μ) : zMv l E sa yX3_tryFrom wsX3_tryFrom 6 198 0 0 [.ref (zob E 4), .int i1, .int num, .int sl] μ ov (fun μ1 ov1 => μ1 = zdfs c9 3 μ num sl ∧ ov1 = ov) := by
  refine z_ofMv (cc := cX3_tryFrom) (nL := 6) (ret := none) (own := RX3) zfp_X3_tryFrom rfl (by simp [Value.category]) (Nat.le_of_ble_eq_true rfl) rfl ?_
  intro p e s m below meth c C hr hlk
  have iX3 : ∀ w ∈ wsX30, w ∈ wsX3_tryFrom := by decide +kernel
  have f34 := C.1.2.2.2.2 (.fieldLink RX3 34 "TickFall$Rings" "isInRing" "[Z") (by decide +kernel)
  have f38 := C.1.2.2.2.2 (.fieldLink RX3 38 "TickFall$Rings" "taken" "[I") (by decide +kernel)
  have f44 := C.1.2.2.2.2 (.fieldLink RX3 44 "TickFall$Rings" "fewest" "I") (by decide +kernel)
  have f47 := C.1.2.2.2.2 (.fieldLink RX3 47 "TickFall$Rings" "found" "I") (by decide +kernel)
  show zW p l e (zR 6 198 0 0) s m [Value.ref (zob E 4), Value.int i1, Value.int num, Value.int sl].toArray below meth c E 6 0 0 (MQ below (zQv E s.heap.size (fun μ1 ov1 => μ1 = zdfs c9 3 μ num sl ∧ ov1 = ov)) [Value.ref (zob E 4), Value.int i1, Value.int num, Value.int sl].toArray s 0 0 (zA E s.heap.size)) 0 [some (.ref (zob E 4)), some (.int (i1)), some (.int (num)), some (.int (sl)), none, none] [] μ ov
  refine z_iloadn (i := 3) (pc := 0) C dX3_tryFrom_0 rfl rfl ?_
  refine z_aloadn (i := 0) (pc := 1) C dX3_tryFrom_1 rfl rfl ?_
  refine zg_X3_fewest (pc := 2) C dX3_tryFrom_2 iX3 f44 ?_
  refine z_icmp_lt (tgt := 9) (pc := 5) C dX3_tryFrom_5 (by decide) (fun c_0 => ?_) (fun c_0 => ?_)
  · refine z_iloadn (i := 1) (pc := 9) C dX3_tryFrom_9 rfl rfl ?_
    refine z_if_ge (tgt := 24) (pc := 10) C dX3_tryFrom_10 (by decide) (fun c_1 => ?_) (fun c_1 => ?_)
    · have body : ∀ (w : zM) (mo cyc : Int32), zH c9 w → cyc ≤ mo → zW p l e (zR 6 198 0 0) s m [Value.ref (zob E 4), Value.int i1, Value.int num, Value.int sl].toArray below meth c E 6 0 0 (MQ below (zQv E s.heap.size (fun μ1 ov1 => μ1 = zdfs c9 3 μ num sl ∧ ov1 = ov)) [Value.ref (zob E 4), Value.int i1, Value.int num, Value.int sl].toArray s 0 0 (zA E s.heap.size)) 90 [some (.ref (zob E 4)), some (.int (i1)), some (.int (num)), some (.int (sl)), some (.int (mo)), some (.int (cyc))] [] (zone (zdfs c9 2) c9 2 num sl (cyc) w) ov → zW p l e (zR 6 198 0 0) s m [Value.ref (zob E 4), Value.int i1, Value.int num, Value.int sl].toArray below meth c E 6 0 0 (MQ below (zQv E s.heap.size (fun μ1 ov1 => μ1 = zdfs c9 3 μ num sl ∧ ov1 = ov)) [Value.ref (zob E 4), Value.int i1, Value.int num, Value.int sl].toArray s 0 0 (zA E s.heap.size)) 45 [some (.ref (zob E 4)), some (.int (i1)), some (.int (num)), some (.int (sl)), some (.int (mo)), some (.int (cyc))] [] w ov := by
        intro w mo cyc hw hcm K
        refine z_iload (i := 5) (pc := 45) C dX3_tryFrom_45 rfl ?_
        refine z_iload (i := 4) (pc := 47) C dX3_tryFrom_47 rfl ?_
        refine z_icmp_gt (tgt := 96) (pc := 49) C dX3_tryFrom_49 (by decide) (fun c_l => ?_) (fun c_l => ?_)
        · exact absurd c_l (by rw [zlt]; rw [zle2] at hcm; omega)
        · refine z_aloadn (i := 0) (pc := 52) C dX3_tryFrom_52 rfl rfl ?_
          refine zg_X3_taken (pc := 53) C dX3_tryFrom_53 iX3 f38 ?_
          refine z_iloadn (i := 1) (pc := 56) C dX3_tryFrom_56 rfl rfl ?_
          refine z_iload (i := 5) (pc := 57) C dX3_tryFrom_57 rfl ?_
          refine z_iast (pc := 59) C 21 2 (by decide) rfl h1 (by decide) dX3_tryFrom_59 ?_
          refine z_aloadn (i := 0) (pc := 60) C dX3_tryFrom_60 rfl rfl ?_
          refine z_iloadn (i := 1) (pc := 61) C dX3_tryFrom_61 rfl rfl ?_
          refine z_callVi (pc := 62) (n := 1) (As := [.int (i1)]) (rest := []) C (c_X3_areClosedAbove l E sa (μ := zu w 21 2 cyc) (i := i1) c9 (hw.t21 2 cyc)) gX3_tryFrom_X3_areClosedAbove rfl zfV_X3_areClosedAbove ⟨Nat.le_of_ble_eq_true rfl, Nat.le_of_ble_eq_true rfl⟩ rfl (zRec_X3 E) rfl (Nat.le_of_ble_eq_true rfl) ⟨Nat.zero_le _, Nat.zero_le _⟩ dX3_tryFrom_62 (fun r9 μ9 ov9 hp => ?_)
          have e1 := hp.1.symm
          have e2 := hp.2.1.symm
          have e3 := hp.2.2.symm
          clear hp
          subst e1 e2 e3
          refine z_if_eq (tgt := 90) (pc := 65) C dX3_tryFrom_65 (by decide) (fun c_1 => ?_) (fun c_1 => ?_)
          · rw [zb_eq0, h1] at c_1
            refine z_mem (μ' := (zone (zdfs c9 2) c9 2 num sl (cyc) w)) (by rw [zone, if_neg c_1]) ?_
            exact K
          · rw [zb_ne0, h1] at c_1
            refine z_aloadn (i := 0) (pc := 68) C dX3_tryFrom_68 rfl rfl ?_
            refine z_iloadn (i := 1) (pc := 69) C dX3_tryFrom_69 rfl rfl ?_
            refine z_iconst (v := 1) (pc := 70) C dX3_tryFrom_70 (by decide) ?_
            refine z_isub (pc := 71) C dX3_tryFrom_71 ?_
            refine z_iloadn (i := 2) (pc := 72) C dX3_tryFrom_72 rfl rfl ?_
            refine z_iconst (v := 3) (pc := 73) C dX3_tryFrom_73 (by decide) ?_
            refine z_imul (pc := 74) C dX3_tryFrom_74 ?_
            refine z_iconst (v := 1) (pc := 75) C dX3_tryFrom_75 (by decide) ?_
            refine z_iadd (pc := 76) C dX3_tryFrom_76 ?_
            refine z_iload (i := 5) (pc := 77) C dX3_tryFrom_77 rfl ?_
            refine z_iadd (pc := 79) C dX3_tryFrom_79 ?_
            refine z_iloadn (i := 3) (pc := 80) C dX3_tryFrom_80 rfl rfl ?_
            refine z_iload (i := 5) (pc := 81) C dX3_tryFrom_81 rfl ?_
            refine z_mabs (pc := 83) C (C.1.2.2.2.2 (.methodLink RX3 79 Lib.Math.abs.name) (by decide +kernel)) (C.1.2.2.2.2 (.static Lib.Math.abs.name) (by decide +kernel)) (C.1.2.2.2.2 (.initialized "java/lang/Math") (by decide +kernel)) (C.1.2.2.2.2 (.code Lib.Math.abs.name Lib.Math.abs.code 1 (some .int)) (by decide +kernel)) (Nat.le_of_ble_eq_true rfl) (Nat.le_of_ble_eq_true rfl) (Nat.zero_le _) (Nat.zero_le _) dX3_tryFrom_83 ?_
            refine z_iadd (pc := 86) C dX3_tryFrom_86 ?_
            refine z_callSv (pc := 87) (n := 4) (As := [.ref (zob E 4), .int (i1 - 1), .int (((num * 3) + 1) + cyc), .int (sl + (if 0 ≤ cyc then cyc else 0 - cyc))]) (rest := []) C (c_X3_tryFrom_2 l E sa (μ := zu w 21 2 cyc) c9 (by rw [h1]; rfl) (hw.t21 2 cyc)) gX3_tryFrom_X3_tryFrom rfl zfV_X3_tryFrom.2 ⟨Nat.le_of_ble_eq_true rfl, Nat.le_of_ble_eq_true rfl⟩ rfl rfl (Nat.le_of_ble_eq_true rfl) ⟨Nat.zero_le _, Nat.zero_le _⟩ dX3_tryFrom_87 (fun μ9 ov9 hp => ?_)
            have e2 := hp.1.symm
            have e3 := hp.2.symm
            clear hp
            subst e2 e3
            refine z_mem (μ' := (zone (zdfs c9 2) c9 2 num sl (cyc) w)) (by rw [zone, if_pos c_1]; rfl) ?_
            exact K
      refine z_aloadn (i := 0) (pc := 24) C dX3_tryFrom_24 rfl rfl ?_
      refine zg_X3_isInRing (pc := 25) C dX3_tryFrom_25 iX3 f34 ?_
      refine z_iloadn (i := 1) (pc := 28) C dX3_tryFrom_28 rfl rfl ?_
      refine z_bald (pc := 29) C 20 2 (by decide) rfl h1 (by decide) dX3_tryFrom_29 ?_
      refine z_if_eq (tgt := 37) (pc := 30) C dX3_tryFrom_30 (by decide) (fun c_2 => ?_) (fun c_2 => ?_)
      · refine z_iconst (v := 0) (pc := 37) C dX3_tryFrom_37 (by decide) ?_
        refine z_istore4 (pc := 38) C (by decide) (fun w hw => by cases hw; exact (show ¬ (1 = 2) from by decide)) dX3_tryFrom_38 ?_
        refine z_iload (i := 4) (pc := 40) C dX3_tryFrom_40 rfl ?_
        refine z_ineg (pc := 42) C dX3_tryFrom_42 ?_
        refine z_istore5 (pc := 43) C (by decide) (fun w hw => by cases hw; exact (show ¬ (1 = 2) from by decide)) dX3_tryFrom_43 ?_
        rw [show (-(0 : Int32)) = 0 from by decide]
        refine body μ (0) (0) H (by decide) ?_
        refine z_iinc5 (v := 1) (pc := 90) C (by decide) (by decide) (fun w hw => by cases hw; exact (show ¬ (1 = 2) from by decide)) dX3_tryFrom_90 ?_
        rw [show (0 : Int32) + 1 = 1 from by decide]
        refine z_goto (tgt := 45) (pc := 93) C dX3_tryFrom_93 (by decide) ?_
        refine z_iload (i := 5) (pc := 45) C dX3_tryFrom_45 rfl ?_
        refine z_iload (i := 4) (pc := 47) C dX3_tryFrom_47 rfl ?_
        refine z_icmp_gt (tgt := 96) (pc := 49) C dX3_tryFrom_49 (by decide) (fun c_l => ?_) (fun c_l => ?_)
        · exact z_vret (pc := 96) C hr hlk ⟨by rw [zdfs, if_pos c_0, if_pos c_2], rfl⟩ (Nat.zero_le _) (Nat.zero_le _) dX3_tryFrom_96
        · exact absurd (by decide) c_l
      · refine z_iconst (v := 1) (pc := 33) C dX3_tryFrom_33 (by decide) ?_
        refine z_goto (tgt := 38) (pc := 34) C dX3_tryFrom_34 (by decide) ?_
        refine z_istore4 (pc := 38) C (by decide) (fun w hw => by cases hw; exact (show ¬ (1 = 2) from by decide)) dX3_tryFrom_38 ?_
        refine z_iload (i := 4) (pc := 40) C dX3_tryFrom_40 rfl ?_
        refine z_ineg (pc := 42) C dX3_tryFrom_42 ?_
        refine z_istore5 (pc := 43) C (by decide) (fun w hw => by cases hw; exact (show ¬ (1 = 2) from by decide)) dX3_tryFrom_43 ?_
        refine body μ (1) (-1) H (by decide) ?_
        refine z_iinc5 (v := 1) (pc := 90) C (by decide) (by decide) (fun w hw => by cases hw; exact (show ¬ (1 = 2) from by decide)) dX3_tryFrom_90 ?_
        rw [show (-1 : Int32) + 1 = 0 from by decide]
        refine z_goto (tgt := 45) (pc := 93) C dX3_tryFrom_93 (by decide) ?_
        refine body (zone (zdfs c9 2) c9 2 num sl (-1) μ) (1) (0) (by refine zone_H (fun ν a b hν => zdfs_H c9 _ ν a b hν) ?_; exact H) (by decide) ?_
        refine z_iinc5 (v := 1) (pc := 90) C (by decide) (by decide) (fun w hw => by cases hw; exact (show ¬ (1 = 2) from by decide)) dX3_tryFrom_90 ?_
        rw [show (0 : Int32) + 1 = 1 from by decide]
        refine z_goto (tgt := 45) (pc := 93) C dX3_tryFrom_93 (by decide) ?_
        refine body (zone (zdfs c9 2) c9 2 num sl (0) (zone (zdfs c9 2) c9 2 num sl (-1) μ)) (1) (1) (by refine zone_H (fun ν a b hν => zdfs_H c9 _ ν a b hν) ?_; refine zone_H (fun ν a b hν => zdfs_H c9 _ ν a b hν) ?_; exact H) (by decide) ?_
        refine z_iinc5 (v := 1) (pc := 90) C (by decide) (by decide) (fun w hw => by cases hw; exact (show ¬ (1 = 2) from by decide)) dX3_tryFrom_90 ?_
        rw [show (1 : Int32) + 1 = 2 from by decide]
        refine z_goto (tgt := 45) (pc := 93) C dX3_tryFrom_93 (by decide) ?_
        refine z_iload (i := 5) (pc := 45) C dX3_tryFrom_45 rfl ?_
        refine z_iload (i := 4) (pc := 47) C dX3_tryFrom_47 rfl ?_
        refine z_icmp_gt (tgt := 96) (pc := 49) C dX3_tryFrom_49 (by decide) (fun c_l => ?_) (fun c_l => ?_)
        · exact z_vret (pc := 96) C hr hlk ⟨by rw [zdfs, if_pos c_0, if_neg c_2], rfl⟩ (Nat.zero_le _) (Nat.zero_le _) dX3_tryFrom_96
        · exact absurd (by decide) c_l
    · exact absurd (by rw [h1]; decide) c_1
  · exact z_vret (pc := 8) C hr hlk ⟨by rw [zdfs, if_neg c_0], rfl⟩ (Nat.zero_le _) (Nat.zero_le _) dX3_tryFrom_8
set_option maxHeartbeats 4000000 in
set_option maxRecDepth 100000 in
theorem c_X3_tryFrom_4 (l : Launch) (E : zE) (sa : Nat → Nat) {μ : zM} {ov : Nat → Int64} {i1 num sl : Int32} (c9 : Nat) (h1 : i1 = nI 3) (H : zH c9 μ) : zMv l E sa yX3_tryFrom wsX3_tryFrom 7 224 0 0 [.ref (zob E 4), .int i1, .int num, .int sl] μ ov (fun μ1 ov1 => μ1 = zdfs c9 4 μ num sl ∧ ov1 = ov) := by
  refine z_ofMv (cc := cX3_tryFrom) (nL := 6) (ret := none) (own := RX3) zfp_X3_tryFrom rfl (by simp [Value.category]) (Nat.le_of_ble_eq_true rfl) rfl ?_
  intro p e s m below meth c C hr hlk
  have iX3 : ∀ w ∈ wsX30, w ∈ wsX3_tryFrom := by decide +kernel
  have f34 := C.1.2.2.2.2 (.fieldLink RX3 34 "TickFall$Rings" "isInRing" "[Z") (by decide +kernel)
  have f38 := C.1.2.2.2.2 (.fieldLink RX3 38 "TickFall$Rings" "taken" "[I") (by decide +kernel)
  have f44 := C.1.2.2.2.2 (.fieldLink RX3 44 "TickFall$Rings" "fewest" "I") (by decide +kernel)
  have f47 := C.1.2.2.2.2 (.fieldLink RX3 47 "TickFall$Rings" "found" "I") (by decide +kernel)
  show zW p l e (zR 7 224 0 0) s m [Value.ref (zob E 4), Value.int i1, Value.int num, Value.int sl].toArray below meth c E 6 0 0 (MQ below (zQv E s.heap.size (fun μ1 ov1 => μ1 = zdfs c9 4 μ num sl ∧ ov1 = ov)) [Value.ref (zob E 4), Value.int i1, Value.int num, Value.int sl].toArray s 0 0 (zA E s.heap.size)) 0 [some (.ref (zob E 4)), some (.int (i1)), some (.int (num)), some (.int (sl)), none, none] [] μ ov
  refine z_iloadn (i := 3) (pc := 0) C dX3_tryFrom_0 rfl rfl ?_
  refine z_aloadn (i := 0) (pc := 1) C dX3_tryFrom_1 rfl rfl ?_
  refine zg_X3_fewest (pc := 2) C dX3_tryFrom_2 iX3 f44 ?_
  refine z_icmp_lt (tgt := 9) (pc := 5) C dX3_tryFrom_5 (by decide) (fun c_0 => ?_) (fun c_0 => ?_)
  · refine z_iloadn (i := 1) (pc := 9) C dX3_tryFrom_9 rfl rfl ?_
    refine z_if_ge (tgt := 24) (pc := 10) C dX3_tryFrom_10 (by decide) (fun c_1 => ?_) (fun c_1 => ?_)
    · have body : ∀ (w : zM) (mo cyc : Int32), zH c9 w → cyc ≤ mo → zW p l e (zR 7 224 0 0) s m [Value.ref (zob E 4), Value.int i1, Value.int num, Value.int sl].toArray below meth c E 6 0 0 (MQ below (zQv E s.heap.size (fun μ1 ov1 => μ1 = zdfs c9 4 μ num sl ∧ ov1 = ov)) [Value.ref (zob E 4), Value.int i1, Value.int num, Value.int sl].toArray s 0 0 (zA E s.heap.size)) 90 [some (.ref (zob E 4)), some (.int (i1)), some (.int (num)), some (.int (sl)), some (.int (mo)), some (.int (cyc))] [] (zone (zdfs c9 3) c9 3 num sl (cyc) w) ov → zW p l e (zR 7 224 0 0) s m [Value.ref (zob E 4), Value.int i1, Value.int num, Value.int sl].toArray below meth c E 6 0 0 (MQ below (zQv E s.heap.size (fun μ1 ov1 => μ1 = zdfs c9 4 μ num sl ∧ ov1 = ov)) [Value.ref (zob E 4), Value.int i1, Value.int num, Value.int sl].toArray s 0 0 (zA E s.heap.size)) 45 [some (.ref (zob E 4)), some (.int (i1)), some (.int (num)), some (.int (sl)), some (.int (mo)), some (.int (cyc))] [] w ov := by
        intro w mo cyc hw hcm K
        refine z_iload (i := 5) (pc := 45) C dX3_tryFrom_45 rfl ?_
        refine z_iload (i := 4) (pc := 47) C dX3_tryFrom_47 rfl ?_
        refine z_icmp_gt (tgt := 96) (pc := 49) C dX3_tryFrom_49 (by decide) (fun c_l => ?_) (fun c_l => ?_)
        · exact absurd c_l (by rw [zlt]; rw [zle2] at hcm; omega)
        · refine z_aloadn (i := 0) (pc := 52) C dX3_tryFrom_52 rfl rfl ?_
          refine zg_X3_taken (pc := 53) C dX3_tryFrom_53 iX3 f38 ?_
          refine z_iloadn (i := 1) (pc := 56) C dX3_tryFrom_56 rfl rfl ?_
          refine z_iload (i := 5) (pc := 57) C dX3_tryFrom_57 rfl ?_
          refine z_iast (pc := 59) C 21 3 (by decide) rfl h1 (by decide) dX3_tryFrom_59 ?_
          refine z_aloadn (i := 0) (pc := 60) C dX3_tryFrom_60 rfl rfl ?_
          refine z_iloadn (i := 1) (pc := 61) C dX3_tryFrom_61 rfl rfl ?_
          refine z_callVi (pc := 62) (n := 1) (As := [.int (i1)]) (rest := []) C (c_X3_areClosedAbove l E sa (μ := zu w 21 3 cyc) (i := i1) c9 (hw.t21 3 cyc)) gX3_tryFrom_X3_areClosedAbove rfl zfV_X3_areClosedAbove ⟨Nat.le_of_ble_eq_true rfl, Nat.le_of_ble_eq_true rfl⟩ rfl (zRec_X3 E) rfl (Nat.le_of_ble_eq_true rfl) ⟨Nat.zero_le _, Nat.zero_le _⟩ dX3_tryFrom_62 (fun r9 μ9 ov9 hp => ?_)
          have e1 := hp.1.symm
          have e2 := hp.2.1.symm
          have e3 := hp.2.2.symm
          clear hp
          subst e1 e2 e3
          refine z_if_eq (tgt := 90) (pc := 65) C dX3_tryFrom_65 (by decide) (fun c_1 => ?_) (fun c_1 => ?_)
          · rw [zb_eq0, h1] at c_1
            refine z_mem (μ' := (zone (zdfs c9 3) c9 3 num sl (cyc) w)) (by rw [zone, if_neg c_1]) ?_
            exact K
          · rw [zb_ne0, h1] at c_1
            refine z_aloadn (i := 0) (pc := 68) C dX3_tryFrom_68 rfl rfl ?_
            refine z_iloadn (i := 1) (pc := 69) C dX3_tryFrom_69 rfl rfl ?_
            refine z_iconst (v := 1) (pc := 70) C dX3_tryFrom_70 (by decide) ?_
            refine z_isub (pc := 71) C dX3_tryFrom_71 ?_
            refine z_iloadn (i := 2) (pc := 72) C dX3_tryFrom_72 rfl rfl ?_
            refine z_iconst (v := 3) (pc := 73) C dX3_tryFrom_73 (by decide) ?_
            refine z_imul (pc := 74) C dX3_tryFrom_74 ?_
            refine z_iconst (v := 1) (pc := 75) C dX3_tryFrom_75 (by decide) ?_
            refine z_iadd (pc := 76) C dX3_tryFrom_76 ?_
            refine z_iload (i := 5) (pc := 77) C dX3_tryFrom_77 rfl ?_
            refine z_iadd (pc := 79) C dX3_tryFrom_79 ?_
            refine z_iloadn (i := 3) (pc := 80) C dX3_tryFrom_80 rfl rfl ?_
            refine z_iload (i := 5) (pc := 81) C dX3_tryFrom_81 rfl ?_
            refine z_mabs (pc := 83) C (C.1.2.2.2.2 (.methodLink RX3 79 Lib.Math.abs.name) (by decide +kernel)) (C.1.2.2.2.2 (.static Lib.Math.abs.name) (by decide +kernel)) (C.1.2.2.2.2 (.initialized "java/lang/Math") (by decide +kernel)) (C.1.2.2.2.2 (.code Lib.Math.abs.name Lib.Math.abs.code 1 (some .int)) (by decide +kernel)) (Nat.le_of_ble_eq_true rfl) (Nat.le_of_ble_eq_true rfl) (Nat.zero_le _) (Nat.zero_le _) dX3_tryFrom_83 ?_
            refine z_iadd (pc := 86) C dX3_tryFrom_86 ?_
            refine z_callSv (pc := 87) (n := 4) (As := [.ref (zob E 4), .int (i1 - 1), .int (((num * 3) + 1) + cyc), .int (sl + (if 0 ≤ cyc then cyc else 0 - cyc))]) (rest := []) C (c_X3_tryFrom_3 l E sa (μ := zu w 21 3 cyc) c9 (by rw [h1]; rfl) (hw.t21 3 cyc)) gX3_tryFrom_X3_tryFrom rfl zfV_X3_tryFrom.2 ⟨Nat.le_of_ble_eq_true rfl, Nat.le_of_ble_eq_true rfl⟩ rfl rfl (Nat.le_of_ble_eq_true rfl) ⟨Nat.zero_le _, Nat.zero_le _⟩ dX3_tryFrom_87 (fun μ9 ov9 hp => ?_)
            have e2 := hp.1.symm
            have e3 := hp.2.symm
            clear hp
            subst e2 e3
            refine z_mem (μ' := (zone (zdfs c9 3) c9 3 num sl (cyc) w)) (by rw [zone, if_pos c_1]; rfl) ?_
            exact K
      refine z_aloadn (i := 0) (pc := 24) C dX3_tryFrom_24 rfl rfl ?_
      refine zg_X3_isInRing (pc := 25) C dX3_tryFrom_25 iX3 f34 ?_
      refine z_iloadn (i := 1) (pc := 28) C dX3_tryFrom_28 rfl rfl ?_
      refine z_bald (pc := 29) C 20 3 (by decide) rfl h1 (by decide) dX3_tryFrom_29 ?_
      refine z_if_eq (tgt := 37) (pc := 30) C dX3_tryFrom_30 (by decide) (fun c_2 => ?_) (fun c_2 => ?_)
      · refine z_iconst (v := 0) (pc := 37) C dX3_tryFrom_37 (by decide) ?_
        refine z_istore4 (pc := 38) C (by decide) (fun w hw => by cases hw; exact (show ¬ (1 = 2) from by decide)) dX3_tryFrom_38 ?_
        refine z_iload (i := 4) (pc := 40) C dX3_tryFrom_40 rfl ?_
        refine z_ineg (pc := 42) C dX3_tryFrom_42 ?_
        refine z_istore5 (pc := 43) C (by decide) (fun w hw => by cases hw; exact (show ¬ (1 = 2) from by decide)) dX3_tryFrom_43 ?_
        rw [show (-(0 : Int32)) = 0 from by decide]
        refine body μ (0) (0) H (by decide) ?_
        refine z_iinc5 (v := 1) (pc := 90) C (by decide) (by decide) (fun w hw => by cases hw; exact (show ¬ (1 = 2) from by decide)) dX3_tryFrom_90 ?_
        rw [show (0 : Int32) + 1 = 1 from by decide]
        refine z_goto (tgt := 45) (pc := 93) C dX3_tryFrom_93 (by decide) ?_
        refine z_iload (i := 5) (pc := 45) C dX3_tryFrom_45 rfl ?_
        refine z_iload (i := 4) (pc := 47) C dX3_tryFrom_47 rfl ?_
        refine z_icmp_gt (tgt := 96) (pc := 49) C dX3_tryFrom_49 (by decide) (fun c_l => ?_) (fun c_l => ?_)
        · exact z_vret (pc := 96) C hr hlk ⟨by rw [zdfs, if_pos c_0, if_pos c_2], rfl⟩ (Nat.zero_le _) (Nat.zero_le _) dX3_tryFrom_96
        · exact absurd (by decide) c_l
      · refine z_iconst (v := 1) (pc := 33) C dX3_tryFrom_33 (by decide) ?_
        refine z_goto (tgt := 38) (pc := 34) C dX3_tryFrom_34 (by decide) ?_
        refine z_istore4 (pc := 38) C (by decide) (fun w hw => by cases hw; exact (show ¬ (1 = 2) from by decide)) dX3_tryFrom_38 ?_
        refine z_iload (i := 4) (pc := 40) C dX3_tryFrom_40 rfl ?_
        refine z_ineg (pc := 42) C dX3_tryFrom_42 ?_
        refine z_istore5 (pc := 43) C (by decide) (fun w hw => by cases hw; exact (show ¬ (1 = 2) from by decide)) dX3_tryFrom_43 ?_
        refine body μ (1) (-1) H (by decide) ?_
        refine z_iinc5 (v := 1) (pc := 90) C (by decide) (by decide) (fun w hw => by cases hw; exact (show ¬ (1 = 2) from by decide)) dX3_tryFrom_90 ?_
        rw [show (-1 : Int32) + 1 = 0 from by decide]
        refine z_goto (tgt := 45) (pc := 93) C dX3_tryFrom_93 (by decide) ?_
        refine body (zone (zdfs c9 3) c9 3 num sl (-1) μ) (1) (0) (by refine zone_H (fun ν a b hν => zdfs_H c9 _ ν a b hν) ?_; exact H) (by decide) ?_
        refine z_iinc5 (v := 1) (pc := 90) C (by decide) (by decide) (fun w hw => by cases hw; exact (show ¬ (1 = 2) from by decide)) dX3_tryFrom_90 ?_
        rw [show (0 : Int32) + 1 = 1 from by decide]
        refine z_goto (tgt := 45) (pc := 93) C dX3_tryFrom_93 (by decide) ?_
        refine body (zone (zdfs c9 3) c9 3 num sl (0) (zone (zdfs c9 3) c9 3 num sl (-1) μ)) (1) (1) (by refine zone_H (fun ν a b hν => zdfs_H c9 _ ν a b hν) ?_; refine zone_H (fun ν a b hν => zdfs_H c9 _ ν a b hν) ?_; exact H) (by decide) ?_
        refine z_iinc5 (v := 1) (pc := 90) C (by decide) (by decide) (fun w hw => by cases hw; exact (show ¬ (1 = 2) from by decide)) dX3_tryFrom_90 ?_
        rw [show (1 : Int32) + 1 = 2 from by decide]
        refine z_goto (tgt := 45) (pc := 93) C dX3_tryFrom_93 (by decide) ?_
        refine z_iload (i := 5) (pc := 45) C dX3_tryFrom_45 rfl ?_
        refine z_iload (i := 4) (pc := 47) C dX3_tryFrom_47 rfl ?_
        refine z_icmp_gt (tgt := 96) (pc := 49) C dX3_tryFrom_49 (by decide) (fun c_l => ?_) (fun c_l => ?_)
        · exact z_vret (pc := 96) C hr hlk ⟨by rw [zdfs, if_pos c_0, if_neg c_2], rfl⟩ (Nat.zero_le _) (Nat.zero_le _) dX3_tryFrom_96
        · exact absurd (by decide) c_l
    · exact absurd (by rw [h1]; decide) c_1
  · exact z_vret (pc := 8) C hr hlk ⟨by rw [zdfs, if_neg c_0], rfl⟩ (Nat.zero_le _) (Nat.zero_le _) dX3_tryFrom_8
set_option maxHeartbeats 4000000 in
set_option maxRecDepth 100000 in
theorem c_X3_tryFrom_5 (l : Launch) (E : zE) (sa : Nat → Nat) {μ : zM} {ov : Nat → Int64} {i1 num sl : Int32} (c9 : Nat) (h1 : i1 = nI 4) (H : zH c9 μ) : zMv l E sa yX3_tryFrom wsX3_tryFrom 8 250 0 0 [.ref (zob E 4), .int i1, .int num, .int sl] μ ov (fun μ1 ov1 => μ1 = zdfs c9 5 μ num sl ∧ ov1 = ov) := by
  refine z_ofMv (cc := cX3_tryFrom) (nL := 6) (ret := none) (own := RX3) zfp_X3_tryFrom rfl (by simp [Value.category]) (Nat.le_of_ble_eq_true rfl) rfl ?_
  intro p e s m below meth c C hr hlk
  have iX3 : ∀ w ∈ wsX30, w ∈ wsX3_tryFrom := by decide +kernel
  have f34 := C.1.2.2.2.2 (.fieldLink RX3 34 "TickFall$Rings" "isInRing" "[Z") (by decide +kernel)
  have f38 := C.1.2.2.2.2 (.fieldLink RX3 38 "TickFall$Rings" "taken" "[I") (by decide +kernel)
  have f44 := C.1.2.2.2.2 (.fieldLink RX3 44 "TickFall$Rings" "fewest" "I") (by decide +kernel)
  have f47 := C.1.2.2.2.2 (.fieldLink RX3 47 "TickFall$Rings" "found" "I") (by decide +kernel)
  show zW p l e (zR 8 250 0 0) s m [Value.ref (zob E 4), Value.int i1, Value.int num, Value.int sl].toArray below meth c E 6 0 0 (MQ below (zQv E s.heap.size (fun μ1 ov1 => μ1 = zdfs c9 5 μ num sl ∧ ov1 = ov)) [Value.ref (zob E 4), Value.int i1, Value.int num, Value.int sl].toArray s 0 0 (zA E s.heap.size)) 0 [some (.ref (zob E 4)), some (.int (i1)), some (.int (num)), some (.int (sl)), none, none] [] μ ov
  refine z_iloadn (i := 3) (pc := 0) C dX3_tryFrom_0 rfl rfl ?_
  refine z_aloadn (i := 0) (pc := 1) C dX3_tryFrom_1 rfl rfl ?_
  refine zg_X3_fewest (pc := 2) C dX3_tryFrom_2 iX3 f44 ?_
  refine z_icmp_lt (tgt := 9) (pc := 5) C dX3_tryFrom_5 (by decide) (fun c_0 => ?_) (fun c_0 => ?_)
  · refine z_iloadn (i := 1) (pc := 9) C dX3_tryFrom_9 rfl rfl ?_
    refine z_if_ge (tgt := 24) (pc := 10) C dX3_tryFrom_10 (by decide) (fun c_1 => ?_) (fun c_1 => ?_)
    · have body : ∀ (w : zM) (mo cyc : Int32), zH c9 w → cyc ≤ mo → zW p l e (zR 8 250 0 0) s m [Value.ref (zob E 4), Value.int i1, Value.int num, Value.int sl].toArray below meth c E 6 0 0 (MQ below (zQv E s.heap.size (fun μ1 ov1 => μ1 = zdfs c9 5 μ num sl ∧ ov1 = ov)) [Value.ref (zob E 4), Value.int i1, Value.int num, Value.int sl].toArray s 0 0 (zA E s.heap.size)) 90 [some (.ref (zob E 4)), some (.int (i1)), some (.int (num)), some (.int (sl)), some (.int (mo)), some (.int (cyc))] [] (zone (zdfs c9 4) c9 4 num sl (cyc) w) ov → zW p l e (zR 8 250 0 0) s m [Value.ref (zob E 4), Value.int i1, Value.int num, Value.int sl].toArray below meth c E 6 0 0 (MQ below (zQv E s.heap.size (fun μ1 ov1 => μ1 = zdfs c9 5 μ num sl ∧ ov1 = ov)) [Value.ref (zob E 4), Value.int i1, Value.int num, Value.int sl].toArray s 0 0 (zA E s.heap.size)) 45 [some (.ref (zob E 4)), some (.int (i1)), some (.int (num)), some (.int (sl)), some (.int (mo)), some (.int (cyc))] [] w ov := by
        intro w mo cyc hw hcm K
        refine z_iload (i := 5) (pc := 45) C dX3_tryFrom_45 rfl ?_
        refine z_iload (i := 4) (pc := 47) C dX3_tryFrom_47 rfl ?_
        refine z_icmp_gt (tgt := 96) (pc := 49) C dX3_tryFrom_49 (by decide) (fun c_l => ?_) (fun c_l => ?_)
        · exact absurd c_l (by rw [zlt]; rw [zle2] at hcm; omega)
        · refine z_aloadn (i := 0) (pc := 52) C dX3_tryFrom_52 rfl rfl ?_
          refine zg_X3_taken (pc := 53) C dX3_tryFrom_53 iX3 f38 ?_
          refine z_iloadn (i := 1) (pc := 56) C dX3_tryFrom_56 rfl rfl ?_
          refine z_iload (i := 5) (pc := 57) C dX3_tryFrom_57 rfl ?_
          refine z_iast (pc := 59) C 21 4 (by decide) rfl h1 (by decide) dX3_tryFrom_59 ?_
          refine z_aloadn (i := 0) (pc := 60) C dX3_tryFrom_60 rfl rfl ?_
          refine z_iloadn (i := 1) (pc := 61) C dX3_tryFrom_61 rfl rfl ?_
          refine z_callVi (pc := 62) (n := 1) (As := [.int (i1)]) (rest := []) C (c_X3_areClosedAbove l E sa (μ := zu w 21 4 cyc) (i := i1) c9 (hw.t21 4 cyc)) gX3_tryFrom_X3_areClosedAbove rfl zfV_X3_areClosedAbove ⟨Nat.le_of_ble_eq_true rfl, Nat.le_of_ble_eq_true rfl⟩ rfl (zRec_X3 E) rfl (Nat.le_of_ble_eq_true rfl) ⟨Nat.zero_le _, Nat.zero_le _⟩ dX3_tryFrom_62 (fun r9 μ9 ov9 hp => ?_)
          have e1 := hp.1.symm
          have e2 := hp.2.1.symm
          have e3 := hp.2.2.symm
          clear hp
          subst e1 e2 e3
          refine z_if_eq (tgt := 90) (pc := 65) C dX3_tryFrom_65 (by decide) (fun c_1 => ?_) (fun c_1 => ?_)
          · rw [zb_eq0, h1] at c_1
            refine z_mem (μ' := (zone (zdfs c9 4) c9 4 num sl (cyc) w)) (by rw [zone, if_neg c_1]) ?_
            exact K
          · rw [zb_ne0, h1] at c_1
            refine z_aloadn (i := 0) (pc := 68) C dX3_tryFrom_68 rfl rfl ?_
            refine z_iloadn (i := 1) (pc := 69) C dX3_tryFrom_69 rfl rfl ?_
            refine z_iconst (v := 1) (pc := 70) C dX3_tryFrom_70 (by decide) ?_
            refine z_isub (pc := 71) C dX3_tryFrom_71 ?_
            refine z_iloadn (i := 2) (pc := 72) C dX3_tryFrom_72 rfl rfl ?_
            refine z_iconst (v := 3) (pc := 73) C dX3_tryFrom_73 (by decide) ?_
            refine z_imul (pc := 74) C dX3_tryFrom_74 ?_
            refine z_iconst (v := 1) (pc := 75) C dX3_tryFrom_75 (by decide) ?_
            refine z_iadd (pc := 76) C dX3_tryFrom_76 ?_
            refine z_iload (i := 5) (pc := 77) C dX3_tryFrom_77 rfl ?_
            refine z_iadd (pc := 79) C dX3_tryFrom_79 ?_
            refine z_iloadn (i := 3) (pc := 80) C dX3_tryFrom_80 rfl rfl ?_
            refine z_iload (i := 5) (pc := 81) C dX3_tryFrom_81 rfl ?_
            refine z_mabs (pc := 83) C (C.1.2.2.2.2 (.methodLink RX3 79 Lib.Math.abs.name) (by decide +kernel)) (C.1.2.2.2.2 (.static Lib.Math.abs.name) (by decide +kernel)) (C.1.2.2.2.2 (.initialized "java/lang/Math") (by decide +kernel)) (C.1.2.2.2.2 (.code Lib.Math.abs.name Lib.Math.abs.code 1 (some .int)) (by decide +kernel)) (Nat.le_of_ble_eq_true rfl) (Nat.le_of_ble_eq_true rfl) (Nat.zero_le _) (Nat.zero_le _) dX3_tryFrom_83 ?_
            refine z_iadd (pc := 86) C dX3_tryFrom_86 ?_
            refine z_callSv (pc := 87) (n := 4) (As := [.ref (zob E 4), .int (i1 - 1), .int (((num * 3) + 1) + cyc), .int (sl + (if 0 ≤ cyc then cyc else 0 - cyc))]) (rest := []) C (c_X3_tryFrom_4 l E sa (μ := zu w 21 4 cyc) c9 (by rw [h1]; rfl) (hw.t21 4 cyc)) gX3_tryFrom_X3_tryFrom rfl zfV_X3_tryFrom.2 ⟨Nat.le_of_ble_eq_true rfl, Nat.le_of_ble_eq_true rfl⟩ rfl rfl (Nat.le_of_ble_eq_true rfl) ⟨Nat.zero_le _, Nat.zero_le _⟩ dX3_tryFrom_87 (fun μ9 ov9 hp => ?_)
            have e2 := hp.1.symm
            have e3 := hp.2.symm
            clear hp
            subst e2 e3
            refine z_mem (μ' := (zone (zdfs c9 4) c9 4 num sl (cyc) w)) (by rw [zone, if_pos c_1]; rfl) ?_
            exact K
      refine z_aloadn (i := 0) (pc := 24) C dX3_tryFrom_24 rfl rfl ?_
      refine zg_X3_isInRing (pc := 25) C dX3_tryFrom_25 iX3 f34 ?_
      refine z_iloadn (i := 1) (pc := 28) C dX3_tryFrom_28 rfl rfl ?_
      refine z_bald (pc := 29) C 20 4 (by decide) rfl h1 (by decide) dX3_tryFrom_29 ?_
      refine z_if_eq (tgt := 37) (pc := 30) C dX3_tryFrom_30 (by decide) (fun c_2 => ?_) (fun c_2 => ?_)
      · refine z_iconst (v := 0) (pc := 37) C dX3_tryFrom_37 (by decide) ?_
        refine z_istore4 (pc := 38) C (by decide) (fun w hw => by cases hw; exact (show ¬ (1 = 2) from by decide)) dX3_tryFrom_38 ?_
        refine z_iload (i := 4) (pc := 40) C dX3_tryFrom_40 rfl ?_
        refine z_ineg (pc := 42) C dX3_tryFrom_42 ?_
        refine z_istore5 (pc := 43) C (by decide) (fun w hw => by cases hw; exact (show ¬ (1 = 2) from by decide)) dX3_tryFrom_43 ?_
        rw [show (-(0 : Int32)) = 0 from by decide]
        refine body μ (0) (0) H (by decide) ?_
        refine z_iinc5 (v := 1) (pc := 90) C (by decide) (by decide) (fun w hw => by cases hw; exact (show ¬ (1 = 2) from by decide)) dX3_tryFrom_90 ?_
        rw [show (0 : Int32) + 1 = 1 from by decide]
        refine z_goto (tgt := 45) (pc := 93) C dX3_tryFrom_93 (by decide) ?_
        refine z_iload (i := 5) (pc := 45) C dX3_tryFrom_45 rfl ?_
        refine z_iload (i := 4) (pc := 47) C dX3_tryFrom_47 rfl ?_
        refine z_icmp_gt (tgt := 96) (pc := 49) C dX3_tryFrom_49 (by decide) (fun c_l => ?_) (fun c_l => ?_)
        · exact z_vret (pc := 96) C hr hlk ⟨by rw [zdfs, if_pos c_0, if_pos c_2], rfl⟩ (Nat.zero_le _) (Nat.zero_le _) dX3_tryFrom_96
        · exact absurd (by decide) c_l
      · refine z_iconst (v := 1) (pc := 33) C dX3_tryFrom_33 (by decide) ?_
        refine z_goto (tgt := 38) (pc := 34) C dX3_tryFrom_34 (by decide) ?_
        refine z_istore4 (pc := 38) C (by decide) (fun w hw => by cases hw; exact (show ¬ (1 = 2) from by decide)) dX3_tryFrom_38 ?_
        refine z_iload (i := 4) (pc := 40) C dX3_tryFrom_40 rfl ?_
        refine z_ineg (pc := 42) C dX3_tryFrom_42 ?_
        refine z_istore5 (pc := 43) C (by decide) (fun w hw => by cases hw; exact (show ¬ (1 = 2) from by decide)) dX3_tryFrom_43 ?_
        refine body μ (1) (-1) H (by decide) ?_
        refine z_iinc5 (v := 1) (pc := 90) C (by decide) (by decide) (fun w hw => by cases hw; exact (show ¬ (1 = 2) from by decide)) dX3_tryFrom_90 ?_
        rw [show (-1 : Int32) + 1 = 0 from by decide]
        refine z_goto (tgt := 45) (pc := 93) C dX3_tryFrom_93 (by decide) ?_
        refine body (zone (zdfs c9 4) c9 4 num sl (-1) μ) (1) (0) (by refine zone_H (fun ν a b hν => zdfs_H c9 _ ν a b hν) ?_; exact H) (by decide) ?_
        refine z_iinc5 (v := 1) (pc := 90) C (by decide) (by decide) (fun w hw => by cases hw; exact (show ¬ (1 = 2) from by decide)) dX3_tryFrom_90 ?_
        rw [show (0 : Int32) + 1 = 1 from by decide]
        refine z_goto (tgt := 45) (pc := 93) C dX3_tryFrom_93 (by decide) ?_
        refine body (zone (zdfs c9 4) c9 4 num sl (0) (zone (zdfs c9 4) c9 4 num sl (-1) μ)) (1) (1) (by refine zone_H (fun ν a b hν => zdfs_H c9 _ ν a b hν) ?_; refine zone_H (fun ν a b hν => zdfs_H c9 _ ν a b hν) ?_; exact H) (by decide) ?_
        refine z_iinc5 (v := 1) (pc := 90) C (by decide) (by decide) (fun w hw => by cases hw; exact (show ¬ (1 = 2) from by decide)) dX3_tryFrom_90 ?_
        rw [show (1 : Int32) + 1 = 2 from by decide]
        refine z_goto (tgt := 45) (pc := 93) C dX3_tryFrom_93 (by decide) ?_
        refine z_iload (i := 5) (pc := 45) C dX3_tryFrom_45 rfl ?_
        refine z_iload (i := 4) (pc := 47) C dX3_tryFrom_47 rfl ?_
        refine z_icmp_gt (tgt := 96) (pc := 49) C dX3_tryFrom_49 (by decide) (fun c_l => ?_) (fun c_l => ?_)
        · exact z_vret (pc := 96) C hr hlk ⟨by rw [zdfs, if_pos c_0, if_neg c_2], rfl⟩ (Nat.zero_le _) (Nat.zero_le _) dX3_tryFrom_96
        · exact absurd (by decide) c_l
    · exact absurd (by rw [h1]; decide) c_1
  · exact z_vret (pc := 8) C hr hlk ⟨by rw [zdfs, if_neg c_0], rfl⟩ (Nat.zero_le _) (Nat.zero_le _) dX3_tryFrom_8
set_option maxHeartbeats 4000000 in
set_option maxRecDepth 100000 in
theorem c_X3_tryFrom_6 (l : Launch) (E : zE) (sa : Nat → Nat) {μ : zM} {ov : Nat → Int64} {i1 num sl : Int32} (c9 : Nat) (h1 : i1 = nI 5) (H : zH c9 μ) : zMv l E sa yX3_tryFrom wsX3_tryFrom 9 276 0 0 [.ref (zob E 4), .int i1, .int num, .int sl] μ ov (fun μ1 ov1 => μ1 = zdfs c9 6 μ num sl ∧ ov1 = ov) := by
  refine z_ofMv (cc := cX3_tryFrom) (nL := 6) (ret := none) (own := RX3) zfp_X3_tryFrom rfl (by simp [Value.category]) (Nat.le_of_ble_eq_true rfl) rfl ?_
  intro p e s m below meth c C hr hlk
  have iX3 : ∀ w ∈ wsX30, w ∈ wsX3_tryFrom := by decide +kernel
  have f34 := C.1.2.2.2.2 (.fieldLink RX3 34 "TickFall$Rings" "isInRing" "[Z") (by decide +kernel)
  have f38 := C.1.2.2.2.2 (.fieldLink RX3 38 "TickFall$Rings" "taken" "[I") (by decide +kernel)
  have f44 := C.1.2.2.2.2 (.fieldLink RX3 44 "TickFall$Rings" "fewest" "I") (by decide +kernel)
  have f47 := C.1.2.2.2.2 (.fieldLink RX3 47 "TickFall$Rings" "found" "I") (by decide +kernel)
  show zW p l e (zR 9 276 0 0) s m [Value.ref (zob E 4), Value.int i1, Value.int num, Value.int sl].toArray below meth c E 6 0 0 (MQ below (zQv E s.heap.size (fun μ1 ov1 => μ1 = zdfs c9 6 μ num sl ∧ ov1 = ov)) [Value.ref (zob E 4), Value.int i1, Value.int num, Value.int sl].toArray s 0 0 (zA E s.heap.size)) 0 [some (.ref (zob E 4)), some (.int (i1)), some (.int (num)), some (.int (sl)), none, none] [] μ ov
  refine z_iloadn (i := 3) (pc := 0) C dX3_tryFrom_0 rfl rfl ?_
  refine z_aloadn (i := 0) (pc := 1) C dX3_tryFrom_1 rfl rfl ?_
  refine zg_X3_fewest (pc := 2) C dX3_tryFrom_2 iX3 f44 ?_
  refine z_icmp_lt (tgt := 9) (pc := 5) C dX3_tryFrom_5 (by decide) (fun c_0 => ?_) (fun c_0 => ?_)
  · refine z_iloadn (i := 1) (pc := 9) C dX3_tryFrom_9 rfl rfl ?_
    refine z_if_ge (tgt := 24) (pc := 10) C dX3_tryFrom_10 (by decide) (fun c_1 => ?_) (fun c_1 => ?_)
    · have body : ∀ (w : zM) (mo cyc : Int32), zH c9 w → cyc ≤ mo → zW p l e (zR 9 276 0 0) s m [Value.ref (zob E 4), Value.int i1, Value.int num, Value.int sl].toArray below meth c E 6 0 0 (MQ below (zQv E s.heap.size (fun μ1 ov1 => μ1 = zdfs c9 6 μ num sl ∧ ov1 = ov)) [Value.ref (zob E 4), Value.int i1, Value.int num, Value.int sl].toArray s 0 0 (zA E s.heap.size)) 90 [some (.ref (zob E 4)), some (.int (i1)), some (.int (num)), some (.int (sl)), some (.int (mo)), some (.int (cyc))] [] (zone (zdfs c9 5) c9 5 num sl (cyc) w) ov → zW p l e (zR 9 276 0 0) s m [Value.ref (zob E 4), Value.int i1, Value.int num, Value.int sl].toArray below meth c E 6 0 0 (MQ below (zQv E s.heap.size (fun μ1 ov1 => μ1 = zdfs c9 6 μ num sl ∧ ov1 = ov)) [Value.ref (zob E 4), Value.int i1, Value.int num, Value.int sl].toArray s 0 0 (zA E s.heap.size)) 45 [some (.ref (zob E 4)), some (.int (i1)), some (.int (num)), some (.int (sl)), some (.int (mo)), some (.int (cyc))] [] w ov := by
        intro w mo cyc hw hcm K
        refine z_iload (i := 5) (pc := 45) C dX3_tryFrom_45 rfl ?_
        refine z_iload (i := 4) (pc := 47) C dX3_tryFrom_47 rfl ?_
        refine z_icmp_gt (tgt := 96) (pc := 49) C dX3_tryFrom_49 (by decide) (fun c_l => ?_) (fun c_l => ?_)
        · exact absurd c_l (by rw [zlt]; rw [zle2] at hcm; omega)
        · refine z_aloadn (i := 0) (pc := 52) C dX3_tryFrom_52 rfl rfl ?_
          refine zg_X3_taken (pc := 53) C dX3_tryFrom_53 iX3 f38 ?_
          refine z_iloadn (i := 1) (pc := 56) C dX3_tryFrom_56 rfl rfl ?_
          refine z_iload (i := 5) (pc := 57) C dX3_tryFrom_57 rfl ?_
          refine z_iast (pc := 59) C 21 5 (by decide) rfl h1 (by decide) dX3_tryFrom_59 ?_
          refine z_aloadn (i := 0) (pc := 60) C dX3_tryFrom_60 rfl rfl ?_
          refine z_iloadn (i := 1) (pc := 61) C dX3_tryFrom_61 rfl rfl ?_
          refine z_callVi (pc := 62) (n := 1) (As := [.int (i1)]) (rest := []) C (c_X3_areClosedAbove l E sa (μ := zu w 21 5 cyc) (i := i1) c9 (hw.t21 5 cyc)) gX3_tryFrom_X3_areClosedAbove rfl zfV_X3_areClosedAbove ⟨Nat.le_of_ble_eq_true rfl, Nat.le_of_ble_eq_true rfl⟩ rfl (zRec_X3 E) rfl (Nat.le_of_ble_eq_true rfl) ⟨Nat.zero_le _, Nat.zero_le _⟩ dX3_tryFrom_62 (fun r9 μ9 ov9 hp => ?_)
          have e1 := hp.1.symm
          have e2 := hp.2.1.symm
          have e3 := hp.2.2.symm
          clear hp
          subst e1 e2 e3
          refine z_if_eq (tgt := 90) (pc := 65) C dX3_tryFrom_65 (by decide) (fun c_1 => ?_) (fun c_1 => ?_)
          · rw [zb_eq0, h1] at c_1
            refine z_mem (μ' := (zone (zdfs c9 5) c9 5 num sl (cyc) w)) (by rw [zone, if_neg c_1]) ?_
            exact K
          · rw [zb_ne0, h1] at c_1
            refine z_aloadn (i := 0) (pc := 68) C dX3_tryFrom_68 rfl rfl ?_
            refine z_iloadn (i := 1) (pc := 69) C dX3_tryFrom_69 rfl rfl ?_
            refine z_iconst (v := 1) (pc := 70) C dX3_tryFrom_70 (by decide) ?_
            refine z_isub (pc := 71) C dX3_tryFrom_71 ?_
            refine z_iloadn (i := 2) (pc := 72) C dX3_tryFrom_72 rfl rfl ?_
            refine z_iconst (v := 3) (pc := 73) C dX3_tryFrom_73 (by decide) ?_
            refine z_imul (pc := 74) C dX3_tryFrom_74 ?_
            refine z_iconst (v := 1) (pc := 75) C dX3_tryFrom_75 (by decide) ?_
            refine z_iadd (pc := 76) C dX3_tryFrom_76 ?_
            refine z_iload (i := 5) (pc := 77) C dX3_tryFrom_77 rfl ?_
            refine z_iadd (pc := 79) C dX3_tryFrom_79 ?_
            refine z_iloadn (i := 3) (pc := 80) C dX3_tryFrom_80 rfl rfl ?_
            refine z_iload (i := 5) (pc := 81) C dX3_tryFrom_81 rfl ?_
            refine z_mabs (pc := 83) C (C.1.2.2.2.2 (.methodLink RX3 79 Lib.Math.abs.name) (by decide +kernel)) (C.1.2.2.2.2 (.static Lib.Math.abs.name) (by decide +kernel)) (C.1.2.2.2.2 (.initialized "java/lang/Math") (by decide +kernel)) (C.1.2.2.2.2 (.code Lib.Math.abs.name Lib.Math.abs.code 1 (some .int)) (by decide +kernel)) (Nat.le_of_ble_eq_true rfl) (Nat.le_of_ble_eq_true rfl) (Nat.zero_le _) (Nat.zero_le _) dX3_tryFrom_83 ?_
            refine z_iadd (pc := 86) C dX3_tryFrom_86 ?_
            refine z_callSv (pc := 87) (n := 4) (As := [.ref (zob E 4), .int (i1 - 1), .int (((num * 3) + 1) + cyc), .int (sl + (if 0 ≤ cyc then cyc else 0 - cyc))]) (rest := []) C (c_X3_tryFrom_5 l E sa (μ := zu w 21 5 cyc) c9 (by rw [h1]; rfl) (hw.t21 5 cyc)) gX3_tryFrom_X3_tryFrom rfl zfV_X3_tryFrom.2 ⟨Nat.le_of_ble_eq_true rfl, Nat.le_of_ble_eq_true rfl⟩ rfl rfl (Nat.le_of_ble_eq_true rfl) ⟨Nat.zero_le _, Nat.zero_le _⟩ dX3_tryFrom_87 (fun μ9 ov9 hp => ?_)
            have e2 := hp.1.symm
            have e3 := hp.2.symm
            clear hp
            subst e2 e3
            refine z_mem (μ' := (zone (zdfs c9 5) c9 5 num sl (cyc) w)) (by rw [zone, if_pos c_1]; rfl) ?_
            exact K
      refine z_aloadn (i := 0) (pc := 24) C dX3_tryFrom_24 rfl rfl ?_
      refine zg_X3_isInRing (pc := 25) C dX3_tryFrom_25 iX3 f34 ?_
      refine z_iloadn (i := 1) (pc := 28) C dX3_tryFrom_28 rfl rfl ?_
      refine z_bald (pc := 29) C 20 5 (by decide) rfl h1 (by decide) dX3_tryFrom_29 ?_
      refine z_if_eq (tgt := 37) (pc := 30) C dX3_tryFrom_30 (by decide) (fun c_2 => ?_) (fun c_2 => ?_)
      · refine z_iconst (v := 0) (pc := 37) C dX3_tryFrom_37 (by decide) ?_
        refine z_istore4 (pc := 38) C (by decide) (fun w hw => by cases hw; exact (show ¬ (1 = 2) from by decide)) dX3_tryFrom_38 ?_
        refine z_iload (i := 4) (pc := 40) C dX3_tryFrom_40 rfl ?_
        refine z_ineg (pc := 42) C dX3_tryFrom_42 ?_
        refine z_istore5 (pc := 43) C (by decide) (fun w hw => by cases hw; exact (show ¬ (1 = 2) from by decide)) dX3_tryFrom_43 ?_
        rw [show (-(0 : Int32)) = 0 from by decide]
        refine body μ (0) (0) H (by decide) ?_
        refine z_iinc5 (v := 1) (pc := 90) C (by decide) (by decide) (fun w hw => by cases hw; exact (show ¬ (1 = 2) from by decide)) dX3_tryFrom_90 ?_
        rw [show (0 : Int32) + 1 = 1 from by decide]
        refine z_goto (tgt := 45) (pc := 93) C dX3_tryFrom_93 (by decide) ?_
        refine z_iload (i := 5) (pc := 45) C dX3_tryFrom_45 rfl ?_
        refine z_iload (i := 4) (pc := 47) C dX3_tryFrom_47 rfl ?_
        refine z_icmp_gt (tgt := 96) (pc := 49) C dX3_tryFrom_49 (by decide) (fun c_l => ?_) (fun c_l => ?_)
        · exact z_vret (pc := 96) C hr hlk ⟨by rw [zdfs, if_pos c_0, if_pos c_2], rfl⟩ (Nat.zero_le _) (Nat.zero_le _) dX3_tryFrom_96
        · exact absurd (by decide) c_l
      · refine z_iconst (v := 1) (pc := 33) C dX3_tryFrom_33 (by decide) ?_
        refine z_goto (tgt := 38) (pc := 34) C dX3_tryFrom_34 (by decide) ?_
        refine z_istore4 (pc := 38) C (by decide) (fun w hw => by cases hw; exact (show ¬ (1 = 2) from by decide)) dX3_tryFrom_38 ?_
        refine z_iload (i := 4) (pc := 40) C dX3_tryFrom_40 rfl ?_
        refine z_ineg (pc := 42) C dX3_tryFrom_42 ?_
        refine z_istore5 (pc := 43) C (by decide) (fun w hw => by cases hw; exact (show ¬ (1 = 2) from by decide)) dX3_tryFrom_43 ?_
        refine body μ (1) (-1) H (by decide) ?_
        refine z_iinc5 (v := 1) (pc := 90) C (by decide) (by decide) (fun w hw => by cases hw; exact (show ¬ (1 = 2) from by decide)) dX3_tryFrom_90 ?_
        rw [show (-1 : Int32) + 1 = 0 from by decide]
        refine z_goto (tgt := 45) (pc := 93) C dX3_tryFrom_93 (by decide) ?_
        refine body (zone (zdfs c9 5) c9 5 num sl (-1) μ) (1) (0) (by refine zone_H (fun ν a b hν => zdfs_H c9 _ ν a b hν) ?_; exact H) (by decide) ?_
        refine z_iinc5 (v := 1) (pc := 90) C (by decide) (by decide) (fun w hw => by cases hw; exact (show ¬ (1 = 2) from by decide)) dX3_tryFrom_90 ?_
        rw [show (0 : Int32) + 1 = 1 from by decide]
        refine z_goto (tgt := 45) (pc := 93) C dX3_tryFrom_93 (by decide) ?_
        refine body (zone (zdfs c9 5) c9 5 num sl (0) (zone (zdfs c9 5) c9 5 num sl (-1) μ)) (1) (1) (by refine zone_H (fun ν a b hν => zdfs_H c9 _ ν a b hν) ?_; refine zone_H (fun ν a b hν => zdfs_H c9 _ ν a b hν) ?_; exact H) (by decide) ?_
        refine z_iinc5 (v := 1) (pc := 90) C (by decide) (by decide) (fun w hw => by cases hw; exact (show ¬ (1 = 2) from by decide)) dX3_tryFrom_90 ?_
        rw [show (1 : Int32) + 1 = 2 from by decide]
        refine z_goto (tgt := 45) (pc := 93) C dX3_tryFrom_93 (by decide) ?_
        refine z_iload (i := 5) (pc := 45) C dX3_tryFrom_45 rfl ?_
        refine z_iload (i := 4) (pc := 47) C dX3_tryFrom_47 rfl ?_
        refine z_icmp_gt (tgt := 96) (pc := 49) C dX3_tryFrom_49 (by decide) (fun c_l => ?_) (fun c_l => ?_)
        · exact z_vret (pc := 96) C hr hlk ⟨by rw [zdfs, if_pos c_0, if_neg c_2], rfl⟩ (Nat.zero_le _) (Nat.zero_le _) dX3_tryFrom_96
        · exact absurd (by decide) c_l
    · exact absurd (by rw [h1]; decide) c_1
  · exact z_vret (pc := 8) C hr hlk ⟨by rw [zdfs, if_neg c_0], rfl⟩ (Nat.zero_le _) (Nat.zero_le _) dX3_tryFrom_8
set_option maxHeartbeats 4000000 in
set_option maxRecDepth 100000 in
theorem c_X3_tryFrom_7 (l : Launch) (E : zE) (sa : Nat → Nat) {μ : zM} {ov : Nat → Int64} {i1 num sl : Int32} (c9 : Nat) (h1 : i1 = nI 6) (H : zH c9 μ) : zMv l E sa yX3_tryFrom wsX3_tryFrom 10 302 0 0 [.ref (zob E 4), .int i1, .int num, .int sl] μ ov (fun μ1 ov1 => μ1 = zdfs c9 7 μ num sl ∧ ov1 = ov) := by
  refine z_ofMv (cc := cX3_tryFrom) (nL := 6) (ret := none) (own := RX3) zfp_X3_tryFrom rfl (by simp [Value.category]) (Nat.le_of_ble_eq_true rfl) rfl ?_
  intro p e s m below meth c C hr hlk
  have iX3 : ∀ w ∈ wsX30, w ∈ wsX3_tryFrom := by decide +kernel
  have f34 := C.1.2.2.2.2 (.fieldLink RX3 34 "TickFall$Rings" "isInRing" "[Z") (by decide +kernel)
  have f38 := C.1.2.2.2.2 (.fieldLink RX3 38 "TickFall$Rings" "taken" "[I") (by decide +kernel)
  have f44 := C.1.2.2.2.2 (.fieldLink RX3 44 "TickFall$Rings" "fewest" "I") (by decide +kernel)
  have f47 := C.1.2.2.2.2 (.fieldLink RX3 47 "TickFall$Rings" "found" "I") (by decide +kernel)
  show zW p l e (zR 10 302 0 0) s m [Value.ref (zob E 4), Value.int i1, Value.int num, Value.int sl].toArray below meth c E 6 0 0 (MQ below (zQv E s.heap.size (fun μ1 ov1 => μ1 = zdfs c9 7 μ num sl ∧ ov1 = ov)) [Value.ref (zob E 4), Value.int i1, Value.int num, Value.int sl].toArray s 0 0 (zA E s.heap.size)) 0 [some (.ref (zob E 4)), some (.int (i1)), some (.int (num)), some (.int (sl)), none, none] [] μ ov
  refine z_iloadn (i := 3) (pc := 0) C dX3_tryFrom_0 rfl rfl ?_
  refine z_aloadn (i := 0) (pc := 1) C dX3_tryFrom_1 rfl rfl ?_
  refine zg_X3_fewest (pc := 2) C dX3_tryFrom_2 iX3 f44 ?_
  refine z_icmp_lt (tgt := 9) (pc := 5) C dX3_tryFrom_5 (by decide) (fun c_0 => ?_) (fun c_0 => ?_)
  · refine z_iloadn (i := 1) (pc := 9) C dX3_tryFrom_9 rfl rfl ?_
    refine z_if_ge (tgt := 24) (pc := 10) C dX3_tryFrom_10 (by decide) (fun c_1 => ?_) (fun c_1 => ?_)
    · have body : ∀ (w : zM) (mo cyc : Int32), zH c9 w → cyc ≤ mo → zW p l e (zR 10 302 0 0) s m [Value.ref (zob E 4), Value.int i1, Value.int num, Value.int sl].toArray below meth c E 6 0 0 (MQ below (zQv E s.heap.size (fun μ1 ov1 => μ1 = zdfs c9 7 μ num sl ∧ ov1 = ov)) [Value.ref (zob E 4), Value.int i1, Value.int num, Value.int sl].toArray s 0 0 (zA E s.heap.size)) 90 [some (.ref (zob E 4)), some (.int (i1)), some (.int (num)), some (.int (sl)), some (.int (mo)), some (.int (cyc))] [] (zone (zdfs c9 6) c9 6 num sl (cyc) w) ov → zW p l e (zR 10 302 0 0) s m [Value.ref (zob E 4), Value.int i1, Value.int num, Value.int sl].toArray below meth c E 6 0 0 (MQ below (zQv E s.heap.size (fun μ1 ov1 => μ1 = zdfs c9 7 μ num sl ∧ ov1 = ov)) [Value.ref (zob E 4), Value.int i1, Value.int num, Value.int sl].toArray s 0 0 (zA E s.heap.size)) 45 [some (.ref (zob E 4)), some (.int (i1)), some (.int (num)), some (.int (sl)), some (.int (mo)), some (.int (cyc))] [] w ov := by
        intro w mo cyc hw hcm K
        refine z_iload (i := 5) (pc := 45) C dX3_tryFrom_45 rfl ?_
        refine z_iload (i := 4) (pc := 47) C dX3_tryFrom_47 rfl ?_
        refine z_icmp_gt (tgt := 96) (pc := 49) C dX3_tryFrom_49 (by decide) (fun c_l => ?_) (fun c_l => ?_)
        · exact absurd c_l (by rw [zlt]; rw [zle2] at hcm; omega)
        · refine z_aloadn (i := 0) (pc := 52) C dX3_tryFrom_52 rfl rfl ?_
          refine zg_X3_taken (pc := 53) C dX3_tryFrom_53 iX3 f38 ?_
          refine z_iloadn (i := 1) (pc := 56) C dX3_tryFrom_56 rfl rfl ?_
          refine z_iload (i := 5) (pc := 57) C dX3_tryFrom_57 rfl ?_
          refine z_iast (pc := 59) C 21 6 (by decide) rfl h1 (by decide) dX3_tryFrom_59 ?_
          refine z_aloadn (i := 0) (pc := 60) C dX3_tryFrom_60 rfl rfl ?_
          refine z_iloadn (i := 1) (pc := 61) C dX3_tryFrom_61 rfl rfl ?_
          refine z_callVi (pc := 62) (n := 1) (As := [.int (i1)]) (rest := []) C (c_X3_areClosedAbove l E sa (μ := zu w 21 6 cyc) (i := i1) c9 (hw.t21 6 cyc)) gX3_tryFrom_X3_areClosedAbove rfl zfV_X3_areClosedAbove ⟨Nat.le_of_ble_eq_true rfl, Nat.le_of_ble_eq_true rfl⟩ rfl (zRec_X3 E) rfl (Nat.le_of_ble_eq_true rfl) ⟨Nat.zero_le _, Nat.zero_le _⟩ dX3_tryFrom_62 (fun r9 μ9 ov9 hp => ?_)
          have e1 := hp.1.symm
          have e2 := hp.2.1.symm
          have e3 := hp.2.2.symm
          clear hp
          subst e1 e2 e3
          refine z_if_eq (tgt := 90) (pc := 65) C dX3_tryFrom_65 (by decide) (fun c_1 => ?_) (fun c_1 => ?_)
          · rw [zb_eq0, h1] at c_1
            refine z_mem (μ' := (zone (zdfs c9 6) c9 6 num sl (cyc) w)) (by rw [zone, if_neg c_1]) ?_
            exact K
          · rw [zb_ne0, h1] at c_1
            refine z_aloadn (i := 0) (pc := 68) C dX3_tryFrom_68 rfl rfl ?_
            refine z_iloadn (i := 1) (pc := 69) C dX3_tryFrom_69 rfl rfl ?_
            refine z_iconst (v := 1) (pc := 70) C dX3_tryFrom_70 (by decide) ?_
            refine z_isub (pc := 71) C dX3_tryFrom_71 ?_
            refine z_iloadn (i := 2) (pc := 72) C dX3_tryFrom_72 rfl rfl ?_
            refine z_iconst (v := 3) (pc := 73) C dX3_tryFrom_73 (by decide) ?_
            refine z_imul (pc := 74) C dX3_tryFrom_74 ?_
            refine z_iconst (v := 1) (pc := 75) C dX3_tryFrom_75 (by decide) ?_
            refine z_iadd (pc := 76) C dX3_tryFrom_76 ?_
            refine z_iload (i := 5) (pc := 77) C dX3_tryFrom_77 rfl ?_
            refine z_iadd (pc := 79) C dX3_tryFrom_79 ?_
            refine z_iloadn (i := 3) (pc := 80) C dX3_tryFrom_80 rfl rfl ?_
            refine z_iload (i := 5) (pc := 81) C dX3_tryFrom_81 rfl ?_
            refine z_mabs (pc := 83) C (C.1.2.2.2.2 (.methodLink RX3 79 Lib.Math.abs.name) (by decide +kernel)) (C.1.2.2.2.2 (.static Lib.Math.abs.name) (by decide +kernel)) (C.1.2.2.2.2 (.initialized "java/lang/Math") (by decide +kernel)) (C.1.2.2.2.2 (.code Lib.Math.abs.name Lib.Math.abs.code 1 (some .int)) (by decide +kernel)) (Nat.le_of_ble_eq_true rfl) (Nat.le_of_ble_eq_true rfl) (Nat.zero_le _) (Nat.zero_le _) dX3_tryFrom_83 ?_
            refine z_iadd (pc := 86) C dX3_tryFrom_86 ?_
            refine z_callSv (pc := 87) (n := 4) (As := [.ref (zob E 4), .int (i1 - 1), .int (((num * 3) + 1) + cyc), .int (sl + (if 0 ≤ cyc then cyc else 0 - cyc))]) (rest := []) C (c_X3_tryFrom_6 l E sa (μ := zu w 21 6 cyc) c9 (by rw [h1]; rfl) (hw.t21 6 cyc)) gX3_tryFrom_X3_tryFrom rfl zfV_X3_tryFrom.2 ⟨Nat.le_of_ble_eq_true rfl, Nat.le_of_ble_eq_true rfl⟩ rfl rfl (Nat.le_of_ble_eq_true rfl) ⟨Nat.zero_le _, Nat.zero_le _⟩ dX3_tryFrom_87 (fun μ9 ov9 hp => ?_)
            have e2 := hp.1.symm
            have e3 := hp.2.symm
            clear hp
            subst e2 e3
            refine z_mem (μ' := (zone (zdfs c9 6) c9 6 num sl (cyc) w)) (by rw [zone, if_pos c_1]; rfl) ?_
            exact K
      refine z_aloadn (i := 0) (pc := 24) C dX3_tryFrom_24 rfl rfl ?_
      refine zg_X3_isInRing (pc := 25) C dX3_tryFrom_25 iX3 f34 ?_
      refine z_iloadn (i := 1) (pc := 28) C dX3_tryFrom_28 rfl rfl ?_
      refine z_bald (pc := 29) C 20 6 (by decide) rfl h1 (by decide) dX3_tryFrom_29 ?_
      refine z_if_eq (tgt := 37) (pc := 30) C dX3_tryFrom_30 (by decide) (fun c_2 => ?_) (fun c_2 => ?_)
      · refine z_iconst (v := 0) (pc := 37) C dX3_tryFrom_37 (by decide) ?_
        refine z_istore4 (pc := 38) C (by decide) (fun w hw => by cases hw; exact (show ¬ (1 = 2) from by decide)) dX3_tryFrom_38 ?_
        refine z_iload (i := 4) (pc := 40) C dX3_tryFrom_40 rfl ?_
        refine z_ineg (pc := 42) C dX3_tryFrom_42 ?_
        refine z_istore5 (pc := 43) C (by decide) (fun w hw => by cases hw; exact (show ¬ (1 = 2) from by decide)) dX3_tryFrom_43 ?_
        rw [show (-(0 : Int32)) = 0 from by decide]
        refine body μ (0) (0) H (by decide) ?_
        refine z_iinc5 (v := 1) (pc := 90) C (by decide) (by decide) (fun w hw => by cases hw; exact (show ¬ (1 = 2) from by decide)) dX3_tryFrom_90 ?_
        rw [show (0 : Int32) + 1 = 1 from by decide]
        refine z_goto (tgt := 45) (pc := 93) C dX3_tryFrom_93 (by decide) ?_
        refine z_iload (i := 5) (pc := 45) C dX3_tryFrom_45 rfl ?_
        refine z_iload (i := 4) (pc := 47) C dX3_tryFrom_47 rfl ?_
        refine z_icmp_gt (tgt := 96) (pc := 49) C dX3_tryFrom_49 (by decide) (fun c_l => ?_) (fun c_l => ?_)
        · exact z_vret (pc := 96) C hr hlk ⟨by rw [zdfs, if_pos c_0, if_pos c_2], rfl⟩ (Nat.zero_le _) (Nat.zero_le _) dX3_tryFrom_96
        · exact absurd (by decide) c_l
      · refine z_iconst (v := 1) (pc := 33) C dX3_tryFrom_33 (by decide) ?_
        refine z_goto (tgt := 38) (pc := 34) C dX3_tryFrom_34 (by decide) ?_
        refine z_istore4 (pc := 38) C (by decide) (fun w hw => by cases hw; exact (show ¬ (1 = 2) from by decide)) dX3_tryFrom_38 ?_
        refine z_iload (i := 4) (pc := 40) C dX3_tryFrom_40 rfl ?_
        refine z_ineg (pc := 42) C dX3_tryFrom_42 ?_
        refine z_istore5 (pc := 43) C (by decide) (fun w hw => by cases hw; exact (show ¬ (1 = 2) from by decide)) dX3_tryFrom_43 ?_
        refine body μ (1) (-1) H (by decide) ?_
        refine z_iinc5 (v := 1) (pc := 90) C (by decide) (by decide) (fun w hw => by cases hw; exact (show ¬ (1 = 2) from by decide)) dX3_tryFrom_90 ?_
        rw [show (-1 : Int32) + 1 = 0 from by decide]
        refine z_goto (tgt := 45) (pc := 93) C dX3_tryFrom_93 (by decide) ?_
        refine body (zone (zdfs c9 6) c9 6 num sl (-1) μ) (1) (0) (by refine zone_H (fun ν a b hν => zdfs_H c9 _ ν a b hν) ?_; exact H) (by decide) ?_
        refine z_iinc5 (v := 1) (pc := 90) C (by decide) (by decide) (fun w hw => by cases hw; exact (show ¬ (1 = 2) from by decide)) dX3_tryFrom_90 ?_
        rw [show (0 : Int32) + 1 = 1 from by decide]
        refine z_goto (tgt := 45) (pc := 93) C dX3_tryFrom_93 (by decide) ?_
        refine body (zone (zdfs c9 6) c9 6 num sl (0) (zone (zdfs c9 6) c9 6 num sl (-1) μ)) (1) (1) (by refine zone_H (fun ν a b hν => zdfs_H c9 _ ν a b hν) ?_; refine zone_H (fun ν a b hν => zdfs_H c9 _ ν a b hν) ?_; exact H) (by decide) ?_
        refine z_iinc5 (v := 1) (pc := 90) C (by decide) (by decide) (fun w hw => by cases hw; exact (show ¬ (1 = 2) from by decide)) dX3_tryFrom_90 ?_
        rw [show (1 : Int32) + 1 = 2 from by decide]
        refine z_goto (tgt := 45) (pc := 93) C dX3_tryFrom_93 (by decide) ?_
        refine z_iload (i := 5) (pc := 45) C dX3_tryFrom_45 rfl ?_
        refine z_iload (i := 4) (pc := 47) C dX3_tryFrom_47 rfl ?_
        refine z_icmp_gt (tgt := 96) (pc := 49) C dX3_tryFrom_49 (by decide) (fun c_l => ?_) (fun c_l => ?_)
        · exact z_vret (pc := 96) C hr hlk ⟨by rw [zdfs, if_pos c_0, if_neg c_2], rfl⟩ (Nat.zero_le _) (Nat.zero_le _) dX3_tryFrom_96
        · exact absurd (by decide) c_l
    · exact absurd (by rw [h1]; decide) c_1
  · exact z_vret (pc := 8) C hr hlk ⟨by rw [zdfs, if_neg c_0], rfl⟩ (Nat.zero_le _) (Nat.zero_le _) dX3_tryFrom_8
set_option maxHeartbeats 4000000 in
set_option maxRecDepth 100000 in
theorem c_X3_tryFrom_8 (l : Launch) (E : zE) (sa : Nat → Nat) {μ : zM} {ov : Nat → Int64} {i1 num sl : Int32} (c9 : Nat) (h1 : i1 = nI 7) (H : zH c9 μ) : zMv l E sa yX3_tryFrom wsX3_tryFrom 11 328 0 0 [.ref (zob E 4), .int i1, .int num, .int sl] μ ov (fun μ1 ov1 => μ1 = zdfs c9 8 μ num sl ∧ ov1 = ov) := by
  refine z_ofMv (cc := cX3_tryFrom) (nL := 6) (ret := none) (own := RX3) zfp_X3_tryFrom rfl (by simp [Value.category]) (Nat.le_of_ble_eq_true rfl) rfl ?_
  intro p e s m below meth c C hr hlk
  have iX3 : ∀ w ∈ wsX30, w ∈ wsX3_tryFrom := by decide +kernel
  have f34 := C.1.2.2.2.2 (.fieldLink RX3 34 "TickFall$Rings" "isInRing" "[Z") (by decide +kernel)
  have f38 := C.1.2.2.2.2 (.fieldLink RX3 38 "TickFall$Rings" "taken" "[I") (by decide +kernel)
  have f44 := C.1.2.2.2.2 (.fieldLink RX3 44 "TickFall$Rings" "fewest" "I") (by decide +kernel)
  have f47 := C.1.2.2.2.2 (.fieldLink RX3 47 "TickFall$Rings" "found" "I") (by decide +kernel)
  show zW p l e (zR 11 328 0 0) s m [Value.ref (zob E 4), Value.int i1, Value.int num, Value.int sl].toArray below meth c E 6 0 0 (MQ below (zQv E s.heap.size (fun μ1 ov1 => μ1 = zdfs c9 8 μ num sl ∧ ov1 = ov)) [Value.ref (zob E 4), Value.int i1, Value.int num, Value.int sl].toArray s 0 0 (zA E s.heap.size)) 0 [some (.ref (zob E 4)), some (.int (i1)), some (.int (num)), some (.int (sl)), none, none] [] μ ov
  refine z_iloadn (i := 3) (pc := 0) C dX3_tryFrom_0 rfl rfl ?_
  refine z_aloadn (i := 0) (pc := 1) C dX3_tryFrom_1 rfl rfl ?_
  refine zg_X3_fewest (pc := 2) C dX3_tryFrom_2 iX3 f44 ?_
  refine z_icmp_lt (tgt := 9) (pc := 5) C dX3_tryFrom_5 (by decide) (fun c_0 => ?_) (fun c_0 => ?_)
  · refine z_iloadn (i := 1) (pc := 9) C dX3_tryFrom_9 rfl rfl ?_
    refine z_if_ge (tgt := 24) (pc := 10) C dX3_tryFrom_10 (by decide) (fun c_1 => ?_) (fun c_1 => ?_)
    · have body : ∀ (w : zM) (mo cyc : Int32), zH c9 w → cyc ≤ mo → zW p l e (zR 11 328 0 0) s m [Value.ref (zob E 4), Value.int i1, Value.int num, Value.int sl].toArray below meth c E 6 0 0 (MQ below (zQv E s.heap.size (fun μ1 ov1 => μ1 = zdfs c9 8 μ num sl ∧ ov1 = ov)) [Value.ref (zob E 4), Value.int i1, Value.int num, Value.int sl].toArray s 0 0 (zA E s.heap.size)) 90 [some (.ref (zob E 4)), some (.int (i1)), some (.int (num)), some (.int (sl)), some (.int (mo)), some (.int (cyc))] [] (zone (zdfs c9 7) c9 7 num sl (cyc) w) ov → zW p l e (zR 11 328 0 0) s m [Value.ref (zob E 4), Value.int i1, Value.int num, Value.int sl].toArray below meth c E 6 0 0 (MQ below (zQv E s.heap.size (fun μ1 ov1 => μ1 = zdfs c9 8 μ num sl ∧ ov1 = ov)) [Value.ref (zob E 4), Value.int i1, Value.int num, Value.int sl].toArray s 0 0 (zA E s.heap.size)) 45 [some (.ref (zob E 4)), some (.int (i1)), some (.int (num)), some (.int (sl)), some (.int (mo)), some (.int (cyc))] [] w ov := by
        intro w mo cyc hw hcm K
        refine z_iload (i := 5) (pc := 45) C dX3_tryFrom_45 rfl ?_
        refine z_iload (i := 4) (pc := 47) C dX3_tryFrom_47 rfl ?_
        refine z_icmp_gt (tgt := 96) (pc := 49) C dX3_tryFrom_49 (by decide) (fun c_l => ?_) (fun c_l => ?_)
        · exact absurd c_l (by rw [zlt]; rw [zle2] at hcm; omega)
        · refine z_aloadn (i := 0) (pc := 52) C dX3_tryFrom_52 rfl rfl ?_
          refine zg_X3_taken (pc := 53) C dX3_tryFrom_53 iX3 f38 ?_
          refine z_iloadn (i := 1) (pc := 56) C dX3_tryFrom_56 rfl rfl ?_
          refine z_iload (i := 5) (pc := 57) C dX3_tryFrom_57 rfl ?_
          refine z_iast (pc := 59) C 21 7 (by decide) rfl h1 (by decide) dX3_tryFrom_59 ?_
          refine z_aloadn (i := 0) (pc := 60) C dX3_tryFrom_60 rfl rfl ?_
          refine z_iloadn (i := 1) (pc := 61) C dX3_tryFrom_61 rfl rfl ?_
          refine z_callVi (pc := 62) (n := 1) (As := [.int (i1)]) (rest := []) C (c_X3_areClosedAbove l E sa (μ := zu w 21 7 cyc) (i := i1) c9 (hw.t21 7 cyc)) gX3_tryFrom_X3_areClosedAbove rfl zfV_X3_areClosedAbove ⟨Nat.le_of_ble_eq_true rfl, Nat.le_of_ble_eq_true rfl⟩ rfl (zRec_X3 E) rfl (Nat.le_of_ble_eq_true rfl) ⟨Nat.zero_le _, Nat.zero_le _⟩ dX3_tryFrom_62 (fun r9 μ9 ov9 hp => ?_)
          have e1 := hp.1.symm
          have e2 := hp.2.1.symm
          have e3 := hp.2.2.symm
          clear hp
          subst e1 e2 e3
          refine z_if_eq (tgt := 90) (pc := 65) C dX3_tryFrom_65 (by decide) (fun c_1 => ?_) (fun c_1 => ?_)
          · rw [zb_eq0, h1] at c_1
            refine z_mem (μ' := (zone (zdfs c9 7) c9 7 num sl (cyc) w)) (by rw [zone, if_neg c_1]) ?_
            exact K
          · rw [zb_ne0, h1] at c_1
            refine z_aloadn (i := 0) (pc := 68) C dX3_tryFrom_68 rfl rfl ?_
            refine z_iloadn (i := 1) (pc := 69) C dX3_tryFrom_69 rfl rfl ?_
            refine z_iconst (v := 1) (pc := 70) C dX3_tryFrom_70 (by decide) ?_
            refine z_isub (pc := 71) C dX3_tryFrom_71 ?_
            refine z_iloadn (i := 2) (pc := 72) C dX3_tryFrom_72 rfl rfl ?_
            refine z_iconst (v := 3) (pc := 73) C dX3_tryFrom_73 (by decide) ?_
            refine z_imul (pc := 74) C dX3_tryFrom_74 ?_
            refine z_iconst (v := 1) (pc := 75) C dX3_tryFrom_75 (by decide) ?_
            refine z_iadd (pc := 76) C dX3_tryFrom_76 ?_
            refine z_iload (i := 5) (pc := 77) C dX3_tryFrom_77 rfl ?_
            refine z_iadd (pc := 79) C dX3_tryFrom_79 ?_
            refine z_iloadn (i := 3) (pc := 80) C dX3_tryFrom_80 rfl rfl ?_
            refine z_iload (i := 5) (pc := 81) C dX3_tryFrom_81 rfl ?_
            refine z_mabs (pc := 83) C (C.1.2.2.2.2 (.methodLink RX3 79 Lib.Math.abs.name) (by decide +kernel)) (C.1.2.2.2.2 (.static Lib.Math.abs.name) (by decide +kernel)) (C.1.2.2.2.2 (.initialized "java/lang/Math") (by decide +kernel)) (C.1.2.2.2.2 (.code Lib.Math.abs.name Lib.Math.abs.code 1 (some .int)) (by decide +kernel)) (Nat.le_of_ble_eq_true rfl) (Nat.le_of_ble_eq_true rfl) (Nat.zero_le _) (Nat.zero_le _) dX3_tryFrom_83 ?_
            refine z_iadd (pc := 86) C dX3_tryFrom_86 ?_
            refine z_callSv (pc := 87) (n := 4) (As := [.ref (zob E 4), .int (i1 - 1), .int (((num * 3) + 1) + cyc), .int (sl + (if 0 ≤ cyc then cyc else 0 - cyc))]) (rest := []) C (c_X3_tryFrom_7 l E sa (μ := zu w 21 7 cyc) c9 (by rw [h1]; rfl) (hw.t21 7 cyc)) gX3_tryFrom_X3_tryFrom rfl zfV_X3_tryFrom.2 ⟨Nat.le_of_ble_eq_true rfl, Nat.le_of_ble_eq_true rfl⟩ rfl rfl (Nat.le_of_ble_eq_true rfl) ⟨Nat.zero_le _, Nat.zero_le _⟩ dX3_tryFrom_87 (fun μ9 ov9 hp => ?_)
            have e2 := hp.1.symm
            have e3 := hp.2.symm
            clear hp
            subst e2 e3
            refine z_mem (μ' := (zone (zdfs c9 7) c9 7 num sl (cyc) w)) (by rw [zone, if_pos c_1]; rfl) ?_
            exact K
      refine z_aloadn (i := 0) (pc := 24) C dX3_tryFrom_24 rfl rfl ?_
      refine zg_X3_isInRing (pc := 25) C dX3_tryFrom_25 iX3 f34 ?_
      refine z_iloadn (i := 1) (pc := 28) C dX3_tryFrom_28 rfl rfl ?_
      refine z_bald (pc := 29) C 20 7 (by decide) rfl h1 (by decide) dX3_tryFrom_29 ?_
      refine z_if_eq (tgt := 37) (pc := 30) C dX3_tryFrom_30 (by decide) (fun c_2 => ?_) (fun c_2 => ?_)
      · refine z_iconst (v := 0) (pc := 37) C dX3_tryFrom_37 (by decide) ?_
        refine z_istore4 (pc := 38) C (by decide) (fun w hw => by cases hw; exact (show ¬ (1 = 2) from by decide)) dX3_tryFrom_38 ?_
        refine z_iload (i := 4) (pc := 40) C dX3_tryFrom_40 rfl ?_
        refine z_ineg (pc := 42) C dX3_tryFrom_42 ?_
        refine z_istore5 (pc := 43) C (by decide) (fun w hw => by cases hw; exact (show ¬ (1 = 2) from by decide)) dX3_tryFrom_43 ?_
        rw [show (-(0 : Int32)) = 0 from by decide]
        refine body μ (0) (0) H (by decide) ?_
        refine z_iinc5 (v := 1) (pc := 90) C (by decide) (by decide) (fun w hw => by cases hw; exact (show ¬ (1 = 2) from by decide)) dX3_tryFrom_90 ?_
        rw [show (0 : Int32) + 1 = 1 from by decide]
        refine z_goto (tgt := 45) (pc := 93) C dX3_tryFrom_93 (by decide) ?_
        refine z_iload (i := 5) (pc := 45) C dX3_tryFrom_45 rfl ?_
        refine z_iload (i := 4) (pc := 47) C dX3_tryFrom_47 rfl ?_
        refine z_icmp_gt (tgt := 96) (pc := 49) C dX3_tryFrom_49 (by decide) (fun c_l => ?_) (fun c_l => ?_)
        · exact z_vret (pc := 96) C hr hlk ⟨by rw [zdfs, if_pos c_0, if_pos c_2], rfl⟩ (Nat.zero_le _) (Nat.zero_le _) dX3_tryFrom_96
        · exact absurd (by decide) c_l
      · refine z_iconst (v := 1) (pc := 33) C dX3_tryFrom_33 (by decide) ?_
        refine z_goto (tgt := 38) (pc := 34) C dX3_tryFrom_34 (by decide) ?_
        refine z_istore4 (pc := 38) C (by decide) (fun w hw => by cases hw; exact (show ¬ (1 = 2) from by decide)) dX3_tryFrom_38 ?_
        refine z_iload (i := 4) (pc := 40) C dX3_tryFrom_40 rfl ?_
        refine z_ineg (pc := 42) C dX3_tryFrom_42 ?_
        refine z_istore5 (pc := 43) C (by decide) (fun w hw => by cases hw; exact (show ¬ (1 = 2) from by decide)) dX3_tryFrom_43 ?_
        refine body μ (1) (-1) H (by decide) ?_
        refine z_iinc5 (v := 1) (pc := 90) C (by decide) (by decide) (fun w hw => by cases hw; exact (show ¬ (1 = 2) from by decide)) dX3_tryFrom_90 ?_
        rw [show (-1 : Int32) + 1 = 0 from by decide]
        refine z_goto (tgt := 45) (pc := 93) C dX3_tryFrom_93 (by decide) ?_
        refine body (zone (zdfs c9 7) c9 7 num sl (-1) μ) (1) (0) (by refine zone_H (fun ν a b hν => zdfs_H c9 _ ν a b hν) ?_; exact H) (by decide) ?_
        refine z_iinc5 (v := 1) (pc := 90) C (by decide) (by decide) (fun w hw => by cases hw; exact (show ¬ (1 = 2) from by decide)) dX3_tryFrom_90 ?_
        rw [show (0 : Int32) + 1 = 1 from by decide]
        refine z_goto (tgt := 45) (pc := 93) C dX3_tryFrom_93 (by decide) ?_
        refine body (zone (zdfs c9 7) c9 7 num sl (0) (zone (zdfs c9 7) c9 7 num sl (-1) μ)) (1) (1) (by refine zone_H (fun ν a b hν => zdfs_H c9 _ ν a b hν) ?_; refine zone_H (fun ν a b hν => zdfs_H c9 _ ν a b hν) ?_; exact H) (by decide) ?_
        refine z_iinc5 (v := 1) (pc := 90) C (by decide) (by decide) (fun w hw => by cases hw; exact (show ¬ (1 = 2) from by decide)) dX3_tryFrom_90 ?_
        rw [show (1 : Int32) + 1 = 2 from by decide]
        refine z_goto (tgt := 45) (pc := 93) C dX3_tryFrom_93 (by decide) ?_
        refine z_iload (i := 5) (pc := 45) C dX3_tryFrom_45 rfl ?_
        refine z_iload (i := 4) (pc := 47) C dX3_tryFrom_47 rfl ?_
        refine z_icmp_gt (tgt := 96) (pc := 49) C dX3_tryFrom_49 (by decide) (fun c_l => ?_) (fun c_l => ?_)
        · exact z_vret (pc := 96) C hr hlk ⟨by rw [zdfs, if_pos c_0, if_neg c_2], rfl⟩ (Nat.zero_le _) (Nat.zero_le _) dX3_tryFrom_96
        · exact absurd (by decide) c_l
    · exact absurd (by rw [h1]; decide) c_1
  · exact z_vret (pc := 8) C hr hlk ⟨by rw [zdfs, if_neg c_0], rfl⟩ (Nat.zero_le _) (Nat.zero_le _) dX3_tryFrom_8
