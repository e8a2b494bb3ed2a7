set_option maxHeartbeats 4000000 in
set_option maxRecDepth 100000 in
theorem c_X0_kindOf (l : Launch) (E : zE) (sa : Nat → Nat) {μ : zM} {ov : Nat → Int64} (e9 : Int32) : zMi l E sa yX0_kindOf wsX0_kindOf 0 0 0 0 [.int e9] μ ov (fun r μ1 ov1 => r = e9 >>> (16 &&& 31) &&& 3 ∧ μ1 = μ ∧ ov1 = ov) := by
  refine z_ofMi (cc := cX0_kindOf) (nL := 1) (ret := (some .int)) (own := RX0) zfp_X0_kindOf rfl (by simp [Value.category]) (Nat.le_of_ble_eq_true rfl) rfl ?_
  intro p e s m below meth c C hr hlk
  show zW p l e (zR 0 0 0 0) s m [Value.int e9].toArray below meth c E 1 0 0 (MQ below (zQi E s.heap.size (fun r μ1 ov1 => r = e9 >>> (16 &&& 31) &&& 3 ∧ μ1 = μ ∧ ov1 = ov)) [Value.int e9].toArray s 0 0 (zA E s.heap.size)) 0 [some (.int (e9))] [] μ ov
  refine z_iloadn (i := 0) (pc := 0) C dX0_kindOf_0 rfl rfl ?_
  refine z_bipush (v := 16) (pc := 1) C dX0_kindOf_1 (by decide) ?_
  refine z_ishr (pc := 3) C dX0_kindOf_3 ?_
  refine z_iconst (v := 3) (pc := 4) C dX0_kindOf_4 (by decide) ?_
  refine z_iand (pc := 5) C dX0_kindOf_5 ?_
  exact z_iret (pc := 6) C hr hlk ⟨rfl, rfl, rfl⟩ (Nat.zero_le _) (Nat.zero_le _) dX0_kindOf_6
set_option maxHeartbeats 4000000 in
set_option maxRecDepth 100000 in
theorem c_X0_numberOf (l : Launch) (E : zE) (sa : Nat → Nat) {μ : zM} {ov : Nat → Int64} (e9 : Int32) : zMi l E sa yX0_numberOf wsX0_numberOf 0 0 0 0 [.int e9] μ ov (fun r μ1 ov1 => r = e9 >>> (13 &&& 31) &&& 7 ∧ μ1 = μ ∧ ov1 = ov) := by
  refine z_ofMi (cc := cX0_numberOf) (nL := 1) (ret := (some .int)) (own := RX0) zfp_X0_numberOf rfl (by simp [Value.category]) (Nat.le_of_ble_eq_true rfl) rfl ?_
  intro p e s m below meth c C hr hlk
  show zW p l e (zR 0 0 0 0) s m [Value.int e9].toArray below meth c E 1 0 0 (MQ below (zQi E s.heap.size (fun r μ1 ov1 => r = e9 >>> (13 &&& 31) &&& 7 ∧ μ1 = μ ∧ ov1 = ov)) [Value.int e9].toArray s 0 0 (zA E s.heap.size)) 0 [some (.int (e9))] [] μ ov
  refine z_iloadn (i := 0) (pc := 0) C dX0_numberOf_0 rfl rfl ?_
  refine z_bipush (v := 13) (pc := 1) C dX0_numberOf_1 (by decide) ?_
  refine z_ishr (pc := 3) C dX0_numberOf_3 ?_
  refine z_bipush (v := 7) (pc := 4) C dX0_numberOf_4 (by decide) ?_
  refine z_iand (pc := 6) C dX0_numberOf_6 ?_
  exact z_iret (pc := 7) C hr hlk ⟨rfl, rfl, rfl⟩ (Nat.zero_le _) (Nat.zero_le _) dX0_numberOf_7
set_option maxHeartbeats 4000000 in
set_option maxRecDepth 100000 in
theorem c_X0_amountOf (l : Launch) (E : zE) (sa : Nat → Nat) {μ : zM} {ov : Nat → Int64} (e9 : Int32) : zMi l E sa yX0_amountOf wsX0_amountOf 0 0 0 0 [.int e9] μ ov (fun r μ1 ov1 => r = (e9 &&& 8191) - 500 ∧ μ1 = μ ∧ ov1 = ov) := by
  refine z_ofMi (cc := cX0_amountOf) (nL := 1) (ret := (some .int)) (own := RX0) zfp_X0_amountOf rfl (by simp [Value.category]) (Nat.le_of_ble_eq_true rfl) rfl ?_
  intro p e s m below meth c C hr hlk
  show zW p l e (zR 0 0 0 0) s m [Value.int e9].toArray below meth c E 1 0 0 (MQ below (zQi E s.heap.size (fun r μ1 ov1 => r = (e9 &&& 8191) - 500 ∧ μ1 = μ ∧ ov1 = ov)) [Value.int e9].toArray s 0 0 (zA E s.heap.size)) 0 [some (.int (e9))] [] μ ov
  refine z_iloadn (i := 0) (pc := 0) C dX0_amountOf_0 rfl rfl ?_
  refine z_sipush (v := 8191) (pc := 1) C dX0_amountOf_1 (by decide) ?_
  refine z_iand (pc := 4) C dX0_amountOf_4 ?_
  refine z_sipush (v := 500) (pc := 5) C dX0_amountOf_5 (by decide) ?_
  refine z_isub (pc := 8) C dX0_amountOf_8 ?_
  exact z_iret (pc := 9) C hr hlk ⟨rfl, rfl, rfl⟩ (Nat.zero_le _) (Nat.zero_le _) dX0_amountOf_9
set_option maxHeartbeats 4000000 in
set_option maxRecDepth 100000 in
theorem c_X0_count (l : Launch) (E : zE) (sa : Nat → Nat) {μ : zM} {ov : Nat → Int64} : zMi l E sa yX0_count wsX0_count 0 0 0 0 [.ref (zob E 3)] μ ov (fun r μ1 ov1 => r = μ 63 6 ∧ μ1 = μ ∧ ov1 = ov) := by
  refine z_ofMi (cc := cX0_count) (nL := 1) (ret := (some .int)) (own := RX0) zfp_X0_count rfl (by simp [Value.category]) (Nat.le_of_ble_eq_true rfl) rfl ?_
  intro p e s m below meth c C hr hlk
  have iX0 : ∀ w ∈ wsX00, w ∈ wsX0_count := by decide +kernel
  have f15 := C.1.2.2.2.2 (.fieldLink RX0 15 "TickFall$Agenda" "count" "I") (by decide +kernel)
  show zW p l e (zR 0 0 0 0) s m [Value.ref (zob E 3)].toArray below meth c E 1 0 0 (MQ below (zQi E s.heap.size (fun r μ1 ov1 => r = μ 63 6 ∧ μ1 = μ ∧ ov1 = ov)) [Value.ref (zob E 3)].toArray s 0 0 (zA E s.heap.size)) 0 [some (.ref (zob E 3))] [] μ ov
  refine z_aloadn (i := 0) (pc := 0) C dX0_count_0 rfl rfl ?_
  refine zg_X0_count (pc := 1) C dX0_count_1 iX0 f15 ?_
  exact z_iret (pc := 4) C hr hlk ⟨rfl, rfl, rfl⟩ (Nat.zero_le _) (Nat.zero_le _) dX0_count_4
set_option maxHeartbeats 4000000 in
set_option maxRecDepth 100000 in
theorem c_X0_isNextDue (l : Launch) (E : zE) (sa : Nat → Nat) {μ : zM} {ov : Nat → Int64} {t : Int32} (n : Nat) (hc : μ 63 6 = nI n) (hn : n ≤ 40) : zMi l E sa yX0_isNextDue wsX0_isNextDue 0 0 0 0 [.ref (zob E 3), .int t] μ ov (fun r μ1 ov1 => r = zb (0 < μ 63 6 ∧ μ 13 (n - 1) >>> (18 &&& 31) ≤ t) ∧ μ1 = μ ∧ ov1 = ov) := by
  refine z_ofMi (cc := cX0_isNextDue) (nL := 2) (ret := (some .boolean)) (own := RX0) zfp_X0_isNextDue rfl (by simp [Value.category]) (Nat.le_of_ble_eq_true rfl) rfl ?_
  intro p e s m below meth c C hr hlk
  have iX0 : ∀ w ∈ wsX00, w ∈ wsX0_isNextDue := by decide +kernel
  have f11 := C.1.2.2.2.2 (.fieldLink RX0 11 "TickFall$Agenda" "rows" "[I") (by decide +kernel)
  have f15 := C.1.2.2.2.2 (.fieldLink RX0 15 "TickFall$Agenda" "count" "I") (by decide +kernel)
  show zW p l e (zR 0 0 0 0) s m [Value.ref (zob E 3), Value.int t].toArray below meth c E 2 0 0 (MQ below (zQi E s.heap.size (fun r μ1 ov1 => r = zb (0 < μ 63 6 ∧ μ 13 (n - 1) >>> (18 &&& 31) ≤ t) ∧ μ1 = μ ∧ ov1 = ov)) [Value.ref (zob E 3), Value.int t].toArray s 0 0 (zA E s.heap.size)) 0 [some (.ref (zob E 3)), some (.int (t))] [] μ ov
  refine z_aloadn (i := 0) (pc := 0) C dX0_isNextDue_0 rfl rfl ?_
  refine zg_X0_count (pc := 1) C dX0_isNextDue_1 iX0 f15 ?_
  refine z_if_le (tgt := 29) (pc := 4) C dX0_isNextDue_4 (by decide) (fun c_1 => ?_) (fun c_1 => ?_)
  · refine z_iconst (v := 0) (pc := 29) C dX0_isNextDue_29 (by decide) ?_
    exact z_zret (pc := 30) C hr hlk (by decide) ⟨by first | exact (zb_t ⟨znot_le c_1, znot_lt c_2⟩).symm | exact (zb_f (fun h => absurd ((zlt _ _).mp h.1) (by have := (zle2 _ _).mp c_1; omega))).symm | exact (zb_f (fun h => absurd ((zle2 _ _).mp h.2) (by have := (zlt _ _).mp c_2; omega))).symm, rfl, rfl⟩ (Nat.zero_le _) (Nat.zero_le _) dX0_isNextDue_30
  · have h0 : 0 < n := by
      rcases Nat.eq_zero_or_pos n with h | h
      · exact absurd (by rw [hc, h]; exact Int32.le_refl _) c_1
      · exact h
    refine z_aloadn (i := 0) (pc := 7) C dX0_isNextDue_7 rfl rfl ?_
    refine zg_X0_rows (pc := 8) C dX0_isNextDue_8 iX0 f11 ?_
    refine z_aloadn (i := 0) (pc := 11) C dX0_isNextDue_11 rfl rfl ?_
    refine zg_X0_count (pc := 12) C dX0_isNextDue_12 iX0 f15 ?_
    refine z_iconst (v := 1) (pc := 15) C dX0_isNextDue_15 (by decide) ?_
    refine z_isub (pc := 16) C dX0_isNextDue_16 ?_
    refine z_iald (pc := 17) C 13 (n - 1) (by decide) rfl (by rw [hc]; exact pk_sub h0) (show n - 1 < 40 by omega) dX0_isNextDue_17 ?_
    refine z_bipush (v := 18) (pc := 18) C dX0_isNextDue_18 (by decide) ?_
    refine z_ishr (pc := 20) C dX0_isNextDue_20 ?_
    refine z_iloadn (i := 1) (pc := 21) C dX0_isNextDue_21 rfl rfl ?_
    refine z_icmp_gt (tgt := 29) (pc := 22) C dX0_isNextDue_22 (by decide) (fun c_2 => ?_) (fun c_2 => ?_)
    · refine z_iconst (v := 0) (pc := 29) C dX0_isNextDue_29 (by decide) ?_
      exact z_zret (pc := 30) C hr hlk (by decide) ⟨by first | exact (zb_t ⟨znot_le c_1, znot_lt c_2⟩).symm | exact (zb_f (fun h => absurd ((zlt _ _).mp h.1) (by have := (zle2 _ _).mp c_1; omega))).symm | exact (zb_f (fun h => absurd ((zle2 _ _).mp h.2) (by have := (zlt _ _).mp c_2; omega))).symm, rfl, rfl⟩ (Nat.zero_le _) (Nat.zero_le _) dX0_isNextDue_30
    · refine z_iconst (v := 1) (pc := 25) C dX0_isNextDue_25 (by decide) ?_
      refine z_goto (tgt := 30) (pc := 26) C dX0_isNextDue_26 (by decide) ?_
      exact z_zret (pc := 30) C hr hlk (by decide) ⟨by first | exact (zb_t ⟨znot_le c_1, znot_lt c_2⟩).symm | exact (zb_f (fun h => absurd ((zlt _ _).mp h.1) (by have := (zle2 _ _).mp c_1; omega))).symm | exact (zb_f (fun h => absurd ((zle2 _ _).mp h.2) (by have := (zlt _ _).mp c_2; omega))).symm, rfl, rfl⟩ (Nat.zero_le _) (Nat.zero_le _) dX0_isNextDue_30
set_option maxHeartbeats 4000000 in
set_option maxRecDepth 100000 in
theorem c_X0_takeNext (l : Launch) (E : zE) (sa : Nat → Nat) {μ : zM} {ov : Nat → Int64} (n : Nat) (hc : μ 63 6 = nI (n + 1)) (hn : n < 40) : zMi l E sa yX0_takeNext wsX0_takeNext 0 0 0 0 [.ref (zob E 3)] μ ov (fun r μ1 ov1 => r = μ 13 n ∧ μ1 = zu μ 63 6 (nI n) ∧ ov1 = ov) := by
  refine z_ofMi (cc := cX0_takeNext) (nL := 1) (ret := (some .int)) (own := RX0) zfp_X0_takeNext rfl (by simp [Value.category]) (Nat.le_of_ble_eq_true rfl) rfl ?_
  intro p e s m below meth c C hr hlk
  have iX0 : ∀ w ∈ wsX00, w ∈ wsX0_takeNext := by decide +kernel
  have f11 := C.1.2.2.2.2 (.fieldLink RX0 11 "TickFall$Agenda" "rows" "[I") (by decide +kernel)
  have f15 := C.1.2.2.2.2 (.fieldLink RX0 15 "TickFall$Agenda" "count" "I") (by decide +kernel)
  show zW p l e (zR 0 0 0 0) s m [Value.ref (zob E 3)].toArray below meth c E 1 0 0 (MQ below (zQi E s.heap.size (fun r μ1 ov1 => r = μ 13 n ∧ μ1 = zu μ 63 6 (nI n) ∧ ov1 = ov)) [Value.ref (zob E 3)].toArray s 0 0 (zA E s.heap.size)) 0 [some (.ref (zob E 3))] [] μ ov
  refine z_aloadn (i := 0) (pc := 0) C dX0_takeNext_0 rfl rfl ?_
  refine z_dup (pc := 1) C dX0_takeNext_1 rfl ?_
  refine zg_X0_count (pc := 2) C dX0_takeNext_2 iX0 f15 ?_
  refine z_iconst (v := 1) (pc := 5) C dX0_takeNext_5 (by decide) ?_
  refine z_isub (pc := 6) C dX0_takeNext_6 ?_
  refine z_topi (y := nI n) (by rw [hc]; exact nI_pred n) ?_
  refine zp_X0_count (pc := 7) C dX0_takeNext_7 iX0 f15 ?_
  refine z_aloadn (i := 0) (pc := 10) C dX0_takeNext_10 rfl rfl ?_
  refine zg_X0_rows (pc := 11) C dX0_takeNext_11 iX0 f11 ?_
  refine z_aloadn (i := 0) (pc := 14) C dX0_takeNext_14 rfl rfl ?_
  refine zg_X0_count (pc := 15) C dX0_takeNext_15 iX0 f15 ?_
  refine z_iald (pc := 18) C 13 n (by decide) rfl (by rw [zu_s, upd_s]) (show n < 40 by omega) dX0_takeNext_18 ?_
  exact z_iret (pc := 19) C hr hlk ⟨by rw [zu_n _ _ _ (by decide)], rfl, rfl⟩ (Nat.zero_le _) (Nat.zero_le _) dX0_takeNext_19
/-- a row f of c things, with a gap at p: those behind p have gone up, and are below v -/
def zins (f : Nat → Int32) (c : Nat) (v : Int32) (p : Nat) (h : Nat → Int32) : Prop :=
  p ≤ c ∧ (∀ j, j < p → h j = f j) ∧ (∀ j, p < j → j ≤ c → h j = f (j - 1)) ∧ ∀ j, p ≤ j → j < c → f j < v
theorem zu_zur (μ : zM) (a i : Nat) (f : Nat → Int32) (x : Int32) : zu (zur μ a f) a i x = zur μ a (upd f i x) := by
  funext b
  by_cases h : b = a
  · subst h; rw [zu_s, zur_s, zur_s]
  · rw [zu_n _ _ _ h, zur_n _ _ h, zur_n _ _ h]
theorem zins_lo {f : Nat → Int32} {c : Nat} {v : Int32} {p : Nat} {h : Nat → Int32} (z : zins f c v p h) (hp : p = 0 ∨ v ≤ h (p - 1)) : p = 0 ∨ v ≤ f (p - 1) := by
  by_cases e : p = 0
  · exact Or.inl e
  · rcases hp with q | q
    · exact Or.inl q
    · exact Or.inr (by rw [← z.2.1 (p - 1) (by omega)]; exact q)
theorem zur_id (μ : zM) (a : Nat) : zur μ a (μ a) = μ := by
  funext b
  by_cases h : b = a
  · subst h; rw [zur_s]
  · rw [zur_n _ _ h]
theorem zins_go {f : Nat → Int32} {c : Nat} {v : Int32} {p : Nat} {h : Nat → Int32} (z : zins f c v (p + 1) h) (hv : ¬ v ≤ h p) : zins f c v p (upd h (p + 1) (h p)) := by
  obtain ⟨h1, h2, h3, h4⟩ := z
  refine ⟨by omega, fun j hj => by rw [upd_n _ _ (by omega)]; exact h2 j (by omega), fun j hj hc => ?_, fun j hj hc => ?_⟩
  · by_cases e : j = p + 1
    · subst e; rw [upd_s]; exact h2 p (by omega)
    · rw [upd_n _ _ e]; exact h3 j (by omega) hc
  · by_cases e : j = p
    · subst e; rw [← h2 j (by omega)]; exact znot_le hv
    · exact h4 j (by omega) hc
set_option maxHeartbeats 4000000 in
set_option maxRecDepth 100000 in
theorem c_X0_add (l : Launch) (E : zE) (sa : Nat → Nat) {μ : zM} {ov : Nat → Int64} {d k n a v : Int32} (c9 : Nat) (hv : d <<< (18 &&& 31) ||| k <<< (16 &&& 31) ||| n <<< (13 &&& 31) ||| (a + 500) = v) (hc : μ 63 6 = nI c9) (hc9 : c9 < 40) : zMv l E sa yX0_add wsX0_add 0 0 0 0 [.ref (zob E 3), .int d, .int k, .int n, .int a] μ ov (fun μ1 ov1 => (∃ (p : Nat) (h : Nat → Int32), zins (μ 13) c9 v p h ∧ (p = 0 ∨ v ≤ μ 13 (p - 1)) ∧ μ1 = zu (zur μ 13 (upd h p v)) 63 6 (nI (c9 + 1))) ∧ ov1 = ov) := by
  refine z_ofMv (cc := cX0_add) (nL := 7) (ret := none) (own := RX0) zfp_X0_add rfl (by simp [Value.category]) (Nat.le_of_ble_eq_true rfl) rfl ?_
  intro p e s m below meth c C hr hlk
  have iX0 : ∀ w ∈ wsX00, w ∈ wsX0_add := by decide +kernel
  have f11 := C.1.2.2.2.2 (.fieldLink RX0 11 "TickFall$Agenda" "rows" "[I") (by decide +kernel)
  have f15 := C.1.2.2.2.2 (.fieldLink RX0 15 "TickFall$Agenda" "count" "I") (by decide +kernel)
  show zW p l e (zR 0 0 0 0) s m [Value.ref (zob E 3), Value.int d, Value.int k, Value.int n, Value.int a].toArray below meth c E 7 0 0 (MQ below (zQv E s.heap.size (fun μ1 ov1 => (∃ (p : Nat) (h : Nat → Int32), zins (μ 13) c9 v p h ∧ (p = 0 ∨ v ≤ μ 13 (p - 1)) ∧ μ1 = zu (zur μ 13 (upd h p v)) 63 6 (nI (c9 + 1))) ∧ ov1 = ov)) [Value.ref (zob E 3), Value.int d, Value.int k, Value.int n, Value.int a].toArray s 0 0 (zA E s.heap.size)) 0 [some (.ref (zob E 3)), some (.int (d)), some (.int (k)), some (.int (n)), some (.int (a)), none, none] [] μ ov
  refine z_iloadn (i := 1) (pc := 0) C dX0_add_0 rfl rfl ?_
  refine z_bipush (v := 18) (pc := 1) C dX0_add_1 (by decide) ?_
  refine z_ishl (pc := 3) C dX0_add_3 ?_
  refine z_iloadn (i := 2) (pc := 4) C dX0_add_4 rfl rfl ?_
  refine z_bipush (v := 16) (pc := 5) C dX0_add_5 (by decide) ?_
  refine z_ishl (pc := 7) C dX0_add_7 ?_
  refine z_ior (pc := 8) C dX0_add_8 ?_
  refine z_iloadn (i := 3) (pc := 9) C dX0_add_9 rfl rfl ?_
  refine z_bipush (v := 13) (pc := 10) C dX0_add_10 (by decide) ?_
  refine z_ishl (pc := 12) C dX0_add_12 ?_
  refine z_ior (pc := 13) C dX0_add_13 ?_
  refine z_iload (i := 4) (pc := 14) C dX0_add_14 rfl ?_
  refine z_sipush (v := 500) (pc := 16) C dX0_add_16 (by decide) ?_
  refine z_iadd (pc := 19) C dX0_add_19 ?_
  refine z_ior (pc := 20) C dX0_add_20 ?_
  refine z_topi (y := v) hv ?_
  refine z_istore5 (pc := 21) C (by decide) (fun w hw => by cases hw; exact (show ¬ (1 = 2) from by decide)) dX0_add_21 ?_
  refine z_aloadn (i := 0) (pc := 23) C dX0_add_23 rfl rfl ?_
  refine zg_X0_count (pc := 24) C dX0_add_24 iX0 f15 ?_
  refine z_topi (y := nI c9) hc ?_
  refine z_istore6 (pc := 27) C (by decide) (fun w hw => by cases hw; exact (show ¬ (1 = 2) from by decide)) dX0_add_27 ?_
  have hX : ∀ (p7 : Nat) (h : Nat → Int32), zins (μ 13) c9 v p7 h → (p7 = 0 ∨ v ≤ h (p7 - 1)) → zW p l e (zR 0 0 0 0) s m [Value.ref (zob E 3), Value.int d, Value.int k, Value.int n, Value.int a].toArray below meth c E 7 0 0 (MQ below (zQv E s.heap.size (fun μ1 ov1 => (∃ (p : Nat) (h : Nat → Int32), zins (μ 13) c9 v p h ∧ (p = 0 ∨ v ≤ μ 13 (p - 1)) ∧ μ1 = zu (zur μ 13 (upd h p v)) 63 6 (nI (c9 + 1))) ∧ ov1 = ov)) [Value.ref (zob E 3), Value.int d, Value.int k, Value.int n, Value.int a].toArray s 0 0 (zA E s.heap.size)) 70 [some (.ref (zob E 3)), some (.int (d)), some (.int (k)), some (.int (n)), some (.int (a)), some (.int (v)), some (.int (nI p7))] [] (zur μ 13 h) ov := by
    intro p7 h hz hp
    have hp40 : p7 ≤ c9 := hz.1
    refine z_aloadn (i := 0) (pc := 70) C dX0_add_70 rfl rfl ?_
    refine zg_X0_rows (pc := 71) C dX0_add_71 iX0 f11 ?_
    refine z_iload (i := 6) (pc := 74) C dX0_add_74 rfl ?_
    refine z_iload (i := 5) (pc := 76) C dX0_add_76 rfl ?_
    refine z_iast (pc := 78) C 13 p7 (by decide) rfl rfl (show p7 < 40 by omega) dX0_add_78 ?_
    refine z_mem (μ' := (zur μ 13 (upd h p7 v))) (zu_zur μ 13 p7 h v) ?_
    refine z_aloadn (i := 0) (pc := 79) C dX0_add_79 rfl rfl ?_
    refine z_dup (pc := 80) C dX0_add_80 rfl ?_
    refine zg_X0_count (pc := 81) C dX0_add_81 iX0 f15 ?_
    refine z_iconst (v := 1) (pc := 84) C dX0_add_84 (by decide) ?_
    refine z_iadd (pc := 85) C dX0_add_85 ?_
    refine z_topi (y := nI (c9 + 1)) (by rw [zur_n _ _ (by decide), hc]; exact nI_1 c9) ?_
    refine zp_X0_count (pc := 86) C dX0_add_86 iX0 f15 ?_
    exact z_vret (pc := 89) C hr hlk ⟨⟨p7, h, hz, zins_lo hz hp, rfl⟩, rfl⟩ (Nat.zero_le _) (Nat.zero_le _) dX0_add_89
  have loop : ∀ (p7 : Nat) (h : Nat → Int32), zins (μ 13) c9 v p7 h → zW p l e (zR 0 0 0 0) s m [Value.ref (zob E 3), Value.int d, Value.int k, Value.int n, Value.int a].toArray below meth c E 7 0 0 (MQ below (zQv E s.heap.size (fun μ1 ov1 => (∃ (p : Nat) (h : Nat → Int32), zins (μ 13) c9 v p h ∧ (p = 0 ∨ v ≤ μ 13 (p - 1)) ∧ μ1 = zu (zur μ 13 (upd h p v)) 63 6 (nI (c9 + 1))) ∧ ov1 = ov)) [Value.ref (zob E 3), Value.int d, Value.int k, Value.int n, Value.int a].toArray s 0 0 (zA E s.heap.size)) 29 [some (.ref (zob E 3)), some (.int (d)), some (.int (k)), some (.int (n)), some (.int (a)), some (.int (v)), some (.int (nI p7))] [] (zur μ 13 h) ov := by
    intro p7
    induction p7 with
    | zero =>
      intro h hz
      refine z_iload (i := 6) (pc := 29) C dX0_add_29 rfl ?_
      refine z_if_le (tgt := 70) (pc := 31) C dX0_add_31 (by decide) (fun c_l => ?_) (fun c_l => ?_)
      · exact hX 0 h hz (Or.inl rfl)
      · exact absurd (by rw [nI_0]; exact Int32.le_refl _) c_l
    | succ p7 ih =>
      intro h hz
      have hp40 : p7 + 1 ≤ c9 := hz.1
      refine z_iload (i := 6) (pc := 29) C dX0_add_29 rfl ?_
      refine z_if_le (tgt := 70) (pc := 31) C dX0_add_31 (by decide) (fun c_l => ?_) (fun c_l => ?_)
      · exact absurd c_l (nI_nle (by omega) (by omega))
      · refine z_aloadn (i := 0) (pc := 34) C dX0_add_34 rfl rfl ?_
        refine zg_X0_rows (pc := 35) C dX0_add_35 iX0 f11 ?_
        refine z_iload (i := 6) (pc := 38) C dX0_add_38 rfl ?_
        refine z_iconst (v := 1) (pc := 40) C dX0_add_40 (by decide) ?_
        refine z_isub (pc := 41) C dX0_add_41 ?_
        refine z_iald (pc := 42) C 13 p7 (by decide) rfl (nI_pred p7) (show p7 < 40 by omega) dX0_add_42 ?_
        refine z_topi (y := h p7) (by rw [zur_s]) ?_
        refine z_iload (i := 5) (pc := 43) C dX0_add_43 rfl ?_
        refine z_icmp_ge (tgt := 70) (pc := 45) C dX0_add_45 (by decide) (fun c_2 => ?_) (fun c_2 => ?_)
        · exact hX (p7 + 1) h hz (Or.inr c_2)
        · refine z_aloadn (i := 0) (pc := 48) C dX0_add_48 rfl rfl ?_
          refine zg_X0_rows (pc := 49) C dX0_add_49 iX0 f11 ?_
          refine z_iload (i := 6) (pc := 52) C dX0_add_52 rfl ?_
          refine z_aloadn (i := 0) (pc := 54) C dX0_add_54 rfl rfl ?_
          refine zg_X0_rows (pc := 55) C dX0_add_55 iX0 f11 ?_
          refine z_iload (i := 6) (pc := 58) C dX0_add_58 rfl ?_
          refine z_iconst (v := 1) (pc := 60) C dX0_add_60 (by decide) ?_
          refine z_isub (pc := 61) C dX0_add_61 ?_
          refine z_iald (pc := 62) C 13 p7 (by decide) rfl (nI_pred p7) (show p7 < 40 by omega) dX0_add_62 ?_
          refine z_topi (y := h p7) (by rw [zur_s]) ?_
          refine z_iast (pc := 63) C 13 (p7 + 1) (by decide) rfl rfl (show p7 + 1 < 40 by omega) dX0_add_63 ?_
          refine z_mem (μ' := (zur μ 13 (upd h (p7 + 1) (h p7)))) (zu_zur μ 13 (p7 + 1) h (h p7)) ?_
          refine z_iinc6 (v := -1) (pc := 64) C (by decide) (by decide) (fun w hw => by cases hw; exact (show ¬ (1 = 2) from by decide)) dX0_add_64 ?_
          rw [pk_m1]
          refine z_goto (tgt := 29) (pc := 67) C dX0_add_67 (by decide) ?_
          exact ih _ (zins_go hz c_2)
  refine z_mem (μ' := zur μ 13 (μ 13)) (zur_id μ 13).symm ?_
  exact loop c9 (μ 13) ⟨Nat.le_refl _, fun _ _ => rfl, fun j h1 h2 => by omega, fun j h1 h2 => by omega⟩
