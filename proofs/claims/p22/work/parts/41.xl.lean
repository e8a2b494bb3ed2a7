set_option maxHeartbeats 4000000 in
set_option maxRecDepth 100000 in
theorem c_L_clock (l : Launch) (hfl : l.stackTraces = false) (E : zE) (sa : Nat → Nat) {μ : zM} {ov : Nat → Int64} {a b : Int32} (t c9 nc n : Nat) (H : zCI μ t c9 nc n) : zMi l E sa yL_clock wsL_clock 7 112 1 6 [.ref (zob E 0), .int a, .int b] μ ov (fun r μ1 ov1 => (((-500 ≤ a ∧ a ≤ 500) ∧ 0 ≤ b ∧ b ≤ 5000) ∧ (nc < 6) ∧ r = nI nc ∧ μ1 = zu (zu (zu (zu μ 2 nc a) 5 nc b) 4 nc 1) 63 4 (nI (nc + 1)) ∧ ov1 = ov) ∨ (¬ ((-500 ≤ a ∧ a ≤ 500) ∧ 0 ≤ b ∧ b ≤ 5000) ∧ r = -1000002 ∧ μ1 = μ ∧ ov1 = ov) ∨ (((-500 ≤ a ∧ a ≤ 500) ∧ 0 ≤ b ∧ b ≤ 5000) ∧ ¬ (nc < 6) ∧ r = -1000003 ∧ μ1 = μ ∧ ov1 = ov)) := by
  refine z_ofWi (cc := cL_clock) (nL := 4) (ret := (some .int)) (own := RL) zfp_L_clock rfl (by simp [Value.category]) (Nat.le_of_ble_eq_true rfl) rfl ?_
  intro p e s m below meth c C hr hlk htab
  show zW p l e (zR 7 112 1 6) s m [Value.ref (zob E 0), Value.int a, Value.int b].toArray below meth c E 4 0 0 (MQ below (zQi E s.heap.size (fun r μ1 ov1 => (((-500 ≤ a ∧ a ≤ 500) ∧ 0 ≤ b ∧ b ≤ 5000) ∧ (nc < 6) ∧ r = nI nc ∧ μ1 = zu (zu (zu (zu μ 2 nc a) 5 nc b) 4 nc 1) 63 4 (nI (nc + 1)) ∧ ov1 = ov) ∨ (¬ ((-500 ≤ a ∧ a ≤ 500) ∧ 0 ≤ b ∧ b ≤ 5000) ∧ r = -1000002 ∧ μ1 = μ ∧ ov1 = ov) ∨ (((-500 ≤ a ∧ a ≤ 500) ∧ 0 ≤ b ∧ b ≤ 5000) ∧ ¬ (nc < 6) ∧ r = -1000003 ∧ μ1 = μ ∧ ov1 = ov))) [Value.ref (zob E 0), Value.int a, Value.int b].toArray s 1 6 (zA E s.heap.size)) 0 [some (.ref (zob E 0)), some (.int (a)), some (.int (b)), none] [] μ ov
  refine z_aloadn (i := 0) (pc := 0) C dL_clock_0 rfl rfl ?_
  refine z_iloadn (i := 1) (pc := 1) C dL_clock_1 rfl rfl ?_
  refine z_iloadn (i := 2) (pc := 2) C dL_clock_2 rfl rfl ?_
  refine z_callXVi (pc := 3) (n := 2) (As := [.int (a), .int (b)]) (rest := []) C (c_X4_clock l hfl E sa (μ := μ) (ov := ov) (a := a) (b := b) t c9 nc n H) gL_clock_X4_clock rfl zfV_X4_clock ⟨Nat.le_of_ble_eq_true rfl, Nat.le_of_ble_eq_true rfl⟩ rfl (zRec_X4 E) rfl (Nat.le_of_ble_eq_true rfl) ⟨Nat.le_of_ble_eq_true rfl, Nat.le_of_ble_eq_true rfl⟩ dL_clock_3 (fun X q9 hpx => ?_) (fun r9 μ9 ov9 hp => ?_)
  · rcases hpx with ⟨h0, rfl⟩ | ⟨h0, h1, rfl⟩
    · refine z_catch C [] ⟨0, 6, 7, 16⟩ [⟨0, 6, 11, 19⟩] (by rw [htab]; rfl) (fun z hz => absurd hz List.not_mem_nil) (by decide) (by decide) (C.1.2.2.2.2 (.classLink RL 16 zIA) (by decide +kernel)) (C.2.2.1.2.2.1 zIA zEx_IA).1 ?_
      refine z_astore3 (pc := 7) C (by decide) (fun w hw => by cases hw; exact (show ¬ (1 = 2) from by decide)) dL_clock_7 ?_
      refine z_ldc (v := (-1000002)) (pc := 8) C dL_clock_8 (C.1.2.2.2.2 (.constant RL 18 (-1000002)) (by decide +kernel)) ?_
      exact z_iret (pc := 10) C hr hlk (Or.inr (Or.inl ⟨h0, rfl, rfl, rfl⟩)) (Nat.le_of_ble_eq_true rfl) (Nat.le_of_ble_eq_true rfl) dL_clock_10
    · refine z_catch C [⟨0, 6, 7, 16⟩] ⟨0, 6, 11, 19⟩ [] (by rw [htab]; rfl) (fun z hz => by rw [List.mem_singleton.mp hz]; exact Or.inr ⟨by decide, zIA, (C.1.2.2.2.2 (.classLink RL 16 zIA) (by decide +kernel)), C.2.2.1.2.2.2.1 zIS zEx_IS zIA zEx_IA (by decide)⟩) (by decide) (by decide) (C.1.2.2.2.2 (.classLink RL 19 zIS) (by decide +kernel)) (C.2.2.1.2.2.1 zIS zEx_IS).1 ?_
      refine z_astore3 (pc := 11) C (by decide) (fun w hw => by cases hw; exact (show ¬ (1 = 2) from by decide)) dL_clock_11 ?_
      refine z_ldc (v := (-1000003)) (pc := 12) C dL_clock_12 (C.1.2.2.2.2 (.constant RL 21 (-1000003)) (by decide +kernel)) ?_
      exact z_iret (pc := 14) C hr hlk (Or.inr (Or.inr ⟨h0, h1, rfl, rfl, rfl⟩)) (Nat.le_of_ble_eq_true rfl) (Nat.le_of_ble_eq_true rfl) dL_clock_14
  · exact z_iret (pc := 6) C hr hlk (Or.inl hp) (Nat.le_of_ble_eq_true rfl) (Nat.le_of_ble_eq_true rfl) dL_clock_6
set_option maxHeartbeats 4000000 in
set_option maxRecDepth 100000 in
theorem c_L_tell (l : Launch) (hfl : l.stackTraces = false) (E : zE) (sa : Nat → Nat) {μ : zM} {ov : Nat → Int64} {i d w : Int32} (t c9 nc n : Nat) (H : zCI μ t c9 nc n) : zMi l E sa yL_tell wsL_tell 7 114 1 6 [.ref (zob E 0), .int i, .int d, .int w] μ ov (fun r μ1 ov1 => ((0 ≤ i ∧ i < μ 63 4) ∧ ((-20 ≤ d ∧ d ≤ 20) ∧ 0 ≤ w ∧ w ≤ 100) ∧ r = μ 4 i.toNatClampNeg ∧ μ1 = zu (zu μ 3 i.toNatClampNeg d) 4 i.toNatClampNeg w ∧ ov1 = ov) ∨ (¬ (0 ≤ i ∧ i < μ 63 4) ∧ r = -1000001 ∧ μ1 = μ ∧ ov1 = ov) ∨ ((0 ≤ i ∧ i < μ 63 4) ∧ ¬ ((-20 ≤ d ∧ d ≤ 20) ∧ 0 ≤ w ∧ w ≤ 100) ∧ r = -1000002 ∧ μ1 = μ ∧ ov1 = ov)) := by
  refine z_ofWi (cc := cL_tell) (nL := 5) (ret := (some .int)) (own := RL) zfp_L_tell rfl (by simp [Value.category]) (Nat.le_of_ble_eq_true rfl) rfl ?_
  intro p e s m below meth c C hr hlk htab
  show zW p l e (zR 7 114 1 6) s m [Value.ref (zob E 0), Value.int i, Value.int d, Value.int w].toArray below meth c E 5 0 0 (MQ below (zQi E s.heap.size (fun r μ1 ov1 => ((0 ≤ i ∧ i < μ 63 4) ∧ ((-20 ≤ d ∧ d ≤ 20) ∧ 0 ≤ w ∧ w ≤ 100) ∧ r = μ 4 i.toNatClampNeg ∧ μ1 = zu (zu μ 3 i.toNatClampNeg d) 4 i.toNatClampNeg w ∧ ov1 = ov) ∨ (¬ (0 ≤ i ∧ i < μ 63 4) ∧ r = -1000001 ∧ μ1 = μ ∧ ov1 = ov) ∨ ((0 ≤ i ∧ i < μ 63 4) ∧ ¬ ((-20 ≤ d ∧ d ≤ 20) ∧ 0 ≤ w ∧ w ≤ 100) ∧ r = -1000002 ∧ μ1 = μ ∧ ov1 = ov))) [Value.ref (zob E 0), Value.int i, Value.int d, Value.int w].toArray s 1 6 (zA E s.heap.size)) 0 [some (.ref (zob E 0)), some (.int (i)), some (.int (d)), some (.int (w)), none] [] μ ov
  refine z_aloadn (i := 0) (pc := 0) C dL_tell_0 rfl rfl ?_
  refine z_iloadn (i := 1) (pc := 1) C dL_tell_1 rfl rfl ?_
  refine z_iloadn (i := 2) (pc := 2) C dL_tell_2 rfl rfl ?_
  refine z_iloadn (i := 3) (pc := 3) C dL_tell_3 rfl rfl ?_
  refine z_callXVi (pc := 4) (n := 3) (As := [.int (i), .int (d), .int (w)]) (rest := []) C (c_X4_tell l hfl E sa (μ := μ) (ov := ov) (i := i) (d := d) (w := w) t c9 nc n H) gL_tell_X4_tell rfl zfV_X4_tell ⟨Nat.le_of_ble_eq_true rfl, Nat.le_of_ble_eq_true rfl⟩ rfl (zRec_X4 E) rfl (Nat.le_of_ble_eq_true rfl) ⟨Nat.le_of_ble_eq_true rfl, Nat.le_of_ble_eq_true rfl⟩ dL_tell_4 (fun X q9 hpx => ?_) (fun r9 μ9 ov9 hp => ?_)
  · rcases hpx with ⟨h0, rfl⟩ | ⟨h0, h1, rfl⟩
    · refine z_catch C [] ⟨0, 7, 8, 26⟩ [⟨0, 7, 13, 16⟩] (by rw [htab]; rfl) (fun z hz => absurd hz List.not_mem_nil) (by decide) (by decide) (C.1.2.2.2.2 (.classLink RL 26 zIO) (by decide +kernel)) (C.2.2.1.2.2.1 zIO zEx_IO).1 ?_
      refine z_astore4 (pc := 8) C (by decide) (fun w hw => by cases hw; exact (show ¬ (1 = 2) from by decide)) dL_tell_8 ?_
      refine z_ldc (v := (-1000001)) (pc := 10) C dL_tell_10 (C.1.2.2.2.2 (.constant RL 28 (-1000001)) (by decide +kernel)) ?_
      exact z_iret (pc := 12) C hr hlk (Or.inr (Or.inl ⟨h0, rfl, rfl, rfl⟩)) (Nat.le_of_ble_eq_true rfl) (Nat.le_of_ble_eq_true rfl) dL_tell_12
    · refine z_catch C [⟨0, 7, 8, 26⟩] ⟨0, 7, 13, 16⟩ [] (by rw [htab]; rfl) (fun z hz => by rw [List.mem_singleton.mp hz]; exact Or.inr ⟨by decide, zIO, (C.1.2.2.2.2 (.classLink RL 26 zIO) (by decide +kernel)), C.2.2.1.2.2.2.1 zIA zEx_IA zIO zEx_IO (by decide)⟩) (by decide) (by decide) (C.1.2.2.2.2 (.classLink RL 16 zIA) (by decide +kernel)) (C.2.2.1.2.2.1 zIA zEx_IA).1 ?_
      refine z_astore4 (pc := 13) C (by decide) (fun w hw => by cases hw; exact (show ¬ (1 = 2) from by decide)) dL_tell_13 ?_
      refine z_ldc (v := (-1000002)) (pc := 15) C dL_tell_15 (C.1.2.2.2.2 (.constant RL 18 (-1000002)) (by decide +kernel)) ?_
      exact z_iret (pc := 17) C hr hlk (Or.inr (Or.inr ⟨h0, h1, rfl, rfl, rfl⟩)) (Nat.le_of_ble_eq_true rfl) (Nat.le_of_ble_eq_true rfl) dL_tell_17
  · exact z_iret (pc := 7) C hr hlk (Or.inl hp) (Nat.le_of_ble_eq_true rfl) (Nat.le_of_ble_eq_true rfl) dL_tell_7
set_option maxHeartbeats 4000000 in
set_option maxRecDepth 100000 in
theorem c_L_link (l : Launch) (hfl : l.stackTraces = false) (E : zE) (sa : Nat → Nat) {μ : zM} {ov : Nat → Int64} {i j d : Int32} (t c9 nc n : Nat) (H : zCI μ t c9 nc n) : zMi l E sa yL_link wsL_link 7 113 1 6 [.ref (zob E 0), .int i, .int j, .int d] μ ov (fun r μ1 ov1 => (((0 ≤ i ∧ i < μ 63 4) ∧ 0 ≤ j ∧ j < μ 63 4) ∧ (¬ i = j ∧ -50 ≤ d ∧ d ≤ 50) ∧ (n < 8) ∧ r = nI n ∧ μ1 = zu (zu (zu (zu (zu μ 7 n i) 8 n j) 9 n d) 11 n (μ 63 0)) 63 5 (nI (n + 1)) ∧ ov1 = ov) ∨ (¬ ((0 ≤ i ∧ i < μ 63 4) ∧ 0 ≤ j ∧ j < μ 63 4) ∧ r = -1000001 ∧ μ1 = μ ∧ ov1 = ov) ∨ (((0 ≤ i ∧ i < μ 63 4) ∧ 0 ≤ j ∧ j < μ 63 4) ∧ ¬ (¬ i = j ∧ -50 ≤ d ∧ d ≤ 50) ∧ r = -1000002 ∧ μ1 = μ ∧ ov1 = ov) ∨ (((0 ≤ i ∧ i < μ 63 4) ∧ 0 ≤ j ∧ j < μ 63 4) ∧ (¬ i = j ∧ -50 ≤ d ∧ d ≤ 50) ∧ ¬ (n < 8) ∧ r = -1000003 ∧ μ1 = μ ∧ ov1 = ov)) := by
  refine z_ofWi (cc := cL_link) (nL := 5) (ret := (some .int)) (own := RL) zfp_L_link rfl (by simp [Value.category]) (Nat.le_of_ble_eq_true rfl) rfl ?_
  intro p e s m below meth c C hr hlk htab
  show zW p l e (zR 7 113 1 6) s m [Value.ref (zob E 0), Value.int i, Value.int j, Value.int d].toArray below meth c E 5 0 0 (MQ below (zQi E s.heap.size (fun r μ1 ov1 => (((0 ≤ i ∧ i < μ 63 4) ∧ 0 ≤ j ∧ j < μ 63 4) ∧ (¬ i = j ∧ -50 ≤ d ∧ d ≤ 50) ∧ (n < 8) ∧ r = nI n ∧ μ1 = zu (zu (zu (zu (zu μ 7 n i) 8 n j) 9 n d) 11 n (μ 63 0)) 63 5 (nI (n + 1)) ∧ ov1 = ov) ∨ (¬ ((0 ≤ i ∧ i < μ 63 4) ∧ 0 ≤ j ∧ j < μ 63 4) ∧ r = -1000001 ∧ μ1 = μ ∧ ov1 = ov) ∨ (((0 ≤ i ∧ i < μ 63 4) ∧ 0 ≤ j ∧ j < μ 63 4) ∧ ¬ (¬ i = j ∧ -50 ≤ d ∧ d ≤ 50) ∧ r = -1000002 ∧ μ1 = μ ∧ ov1 = ov) ∨ (((0 ≤ i ∧ i < μ 63 4) ∧ 0 ≤ j ∧ j < μ 63 4) ∧ (¬ i = j ∧ -50 ≤ d ∧ d ≤ 50) ∧ ¬ (n < 8) ∧ r = -1000003 ∧ μ1 = μ ∧ ov1 = ov))) [Value.ref (zob E 0), Value.int i, Value.int j, Value.int d].toArray s 1 6 (zA E s.heap.size)) 0 [some (.ref (zob E 0)), some (.int (i)), some (.int (j)), some (.int (d)), none] [] μ ov
  refine z_aloadn (i := 0) (pc := 0) C dL_link_0 rfl rfl ?_
  refine z_iloadn (i := 1) (pc := 1) C dL_link_1 rfl rfl ?_
  refine z_iloadn (i := 2) (pc := 2) C dL_link_2 rfl rfl ?_
  refine z_iloadn (i := 3) (pc := 3) C dL_link_3 rfl rfl ?_
  refine z_callXVi (pc := 4) (n := 3) (As := [.int (i), .int (j), .int (d)]) (rest := []) C (c_X4_link l hfl E sa (μ := μ) (ov := ov) (i := i) (j := j) (d := d) t c9 nc n H) gL_link_X4_link rfl zfV_X4_link ⟨Nat.le_of_ble_eq_true rfl, Nat.le_of_ble_eq_true rfl⟩ rfl (zRec_X4 E) rfl (Nat.le_of_ble_eq_true rfl) ⟨Nat.le_of_ble_eq_true rfl, Nat.le_of_ble_eq_true rfl⟩ dL_link_4 (fun X q9 hpx => ?_) (fun r9 μ9 ov9 hp => ?_)
  · rcases hpx with ⟨h0, rfl⟩ | ⟨h0, h1, rfl⟩ | ⟨h0, h1, h2, rfl⟩
    · refine z_catch C [] ⟨0, 7, 8, 26⟩ [⟨0, 7, 13, 16⟩, ⟨0, 7, 18, 19⟩] (by rw [htab]; rfl) (fun z hz => absurd hz List.not_mem_nil) (by decide) (by decide) (C.1.2.2.2.2 (.classLink RL 26 zIO) (by decide +kernel)) (C.2.2.1.2.2.1 zIO zEx_IO).1 ?_
      refine z_astore4 (pc := 8) C (by decide) (fun w hw => by cases hw; exact (show ¬ (1 = 2) from by decide)) dL_link_8 ?_
      refine z_ldc (v := (-1000001)) (pc := 10) C dL_link_10 (C.1.2.2.2.2 (.constant RL 28 (-1000001)) (by decide +kernel)) ?_
      exact z_iret (pc := 12) C hr hlk (Or.inr (Or.inl ⟨h0, rfl, rfl, rfl⟩)) (Nat.le_of_ble_eq_true rfl) (Nat.le_of_ble_eq_true rfl) dL_link_12
    · refine z_catch C [⟨0, 7, 8, 26⟩] ⟨0, 7, 13, 16⟩ [⟨0, 7, 18, 19⟩] (by rw [htab]; rfl) (fun z hz => by rw [List.mem_singleton.mp hz]; exact Or.inr ⟨by decide, zIO, (C.1.2.2.2.2 (.classLink RL 26 zIO) (by decide +kernel)), C.2.2.1.2.2.2.1 zIA zEx_IA zIO zEx_IO (by decide)⟩) (by decide) (by decide) (C.1.2.2.2.2 (.classLink RL 16 zIA) (by decide +kernel)) (C.2.2.1.2.2.1 zIA zEx_IA).1 ?_
      refine z_astore4 (pc := 13) C (by decide) (fun w hw => by cases hw; exact (show ¬ (1 = 2) from by decide)) dL_link_13 ?_
      refine z_ldc (v := (-1000002)) (pc := 15) C dL_link_15 (C.1.2.2.2.2 (.constant RL 18 (-1000002)) (by decide +kernel)) ?_
      exact z_iret (pc := 17) C hr hlk (Or.inr (Or.inr (Or.inl ⟨h0, h1, rfl, rfl, rfl⟩))) (Nat.le_of_ble_eq_true rfl) (Nat.le_of_ble_eq_true rfl) dL_link_17
    · refine z_catch C [⟨0, 7, 8, 26⟩, ⟨0, 7, 13, 16⟩] ⟨0, 7, 18, 19⟩ [] (by rw [htab]; rfl) (fun z hz => by rcases List.mem_cons.mp hz with hz | hz; (rw [hz]; exact Or.inr ⟨by decide, zIO, (C.1.2.2.2.2 (.classLink RL 26 zIO) (by decide +kernel)), C.2.2.1.2.2.2.1 zIS zEx_IS zIO zEx_IO (by decide)⟩); (rw [List.mem_singleton.mp hz]; exact Or.inr ⟨by decide, zIA, (C.1.2.2.2.2 (.classLink RL 16 zIA) (by decide +kernel)), C.2.2.1.2.2.2.1 zIS zEx_IS zIA zEx_IA (by decide)⟩)) (by decide) (by decide) (C.1.2.2.2.2 (.classLink RL 19 zIS) (by decide +kernel)) (C.2.2.1.2.2.1 zIS zEx_IS).1 ?_
      refine z_astore4 (pc := 18) C (by decide) (fun w hw => by cases hw; exact (show ¬ (1 = 2) from by decide)) dL_link_18 ?_
      refine z_ldc (v := (-1000003)) (pc := 20) C dL_link_20 (C.1.2.2.2.2 (.constant RL 21 (-1000003)) (by decide +kernel)) ?_
      exact z_iret (pc := 22) C hr hlk (Or.inr (Or.inr (Or.inr ⟨h0, h1, h2, rfl, rfl, rfl⟩))) (Nat.le_of_ble_eq_true rfl) (Nat.le_of_ble_eq_true rfl) dL_link_22
  · exact z_iret (pc := 7) C hr hlk (Or.inl hp) (Nat.le_of_ble_eq_true rfl) (Nat.le_of_ble_eq_true rfl) dL_link_7
set_option maxHeartbeats 4000000 in
set_option maxRecDepth 100000 in
theorem c_L_event (l : Launch) (hfl : l.stackTraces = false) (E : zE) (sa : Nat → Nat) {μ : zM} {ov : Nat → Int64} {d k i a : Int32} (t c9 nc n : Nat) (H : zCI μ t c9 nc n) : zMi l E sa yL_event wsL_event 7 115 1 6 [.ref (zob E 0), .int d, .int k, .int i, .int a] μ ov (fun r μ1 ov1 => ((μ 63 0 < d ∧ d ≤ 500 ∧ 0 ≤ k ∧ k ≤ 3) ∧ (((k = 0 ∨ k = 1) ∧ 0 ≤ i ∧ i < μ 63 4) ∨ (¬ (k = 0 ∨ k = 1) ∧ 0 ≤ i ∧ i < μ 63 5)) ∧ (zamt k a ∧ c9 < 40) ∧ r = nI (c9 + 1) ∧ (∃ (p : Nat) (h : Nat → Int32), zins (μ 13) c9 (zevC d k i a) p h ∧ (p = 0 ∨ zevC d k i a ≤ μ 13 (p - 1)) ∧ μ1 = zu (zur μ 13 (upd h p (zevC d k i a))) 63 6 (nI (c9 + 1))) ∧ ov1 = ov) ∨ (¬ (μ 63 0 < d ∧ d ≤ 500 ∧ 0 ≤ k ∧ k ≤ 3) ∧ r = -1000002 ∧ μ1 = μ ∧ ov1 = ov) ∨ ((μ 63 0 < d ∧ d ≤ 500 ∧ 0 ≤ k ∧ k ≤ 3) ∧ ¬ (((k = 0 ∨ k = 1) ∧ 0 ≤ i ∧ i < μ 63 4) ∨ (¬ (k = 0 ∨ k = 1) ∧ 0 ≤ i ∧ i < μ 63 5)) ∧ r = -1000001 ∧ μ1 = μ ∧ ov1 = ov) ∨ ((μ 63 0 < d ∧ d ≤ 500 ∧ 0 ≤ k ∧ k ≤ 3) ∧ (((k = 0 ∨ k = 1) ∧ 0 ≤ i ∧ i < μ 63 4) ∨ (¬ (k = 0 ∨ k = 1) ∧ 0 ≤ i ∧ i < μ 63 5)) ∧ ¬ (zamt k a ∧ c9 < 40) ∧ r = -1000003 ∧ μ1 = μ ∧ ov1 = ov)) := by
  refine z_ofWi (cc := cL_event) (nL := 6) (ret := (some .int)) (own := RL) zfp_L_event rfl (by simp [Value.category]) (Nat.le_of_ble_eq_true rfl) rfl ?_
  intro p e s m below meth c C hr hlk htab
  show zW p l e (zR 7 115 1 6) s m [Value.ref (zob E 0), Value.int d, Value.int k, Value.int i, Value.int a].toArray below meth c E 6 0 0 (MQ below (zQi E s.heap.size (fun r μ1 ov1 => ((μ 63 0 < d ∧ d ≤ 500 ∧ 0 ≤ k ∧ k ≤ 3) ∧ (((k = 0 ∨ k = 1) ∧ 0 ≤ i ∧ i < μ 63 4) ∨ (¬ (k = 0 ∨ k = 1) ∧ 0 ≤ i ∧ i < μ 63 5)) ∧ (zamt k a ∧ c9 < 40) ∧ r = nI (c9 + 1) ∧ (∃ (p : Nat) (h : Nat → Int32), zins (μ 13) c9 (zevC d k i a) p h ∧ (p = 0 ∨ zevC d k i a ≤ μ 13 (p - 1)) ∧ μ1 = zu (zur μ 13 (upd h p (zevC d k i a))) 63 6 (nI (c9 + 1))) ∧ ov1 = ov) ∨ (¬ (μ 63 0 < d ∧ d ≤ 500 ∧ 0 ≤ k ∧ k ≤ 3) ∧ r = -1000002 ∧ μ1 = μ ∧ ov1 = ov) ∨ ((μ 63 0 < d ∧ d ≤ 500 ∧ 0 ≤ k ∧ k ≤ 3) ∧ ¬ (((k = 0 ∨ k = 1) ∧ 0 ≤ i ∧ i < μ 63 4) ∨ (¬ (k = 0 ∨ k = 1) ∧ 0 ≤ i ∧ i < μ 63 5)) ∧ r = -1000001 ∧ μ1 = μ ∧ ov1 = ov) ∨ ((μ 63 0 < d ∧ d ≤ 500 ∧ 0 ≤ k ∧ k ≤ 3) ∧ (((k = 0 ∨ k = 1) ∧ 0 ≤ i ∧ i < μ 63 4) ∨ (¬ (k = 0 ∨ k = 1) ∧ 0 ≤ i ∧ i < μ 63 5)) ∧ ¬ (zamt k a ∧ c9 < 40) ∧ r = -1000003 ∧ μ1 = μ ∧ ov1 = ov))) [Value.ref (zob E 0), Value.int d, Value.int k, Value.int i, Value.int a].toArray s 1 6 (zA E s.heap.size)) 0 [some (.ref (zob E 0)), some (.int (d)), some (.int (k)), some (.int (i)), some (.int (a)), none] [] μ ov
  refine z_aloadn (i := 0) (pc := 0) C dL_event_0 rfl rfl ?_
  refine z_iloadn (i := 1) (pc := 1) C dL_event_1 rfl rfl ?_
  refine z_iloadn (i := 2) (pc := 2) C dL_event_2 rfl rfl ?_
  refine z_iloadn (i := 3) (pc := 3) C dL_event_3 rfl rfl ?_
  refine z_iload (i := 4) (pc := 4) C dL_event_4 rfl ?_
  refine z_callXVi (pc := 6) (n := 4) (As := [.int (d), .int (k), .int (i), .int (a)]) (rest := []) C (c_X4_event l hfl E sa (μ := μ) (ov := ov) (d := d) (k := k) (i := i) (a := a) t c9 nc n H) gL_event_X4_event rfl zfV_X4_event ⟨Nat.le_of_ble_eq_true rfl, Nat.le_of_ble_eq_true rfl⟩ rfl (zRec_X4 E) rfl (Nat.le_of_ble_eq_true rfl) ⟨Nat.le_of_ble_eq_true rfl, Nat.le_of_ble_eq_true rfl⟩ dL_event_6 (fun X q9 hpx => ?_) (fun r9 μ9 ov9 hp => ?_)
  · rcases hpx with ⟨h0, rfl⟩ | ⟨h0, h1, rfl⟩ | ⟨h0, h1, h2, rfl⟩
    · refine z_catch C [⟨0, 9, 10, 26⟩] ⟨0, 9, 15, 16⟩ [⟨0, 9, 20, 19⟩] (by rw [htab]; rfl) (fun z hz => by rw [List.mem_singleton.mp hz]; exact Or.inr ⟨by decide, zIO, (C.1.2.2.2.2 (.classLink RL 26 zIO) (by decide +kernel)), C.2.2.1.2.2.2.1 zIA zEx_IA zIO zEx_IO (by decide)⟩) (by decide) (by decide) (C.1.2.2.2.2 (.classLink RL 16 zIA) (by decide +kernel)) (C.2.2.1.2.2.1 zIA zEx_IA).1 ?_
      refine z_astore5 (pc := 15) C (by decide) (fun w hw => by cases hw; exact (show ¬ (1 = 2) from by decide)) dL_event_15 ?_
      refine z_ldc (v := (-1000002)) (pc := 17) C dL_event_17 (C.1.2.2.2.2 (.constant RL 18 (-1000002)) (by decide +kernel)) ?_
      exact z_iret (pc := 19) C hr hlk (Or.inr (Or.inl ⟨h0, rfl, rfl, rfl⟩)) (Nat.le_of_ble_eq_true rfl) (Nat.le_of_ble_eq_true rfl) dL_event_19
    · refine z_catch C [] ⟨0, 9, 10, 26⟩ [⟨0, 9, 15, 16⟩, ⟨0, 9, 20, 19⟩] (by rw [htab]; rfl) (fun z hz => absurd hz List.not_mem_nil) (by decide) (by decide) (C.1.2.2.2.2 (.classLink RL 26 zIO) (by decide +kernel)) (C.2.2.1.2.2.1 zIO zEx_IO).1 ?_
      refine z_astore5 (pc := 10) C (by decide) (fun w hw => by cases hw; exact (show ¬ (1 = 2) from by decide)) dL_event_10 ?_
      refine z_ldc (v := (-1000001)) (pc := 12) C dL_event_12 (C.1.2.2.2.2 (.constant RL 28 (-1000001)) (by decide +kernel)) ?_
      exact z_iret (pc := 14) C hr hlk (Or.inr (Or.inr (Or.inl ⟨h0, h1, rfl, rfl, rfl⟩))) (Nat.le_of_ble_eq_true rfl) (Nat.le_of_ble_eq_true rfl) dL_event_14
    · refine z_catch C [⟨0, 9, 10, 26⟩, ⟨0, 9, 15, 16⟩] ⟨0, 9, 20, 19⟩ [] (by rw [htab]; rfl) (fun z hz => by rcases List.mem_cons.mp hz with hz | hz; (rw [hz]; exact Or.inr ⟨by decide, zIO, (C.1.2.2.2.2 (.classLink RL 26 zIO) (by decide +kernel)), C.2.2.1.2.2.2.1 zIS zEx_IS zIO zEx_IO (by decide)⟩); (rw [List.mem_singleton.mp hz]; exact Or.inr ⟨by decide, zIA, (C.1.2.2.2.2 (.classLink RL 16 zIA) (by decide +kernel)), C.2.2.1.2.2.2.1 zIS zEx_IS zIA zEx_IA (by decide)⟩)) (by decide) (by decide) (C.1.2.2.2.2 (.classLink RL 19 zIS) (by decide +kernel)) (C.2.2.1.2.2.1 zIS zEx_IS).1 ?_
      refine z_astore5 (pc := 20) C (by decide) (fun w hw => by cases hw; exact (show ¬ (1 = 2) from by decide)) dL_event_20 ?_
      refine z_ldc (v := (-1000003)) (pc := 22) C dL_event_22 (C.1.2.2.2.2 (.constant RL 21 (-1000003)) (by decide +kernel)) ?_
      exact z_iret (pc := 24) C hr hlk (Or.inr (Or.inr (Or.inr ⟨h0, h1, h2, rfl, rfl, rfl⟩))) (Nat.le_of_ble_eq_true rfl) (Nat.le_of_ble_eq_true rfl) dL_event_24
  · exact z_iret (pc := 9) C hr hlk (Or.inl hp) (Nat.le_of_ble_eq_true rfl) (Nat.le_of_ble_eq_true rfl) dL_event_9
set_option maxHeartbeats 4000000 in
set_option maxRecDepth 100000 in
theorem c_L_calibrate (l : Launch) (hfl : l.stackTraces = false) (E : zE) (sa : Nat → Nat) {μ : zM} {ov : Nat → Int64} {i a b x : Int32} (t c9 nc n : Nat) (H : zCI μ t c9 nc n) : zMi l E sa yL_calibrate wsL_calibrate 7 114 1 6 [.ref (zob E 0), .int i, .int a, .int b, .int x] μ ov (fun r μ1 ov1 => ((0 ≤ i ∧ i < μ 63 5) ∧ ((0 ≤ a ∧ a ≤ 500) ∧ (a ≤ b ∧ b ≤ 500) ∧ -10000 ≤ x ∧ x ≤ 10000) ∧ (μ 12 i.toNatClampNeg < 10) ∧ r = μ 12 i.toNatClampNeg + 1 ∧ μ1 = zu (zitr (fun j μ => zu μ (30 + i.toNatClampNeg) (a.toNatClampNeg + j) (μ (30 + i.toNatClampNeg) (a.toNatClampNeg + j) + x)) (b.toNatClampNeg + 1 - a.toNatClampNeg) μ) 12 i.toNatClampNeg (μ 12 i.toNatClampNeg + 1) ∧ ov1 = ov) ∨ (¬ (0 ≤ i ∧ i < μ 63 5) ∧ r = -1000001 ∧ μ1 = μ ∧ ov1 = ov) ∨ ((0 ≤ i ∧ i < μ 63 5) ∧ ¬ ((0 ≤ a ∧ a ≤ 500) ∧ (a ≤ b ∧ b ≤ 500) ∧ -10000 ≤ x ∧ x ≤ 10000) ∧ r = -1000002 ∧ μ1 = μ ∧ ov1 = ov) ∨ ((0 ≤ i ∧ i < μ 63 5) ∧ ((0 ≤ a ∧ a ≤ 500) ∧ (a ≤ b ∧ b ≤ 500) ∧ -10000 ≤ x ∧ x ≤ 10000) ∧ ¬ (μ 12 i.toNatClampNeg < 10) ∧ r = -1000003 ∧ μ1 = μ ∧ ov1 = ov)) := by
  refine z_ofWi (cc := cL_calibrate) (nL := 6) (ret := (some .int)) (own := RL) zfp_L_calibrate rfl (by simp [Value.category]) (Nat.le_of_ble_eq_true rfl) rfl ?_
  intro p e s m below meth c C hr hlk htab
  show zW p l e (zR 7 114 1 6) s m [Value.ref (zob E 0), Value.int i, Value.int a, Value.int b, Value.int x].toArray below meth c E 6 0 0 (MQ below (zQi E s.heap.size (fun r μ1 ov1 => ((0 ≤ i ∧ i < μ 63 5) ∧ ((0 ≤ a ∧ a ≤ 500) ∧ (a ≤ b ∧ b ≤ 500) ∧ -10000 ≤ x ∧ x ≤ 10000) ∧ (μ 12 i.toNatClampNeg < 10) ∧ r = μ 12 i.toNatClampNeg + 1 ∧ μ1 = zu (zitr (fun j μ => zu μ (30 + i.toNatClampNeg) (a.toNatClampNeg + j) (μ (30 + i.toNatClampNeg) (a.toNatClampNeg + j) + x)) (b.toNatClampNeg + 1 - a.toNatClampNeg) μ) 12 i.toNatClampNeg (μ 12 i.toNatClampNeg + 1) ∧ ov1 = ov) ∨ (¬ (0 ≤ i ∧ i < μ 63 5) ∧ r = -1000001 ∧ μ1 = μ ∧ ov1 = ov) ∨ ((0 ≤ i ∧ i < μ 63 5) ∧ ¬ ((0 ≤ a ∧ a ≤ 500) ∧ (a ≤ b ∧ b ≤ 500) ∧ -10000 ≤ x ∧ x ≤ 10000) ∧ r = -1000002 ∧ μ1 = μ ∧ ov1 = ov) ∨ ((0 ≤ i ∧ i < μ 63 5) ∧ ((0 ≤ a ∧ a ≤ 500) ∧ (a ≤ b ∧ b ≤ 500) ∧ -10000 ≤ x ∧ x ≤ 10000) ∧ ¬ (μ 12 i.toNatClampNeg < 10) ∧ r = -1000003 ∧ μ1 = μ ∧ ov1 = ov))) [Value.ref (zob E 0), Value.int i, Value.int a, Value.int b, Value.int x].toArray s 1 6 (zA E s.heap.size)) 0 [some (.ref (zob E 0)), some (.int (i)), some (.int (a)), some (.int (b)), some (.int (x)), none] [] μ ov
  refine z_aloadn (i := 0) (pc := 0) C dL_calibrate_0 rfl rfl ?_
  refine z_iloadn (i := 1) (pc := 1) C dL_calibrate_1 rfl rfl ?_
  refine z_iloadn (i := 2) (pc := 2) C dL_calibrate_2 rfl rfl ?_
  refine z_iloadn (i := 3) (pc := 3) C dL_calibrate_3 rfl rfl ?_
  refine z_iload (i := 4) (pc := 4) C dL_calibrate_4 rfl ?_
  refine z_callXVi (pc := 6) (n := 4) (As := [.int (i), .int (a), .int (b), .int (x)]) (rest := []) C (c_X4_calibrate l hfl E sa (μ := μ) (ov := ov) (i := i) (a := a) (b := b) (x := x) t c9 nc n H) gL_calibrate_X4_calibrate rfl zfV_X4_calibrate ⟨Nat.le_of_ble_eq_true rfl, Nat.le_of_ble_eq_true rfl⟩ rfl (zRec_X4 E) rfl (Nat.le_of_ble_eq_true rfl) ⟨Nat.le_of_ble_eq_true rfl, Nat.le_of_ble_eq_true rfl⟩ dL_calibrate_6 (fun X q9 hpx => ?_) (fun r9 μ9 ov9 hp => ?_)
  · rcases hpx with ⟨h0, rfl⟩ | ⟨h0, h1, rfl⟩ | ⟨h0, h1, h2, rfl⟩
    · refine z_catch C [] ⟨0, 9, 10, 26⟩ [⟨0, 9, 15, 16⟩, ⟨0, 9, 20, 19⟩] (by rw [htab]; rfl) (fun z hz => absurd hz List.not_mem_nil) (by decide) (by decide) (C.1.2.2.2.2 (.classLink RL 26 zIO) (by decide +kernel)) (C.2.2.1.2.2.1 zIO zEx_IO).1 ?_
      refine z_astore5 (pc := 10) C (by decide) (fun w hw => by cases hw; exact (show ¬ (1 = 2) from by decide)) dL_calibrate_10 ?_
      refine z_ldc (v := (-1000001)) (pc := 12) C dL_calibrate_12 (C.1.2.2.2.2 (.constant RL 28 (-1000001)) (by decide +kernel)) ?_
      exact z_iret (pc := 14) C hr hlk (Or.inr (Or.inl ⟨h0, rfl, rfl, rfl⟩)) (Nat.le_of_ble_eq_true rfl) (Nat.le_of_ble_eq_true rfl) dL_calibrate_14
    · refine z_catch C [⟨0, 9, 10, 26⟩] ⟨0, 9, 15, 16⟩ [⟨0, 9, 20, 19⟩] (by rw [htab]; rfl) (fun z hz => by rw [List.mem_singleton.mp hz]; exact Or.inr ⟨by decide, zIO, (C.1.2.2.2.2 (.classLink RL 26 zIO) (by decide +kernel)), C.2.2.1.2.2.2.1 zIA zEx_IA zIO zEx_IO (by decide)⟩) (by decide) (by decide) (C.1.2.2.2.2 (.classLink RL 16 zIA) (by decide +kernel)) (C.2.2.1.2.2.1 zIA zEx_IA).1 ?_
      refine z_astore5 (pc := 15) C (by decide) (fun w hw => by cases hw; exact (show ¬ (1 = 2) from by decide)) dL_calibrate_15 ?_
      refine z_ldc (v := (-1000002)) (pc := 17) C dL_calibrate_17 (C.1.2.2.2.2 (.constant RL 18 (-1000002)) (by decide +kernel)) ?_
      exact z_iret (pc := 19) C hr hlk (Or.inr (Or.inr (Or.inl ⟨h0, h1, rfl, rfl, rfl⟩))) (Nat.le_of_ble_eq_true rfl) (Nat.le_of_ble_eq_true rfl) dL_calibrate_19
    · refine z_catch C [⟨0, 9, 10, 26⟩, ⟨0, 9, 15, 16⟩] ⟨0, 9, 20, 19⟩ [] (by rw [htab]; rfl) (fun z hz => by rcases List.mem_cons.mp hz with hz | hz; (rw [hz]; exact Or.inr ⟨by decide, zIO, (C.1.2.2.2.2 (.classLink RL 26 zIO) (by decide +kernel)), C.2.2.1.2.2.2.1 zIS zEx_IS zIO zEx_IO (by decide)⟩); (rw [List.mem_singleton.mp hz]; exact Or.inr ⟨by decide, zIA, (C.1.2.2.2.2 (.classLink RL 16 zIA) (by decide +kernel)), C.2.2.1.2.2.2.1 zIS zEx_IS zIA zEx_IA (by decide)⟩)) (by decide) (by decide) (C.1.2.2.2.2 (.classLink RL 19 zIS) (by decide +kernel)) (C.2.2.1.2.2.1 zIS zEx_IS).1 ?_
      refine z_astore5 (pc := 20) C (by decide) (fun w hw => by cases hw; exact (show ¬ (1 = 2) from by decide)) dL_calibrate_20 ?_
      refine z_ldc (v := (-1000003)) (pc := 22) C dL_calibrate_22 (C.1.2.2.2.2 (.constant RL 21 (-1000003)) (by decide +kernel)) ?_
      exact z_iret (pc := 24) C hr hlk (Or.inr (Or.inr (Or.inr ⟨h0, h1, h2, rfl, rfl, rfl⟩))) (Nat.le_of_ble_eq_true rfl) (Nat.le_of_ble_eq_true rfl) dL_calibrate_24
  · exact z_iret (pc := 9) C hr hlk (Or.inl hp) (Nat.le_of_ble_eq_true rfl) (Nat.le_of_ble_eq_true rfl) dL_calibrate_9
set_option maxHeartbeats 4000000 in
set_option maxRecDepth 100000 in
theorem c_L_bounds (l : Launch) (hfl : l.stackTraces = false) (E : zE) (sa : Nat → Nat) {μ : zM} {ov : Nat → Int64} {a b : Int32} (t c9 nc n : Nat) (H : zCI μ t c9 nc n) : zMi l E sa yL_bounds wsL_bounds 7 112 1 6 [.ref (zob E 0), .int a, .int b] μ ov (fun r μ1 ov1 => (r = 0 ∧ ((0 ≤ a ∧ a ≤ 499) ∧ 1 ≤ b ∧ b ≤ 1000) ∧ μ1 = zu (zu μ 63 1 a) 63 2 b ∧ ov1 = ov) ∨ (¬ ((0 ≤ a ∧ a ≤ 499) ∧ 1 ≤ b ∧ b ≤ 1000) ∧ r = -1000002 ∧ μ1 = μ ∧ ov1 = ov)) := by
  refine z_ofWi (cc := cL_bounds) (nL := 4) (ret := (some .int)) (own := RL) zfp_L_bounds rfl (by simp [Value.category]) (Nat.le_of_ble_eq_true rfl) rfl ?_
  intro p e s m below meth c C hr hlk htab
  show zW p l e (zR 7 112 1 6) s m [Value.ref (zob E 0), Value.int a, Value.int b].toArray below meth c E 4 0 0 (MQ below (zQi E s.heap.size (fun r μ1 ov1 => (r = 0 ∧ ((0 ≤ a ∧ a ≤ 499) ∧ 1 ≤ b ∧ b ≤ 1000) ∧ μ1 = zu (zu μ 63 1 a) 63 2 b ∧ ov1 = ov) ∨ (¬ ((0 ≤ a ∧ a ≤ 499) ∧ 1 ≤ b ∧ b ≤ 1000) ∧ r = -1000002 ∧ μ1 = μ ∧ ov1 = ov))) [Value.ref (zob E 0), Value.int a, Value.int b].toArray s 1 6 (zA E s.heap.size)) 0 [some (.ref (zob E 0)), some (.int (a)), some (.int (b)), none] [] μ ov
  refine z_aloadn (i := 0) (pc := 0) C dL_bounds_0 rfl rfl ?_
  refine z_iloadn (i := 1) (pc := 1) C dL_bounds_1 rfl rfl ?_
  refine z_iloadn (i := 2) (pc := 2) C dL_bounds_2 rfl rfl ?_
  refine z_callXVv (pc := 3) (n := 2) (As := [.int (a), .int (b)]) (rest := []) C (c_X4_bounds l hfl E sa (μ := μ) (ov := ov) (a := a) (b := b) t c9 nc n H) gL_bounds_X4_bounds rfl zfV_X4_bounds ⟨Nat.le_of_ble_eq_true rfl, Nat.le_of_ble_eq_true rfl⟩ rfl (zRec_X4 E) rfl (Nat.le_of_ble_eq_true rfl) ⟨Nat.le_of_ble_eq_true rfl, Nat.le_of_ble_eq_true rfl⟩ dL_bounds_3 (fun X q9 hpx => ?_) (fun μ9 ov9 hp => ?_)
  · rcases hpx with ⟨h0, rfl⟩
    · refine z_catch C [] ⟨0, 7, 8, 16⟩ [] (by rw [htab]; rfl) (fun z hz => absurd hz List.not_mem_nil) (by decide) (by decide) (C.1.2.2.2.2 (.classLink RL 16 zIA) (by decide +kernel)) (C.2.2.1.2.2.1 zIA zEx_IA).1 ?_
      refine z_astore3 (pc := 8) C (by decide) (fun w hw => by cases hw; exact (show ¬ (1 = 2) from by decide)) dL_bounds_8 ?_
      refine z_ldc (v := (-1000002)) (pc := 9) C dL_bounds_9 (C.1.2.2.2.2 (.constant RL 18 (-1000002)) (by decide +kernel)) ?_
      exact z_iret (pc := 11) C hr hlk (Or.inr ⟨h0, rfl, rfl, rfl⟩) (Nat.le_of_ble_eq_true rfl) (Nat.le_of_ble_eq_true rfl) dL_bounds_11
  · refine z_iconst (v := 0) (pc := 6) C dL_bounds_6 (by decide) ?_
    exact z_iret (pc := 7) C hr hlk (Or.inl ⟨rfl, hp⟩) (Nat.le_of_ble_eq_true rfl) (Nat.le_of_ble_eq_true rfl) dL_bounds_7
set_option maxHeartbeats 4000000 in
set_option maxRecDepth 100000 in
theorem c_L_pass (l : Launch) (hfl : l.stackTraces = false) (E : zE) (sa : Nat → Nat) {μ : zM} {ov : Nat → Int64} {f : Int32} (t c9 nc n : Nat) (H : zCI μ t c9 nc n) : zMi l E sa yL_pass wsL_pass 7 139 1 6 [.ref (zob E 0), .int f] μ ov (fun r μ1 ov1 => ((1 ≤ f ∧ f ≤ 50) ∧ (f ≤ 500 - μ 63 0) ∧ r = zpas f.toNatClampNeg μ 63 0 ∧ μ1 = zpas f.toNatClampNeg μ ∧ ov1 = ov) ∨ (¬ (1 ≤ f ∧ f ≤ 50) ∧ r = -1000002 ∧ μ1 = μ ∧ ov1 = ov) ∨ ((1 ≤ f ∧ f ≤ 50) ∧ ¬ (f ≤ 500 - μ 63 0) ∧ r = -1000003 ∧ μ1 = μ ∧ ov1 = ov)) := by
  refine z_ofWi (cc := cL_pass) (nL := 3) (ret := (some .int)) (own := RL) zfp_L_pass rfl (by simp [Value.category]) (Nat.le_of_ble_eq_true rfl) rfl ?_
  intro p e s m below meth c C hr hlk htab
  show zW p l e (zR 7 139 1 6) s m [Value.ref (zob E 0), Value.int f].toArray below meth c E 3 0 0 (MQ below (zQi E s.heap.size (fun r μ1 ov1 => ((1 ≤ f ∧ f ≤ 50) ∧ (f ≤ 500 - μ 63 0) ∧ r = zpas f.toNatClampNeg μ 63 0 ∧ μ1 = zpas f.toNatClampNeg μ ∧ ov1 = ov) ∨ (¬ (1 ≤ f ∧ f ≤ 50) ∧ r = -1000002 ∧ μ1 = μ ∧ ov1 = ov) ∨ ((1 ≤ f ∧ f ≤ 50) ∧ ¬ (f ≤ 500 - μ 63 0) ∧ r = -1000003 ∧ μ1 = μ ∧ ov1 = ov))) [Value.ref (zob E 0), Value.int f].toArray s 1 6 (zA E s.heap.size)) 0 [some (.ref (zob E 0)), some (.int (f)), none] [] μ ov
  refine z_aloadn (i := 0) (pc := 0) C dL_pass_0 rfl rfl ?_
  refine z_iloadn (i := 1) (pc := 1) C dL_pass_1 rfl rfl ?_
  refine z_callXVi (pc := 2) (n := 1) (As := [.int (f)]) (rest := []) C (c_X4_pass l hfl E sa (μ := μ) (ov := ov) (f := f) t c9 nc n H) gL_pass_X4_pass rfl zfV_X4_pass ⟨Nat.le_of_ble_eq_true rfl, Nat.le_of_ble_eq_true rfl⟩ rfl (zRec_X4 E) rfl (Nat.le_of_ble_eq_true rfl) ⟨Nat.le_of_ble_eq_true rfl, Nat.le_of_ble_eq_true rfl⟩ dL_pass_2 (fun X q9 hpx => ?_) (fun r9 μ9 ov9 hp => ?_)
  · rcases hpx with ⟨h0, rfl⟩ | ⟨h0, h1, rfl⟩
    · refine z_catch C [] ⟨0, 5, 6, 16⟩ [⟨0, 5, 10, 19⟩] (by rw [htab]; rfl) (fun z hz => absurd hz List.not_mem_nil) (by decide) (by decide) (C.1.2.2.2.2 (.classLink RL 16 zIA) (by decide +kernel)) (C.2.2.1.2.2.1 zIA zEx_IA).1 ?_
      refine z_astore2 (pc := 6) C (by decide) (fun w hw => by cases hw; exact (show ¬ (1 = 2) from by decide)) dL_pass_6 ?_
      refine z_ldc (v := (-1000002)) (pc := 7) C dL_pass_7 (C.1.2.2.2.2 (.constant RL 18 (-1000002)) (by decide +kernel)) ?_
      exact z_iret (pc := 9) C hr hlk (Or.inr (Or.inl ⟨h0, rfl, rfl, rfl⟩)) (Nat.le_of_ble_eq_true rfl) (Nat.le_of_ble_eq_true rfl) dL_pass_9
    · refine z_catch C [⟨0, 5, 6, 16⟩] ⟨0, 5, 10, 19⟩ [] (by rw [htab]; rfl) (fun z hz => by rw [List.mem_singleton.mp hz]; exact Or.inr ⟨by decide, zIA, (C.1.2.2.2.2 (.classLink RL 16 zIA) (by decide +kernel)), C.2.2.1.2.2.2.1 zIS zEx_IS zIA zEx_IA (by decide)⟩) (by decide) (by decide) (C.1.2.2.2.2 (.classLink RL 19 zIS) (by decide +kernel)) (C.2.2.1.2.2.1 zIS zEx_IS).1 ?_
      refine z_astore2 (pc := 10) C (by decide) (fun w hw => by cases hw; exact (show ¬ (1 = 2) from by decide)) dL_pass_10 ?_
      refine z_ldc (v := (-1000003)) (pc := 11) C dL_pass_11 (C.1.2.2.2.2 (.constant RL 21 (-1000003)) (by decide +kernel)) ?_
      exact z_iret (pc := 13) C hr hlk (Or.inr (Or.inr ⟨h0, h1, rfl, rfl, rfl⟩)) (Nat.le_of_ble_eq_true rfl) (Nat.le_of_ble_eq_true rfl) dL_pass_13
  · exact z_iret (pc := 5) C hr hlk (Or.inl hp) (Nat.le_of_ble_eq_true rfl) (Nat.le_of_ble_eq_true rfl) dL_pass_5
set_option maxHeartbeats 4000000 in
set_option maxRecDepth 100000 in
theorem c_L_vote (l : Launch) (hfl : l.stackTraces = false) (E : zE) (sa : Nat → Nat) {μ : zM} {ov : Nat → Int64} {i b : Int32} (hb : b = 0 ∨ b = 1) (t c9 nc n : Nat) (H : zCI μ t c9 nc n) : zMi l E sa yL_vote wsL_vote 7 112 1 6 [.ref (zob E 0), .int i, .int b] μ ov (fun r μ1 ov1 => ((0 ≤ i ∧ i ≤ 6) ∧ r = nI (zcnt (zhou (zu μ 1 i.toNatClampNeg b)) 7) ∧ μ1 = zu μ 1 i.toNatClampNeg b ∧ ov1 = ov) ∨ (¬ (0 ≤ i ∧ i ≤ 6) ∧ r = -1000001 ∧ μ1 = μ ∧ ov1 = ov)) := by
  refine z_ofWi (cc := cL_vote) (nL := 4) (ret := (some .int)) (own := RL) zfp_L_vote rfl (by simp [Value.category]) (Nat.le_of_ble_eq_true rfl) rfl ?_
  intro p e s m below meth c C hr hlk htab
  show zW p l e (zR 7 112 1 6) s m [Value.ref (zob E 0), Value.int i, Value.int b].toArray below meth c E 4 0 0 (MQ below (zQi E s.heap.size (fun r μ1 ov1 => ((0 ≤ i ∧ i ≤ 6) ∧ r = nI (zcnt (zhou (zu μ 1 i.toNatClampNeg b)) 7) ∧ μ1 = zu μ 1 i.toNatClampNeg b ∧ ov1 = ov) ∨ (¬ (0 ≤ i ∧ i ≤ 6) ∧ r = -1000001 ∧ μ1 = μ ∧ ov1 = ov))) [Value.ref (zob E 0), Value.int i, Value.int b].toArray s 1 6 (zA E s.heap.size)) 0 [some (.ref (zob E 0)), some (.int (i)), some (.int (b)), none] [] μ ov
  refine z_aloadn (i := 0) (pc := 0) C dL_vote_0 rfl rfl ?_
  refine z_iloadn (i := 1) (pc := 1) C dL_vote_1 rfl rfl ?_
  refine z_iloadn (i := 2) (pc := 2) C dL_vote_2 rfl rfl ?_
  refine z_callXVi (pc := 3) (n := 2) (As := [.int (i), .int (b)]) (rest := []) C (c_X4_vote l hfl E sa (μ := μ) (ov := ov) (i := i) (b := b) hb t c9 nc n H) gL_vote_X4_vote rfl zfV_X4_vote ⟨Nat.le_of_ble_eq_true rfl, Nat.le_of_ble_eq_true rfl⟩ rfl (zRec_X4 E) rfl (Nat.le_of_ble_eq_true rfl) ⟨Nat.le_of_ble_eq_true rfl, Nat.le_of_ble_eq_true rfl⟩ dL_vote_3 (fun X q9 hpx => ?_) (fun r9 μ9 ov9 hp => ?_)
  · rcases hpx with ⟨h0, rfl⟩
    · refine z_catch C [] ⟨0, 6, 7, 26⟩ [] (by rw [htab]; rfl) (fun z hz => absurd hz List.not_mem_nil) (by decide) (by decide) (C.1.2.2.2.2 (.classLink RL 26 zIO) (by decide +kernel)) (C.2.2.1.2.2.1 zIO zEx_IO).1 ?_
      refine z_astore3 (pc := 7) C (by decide) (fun w hw => by cases hw; exact (show ¬ (1 = 2) from by decide)) dL_vote_7 ?_
      refine z_ldc (v := (-1000001)) (pc := 8) C dL_vote_8 (C.1.2.2.2.2 (.constant RL 28 (-1000001)) (by decide +kernel)) ?_
      exact z_iret (pc := 10) C hr hlk (Or.inr ⟨h0, rfl, rfl, rfl⟩) (Nat.le_of_ble_eq_true rfl) (Nat.le_of_ble_eq_true rfl) dL_vote_10
  · exact z_iret (pc := 6) C hr hlk (Or.inl hp) (Nat.le_of_ble_eq_true rfl) (Nat.le_of_ble_eq_true rfl) dL_vote_6
set_option maxHeartbeats 4000000 in
set_option maxRecDepth 100000 in
theorem c_L_adopt (l : Launch) (hfl : l.stackTraces = false) (E : zE) (sa : Nat → Nat) {μ : zM} {ov : Nat → Int64}  (t c9 nc n : Nat) (H : zCI μ t c9 nc n) : zMi l E sa yL_adopt wsL_adopt 7 160 1 6 [.ref (zob E 0)] μ ov (fun r μ1 ov1 => ((μ 63 3 = 0 ∧ ¬ μ 63 0 = 0) ∧ r = zb (5 ≤ zcnt (zhou μ) 7 ∧ nI (zopen μ t n) = 0) ∧ (∃ ν, zScr μ ν ∧ μ1 = zu ν 63 3 (zb (5 ≤ zcnt (zhou μ) 7 ∧ nI (zopen μ t n) = 0))) ∧ ov1 = ov) ∨ (¬ (μ 63 3 = 0 ∧ ¬ μ 63 0 = 0) ∧ r = -1000003 ∧ μ1 = μ ∧ ov1 = ov)) := by
  refine z_ofWi (cc := cL_adopt) (nL := 2) (ret := (some .int)) (own := RL) zfp_L_adopt rfl (by simp [Value.category]) (Nat.le_of_ble_eq_true rfl) rfl ?_
  intro p e s m below meth c C hr hlk htab
  show zW p l e (zR 7 160 1 6) s m [Value.ref (zob E 0)].toArray below meth c E 2 0 0 (MQ below (zQi E s.heap.size (fun r μ1 ov1 => ((μ 63 3 = 0 ∧ ¬ μ 63 0 = 0) ∧ r = zb (5 ≤ zcnt (zhou μ) 7 ∧ nI (zopen μ t n) = 0) ∧ (∃ ν, zScr μ ν ∧ μ1 = zu ν 63 3 (zb (5 ≤ zcnt (zhou μ) 7 ∧ nI (zopen μ t n) = 0))) ∧ ov1 = ov) ∨ (¬ (μ 63 3 = 0 ∧ ¬ μ 63 0 = 0) ∧ r = -1000003 ∧ μ1 = μ ∧ ov1 = ov))) [Value.ref (zob E 0)].toArray s 1 6 (zA E s.heap.size)) 0 [some (.ref (zob E 0)), none] [] μ ov
  refine z_aloadn (i := 0) (pc := 0) C dL_adopt_0 rfl rfl ?_
  refine z_callXVi (pc := 1) (n := 0) (As := []) (rest := []) C (c_X4_adopt l hfl E sa (μ := μ) (ov := ov) t c9 nc n H) gL_adopt_X4_adopt rfl zfV_X4_adopt ⟨Nat.le_of_ble_eq_true rfl, Nat.le_of_ble_eq_true rfl⟩ rfl (zRec_X4 E) rfl (Nat.le_of_ble_eq_true rfl) ⟨Nat.le_of_ble_eq_true rfl, Nat.le_of_ble_eq_true rfl⟩ dL_adopt_1 (fun X q9 hpx => ?_) (fun r9 μ9 ov9 hp => ?_)
  · rcases hpx with ⟨h0, rfl⟩
    · refine z_catch C [] ⟨0, 12, 13, 19⟩ [] (by rw [htab]; rfl) (fun z hz => absurd hz List.not_mem_nil) (by decide) (by decide) (C.1.2.2.2.2 (.classLink RL 19 zIS) (by decide +kernel)) (C.2.2.1.2.2.1 zIS zEx_IS).1 ?_
      refine z_astore1 (pc := 13) C (by decide) (fun w hw => by cases hw; exact (show ¬ (1 = 2) from by decide)) dL_adopt_13 ?_
      refine z_ldc (v := (-1000003)) (pc := 14) C dL_adopt_14 (C.1.2.2.2.2 (.constant RL 21 (-1000003)) (by decide +kernel)) ?_
      exact z_iret (pc := 16) C hr hlk (Or.inr ⟨h0, rfl, rfl, rfl⟩) (Nat.le_of_ble_eq_true rfl) (Nat.le_of_ble_eq_true rfl) dL_adopt_16
  · refine z_if_eq (tgt := 11) (pc := 4) C dL_adopt_4 (by decide) (fun c_1 => ?_) (fun c_1 => ?_)
    · refine z_iconst (v := 0) (pc := 11) C dL_adopt_11 (by decide) ?_
      exact z_iret (pc := 12) C hr hlk (Or.inl ⟨hp.1, (c_1.symm).trans hp.2.1, hp.2.2⟩) (Nat.le_of_ble_eq_true rfl) (Nat.le_of_ble_eq_true rfl) dL_adopt_12
    · refine z_iconst (v := 1) (pc := 7) C dL_adopt_7 (by decide) ?_
      refine z_goto (tgt := 12) (pc := 8) C dL_adopt_8 (by decide) ?_
      exact z_iret (pc := 12) C hr hlk (Or.inl ⟨hp.1, ((show (1 : Int32) = r9 from by have h := hp.2.1; rw [h] at c_1 ⊢; rw [zb_ne0] at c_1; exact (zb_t c_1).symm)).trans hp.2.1, hp.2.2⟩) (Nat.le_of_ble_eq_true rfl) (Nat.le_of_ble_eq_true rfl) dL_adopt_12
set_option maxHeartbeats 4000000 in
set_option maxRecDepth 100000 in
theorem c_L_of (l : Launch) (hfl : l.stackTraces = false) (E : zE) (sa : Nat → Nat) {μ : zM} {ov : Nat → Int64} {i w : Int32} (t c9 nc n : Nat) (H : zCI μ t c9 nc n) : zMi l E sa yL_of wsL_of 7 112 1 6 [.ref (zob E 0), .int i, .int w] μ ov (fun r μ1 ov1 => ((0 ≤ i ∧ i < μ 63 4) ∧ (0 ≤ w ∧ w ≤ 2) ∧ r = (if w = 0 then μ 6 i.toNatClampNeg else if w = 1 then μ 2 i.toNatClampNeg else μ 5 i.toNatClampNeg) ∧ μ1 = μ ∧ ov1 = ov) ∨ (¬ (0 ≤ i ∧ i < μ 63 4) ∧ r = -1000001 ∧ μ1 = μ ∧ ov1 = ov) ∨ ((0 ≤ i ∧ i < μ 63 4) ∧ ¬ (0 ≤ w ∧ w ≤ 2) ∧ r = -1000002 ∧ μ1 = μ ∧ ov1 = ov)) := by
  refine z_ofWi (cc := cL_of) (nL := 4) (ret := (some .int)) (own := RL) zfp_L_of rfl (by simp [Value.category]) (Nat.le_of_ble_eq_true rfl) rfl ?_
  intro p e s m below meth c C hr hlk htab
  show zW p l e (zR 7 112 1 6) s m [Value.ref (zob E 0), Value.int i, Value.int w].toArray below meth c E 4 0 0 (MQ below (zQi E s.heap.size (fun r μ1 ov1 => ((0 ≤ i ∧ i < μ 63 4) ∧ (0 ≤ w ∧ w ≤ 2) ∧ r = (if w = 0 then μ 6 i.toNatClampNeg else if w = 1 then μ 2 i.toNatClampNeg else μ 5 i.toNatClampNeg) ∧ μ1 = μ ∧ ov1 = ov) ∨ (¬ (0 ≤ i ∧ i < μ 63 4) ∧ r = -1000001 ∧ μ1 = μ ∧ ov1 = ov) ∨ ((0 ≤ i ∧ i < μ 63 4) ∧ ¬ (0 ≤ w ∧ w ≤ 2) ∧ r = -1000002 ∧ μ1 = μ ∧ ov1 = ov))) [Value.ref (zob E 0), Value.int i, Value.int w].toArray s 1 6 (zA E s.heap.size)) 0 [some (.ref (zob E 0)), some (.int (i)), some (.int (w)), none] [] μ ov
  refine z_aloadn (i := 0) (pc := 0) C dL_of_0 rfl rfl ?_
  refine z_iloadn (i := 1) (pc := 1) C dL_of_1 rfl rfl ?_
  refine z_iloadn (i := 2) (pc := 2) C dL_of_2 rfl rfl ?_
  refine z_callXVi (pc := 3) (n := 2) (As := [.int (i), .int (w)]) (rest := []) C (c_X4_of l hfl E sa (μ := μ) (ov := ov) (i := i) (w := w) t c9 nc n H) gL_of_X4_of rfl zfV_X4_of ⟨Nat.le_of_ble_eq_true rfl, Nat.le_of_ble_eq_true rfl⟩ rfl (zRec_X4 E) rfl (Nat.le_of_ble_eq_true rfl) ⟨Nat.le_of_ble_eq_true rfl, Nat.le_of_ble_eq_true rfl⟩ dL_of_3 (fun X q9 hpx => ?_) (fun r9 μ9 ov9 hp => ?_)
  · rcases hpx with ⟨h0, rfl⟩ | ⟨h0, h1, rfl⟩
    · refine z_catch C [] ⟨0, 6, 7, 26⟩ [⟨0, 6, 11, 16⟩] (by rw [htab]; rfl) (fun z hz => absurd hz List.not_mem_nil) (by decide) (by decide) (C.1.2.2.2.2 (.classLink RL 26 zIO) (by decide +kernel)) (C.2.2.1.2.2.1 zIO zEx_IO).1 ?_
      refine z_astore3 (pc := 7) C (by decide) (fun w hw => by cases hw; exact (show ¬ (1 = 2) from by decide)) dL_of_7 ?_
      refine z_ldc (v := (-1000001)) (pc := 8) C dL_of_8 (C.1.2.2.2.2 (.constant RL 28 (-1000001)) (by decide +kernel)) ?_
      exact z_iret (pc := 10) C hr hlk (Or.inr (Or.inl ⟨h0, rfl, rfl, rfl⟩)) (Nat.le_of_ble_eq_true rfl) (Nat.le_of_ble_eq_true rfl) dL_of_10
    · refine z_catch C [⟨0, 6, 7, 26⟩] ⟨0, 6, 11, 16⟩ [] (by rw [htab]; rfl) (fun z hz => by rw [List.mem_singleton.mp hz]; exact Or.inr ⟨by decide, zIO, (C.1.2.2.2.2 (.classLink RL 26 zIO) (by decide +kernel)), C.2.2.1.2.2.2.1 zIA zEx_IA zIO zEx_IO (by decide)⟩) (by decide) (by decide) (C.1.2.2.2.2 (.classLink RL 16 zIA) (by decide +kernel)) (C.2.2.1.2.2.1 zIA zEx_IA).1 ?_
      refine z_astore3 (pc := 11) C (by decide) (fun w hw => by cases hw; exact (show ¬ (1 = 2) from by decide)) dL_of_11 ?_
      refine z_ldc (v := (-1000002)) (pc := 12) C dL_of_12 (C.1.2.2.2.2 (.constant RL 18 (-1000002)) (by decide +kernel)) ?_
      exact z_iret (pc := 14) C hr hlk (Or.inr (Or.inr ⟨h0, h1, rfl, rfl, rfl⟩)) (Nat.le_of_ble_eq_true rfl) (Nat.le_of_ble_eq_true rfl) dL_of_14
  · exact z_iret (pc := 6) C hr hlk (Or.inl hp) (Nat.le_of_ble_eq_true rfl) (Nat.le_of_ble_eq_true rfl) dL_of_6
set_option maxHeartbeats 4000000 in
set_option maxRecDepth 100000 in
theorem c_L_measured (l : Launch) (hfl : l.stackTraces = false) (E : zE) (sa : Nat → Nat) {μ : zM} {ov : Nat → Int64} {i d b : Int32} (t c9 nc n : Nat) (H : zCI μ t c9 nc n) : zMi l E sa yL_measured wsL_measured 7 113 1 6 [.ref (zob E 0), .int i, .int d, .int b] μ ov (fun r μ1 ov1 => ((zmea μ i d) ∧ r = (if b = 0 then μ (22 + i.toNatClampNeg) d.toNatClampNeg else zcorX μ i.toNatClampNeg d.toNatClampNeg) ∧ μ1 = μ ∧ ov1 = ov) ∨ (¬ (zmea μ i d) ∧ r = -1000001 ∧ μ1 = μ ∧ ov1 = ov)) := by
  refine z_ofWi (cc := cL_measured) (nL := 5) (ret := (some .int)) (own := RL) zfp_L_measured rfl (by simp [Value.category]) (Nat.le_of_ble_eq_true rfl) rfl ?_
  intro p e s m below meth c C hr hlk htab
  show zW p l e (zR 7 113 1 6) s m [Value.ref (zob E 0), Value.int i, Value.int d, Value.int b].toArray below meth c E 5 0 0 (MQ below (zQi E s.heap.size (fun r μ1 ov1 => ((zmea μ i d) ∧ r = (if b = 0 then μ (22 + i.toNatClampNeg) d.toNatClampNeg else zcorX μ i.toNatClampNeg d.toNatClampNeg) ∧ μ1 = μ ∧ ov1 = ov) ∨ (¬ (zmea μ i d) ∧ r = -1000001 ∧ μ1 = μ ∧ ov1 = ov))) [Value.ref (zob E 0), Value.int i, Value.int d, Value.int b].toArray s 1 6 (zA E s.heap.size)) 0 [some (.ref (zob E 0)), some (.int (i)), some (.int (d)), some (.int (b)), none] [] μ ov
  refine z_aloadn (i := 0) (pc := 0) C dL_measured_0 rfl rfl ?_
  refine z_iloadn (i := 1) (pc := 1) C dL_measured_1 rfl rfl ?_
  refine z_iloadn (i := 2) (pc := 2) C dL_measured_2 rfl rfl ?_
  refine z_iloadn (i := 3) (pc := 3) C dL_measured_3 rfl rfl ?_
  refine z_callXVi (pc := 4) (n := 3) (As := [.int (i), .int (d), .int (b)]) (rest := []) C (c_X4_measured l hfl E sa (μ := μ) (ov := ov) (i := i) (d := d) (b := b) t c9 nc n H) gL_measured_X4_measured rfl zfV_X4_measured ⟨Nat.le_of_ble_eq_true rfl, Nat.le_of_ble_eq_true rfl⟩ rfl (zRec_X4 E) rfl (Nat.le_of_ble_eq_true rfl) ⟨Nat.le_of_ble_eq_true rfl, Nat.le_of_ble_eq_true rfl⟩ dL_measured_4 (fun X q9 hpx => ?_) (fun r9 μ9 ov9 hp => ?_)
  · rcases hpx with ⟨h0, rfl⟩
    · refine z_catch C [] ⟨0, 7, 8, 26⟩ [] (by rw [htab]; rfl) (fun z hz => absurd hz List.not_mem_nil) (by decide) (by decide) (C.1.2.2.2.2 (.classLink RL 26 zIO) (by decide +kernel)) (C.2.2.1.2.2.1 zIO zEx_IO).1 ?_
      refine z_astore4 (pc := 8) C (by decide) (fun w hw => by cases hw; exact (show ¬ (1 = 2) from by decide)) dL_measured_8 ?_
      refine z_ldc (v := (-1000001)) (pc := 10) C dL_measured_10 (C.1.2.2.2.2 (.constant RL 28 (-1000001)) (by decide +kernel)) ?_
      exact z_iret (pc := 12) C hr hlk (Or.inr ⟨h0, rfl, rfl, rfl⟩) (Nat.le_of_ble_eq_true rfl) (Nat.le_of_ble_eq_true rfl) dL_measured_12
  · exact z_iret (pc := 7) C hr hlk (Or.inl hp) (Nat.le_of_ble_eq_true rfl) (Nat.le_of_ble_eq_true rfl) dL_measured_7
set_option maxHeartbeats 4000000 in
set_option maxRecDepth 100000 in
theorem c_L_closes (l : Launch) (hfl : l.stackTraces = false) (E : zE) (sa : Nat → Nat) {μ : zM} {ov : Nat → Int64} {a b c8 d : Int32} (t c9 nc n : Nat) (H : zCI μ t c9 nc n) : zMi l E sa yL_closes wsL_closes 7 117 1 6 [.ref (zob E 0), .int a, .int b, .int c8, .int d] μ ov (fun r μ1 ov1 => ((zmea μ a d ∧ zmea μ b d ∧ zmea μ c8 d) ∧ ((zbits (μ 7 a.toNatClampNeg) (μ 8 a.toNatClampNeg) ^^^ zbits (μ 7 b.toNatClampNeg) (μ 8 b.toNatClampNeg) ^^^ zbits (μ 7 c8.toNatClampNeg) (μ 8 c8.toNatClampNeg) = 0)) ∧ r = zsum μ d.toNatClampNeg (zord a.toNatClampNeg b.toNatClampNeg c8.toNatClampNeg) ∧ μ1 = μ ∧ ov1 = ov) ∨ (¬ (zmea μ a d ∧ zmea μ b d ∧ zmea μ c8 d) ∧ r = -1000001 ∧ μ1 = μ ∧ ov1 = ov) ∨ ((zmea μ a d ∧ zmea μ b d ∧ zmea μ c8 d) ∧ ¬ ((zbits (μ 7 a.toNatClampNeg) (μ 8 a.toNatClampNeg) ^^^ zbits (μ 7 b.toNatClampNeg) (μ 8 b.toNatClampNeg) ^^^ zbits (μ 7 c8.toNatClampNeg) (μ 8 c8.toNatClampNeg) = 0)) ∧ r = -1000002 ∧ μ1 = μ ∧ ov1 = ov)) := by
  refine z_ofWi (cc := cL_closes) (nL := 6) (ret := (some .int)) (own := RL) zfp_L_closes rfl (by simp [Value.category]) (Nat.le_of_ble_eq_true rfl) rfl ?_
  intro p e s m below meth c C hr hlk htab
  show zW p l e (zR 7 117 1 6) s m [Value.ref (zob E 0), Value.int a, Value.int b, Value.int c8, Value.int d].toArray below meth c E 6 0 0 (MQ below (zQi E s.heap.size (fun r μ1 ov1 => ((zmea μ a d ∧ zmea μ b d ∧ zmea μ c8 d) ∧ ((zbits (μ 7 a.toNatClampNeg) (μ 8 a.toNatClampNeg) ^^^ zbits (μ 7 b.toNatClampNeg) (μ 8 b.toNatClampNeg) ^^^ zbits (μ 7 c8.toNatClampNeg) (μ 8 c8.toNatClampNeg) = 0)) ∧ r = zsum μ d.toNatClampNeg (zord a.toNatClampNeg b.toNatClampNeg c8.toNatClampNeg) ∧ μ1 = μ ∧ ov1 = ov) ∨ (¬ (zmea μ a d ∧ zmea μ b d ∧ zmea μ c8 d) ∧ r = -1000001 ∧ μ1 = μ ∧ ov1 = ov) ∨ ((zmea μ a d ∧ zmea μ b d ∧ zmea μ c8 d) ∧ ¬ ((zbits (μ 7 a.toNatClampNeg) (μ 8 a.toNatClampNeg) ^^^ zbits (μ 7 b.toNatClampNeg) (μ 8 b.toNatClampNeg) ^^^ zbits (μ 7 c8.toNatClampNeg) (μ 8 c8.toNatClampNeg) = 0)) ∧ r = -1000002 ∧ μ1 = μ ∧ ov1 = ov))) [Value.ref (zob E 0), Value.int a, Value.int b, Value.int c8, Value.int d].toArray s 1 6 (zA E s.heap.size)) 0 [some (.ref (zob E 0)), some (.int (a)), some (.int (b)), some (.int (c8)), some (.int (d)), none] [] μ ov
  refine z_aloadn (i := 0) (pc := 0) C dL_closes_0 rfl rfl ?_
  refine z_iloadn (i := 1) (pc := 1) C dL_closes_1 rfl rfl ?_
  refine z_iloadn (i := 2) (pc := 2) C dL_closes_2 rfl rfl ?_
  refine z_iloadn (i := 3) (pc := 3) C dL_closes_3 rfl rfl ?_
  refine z_iload (i := 4) (pc := 4) C dL_closes_4 rfl ?_
  refine z_callXVi (pc := 6) (n := 4) (As := [.int (a), .int (b), .int (c8), .int (d)]) (rest := []) C (c_X4_closes l hfl E sa (μ := μ) (ov := ov) (a := a) (b := b) (c8 := c8) (d := d) t c9 nc n H) gL_closes_X4_closes rfl zfV_X4_closes ⟨Nat.le_of_ble_eq_true rfl, Nat.le_of_ble_eq_true rfl⟩ rfl (zRec_X4 E) rfl (Nat.le_of_ble_eq_true rfl) ⟨Nat.le_of_ble_eq_true rfl, Nat.le_of_ble_eq_true rfl⟩ dL_closes_6 (fun X q9 hpx => ?_) (fun r9 μ9 ov9 hp => ?_)
  · rcases hpx with ⟨h0, rfl⟩ | ⟨h0, h1, rfl⟩
    · refine z_catch C [] ⟨0, 9, 10, 26⟩ [⟨0, 9, 15, 16⟩] (by rw [htab]; rfl) (fun z hz => absurd hz List.not_mem_nil) (by decide) (by decide) (C.1.2.2.2.2 (.classLink RL 26 zIO) (by decide +kernel)) (C.2.2.1.2.2.1 zIO zEx_IO).1 ?_
      refine z_astore5 (pc := 10) C (by decide) (fun w hw => by cases hw; exact (show ¬ (1 = 2) from by decide)) dL_closes_10 ?_
      refine z_ldc (v := (-1000001)) (pc := 12) C dL_closes_12 (C.1.2.2.2.2 (.constant RL 28 (-1000001)) (by decide +kernel)) ?_
      exact z_iret (pc := 14) C hr hlk (Or.inr (Or.inl ⟨h0, rfl, rfl, rfl⟩)) (Nat.le_of_ble_eq_true rfl) (Nat.le_of_ble_eq_true rfl) dL_closes_14
    · refine z_catch C [⟨0, 9, 10, 26⟩] ⟨0, 9, 15, 16⟩ [] (by rw [htab]; rfl) (fun z hz => by rw [List.mem_singleton.mp hz]; exact Or.inr ⟨by decide, zIO, (C.1.2.2.2.2 (.classLink RL 26 zIO) (by decide +kernel)), C.2.2.1.2.2.2.1 zIA zEx_IA zIO zEx_IO (by decide)⟩) (by decide) (by decide) (C.1.2.2.2.2 (.classLink RL 16 zIA) (by decide +kernel)) (C.2.2.1.2.2.1 zIA zEx_IA).1 ?_
      refine z_astore5 (pc := 15) C (by decide) (fun w hw => by cases hw; exact (show ¬ (1 = 2) from by decide)) dL_closes_15 ?_
      refine z_ldc (v := (-1000002)) (pc := 17) C dL_closes_17 (C.1.2.2.2.2 (.constant RL 18 (-1000002)) (by decide +kernel)) ?_
      exact z_iret (pc := 19) C hr hlk (Or.inr (Or.inr ⟨h0, h1, rfl, rfl, rfl⟩)) (Nat.le_of_ble_eq_true rfl) (Nat.le_of_ble_eq_true rfl) dL_closes_19
  · exact z_iret (pc := 9) C hr hlk (Or.inl hp) (Nat.le_of_ble_eq_true rfl) (Nat.le_of_ble_eq_true rfl) dL_closes_9
set_option maxHeartbeats 4000000 in
set_option maxRecDepth 100000 in
theorem c_L_open (l : Launch) (hfl : l.stackTraces = false) (E : zE) (sa : Nat → Nat) {μ : zM} {ov : Nat → Int64} {d : Int32} (t c9 nc n : Nat) (H : zCI μ t c9 nc n) : zMi l E sa yL_open wsL_open 7 161 1 6 [.ref (zob E 0), .int d] μ ov (fun r μ1 ov1 => ((1 ≤ d ∧ d ≤ μ 63 0) ∧ r = nI (zopen μ d.toNatClampNeg n) ∧ zScr μ μ1 ∧ ov1 = ov) ∨ (¬ (1 ≤ d ∧ d ≤ μ 63 0) ∧ r = -1000001 ∧ μ1 = μ ∧ ov1 = ov)) := by
  refine z_ofWi (cc := cL_open) (nL := 3) (ret := (some .int)) (own := RL) zfp_L_open rfl (by simp [Value.category]) (Nat.le_of_ble_eq_true rfl) rfl ?_
  intro p e s m below meth c C hr hlk htab
  show zW p l e (zR 7 161 1 6) s m [Value.ref (zob E 0), Value.int d].toArray below meth c E 3 0 0 (MQ below (zQi E s.heap.size (fun r μ1 ov1 => ((1 ≤ d ∧ d ≤ μ 63 0) ∧ r = nI (zopen μ d.toNatClampNeg n) ∧ zScr μ μ1 ∧ ov1 = ov) ∨ (¬ (1 ≤ d ∧ d ≤ μ 63 0) ∧ r = -1000001 ∧ μ1 = μ ∧ ov1 = ov))) [Value.ref (zob E 0), Value.int d].toArray s 1 6 (zA E s.heap.size)) 0 [some (.ref (zob E 0)), some (.int (d)), none] [] μ ov
  refine z_aloadn (i := 0) (pc := 0) C dL_open_0 rfl rfl ?_
  refine z_iloadn (i := 1) (pc := 1) C dL_open_1 rfl rfl ?_
  refine z_callXVi (pc := 2) (n := 1) (As := [.int (d)]) (rest := []) C (c_X4_open l hfl E sa (μ := μ) (ov := ov) (d := d) t c9 nc n H) gL_open_X4_open rfl zfV_X4_open ⟨Nat.le_of_ble_eq_true rfl, Nat.le_of_ble_eq_true rfl⟩ rfl (zRec_X4 E) rfl (Nat.le_of_ble_eq_true rfl) ⟨Nat.le_of_ble_eq_true rfl, Nat.le_of_ble_eq_true rfl⟩ dL_open_2 (fun X q9 hpx => ?_) (fun r9 μ9 ov9 hp => ?_)
  · rcases hpx with ⟨h0, rfl⟩
    · refine z_catch C [] ⟨0, 5, 6, 26⟩ [] (by rw [htab]; rfl) (fun z hz => absurd hz List.not_mem_nil) (by decide) (by decide) (C.1.2.2.2.2 (.classLink RL 26 zIO) (by decide +kernel)) (C.2.2.1.2.2.1 zIO zEx_IO).1 ?_
      refine z_astore2 (pc := 6) C (by decide) (fun w hw => by cases hw; exact (show ¬ (1 = 2) from by decide)) dL_open_6 ?_
      refine z_ldc (v := (-1000001)) (pc := 7) C dL_open_7 (C.1.2.2.2.2 (.constant RL 28 (-1000001)) (by decide +kernel)) ?_
      exact z_iret (pc := 9) C hr hlk (Or.inr ⟨h0, rfl, rfl, rfl⟩) (Nat.le_of_ble_eq_true rfl) (Nat.le_of_ble_eq_true rfl) dL_open_9
  · exact z_iret (pc := 5) C hr hlk (Or.inl hp) (Nat.le_of_ble_eq_true rfl) (Nat.le_of_ble_eq_true rfl) dL_open_5
set_option maxHeartbeats 4000000 in
set_option maxRecDepth 100000 in
theorem c_L_slips (l : Launch) (hfl : l.stackTraces = false) (E : zE) (sa : Nat → Nat) {μ : zM} {ov : Nat → Int64} {d : Int32} (t c9 nc n : Nat) (H : zCI μ t c9 nc n) : zMi l E sa yL_slips wsL_slips 16 443 1 6 [.ref (zob E 0), .int d] μ ov (fun r μ1 ov1 => ((1 ≤ d ∧ d ≤ μ 63 0) ∧ (∃ ν, zRI μ d.toNatClampNeg ν (zgat μ d.toNatClampNeg n n) ∧ r = zdfs (zgat μ d.toNatClampNeg n n).length n (zu (zu (zu ν 63 8 (μ 63 1)) 63 9 (nI (n + 1))) 63 10 (-1)) 0 0 63 10 ∧ μ1 = zdfs (zgat μ d.toNatClampNeg n n).length n (zu (zu (zu ν 63 8 (μ 63 1)) 63 9 (nI (n + 1))) 63 10 (-1)) 0 0) ∧ ov1 = ov) ∨ (¬ (1 ≤ d ∧ d ≤ μ 63 0) ∧ r = -1000001 ∧ μ1 = μ ∧ ov1 = ov)) := by
  refine z_ofWi (cc := cL_slips) (nL := 3) (ret := (some .int)) (own := RL) zfp_L_slips rfl (by simp [Value.category]) (Nat.le_of_ble_eq_true rfl) rfl ?_
  intro p e s m below meth c C hr hlk htab
  show zW p l e (zR 16 443 1 6) s m [Value.ref (zob E 0), Value.int d].toArray below meth c E 3 0 0 (MQ below (zQi E s.heap.size (fun r μ1 ov1 => ((1 ≤ d ∧ d ≤ μ 63 0) ∧ (∃ ν, zRI μ d.toNatClampNeg ν (zgat μ d.toNatClampNeg n n) ∧ r = zdfs (zgat μ d.toNatClampNeg n n).length n (zu (zu (zu ν 63 8 (μ 63 1)) 63 9 (nI (n + 1))) 63 10 (-1)) 0 0 63 10 ∧ μ1 = zdfs (zgat μ d.toNatClampNeg n n).length n (zu (zu (zu ν 63 8 (μ 63 1)) 63 9 (nI (n + 1))) 63 10 (-1)) 0 0) ∧ ov1 = ov) ∨ (¬ (1 ≤ d ∧ d ≤ μ 63 0) ∧ r = -1000001 ∧ μ1 = μ ∧ ov1 = ov))) [Value.ref (zob E 0), Value.int d].toArray s 1 6 (zA E s.heap.size)) 0 [some (.ref (zob E 0)), some (.int (d)), none] [] μ ov
  refine z_aloadn (i := 0) (pc := 0) C dL_slips_0 rfl rfl ?_
  refine z_iloadn (i := 1) (pc := 1) C dL_slips_1 rfl rfl ?_
  refine z_callXVi (pc := 2) (n := 1) (As := [.int (d)]) (rest := []) C (c_X4_slips l hfl E sa (μ := μ) (ov := ov) (d := d) t c9 nc n H) gL_slips_X4_slips rfl zfV_X4_slips ⟨Nat.le_of_ble_eq_true rfl, Nat.le_of_ble_eq_true rfl⟩ rfl (zRec_X4 E) rfl (Nat.le_of_ble_eq_true rfl) ⟨Nat.le_of_ble_eq_true rfl, Nat.le_of_ble_eq_true rfl⟩ dL_slips_2 (fun X q9 hpx => ?_) (fun r9 μ9 ov9 hp => ?_)
  · rcases hpx with ⟨h0, rfl⟩
    · refine z_catch C [] ⟨0, 5, 6, 26⟩ [] (by rw [htab]; rfl) (fun z hz => absurd hz List.not_mem_nil) (by decide) (by decide) (C.1.2.2.2.2 (.classLink RL 26 zIO) (by decide +kernel)) (C.2.2.1.2.2.1 zIO zEx_IO).1 ?_
      refine z_astore2 (pc := 6) C (by decide) (fun w hw => by cases hw; exact (show ¬ (1 = 2) from by decide)) dL_slips_6 ?_
      refine z_ldc (v := (-1000001)) (pc := 7) C dL_slips_7 (C.1.2.2.2.2 (.constant RL 28 (-1000001)) (by decide +kernel)) ?_
      exact z_iret (pc := 9) C hr hlk (Or.inr ⟨h0, rfl, rfl, rfl⟩) (Nat.le_of_ble_eq_true rfl) (Nat.le_of_ble_eq_true rfl) dL_slips_9
  · exact z_iret (pc := 5) C hr hlk (Or.inl hp) (Nat.le_of_ble_eq_true rfl) (Nat.le_of_ble_eq_true rfl) dL_slips_5
set_option maxHeartbeats 4000000 in
set_option maxRecDepth 100000 in
theorem c_L_mean (l : Launch) (hfl : l.stackTraces = false) (E : zE) (sa : Nat → Nat) {μ : zM} {ov : Nat → Int64} {d : Int32} (t c9 nc n : Nat) (H : zCI μ t c9 nc n) : zMi l E sa yL_mean wsL_mean 7 111 1 6 [.ref (zob E 0), .int d] μ ov (fun r μ1 ov1 => (((1 ≤ d ∧ d ≤ μ 63 0) ∧ ¬ μ 63 4 = 0) ∧ r = zmean μ d.toNatClampNeg n ∧ μ1 = μ ∧ ov1 = ov) ∨ (¬ ((1 ≤ d ∧ d ≤ μ 63 0) ∧ ¬ μ 63 4 = 0) ∧ r = -1000001 ∧ μ1 = μ ∧ ov1 = ov)) := by
  refine z_ofWi (cc := cL_mean) (nL := 3) (ret := (some .int)) (own := RL) zfp_L_mean rfl (by simp [Value.category]) (Nat.le_of_ble_eq_true rfl) rfl ?_
  intro p e s m below meth c C hr hlk htab
  show zW p l e (zR 7 111 1 6) s m [Value.ref (zob E 0), Value.int d].toArray below meth c E 3 0 0 (MQ below (zQi E s.heap.size (fun r μ1 ov1 => (((1 ≤ d ∧ d ≤ μ 63 0) ∧ ¬ μ 63 4 = 0) ∧ r = zmean μ d.toNatClampNeg n ∧ μ1 = μ ∧ ov1 = ov) ∨ (¬ ((1 ≤ d ∧ d ≤ μ 63 0) ∧ ¬ μ 63 4 = 0) ∧ r = -1000001 ∧ μ1 = μ ∧ ov1 = ov))) [Value.ref (zob E 0), Value.int d].toArray s 1 6 (zA E s.heap.size)) 0 [some (.ref (zob E 0)), some (.int (d)), none] [] μ ov
  refine z_aloadn (i := 0) (pc := 0) C dL_mean_0 rfl rfl ?_
  refine z_iloadn (i := 1) (pc := 1) C dL_mean_1 rfl rfl ?_
  refine z_callXVi (pc := 2) (n := 1) (As := [.int (d)]) (rest := []) C (c_X4_mean l hfl E sa (μ := μ) (ov := ov) (d := d) t c9 nc n H) gL_mean_X4_mean rfl zfV_X4_mean ⟨Nat.le_of_ble_eq_true rfl, Nat.le_of_ble_eq_true rfl⟩ rfl (zRec_X4 E) rfl (Nat.le_of_ble_eq_true rfl) ⟨Nat.le_of_ble_eq_true rfl, Nat.le_of_ble_eq_true rfl⟩ dL_mean_2 (fun X q9 hpx => ?_) (fun r9 μ9 ov9 hp => ?_)
  · rcases hpx with ⟨h0, rfl⟩
    · refine z_catch C [] ⟨0, 5, 6, 26⟩ [] (by rw [htab]; rfl) (fun z hz => absurd hz List.not_mem_nil) (by decide) (by decide) (C.1.2.2.2.2 (.classLink RL 26 zIO) (by decide +kernel)) (C.2.2.1.2.2.1 zIO zEx_IO).1 ?_
      refine z_astore2 (pc := 6) C (by decide) (fun w hw => by cases hw; exact (show ¬ (1 = 2) from by decide)) dL_mean_6 ?_
      refine z_ldc (v := (-1000001)) (pc := 7) C dL_mean_7 (C.1.2.2.2.2 (.constant RL 28 (-1000001)) (by decide +kernel)) ?_
      exact z_iret (pc := 9) C hr hlk (Or.inr ⟨h0, rfl, rfl, rfl⟩) (Nat.le_of_ble_eq_true rfl) (Nat.le_of_ble_eq_true rfl) dL_mean_9
  · exact z_iret (pc := 5) C hr hlk (Or.inl hp) (Nat.le_of_ble_eq_true rfl) (Nat.le_of_ble_eq_true rfl) dL_mean_5
set_option maxHeartbeats 4000000 in
set_option maxRecDepth 100000 in
theorem c_L_published (l : Launch) (hfl : l.stackTraces = false) (E : zE) (sa : Nat → Nat) {μ : zM} {ov : Nat → Int64} {d b : Int32} (t c9 nc n : Nat) (H : zCI μ t c9 nc n) : zMi l E sa yL_published wsL_published 7 140 1 6 [.ref (zob E 0), .int d, .int b] μ ov (fun r μ1 ov1 => ((1 ≤ d ∧ d ≤ μ 63 0) ∧ r = (if b = 0 then μ 0 d.toNatClampNeg else zanX μ n d.toNatClampNeg) ∧ μ1 = μ ∧ ov1 = ov) ∨ (¬ (1 ≤ d ∧ d ≤ μ 63 0) ∧ r = -1000001 ∧ μ1 = μ ∧ ov1 = ov)) := by
  refine z_ofWi (cc := cL_published) (nL := 4) (ret := (some .int)) (own := RL) zfp_L_published rfl (by simp [Value.category]) (Nat.le_of_ble_eq_true rfl) rfl ?_
  intro p e s m below meth c C hr hlk htab
  show zW p l e (zR 7 140 1 6) s m [Value.ref (zob E 0), Value.int d, Value.int b].toArray below meth c E 4 0 0 (MQ below (zQi E s.heap.size (fun r μ1 ov1 => ((1 ≤ d ∧ d ≤ μ 63 0) ∧ r = (if b = 0 then μ 0 d.toNatClampNeg else zanX μ n d.toNatClampNeg) ∧ μ1 = μ ∧ ov1 = ov) ∨ (¬ (1 ≤ d ∧ d ≤ μ 63 0) ∧ r = -1000001 ∧ μ1 = μ ∧ ov1 = ov))) [Value.ref (zob E 0), Value.int d, Value.int b].toArray s 1 6 (zA E s.heap.size)) 0 [some (.ref (zob E 0)), some (.int (d)), some (.int (b)), none] [] μ ov
  refine z_aloadn (i := 0) (pc := 0) C dL_published_0 rfl rfl ?_
  refine z_iloadn (i := 1) (pc := 1) C dL_published_1 rfl rfl ?_
  refine z_iloadn (i := 2) (pc := 2) C dL_published_2 rfl rfl ?_
  refine z_callXVi (pc := 3) (n := 2) (As := [.int (d), .int (b)]) (rest := []) C (c_X4_published l hfl E sa (μ := μ) (ov := ov) (d := d) (b := b) t c9 nc n H) gL_published_X4_published rfl zfV_X4_published ⟨Nat.le_of_ble_eq_true rfl, Nat.le_of_ble_eq_true rfl⟩ rfl (zRec_X4 E) rfl (Nat.le_of_ble_eq_true rfl) ⟨Nat.le_of_ble_eq_true rfl, Nat.le_of_ble_eq_true rfl⟩ dL_published_3 (fun X q9 hpx => ?_) (fun r9 μ9 ov9 hp => ?_)
  · rcases hpx with ⟨h0, rfl⟩
    · refine z_catch C [] ⟨0, 6, 7, 26⟩ [] (by rw [htab]; rfl) (fun z hz => absurd hz List.not_mem_nil) (by decide) (by decide) (C.1.2.2.2.2 (.classLink RL 26 zIO) (by decide +kernel)) (C.2.2.1.2.2.1 zIO zEx_IO).1 ?_
      refine z_astore3 (pc := 7) C (by decide) (fun w hw => by cases hw; exact (show ¬ (1 = 2) from by decide)) dL_published_7 ?_
      refine z_ldc (v := (-1000001)) (pc := 8) C dL_published_8 (C.1.2.2.2.2 (.constant RL 28 (-1000001)) (by decide +kernel)) ?_
      exact z_iret (pc := 10) C hr hlk (Or.inr ⟨h0, rfl, rfl, rfl⟩) (Nat.le_of_ble_eq_true rfl) (Nat.le_of_ble_eq_true rfl) dL_published_10
  · exact z_iret (pc := 6) C hr hlk (Or.inl hp) (Nat.le_of_ble_eq_true rfl) (Nat.le_of_ble_eq_true rfl) dL_published_6
