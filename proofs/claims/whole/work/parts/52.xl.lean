theorem zEx_IA : zIA ∈ zEx := by unfold zEx; exact List.mem_cons_self
theorem zEx_IS : zIS ∈ zEx := by unfold zEx; exact List.mem_cons_of_mem _ List.mem_cons_self
theorem zEx_IO : zIO ∈ zEx := by unfold zEx; exact List.mem_cons_of_mem _ (List.mem_cons_of_mem _ List.mem_cons_self)
theorem zgo_1 {P Q S : Prop} [Decidable P] [Decidable Q] [Decidable S] (h : ¬ P) : zgo P Q S = 1 := by unfold zgo; rw [if_neg h]
theorem zgo_2 {P Q S : Prop} [Decidable P] [Decidable Q] [Decidable S] (h1 : P) (h : ¬ Q) : zgo P Q S = 2 := by unfold zgo; rw [if_pos h1, if_neg h]
theorem zgo_3 {P Q S : Prop} [Decidable P] [Decidable Q] [Decidable S] (h1 : P) (h2 : Q) (h : ¬ S) : zgo P Q S = 3 := by unfold zgo; rw [if_pos h1, if_pos h2, if_neg h]
set_option maxHeartbeats 4000000 in
set_option maxRecDepth 100000 in
theorem c_L_clock (l : Launch) (hfl : l.stackTraces = false) (E : zE) (sa : Nat → Nat) {μ : zM} {ov : Nat → Int64} {a b : Int32} (t c9 nc n : Nat) (H : zCI μ t c9 nc n) : zMi l E sa yL_clock (wsL_clock ++ zHL) 7 112 1 6 [.ref (zob E 0), .int a, .int b, .ref (zob E 8)] μ ov (fun r μ1 ov1 => ((((-500 ≤ a ∧ a ≤ 500) ∧ 0 ≤ b ∧ b ≤ 5000) ∧ (nc < 6) ∧ (True)) ∧ r = 0 ∧ ∃ v : Int32, (v = nI nc ∧ μ1 = zu (zu (zu (zu μ 2 nc a) 5 nc b) 4 nc 1) 63 4 (nI (nc + 1))) ∧ ov1 = vp_updL ov 0 v.toInt64) ∨ (¬ (((-500 ≤ a ∧ a ≤ 500) ∧ 0 ≤ b ∧ b ≤ 5000) ∧ (nc < 6) ∧ (True)) ∧ r = zgo ((-500 ≤ a ∧ a ≤ 500) ∧ 0 ≤ b ∧ b ≤ 5000) (nc < 6) (True) ∧ μ1 = μ ∧ ov1 = ov)) := by
  refine z_ofWi (cc := cL_clock) (nL := 5) (ret := (some .int)) (own := RL) zfp_L_clock rfl (by simp [Value.category]) (Nat.le_of_ble_eq_true rfl) rfl ?_
  intro p e s m below meth c C hr hlk htab
  show zW p l e (zR 7 112 1 6) s m [Value.ref (zob E 0), Value.int a, Value.int b, Value.ref (zob E 8)].toArray below meth c E 5 0 0 (MQ below (zQi E s.heap.size (fun r μ1 ov1 => ((((-500 ≤ a ∧ a ≤ 500) ∧ 0 ≤ b ∧ b ≤ 5000) ∧ (nc < 6) ∧ (True)) ∧ r = 0 ∧ ∃ v : Int32, (v = nI nc ∧ μ1 = zu (zu (zu (zu μ 2 nc a) 5 nc b) 4 nc 1) 63 4 (nI (nc + 1))) ∧ ov1 = vp_updL ov 0 v.toInt64) ∨ (¬ (((-500 ≤ a ∧ a ≤ 500) ∧ 0 ≤ b ∧ b ≤ 5000) ∧ (nc < 6) ∧ (True)) ∧ r = zgo ((-500 ≤ a ∧ a ≤ 500) ∧ 0 ≤ b ∧ b ≤ 5000) (nc < 6) (True) ∧ μ1 = μ ∧ ov1 = ov))) [Value.ref (zob E 0), Value.int a, Value.int b, Value.ref (zob E 8)].toArray s 1 6 (zA E s.heap.size)) 0 [some (.ref (zob E 0)), some (.int (a)), some (.int (b)), some (.ref (zob E 8)), none] [] μ ov
  refine z_aloadn (i := 3) (pc := 0) C dL_clock_0 rfl rfl ?_
  refine z_iconst (v := 0) (pc := 1) C dL_clock_1 (by decide) ?_
  refine z_aloadn (i := 0) (pc := 2) C dL_clock_2 rfl rfl ?_
  refine z_iloadn (i := 1) (pc := 3) C dL_clock_3 rfl rfl ?_
  refine z_iloadn (i := 2) (pc := 4) C dL_clock_4 rfl rfl ?_
  refine z_callXVi (pc := 5) (n := 2) (As := [.int (a), .int (b)]) (rest := [.int (0), .ref (zob E 8)]) C (c_X4_clock l hfl E sa (μ := μ) (ov := ov) (a := a) (b := b) t c9 nc n H) (zHL_g gL_clock_X4_clock) rfl zfV_X4_clock ⟨Nat.le_of_ble_eq_true rfl, Nat.le_of_ble_eq_true rfl⟩ rfl (zRec_X4 E) rfl (Nat.le_of_ble_eq_true rfl) ⟨Nat.le_of_ble_eq_true rfl, Nat.le_of_ble_eq_true rfl⟩ dL_clock_5 (fun X q9 hpx => ?_) (fun r9 μ9 ov9 hp => ?_)
  · rcases hpx with ⟨h0, rfl⟩ | ⟨h0, h1, rfl⟩
    · refine z_catch C [] ⟨0, 10, 13, 13⟩ [⟨0, 10, 17, 15⟩] (by rw [htab]; rfl) (fun z hz => absurd hz List.not_mem_nil) (by decide) (by decide) (C.1.2.2.2.2 (.classLink RL 13 zIA) (zHL_13 _)) (C.2.2.1.2.2.1 zIA zEx_IA).1 ?_
      refine z_astore4 (pc := 13) C (by decide) (fun w hw => by cases hw; exact (show ¬ (1 = 2) from by decide)) dL_clock_13 ?_
      refine z_iconst (v := 1) (pc := 15) C dL_clock_15 (by decide) ?_
      exact z_iret (pc := 16) C hr hlk (Or.inr ⟨(fun z => h0 z.1), (zgo_1 h0).symm, rfl, rfl⟩) (Nat.le_of_ble_eq_true rfl) (Nat.le_of_ble_eq_true rfl) dL_clock_16
    · refine z_catch C [⟨0, 10, 13, 13⟩] ⟨0, 10, 17, 15⟩ [] (by rw [htab]; rfl) (fun z hz => by rw [List.mem_singleton.mp hz]; exact Or.inr ⟨by decide, zIA, C.1.2.2.2.2 (.classLink RL 13 zIA) (zHL_13 _), C.2.2.1.2.2.2.1 zIS zEx_IS zIA zEx_IA (by decide)⟩) (by decide) (by decide) (C.1.2.2.2.2 (.classLink RL 15 zIS) (zHL_15 _)) (C.2.2.1.2.2.1 zIS zEx_IS).1 ?_
      refine z_astore4 (pc := 17) C (by decide) (fun w hw => by cases hw; exact (show ¬ (1 = 2) from by decide)) dL_clock_17 ?_
      refine z_iconst (v := 2) (pc := 19) C dL_clock_19 (by decide) ?_
      exact z_iret (pc := 20) C hr hlk (Or.inr ⟨(fun z => h1 z.2.1), (zgo_2 h0 h1).symm, rfl, rfl⟩) (Nat.le_of_ble_eq_true rfl) (Nat.le_of_ble_eq_true rfl) dL_clock_20
  · refine z_i2l (pc := 8) C dL_clock_8 ?_
    refine z_last (pc := 9) C rfl dL_clock_9 ?_
    refine z_goto (tgt := 21) (pc := 10) C dL_clock_10 (by decide) ?_
    refine z_iconst (v := 0) (pc := 21) C dL_clock_21 (by decide) ?_
    exact z_iret (pc := 22) C hr hlk (Or.inl ⟨⟨hp.1, hp.2.1, trivial⟩, rfl, ⟨r9, ⟨hp.2.2.1, hp.2.2.2.1⟩, by rw [hp.2.2.2.2]⟩⟩) (Nat.le_of_ble_eq_true rfl) (Nat.le_of_ble_eq_true rfl) dL_clock_22
set_option maxHeartbeats 4000000 in
set_option maxRecDepth 100000 in
theorem c_L_tell (l : Launch) (hfl : l.stackTraces = false) (E : zE) (sa : Nat → Nat) {μ : zM} {ov : Nat → Int64} {i d w : Int32} (t c9 nc n : Nat) (H : zCI μ t c9 nc n) : zMi l E sa yL_tell (wsL_tell ++ zHL) 7 114 1 6 [.ref (zob E 0), .int i, .int d, .int w, .ref (zob E 8)] μ ov (fun r μ1 ov1 => (((0 ≤ i ∧ i < μ 63 4) ∧ ((-20 ≤ d ∧ d ≤ 20) ∧ 0 ≤ w ∧ w ≤ 100) ∧ (True)) ∧ r = 0 ∧ ∃ v : Int32, (v = μ 4 i.toNatClampNeg ∧ μ1 = zu (zu μ 3 i.toNatClampNeg d) 4 i.toNatClampNeg w) ∧ ov1 = vp_updL ov 0 v.toInt64) ∨ (¬ ((0 ≤ i ∧ i < μ 63 4) ∧ ((-20 ≤ d ∧ d ≤ 20) ∧ 0 ≤ w ∧ w ≤ 100) ∧ (True)) ∧ r = zgo (0 ≤ i ∧ i < μ 63 4) ((-20 ≤ d ∧ d ≤ 20) ∧ 0 ≤ w ∧ w ≤ 100) (True) ∧ μ1 = μ ∧ ov1 = ov)) := by
  refine z_ofWi (cc := cL_tell) (nL := 6) (ret := (some .int)) (own := RL) zfp_L_tell rfl (by simp [Value.category]) (Nat.le_of_ble_eq_true rfl) rfl ?_
  intro p e s m below meth c C hr hlk htab
  show zW p l e (zR 7 114 1 6) s m [Value.ref (zob E 0), Value.int i, Value.int d, Value.int w, Value.ref (zob E 8)].toArray below meth c E 6 0 0 (MQ below (zQi E s.heap.size (fun r μ1 ov1 => (((0 ≤ i ∧ i < μ 63 4) ∧ ((-20 ≤ d ∧ d ≤ 20) ∧ 0 ≤ w ∧ w ≤ 100) ∧ (True)) ∧ r = 0 ∧ ∃ v : Int32, (v = μ 4 i.toNatClampNeg ∧ μ1 = zu (zu μ 3 i.toNatClampNeg d) 4 i.toNatClampNeg w) ∧ ov1 = vp_updL ov 0 v.toInt64) ∨ (¬ ((0 ≤ i ∧ i < μ 63 4) ∧ ((-20 ≤ d ∧ d ≤ 20) ∧ 0 ≤ w ∧ w ≤ 100) ∧ (True)) ∧ r = zgo (0 ≤ i ∧ i < μ 63 4) ((-20 ≤ d ∧ d ≤ 20) ∧ 0 ≤ w ∧ w ≤ 100) (True) ∧ μ1 = μ ∧ ov1 = ov))) [Value.ref (zob E 0), Value.int i, Value.int d, Value.int w, Value.ref (zob E 8)].toArray s 1 6 (zA E s.heap.size)) 0 [some (.ref (zob E 0)), some (.int (i)), some (.int (d)), some (.int (w)), some (.ref (zob E 8)), none] [] μ ov
  refine z_aload (i := 4) (pc := 0) C dL_tell_0 rfl ?_
  refine z_iconst (v := 0) (pc := 2) C dL_tell_2 (by decide) ?_
  refine z_aloadn (i := 0) (pc := 3) C dL_tell_3 rfl rfl ?_
  refine z_iloadn (i := 1) (pc := 4) C dL_tell_4 rfl rfl ?_
  refine z_iloadn (i := 2) (pc := 5) C dL_tell_5 rfl rfl ?_
  refine z_iloadn (i := 3) (pc := 6) C dL_tell_6 rfl rfl ?_
  refine z_callXVi (pc := 7) (n := 3) (As := [.int (i), .int (d), .int (w)]) (rest := [.int (0), .ref (zob E 8)]) C (c_X4_tell l hfl E sa (μ := μ) (ov := ov) (i := i) (d := d) (w := w) t c9 nc n H) (zHL_g gL_tell_X4_tell) rfl zfV_X4_tell ⟨Nat.le_of_ble_eq_true rfl, Nat.le_of_ble_eq_true rfl⟩ rfl (zRec_X4 E) rfl (Nat.le_of_ble_eq_true rfl) ⟨Nat.le_of_ble_eq_true rfl, Nat.le_of_ble_eq_true rfl⟩ dL_tell_7 (fun X q9 hpx => ?_) (fun r9 μ9 ov9 hp => ?_)
  · rcases hpx with ⟨h0, rfl⟩ | ⟨h0, h1, rfl⟩
    · refine z_catch C [] ⟨0, 12, 15, 21⟩ [⟨0, 12, 19, 13⟩] (by rw [htab]; rfl) (fun z hz => absurd hz List.not_mem_nil) (by decide) (by decide) (C.1.2.2.2.2 (.classLink RL 21 zIO) (zHL_21 _)) (C.2.2.1.2.2.1 zIO zEx_IO).1 ?_
      refine z_astore5 (pc := 15) C (by decide) (fun w hw => by cases hw; exact (show ¬ (1 = 2) from by decide)) dL_tell_15 ?_
      refine z_iconst (v := 1) (pc := 17) C dL_tell_17 (by decide) ?_
      exact z_iret (pc := 18) C hr hlk (Or.inr ⟨(fun z => h0 z.1), (zgo_1 h0).symm, rfl, rfl⟩) (Nat.le_of_ble_eq_true rfl) (Nat.le_of_ble_eq_true rfl) dL_tell_18
    · refine z_catch C [⟨0, 12, 15, 21⟩] ⟨0, 12, 19, 13⟩ [] (by rw [htab]; rfl) (fun z hz => by rw [List.mem_singleton.mp hz]; exact Or.inr ⟨by decide, zIO, C.1.2.2.2.2 (.classLink RL 21 zIO) (zHL_21 _), C.2.2.1.2.2.2.1 zIA zEx_IA zIO zEx_IO (by decide)⟩) (by decide) (by decide) (C.1.2.2.2.2 (.classLink RL 13 zIA) (zHL_13 _)) (C.2.2.1.2.2.1 zIA zEx_IA).1 ?_
      refine z_astore5 (pc := 19) C (by decide) (fun w hw => by cases hw; exact (show ¬ (1 = 2) from by decide)) dL_tell_19 ?_
      refine z_iconst (v := 2) (pc := 21) C dL_tell_21 (by decide) ?_
      exact z_iret (pc := 22) C hr hlk (Or.inr ⟨(fun z => h1 z.2.1), (zgo_2 h0 h1).symm, rfl, rfl⟩) (Nat.le_of_ble_eq_true rfl) (Nat.le_of_ble_eq_true rfl) dL_tell_22
  · refine z_i2l (pc := 10) C dL_tell_10 ?_
    refine z_last (pc := 11) C rfl dL_tell_11 ?_
    refine z_goto (tgt := 23) (pc := 12) C dL_tell_12 (by decide) ?_
    refine z_iconst (v := 0) (pc := 23) C dL_tell_23 (by decide) ?_
    exact z_iret (pc := 24) C hr hlk (Or.inl ⟨⟨hp.1, hp.2.1, trivial⟩, rfl, ⟨r9, ⟨hp.2.2.1, hp.2.2.2.1⟩, by rw [hp.2.2.2.2]⟩⟩) (Nat.le_of_ble_eq_true rfl) (Nat.le_of_ble_eq_true rfl) dL_tell_24
set_option maxHeartbeats 4000000 in
set_option maxRecDepth 100000 in
theorem c_L_link (l : Launch) (hfl : l.stackTraces = false) (E : zE) (sa : Nat → Nat) {μ : zM} {ov : Nat → Int64} {i j d : Int32} (t c9 nc n : Nat) (H : zCI μ t c9 nc n) : zMi l E sa yL_link (wsL_link ++ zHL) 7 113 1 6 [.ref (zob E 0), .int i, .int j, .int d, .ref (zob E 8)] μ ov (fun r μ1 ov1 => ((((0 ≤ i ∧ i < μ 63 4) ∧ 0 ≤ j ∧ j < μ 63 4) ∧ (¬ i = j ∧ -50 ≤ d ∧ d ≤ 50) ∧ (n < 8)) ∧ r = 0 ∧ ∃ v : Int32, (v = nI n ∧ μ1 = zu (zu (zu (zu (zu μ 7 n i) 8 n j) 9 n d) 11 n (μ 63 0)) 63 5 (nI (n + 1))) ∧ ov1 = vp_updL ov 0 v.toInt64) ∨ (¬ (((0 ≤ i ∧ i < μ 63 4) ∧ 0 ≤ j ∧ j < μ 63 4) ∧ (¬ i = j ∧ -50 ≤ d ∧ d ≤ 50) ∧ (n < 8)) ∧ r = zgo ((0 ≤ i ∧ i < μ 63 4) ∧ 0 ≤ j ∧ j < μ 63 4) (¬ i = j ∧ -50 ≤ d ∧ d ≤ 50) (n < 8) ∧ μ1 = μ ∧ ov1 = ov)) := by
  refine z_ofWi (cc := cL_link) (nL := 6) (ret := (some .int)) (own := RL) zfp_L_link rfl (by simp [Value.category]) (Nat.le_of_ble_eq_true rfl) rfl ?_
  intro p e s m below meth c C hr hlk htab
  show zW p l e (zR 7 113 1 6) s m [Value.ref (zob E 0), Value.int i, Value.int j, Value.int d, Value.ref (zob E 8)].toArray below meth c E 6 0 0 (MQ below (zQi E s.heap.size (fun r μ1 ov1 => ((((0 ≤ i ∧ i < μ 63 4) ∧ 0 ≤ j ∧ j < μ 63 4) ∧ (¬ i = j ∧ -50 ≤ d ∧ d ≤ 50) ∧ (n < 8)) ∧ r = 0 ∧ ∃ v : Int32, (v = nI n ∧ μ1 = zu (zu (zu (zu (zu μ 7 n i) 8 n j) 9 n d) 11 n (μ 63 0)) 63 5 (nI (n + 1))) ∧ ov1 = vp_updL ov 0 v.toInt64) ∨ (¬ (((0 ≤ i ∧ i < μ 63 4) ∧ 0 ≤ j ∧ j < μ 63 4) ∧ (¬ i = j ∧ -50 ≤ d ∧ d ≤ 50) ∧ (n < 8)) ∧ r = zgo ((0 ≤ i ∧ i < μ 63 4) ∧ 0 ≤ j ∧ j < μ 63 4) (¬ i = j ∧ -50 ≤ d ∧ d ≤ 50) (n < 8) ∧ μ1 = μ ∧ ov1 = ov))) [Value.ref (zob E 0), Value.int i, Value.int j, Value.int d, Value.ref (zob E 8)].toArray s 1 6 (zA E s.heap.size)) 0 [some (.ref (zob E 0)), some (.int (i)), some (.int (j)), some (.int (d)), some (.ref (zob E 8)), none] [] μ ov
  refine z_aload (i := 4) (pc := 0) C dL_link_0 rfl ?_
  refine z_iconst (v := 0) (pc := 2) C dL_link_2 (by decide) ?_
  refine z_aloadn (i := 0) (pc := 3) C dL_link_3 rfl rfl ?_
  refine z_iloadn (i := 1) (pc := 4) C dL_link_4 rfl rfl ?_
  refine z_iloadn (i := 2) (pc := 5) C dL_link_5 rfl rfl ?_
  refine z_iloadn (i := 3) (pc := 6) C dL_link_6 rfl rfl ?_
  refine z_callXVi (pc := 7) (n := 3) (As := [.int (i), .int (j), .int (d)]) (rest := [.int (0), .ref (zob E 8)]) C (c_X4_link l hfl E sa (μ := μ) (ov := ov) (i := i) (j := j) (d := d) t c9 nc n H) (zHL_g gL_link_X4_link) rfl zfV_X4_link ⟨Nat.le_of_ble_eq_true rfl, Nat.le_of_ble_eq_true rfl⟩ rfl (zRec_X4 E) rfl (Nat.le_of_ble_eq_true rfl) ⟨Nat.le_of_ble_eq_true rfl, Nat.le_of_ble_eq_true rfl⟩ dL_link_7 (fun X q9 hpx => ?_) (fun r9 μ9 ov9 hp => ?_)
  · rcases hpx with ⟨h0, rfl⟩ | ⟨h0, h1, rfl⟩ | ⟨h0, h1, h2, rfl⟩
    · refine z_catch C [] ⟨0, 12, 15, 21⟩ [⟨0, 12, 19, 13⟩, ⟨0, 12, 23, 15⟩] (by rw [htab]; rfl) (fun z hz => absurd hz List.not_mem_nil) (by decide) (by decide) (C.1.2.2.2.2 (.classLink RL 21 zIO) (zHL_21 _)) (C.2.2.1.2.2.1 zIO zEx_IO).1 ?_
      refine z_astore5 (pc := 15) C (by decide) (fun w hw => by cases hw; exact (show ¬ (1 = 2) from by decide)) dL_link_15 ?_
      refine z_iconst (v := 1) (pc := 17) C dL_link_17 (by decide) ?_
      exact z_iret (pc := 18) C hr hlk (Or.inr ⟨(fun z => h0 z.1), (zgo_1 h0).symm, rfl, rfl⟩) (Nat.le_of_ble_eq_true rfl) (Nat.le_of_ble_eq_true rfl) dL_link_18
    · refine z_catch C [⟨0, 12, 15, 21⟩] ⟨0, 12, 19, 13⟩ [⟨0, 12, 23, 15⟩] (by rw [htab]; rfl) (fun z hz => by rw [List.mem_singleton.mp hz]; exact Or.inr ⟨by decide, zIO, C.1.2.2.2.2 (.classLink RL 21 zIO) (zHL_21 _), C.2.2.1.2.2.2.1 zIA zEx_IA zIO zEx_IO (by decide)⟩) (by decide) (by decide) (C.1.2.2.2.2 (.classLink RL 13 zIA) (zHL_13 _)) (C.2.2.1.2.2.1 zIA zEx_IA).1 ?_
      refine z_astore5 (pc := 19) C (by decide) (fun w hw => by cases hw; exact (show ¬ (1 = 2) from by decide)) dL_link_19 ?_
      refine z_iconst (v := 2) (pc := 21) C dL_link_21 (by decide) ?_
      exact z_iret (pc := 22) C hr hlk (Or.inr ⟨(fun z => h1 z.2.1), (zgo_2 h0 h1).symm, rfl, rfl⟩) (Nat.le_of_ble_eq_true rfl) (Nat.le_of_ble_eq_true rfl) dL_link_22
    · refine z_catch C [⟨0, 12, 15, 21⟩, ⟨0, 12, 19, 13⟩] ⟨0, 12, 23, 15⟩ [] (by rw [htab]; rfl) (fun z hz => by rcases List.mem_cons.mp hz with hz | hz; (rw [hz]; exact Or.inr ⟨by decide, zIO, C.1.2.2.2.2 (.classLink RL 21 zIO) (zHL_21 _), C.2.2.1.2.2.2.1 zIS zEx_IS zIO zEx_IO (by decide)⟩); (rw [List.mem_singleton.mp hz]; exact Or.inr ⟨by decide, zIA, C.1.2.2.2.2 (.classLink RL 13 zIA) (zHL_13 _), C.2.2.1.2.2.2.1 zIS zEx_IS zIA zEx_IA (by decide)⟩)) (by decide) (by decide) (C.1.2.2.2.2 (.classLink RL 15 zIS) (zHL_15 _)) (C.2.2.1.2.2.1 zIS zEx_IS).1 ?_
      refine z_astore5 (pc := 23) C (by decide) (fun w hw => by cases hw; exact (show ¬ (1 = 2) from by decide)) dL_link_23 ?_
      refine z_iconst (v := 3) (pc := 25) C dL_link_25 (by decide) ?_
      exact z_iret (pc := 26) C hr hlk (Or.inr ⟨(fun z => h2 z.2.2), (zgo_3 h0 h1 h2).symm, rfl, rfl⟩) (Nat.le_of_ble_eq_true rfl) (Nat.le_of_ble_eq_true rfl) dL_link_26
  · refine z_i2l (pc := 10) C dL_link_10 ?_
    refine z_last (pc := 11) C rfl dL_link_11 ?_
    refine z_goto (tgt := 27) (pc := 12) C dL_link_12 (by decide) ?_
    refine z_iconst (v := 0) (pc := 27) C dL_link_27 (by decide) ?_
    exact z_iret (pc := 28) C hr hlk (Or.inl ⟨⟨hp.1, hp.2.1, hp.2.2.1⟩, rfl, ⟨r9, ⟨hp.2.2.2.1, hp.2.2.2.2.1⟩, by rw [hp.2.2.2.2.2]⟩⟩) (Nat.le_of_ble_eq_true rfl) (Nat.le_of_ble_eq_true rfl) dL_link_28
set_option maxHeartbeats 4000000 in
set_option maxRecDepth 100000 in
theorem c_L_bounds (l : Launch) (hfl : l.stackTraces = false) (E : zE) (sa : Nat → Nat) {μ : zM} {ov : Nat → Int64} {a b : Int32} (t c9 nc n : Nat) (H : zCI μ t c9 nc n) : zMi l E sa yL_bounds (wsL_bounds ++ zHL) 7 112 1 6 [.ref (zob E 0), .int a, .int b] μ ov (fun r μ1 ov1 => ((((0 ≤ a ∧ a ≤ 499) ∧ 1 ≤ b ∧ b ≤ 1000) ∧ (True) ∧ (True)) ∧ r = 0 ∧ (μ1 = zu (zu μ 63 1 a) 63 2 b) ∧ ov1 = ov) ∨ (¬ (((0 ≤ a ∧ a ≤ 499) ∧ 1 ≤ b ∧ b ≤ 1000) ∧ (True) ∧ (True)) ∧ r = zgo ((0 ≤ a ∧ a ≤ 499) ∧ 1 ≤ b ∧ b ≤ 1000) (True) (True) ∧ μ1 = μ ∧ ov1 = ov)) := by
  refine z_ofWi (cc := cL_bounds) (nL := 4) (ret := (some .int)) (own := RL) zfp_L_bounds rfl (by simp [Value.category]) (Nat.le_of_ble_eq_true rfl) rfl ?_
  intro p e s m below meth c C hr hlk htab
  show zW p l e (zR 7 112 1 6) s m [Value.ref (zob E 0), Value.int a, Value.int b].toArray below meth c E 4 0 0 (MQ below (zQi E s.heap.size (fun r μ1 ov1 => ((((0 ≤ a ∧ a ≤ 499) ∧ 1 ≤ b ∧ b ≤ 1000) ∧ (True) ∧ (True)) ∧ r = 0 ∧ (μ1 = zu (zu μ 63 1 a) 63 2 b) ∧ ov1 = ov) ∨ (¬ (((0 ≤ a ∧ a ≤ 499) ∧ 1 ≤ b ∧ b ≤ 1000) ∧ (True) ∧ (True)) ∧ r = zgo ((0 ≤ a ∧ a ≤ 499) ∧ 1 ≤ b ∧ b ≤ 1000) (True) (True) ∧ μ1 = μ ∧ ov1 = ov))) [Value.ref (zob E 0), Value.int a, Value.int b].toArray s 1 6 (zA E s.heap.size)) 0 [some (.ref (zob E 0)), some (.int (a)), some (.int (b)), none] [] μ ov
  refine z_aloadn (i := 0) (pc := 0) C dL_bounds_0 rfl rfl ?_
  refine z_iloadn (i := 1) (pc := 1) C dL_bounds_1 rfl rfl ?_
  refine z_iloadn (i := 2) (pc := 2) C dL_bounds_2 rfl rfl ?_
  refine z_callXVv (pc := 3) (n := 2) (As := [.int (a), .int (b)]) (rest := []) C (c_X4_bounds l hfl E sa (μ := μ) (ov := ov) (a := a) (b := b) t c9 nc n H) (zHL_g gL_bounds_X4_bounds) rfl zfV_X4_bounds ⟨Nat.le_of_ble_eq_true rfl, Nat.le_of_ble_eq_true rfl⟩ rfl (zRec_X4 E) rfl (Nat.le_of_ble_eq_true rfl) ⟨Nat.le_of_ble_eq_true rfl, Nat.le_of_ble_eq_true rfl⟩ dL_bounds_3 (fun X q9 hpx => ?_) (fun μ9 ov9 hp => ?_)
  · rcases hpx with ⟨h0, rfl⟩
    · refine z_catch C [] ⟨0, 6, 9, 13⟩ [] (by rw [htab]; rfl) (fun z hz => absurd hz List.not_mem_nil) (by decide) (by decide) (C.1.2.2.2.2 (.classLink RL 13 zIA) (zHL_13 _)) (C.2.2.1.2.2.1 zIA zEx_IA).1 ?_
      refine z_astore3 (pc := 9) C (by decide) (fun w hw => by cases hw; exact (show ¬ (1 = 2) from by decide)) dL_bounds_9 ?_
      refine z_iconst (v := 1) (pc := 10) C dL_bounds_10 (by decide) ?_
      exact z_iret (pc := 11) C hr hlk (Or.inr ⟨(fun z => h0 z.1), (zgo_1 h0).symm, rfl, rfl⟩) (Nat.le_of_ble_eq_true rfl) (Nat.le_of_ble_eq_true rfl) dL_bounds_11
  · refine z_goto (tgt := 12) (pc := 6) C dL_bounds_6 (by decide) ?_
    refine z_iconst (v := 0) (pc := 12) C dL_bounds_12 (by decide) ?_
    exact z_iret (pc := 13) C hr hlk (Or.inl ⟨⟨hp.1, trivial, trivial⟩, rfl, hp.2.1, hp.2.2⟩) (Nat.le_of_ble_eq_true rfl) (Nat.le_of_ble_eq_true rfl) dL_bounds_13
set_option maxHeartbeats 4000000 in
set_option maxRecDepth 100000 in
theorem c_L_calibrate (l : Launch) (hfl : l.stackTraces = false) (E : zE) (sa : Nat → Nat) {μ : zM} {ov : Nat → Int64} {i a b x : Int32} (t c9 nc n : Nat) (H : zCI μ t c9 nc n) : zMi l E sa yL_calibrate (wsL_calibrate ++ zHL) 7 114 1 6 [.ref (zob E 0), .int i, .int a, .int b, .int x, .ref (zob E 8)] μ ov (fun r μ1 ov1 => (((0 ≤ i ∧ i < μ 63 5) ∧ ((0 ≤ a ∧ a ≤ 500) ∧ (a ≤ b ∧ b ≤ 500) ∧ -10000 ≤ x ∧ x ≤ 10000) ∧ (μ 12 i.toNatClampNeg < 10)) ∧ r = 0 ∧ ∃ v : Int32, (v = μ 12 i.toNatClampNeg + 1 ∧ μ1 = zu (zitr (fun j μ => zu μ (30 + i.toNatClampNeg) (a.toNatClampNeg + j) (μ (30 + i.toNatClampNeg) (a.toNatClampNeg + j) + x)) (b.toNatClampNeg + 1 - a.toNatClampNeg) μ) 12 i.toNatClampNeg (μ 12 i.toNatClampNeg + 1)) ∧ ov1 = vp_updL ov 0 v.toInt64) ∨ (¬ ((0 ≤ i ∧ i < μ 63 5) ∧ ((0 ≤ a ∧ a ≤ 500) ∧ (a ≤ b ∧ b ≤ 500) ∧ -10000 ≤ x ∧ x ≤ 10000) ∧ (μ 12 i.toNatClampNeg < 10)) ∧ r = zgo (0 ≤ i ∧ i < μ 63 5) ((0 ≤ a ∧ a ≤ 500) ∧ (a ≤ b ∧ b ≤ 500) ∧ -10000 ≤ x ∧ x ≤ 10000) (μ 12 i.toNatClampNeg < 10) ∧ μ1 = μ ∧ ov1 = ov)) := by
  refine z_ofWi (cc := cL_calibrate) (nL := 7) (ret := (some .int)) (own := RL) zfp_L_calibrate rfl (by simp [Value.category]) (Nat.le_of_ble_eq_true rfl) rfl ?_
  intro p e s m below meth c C hr hlk htab
  show zW p l e (zR 7 114 1 6) s m [Value.ref (zob E 0), Value.int i, Value.int a, Value.int b, Value.int x, Value.ref (zob E 8)].toArray below meth c E 7 0 0 (MQ below (zQi E s.heap.size (fun r μ1 ov1 => (((0 ≤ i ∧ i < μ 63 5) ∧ ((0 ≤ a ∧ a ≤ 500) ∧ (a ≤ b ∧ b ≤ 500) ∧ -10000 ≤ x ∧ x ≤ 10000) ∧ (μ 12 i.toNatClampNeg < 10)) ∧ r = 0 ∧ ∃ v : Int32, (v = μ 12 i.toNatClampNeg + 1 ∧ μ1 = zu (zitr (fun j μ => zu μ (30 + i.toNatClampNeg) (a.toNatClampNeg + j) (μ (30 + i.toNatClampNeg) (a.toNatClampNeg + j) + x)) (b.toNatClampNeg + 1 - a.toNatClampNeg) μ) 12 i.toNatClampNeg (μ 12 i.toNatClampNeg + 1)) ∧ ov1 = vp_updL ov 0 v.toInt64) ∨ (¬ ((0 ≤ i ∧ i < μ 63 5) ∧ ((0 ≤ a ∧ a ≤ 500) ∧ (a ≤ b ∧ b ≤ 500) ∧ -10000 ≤ x ∧ x ≤ 10000) ∧ (μ 12 i.toNatClampNeg < 10)) ∧ r = zgo (0 ≤ i ∧ i < μ 63 5) ((0 ≤ a ∧ a ≤ 500) ∧ (a ≤ b ∧ b ≤ 500) ∧ -10000 ≤ x ∧ x ≤ 10000) (μ 12 i.toNatClampNeg < 10) ∧ μ1 = μ ∧ ov1 = ov))) [Value.ref (zob E 0), Value.int i, Value.int a, Value.int b, Value.int x, Value.ref (zob E 8)].toArray s 1 6 (zA E s.heap.size)) 0 [some (.ref (zob E 0)), some (.int (i)), some (.int (a)), some (.int (b)), some (.int (x)), some (.ref (zob E 8)), none] [] μ ov
  refine z_aload (i := 5) (pc := 0) C dL_calibrate_0 rfl ?_
  refine z_iconst (v := 0) (pc := 2) C dL_calibrate_2 (by decide) ?_
  refine z_aloadn (i := 0) (pc := 3) C dL_calibrate_3 rfl rfl ?_
  refine z_iloadn (i := 1) (pc := 4) C dL_calibrate_4 rfl rfl ?_
  refine z_iloadn (i := 2) (pc := 5) C dL_calibrate_5 rfl rfl ?_
  refine z_iloadn (i := 3) (pc := 6) C dL_calibrate_6 rfl rfl ?_
  refine z_iload (i := 4) (pc := 7) C dL_calibrate_7 rfl ?_
  refine z_callXVi (pc := 9) (n := 4) (As := [.int (i), .int (a), .int (b), .int (x)]) (rest := [.int (0), .ref (zob E 8)]) C (c_X4_calibrate l hfl E sa (μ := μ) (ov := ov) (i := i) (a := a) (b := b) (x := x) t c9 nc n H) (zHL_g gL_calibrate_X4_calibrate) rfl zfV_X4_calibrate ⟨Nat.le_of_ble_eq_true rfl, Nat.le_of_ble_eq_true rfl⟩ rfl (zRec_X4 E) rfl (Nat.le_of_ble_eq_true rfl) ⟨Nat.le_of_ble_eq_true rfl, Nat.le_of_ble_eq_true rfl⟩ dL_calibrate_9 (fun X q9 hpx => ?_) (fun r9 μ9 ov9 hp => ?_)
  · rcases hpx with ⟨h0, rfl⟩ | ⟨h0, h1, rfl⟩ | ⟨h0, h1, h2, rfl⟩
    · refine z_catch C [] ⟨0, 14, 17, 21⟩ [⟨0, 14, 21, 13⟩, ⟨0, 14, 25, 15⟩] (by rw [htab]; rfl) (fun z hz => absurd hz List.not_mem_nil) (by decide) (by decide) (C.1.2.2.2.2 (.classLink RL 21 zIO) (zHL_21 _)) (C.2.2.1.2.2.1 zIO zEx_IO).1 ?_
      refine z_astore6 (pc := 17) C (by decide) (fun w hw => by cases hw; exact (show ¬ (1 = 2) from by decide)) dL_calibrate_17 ?_
      refine z_iconst (v := 1) (pc := 19) C dL_calibrate_19 (by decide) ?_
      exact z_iret (pc := 20) C hr hlk (Or.inr ⟨(fun z => h0 z.1), (zgo_1 h0).symm, rfl, rfl⟩) (Nat.le_of_ble_eq_true rfl) (Nat.le_of_ble_eq_true rfl) dL_calibrate_20
    · refine z_catch C [⟨0, 14, 17, 21⟩] ⟨0, 14, 21, 13⟩ [⟨0, 14, 25, 15⟩] (by rw [htab]; rfl) (fun z hz => by rw [List.mem_singleton.mp hz]; exact Or.inr ⟨by decide, zIO, C.1.2.2.2.2 (.classLink RL 21 zIO) (zHL_21 _), C.2.2.1.2.2.2.1 zIA zEx_IA zIO zEx_IO (by decide)⟩) (by decide) (by decide) (C.1.2.2.2.2 (.classLink RL 13 zIA) (zHL_13 _)) (C.2.2.1.2.2.1 zIA zEx_IA).1 ?_
      refine z_astore6 (pc := 21) C (by decide) (fun w hw => by cases hw; exact (show ¬ (1 = 2) from by decide)) dL_calibrate_21 ?_
      refine z_iconst (v := 2) (pc := 23) C dL_calibrate_23 (by decide) ?_
      exact z_iret (pc := 24) C hr hlk (Or.inr ⟨(fun z => h1 z.2.1), (zgo_2 h0 h1).symm, rfl, rfl⟩) (Nat.le_of_ble_eq_true rfl) (Nat.le_of_ble_eq_true rfl) dL_calibrate_24
    · refine z_catch C [⟨0, 14, 17, 21⟩, ⟨0, 14, 21, 13⟩] ⟨0, 14, 25, 15⟩ [] (by rw [htab]; rfl) (fun z hz => by rcases List.mem_cons.mp hz with hz | hz; (rw [hz]; exact Or.inr ⟨by decide, zIO, C.1.2.2.2.2 (.classLink RL 21 zIO) (zHL_21 _), C.2.2.1.2.2.2.1 zIS zEx_IS zIO zEx_IO (by decide)⟩); (rw [List.mem_singleton.mp hz]; exact Or.inr ⟨by decide, zIA, C.1.2.2.2.2 (.classLink RL 13 zIA) (zHL_13 _), C.2.2.1.2.2.2.1 zIS zEx_IS zIA zEx_IA (by decide)⟩)) (by decide) (by decide) (C.1.2.2.2.2 (.classLink RL 15 zIS) (zHL_15 _)) (C.2.2.1.2.2.1 zIS zEx_IS).1 ?_
      refine z_astore6 (pc := 25) C (by decide) (fun w hw => by cases hw; exact (show ¬ (1 = 2) from by decide)) dL_calibrate_25 ?_
      refine z_iconst (v := 3) (pc := 27) C dL_calibrate_27 (by decide) ?_
      exact z_iret (pc := 28) C hr hlk (Or.inr ⟨(fun z => h2 z.2.2), (zgo_3 h0 h1 h2).symm, rfl, rfl⟩) (Nat.le_of_ble_eq_true rfl) (Nat.le_of_ble_eq_true rfl) dL_calibrate_28
  · refine z_i2l (pc := 12) C dL_calibrate_12 ?_
    refine z_last (pc := 13) C rfl dL_calibrate_13 ?_
    refine z_goto (tgt := 29) (pc := 14) C dL_calibrate_14 (by decide) ?_
    refine z_iconst (v := 0) (pc := 29) C dL_calibrate_29 (by decide) ?_
    exact z_iret (pc := 30) C hr hlk (Or.inl ⟨⟨hp.1, hp.2.1, hp.2.2.1⟩, rfl, ⟨r9, ⟨hp.2.2.2.1, hp.2.2.2.2.1⟩, by rw [hp.2.2.2.2.2]⟩⟩) (Nat.le_of_ble_eq_true rfl) (Nat.le_of_ble_eq_true rfl) dL_calibrate_30
set_option maxHeartbeats 4000000 in
set_option maxRecDepth 100000 in
theorem c_L_event (l : Launch) (hfl : l.stackTraces = false) (E : zE) (sa : Nat → Nat) {μ : zM} {ov : Nat → Int64} {d k i a : Int32} (t c9 nc n : Nat) (H : zCI μ t c9 nc n) : zMi l E sa yL_event (wsL_event ++ zHL) 7 115 1 6 [.ref (zob E 0), .int d, .int k, .int i, .int a, .ref (zob E 8)] μ ov (fun r μ1 ov1 => (((μ 63 0 < d ∧ d ≤ 500 ∧ 0 ≤ k ∧ k ≤ 3) ∧ (((k = 0 ∨ k = 1) ∧ 0 ≤ i ∧ i < μ 63 4) ∨ (¬ (k = 0 ∨ k = 1) ∧ 0 ≤ i ∧ i < μ 63 5)) ∧ (zamt k a ∧ c9 < 40)) ∧ r = 0 ∧ ∃ v : Int32, (v = nI (c9 + 1) ∧ (∃ (p : Nat) (h : Nat → Int32), zins (μ 13) c9 (zevC d k i a) p h ∧ (p = 0 ∨ zevC d k i a ≤ μ 13 (p - 1)) ∧ μ1 = zu (zur μ 13 (upd h p (zevC d k i a))) 63 6 (nI (c9 + 1)))) ∧ ov1 = vp_updL ov 0 v.toInt64) ∨ (¬ ((μ 63 0 < d ∧ d ≤ 500 ∧ 0 ≤ k ∧ k ≤ 3) ∧ (((k = 0 ∨ k = 1) ∧ 0 ≤ i ∧ i < μ 63 4) ∨ (¬ (k = 0 ∨ k = 1) ∧ 0 ≤ i ∧ i < μ 63 5)) ∧ (zamt k a ∧ c9 < 40)) ∧ r = zgo (μ 63 0 < d ∧ d ≤ 500 ∧ 0 ≤ k ∧ k ≤ 3) (((k = 0 ∨ k = 1) ∧ 0 ≤ i ∧ i < μ 63 4) ∨ (¬ (k = 0 ∨ k = 1) ∧ 0 ≤ i ∧ i < μ 63 5)) (zamt k a ∧ c9 < 40) ∧ μ1 = μ ∧ ov1 = ov)) := by
  refine z_ofWi (cc := cL_event) (nL := 7) (ret := (some .int)) (own := RL) zfp_L_event rfl (by simp [Value.category]) (Nat.le_of_ble_eq_true rfl) rfl ?_
  intro p e s m below meth c C hr hlk htab
  show zW p l e (zR 7 115 1 6) s m [Value.ref (zob E 0), Value.int d, Value.int k, Value.int i, Value.int a, Value.ref (zob E 8)].toArray below meth c E 7 0 0 (MQ below (zQi E s.heap.size (fun r μ1 ov1 => (((μ 63 0 < d ∧ d ≤ 500 ∧ 0 ≤ k ∧ k ≤ 3) ∧ (((k = 0 ∨ k = 1) ∧ 0 ≤ i ∧ i < μ 63 4) ∨ (¬ (k = 0 ∨ k = 1) ∧ 0 ≤ i ∧ i < μ 63 5)) ∧ (zamt k a ∧ c9 < 40)) ∧ r = 0 ∧ ∃ v : Int32, (v = nI (c9 + 1) ∧ (∃ (p : Nat) (h : Nat → Int32), zins (μ 13) c9 (zevC d k i a) p h ∧ (p = 0 ∨ zevC d k i a ≤ μ 13 (p - 1)) ∧ μ1 = zu (zur μ 13 (upd h p (zevC d k i a))) 63 6 (nI (c9 + 1)))) ∧ ov1 = vp_updL ov 0 v.toInt64) ∨ (¬ ((μ 63 0 < d ∧ d ≤ 500 ∧ 0 ≤ k ∧ k ≤ 3) ∧ (((k = 0 ∨ k = 1) ∧ 0 ≤ i ∧ i < μ 63 4) ∨ (¬ (k = 0 ∨ k = 1) ∧ 0 ≤ i ∧ i < μ 63 5)) ∧ (zamt k a ∧ c9 < 40)) ∧ r = zgo (μ 63 0 < d ∧ d ≤ 500 ∧ 0 ≤ k ∧ k ≤ 3) (((k = 0 ∨ k = 1) ∧ 0 ≤ i ∧ i < μ 63 4) ∨ (¬ (k = 0 ∨ k = 1) ∧ 0 ≤ i ∧ i < μ 63 5)) (zamt k a ∧ c9 < 40) ∧ μ1 = μ ∧ ov1 = ov))) [Value.ref (zob E 0), Value.int d, Value.int k, Value.int i, Value.int a, Value.ref (zob E 8)].toArray s 1 6 (zA E s.heap.size)) 0 [some (.ref (zob E 0)), some (.int (d)), some (.int (k)), some (.int (i)), some (.int (a)), some (.ref (zob E 8)), none] [] μ ov
  refine z_aload (i := 5) (pc := 0) C dL_event_0 rfl ?_
  refine z_iconst (v := 0) (pc := 2) C dL_event_2 (by decide) ?_
  refine z_aloadn (i := 0) (pc := 3) C dL_event_3 rfl rfl ?_
  refine z_iloadn (i := 1) (pc := 4) C dL_event_4 rfl rfl ?_
  refine z_iloadn (i := 2) (pc := 5) C dL_event_5 rfl rfl ?_
  refine z_iloadn (i := 3) (pc := 6) C dL_event_6 rfl rfl ?_
  refine z_iload (i := 4) (pc := 7) C dL_event_7 rfl ?_
  refine z_callXVi (pc := 9) (n := 4) (As := [.int (d), .int (k), .int (i), .int (a)]) (rest := [.int (0), .ref (zob E 8)]) C (c_X4_event l hfl E sa (μ := μ) (ov := ov) (d := d) (k := k) (i := i) (a := a) t c9 nc n H) (zHL_g gL_event_X4_event) rfl zfV_X4_event ⟨Nat.le_of_ble_eq_true rfl, Nat.le_of_ble_eq_true rfl⟩ rfl (zRec_X4 E) rfl (Nat.le_of_ble_eq_true rfl) ⟨Nat.le_of_ble_eq_true rfl, Nat.le_of_ble_eq_true rfl⟩ dL_event_9 (fun X q9 hpx => ?_) (fun r9 μ9 ov9 hp => ?_)
  · rcases hpx with ⟨h0, rfl⟩ | ⟨h0, h1, rfl⟩ | ⟨h0, h1, h2, rfl⟩
    · refine z_catch C [] ⟨0, 14, 17, 13⟩ [⟨0, 14, 21, 21⟩, ⟨0, 14, 25, 15⟩] (by rw [htab]; rfl) (fun z hz => absurd hz List.not_mem_nil) (by decide) (by decide) (C.1.2.2.2.2 (.classLink RL 13 zIA) (zHL_13 _)) (C.2.2.1.2.2.1 zIA zEx_IA).1 ?_
      refine z_astore6 (pc := 17) C (by decide) (fun w hw => by cases hw; exact (show ¬ (1 = 2) from by decide)) dL_event_17 ?_
      refine z_iconst (v := 1) (pc := 19) C dL_event_19 (by decide) ?_
      exact z_iret (pc := 20) C hr hlk (Or.inr ⟨(fun z => h0 z.1), (zgo_1 h0).symm, rfl, rfl⟩) (Nat.le_of_ble_eq_true rfl) (Nat.le_of_ble_eq_true rfl) dL_event_20
    · refine z_catch C [⟨0, 14, 17, 13⟩] ⟨0, 14, 21, 21⟩ [⟨0, 14, 25, 15⟩] (by rw [htab]; rfl) (fun z hz => by rw [List.mem_singleton.mp hz]; exact Or.inr ⟨by decide, zIA, C.1.2.2.2.2 (.classLink RL 13 zIA) (zHL_13 _), C.2.2.1.2.2.2.1 zIO zEx_IO zIA zEx_IA (by decide)⟩) (by decide) (by decide) (C.1.2.2.2.2 (.classLink RL 21 zIO) (zHL_21 _)) (C.2.2.1.2.2.1 zIO zEx_IO).1 ?_
      refine z_astore6 (pc := 21) C (by decide) (fun w hw => by cases hw; exact (show ¬ (1 = 2) from by decide)) dL_event_21 ?_
      refine z_iconst (v := 2) (pc := 23) C dL_event_23 (by decide) ?_
      exact z_iret (pc := 24) C hr hlk (Or.inr ⟨(fun z => h1 z.2.1), (zgo_2 h0 h1).symm, rfl, rfl⟩) (Nat.le_of_ble_eq_true rfl) (Nat.le_of_ble_eq_true rfl) dL_event_24
    · refine z_catch C [⟨0, 14, 17, 13⟩, ⟨0, 14, 21, 21⟩] ⟨0, 14, 25, 15⟩ [] (by rw [htab]; rfl) (fun z hz => by rcases List.mem_cons.mp hz with hz | hz; (rw [hz]; exact Or.inr ⟨by decide, zIA, C.1.2.2.2.2 (.classLink RL 13 zIA) (zHL_13 _), C.2.2.1.2.2.2.1 zIS zEx_IS zIA zEx_IA (by decide)⟩); (rw [List.mem_singleton.mp hz]; exact Or.inr ⟨by decide, zIO, C.1.2.2.2.2 (.classLink RL 21 zIO) (zHL_21 _), C.2.2.1.2.2.2.1 zIS zEx_IS zIO zEx_IO (by decide)⟩)) (by decide) (by decide) (C.1.2.2.2.2 (.classLink RL 15 zIS) (zHL_15 _)) (C.2.2.1.2.2.1 zIS zEx_IS).1 ?_
      refine z_astore6 (pc := 25) C (by decide) (fun w hw => by cases hw; exact (show ¬ (1 = 2) from by decide)) dL_event_25 ?_
      refine z_iconst (v := 3) (pc := 27) C dL_event_27 (by decide) ?_
      exact z_iret (pc := 28) C hr hlk (Or.inr ⟨(fun z => h2 z.2.2), (zgo_3 h0 h1 h2).symm, rfl, rfl⟩) (Nat.le_of_ble_eq_true rfl) (Nat.le_of_ble_eq_true rfl) dL_event_28
  · refine z_i2l (pc := 12) C dL_event_12 ?_
    refine z_last (pc := 13) C rfl dL_event_13 ?_
    refine z_goto (tgt := 29) (pc := 14) C dL_event_14 (by decide) ?_
    refine z_iconst (v := 0) (pc := 29) C dL_event_29 (by decide) ?_
    exact z_iret (pc := 30) C hr hlk (Or.inl ⟨⟨hp.1, hp.2.1, hp.2.2.1⟩, rfl, ⟨r9, ⟨hp.2.2.2.1, hp.2.2.2.2.1⟩, by rw [hp.2.2.2.2.2]⟩⟩) (Nat.le_of_ble_eq_true rfl) (Nat.le_of_ble_eq_true rfl) dL_event_30
set_option maxHeartbeats 4000000 in
set_option maxRecDepth 100000 in
theorem c_L_pass (l : Launch) (hfl : l.stackTraces = false) (E : zE) (sa : Nat → Nat) {μ : zM} {ov : Nat → Int64} {f : Int32} (t c9 nc n : Nat) (H : zCI μ t c9 nc n) : zMi l E sa yL_pass (wsL_pass ++ zHL) 7 139 1 6 [.ref (zob E 0), .int f, .ref (zob E 8)] μ ov (fun r μ1 ov1 => (((1 ≤ f ∧ f ≤ 50) ∧ (f ≤ 500 - μ 63 0) ∧ (True)) ∧ r = 0 ∧ ∃ v : Int32, (v = zpas f.toNatClampNeg μ 63 0 ∧ μ1 = zpas f.toNatClampNeg μ) ∧ ov1 = vp_updL ov 0 v.toInt64) ∨ (¬ ((1 ≤ f ∧ f ≤ 50) ∧ (f ≤ 500 - μ 63 0) ∧ (True)) ∧ r = zgo (1 ≤ f ∧ f ≤ 50) (f ≤ 500 - μ 63 0) (True) ∧ μ1 = μ ∧ ov1 = ov)) := by
  refine z_ofWi (cc := cL_pass) (nL := 4) (ret := (some .int)) (own := RL) zfp_L_pass rfl (by simp [Value.category]) (Nat.le_of_ble_eq_true rfl) rfl ?_
  intro p e s m below meth c C hr hlk htab
  show zW p l e (zR 7 139 1 6) s m [Value.ref (zob E 0), Value.int f, Value.ref (zob E 8)].toArray below meth c E 4 0 0 (MQ below (zQi E s.heap.size (fun r μ1 ov1 => (((1 ≤ f ∧ f ≤ 50) ∧ (f ≤ 500 - μ 63 0) ∧ (True)) ∧ r = 0 ∧ ∃ v : Int32, (v = zpas f.toNatClampNeg μ 63 0 ∧ μ1 = zpas f.toNatClampNeg μ) ∧ ov1 = vp_updL ov 0 v.toInt64) ∨ (¬ ((1 ≤ f ∧ f ≤ 50) ∧ (f ≤ 500 - μ 63 0) ∧ (True)) ∧ r = zgo (1 ≤ f ∧ f ≤ 50) (f ≤ 500 - μ 63 0) (True) ∧ μ1 = μ ∧ ov1 = ov))) [Value.ref (zob E 0), Value.int f, Value.ref (zob E 8)].toArray s 1 6 (zA E s.heap.size)) 0 [some (.ref (zob E 0)), some (.int (f)), some (.ref (zob E 8)), none] [] μ ov
  refine z_aloadn (i := 2) (pc := 0) C dL_pass_0 rfl rfl ?_
  refine z_iconst (v := 0) (pc := 1) C dL_pass_1 (by decide) ?_
  refine z_aloadn (i := 0) (pc := 2) C dL_pass_2 rfl rfl ?_
  refine z_iloadn (i := 1) (pc := 3) C dL_pass_3 rfl rfl ?_
  refine z_callXVi (pc := 4) (n := 1) (As := [.int (f)]) (rest := [.int (0), .ref (zob E 8)]) C (c_X4_pass l hfl E sa (μ := μ) (ov := ov) (f := f) t c9 nc n H) (zHL_g gL_pass_X4_pass) rfl zfV_X4_pass ⟨Nat.le_of_ble_eq_true rfl, Nat.le_of_ble_eq_true rfl⟩ rfl (zRec_X4 E) rfl (Nat.le_of_ble_eq_true rfl) ⟨Nat.le_of_ble_eq_true rfl, Nat.le_of_ble_eq_true rfl⟩ dL_pass_4 (fun X q9 hpx => ?_) (fun r9 μ9 ov9 hp => ?_)
  · rcases hpx with ⟨h0, rfl⟩ | ⟨h0, h1, rfl⟩
    · refine z_catch C [] ⟨0, 9, 12, 13⟩ [⟨0, 9, 15, 15⟩] (by rw [htab]; rfl) (fun z hz => absurd hz List.not_mem_nil) (by decide) (by decide) (C.1.2.2.2.2 (.classLink RL 13 zIA) (zHL_13 _)) (C.2.2.1.2.2.1 zIA zEx_IA).1 ?_
      refine z_astore3 (pc := 12) C (by decide) (fun w hw => by cases hw; exact (show ¬ (1 = 2) from by decide)) dL_pass_12 ?_
      refine z_iconst (v := 1) (pc := 13) C dL_pass_13 (by decide) ?_
      exact z_iret (pc := 14) C hr hlk (Or.inr ⟨(fun z => h0 z.1), (zgo_1 h0).symm, rfl, rfl⟩) (Nat.le_of_ble_eq_true rfl) (Nat.le_of_ble_eq_true rfl) dL_pass_14
    · refine z_catch C [⟨0, 9, 12, 13⟩] ⟨0, 9, 15, 15⟩ [] (by rw [htab]; rfl) (fun z hz => by rw [List.mem_singleton.mp hz]; exact Or.inr ⟨by decide, zIA, C.1.2.2.2.2 (.classLink RL 13 zIA) (zHL_13 _), C.2.2.1.2.2.2.1 zIS zEx_IS zIA zEx_IA (by decide)⟩) (by decide) (by decide) (C.1.2.2.2.2 (.classLink RL 15 zIS) (zHL_15 _)) (C.2.2.1.2.2.1 zIS zEx_IS).1 ?_
      refine z_astore3 (pc := 15) C (by decide) (fun w hw => by cases hw; exact (show ¬ (1 = 2) from by decide)) dL_pass_15 ?_
      refine z_iconst (v := 2) (pc := 16) C dL_pass_16 (by decide) ?_
      exact z_iret (pc := 17) C hr hlk (Or.inr ⟨(fun z => h1 z.2.1), (zgo_2 h0 h1).symm, rfl, rfl⟩) (Nat.le_of_ble_eq_true rfl) (Nat.le_of_ble_eq_true rfl) dL_pass_17
  · refine z_i2l (pc := 7) C dL_pass_7 ?_
    refine z_last (pc := 8) C rfl dL_pass_8 ?_
    refine z_goto (tgt := 18) (pc := 9) C dL_pass_9 (by decide) ?_
    refine z_iconst (v := 0) (pc := 18) C dL_pass_18 (by decide) ?_
    exact z_iret (pc := 19) C hr hlk (Or.inl ⟨⟨hp.1, hp.2.1, trivial⟩, rfl, ⟨r9, ⟨hp.2.2.1, hp.2.2.2.1⟩, by rw [hp.2.2.2.2]⟩⟩) (Nat.le_of_ble_eq_true rfl) (Nat.le_of_ble_eq_true rfl) dL_pass_19
set_option maxHeartbeats 4000000 in
set_option maxRecDepth 100000 in
theorem c_L_vote (l : Launch) (hfl : l.stackTraces = false) (E : zE) (sa : Nat → Nat) {μ : zM} {ov : Nat → Int64} {i b : Int32} (hb : b = 0 ∨ b = 1) (t c9 nc n : Nat) (H : zCI μ t c9 nc n) : zMi l E sa yL_vote (wsL_vote ++ zHL) 7 112 1 6 [.ref (zob E 0), .int i, .int b, .ref (zob E 8)] μ ov (fun r μ1 ov1 => (((0 ≤ i ∧ i ≤ 6) ∧ (True) ∧ (True)) ∧ r = 0 ∧ ∃ v : Int32, (v = nI (zcnt (zhou (zu μ 1 i.toNatClampNeg b)) 7) ∧ μ1 = zu μ 1 i.toNatClampNeg b) ∧ ov1 = vp_updL ov 0 v.toInt64) ∨ (¬ ((0 ≤ i ∧ i ≤ 6) ∧ (True) ∧ (True)) ∧ r = zgo (0 ≤ i ∧ i ≤ 6) (True) (True) ∧ μ1 = μ ∧ ov1 = ov)) := by
  refine z_ofWi (cc := cL_vote) (nL := 5) (ret := (some .int)) (own := RL) zfp_L_vote rfl (by simp [Value.category]) (Nat.le_of_ble_eq_true rfl) rfl ?_
  intro p e s m below meth c C hr hlk htab
  show zW p l e (zR 7 112 1 6) s m [Value.ref (zob E 0), Value.int i, Value.int b, Value.ref (zob E 8)].toArray below meth c E 5 0 0 (MQ below (zQi E s.heap.size (fun r μ1 ov1 => (((0 ≤ i ∧ i ≤ 6) ∧ (True) ∧ (True)) ∧ r = 0 ∧ ∃ v : Int32, (v = nI (zcnt (zhou (zu μ 1 i.toNatClampNeg b)) 7) ∧ μ1 = zu μ 1 i.toNatClampNeg b) ∧ ov1 = vp_updL ov 0 v.toInt64) ∨ (¬ ((0 ≤ i ∧ i ≤ 6) ∧ (True) ∧ (True)) ∧ r = zgo (0 ≤ i ∧ i ≤ 6) (True) (True) ∧ μ1 = μ ∧ ov1 = ov))) [Value.ref (zob E 0), Value.int i, Value.int b, Value.ref (zob E 8)].toArray s 1 6 (zA E s.heap.size)) 0 [some (.ref (zob E 0)), some (.int (i)), some (.int (b)), some (.ref (zob E 8)), none] [] μ ov
  refine z_aloadn (i := 3) (pc := 0) C dL_vote_0 rfl rfl ?_
  refine z_iconst (v := 0) (pc := 1) C dL_vote_1 (by decide) ?_
  refine z_aloadn (i := 0) (pc := 2) C dL_vote_2 rfl rfl ?_
  refine z_iloadn (i := 1) (pc := 3) C dL_vote_3 rfl rfl ?_
  refine z_iloadn (i := 2) (pc := 4) C dL_vote_4 rfl rfl ?_
  refine z_callXVi (pc := 5) (n := 2) (As := [.int (i), .int (b)]) (rest := [.int (0), .ref (zob E 8)]) C (c_X4_vote l hfl E sa (μ := μ) (ov := ov) (i := i) (b := b) hb t c9 nc n H) (zHL_g gL_vote_X4_vote) rfl zfV_X4_vote ⟨Nat.le_of_ble_eq_true rfl, Nat.le_of_ble_eq_true rfl⟩ rfl (zRec_X4 E) rfl (Nat.le_of_ble_eq_true rfl) ⟨Nat.le_of_ble_eq_true rfl, Nat.le_of_ble_eq_true rfl⟩ dL_vote_5 (fun X q9 hpx => ?_) (fun r9 μ9 ov9 hp => ?_)
  · rcases hpx with ⟨h0, rfl⟩
    · refine z_catch C [] ⟨0, 10, 13, 21⟩ [] (by rw [htab]; rfl) (fun z hz => absurd hz List.not_mem_nil) (by decide) (by decide) (C.1.2.2.2.2 (.classLink RL 21 zIO) (zHL_21 _)) (C.2.2.1.2.2.1 zIO zEx_IO).1 ?_
      refine z_astore4 (pc := 13) C (by decide) (fun w hw => by cases hw; exact (show ¬ (1 = 2) from by decide)) dL_vote_13 ?_
      refine z_iconst (v := 1) (pc := 15) C dL_vote_15 (by decide) ?_
      exact z_iret (pc := 16) C hr hlk (Or.inr ⟨(fun z => h0 z.1), (zgo_1 h0).symm, rfl, rfl⟩) (Nat.le_of_ble_eq_true rfl) (Nat.le_of_ble_eq_true rfl) dL_vote_16
  · refine z_i2l (pc := 8) C dL_vote_8 ?_
    refine z_last (pc := 9) C rfl dL_vote_9 ?_
    refine z_goto (tgt := 17) (pc := 10) C dL_vote_10 (by decide) ?_
    refine z_iconst (v := 0) (pc := 17) C dL_vote_17 (by decide) ?_
    exact z_iret (pc := 18) C hr hlk (Or.inl ⟨⟨hp.1, trivial, trivial⟩, rfl, ⟨r9, ⟨hp.2.1, hp.2.2.1⟩, by rw [hp.2.2.2]⟩⟩) (Nat.le_of_ble_eq_true rfl) (Nat.le_of_ble_eq_true rfl) dL_vote_18
set_option maxHeartbeats 4000000 in
set_option maxRecDepth 100000 in
theorem c_L_adopt (l : Launch) (hfl : l.stackTraces = false) (E : zE) (sa : Nat → Nat) {μ : zM} {ov : Nat → Int64}  (t c9 nc n : Nat) (H : zCI μ t c9 nc n) : zMi l E sa yL_adopt (wsL_adopt ++ zHL) 7 160 1 6 [.ref (zob E 0), .ref (zob E 8)] μ ov (fun r μ1 ov1 => (((μ 63 3 = 0 ∧ ¬ μ 63 0 = 0) ∧ (True) ∧ (True)) ∧ r = 0 ∧ ∃ v : Int32, (v = zb (5 ≤ zcnt (zhou μ) 7 ∧ nI (zopen μ t n) = 0) ∧ (∃ ν, zScr μ ν ∧ μ1 = zu ν 63 3 (zb (5 ≤ zcnt (zhou μ) 7 ∧ nI (zopen μ t n) = 0)))) ∧ ov1 = vp_updL ov 0 v.toInt64) ∨ (¬ ((μ 63 3 = 0 ∧ ¬ μ 63 0 = 0) ∧ (True) ∧ (True)) ∧ r = zgo (μ 63 3 = 0 ∧ ¬ μ 63 0 = 0) (True) (True) ∧ μ1 = μ ∧ ov1 = ov)) := by
  refine z_ofWi (cc := cL_adopt) (nL := 3) (ret := (some .int)) (own := RL) zfp_L_adopt rfl (by simp [Value.category]) (Nat.le_of_ble_eq_true rfl) rfl ?_
  intro p e s m below meth c C hr hlk htab
  show zW p l e (zR 7 160 1 6) s m [Value.ref (zob E 0), Value.ref (zob E 8)].toArray below meth c E 3 0 0 (MQ below (zQi E s.heap.size (fun r μ1 ov1 => (((μ 63 3 = 0 ∧ ¬ μ 63 0 = 0) ∧ (True) ∧ (True)) ∧ r = 0 ∧ ∃ v : Int32, (v = zb (5 ≤ zcnt (zhou μ) 7 ∧ nI (zopen μ t n) = 0) ∧ (∃ ν, zScr μ ν ∧ μ1 = zu ν 63 3 (zb (5 ≤ zcnt (zhou μ) 7 ∧ nI (zopen μ t n) = 0)))) ∧ ov1 = vp_updL ov 0 v.toInt64) ∨ (¬ ((μ 63 3 = 0 ∧ ¬ μ 63 0 = 0) ∧ (True) ∧ (True)) ∧ r = zgo (μ 63 3 = 0 ∧ ¬ μ 63 0 = 0) (True) (True) ∧ μ1 = μ ∧ ov1 = ov))) [Value.ref (zob E 0), Value.ref (zob E 8)].toArray s 1 6 (zA E s.heap.size)) 0 [some (.ref (zob E 0)), some (.ref (zob E 8)), none] [] μ ov
  refine z_aloadn (i := 1) (pc := 0) C dL_adopt_0 rfl rfl ?_
  refine z_iconst (v := 0) (pc := 1) C dL_adopt_1 (by decide) ?_
  refine z_aloadn (i := 0) (pc := 2) C dL_adopt_2 rfl rfl ?_
  refine z_callXVi (pc := 3) (n := 0) (As := []) (rest := [.int (0), .ref (zob E 8)]) C (c_X4_adopt l hfl E sa (μ := μ) (ov := ov) t c9 nc n H) (zHL_g gL_adopt_X4_adopt) rfl zfV_X4_adopt ⟨Nat.le_of_ble_eq_true rfl, Nat.le_of_ble_eq_true rfl⟩ rfl (zRec_X4 E) rfl (Nat.le_of_ble_eq_true rfl) ⟨Nat.le_of_ble_eq_true rfl, Nat.le_of_ble_eq_true rfl⟩ dL_adopt_3 (fun X q9 hpx => ?_) (fun r9 μ9 ov9 hp => ?_)
  · rcases hpx with ⟨h0, rfl⟩
    · refine z_catch C [] ⟨0, 15, 18, 15⟩ [] (by rw [htab]; rfl) (fun z hz => absurd hz List.not_mem_nil) (by decide) (by decide) (C.1.2.2.2.2 (.classLink RL 15 zIS) (zHL_15 _)) (C.2.2.1.2.2.1 zIS zEx_IS).1 ?_
      refine z_astore2 (pc := 18) C (by decide) (fun w hw => by cases hw; exact (show ¬ (1 = 2) from by decide)) dL_adopt_18 ?_
      refine z_iconst (v := 1) (pc := 19) C dL_adopt_19 (by decide) ?_
      exact z_iret (pc := 20) C hr hlk (Or.inr ⟨(fun z => h0 z.1), (zgo_1 h0).symm, rfl, rfl⟩) (Nat.le_of_ble_eq_true rfl) (Nat.le_of_ble_eq_true rfl) dL_adopt_20
  · refine z_if_eq (tgt := 13) (pc := 6) C dL_adopt_6 (by decide) (fun c_1 => ?_) (fun c_1 => ?_)
    · refine z_lconst (v := 0) (pc := 13) C dL_adopt_13 (by decide) ?_
      refine z_last (pc := 14) C rfl dL_adopt_14 ?_
      refine z_goto (tgt := 21) (pc := 15) C dL_adopt_15 (by decide) ?_
      refine z_iconst (v := 0) (pc := 21) C dL_adopt_21 (by decide) ?_
      exact z_iret (pc := 22) C hr hlk (Or.inl ⟨⟨hp.1, trivial, trivial⟩, rfl, ⟨r9, ⟨hp.2.1, hp.2.2.1⟩, by rw [hp.2.2.2, c_1]; rfl⟩⟩) (Nat.le_of_ble_eq_true rfl) (Nat.le_of_ble_eq_true rfl) dL_adopt_22
    · refine z_lconst (v := 1) (pc := 9) C dL_adopt_9 (by decide) ?_
      refine z_goto (tgt := 14) (pc := 10) C dL_adopt_10 (by decide) ?_
      refine z_last (pc := 14) C rfl dL_adopt_14 ?_
      refine z_goto (tgt := 21) (pc := 15) C dL_adopt_15 (by decide) ?_
      refine z_iconst (v := 0) (pc := 21) C dL_adopt_21 (by decide) ?_
      exact z_iret (pc := 22) C hr hlk (Or.inl ⟨⟨hp.1, trivial, trivial⟩, rfl, ⟨r9, ⟨hp.2.1, hp.2.2.1⟩, by rw [hp.2.2.2, show r9 = 1 from by have h := hp.2.1; rw [h] at c_1 ⊢; rw [zb_ne0] at c_1; exact zb_t c_1]; rfl⟩⟩) (Nat.le_of_ble_eq_true rfl) (Nat.le_of_ble_eq_true rfl) dL_adopt_22
set_option maxHeartbeats 4000000 in
set_option maxRecDepth 100000 in
theorem c_L_of (l : Launch) (hfl : l.stackTraces = false) (E : zE) (sa : Nat → Nat) {μ : zM} {ov : Nat → Int64} {i w : Int32} (t c9 nc n : Nat) (H : zCI μ t c9 nc n) : zMi l E sa yL_of (wsL_of ++ zHL) 7 112 1 6 [.ref (zob E 0), .int i, .int w, .ref (zob E 8)] μ ov (fun r μ1 ov1 => (((0 ≤ i ∧ i < μ 63 4) ∧ (0 ≤ w ∧ w ≤ 2) ∧ (True)) ∧ r = 0 ∧ ∃ v : Int32, (v = (if w = 0 then μ 6 i.toNatClampNeg else if w = 1 then μ 2 i.toNatClampNeg else μ 5 i.toNatClampNeg) ∧ μ1 = μ) ∧ ov1 = vp_updL ov 0 v.toInt64) ∨ (¬ ((0 ≤ i ∧ i < μ 63 4) ∧ (0 ≤ w ∧ w ≤ 2) ∧ (True)) ∧ r = zgo (0 ≤ i ∧ i < μ 63 4) (0 ≤ w ∧ w ≤ 2) (True) ∧ μ1 = μ ∧ ov1 = ov)) := by
  refine z_ofWi (cc := cL_of) (nL := 5) (ret := (some .int)) (own := RL) zfp_L_of rfl (by simp [Value.category]) (Nat.le_of_ble_eq_true rfl) rfl ?_
  intro p e s m below meth c C hr hlk htab
  show zW p l e (zR 7 112 1 6) s m [Value.ref (zob E 0), Value.int i, Value.int w, Value.ref (zob E 8)].toArray below meth c E 5 0 0 (MQ below (zQi E s.heap.size (fun r μ1 ov1 => (((0 ≤ i ∧ i < μ 63 4) ∧ (0 ≤ w ∧ w ≤ 2) ∧ (True)) ∧ r = 0 ∧ ∃ v : Int32, (v = (if w = 0 then μ 6 i.toNatClampNeg else if w = 1 then μ 2 i.toNatClampNeg else μ 5 i.toNatClampNeg) ∧ μ1 = μ) ∧ ov1 = vp_updL ov 0 v.toInt64) ∨ (¬ ((0 ≤ i ∧ i < μ 63 4) ∧ (0 ≤ w ∧ w ≤ 2) ∧ (True)) ∧ r = zgo (0 ≤ i ∧ i < μ 63 4) (0 ≤ w ∧ w ≤ 2) (True) ∧ μ1 = μ ∧ ov1 = ov))) [Value.ref (zob E 0), Value.int i, Value.int w, Value.ref (zob E 8)].toArray s 1 6 (zA E s.heap.size)) 0 [some (.ref (zob E 0)), some (.int (i)), some (.int (w)), some (.ref (zob E 8)), none] [] μ ov
  refine z_aloadn (i := 3) (pc := 0) C dL_of_0 rfl rfl ?_
  refine z_iconst (v := 0) (pc := 1) C dL_of_1 (by decide) ?_
  refine z_aloadn (i := 0) (pc := 2) C dL_of_2 rfl rfl ?_
  refine z_iloadn (i := 1) (pc := 3) C dL_of_3 rfl rfl ?_
  refine z_iloadn (i := 2) (pc := 4) C dL_of_4 rfl rfl ?_
  refine z_callXVi (pc := 5) (n := 2) (As := [.int (i), .int (w)]) (rest := [.int (0), .ref (zob E 8)]) C (c_X4_of l hfl E sa (μ := μ) (ov := ov) (i := i) (w := w) t c9 nc n H) (zHL_g gL_of_X4_of) rfl zfV_X4_of ⟨Nat.le_of_ble_eq_true rfl, Nat.le_of_ble_eq_true rfl⟩ rfl (zRec_X4 E) rfl (Nat.le_of_ble_eq_true rfl) ⟨Nat.le_of_ble_eq_true rfl, Nat.le_of_ble_eq_true rfl⟩ dL_of_5 (fun X q9 hpx => ?_) (fun r9 μ9 ov9 hp => ?_)
  · rcases hpx with ⟨h0, rfl⟩ | ⟨h0, h1, rfl⟩
    · refine z_catch C [] ⟨0, 10, 13, 21⟩ [⟨0, 10, 17, 13⟩] (by rw [htab]; rfl) (fun z hz => absurd hz List.not_mem_nil) (by decide) (by decide) (C.1.2.2.2.2 (.classLink RL 21 zIO) (zHL_21 _)) (C.2.2.1.2.2.1 zIO zEx_IO).1 ?_
      refine z_astore4 (pc := 13) C (by decide) (fun w hw => by cases hw; exact (show ¬ (1 = 2) from by decide)) dL_of_13 ?_
      refine z_iconst (v := 1) (pc := 15) C dL_of_15 (by decide) ?_
      exact z_iret (pc := 16) C hr hlk (Or.inr ⟨(fun z => h0 z.1), (zgo_1 h0).symm, rfl, rfl⟩) (Nat.le_of_ble_eq_true rfl) (Nat.le_of_ble_eq_true rfl) dL_of_16
    · refine z_catch C [⟨0, 10, 13, 21⟩] ⟨0, 10, 17, 13⟩ [] (by rw [htab]; rfl) (fun z hz => by rw [List.mem_singleton.mp hz]; exact Or.inr ⟨by decide, zIO, C.1.2.2.2.2 (.classLink RL 21 zIO) (zHL_21 _), C.2.2.1.2.2.2.1 zIA zEx_IA zIO zEx_IO (by decide)⟩) (by decide) (by decide) (C.1.2.2.2.2 (.classLink RL 13 zIA) (zHL_13 _)) (C.2.2.1.2.2.1 zIA zEx_IA).1 ?_
      refine z_astore4 (pc := 17) C (by decide) (fun w hw => by cases hw; exact (show ¬ (1 = 2) from by decide)) dL_of_17 ?_
      refine z_iconst (v := 2) (pc := 19) C dL_of_19 (by decide) ?_
      exact z_iret (pc := 20) C hr hlk (Or.inr ⟨(fun z => h1 z.2.1), (zgo_2 h0 h1).symm, rfl, rfl⟩) (Nat.le_of_ble_eq_true rfl) (Nat.le_of_ble_eq_true rfl) dL_of_20
  · refine z_i2l (pc := 8) C dL_of_8 ?_
    refine z_last (pc := 9) C rfl dL_of_9 ?_
    refine z_goto (tgt := 21) (pc := 10) C dL_of_10 (by decide) ?_
    refine z_iconst (v := 0) (pc := 21) C dL_of_21 (by decide) ?_
    exact z_iret (pc := 22) C hr hlk (Or.inl ⟨⟨hp.1, hp.2.1, trivial⟩, rfl, ⟨r9, ⟨hp.2.2.1, hp.2.2.2.1⟩, by rw [hp.2.2.2.2]⟩⟩) (Nat.le_of_ble_eq_true rfl) (Nat.le_of_ble_eq_true rfl) dL_of_22
set_option maxHeartbeats 4000000 in
set_option maxRecDepth 100000 in
theorem c_L_measured (l : Launch) (hfl : l.stackTraces = false) (E : zE) (sa : Nat → Nat) {μ : zM} {ov : Nat → Int64} {i d b : Int32} (t c9 nc n : Nat) (H : zCI μ t c9 nc n) : zMi l E sa yL_measured (wsL_measured ++ zHL) 7 113 1 6 [.ref (zob E 0), .int i, .int d, .int b, .ref (zob E 8)] μ ov (fun r μ1 ov1 => (((zmea μ i d) ∧ (True) ∧ (True)) ∧ r = 0 ∧ ∃ v : Int32, (v = (if b = 0 then μ (22 + i.toNatClampNeg) d.toNatClampNeg else zcorX μ i.toNatClampNeg d.toNatClampNeg) ∧ μ1 = μ) ∧ ov1 = vp_updL ov 0 v.toInt64) ∨ (¬ ((zmea μ i d) ∧ (True) ∧ (True)) ∧ r = zgo (zmea μ i d) (True) (True) ∧ μ1 = μ ∧ ov1 = ov)) := by
  refine z_ofWi (cc := cL_measured) (nL := 6) (ret := (some .int)) (own := RL) zfp_L_measured rfl (by simp [Value.category]) (Nat.le_of_ble_eq_true rfl) rfl ?_
  intro p e s m below meth c C hr hlk htab
  show zW p l e (zR 7 113 1 6) s m [Value.ref (zob E 0), Value.int i, Value.int d, Value.int b, Value.ref (zob E 8)].toArray below meth c E 6 0 0 (MQ below (zQi E s.heap.size (fun r μ1 ov1 => (((zmea μ i d) ∧ (True) ∧ (True)) ∧ r = 0 ∧ ∃ v : Int32, (v = (if b = 0 then μ (22 + i.toNatClampNeg) d.toNatClampNeg else zcorX μ i.toNatClampNeg d.toNatClampNeg) ∧ μ1 = μ) ∧ ov1 = vp_updL ov 0 v.toInt64) ∨ (¬ ((zmea μ i d) ∧ (True) ∧ (True)) ∧ r = zgo (zmea μ i d) (True) (True) ∧ μ1 = μ ∧ ov1 = ov))) [Value.ref (zob E 0), Value.int i, Value.int d, Value.int b, Value.ref (zob E 8)].toArray s 1 6 (zA E s.heap.size)) 0 [some (.ref (zob E 0)), some (.int (i)), some (.int (d)), some (.int (b)), some (.ref (zob E 8)), none] [] μ ov
  refine z_aload (i := 4) (pc := 0) C dL_measured_0 rfl ?_
  refine z_iconst (v := 0) (pc := 2) C dL_measured_2 (by decide) ?_
  refine z_aloadn (i := 0) (pc := 3) C dL_measured_3 rfl rfl ?_
  refine z_iloadn (i := 1) (pc := 4) C dL_measured_4 rfl rfl ?_
  refine z_iloadn (i := 2) (pc := 5) C dL_measured_5 rfl rfl ?_
  refine z_iloadn (i := 3) (pc := 6) C dL_measured_6 rfl rfl ?_
  refine z_callXVi (pc := 7) (n := 3) (As := [.int (i), .int (d), .int (b)]) (rest := [.int (0), .ref (zob E 8)]) C (c_X4_measured l hfl E sa (μ := μ) (ov := ov) (i := i) (d := d) (b := b) t c9 nc n H) (zHL_g gL_measured_X4_measured) rfl zfV_X4_measured ⟨Nat.le_of_ble_eq_true rfl, Nat.le_of_ble_eq_true rfl⟩ rfl (zRec_X4 E) rfl (Nat.le_of_ble_eq_true rfl) ⟨Nat.le_of_ble_eq_true rfl, Nat.le_of_ble_eq_true rfl⟩ dL_measured_7 (fun X q9 hpx => ?_) (fun r9 μ9 ov9 hp => ?_)
  · rcases hpx with ⟨h0, rfl⟩
    · refine z_catch C [] ⟨0, 12, 15, 21⟩ [] (by rw [htab]; rfl) (fun z hz => absurd hz List.not_mem_nil) (by decide) (by decide) (C.1.2.2.2.2 (.classLink RL 21 zIO) (zHL_21 _)) (C.2.2.1.2.2.1 zIO zEx_IO).1 ?_
      refine z_astore5 (pc := 15) C (by decide) (fun w hw => by cases hw; exact (show ¬ (1 = 2) from by decide)) dL_measured_15 ?_
      refine z_iconst (v := 1) (pc := 17) C dL_measured_17 (by decide) ?_
      exact z_iret (pc := 18) C hr hlk (Or.inr ⟨(fun z => h0 z.1), (zgo_1 h0).symm, rfl, rfl⟩) (Nat.le_of_ble_eq_true rfl) (Nat.le_of_ble_eq_true rfl) dL_measured_18
  · refine z_i2l (pc := 10) C dL_measured_10 ?_
    refine z_last (pc := 11) C rfl dL_measured_11 ?_
    refine z_goto (tgt := 19) (pc := 12) C dL_measured_12 (by decide) ?_
    refine z_iconst (v := 0) (pc := 19) C dL_measured_19 (by decide) ?_
    exact z_iret (pc := 20) C hr hlk (Or.inl ⟨⟨hp.1, trivial, trivial⟩, rfl, ⟨r9, ⟨hp.2.1, hp.2.2.1⟩, by rw [hp.2.2.2]⟩⟩) (Nat.le_of_ble_eq_true rfl) (Nat.le_of_ble_eq_true rfl) dL_measured_20
set_option maxHeartbeats 4000000 in
set_option maxRecDepth 100000 in
theorem c_L_closes (l : Launch) (hfl : l.stackTraces = false) (E : zE) (sa : Nat → Nat) {μ : zM} {ov : Nat → Int64} {a b c8 d : Int32} (t c9 nc n : Nat) (H : zCI μ t c9 nc n) : zMi l E sa yL_closes (wsL_closes ++ zHL) 7 117 1 6 [.ref (zob E 0), .int a, .int b, .int c8, .int d, .ref (zob E 8)] μ ov (fun r μ1 ov1 => (((zmea μ a d ∧ zmea μ b d ∧ zmea μ c8 d) ∧ ((zbits (μ 7 a.toNatClampNeg) (μ 8 a.toNatClampNeg) ^^^ zbits (μ 7 b.toNatClampNeg) (μ 8 b.toNatClampNeg) ^^^ zbits (μ 7 c8.toNatClampNeg) (μ 8 c8.toNatClampNeg) = 0)) ∧ (True)) ∧ r = 0 ∧ ∃ v : Int32, (v = zsum μ d.toNatClampNeg (zord a.toNatClampNeg b.toNatClampNeg c8.toNatClampNeg) ∧ μ1 = μ) ∧ ov1 = vp_updL ov 0 v.toInt64) ∨ (¬ ((zmea μ a d ∧ zmea μ b d ∧ zmea μ c8 d) ∧ ((zbits (μ 7 a.toNatClampNeg) (μ 8 a.toNatClampNeg) ^^^ zbits (μ 7 b.toNatClampNeg) (μ 8 b.toNatClampNeg) ^^^ zbits (μ 7 c8.toNatClampNeg) (μ 8 c8.toNatClampNeg) = 0)) ∧ (True)) ∧ r = zgo (zmea μ a d ∧ zmea μ b d ∧ zmea μ c8 d) ((zbits (μ 7 a.toNatClampNeg) (μ 8 a.toNatClampNeg) ^^^ zbits (μ 7 b.toNatClampNeg) (μ 8 b.toNatClampNeg) ^^^ zbits (μ 7 c8.toNatClampNeg) (μ 8 c8.toNatClampNeg) = 0)) (True) ∧ μ1 = μ ∧ ov1 = ov)) := by
  refine z_ofWi (cc := cL_closes) (nL := 7) (ret := (some .int)) (own := RL) zfp_L_closes rfl (by simp [Value.category]) (Nat.le_of_ble_eq_true rfl) rfl ?_
  intro p e s m below meth c C hr hlk htab
  show zW p l e (zR 7 117 1 6) s m [Value.ref (zob E 0), Value.int a, Value.int b, Value.int c8, Value.int d, Value.ref (zob E 8)].toArray below meth c E 7 0 0 (MQ below (zQi E s.heap.size (fun r μ1 ov1 => (((zmea μ a d ∧ zmea μ b d ∧ zmea μ c8 d) ∧ ((zbits (μ 7 a.toNatClampNeg) (μ 8 a.toNatClampNeg) ^^^ zbits (μ 7 b.toNatClampNeg) (μ 8 b.toNatClampNeg) ^^^ zbits (μ 7 c8.toNatClampNeg) (μ 8 c8.toNatClampNeg) = 0)) ∧ (True)) ∧ r = 0 ∧ ∃ v : Int32, (v = zsum μ d.toNatClampNeg (zord a.toNatClampNeg b.toNatClampNeg c8.toNatClampNeg) ∧ μ1 = μ) ∧ ov1 = vp_updL ov 0 v.toInt64) ∨ (¬ ((zmea μ a d ∧ zmea μ b d ∧ zmea μ c8 d) ∧ ((zbits (μ 7 a.toNatClampNeg) (μ 8 a.toNatClampNeg) ^^^ zbits (μ 7 b.toNatClampNeg) (μ 8 b.toNatClampNeg) ^^^ zbits (μ 7 c8.toNatClampNeg) (μ 8 c8.toNatClampNeg) = 0)) ∧ (True)) ∧ r = zgo (zmea μ a d ∧ zmea μ b d ∧ zmea μ c8 d) ((zbits (μ 7 a.toNatClampNeg) (μ 8 a.toNatClampNeg) ^^^ zbits (μ 7 b.toNatClampNeg) (μ 8 b.toNatClampNeg) ^^^ zbits (μ 7 c8.toNatClampNeg) (μ 8 c8.toNatClampNeg) = 0)) (True) ∧ μ1 = μ ∧ ov1 = ov))) [Value.ref (zob E 0), Value.int a, Value.int b, Value.int c8, Value.int d, Value.ref (zob E 8)].toArray s 1 6 (zA E s.heap.size)) 0 [some (.ref (zob E 0)), some (.int (a)), some (.int (b)), some (.int (c8)), some (.int (d)), some (.ref (zob E 8)), none] [] μ ov
  refine z_aload (i := 5) (pc := 0) C dL_closes_0 rfl ?_
  refine z_iconst (v := 0) (pc := 2) C dL_closes_2 (by decide) ?_
  refine z_aloadn (i := 0) (pc := 3) C dL_closes_3 rfl rfl ?_
  refine z_iloadn (i := 1) (pc := 4) C dL_closes_4 rfl rfl ?_
  refine z_iloadn (i := 2) (pc := 5) C dL_closes_5 rfl rfl ?_
  refine z_iloadn (i := 3) (pc := 6) C dL_closes_6 rfl rfl ?_
  refine z_iload (i := 4) (pc := 7) C dL_closes_7 rfl ?_
  refine z_callXVi (pc := 9) (n := 4) (As := [.int (a), .int (b), .int (c8), .int (d)]) (rest := [.int (0), .ref (zob E 8)]) C (c_X4_closes l hfl E sa (μ := μ) (ov := ov) (a := a) (b := b) (c8 := c8) (d := d) t c9 nc n H) (zHL_g gL_closes_X4_closes) rfl zfV_X4_closes ⟨Nat.le_of_ble_eq_true rfl, Nat.le_of_ble_eq_true rfl⟩ rfl (zRec_X4 E) rfl (Nat.le_of_ble_eq_true rfl) ⟨Nat.le_of_ble_eq_true rfl, Nat.le_of_ble_eq_true rfl⟩ dL_closes_9 (fun X q9 hpx => ?_) (fun r9 μ9 ov9 hp => ?_)
  · rcases hpx with ⟨h0, rfl⟩ | ⟨h0, h1, rfl⟩
    · refine z_catch C [] ⟨0, 14, 17, 21⟩ [⟨0, 14, 21, 13⟩] (by rw [htab]; rfl) (fun z hz => absurd hz List.not_mem_nil) (by decide) (by decide) (C.1.2.2.2.2 (.classLink RL 21 zIO) (zHL_21 _)) (C.2.2.1.2.2.1 zIO zEx_IO).1 ?_
      refine z_astore6 (pc := 17) C (by decide) (fun w hw => by cases hw; exact (show ¬ (1 = 2) from by decide)) dL_closes_17 ?_
      refine z_iconst (v := 1) (pc := 19) C dL_closes_19 (by decide) ?_
      exact z_iret (pc := 20) C hr hlk (Or.inr ⟨(fun z => h0 z.1), (zgo_1 h0).symm, rfl, rfl⟩) (Nat.le_of_ble_eq_true rfl) (Nat.le_of_ble_eq_true rfl) dL_closes_20
    · refine z_catch C [⟨0, 14, 17, 21⟩] ⟨0, 14, 21, 13⟩ [] (by rw [htab]; rfl) (fun z hz => by rw [List.mem_singleton.mp hz]; exact Or.inr ⟨by decide, zIO, C.1.2.2.2.2 (.classLink RL 21 zIO) (zHL_21 _), C.2.2.1.2.2.2.1 zIA zEx_IA zIO zEx_IO (by decide)⟩) (by decide) (by decide) (C.1.2.2.2.2 (.classLink RL 13 zIA) (zHL_13 _)) (C.2.2.1.2.2.1 zIA zEx_IA).1 ?_
      refine z_astore6 (pc := 21) C (by decide) (fun w hw => by cases hw; exact (show ¬ (1 = 2) from by decide)) dL_closes_21 ?_
      refine z_iconst (v := 2) (pc := 23) C dL_closes_23 (by decide) ?_
      exact z_iret (pc := 24) C hr hlk (Or.inr ⟨(fun z => h1 z.2.1), (zgo_2 h0 h1).symm, rfl, rfl⟩) (Nat.le_of_ble_eq_true rfl) (Nat.le_of_ble_eq_true rfl) dL_closes_24
  · refine z_i2l (pc := 12) C dL_closes_12 ?_
    refine z_last (pc := 13) C rfl dL_closes_13 ?_
    refine z_goto (tgt := 25) (pc := 14) C dL_closes_14 (by decide) ?_
    refine z_iconst (v := 0) (pc := 25) C dL_closes_25 (by decide) ?_
    exact z_iret (pc := 26) C hr hlk (Or.inl ⟨⟨hp.1, hp.2.1, trivial⟩, rfl, ⟨r9, ⟨hp.2.2.1, hp.2.2.2.1⟩, by rw [hp.2.2.2.2]⟩⟩) (Nat.le_of_ble_eq_true rfl) (Nat.le_of_ble_eq_true rfl) dL_closes_26
set_option maxHeartbeats 4000000 in
set_option maxRecDepth 100000 in
theorem c_L_open (l : Launch) (hfl : l.stackTraces = false) (E : zE) (sa : Nat → Nat) {μ : zM} {ov : Nat → Int64} {d : Int32} (t c9 nc n : Nat) (H : zCI μ t c9 nc n) : zMi l E sa yL_open (wsL_open ++ zHL) 7 161 1 6 [.ref (zob E 0), .int d, .ref (zob E 8)] μ ov (fun r μ1 ov1 => (((1 ≤ d ∧ d ≤ μ 63 0) ∧ (True) ∧ (True)) ∧ r = 0 ∧ ∃ v : Int32, (v = nI (zopen μ d.toNatClampNeg n) ∧ zScr μ μ1) ∧ ov1 = vp_updL ov 0 v.toInt64) ∨ (¬ ((1 ≤ d ∧ d ≤ μ 63 0) ∧ (True) ∧ (True)) ∧ r = zgo (1 ≤ d ∧ d ≤ μ 63 0) (True) (True) ∧ μ1 = μ ∧ ov1 = ov)) := by
  refine z_ofWi (cc := cL_open) (nL := 4) (ret := (some .int)) (own := RL) zfp_L_open rfl (by simp [Value.category]) (Nat.le_of_ble_eq_true rfl) rfl ?_
  intro p e s m below meth c C hr hlk htab
  show zW p l e (zR 7 161 1 6) s m [Value.ref (zob E 0), Value.int d, Value.ref (zob E 8)].toArray below meth c E 4 0 0 (MQ below (zQi E s.heap.size (fun r μ1 ov1 => (((1 ≤ d ∧ d ≤ μ 63 0) ∧ (True) ∧ (True)) ∧ r = 0 ∧ ∃ v : Int32, (v = nI (zopen μ d.toNatClampNeg n) ∧ zScr μ μ1) ∧ ov1 = vp_updL ov 0 v.toInt64) ∨ (¬ ((1 ≤ d ∧ d ≤ μ 63 0) ∧ (True) ∧ (True)) ∧ r = zgo (1 ≤ d ∧ d ≤ μ 63 0) (True) (True) ∧ μ1 = μ ∧ ov1 = ov))) [Value.ref (zob E 0), Value.int d, Value.ref (zob E 8)].toArray s 1 6 (zA E s.heap.size)) 0 [some (.ref (zob E 0)), some (.int (d)), some (.ref (zob E 8)), none] [] μ ov
  refine z_aloadn (i := 2) (pc := 0) C dL_open_0 rfl rfl ?_
  refine z_iconst (v := 0) (pc := 1) C dL_open_1 (by decide) ?_
  refine z_aloadn (i := 0) (pc := 2) C dL_open_2 rfl rfl ?_
  refine z_iloadn (i := 1) (pc := 3) C dL_open_3 rfl rfl ?_
  refine z_callXVi (pc := 4) (n := 1) (As := [.int (d)]) (rest := [.int (0), .ref (zob E 8)]) C (c_X4_open l hfl E sa (μ := μ) (ov := ov) (d := d) t c9 nc n H) (zHL_g gL_open_X4_open) rfl zfV_X4_open ⟨Nat.le_of_ble_eq_true rfl, Nat.le_of_ble_eq_true rfl⟩ rfl (zRec_X4 E) rfl (Nat.le_of_ble_eq_true rfl) ⟨Nat.le_of_ble_eq_true rfl, Nat.le_of_ble_eq_true rfl⟩ dL_open_4 (fun X q9 hpx => ?_) (fun r9 μ9 ov9 hp => ?_)
  · rcases hpx with ⟨h0, rfl⟩
    · refine z_catch C [] ⟨0, 9, 12, 21⟩ [] (by rw [htab]; rfl) (fun z hz => absurd hz List.not_mem_nil) (by decide) (by decide) (C.1.2.2.2.2 (.classLink RL 21 zIO) (zHL_21 _)) (C.2.2.1.2.2.1 zIO zEx_IO).1 ?_
      refine z_astore3 (pc := 12) C (by decide) (fun w hw => by cases hw; exact (show ¬ (1 = 2) from by decide)) dL_open_12 ?_
      refine z_iconst (v := 1) (pc := 13) C dL_open_13 (by decide) ?_
      exact z_iret (pc := 14) C hr hlk (Or.inr ⟨(fun z => h0 z.1), (zgo_1 h0).symm, rfl, rfl⟩) (Nat.le_of_ble_eq_true rfl) (Nat.le_of_ble_eq_true rfl) dL_open_14
  · refine z_i2l (pc := 7) C dL_open_7 ?_
    refine z_last (pc := 8) C rfl dL_open_8 ?_
    refine z_goto (tgt := 15) (pc := 9) C dL_open_9 (by decide) ?_
    refine z_iconst (v := 0) (pc := 15) C dL_open_15 (by decide) ?_
    exact z_iret (pc := 16) C hr hlk (Or.inl ⟨⟨hp.1, trivial, trivial⟩, rfl, ⟨r9, ⟨hp.2.1, hp.2.2.1⟩, by rw [hp.2.2.2]⟩⟩) (Nat.le_of_ble_eq_true rfl) (Nat.le_of_ble_eq_true rfl) dL_open_16
set_option maxHeartbeats 4000000 in
set_option maxRecDepth 100000 in
theorem c_L_slips (l : Launch) (hfl : l.stackTraces = false) (E : zE) (sa : Nat → Nat) {μ : zM} {ov : Nat → Int64} {d : Int32} (t c9 nc n : Nat) (H : zCI μ t c9 nc n) : zMi l E sa yL_slips (wsL_slips ++ zHL) 16 443 1 6 [.ref (zob E 0), .int d, .ref (zob E 8)] μ ov (fun r μ1 ov1 => (((1 ≤ d ∧ d ≤ μ 63 0) ∧ (True) ∧ (True)) ∧ r = 0 ∧ ∃ v : Int32, ((∃ ν, zRI μ d.toNatClampNeg ν (zgat μ d.toNatClampNeg n n) ∧ v = zdfs (zgat μ d.toNatClampNeg n n).length n (zu (zu (zu ν 63 8 (μ 63 1)) 63 9 (nI (n + 1))) 63 10 (-1)) 0 0 63 10 ∧ μ1 = zdfs (zgat μ d.toNatClampNeg n n).length n (zu (zu (zu ν 63 8 (μ 63 1)) 63 9 (nI (n + 1))) 63 10 (-1)) 0 0)) ∧ ov1 = vp_updL ov 0 v.toInt64) ∨ (¬ ((1 ≤ d ∧ d ≤ μ 63 0) ∧ (True) ∧ (True)) ∧ r = zgo (1 ≤ d ∧ d ≤ μ 63 0) (True) (True) ∧ μ1 = μ ∧ ov1 = ov)) := by
  refine z_ofWi (cc := cL_slips) (nL := 4) (ret := (some .int)) (own := RL) zfp_L_slips rfl (by simp [Value.category]) (Nat.le_of_ble_eq_true rfl) rfl ?_
  intro p e s m below meth c C hr hlk htab
  show zW p l e (zR 16 443 1 6) s m [Value.ref (zob E 0), Value.int d, Value.ref (zob E 8)].toArray below meth c E 4 0 0 (MQ below (zQi E s.heap.size (fun r μ1 ov1 => (((1 ≤ d ∧ d ≤ μ 63 0) ∧ (True) ∧ (True)) ∧ r = 0 ∧ ∃ v : Int32, ((∃ ν, zRI μ d.toNatClampNeg ν (zgat μ d.toNatClampNeg n n) ∧ v = zdfs (zgat μ d.toNatClampNeg n n).length n (zu (zu (zu ν 63 8 (μ 63 1)) 63 9 (nI (n + 1))) 63 10 (-1)) 0 0 63 10 ∧ μ1 = zdfs (zgat μ d.toNatClampNeg n n).length n (zu (zu (zu ν 63 8 (μ 63 1)) 63 9 (nI (n + 1))) 63 10 (-1)) 0 0)) ∧ ov1 = vp_updL ov 0 v.toInt64) ∨ (¬ ((1 ≤ d ∧ d ≤ μ 63 0) ∧ (True) ∧ (True)) ∧ r = zgo (1 ≤ d ∧ d ≤ μ 63 0) (True) (True) ∧ μ1 = μ ∧ ov1 = ov))) [Value.ref (zob E 0), Value.int d, Value.ref (zob E 8)].toArray s 1 6 (zA E s.heap.size)) 0 [some (.ref (zob E 0)), some (.int (d)), some (.ref (zob E 8)), none] [] μ ov
  refine z_aloadn (i := 2) (pc := 0) C dL_slips_0 rfl rfl ?_
  refine z_iconst (v := 0) (pc := 1) C dL_slips_1 (by decide) ?_
  refine z_aloadn (i := 0) (pc := 2) C dL_slips_2 rfl rfl ?_
  refine z_iloadn (i := 1) (pc := 3) C dL_slips_3 rfl rfl ?_
  refine z_callXVi (pc := 4) (n := 1) (As := [.int (d)]) (rest := [.int (0), .ref (zob E 8)]) C (c_X4_slips l hfl E sa (μ := μ) (ov := ov) (d := d) t c9 nc n H) (zHL_g gL_slips_X4_slips) rfl zfV_X4_slips ⟨Nat.le_of_ble_eq_true rfl, Nat.le_of_ble_eq_true rfl⟩ rfl (zRec_X4 E) rfl (Nat.le_of_ble_eq_true rfl) ⟨Nat.le_of_ble_eq_true rfl, Nat.le_of_ble_eq_true rfl⟩ dL_slips_4 (fun X q9 hpx => ?_) (fun r9 μ9 ov9 hp => ?_)
  · rcases hpx with ⟨h0, rfl⟩
    · refine z_catch C [] ⟨0, 9, 12, 21⟩ [] (by rw [htab]; rfl) (fun z hz => absurd hz List.not_mem_nil) (by decide) (by decide) (C.1.2.2.2.2 (.classLink RL 21 zIO) (zHL_21 _)) (C.2.2.1.2.2.1 zIO zEx_IO).1 ?_
      refine z_astore3 (pc := 12) C (by decide) (fun w hw => by cases hw; exact (show ¬ (1 = 2) from by decide)) dL_slips_12 ?_
      refine z_iconst (v := 1) (pc := 13) C dL_slips_13 (by decide) ?_
      exact z_iret (pc := 14) C hr hlk (Or.inr ⟨(fun z => h0 z.1), (zgo_1 h0).symm, rfl, rfl⟩) (Nat.le_of_ble_eq_true rfl) (Nat.le_of_ble_eq_true rfl) dL_slips_14
  · refine z_i2l (pc := 7) C dL_slips_7 ?_
    refine z_last (pc := 8) C rfl dL_slips_8 ?_
    refine z_goto (tgt := 15) (pc := 9) C dL_slips_9 (by decide) ?_
    refine z_iconst (v := 0) (pc := 15) C dL_slips_15 (by decide) ?_
    exact z_iret (pc := 16) C hr hlk (Or.inl ⟨⟨hp.1, trivial, trivial⟩, rfl, ⟨r9, hp.2.1, by rw [hp.2.2]⟩⟩) (Nat.le_of_ble_eq_true rfl) (Nat.le_of_ble_eq_true rfl) dL_slips_16
set_option maxHeartbeats 4000000 in
set_option maxRecDepth 100000 in
theorem c_L_mean (l : Launch) (hfl : l.stackTraces = false) (E : zE) (sa : Nat → Nat) {μ : zM} {ov : Nat → Int64} {d : Int32} (t c9 nc n : Nat) (H : zCI μ t c9 nc n) : zMi l E sa yL_mean (wsL_mean ++ zHL) 7 111 1 6 [.ref (zob E 0), .int d, .ref (zob E 8)] μ ov (fun r μ1 ov1 => ((((1 ≤ d ∧ d ≤ μ 63 0) ∧ ¬ μ 63 4 = 0) ∧ (True) ∧ (True)) ∧ r = 0 ∧ ∃ v : Int32, (v = zmean μ d.toNatClampNeg n ∧ μ1 = μ) ∧ ov1 = vp_updL ov 0 v.toInt64) ∨ (¬ (((1 ≤ d ∧ d ≤ μ 63 0) ∧ ¬ μ 63 4 = 0) ∧ (True) ∧ (True)) ∧ r = zgo ((1 ≤ d ∧ d ≤ μ 63 0) ∧ ¬ μ 63 4 = 0) (True) (True) ∧ μ1 = μ ∧ ov1 = ov)) := by
  refine z_ofWi (cc := cL_mean) (nL := 4) (ret := (some .int)) (own := RL) zfp_L_mean rfl (by simp [Value.category]) (Nat.le_of_ble_eq_true rfl) rfl ?_
  intro p e s m below meth c C hr hlk htab
  show zW p l e (zR 7 111 1 6) s m [Value.ref (zob E 0), Value.int d, Value.ref (zob E 8)].toArray below meth c E 4 0 0 (MQ below (zQi E s.heap.size (fun r μ1 ov1 => ((((1 ≤ d ∧ d ≤ μ 63 0) ∧ ¬ μ 63 4 = 0) ∧ (True) ∧ (True)) ∧ r = 0 ∧ ∃ v : Int32, (v = zmean μ d.toNatClampNeg n ∧ μ1 = μ) ∧ ov1 = vp_updL ov 0 v.toInt64) ∨ (¬ (((1 ≤ d ∧ d ≤ μ 63 0) ∧ ¬ μ 63 4 = 0) ∧ (True) ∧ (True)) ∧ r = zgo ((1 ≤ d ∧ d ≤ μ 63 0) ∧ ¬ μ 63 4 = 0) (True) (True) ∧ μ1 = μ ∧ ov1 = ov))) [Value.ref (zob E 0), Value.int d, Value.ref (zob E 8)].toArray s 1 6 (zA E s.heap.size)) 0 [some (.ref (zob E 0)), some (.int (d)), some (.ref (zob E 8)), none] [] μ ov
  refine z_aloadn (i := 2) (pc := 0) C dL_mean_0 rfl rfl ?_
  refine z_iconst (v := 0) (pc := 1) C dL_mean_1 (by decide) ?_
  refine z_aloadn (i := 0) (pc := 2) C dL_mean_2 rfl rfl ?_
  refine z_iloadn (i := 1) (pc := 3) C dL_mean_3 rfl rfl ?_
  refine z_callXVi (pc := 4) (n := 1) (As := [.int (d)]) (rest := [.int (0), .ref (zob E 8)]) C (c_X4_mean l hfl E sa (μ := μ) (ov := ov) (d := d) t c9 nc n H) (zHL_g gL_mean_X4_mean) rfl zfV_X4_mean ⟨Nat.le_of_ble_eq_true rfl, Nat.le_of_ble_eq_true rfl⟩ rfl (zRec_X4 E) rfl (Nat.le_of_ble_eq_true rfl) ⟨Nat.le_of_ble_eq_true rfl, Nat.le_of_ble_eq_true rfl⟩ dL_mean_4 (fun X q9 hpx => ?_) (fun r9 μ9 ov9 hp => ?_)
  · rcases hpx with ⟨h0, rfl⟩
    · refine z_catch C [] ⟨0, 9, 12, 21⟩ [] (by rw [htab]; rfl) (fun z hz => absurd hz List.not_mem_nil) (by decide) (by decide) (C.1.2.2.2.2 (.classLink RL 21 zIO) (zHL_21 _)) (C.2.2.1.2.2.1 zIO zEx_IO).1 ?_
      refine z_astore3 (pc := 12) C (by decide) (fun w hw => by cases hw; exact (show ¬ (1 = 2) from by decide)) dL_mean_12 ?_
      refine z_iconst (v := 1) (pc := 13) C dL_mean_13 (by decide) ?_
      exact z_iret (pc := 14) C hr hlk (Or.inr ⟨(fun z => h0 z.1), (zgo_1 h0).symm, rfl, rfl⟩) (Nat.le_of_ble_eq_true rfl) (Nat.le_of_ble_eq_true rfl) dL_mean_14
  · refine z_i2l (pc := 7) C dL_mean_7 ?_
    refine z_last (pc := 8) C rfl dL_mean_8 ?_
    refine z_goto (tgt := 15) (pc := 9) C dL_mean_9 (by decide) ?_
    refine z_iconst (v := 0) (pc := 15) C dL_mean_15 (by decide) ?_
    exact z_iret (pc := 16) C hr hlk (Or.inl ⟨⟨hp.1, trivial, trivial⟩, rfl, ⟨r9, ⟨hp.2.1, hp.2.2.1⟩, by rw [hp.2.2.2]⟩⟩) (Nat.le_of_ble_eq_true rfl) (Nat.le_of_ble_eq_true rfl) dL_mean_16
set_option maxHeartbeats 4000000 in
set_option maxRecDepth 100000 in
theorem c_L_published (l : Launch) (hfl : l.stackTraces = false) (E : zE) (sa : Nat → Nat) {μ : zM} {ov : Nat → Int64} {d b : Int32} (t c9 nc n : Nat) (H : zCI μ t c9 nc n) : zMi l E sa yL_published (wsL_published ++ zHL) 7 140 1 6 [.ref (zob E 0), .int d, .int b, .ref (zob E 8)] μ ov (fun r μ1 ov1 => (((1 ≤ d ∧ d ≤ μ 63 0) ∧ (True) ∧ (True)) ∧ r = 0 ∧ ∃ v : Int32, (v = (if b = 0 then μ 0 d.toNatClampNeg else zanX μ n d.toNatClampNeg) ∧ μ1 = μ) ∧ ov1 = vp_updL ov 0 v.toInt64) ∨ (¬ ((1 ≤ d ∧ d ≤ μ 63 0) ∧ (True) ∧ (True)) ∧ r = zgo (1 ≤ d ∧ d ≤ μ 63 0) (True) (True) ∧ μ1 = μ ∧ ov1 = ov)) := by
  refine z_ofWi (cc := cL_published) (nL := 5) (ret := (some .int)) (own := RL) zfp_L_published rfl (by simp [Value.category]) (Nat.le_of_ble_eq_true rfl) rfl ?_
  intro p e s m below meth c C hr hlk htab
  show zW p l e (zR 7 140 1 6) s m [Value.ref (zob E 0), Value.int d, Value.int b, Value.ref (zob E 8)].toArray below meth c E 5 0 0 (MQ below (zQi E s.heap.size (fun r μ1 ov1 => (((1 ≤ d ∧ d ≤ μ 63 0) ∧ (True) ∧ (True)) ∧ r = 0 ∧ ∃ v : Int32, (v = (if b = 0 then μ 0 d.toNatClampNeg else zanX μ n d.toNatClampNeg) ∧ μ1 = μ) ∧ ov1 = vp_updL ov 0 v.toInt64) ∨ (¬ ((1 ≤ d ∧ d ≤ μ 63 0) ∧ (True) ∧ (True)) ∧ r = zgo (1 ≤ d ∧ d ≤ μ 63 0) (True) (True) ∧ μ1 = μ ∧ ov1 = ov))) [Value.ref (zob E 0), Value.int d, Value.int b, Value.ref (zob E 8)].toArray s 1 6 (zA E s.heap.size)) 0 [some (.ref (zob E 0)), some (.int (d)), some (.int (b)), some (.ref (zob E 8)), none] [] μ ov
  refine z_aloadn (i := 3) (pc := 0) C dL_published_0 rfl rfl ?_
  refine z_iconst (v := 0) (pc := 1) C dL_published_1 (by decide) ?_
  refine z_aloadn (i := 0) (pc := 2) C dL_published_2 rfl rfl ?_
  refine z_iloadn (i := 1) (pc := 3) C dL_published_3 rfl rfl ?_
  refine z_iloadn (i := 2) (pc := 4) C dL_published_4 rfl rfl ?_
  refine z_callXVi (pc := 5) (n := 2) (As := [.int (d), .int (b)]) (rest := [.int (0), .ref (zob E 8)]) C (c_X4_published l hfl E sa (μ := μ) (ov := ov) (d := d) (b := b) t c9 nc n H) (zHL_g gL_published_X4_published) rfl zfV_X4_published ⟨Nat.le_of_ble_eq_true rfl, Nat.le_of_ble_eq_true rfl⟩ rfl (zRec_X4 E) rfl (Nat.le_of_ble_eq_true rfl) ⟨Nat.le_of_ble_eq_true rfl, Nat.le_of_ble_eq_true rfl⟩ dL_published_5 (fun X q9 hpx => ?_) (fun r9 μ9 ov9 hp => ?_)
  · rcases hpx with ⟨h0, rfl⟩
    · refine z_catch C [] ⟨0, 10, 13, 21⟩ [] (by rw [htab]; rfl) (fun z hz => absurd hz List.not_mem_nil) (by decide) (by decide) (C.1.2.2.2.2 (.classLink RL 21 zIO) (zHL_21 _)) (C.2.2.1.2.2.1 zIO zEx_IO).1 ?_
      refine z_astore4 (pc := 13) C (by decide) (fun w hw => by cases hw; exact (show ¬ (1 = 2) from by decide)) dL_published_13 ?_
      refine z_iconst (v := 1) (pc := 15) C dL_published_15 (by decide) ?_
      exact z_iret (pc := 16) C hr hlk (Or.inr ⟨(fun z => h0 z.1), (zgo_1 h0).symm, rfl, rfl⟩) (Nat.le_of_ble_eq_true rfl) (Nat.le_of_ble_eq_true rfl) dL_published_16
  · refine z_i2l (pc := 8) C dL_published_8 ?_
    refine z_last (pc := 9) C rfl dL_published_9 ?_
    refine z_goto (tgt := 17) (pc := 10) C dL_published_10 (by decide) ?_
    refine z_iconst (v := 0) (pc := 17) C dL_published_17 (by decide) ?_
    exact z_iret (pc := 18) C hr hlk (Or.inl ⟨⟨hp.1, trivial, trivial⟩, rfl, ⟨r9, ⟨hp.2.1, hp.2.2.1⟩, by rw [hp.2.2.2]⟩⟩) (Nat.le_of_ble_eq_true rfl) (Nat.le_of_ble_eq_true rfl) dL_published_18
set_option maxHeartbeats 4000000 in
set_option maxRecDepth 100000 in
theorem c_L_height (l : Launch) (hfl : l.stackTraces = false) (E : zE) (sa : Nat → Nat) {μ : zM} {ov : Nat → Int64} {i f g w : Int32} (t c9 nc n : Nat) (H : zCI μ t c9 nc n) : zMi l E sa yL_height (wsL_height ++ zHL) 7 117 1 6 [.ref (zob E 0), .int i, .int f, .int g, .int w, .ref (zob E 8)] μ ov (fun r μ1 ov1 => (((zmea μ i f ∧ zmea μ i g) ∧ (f < g ∧ -1000 ≤ w ∧ w ≤ 1000) ∧ (True)) ∧ r = 0 ∧ ∃ v : Int32, (v = (100 * ((zcorX μ i.toNatClampNeg g.toNatClampNeg).toInt64 - (zcorX μ i.toNatClampNeg f.toNatClampNeg).toInt64 - w.toInt64 * (g - f).toInt64) / (g - f).toInt64).toInt32 ∧ μ1 = μ) ∧ ov1 = vp_updL ov 0 v.toInt64) ∨ (¬ ((zmea μ i f ∧ zmea μ i g) ∧ (f < g ∧ -1000 ≤ w ∧ w ≤ 1000) ∧ (True)) ∧ r = zgo (zmea μ i f ∧ zmea μ i g) (f < g ∧ -1000 ≤ w ∧ w ≤ 1000) (True) ∧ μ1 = μ ∧ ov1 = ov)) := by
  refine z_ofWi (cc := cL_height) (nL := 7) (ret := (some .int)) (own := RL) zfp_L_height rfl (by simp [Value.category]) (Nat.le_of_ble_eq_true rfl) rfl ?_
  intro p e s m below meth c C hr hlk htab
  show zW p l e (zR 7 117 1 6) s m [Value.ref (zob E 0), Value.int i, Value.int f, Value.int g, Value.int w, Value.ref (zob E 8)].toArray below meth c E 7 0 0 (MQ below (zQi E s.heap.size (fun r μ1 ov1 => (((zmea μ i f ∧ zmea μ i g) ∧ (f < g ∧ -1000 ≤ w ∧ w ≤ 1000) ∧ (True)) ∧ r = 0 ∧ ∃ v : Int32, (v = (100 * ((zcorX μ i.toNatClampNeg g.toNatClampNeg).toInt64 - (zcorX μ i.toNatClampNeg f.toNatClampNeg).toInt64 - w.toInt64 * (g - f).toInt64) / (g - f).toInt64).toInt32 ∧ μ1 = μ) ∧ ov1 = vp_updL ov 0 v.toInt64) ∨ (¬ ((zmea μ i f ∧ zmea μ i g) ∧ (f < g ∧ -1000 ≤ w ∧ w ≤ 1000) ∧ (True)) ∧ r = zgo (zmea μ i f ∧ zmea μ i g) (f < g ∧ -1000 ≤ w ∧ w ≤ 1000) (True) ∧ μ1 = μ ∧ ov1 = ov))) [Value.ref (zob E 0), Value.int i, Value.int f, Value.int g, Value.int w, Value.ref (zob E 8)].toArray s 1 6 (zA E s.heap.size)) 0 [some (.ref (zob E 0)), some (.int (i)), some (.int (f)), some (.int (g)), some (.int (w)), some (.ref (zob E 8)), none] [] μ ov
  refine z_aload (i := 5) (pc := 0) C dL_height_0 rfl ?_
  refine z_iconst (v := 0) (pc := 2) C dL_height_2 (by decide) ?_
  refine z_aloadn (i := 0) (pc := 3) C dL_height_3 rfl rfl ?_
  refine z_iloadn (i := 1) (pc := 4) C dL_height_4 rfl rfl ?_
  refine z_iloadn (i := 2) (pc := 5) C dL_height_5 rfl rfl ?_
  refine z_iloadn (i := 3) (pc := 6) C dL_height_6 rfl rfl ?_
  refine z_iload (i := 4) (pc := 7) C dL_height_7 rfl ?_
  refine z_callXVi (pc := 9) (n := 4) (As := [.int (i), .int (f), .int (g), .int (w)]) (rest := [.int (0), .ref (zob E 8)]) C (c_X4_height l hfl E sa (μ := μ) (ov := ov) (i := i) (f := f) (g := g) (w := w) t c9 nc n H) (zHL_g gL_height_X4_height) rfl zfV_X4_height ⟨Nat.le_of_ble_eq_true rfl, Nat.le_of_ble_eq_true rfl⟩ rfl (zRec_X4 E) rfl (Nat.le_of_ble_eq_true rfl) ⟨Nat.le_of_ble_eq_true rfl, Nat.le_of_ble_eq_true rfl⟩ dL_height_9 (fun X q9 hpx => ?_) (fun r9 μ9 ov9 hp => ?_)
  · rcases hpx with ⟨h0, rfl⟩ | ⟨h0, h1, rfl⟩
    · refine z_catch C [] ⟨0, 14, 17, 21⟩ [⟨0, 14, 21, 13⟩] (by rw [htab]; rfl) (fun z hz => absurd hz List.not_mem_nil) (by decide) (by decide) (C.1.2.2.2.2 (.classLink RL 21 zIO) (zHL_21 _)) (C.2.2.1.2.2.1 zIO zEx_IO).1 ?_
      refine z_astore6 (pc := 17) C (by decide) (fun w hw => by cases hw; exact (show ¬ (1 = 2) from by decide)) dL_height_17 ?_
      refine z_iconst (v := 1) (pc := 19) C dL_height_19 (by decide) ?_
      exact z_iret (pc := 20) C hr hlk (Or.inr ⟨(fun z => h0 z.1), (zgo_1 h0).symm, rfl, rfl⟩) (Nat.le_of_ble_eq_true rfl) (Nat.le_of_ble_eq_true rfl) dL_height_20
    · refine z_catch C [⟨0, 14, 17, 21⟩] ⟨0, 14, 21, 13⟩ [] (by rw [htab]; rfl) (fun z hz => by rw [List.mem_singleton.mp hz]; exact Or.inr ⟨by decide, zIO, C.1.2.2.2.2 (.classLink RL 21 zIO) (zHL_21 _), C.2.2.1.2.2.2.1 zIA zEx_IA zIO zEx_IO (by decide)⟩) (by decide) (by decide) (C.1.2.2.2.2 (.classLink RL 13 zIA) (zHL_13 _)) (C.2.2.1.2.2.1 zIA zEx_IA).1 ?_
      refine z_astore6 (pc := 21) C (by decide) (fun w hw => by cases hw; exact (show ¬ (1 = 2) from by decide)) dL_height_21 ?_
      refine z_iconst (v := 2) (pc := 23) C dL_height_23 (by decide) ?_
      exact z_iret (pc := 24) C hr hlk (Or.inr ⟨(fun z => h1 z.2.1), (zgo_2 h0 h1).symm, rfl, rfl⟩) (Nat.le_of_ble_eq_true rfl) (Nat.le_of_ble_eq_true rfl) dL_height_24
  · refine z_i2l (pc := 12) C dL_height_12 ?_
    refine z_last (pc := 13) C rfl dL_height_13 ?_
    refine z_goto (tgt := 25) (pc := 14) C dL_height_14 (by decide) ?_
    refine z_iconst (v := 0) (pc := 25) C dL_height_25 (by decide) ?_
    exact z_iret (pc := 26) C hr hlk (Or.inl ⟨⟨hp.1, hp.2.1, trivial⟩, rfl, ⟨r9, ⟨hp.2.2.1, hp.2.2.2.1⟩, by rw [hp.2.2.2.2]⟩⟩) (Nat.le_of_ble_eq_true rfl) (Nat.le_of_ble_eq_true rfl) dL_height_26
