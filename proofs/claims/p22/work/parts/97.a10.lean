section
variable {p : Program} {l : Launch} {e : Env} {R : Room} {s : State} {m : MethodId} {args : Array Value} {below : List Frame} {meth : Method} {c : Code} {D : va_G} {ty : Nat → ClassId} {sa : Nat → Nat} {A : Nat → Prop} {nL cells slots : Nat} {Q : State → Prop} {cc : ByteArray} {own : String} {Ts : List Cond} {pc : Nat} {lv : List (Option Value)} {st : List Value} {ws : va_W}
theorem zk_astore4 (C : zkC p s m args c D ty sa A cc nL own Ts) {v0 v1 v2 v3 : Option Value} {o : Option Value} {r : List (Option Value)} {x : Nat} (hn : 4 < nL) (hc : ∀ w : Value, v3 = some w → ¬ w.category = 2) (d : decode cc pc = .ok (.astore 4, 2)) (k : zkW p l e R s m args below meth c D A nL cells slots Q (pc + 2) (v0 :: v1 :: v2 :: v3 :: some (.ref x) :: r) st ws) : zkW p l e R s m args below meth c D A nL cells slots Q pc (v0 :: v1 :: v2 :: v3 :: o :: r) (.ref x :: st) ws := by
  have hz : zc1 (v0 :: v1 :: v2 :: v3 :: o :: r) 4 := (fun j w hj hw => by (have hj9 : j = 3 := (by omega)); subst hj9; exact hc w (Option.some.inj hw))
  exact fun H locs ls hP hD hS hl => lv_astore C.1.1 C.1.2.1 d hl hn rfl (fun ls' hl' => k H locs ls' hP hD hS (zL_of hl' (zst1 hz)))
theorem zk_astore5 (C : zkC p s m args c D ty sa A cc nL own Ts) {v0 v1 v2 v3 v4 : Option Value} {o : Option Value} {r : List (Option Value)} {x : Nat} (hn : 5 < nL) (hc : ∀ w : Value, v4 = some w → ¬ w.category = 2) (d : decode cc pc = .ok (.astore 5, 2)) (k : zkW p l e R s m args below meth c D A nL cells slots Q (pc + 2) (v0 :: v1 :: v2 :: v3 :: v4 :: some (.ref x) :: r) st ws) : zkW p l e R s m args below meth c D A nL cells slots Q pc (v0 :: v1 :: v2 :: v3 :: v4 :: o :: r) (.ref x :: st) ws := by
  have hz : zc1 (v0 :: v1 :: v2 :: v3 :: v4 :: o :: r) 5 := (fun j w hj hw => by (have hj9 : j = 4 := (by omega)); subst hj9; exact hc w (Option.some.inj hw))
  exact fun H locs ls hP hD hS hl => lv_astore C.1.1 C.1.2.1 d hl hn rfl (fun ls' hl' => k H locs ls' hP hD hS (zL_of hl' (zst1 hz)))
theorem zk_astore6 (C : zkC p s m args c D ty sa A cc nL own Ts) {v0 v1 v2 v3 v4 v5 : Option Value} {o : Option Value} {r : List (Option Value)} {x : Nat} (hn : 6 < nL) (hc : ∀ w : Value, v5 = some w → ¬ w.category = 2) (d : decode cc pc = .ok (.astore 6, 2)) (k : zkW p l e R s m args below meth c D A nL cells slots Q (pc + 2) (v0 :: v1 :: v2 :: v3 :: v4 :: v5 :: some (.ref x) :: r) st ws) : zkW p l e R s m args below meth c D A nL cells slots Q pc (v0 :: v1 :: v2 :: v3 :: v4 :: v5 :: o :: r) (.ref x :: st) ws := by
  have hz : zc1 (v0 :: v1 :: v2 :: v3 :: v4 :: v5 :: o :: r) 6 := (fun j w hj hw => by (have hj9 : j = 5 := (by omega)); subst hj9; exact hc w (Option.some.inj hw))
  exact fun H locs ls hP hD hS hl => lv_astore C.1.1 C.1.2.1 d hl hn rfl (fun ls' hl' => k H locs ls' hP hD hS (zL_of hl' (zst1 hz)))
end
section
variable {p : Program} {l : Launch} {e : Env} {s : State} {m : MethodId} {below : List Frame} {meth : Method} {c : Code} {E : zE} {sa : Nat → Nat} {b L : Nat} {xs : Nat → Int32} {ov : Nat → Int64}
theorem law_exit (hE : ∀ i, i < 50 → s.heap.size ≤ E.2.2 i) (C : zC p s m #[Value.ref b] c E sa cL_law 9 RL wsL_law) (hr : meth.sig.returnType = ret) (hlk : meth.locks = false) {cells slots : Nat} (hc : cells ≤ 637209) (hs : slots ≤ 7189998) {lv : List (Option Value)} {μ : zM} : zW p l e room_1 s m #[Value.ref b] below meth c E 9 cells slots (lw_Z below #[Value.ref b] s) 176 lv [] μ ov := by
  refine z_iconst (v := 1) (pc := 176) C dL_law_176 (by decide) ?_
  refine z_goto (tgt := 181) (pc := 177) C dL_law_177 (by decide) ?_
  intro H locs ls hP hD hS hl
  refine va_forget (fun q hq => ?_) (W.widen hc hs (lw_ret C.1.1 C.1.2.1 hr hlk dL_law_181))
  rcases hS.2.2 q hq with ⟨i, hi, z⟩ | z
  · rw [z]; exact hE i hi
  · exact z
set_option maxHeartbeats 4000000 in
set_option maxRecDepth 100000 in
theorem law_end (hfl : l.stackTraces = false) (hE : ∀ i, i < 50 → s.heap.size ≤ E.2.2 i) (C : zC p s m #[Value.ref b] c E sa cL_law 9 RL wsL_law) (hr : meth.sig.returnType = ret) (hlk : meth.locks = false) {μ : zM} {t c9 nc n A : Nat} (h : zLI μ t c9 nc n A) {cells slots : Nat} (hc : cells ≤ 200000) (hs : slots ≤ 1000000) : zW p l e room_1 s m #[Value.ref b] below meth c E 9 cells slots (lw_Z below #[Value.ref b] s) 114 [some (.ref b), some (.ref (zob E 0)), some (.ref (zad E 38)), some (.ref (zad E 39)), some (.ref (zad E 40)), some (.ref (zad E 41)), some (.ref (zad E 42)), some (.int 1), some (.int (nI A))] [] μ ov := by
  obtain ⟨H, hL, hS, hW, hG, hK, ht6, hA60⟩ := id h
  obtain ⟨X1, X2, X3, X4, X5, X6, X7, X8, X9⟩ := id H
  obtain ⟨G0, G1, G2, G3⟩ := id hG
  obtain ⟨W1, W2, W3, ⟨B8, hB8, eB8⟩, ⟨C8, hC8, hC9, eC8⟩, W6, W7, W8, W9, W10⟩ := id hW
  refine z_iload (i := 7) (pc := 114) C dL_law_114 rfl ?_
  refine z_if_eq (tgt := 180) (pc := 116) C dL_law_116 (by decide) (fun c1 => absurd c1 (by decide)) (fun _ => ?_)
  refine z_aloadn (i := 2) (pc := 119) C dL_law_119 rfl rfl ?_
  refine z_iconst (v := 2) (pc := 120) C dL_law_120 (by decide) ?_
  refine z_iald (pc := 121) C 38 2 (by decide) rfl rfl (by decide) dL_law_121 ?_
  refine z_if_eq (tgt := 176) (pc := 122) C dL_law_122 (by decide) (fun _ => law_exit hE C hr hlk (by omega) (by omega)) (fun c2 => ?_)
  have ht1 : 1 ≤ t := by rcases Nat.eq_zero_or_pos t with z | z; (exact absurd (by rw [G2, z]; rfl) c2); exact z
  refine z_aloadn (i := 1) (pc := 125) C dL_law_125 rfl rfl ?_
  refine z_aloadn (i := 2) (pc := 126) C dL_law_126 rfl rfl ?_
  refine z_aloadn (i := 3) (pc := 127) C dL_law_127 rfl rfl ?_
  refine z_aload (i := 4) (pc := 128) C dL_law_128 rfl ?_
  refine z_aloadn (i := 2) (pc := 130) C dL_law_130 rfl rfl ?_
  refine z_iconst (v := 2) (pc := 131) C dL_law_131 (by decide) ?_
  refine z_iald (pc := 132) C 38 2 (by decide) rfl rfl (by decide) dL_law_132 ?_
  refine z_topi (y := nI t) G2 ?_
  refine z_callSi (pc := 133) (n := 5) (As := [.ref (zob E 0), .ref (zad E 38), .ref (zad E 39), .ref (zad E 40), .int (nI t)]) (rest := []) C (c_L_areMeasured l hfl E sa (μ := μ) (ov := ov) t c9 nc n A t h ht1 (Nat.le_refl _)) gL_law_L_areMeasured rfl zfV_L_areMeasured.2 ⟨(Nat.le_of_ble_eq_true rfl), (Nat.le_of_ble_eq_true rfl)⟩ rfl rfl (Nat.le_of_ble_eq_true rfl) ⟨by show _ ≤ 637209; omega, by show _ ≤ 7189998; omega⟩ dL_law_133 (fun r9 μ9 ov9 hp => ?_)
  obtain ⟨e1, e2, e3⟩ := hp
  have e2 := e2.symm
  have e3 := e3.symm
  subst e1 e2 e3
  refine z_if_eq (tgt := 180) (pc := 136) C dL_law_136 (by decide) (fun c1 => absurd c1 (by decide)) (fun _ => ?_)
  refine z_aloadn (i := 1) (pc := 139) C dL_law_139 rfl rfl ?_
  refine z_aloadn (i := 2) (pc := 140) C dL_law_140 rfl rfl ?_
  refine z_aloadn (i := 3) (pc := 141) C dL_law_141 rfl rfl ?_
  refine z_aloadn (i := 2) (pc := 142) C dL_law_142 rfl rfl ?_
  refine z_iconst (v := 2) (pc := 143) C dL_law_143 (by decide) ?_
  refine z_iald (pc := 144) C 38 2 (by decide) rfl rfl (by decide) dL_law_144 ?_
  refine z_topi (y := nI t) G2 ?_
  refine z_aload (i := 6) (pc := 145) C dL_law_145 rfl ?_
  refine z_iconst (v := 0) (pc := 147) C dL_law_147 (by decide) ?_
  refine z_iald (pc := 148) C 42 0 (by decide) rfl rfl (by decide) dL_law_148 ?_
  refine z_topi (y := nI B8) (W7.trans eB8) ?_
  refine z_callSi (pc := 149) (n := 5) (As := [.ref (zob E 0), .ref (zad E 38), .ref (zad E 39), .int (nI t), .int (nI B8)]) (rest := []) C (c_L_areRings l hfl E sa (μ := μ) (ov := ov) (B := B8) t c9 nc n A t h ht1 (Nat.le_refl _) eB8 hB8) gL_law_L_areRings rfl zfV_L_areRings.2 ⟨(Nat.le_of_ble_eq_true rfl), (Nat.le_of_ble_eq_true rfl)⟩ rfl rfl (Nat.le_of_ble_eq_true rfl) ⟨by show _ ≤ 637209; omega, by show _ ≤ 7189998; omega⟩ dL_law_149 (fun r9 μ9 ov9 hp => ?_)
  obtain ⟨e1, h7, e3⟩ := hp
  have e3 := e3.symm
  subst e1 e3
  refine z_if_eq (tgt := 180) (pc := 152) C dL_law_152 (by decide) (fun c1 => absurd c1 (by decide)) (fun _ => ?_)
  refine z_aloadn (i := 2) (pc := 155) C dL_law_155 rfl rfl ?_
  refine z_iconst (v := 0) (pc := 156) C dL_law_156 (by decide) ?_
  refine z_iald (pc := 157) C 38 0 (by decide) rfl rfl (by decide) dL_law_157 ?_
  refine z_if_eq (tgt := 176) (pc := 158) C dL_law_158 (by decide) (fun _ => law_exit hE C hr hlk (by omega) (by omega)) (fun c3 => ?_)
  obtain ⟨V1, V2, V3, ⟨B7, hB7, eB7⟩, ⟨C7, hC7, hC6, eC7⟩, V6, V7, V8, V9, V10⟩ := id h7.2.2.2.1
  have hnc : 0 < nc := by rcases Nat.eq_zero_or_pos nc with z | z; (exact absurd (by rw [h7.2.2.2.2.1.1, z]; rfl) c3); exact z
  refine z_aloadn (i := 1) (pc := 161) C dL_law_161 rfl rfl ?_
  refine z_aloadn (i := 2) (pc := 162) C dL_law_162 rfl rfl ?_
  refine z_aloadn (i := 2) (pc := 163) C dL_law_163 rfl rfl ?_
  refine z_iconst (v := 2) (pc := 164) C dL_law_164 (by decide) ?_
  refine z_iald (pc := 165) C 38 2 (by decide) rfl rfl (by decide) dL_law_165 ?_
  refine z_topi (y := nI t) h7.2.2.2.2.1.2.2.1 ?_
  refine z_aload (i := 6) (pc := 166) C dL_law_166 rfl ?_
  refine z_iconst (v := 1) (pc := 168) C dL_law_168 (by decide) ?_
  refine z_iald (pc := 169) C 42 1 (by decide) rfl rfl (by decide) dL_law_169 ?_
  refine z_topi (y := nI C7) (V8.trans eC7) ?_
  refine z_callSi (pc := 170) (n := 4) (As := [.ref (zob E 0), .ref (zad E 38), .int (nI t), .int (nI C7)]) (rest := []) C (c_L_isSteady l hfl E sa (μ := μ9) (ov := ov) (B := C7) t c9 nc n A t h7 ht1 (Nat.le_refl _) hnc eC7 hC7 hC6) gL_law_L_isSteady rfl zfV_L_isSteady.2 ⟨(Nat.le_of_ble_eq_true rfl), (Nat.le_of_ble_eq_true rfl)⟩ rfl rfl (Nat.le_of_ble_eq_true rfl) ⟨by show _ ≤ 637209; omega, by show _ ≤ 7189998; omega⟩ dL_law_170 (fun r8 μ8 ov8 hp => ?_)
  obtain ⟨e1, e2, e3⟩ := hp
  have e2 := e2.symm
  have e3 := e3.symm
  subst e1 e2 e3
  refine z_if_eq (tgt := 180) (pc := 173) C dL_law_173 (by decide) (fun c1 => absurd c1 (by decide)) (fun _ => law_exit hE C hr hlk (by omega) (by omega))
set_option maxHeartbeats 4000000 in
set_option maxRecDepth 100000 in
/-- THE LAW's LOOP: A calls of acts are made, 60 at most -/
theorem law_loop (hfl : l.stackTraces = false) (hL : L ≤ 260) (hX : va_X b L xs s s.heap) (hbl : b < s.heap.size) (hbA : ¬ zA E s.heap.size b) (hE : ∀ i, i < 50 → s.heap.size ≤ E.2.2 i) (C : zC p s m #[Value.ref b] c E sa cL_law 9 RL wsL_law) (hr : meth.sig.returnType = ret) (hlk : meth.locks = false) : ∀ (f A : Nat) (μ : zM) (t c9 nc n : Nat), A + f = 60 → zLI μ t c9 nc n A → zW p l e room_1 s m #[Value.ref b] below meth c E 9 (100 + 1700 * A) (20000 + 10200 * A) (lw_Z below #[Value.ref b] s) 64 [some (.ref b), some (.ref (zob E 0)), some (.ref (zad E 38)), some (.ref (zad E 39)), some (.ref (zad E 40)), some (.ref (zad E 41)), some (.ref (zad E 42)), some (.int 1), some (.int (nI A))] [] μ ov := by
  intro f
  induction f with
  | zero =>
    intro A μ t c9 nc n hf h
    refine z_iload (i := 8) (pc := 64) C dL_law_64 rfl ?_
    refine z_bipush (v := 60) (pc := 66) C dL_law_66 (by decide) ?_
    refine z_icmp_ge (tgt := 114) (pc := 68) C dL_law_68 (by decide) (fun _ => law_end hfl hE C hr hlk h (by omega) (by omega)) (fun c1 => ?_)
    exact absurd (nI_le (a := 60) (by omega) (by omega)) c1
  | succ f ih =>
    intro A μ t c9 nc n hf h
    refine z_iload (i := 8) (pc := 64) C dL_law_64 rfl ?_
    refine z_bipush (v := 60) (pc := 66) C dL_law_66 (by decide) ?_
    refine z_icmp_ge (tgt := 114) (pc := 68) C dL_law_68 (by decide) (fun c1 => absurd c1 (nI_ge (b := 60) (by omega) (by decide))) (fun _ => ?_)
    refine z_iload (i := 7) (pc := 71) C dL_law_71 rfl ?_
    refine z_if_eq (tgt := 114) (pc := 73) C dL_law_73 (by decide) (fun c1 => absurd c1 (by decide)) (fun _ => ?_)
    have e2A : (2 : Int32) * nI A = nI (2 * A) := pk_mul 2 A
    refine z_aloadn (i := 1) (pc := 76) C dL_law_76 rfl rfl ?_
    refine z_aloadn (i := 2) (pc := 77) C dL_law_77 rfl rfl ?_
    refine z_aloadn (i := 3) (pc := 78) C dL_law_78 rfl rfl ?_
    refine z_aload (i := 4) (pc := 79) C dL_law_79 rfl ?_
    refine z_aload (i := 5) (pc := 81) C dL_law_81 rfl ?_
    refine z_aload (i := 6) (pc := 83) C dL_law_83 rfl ?_
    refine z_aloadn (i := 0) (pc := 85) C dL_law_85 rfl rfl ?_
    refine z_iconst (v := 2) (pc := 86) C dL_law_86 (by decide) ?_
    refine z_iload (i := 8) (pc := 87) C dL_law_87 rfl ?_
    refine z_imul (pc := 89) C dL_law_89 ?_
    refine z_topi (y := nI (2 * A)) e2A ?_
    refine z_callAt (pc := 90) (n := 2) (As := [.ref b, .int (nI (2 * A))]) (rest := [.ref (zad E 42), .ref (zad E 41), .ref (zad E 40), .ref (zad E 39), .ref (zad E 38), .ref (zob E 0)]) C hX hbl hbA (c_L_at l E sa (μ := μ) (ov := ov) (show L ≤ 2560 by omega) (2 * A) rfl (by omega)) gL_law_L_at rfl zfV_L_at.2 ⟨(Nat.le_of_ble_eq_true rfl), (Nat.le_of_ble_eq_true rfl)⟩ rfl rfl (Nat.le_of_ble_eq_true rfl) ⟨by show _ ≤ 637209; omega, by show _ ≤ 7189998; omega⟩ dL_law_90 (fun x μ9 ov9 hp => ?_)
    obtain ⟨e2, e3⟩ := hp
    have e2 := e2.symm
    have e3 := e3.symm
    subst e2 e3
    refine z_aloadn (i := 0) (pc := 93) C dL_law_93 rfl rfl ?_
    refine z_iconst (v := 2) (pc := 94) C dL_law_94 (by decide) ?_
    refine z_iload (i := 8) (pc := 95) C dL_law_95 rfl ?_
    refine z_imul (pc := 97) C dL_law_97 ?_
    refine z_iconst (v := 1) (pc := 98) C dL_law_98 (by decide) ?_
    refine z_iadd (pc := 99) C dL_law_99 ?_
    refine z_topi (y := nI (2 * A + 1)) (by rw [e2A]; exact nI_1 _) ?_
    refine z_callAt (pc := 100) (n := 2) (As := [.ref b, .int (nI (2 * A + 1))]) (rest := [.int x, .ref (zad E 42), .ref (zad E 41), .ref (zad E 40), .ref (zad E 39), .ref (zad E 38), .ref (zob E 0)]) C hX hbl hbA (c_L_at l E sa (μ := μ) (ov := ov) (show L ≤ 2560 by omega) (2 * A + 1) rfl (by omega)) gL_law_L_at rfl zfV_L_at.2 ⟨(Nat.le_of_ble_eq_true rfl), (Nat.le_of_ble_eq_true rfl)⟩ rfl rfl (Nat.le_of_ble_eq_true rfl) ⟨by show _ ≤ 637209; omega, by show _ ≤ 7189998; omega⟩ dL_law_100 (fun y μ9 ov9 hp => ?_)
    obtain ⟨e2, e3⟩ := hp
    have e2 := e2.symm
    have e3 := e3.symm
    subst e2 e3
    refine z_callSi (pc := 103) (n := 8) (As := [.ref (zob E 0), .ref (zad E 38), .ref (zad E 39), .ref (zad E 40), .ref (zad E 41), .ref (zad E 42), .int x, .int y]) (rest := []) C (c_L_acts l hfl E sa (μ := μ) (ov := ov) (x := x) (y := y) t c9 nc n A h (by omega)) gL_law_L_acts rfl zfV_L_acts.2 ⟨(Nat.le_of_ble_eq_true rfl), (Nat.le_of_ble_eq_true rfl)⟩ rfl rfl (Nat.le_of_ble_eq_true rfl) ⟨by show _ ≤ 637209; omega, by show _ ≤ 7189998; omega⟩ dL_law_103 (fun r9 μ9 ov9 hp => ?_)
    obtain ⟨e1, ⟨t1, c1, nc1, n1, hk⟩, e3⟩ := hp
    have e3 := e3.symm
    subst e1 e3
    refine z_istore7 (pc := 106) C (by decide) (fun w hw => by cases hw; exact (show ¬ (1 = 2) from by decide)) dL_law_106 ?_
    refine z_iinc8 (v := 1) (pc := 108) C (by decide) (by decide) (fun w hw => by cases hw; exact (show ¬ (1 = 2) from by decide)) dL_law_108 ?_
    rw [nI_1]
    refine z_goto (tgt := 64) (pc := 111) C dL_law_111 (by decide) ?_
    exact z_widen (by omega) (by omega) (ih (A + 1) μ9 t1 c1 nc1 n1 (by omega) hk)
end
/-- the memory behind the constructors -/
def zm0 : zM := zur (fun _ _ => 0) 63 (fun j => if j = 1 then 100 else if j = 2 then 20 else if j = 10 then -1 else 0)
/-- and behind the law's two numbers -/
def zm1 : zM := zu (zu zm0 42 0 100) 42 1 20
theorem zm1_n {b : Nat} (h : b ≠ 63) (g : b ≠ 42) : zm1 b = fun _ => 0 := by unfold zm1; rw [zu_n _ _ _ g, zu_n _ _ _ g]; exact zur_n _ _ h
theorem zm1_z {b : Nat} (h : b ≠ 63) (g : b ≠ 42) (i : Nat) : zm1 b i = 0 := congrFun (zm1_n h g) i
theorem zm1_b {b : Nat} (h : b ≠ 63) (g : b ≠ 42) (i B : Nat) : zbn (zm1 b i) B := by
  rw [zm1_z h g]
  unfold zbn
  rw [show (0 : Int32).toInt = 0 from rfl]
  omega
theorem zm1_X : zCI zm1 0 0 0 0 := ⟨by decide +kernel, by decide, ⟨by decide +kernel, by decide, fun j hj => absurd hj (Nat.not_lt_zero _)⟩, by decide +kernel, by decide, by decide +kernel, by decide, fun j hj => absurd hj (Nat.not_lt_zero _), by decide +kernel⟩
theorem zm1_I : zLI zm1 0 0 0 0 0 := by
  refine ⟨zm1_X, ⟨⟨fun i => zm1_b (by decide) (by decide) i _, fun i => zm1_b (by decide) (by decide) i _, fun i => zm1_b (by decide) (by decide) i _, fun i => zm1_b (by decide) (by decide) i _, fun j hj => absurd hj (Nat.not_lt_zero _), by decide⟩, fun i => zm1_b (by decide) (by decide) i _, fun i => zm1_b (by decide) (by decide) i _, fun k hk d => zm1_b (by omega) (by omega) d _⟩, ⟨zm1_z (by decide) (by decide) 0, fun d h1 h2 => absurd h1 (by omega)⟩, ?_, ?_, ?_, by decide, by decide, fun i _ => zm1_z (by decide) (by decide) i⟩
  · exact ⟨fun i => ⟨0, by decide, zm1_z (by decide) (by decide) i⟩, fun i => Or.inl (zm1_z (by decide) (by decide) i), fun i _ => (zm1_z (by decide) (by decide) i).trans (zm1_z (b := 1) (by decide) (by decide) i).symm, ⟨100, by decide, by decide +kernel⟩, ⟨20, by decide, by decide, by decide +kernel⟩, Or.inl (by decide +kernel), by decide +kernel, by decide +kernel, by decide +kernel, by decide +kernel⟩
  · exact ⟨by decide +kernel, by decide +kernel, by decide +kernel, fun j hj => absurd hj (Nat.not_lt_zero _)⟩
  · exact ⟨0, by decide, by decide +kernel, fun j => ⟨0, by decide, zm1_z (by decide) (by decide) j⟩, fun i hi => absurd hi (Nat.not_lt_zero _), fun j hj d _ => by rw [zm1_z (by omega) (by omega)]; rfl⟩
theorem zG_lo {E : zE} {μ : zM} {ov : Nat → Int64} {A : Nat → Prop} (hD : va_D A (zG E μ ov)) {i : Nat} (hi : i < 50) : A (E.2.2 i) := by
  by_cases h : i < 7
  · have hg := zG_o E μ ov h
    rcases (show i = 0 ∨ i = 1 ∨ i = 2 ∨ i = 3 ∨ i = 4 ∨ i = 5 ∨ i = 6 by omega) with rfl | rfl | rfl | rfl | rfl | rfl | rfl <;> exact hD.2 _ _ (hg.trans rfl)
  · obtain ⟨k, rfl⟩ : ∃ k, i = 7 + k := ⟨i - 7, by omega⟩
    exact hD.2 _ _ (zG_ar E μ ov (k := k) (by omega))
def zadr (q4 qg ql qk qv qb : Nat) (u4 : zkS) : Nat → Nat := fun i => [q4, u4 0 1, u4 0 2, u4 0 3, u4 0 4, u4 0 5, u4 0 6, u4 0 9, u4 0 10, u4 0 11, u4 0 12, u4 0 13, u4 0 14, u4 0 15, u4 0 16, u4 0 17, u4 0 18, u4 0 19, u4 0 20, u4 0 21, u4 0 22, u4 0 23, u4 0 24, u4 0 25, u4 0 26, u4 0 27, u4 0 28, u4 0 29, u4 0 30, u4 1 0, u4 1 1, u4 1 2, u4 1 3, u4 1 4, u4 1 5, u4 1 6, u4 1 7, u4 2 0, u4 2 1, u4 2 2, u4 2 3, u4 2 4, u4 2 5, u4 2 6, u4 2 7, qg, ql, qk, qv, qb].getD i 0
set_option maxHeartbeats 4000000 in
set_option maxRecDepth 100000 in
theorem zwG (D : va_G) (ty : Nat → ClassId) (q4 qg ql qk qv qb : Nat) (u4 : zkS) : [0, 1, 2, 3, 4, 5, 6, 7, 8, 9, 10, 11, 12, 13, 14, 15, 16, 17, 18, 19, 20, 21, 22, 23, 24, 25, 26, 27, 28, 29, 30, 31, 32, 33, 34, 35, 36, 37, 38, 39, 40, 41, 42, 43, 44, 45, 46, 47, 48, 49].map (fun i => ((((((zw4 ty q4 u4 ++ [(qg, .inl (ty 0, 9, .inl (fun _ => 0)))]) ++ [(ql, .inl (ty 0, 24, .inl (fun _ => 0)))]) ++ [(qk, .inl (ty 0, 40, .inl (fun _ => 0)))]) ++ [(qv, .inl (ty 0, 7, .inl (fun _ => 0)))]) ++ [(qb, .inl (ty 0, 2, .inl (fun _ => 0)))]) : va_W)[i]?) = (zG (D, ty, zadr q4 qg ql qk qv qb u4) zm0 (fun _ => 0)).map some := by
  have e1 : zrow (D, ty, zadr q4 qg ql qk qv qb u4) 22 = fun i => if i < 8 then some (u4 1 i) else none := by
    funext j
    unfold zrow
    by_cases h : j < 8
    · rw [if_pos h, if_pos h]
      rcases (show j = 0 ∨ j = 1 ∨ j = 2 ∨ j = 3 ∨ j = 4 ∨ j = 5 ∨ j = 6 ∨ j = 7 by omega) with rfl | rfl | rfl | rfl | rfl | rfl | rfl | rfl <;> rfl
    · rw [if_neg h, if_neg h]
  have e2 : zrow (D, ty, zadr q4 qg ql qk qv qb u4) 30 = fun i => if i < 8 then some (u4 2 i) else none := by
    funext j
    unfold zrow
    by_cases h : j < 8
    · rw [if_pos h, if_pos h]
      rcases (show j = 0 ∨ j = 1 ∨ j = 2 ∨ j = 3 ∨ j = 4 ∨ j = 5 ∨ j = 6 ∨ j = 7 by omega) with rfl | rfl | rfl | rfl | rfl | rfl | rfl | rfl <;> rfl
    · rw [if_neg h, if_neg h]
  unfold zG zO
  rw [e1, e2]
  rfl
section
variable {p : Program} {l : Launch} {e : Env} {R : Room} {s : State} {m : MethodId} {args : Array Value} {below : List Frame} {meth : Method} {c : Code} {E : zE} {sa : Nat → Nat} {nL cells slots : Nat} {Q : State → Prop} {pc : Nat} {lv : List (Option Value)} {st : List Value} {μ : zM} {ov : Nat → Int64}
/-- the list of all cells is the memory -/
theorem zk_mem (k : (∀ i, i < 50 → s.heap.size ≤ E.2.2 i) → zW p l e R s m args below meth c E nL cells slots Q pc lv st μ ov) : zkW p l e R s m args below meth c E.1 (fun q : Nat => s.heap.size ≤ q) nL cells slots Q pc lv st (zG E μ ov) :=
  fun H locs ls hP hD hS hl => k (fun i hi => zG_lo hD hi) H locs ls hP (hD.weaken (fun _ _ _ h => Or.inr h)) ⟨hS.1, fun q h1 h2 => hS.2.1 q h1 (fun z => h2 (Or.inr z)), fun q hq => Or.inr (hS.2.2 q hq)⟩ hl
end
set_option maxHeartbeats 4000000 in
set_option maxRecDepth 100000 in
/-- THE LAW, from its entry -/
theorem whole_start {p : Program} {e : Env} {s : State} {m : MethodId} {below : List Frame} {meth : Method} {c : Code} (l : Launch) (hflags : l.flags = flags0) {b L : Nat} {xs : Nat → Int32} (hL : L ≤ 260) (C0 : lw_At p s m meth c b L xs) : W p l e room_1 s m #[Value.ref b] below meth c s.heap [] 0 0 (lw_Z below #[Value.ref b] s) (entryFrame m ([Value.ref b] : List Value).toArray 9) := by
  obtain ⟨hx, hb, hr, hml, hown, hts, hX, hbl, hlocks, hgv⟩ := id C0
  have hfl := zy_fl hflags
  obtain ⟨D, ty, hK⟩ := zy_K hts
  have hcur := (hK.1 4 _ rfl).2.1
  obtain ⟨sa, hWd⟩ := zy_Wd hts hgv hcur
  have hwl : ∀ w ∈ wsL_law, w.before #[Value.ref b] s = true := fun w h => hts w (wsL_law_in w h)
  have hC : zkC p s m #[Value.ref b] c D ty sa (fun q : Nat => s.heap.size ≤ q) cL_law 9 RL wsL_law := ⟨⟨hx, hb, hml, hown, hwl⟩, hK, hWd, fun _ h => h⟩
  have gi := hwl (.arrayClass .int) (by decide +kernel)
  have key : zkW p l e room_1 s m #[Value.ref b] below meth c D (fun q : Nat => s.heap.size ≤ q) 9 0 0 (lw_Z below #[Value.ref b] s) 0 [some (.ref b), none, none, none, none, none, none, none, none] [] [] := by
    refine zk_new (ci := 4) (fs := [.null, .null, .null, .null, .null, .null, .int 0, .int 0, .int 0, .int 0]) (pc := 0) hC inlX4 tyX4 tyX4_ok (hwl (.classLink RL 11 RX4) (by decide +kernel)) (hwl (.instantiable RX4 10) (by decide +kernel)) (hwl (.initialized RX4) (by decide +kernel)) rfl (by decide +kernel) (Nat.le_of_ble_eq_true rfl) (Nat.le_of_ble_eq_true rfl) dL_law_0 (fun q4 => ?_)
    refine zk_eq (ws' := [(q4, .inr (4, [.null, .null, .null, .null, .null, .null, .int 0, .int 0, .int 0, .int 0]))]) rfl ?_
    refine zk_widen (c2 := 1) (s2 := 10) (Nat.le_of_ble_eq_true rfl) (Nat.le_of_ble_eq_true rfl) ?_
    refine zk_dup (pc := 3) hC dL_law_3 rfl ?_
    refine zk_callI (rest := [.ref q4]) (pc := 4) hC (c_X4_init l D ty sa q4) gL_law_X4_init (hwl (.methodLink RL 161 yX4_init) (by decide +kernel)) (hwl (.initialized yX4_init.cls) (by decide +kernel)) (hwl (.instanceMethod yX4_init) (by decide +kernel)) rfl rfl (by decide +kernel) ⟨(Nat.le_of_ble_eq_true rfl), (Nat.le_of_ble_eq_true rfl)⟩ (Nat.le_of_ble_eq_true rfl) ⟨(Nat.le_of_ble_eq_true rfl), (Nat.le_of_ble_eq_true rfl)⟩ [0] [] (wr := []) rfl (by decide) rfl (by decide) (by decide) dL_law_4 (fun u4 => ?_)
    refine zk_eq (ws' := zw4 ty q4 u4) rfl ?_
    refine zk_widen (c2 := 45) (s2 := 9049) (Nat.le_of_ble_eq_true rfl) (Nat.le_of_ble_eq_true rfl) ?_
    refine zk_astore1 (pc := 7) hC (by decide) (fun w hw => by cases hw; exact (show ¬ (1 = 2) from by decide)) dL_law_7 ?_
    refine zk_bipush (v := 9) (pc := 8) hC dL_law_8 (by decide) ?_
    refine zk_newi (N := 9) (pc := 10) hC gi rfl (by decide) (Nat.le_of_ble_eq_true rfl) (Nat.le_of_ble_eq_true rfl) dL_law_10 (fun qg => ?_)
    refine zk_widen (c2 := 46) (s2 := 9058) (Nat.le_of_ble_eq_true rfl) (Nat.le_of_ble_eq_true rfl) ?_
    refine zk_astore2 (pc := 12) hC (by decide) (fun w hw => by cases hw; exact (show ¬ (1 = 2) from by decide)) dL_law_12 ?_
    refine zk_bipush (v := 24) (pc := 13) hC dL_law_13 (by decide) ?_
    refine zk_newi (N := 24) (pc := 15) hC gi rfl (by decide) (Nat.le_of_ble_eq_true rfl) (Nat.le_of_ble_eq_true rfl) dL_law_15 (fun ql => ?_)
    refine zk_widen (c2 := 47) (s2 := 9082) (Nat.le_of_ble_eq_true rfl) (Nat.le_of_ble_eq_true rfl) ?_
    refine zk_astore3 (pc := 17) hC (by decide) (fun w hw => by cases hw; exact (show ¬ (1 = 2) from by decide)) dL_law_17 ?_
    refine zk_bipush (v := 40) (pc := 18) hC dL_law_18 (by decide) ?_
    refine zk_newi (N := 40) (pc := 20) hC gi rfl (by decide) (Nat.le_of_ble_eq_true rfl) (Nat.le_of_ble_eq_true rfl) dL_law_20 (fun qk => ?_)
    refine zk_widen (c2 := 48) (s2 := 9122) (Nat.le_of_ble_eq_true rfl) (Nat.le_of_ble_eq_true rfl) ?_
    refine zk_astore4 (pc := 22) hC (by decide) (fun w hw => by cases hw; exact (show ¬ (1 = 2) from by decide)) dL_law_22 ?_
    refine zk_bipush (v := 7) (pc := 24) hC dL_law_24 (by decide) ?_
    refine zk_newi (N := 7) (pc := 26) hC gi rfl (by decide) (Nat.le_of_ble_eq_true rfl) (Nat.le_of_ble_eq_true rfl) dL_law_26 (fun qv => ?_)
    refine zk_widen (c2 := 49) (s2 := 9129) (Nat.le_of_ble_eq_true rfl) (Nat.le_of_ble_eq_true rfl) ?_
    refine zk_astore5 (pc := 28) hC (by decide) (fun w hw => by cases hw; exact (show ¬ (1 = 2) from by decide)) dL_law_28 ?_
    refine zk_iconst (v := 2) (pc := 30) hC dL_law_30 (by decide) ?_
    refine zk_newi (N := 2) (pc := 31) hC gi rfl (by decide) (Nat.le_of_ble_eq_true rfl) (Nat.le_of_ble_eq_true rfl) dL_law_31 (fun qb => ?_)
    refine zk_widen (c2 := 50) (s2 := 9131) (Nat.le_of_ble_eq_true rfl) (Nat.le_of_ble_eq_true rfl) ?_
    refine zk_astore6 (pc := 33) hC (by decide) (fun w hw => by cases hw; exact (show ¬ (1 = 2) from by decide)) dL_law_33 ?_
    obtain ⟨E, hE0⟩ : ∃ E : zE, E = (D, ty, zadr q4 qg ql qk qv qb u4) := ⟨_, rfl⟩
    refine zk_ord [0, 1, 2, 3, 4, 5, 6, 7, 8, 9, 10, 11, 12, 13, 14, 15, 16, 17, 18, 19, 20, 21, 22, 23, 24, 25, 26, 27, 28, 29, 30, 31, 32, 33, 34, 35, 36, 37, 38, 39, 40, 41, 42, 43, 44, 45, 46, 47, 48, 49] (ws' := zG E zm0 (fun _ => 0)) (by rw [hE0]; exact zwG D ty q4 qg ql qk qv qb u4) (by decide +kernel) ?_
    have hD0 : E.1 = D := by rw [hE0]
    have h0 : q4 = zob E 0 := by rw [hE0]; rfl
    have h38 : qg = zad E 38 := by rw [hE0]; rfl
    have h39 : ql = zad E 39 := by rw [hE0]; rfl
    have h40 : qk = zad E 40 := by rw [hE0]; rfl
    have h41 : qv = zad E 41 := by rw [hE0]; rfl
    have h42 : qb = zad E 42 := by rw [hE0]; rfl
    have hK2 : va_K E.1 vwCl (zT E) s := by rw [hE0]; exact hK
    rw [h0, h38, h39, h40, h41, h42, ← hD0]
    clear hE0
    refine zk_mem (fun hE => ?_)
    have C : zC p s m #[Value.ref b] c E sa cL_law 9 RL wsL_law := ⟨hC.1, hK2, hWd, zy_St hts hgv hE⟩
    have hbA : ¬ zA E s.heap.size b := by
      rintro (⟨i, hi, z⟩ | z)
      · have := hE i hi
        omega
      · omega
    refine z_aload (i := 6) (pc := 35) C dL_law_35 rfl ?_
    refine z_iconst (v := 0) (pc := 37) C dL_law_37 (by decide) ?_
    refine z_bipush (v := 100) (pc := 38) C dL_law_38 (by decide) ?_
    refine z_iast (pc := 40) C 42 0 (by decide) rfl rfl (by decide) dL_law_40 ?_
    refine z_aload (i := 6) (pc := 41) C dL_law_41 rfl ?_
    refine z_iconst (v := 1) (pc := 43) C dL_law_43 (by decide) ?_
    refine z_bipush (v := 20) (pc := 44) C dL_law_44 (by decide) ?_
    refine z_iast (pc := 46) C 42 1 (by decide) rfl rfl (by decide) dL_law_46 ?_
    refine z_mem (μ' := zm1) rfl ?_
    refine z_aloadn (i := 1) (pc := 47) C dL_law_47 rfl rfl ?_
    refine z_callVi (pc := 48) (n := 0) (As := []) (rest := []) C (c_X4_day l E sa (μ := zm1) (ov := fun _ => 0)) gL_law_X4_day rfl zfV_X4_day ⟨(Nat.le_of_ble_eq_true rfl), (Nat.le_of_ble_eq_true rfl)⟩ rfl (zRec_X4 E) rfl (Nat.le_of_ble_eq_true rfl) ⟨(Nat.le_of_ble_eq_true rfl), (Nat.le_of_ble_eq_true rfl)⟩ dL_law_48 (fun r9 μ9 ov9 hp => ?_)
    obtain ⟨e1, e2, e3⟩ := hp
    have e2 := e2.symm
    have e3 := e3.symm
    subst e1 e2 e3
    refine z_if_ne (tgt := 58) (pc := 51) C dL_law_51 (by decide) (fun c1 => absurd (show zm1 63 0 = 0 from by decide +kernel) c1) (fun _ => ?_)
    refine z_iconst (v := 1) (pc := 54) C dL_law_54 (by decide) ?_
    refine z_goto (tgt := 59) (pc := 55) C dL_law_55 (by decide) ?_
    refine z_istore7 (pc := 59) C (by decide) (fun w hw => by cases hw; exact (show ¬ (1 = 2) from by decide)) dL_law_59 ?_
    refine z_iconst (v := 0) (pc := 61) C dL_law_61 (by decide) ?_
    refine z_istore8 (pc := 62) C (by decide) (fun w hw => by cases hw; exact (show ¬ (1 = 2) from by decide)) dL_law_62 ?_
    refine z_widen (c2 := 100 + 1700 * 0) (s2 := 20000 + 10200 * 0) (Nat.le_of_ble_eq_true rfl) (Nat.le_of_ble_eq_true rfl) ?_
    exact law_loop hfl hL hX hbl hbA hE C hr hlocks 60 0 zm1 0 0 0 0 (by decide) zm1_I
  have hl := lv_entry [Value.ref b] (n := 9) (Nat.le_of_ble_eq_true rfl)
  rw [lg_entry_eq]
  exact key s.heap [] _ (fun k q h => by simp at h) ⟨fun i j p q h => by simp at h, fun k q h => by simp at h⟩ va_S.rf (zL_in (fun v hv => by rw [List.mem_singleton.mp hv]; rfl) hl)
