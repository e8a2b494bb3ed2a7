section
variable {p : Program} {l : Launch} {e : Env} {s : State} {m : MethodId} {below : List Frame} {meth : Method} {c : Code} {E : zE} {sa : Nat → Nat} {b L : Nat} {xs : Nat → Int32}
theorem law_exit (hE : ∀ i, i < 72 → s.heap.size ≤ E.2.2 i) (C : zC p s m #[Value.ref b] c E sa cL_law 7 RL wsL_law) (hr : meth.sig.returnType = ret) (hlk : meth.locks = false) {cells slots : Nat} (hc : cells ≤ 601024) (hs : slots ≤ 7293034) {lv : List (Option Value)} {μ : zM} {ov : Nat → Int64} : zW p l e room_1 s m #[Value.ref b] below meth c E 7 cells slots (lw_Z below #[Value.ref b] s) 1411 lv [] μ ov := by
  refine z_iconst (v := 1) (pc := 1411) C dL_law_1411 (by decide) ?_
  intro H locs ls hP hD hS hl
  refine va_forget (fun q hq => ?_) (W.widen hc hs (lw_ret C.1.1 C.1.2.1 hr hlk dL_law_1412))
  rcases hS.2.2 q hq with ⟨i, hi, z⟩ | z
  · rw [z]; exact hE i hi
  · exact z
set_option maxHeartbeats 4000000 in
set_option maxRecDepth 100000 in
/-- THE LAW's LOOP: A calls are made, 512 at most -/
theorem law_loop (hfl : l.stackTraces = false) (hL : L ≤ 2560) (hX : va_X b L xs s s.heap) (hbl : b < s.heap.size) (hbA : ¬ zA E s.heap.size b) (hE : ∀ i, i < 72 → s.heap.size ≤ E.2.2 i) (C : zC p s m #[Value.ref b] c E sa cL_law 7 RL wsL_law) (hr : meth.sig.returnType = ret) (hlk : meth.locks = false) : ∀ (f A : Nat) (μ : zM) (ov : Nat → Int64) (t c9 nc n : Nat), 512 ≤ A + f → A ≤ 512 → zR2 μ μ t c9 nc n A → zW p l e room_1 s m #[Value.ref b] below meth c E 7 (100 + A) (20000 + 6 * A) (lw_Z below #[Value.ref b] s) 23 [some (.ref b), some (.ref (zob E 0)), some (.ref (zob E 7)), some (.ref (zob E 8)), some (.int (nI (5 * A))), none, none] [] μ ov := by
  intro f
  induction f with
  | zero =>
    intro A μ ov t c9 nc n hf hA h
    refine z_iload (i := 4) (pc := 23) C dL_law_23 rfl ?_
    refine z_aloadn (i := 0) (pc := 25) C dL_law_25 rfl rfl ?_
    refine z_slen (pc := 26) C hX hbl hbA dL_law_26 ?_
    refine z_iconst (v := 5) (pc := 27) C dL_law_27 (by decide) ?_
    refine z_isub (pc := 28) C dL_law_28 ?_
    refine z_icmp_gt (tgt := 1411) (pc := 29) C dL_law_29 (by decide) (fun _ => law_exit hE C hr hlk (by omega) (by omega)) (fun c1 => ?_)
    exfalso
    rw [zlt, show (5 : Int32) = nI 5 from rfl, pk_sub_toInt (by omega) (by omega), nI_toInt (by omega)] at c1
    omega
  | succ f ih =>
    intro A μ ov t c9 nc n hf hA h
    refine z_iload (i := 4) (pc := 23) C dL_law_23 rfl ?_
    refine z_aloadn (i := 0) (pc := 25) C dL_law_25 rfl rfl ?_
    refine z_slen (pc := 26) C hX hbl hbA dL_law_26 ?_
    refine z_iconst (v := 5) (pc := 27) C dL_law_27 (by decide) ?_
    refine z_isub (pc := 28) C dL_law_28 ?_
    refine z_icmp_gt (tgt := 1411) (pc := 29) C dL_law_29 (by decide) (fun _ => law_exit hE C hr hlk (by omega) (by omega)) (fun c1 => ?_)
    have hi : 5 * A + 4 < L := by
      rw [zlt, show (5 : Int32) = nI 5 from rfl, pk_sub_toInt (by omega) (by omega), nI_toInt (by omega)] at c1
      omega
    have hA2 : A < 512 := by omega
    have hc0 : 100 + A ≤ 601024 := by omega
    have hs0 : 20000 + 6 * A ≤ 7293034 := by omega
    have hc : 100 + A + 1 ≤ 601024 := by omega
    have hs : 20000 + 6 * A + 6 ≤ 7293034 := by omega
    have K : ∀ (μ' : zM) (ov' : Nat → Int64) (t' c' nc' n' : Nat), zR2 μ' μ' t' c' nc' n' (A + 1) → zW p l e room_1 s m #[Value.ref b] below meth c E 7 (100 + A + 1) (20000 + 6 * A + 6) (lw_Z below #[Value.ref b] s) 1405 [some (.ref b), some (.ref (zob E 0)), some (.ref (zob E 7)), some (.ref (zob E 8)), some (.int (nI (5 * A))), none, none] [] μ' ov' := by
      intro μ' ov' t' c' nc' n' h'
      refine z_iinc4 (v := 5) (pc := 1405) C (by decide) (by decide) (fun w hw => by cases hw; exact (show ¬ (1 = 2) from by decide)) dL_law_1405 ?_
      refine z_goto (tgt := 23) (pc := 1408) C dL_law_1408 (by decide) ?_
      have e5 : nI (5 * A) + 5 = nI (5 * (A + 1)) := nI_add (5 * A) 5
      rw [e5]
      exact z_widen (by omega) (by omega) (ih (A + 1) μ' ov' t' c' nc' n' (by omega) (by omega) h')
    refine z_aloadn (i := 0) (pc := 32) C dL_law_32 rfl rfl ?_
    refine z_iload (i := 4) (pc := 33) C dL_law_33 rfl ?_
    refine z_sld (pc := 35) C hX hbl hbA (5 * A) rfl (by omega) hL dL_law_35 ?_
    refine z_bipush (v := 31) (pc := 36) C dL_law_36 (by decide) ?_
    refine z_iand (pc := 38) C dL_law_38 ?_
    rcases zsw (xs (5 * A) &&& 31) with c0 | c0 | c0 | c0 | c0 | c0 | c0 | c0 | c0 | c0 | c0 | c0 | c0 | c0 | c0 | c0 | c0 | c0 | c0 | c0
    · refine z_topi (y := 0) c0 ?_
      refine z_tableIn (off := 89) (tgt := 128) (pc := 39) C dL_law_39 (by decide) (by decide) (by decide) (by decide) ?_
      exact law_clock hfl hL hX hbl hbA C h hA2 hi hc0 hs0 hc hs K
    · refine z_topi (y := 1) c0 ?_
      refine z_tableIn (off := 157) (tgt := 196) (pc := 39) C dL_law_39 (by decide) (by decide) (by decide) (by decide) ?_
      exact law_tell hfl hL hX hbl hbA C h hA2 hi hc0 hs0 hc hs K
    · refine z_topi (y := 2) c0 ?_
      refine z_tableIn (off := 237) (tgt := 276) (pc := 39) C dL_law_39 (by decide) (by decide) (by decide) (by decide) ?_
      exact law_link hfl hL hX hbl hbA C h hA2 hi hc0 hs0 hc hs K
    · refine z_topi (y := 3) c0 ?_
      refine z_tableIn (off := 317) (tgt := 356) (pc := 39) C dL_law_39 (by decide) (by decide) (by decide) (by decide) ?_
      exact law_event hfl hL hX hbl hbA C h hA2 hi hc0 hs0 hc hs K
    · refine z_topi (y := 4) c0 ?_
      refine z_tableIn (off := 409) (tgt := 448) (pc := 39) C dL_law_39 (by decide) (by decide) (by decide) (by decide) ?_
      exact law_calibrate hfl hL hX hbl hbA C h hA2 hi hc0 hs0 hc hs K
    · refine z_topi (y := 5) c0 ?_
      refine z_tableIn (off := 501) (tgt := 540) (pc := 39) C dL_law_39 (by decide) (by decide) (by decide) (by decide) ?_
      exact law_bounds hfl hL hX hbl hbA C h hA2 hi hc0 hs0 hc hs K
    · refine z_topi (y := 6) c0 ?_
      refine z_tableIn (off := 549) (tgt := 588) (pc := 39) C dL_law_39 (by decide) (by decide) (by decide) (by decide) ?_
      exact law_pass hfl hL hX hbl hbA C h hA2 hi hc0 hs0 hc hs K
    · refine z_topi (y := 7) c0 ?_
      refine z_tableIn (off := 605) (tgt := 644) (pc := 39) C dL_law_39 (by decide) (by decide) (by decide) (by decide) ?_
      exact law_vote hfl hL hX hbl hbA C h hA2 hi hc0 hs0 hc hs K
    · refine z_topi (y := 8) c0 ?_
      refine z_tableIn (off := 689) (tgt := 728) (pc := 39) C dL_law_39 (by decide) (by decide) (by decide) (by decide) ?_
      exact law_adopt hfl hL hX hbl hbA C h hA2 hi hc0 hs0 hc hs K
    · refine z_topi (y := 9) c0 ?_
      refine z_tableIn (off := 740) (tgt := 779) (pc := 39) C dL_law_39 (by decide) (by decide) (by decide) (by decide) ?_
      exact law_day hfl hL hX hbl hbA C h hA2 hi hc0 hs0 hc hs K
    · refine z_topi (y := 10) c0 ?_
      refine z_tableIn (off := 753) (tgt := 792) (pc := 39) C dL_law_39 (by decide) (by decide) (by decide) (by decide) ?_
      exact law_of hfl hL hX hbl hbA C h hA2 hi hc0 hs0 hc hs K
    · refine z_topi (y := 11) c0 ?_
      refine z_tableIn (off := 821) (tgt := 860) (pc := 39) C dL_law_39 (by decide) (by decide) (by decide) (by decide) ?_
      exact law_measured hfl hL hX hbl hbA C h hA2 hi hc0 hs0 hc hs K
    · refine z_topi (y := 12) c0 ?_
      refine z_tableIn (off := 917) (tgt := 956) (pc := 39) C dL_law_39 (by decide) (by decide) (by decide) (by decide) ?_
      exact law_closes hfl hL hX hbl hbA C h hA2 hi hc0 hs0 hc hs K
    · refine z_topi (y := 13) c0 ?_
      refine z_tableIn (off := 1009) (tgt := 1048) (pc := 39) C dL_law_39 (by decide) (by decide) (by decide) (by decide) ?_
      exact law_open hfl hL hX hbl hbA C h hA2 hi hc0 hs0 hc hs K
    · refine z_topi (y := 14) c0 ?_
      refine z_tableIn (off := 1065) (tgt := 1104) (pc := 39) C dL_law_39 (by decide) (by decide) (by decide) (by decide) ?_
      exact law_slips hfl hL hX hbl hbA C h hA2 hi hc0 hs0 hc hs K
    · refine z_topi (y := 15) c0 ?_
      refine z_tableIn (off := 1121) (tgt := 1160) (pc := 39) C dL_law_39 (by decide) (by decide) (by decide) (by decide) ?_
      exact law_mean hfl hL hX hbl hbA C h hA2 hi hc0 hs0 hc hs K
    · refine z_topi (y := 16) c0 ?_
      refine z_tableIn (off := 1177) (tgt := 1216) (pc := 39) C dL_law_39 (by decide) (by decide) (by decide) (by decide) ?_
      exact law_published hfl hL hX hbl hbA C h hA2 hi hc0 hs0 hc hs K
    · refine z_topi (y := 17) c0 ?_
      refine z_tableIn (off := 1261) (tgt := 1300) (pc := 39) C dL_law_39 (by decide) (by decide) (by decide) (by decide) ?_
      exact law_height hfl hL hX hbl hbA C h hA2 hi hc0 hs0 hc hs K
    · refine z_topi (y := 18) c0 ?_
      refine z_tableIn (off := 1353) (tgt := 1392) (pc := 39) C dL_law_39 (by decide) (by decide) (by decide) (by decide) ?_
      exact law_events hfl hL hX hbl hbA C h hA2 hi hc0 hs0 hc hs K
    · refine z_tableOut (tgt := 1405) (pc := 39) C dL_law_39 c0 (by decide) ?_
      exact z_widen (by omega) (by omega) (K _ ov _ _ _ _ (h.more (by omega) (by omega)))
end
/-- the memory behind the constructors -/
def zm0 : zM := zur (fun _ _ => 0) 63 (fun j => if j = 1 then 100 else if j = 2 then 20 else if j = 10 then -1 else if j = 15 then 100 else if j = 16 then 20 else 0)
theorem zm0_n {b : Nat} (h : b ≠ 63) : zm0 b = fun _ => 0 := zur_n _ _ h
theorem zm0_z {b : Nat} (h : b ≠ 63) (i : Nat) : zm0 b i = 0 := congrFun (zm0_n h) i
theorem zm0_b {b : Nat} (h : b ≠ 63) (i B : Nat) : zbn (zm0 b i) B := by
  rw [zm0_z h]
  unfold zbn
  rw [show (0 : Int32).toInt = 0 from rfl]
  omega
theorem zm0_e {a b : Nat} (h : a ≠ 63) (g : b ≠ 63) : zm0 a = zm0 b := (zm0_n h).trans (zm0_n g).symm
theorem zm0_X : zCI zm0 0 0 0 0 := ⟨by decide +kernel, by decide, ⟨by decide +kernel, by decide, fun j hj => absurd hj (Nat.not_lt_zero _)⟩, by decide +kernel, by decide, by decide +kernel, by decide, fun j hj => absurd hj (Nat.not_lt_zero _), by decide +kernel⟩
theorem zm0_M : zMI zm0 0 0 0 0 := ⟨by decide +kernel, by decide, ⟨by decide +kernel, by decide, fun j hj => absurd hj (Nat.not_lt_zero _)⟩, by decide +kernel, by decide, by decide +kernel, by decide, fun j hj => absurd hj (Nat.not_lt_zero _), fun k _ => ⟨0, by decide, zm0_z (by decide) k⟩⟩
theorem zm0_R : zR2 zm0 zm0 0 0 0 0 0 := by
  refine ⟨zm0_X, zm0_M, ?_, ?_, fun k hk d _ _ => ?_, fun k hk q _ => ?_, ?_, ?_⟩
  · exact ⟨zm0_e (by decide) (by decide), zm0_e (by decide) (by decide), zm0_e (by decide) (by decide), zm0_e (by decide) (by decide), zm0_e (by decide) (by decide), zm0_e (by decide) (by decide), zm0_e (by decide) (by decide), zm0_e (by decide) (by decide), zm0_e (by decide) (by decide), zm0_e (by decide) (by decide), zm0_e (by decide) (by decide), zm0_e (by decide) (by decide), zm0_e (by decide) (by decide)⟩
  · exact ⟨by decide +kernel, by decide +kernel, by decide +kernel⟩
  · rw [zm0_z (by omega), zm0_z (by decide)]
  · rw [zm0_z (by omega), zm0_z (by decide)]
    rfl
  · exact ⟨by decide +kernel, by decide +kernel, by decide, List.Perm.refl [], fun i j _ h => absurd h (Nat.not_lt_zero _), fun j h => absurd h (Nat.not_lt_zero _)⟩
  · exact ⟨fun i => zm0_b (by decide) i _, ⟨fun i => zm0_b (by decide) i _, fun i => zm0_b (by decide) i _, fun i => zm0_b (by decide) i _, fun i => ⟨0, zm0_b (by decide) i _, by decide⟩⟩, fun k hk d => zm0_b (by omega) d _, fun i => zm0_b (by decide) i _, ⟨by decide +kernel, by decide +kernel⟩, by decide⟩
theorem zG_lo {E : zE} {μ : zM} {ov : Nat → Int64} {A : Nat → Prop} (hD : va_D A (zG E μ ov)) {i : Nat} (hi : i < 72) : A (E.2.2 i) := by
  by_cases h : i < 9
  · have hg := zG_o E μ ov h
    rcases (show i = 0 ∨ i = 1 ∨ i = 2 ∨ i = 3 ∨ i = 4 ∨ i = 5 ∨ i = 6 ∨ i = 7 ∨ i = 8 by omega) with rfl | rfl | rfl | rfl | rfl | rfl | rfl | rfl | rfl <;> exact hD.2 _ _ (hg.trans rfl)
  · obtain ⟨k, rfl⟩ : ∃ k, i = 9 + k := ⟨i - 9, by omega⟩
    exact hD.2 _ _ (zG_ar E μ ov (k := k) (by omega))
def zadr (q4 q5 q8 : Nat) (u4 u5 : zkS) : Nat → Nat := fun i => [q4, u4 0 1, u4 0 2, u4 0 3, u4 0 4, u4 0 5, u4 0 6, q5, q8, u4 0 9, u4 0 10, u4 0 11, u4 0 12, u4 0 13, u4 0 14, u4 0 15, u4 0 16, u4 0 17, u4 0 18, u4 0 19, u4 0 20, u4 0 21, u4 0 22, u4 0 23, u4 0 24, u4 0 25, u4 0 26, u4 0 27, u4 0 28, u4 0 29, u4 0 30, u4 1 0, u4 1 1, u4 1 2, u4 1 3, u4 1 4, u4 1 5, u4 1 6, u4 1 7, u4 2 0, u4 2 1, u4 2 2, u4 2 3, u4 2 4, u4 2 5, u4 2 6, u4 2 7, u5 0 0, u5 0 1, u5 0 2, u5 0 3, u5 0 4, u5 0 5, u5 0 6, u5 0 7, u5 0 8, u5 0 9, u5 0 10, u5 0 11, u5 0 12, u5 0 13, u5 0 14, u5 0 15, u5 0 16, u5 0 17, u5 0 18, u5 0 19, u5 0 20, u5 0 21, u5 0 22, u5 0 23, u5 0 24].getD i 0
set_option maxHeartbeats 4000000 in
set_option maxRecDepth 100000 in
theorem zwG (D : va_G) (ty : Nat → ClassId) (q4 q5 q8 : Nat) (u4 u5 : zkS) : [0, 1, 2, 3, 4, 5, 6, 45, 71, 7, 8, 9, 10, 11, 12, 13, 14, 15, 16, 17, 18, 19, 20, 21, 22, 23, 24, 25, 26, 27, 28, 29, 30, 31, 32, 33, 34, 35, 36, 37, 38, 39, 40, 41, 42, 43, 44, 46, 47, 48, 49, 50, 51, 52, 53, 54, 55, 56, 57, 58, 59, 60, 61, 62, 63, 64, 65, 66, 67, 68, 69, 70].map (fun i => ((zw4 ty q4 u4 ++ zw5 ty q5 u5) ++ [(q8, .inl (ty 2, 1, .inr (.inl (fun _ => 0))))] : va_W)[i]?) = (zG (D, ty, zadr q4 q5 q8 u4 u5) zm0 (fun _ => 0)).map some := by
  have e1 : zrow (D, ty, zadr q4 q5 q8 u4 u5) 22 = fun i => if i < 8 then some (u4 1 i) else none := by
    funext j
    unfold zrow
    by_cases h : j < 8
    · rw [if_pos h, if_pos h]
      rcases (show j = 0 ∨ j = 1 ∨ j = 2 ∨ j = 3 ∨ j = 4 ∨ j = 5 ∨ j = 6 ∨ j = 7 by omega) with rfl | rfl | rfl | rfl | rfl | rfl | rfl | rfl <;> rfl
    · rw [if_neg h, if_neg h]
  have e2 : zrow (D, ty, zadr q4 q5 q8 u4 u5) 30 = fun i => if i < 8 then some (u4 2 i) else none := by
    funext j
    unfold zrow
    by_cases h : j < 8
    · rw [if_pos h, if_pos h]
      rcases (show j = 0 ∨ j = 1 ∨ j = 2 ∨ j = 3 ∨ j = 4 ∨ j = 5 ∨ j = 6 ∨ j = 7 by omega) with rfl | rfl | rfl | rfl | rfl | rfl | rfl | rfl <;> rfl
    · rw [if_neg h, if_neg h]
  unfold zG zO
  rw [e1, e2]
  rfl
section
variable {p : Program} {l : Launch} {e : Env} {R : Room} {s : State} {m : MethodId} {args : Array Value} {below : List Frame} {meth : Method} {c : Code} {E : zE} {sa : Nat → Nat} {nL cells slots : Nat} {Q : State → Prop} {pc : Nat} {lv : List (Option Value)} {st : List Value} {μ : zM} {ov : Nat → Int64}
/-- the list of all cells is the memory -/
theorem zk_mem (k : (∀ i, i < 72 → s.heap.size ≤ E.2.2 i) → zW p l e R s m args below meth c E nL cells slots Q pc lv st μ ov) : zkW p l e R s m args below meth c E.1 (fun q : Nat => s.heap.size ≤ q) nL cells slots Q pc lv st (zG E μ ov) :=
  fun H locs ls hP hD hS hl => k (fun i hi => zG_lo hD hi) H locs ls hP (hD.weaken (fun _ _ _ h => Or.inr h)) ⟨hS.1, fun q h1 h2 => hS.2.1 q h1 (fun z => h2 (Or.inr z)), fun q hq => Or.inr (hS.2.2 q hq)⟩ hl
end
set_option maxHeartbeats 4000000 in
set_option maxRecDepth 100000 in
/-- THE LAW, from its entry -/
theorem whole_start {p : Program} {e : Env} {s : State} {m : MethodId} {below : List Frame} {meth : Method} {c : Code} (l : Launch) (hflags : l.flags = flags0) {b L : Nat} {xs : Nat → Int32} (hL : L ≤ 2560) (C0 : lw_At p s m meth c b L xs) : W p l e room_1 s m #[Value.ref b] below meth c s.heap [] 0 0 (lw_Z below #[Value.ref b] s) (entryFrame m ([Value.ref b] : List Value).toArray 7) := by
  obtain ⟨hx, hb, hr, hml, hown, hts, hX, hbl, hlocks, hgv⟩ := id C0
  have hfl := zy_fl hflags
  obtain ⟨D, ty, hK⟩ := zy_K hts
  have hcur := (hK.1 4 _ rfl).2.1
  obtain ⟨sa, hWd⟩ := zy_Wd hts hgv hcur
  have hwl : ∀ w ∈ wsL_law, w.before #[Value.ref b] s = true := fun w h => hts w (wsL_law_in w h)
  have hC : zkC p s m #[Value.ref b] c D ty sa (fun q : Nat => s.heap.size ≤ q) cL_law 7 RL wsL_law := ⟨⟨hx, hb, hml, hown, hwl⟩, hK, hWd, fun _ h => h⟩
  have key : zkW p l e room_1 s m #[Value.ref b] below meth c D (fun q : Nat => s.heap.size ≤ q) 7 0 0 (lw_Z below #[Value.ref b] s) 0 [some (.ref b), none, none, none, none, none, none] [] [] := by
    refine zk_new (ci := 4) (fs := [.null, .null, .null, .null, .null, .null, .int 0, .int 0, .int 0, .int 0]) (pc := 0) hC inlX4 tyX4 tyX4_ok (hwl (.classLink RL 8 RX4) (by decide +kernel)) (hwl (.instantiable RX4 10) (by decide +kernel)) (hwl (.initialized RX4) (by decide +kernel)) rfl (by decide +kernel) (Nat.le_of_ble_eq_true rfl) (Nat.le_of_ble_eq_true rfl) dL_law_0 (fun q4 => ?_)
    refine zk_eq (ws' := [(q4, .inr (4, [.null, .null, .null, .null, .null, .null, .int 0, .int 0, .int 0, .int 0]))]) rfl ?_
    refine zk_widen (c2 := 1) (s2 := 10) (Nat.le_of_ble_eq_true rfl) (Nat.le_of_ble_eq_true rfl) ?_
    refine zk_dup (pc := 3) hC dL_law_3 rfl ?_
    refine zk_callI (rest := [.ref q4]) (pc := 4) hC (c_X4_init l D ty sa q4) gL_law_X4_init (hwl (.methodLink RL 74 yX4_init) (by decide +kernel)) (hwl (.initialized yX4_init.cls) (by decide +kernel)) (hwl (.instanceMethod yX4_init) (by decide +kernel)) rfl rfl (by decide +kernel) ⟨(Nat.le_of_ble_eq_true rfl), (Nat.le_of_ble_eq_true rfl)⟩ (Nat.le_of_ble_eq_true rfl) ⟨(Nat.le_of_ble_eq_true rfl), (Nat.le_of_ble_eq_true rfl)⟩ [0] [] (wr := []) rfl (by decide) rfl (by decide) (by decide) dL_law_4 (fun u4 => ?_)
    refine zk_eq (ws' := zw4 ty q4 u4) rfl ?_
    refine zk_widen (c2 := 45) (s2 := 9049) (Nat.le_of_ble_eq_true rfl) (Nat.le_of_ble_eq_true rfl) ?_
    refine zk_astore1 (pc := 7) hC (by decide) (fun w hw => by cases hw; exact (show ¬ (1 = 2) from by decide)) dL_law_7 ?_
    refine zk_new (ci := 5) (fs := [.int 0, .int 0, .null, .null, .null, .null, .null, .int 0, .null, .null, .null, .null, .null, .null, .int 0, .null, .null, .null, .null, .null, .null, .null, .null, .int 0, .int 0, .null, .null, .int 0, .null, .int 0, .null, .null, .null, .int 0]) (pc := 8) hC inlX5 tyX5 tyX5_ok (hwl (.classLink RL 75 RX5) (by decide +kernel)) (hwl (.instantiable RX5 34) (by decide +kernel)) (hwl (.initialized RX5) (by decide +kernel)) rfl (by decide +kernel) (Nat.le_of_ble_eq_true rfl) (Nat.le_of_ble_eq_true rfl) dL_law_8 (fun q5 => ?_)
    refine zk_widen (c2 := 46) (s2 := 9083) (Nat.le_of_ble_eq_true rfl) (Nat.le_of_ble_eq_true rfl) ?_
    refine zk_dup (pc := 11) hC dL_law_11 rfl ?_
    refine zk_callI (rest := [.ref q5]) (pc := 12) hC (c_X5_init l D ty sa q5) gL_law_X5_init (hwl (.methodLink RL 77 yX5_init) (by decide +kernel)) (hwl (.initialized yX5_init.cls) (by decide +kernel)) (hwl (.instanceMethod yX5_init) (by decide +kernel)) rfl rfl (by decide +kernel) ⟨(Nat.le_of_ble_eq_true rfl), (Nat.le_of_ble_eq_true rfl)⟩ (Nat.le_of_ble_eq_true rfl) ⟨(Nat.le_of_ble_eq_true rfl), (Nat.le_of_ble_eq_true rfl)⟩ [45] (List.range 45) (wr := zw4 ty q4 u4) rfl (by decide) rfl (by decide +kernel) (by decide +kernel) dL_law_12 (fun u5 => ?_)
    refine zk_widen (c2 := 71) (s2 := 14477) (Nat.le_of_ble_eq_true rfl) (Nat.le_of_ble_eq_true rfl) ?_
    refine zk_astore2 (pc := 15) hC (by decide) (fun w hw => by cases hw; exact (show ¬ (1 = 2) from by decide)) dL_law_15 ?_
    refine zk_iconst (v := 1) (pc := 16) hC dL_law_16 (by decide) ?_
    refine zk_newl (N := 1) (pc := 17) hC (hwl (.arrayClass .long) (by decide +kernel)) rfl (by decide) (Nat.le_of_ble_eq_true rfl) (Nat.le_of_ble_eq_true rfl) dL_law_17 (fun q8 => ?_)
    refine zk_widen (c2 := 72) (s2 := 14478) (Nat.le_of_ble_eq_true rfl) (Nat.le_of_ble_eq_true rfl) ?_
    refine zk_astore3 (pc := 19) hC (by decide) (fun w hw => by cases hw; exact (show ¬ (1 = 2) from by decide)) dL_law_19 ?_
    obtain ⟨E, hE0⟩ : ∃ E : zE, E = (D, ty, zadr q4 q5 q8 u4 u5) := ⟨_, rfl⟩
    refine zk_ord [0, 1, 2, 3, 4, 5, 6, 45, 71, 7, 8, 9, 10, 11, 12, 13, 14, 15, 16, 17, 18, 19, 20, 21, 22, 23, 24, 25, 26, 27, 28, 29, 30, 31, 32, 33, 34, 35, 36, 37, 38, 39, 40, 41, 42, 43, 44, 46, 47, 48, 49, 50, 51, 52, 53, 54, 55, 56, 57, 58, 59, 60, 61, 62, 63, 64, 65, 66, 67, 68, 69, 70] (ws' := zG E zm0 (fun _ => 0)) (by rw [hE0]; exact zwG D ty q4 q5 q8 u4 u5) (by decide +kernel) ?_
    have hD0 : E.1 = D := by rw [hE0]
    have h0 : q4 = zob E 0 := by rw [hE0]; rfl
    have h7 : q5 = zob E 7 := by rw [hE0]; rfl
    have h8 : q8 = zob E 8 := by rw [hE0]; rfl
    have hK2 : va_K E.1 vwCl (zT E) s := by rw [hE0]; exact hK
    rw [h0, h7, h8, ← hD0]
    clear hE0
    refine zk_mem (fun hE => ?_)
    have C : zC p s m #[Value.ref b] c E sa cL_law 7 RL wsL_law := ⟨hC.1, hK2, hWd, zy_St hts hgv hE⟩
    have hbA : ¬ zA E s.heap.size b := by
      rintro (⟨i, hi, z⟩ | z)
      · have := hE i hi
        omega
      · omega
    refine z_iconst (v := 0) (pc := 20) C dL_law_20 (by decide) ?_
    refine z_istore4 (pc := 21) C (by decide) (fun w hw => by cases hw; exact (show ¬ (1 = 2) from by decide)) dL_law_21 ?_
    refine z_widen (c2 := 100 + 0) (s2 := 20000 + 6 * 0) (Nat.le_of_ble_eq_true rfl) (Nat.le_of_ble_eq_true rfl) ?_
    exact law_loop hfl hL hX hbl hbA hE C hr hlocks 512 0 zm0 (fun _ => 0) 0 0 0 0 (by decide) (by decide) zm0_R
  have hl := lv_entry [Value.ref b] (n := 7) (Nat.le_of_ble_eq_true rfl)
  rw [lg_entry_eq]
  exact key s.heap [] _ (fun k q h => by simp at h) ⟨fun i j p q h => by simp at h, fun k q h => by simp at h⟩ va_S.rf (zL_in (fun v hv => by rw [List.mem_singleton.mp hv]; rfl) hl)
