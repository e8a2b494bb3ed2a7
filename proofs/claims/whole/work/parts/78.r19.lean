section
variable {μ μ1 : zM} {ov ov1 : Nat → Int64} {t c9 nc n A : Nat} {r : Int32}
theorem s_tell {i d w : Int32}   (h : zR2 μ μ t c9 nc n A) (hA : A < 512)
    (hL : (((0 ≤ i ∧ i < μ 63 4) ∧ ((-20 ≤ d ∧ d ≤ 20) ∧ 0 ≤ w ∧ w ≤ 100) ∧ (True)) ∧ r = 0 ∧ ∃ v : Int32, (v = μ 4 i.toNatClampNeg ∧ μ1 = zu (zu μ 3 i.toNatClampNeg d) 4 i.toNatClampNeg w) ∧ ov1 = vp_updL ov 0 v.toInt64) ∨ (¬ ((0 ≤ i ∧ i < μ 63 4) ∧ ((-20 ≤ d ∧ d ≤ 20) ∧ 0 ≤ w ∧ w ≤ 100) ∧ (True)) ∧ r = zgo (0 ≤ i ∧ i < μ 63 4) ((-20 ≤ d ∧ d ≤ 20) ∧ 0 ≤ w ∧ w ≤ 100) (True) ∧ μ1 = μ ∧ ov1 = ov)) :
    zMs μ μ1 ∧ ∀ (r2 : Int32) (μ2 : zM) (ov2 : Nat → Int64), ((((0 ≤ i ∧ i < μ1 63 12) ∧ ((-20 ≤ d ∧ d ≤ 20) ∧ 0 ≤ w ∧ w ≤ 100) ∧ (True)) ∧ r2 = μ1 42 i.toNatClampNeg ∧ μ2 = zu (zu (zu μ1 63 19 0) 39 i.toNatClampNeg d) 42 i.toNatClampNeg w ∧ ov2 = ov1) ∨ (¬ ((0 ≤ i ∧ i < μ1 63 12) ∧ ((-20 ≤ d ∧ d ≤ 20) ∧ 0 ≤ w ∧ w ≤ 100) ∧ (True)) ∧ r2 = 0 ∧ μ2 = zu μ1 63 19 (zgo (0 ≤ i ∧ i < μ1 63 12) ((-20 ≤ d ∧ d ≤ 20) ∧ 0 ≤ w ∧ w ≤ 100) (True)) ∧ ov2 = ov1)) → zOK A r r2 μ2 ov2 := by
  obtain ⟨HX, HM, hw, hs, hr, ho, hb9⟩ := h.one
  obtain ⟨X1, X2, X3, X4, X5, X6, X7, X8, X9⟩ := id HX
  obtain ⟨M1, M2, M3, M4, M5, M6, M7, M8, M9⟩ := id HM
  obtain ⟨w2, w3, w5, w6, w4, w7, w8, w9, w10, w11, w12, w0, w1⟩ := id hw
  have hms : zMs μ μ1 := by
    rcases hL with ⟨-, -, v, hv, -⟩ | ⟨-, -, e, -⟩
    · rw [hv.2]; exact ((zMs.rf μ).x (by decide)).x (by decide)
    · rw [e]; exact zMs.rf μ
  refine ⟨hms, fun r2 μ2 ov2 hM => ?_⟩
  obtain ⟨e, iff⟩ := zgo_cg (P := 0 ≤ i ∧ i < μ 63 4) (Q := (-20 ≤ d ∧ d ≤ 20) ∧ 0 ≤ w ∧ w ≤ 100) (S := True) (P' := 0 ≤ i ∧ i < μ1 63 12) (Q' := (-20 ≤ d ∧ d ≤ 20) ∧ 0 ≤ w ∧ w ≤ 100) (S' := True) (by rw [X4, hms.2 12 (by decide), M4]) (fun _ => Iff.rfl) (fun _ _ => Iff.rfl)
  rcases hL with ⟨c1, hr0, v, hv, ho1⟩ | ⟨c1, hr0, e1, ho1⟩
  · rcases hM with ⟨c2, hM⟩ | ⟨c2, -⟩
    · obtain ⟨hv1, hv2⟩ := hv
      obtain ⟨m1, m2, m3⟩ := hM
      exact ⟨(by rw [hr0, m2]; simp [zu, zur, upd]), (fun _ => by rw [m3, ho1, m1, hv1, hms.1 42 (by decide) (by decide), w4]; rfl), t, c9, nc, n, (h.tell (κ := μ2) (i := i.toNatClampNeg) (d := d) (w := w) (by rw [m2, hv2]; simp [zu, zur]) (by rw [m2, hv2]; simp [zu, zur]) (by rw [m2, hv2]; simp [zu, zur]) (by rw [m2, hv2]; simp [zu, zur]) (fun b q0 q1 q2 => by rw [m2, hv2]; simp [zu, zur, show b ≠ 3 by omega, show b ≠ 4 by omega, show b ≠ 39 by omega, show b ≠ 42 by omega, show b ≠ 63 by omega]) (fun b q0 q9 q1 q2 => by rw [m2, hv2]; simp [zu, zur, show b ≠ 3 by omega, show b ≠ 4 by omega, show b ≠ 39 by omega, show b ≠ 42 by omega, show b ≠ 63 by omega]) (fun j q0  => by rw [m2, hv2]; simp [zu, zur, upd, show j ≠ 19 by omega])).more (by omega) (by omega)⟩
    · exact absurd (iff.mp c1) c2
  · rcases hM with ⟨c2, -⟩ | ⟨-, -, m2, -⟩
    · exact absurd (iff.mpr c2) c1
    · rw [m2, e1]; subst e1; exact zOK.no h hA e c1 hr0
theorem s_vote {i b : Int32}  (hb : b = 0 ∨ b = 1) (h : zR2 μ μ t c9 nc n A) (hA : A < 512)
    (hL : (((0 ≤ i ∧ i ≤ 6) ∧ (True) ∧ (True)) ∧ r = 0 ∧ ∃ v : Int32, (v = nI (zcnt (zhou (zu μ 1 i.toNatClampNeg b)) 7) ∧ μ1 = zu μ 1 i.toNatClampNeg b) ∧ ov1 = vp_updL ov 0 v.toInt64) ∨ (¬ ((0 ≤ i ∧ i ≤ 6) ∧ (True) ∧ (True)) ∧ r = zgo (0 ≤ i ∧ i ≤ 6) (True) (True) ∧ μ1 = μ ∧ ov1 = ov)) :
    zMs μ μ1 ∧ ∀ (r2 : Int32) (μ2 : zM) (ov2 : Nat → Int64), ((((0 ≤ i ∧ i ≤ 6) ∧ (True) ∧ (True)) ∧ r2 = nI (zcnt (zhoM (zu μ1 58 i.toNatClampNeg b)) 7) ∧ μ2 = zu (zu μ1 63 19 0) 58 i.toNatClampNeg b ∧ ov2 = ov1) ∨ (¬ ((0 ≤ i ∧ i ≤ 6) ∧ (True) ∧ (True)) ∧ r2 = 0 ∧ μ2 = zu μ1 63 19 (zgo (0 ≤ i ∧ i ≤ 6) (True) (True)) ∧ ov2 = ov1)) → zOK A r r2 μ2 ov2 := by
  obtain ⟨HX, HM, hw, hs, hr, ho, hb9⟩ := h.one
  obtain ⟨X1, X2, X3, X4, X5, X6, X7, X8, X9⟩ := id HX
  obtain ⟨M1, M2, M3, M4, M5, M6, M7, M8, M9⟩ := id HM
  obtain ⟨w2, w3, w5, w6, w4, w7, w8, w9, w10, w11, w12, w0, w1⟩ := id hw
  have hms : zMs μ μ1 := by
    rcases hL with ⟨-, -, v, hv, -⟩ | ⟨-, -, e, -⟩
    · rw [hv.2]; exact (zMs.rf μ).x (by decide)
    · rw [e]; exact zMs.rf μ
  refine ⟨hms, fun r2 μ2 ov2 hM => ?_⟩
  obtain ⟨e, iff⟩ := zgo_cg (P := 0 ≤ i ∧ i ≤ 6) (Q := True) (S := True) (P' := 0 ≤ i ∧ i ≤ 6) (Q' := True) (S' := True) Iff.rfl (fun _ => Iff.rfl) (fun _ _ => Iff.rfl)
  rcases hL with ⟨c1, hr0, v, hv, ho1⟩ | ⟨c1, hr0, e1, ho1⟩
  · rcases hM with ⟨c2, hM⟩ | ⟨c2, -⟩
    · obtain ⟨hv1, hv2⟩ := hv
      obtain ⟨m1, m2, m3⟩ := hM
      have ez : zhou (zu μ 1 i.toNatClampNeg b) = zhoM (zu μ1 58 i.toNatClampNeg b) := by funext j; unfold zhou zhoM; rw [zu_s, zu_s, hms.1 58 (by decide) (by decide), w1]
      exact ⟨(by rw [hr0, m2]; simp [zu, zur, upd]), (fun _ => by rw [m3, ho1, m1, hv1, ez]; rfl), t, c9, nc, n, (h.vote (κ := μ2) (i := i.toNatClampNeg) (b := b) (by rw [m2, hv2]; simp [zu, zur]) (by rw [m2, hv2]; simp [zu, zur]) (fun b q0 q1 => by rw [m2, hv2]; simp [zu, zur, show b ≠ 1 by omega, show b ≠ 58 by omega, show b ≠ 63 by omega]) (fun b q0 q9 q1 => by rw [m2, hv2]; simp [zu, zur, show b ≠ 1 by omega, show b ≠ 58 by omega, show b ≠ 63 by omega]) (fun j q0  => by rw [m2, hv2]; simp [zu, zur, upd, show j ≠ 19 by omega])).more (by omega) (by omega)⟩
    · exact absurd (iff.mp c1) c2
  · rcases hM with ⟨c2, -⟩ | ⟨-, -, m2, -⟩
    · exact absurd (iff.mpr c2) c1
    · rw [m2, e1]; subst e1; exact zOK.no h hA e c1 hr0
theorem s_adopt    (h : zR2 μ μ t c9 nc n A) (hA : A < 512)
    (hL : (((μ 63 3 = 0 ∧ ¬ μ 63 0 = 0) ∧ (True) ∧ (True)) ∧ r = 0 ∧ ∃ v : Int32, (v = zb (5 ≤ zcnt (zhou μ) 7 ∧ nI (zopen μ t n) = 0) ∧ (∃ ν, zScr μ ν ∧ μ1 = zu ν 63 3 (zb (5 ≤ zcnt (zhou μ) 7 ∧ nI (zopen μ t n) = 0)))) ∧ ov1 = vp_updL ov 0 v.toInt64) ∨ (¬ ((μ 63 3 = 0 ∧ ¬ μ 63 0 = 0) ∧ (True) ∧ (True)) ∧ r = zgo (μ 63 3 = 0 ∧ ¬ μ 63 0 = 0) (True) (True) ∧ μ1 = μ ∧ ov1 = ov)) :
    zMs μ μ1 ∧ ∀ (r2 : Int32) (μ2 : zM) (ov2 : Nat → Int64), ((((μ1 63 17 = 0 ∧ 0 < μ1 63 11) ∧ (True) ∧ (True)) ∧ r2 = zb (5 ≤ zcnt (zhoM μ1) 7 ∧ nI (zopM μ1 t n) = 0) ∧ (∃ κ, zScM (zu μ1 63 19 0) κ ∧ μ2 = zu κ 63 17 (zb (5 ≤ zcnt (zhoM μ1) 7 ∧ nI (zopM μ1 t n) = 0))) ∧ ov2 = ov1) ∨ (¬ ((μ1 63 17 = 0 ∧ 0 < μ1 63 11) ∧ (True) ∧ (True)) ∧ r2 = 0 ∧ μ2 = zu μ1 63 19 (zgo (μ1 63 17 = 0 ∧ 0 < μ1 63 11) (True) (True)) ∧ ov2 = ov1)) → zOK A r r2 μ2 ov2 := by
  obtain ⟨HX, HM, hw, hs, hr, ho, hb9⟩ := h.one
  obtain ⟨X1, X2, X3, X4, X5, X6, X7, X8, X9⟩ := id HX
  obtain ⟨M1, M2, M3, M4, M5, M6, M7, M8, M9⟩ := id HM
  obtain ⟨w2, w3, w5, w6, w4, w7, w8, w9, w10, w11, w12, w0, w1⟩ := id hw
  have hms : zMs μ μ1 := by
    rcases hL with ⟨-, -, v, hv, -⟩ | ⟨-, -, e, -⟩
    · obtain ⟨-, ν, hsc, e⟩ := hv; rw [e]; exact hsc.Ms.s (by decide)
    · rw [e]; exact zMs.rf μ
  refine ⟨hms, fun r2 μ2 ov2 hM => ?_⟩
  obtain ⟨e, iff⟩ := zgo_cg (P := μ 63 3 = 0 ∧ ¬ μ 63 0 = 0) (Q := True) (S := True) (P' := μ1 63 17 = 0 ∧ 0 < μ1 63 11) (Q' := True) (S' := True) (by rw [X1, hms.2 17 (by decide), hms.2 11 (by decide), M1, hs.2.2]; exact and_congr Iff.rfl ⟨fun z => (nI_ltI (a := 0) (by omega) (by omega)).mpr (Nat.pos_of_ne_zero (fun e => z (by rw [e]; rfl))), fun z e => by have z1 := (nI_ltI (a := 0) (b := t) (by omega) (by omega)).mp z; have e1 := (nI_eq (b := 0) (by omega) (by omega)).mp e; omega⟩) (fun _ => Iff.rfl) (fun _ _ => Iff.rfl)
  rcases hL with ⟨c1, hr0, v, hv, ho1⟩ | ⟨c1, hr0, e1, ho1⟩
  · rcases hM with ⟨c2, hM⟩ | ⟨c2, -⟩
    · obtain ⟨hv1, ν, hsc, hv2⟩ := hv
      obtain ⟨m1, ⟨κ, hsm, m2⟩, m3⟩ := hM
      have ht1 : 1 ≤ t := by have z := c1.1.2; rw [X1] at z; exact Nat.pos_of_ne_zero (fun e => z (by rw [e]; rfl))
      have ez : zhou μ = zhoM μ1 := by funext j; unfold zhou zhoM; rw [hms.1 58 (by decide) (by decide), w1]
      have eo : zopM μ1 t n = zopen μ t n := by rw [zopM_cg (fun b hb => hms.1 b (by omega) (by omega)) (fun i d => (zmMs hms i d).symm) (hms.2 15 (by decide)), zopn_eq hw hs hr ho HX HM hb9 ht1 (Nat.le_refl _)]
      rw [← ez, eo] at m1 m2
      have rb : ∀ b, b ≠ 63 → b ≠ 59 → b ≠ 60 → b ≠ 61 → b ≠ 62 → μ2 b = μ1 b := fun b p q x y w => by rw [m2, zu_n _ _ _ p, hsm.1 b q x y w p, zu_n _ _ _ p]
      have rj : ∀ j, j ≠ 17 → j ≠ 18 → j ≠ 19 → μ2 63 j = μ1 63 j := fun j p q x => by rw [m2, zu_s, upd_n _ _ p, hsm.2 j q, zu_s, upd_n _ _ x]
      have lb : ∀ b, (b < 14 ∨ 21 < b) → b ≠ 63 → μ1 b = μ b := fun b p q => by rw [hv2, zu_n _ _ _ q]; exact hsc.1 b p q
      have lj : ∀ j, j ≠ 3 → (j < 7 ∨ 10 < j) → μ1 63 j = μ 63 j := fun j p q => by rw [hv2, zu_s, upd_n _ _ p]; exact hsc.2 j q
      refine ⟨by rw [hr0, m2, zu_s, upd_n _ _ (by decide), hsm.2 19 (by decide), zu_s, upd_s], (fun _ => by rw [m3, ho1, m1, hv1]; rfl), t, c9, nc, n, ?_⟩
      have hA1 := h.adopt (κ := zu (zu μ 63 3 (zb (5 ≤ zcnt (zhou μ) 7 ∧ nI (zopen μ t n) = 0))) 63 17 (zb (5 ≤ zcnt (zhou μ) 7 ∧ nI (zopen μ t n) = 0))) (b := zb (5 ≤ zcnt (zhou μ) 7 ∧ nI (zopen μ t n) = 0)) (by simp [zu, zur, upd]) (by simp [zu, zur, upd]) (fun b q0 _ _ _ _ _ _ _ _ => by rw [zu_n _ _ _ (by omega), zu_n _ _ _ (by omega)]) (fun b q0 q9 => by rw [zu_n _ _ _ (by omega), zu_n _ _ _ (by omega)]) (fun j q0 q1 q2 => by rw [zu_s, upd_n _ _ q2, zu_s, upd_n _ _ q1])
      refine (hA1.cg (fun b hb => ?_) (fun j hj => ?_) (fun b p q => ?_) (fun j p q => ?_)).more (by omega) (by omega)
      · rw [rb b (by omega) (by omega) (by omega) (by omega) (by omega), lb b (by omega) (by omega), zu_n _ _ _ (by omega), zu_n _ _ _ (by omega)]
      · rw [rj j (by omega) (by omega) (by omega), zu_s, upd_n _ _ (by omega), zu_s]
        by_cases e3 : j = 3
        · rw [e3, upd_s, hv2, zu_s, upd_s]
        · rw [upd_n _ _ e3]; exact lj j e3 (by omega)
      · rw [rb b (by omega) (by omega) (by omega) (by omega) (by omega), lb b (by omega) (by omega), zu_n _ _ _ (by omega), zu_n _ _ _ (by omega)]
      · rw [zu_s]
        by_cases e17 : j = 17
        · rw [e17, upd_s, m2, zu_s, upd_s]
        · rw [upd_n _ _ e17, rj j e17 (by omega) (by omega), lj j (by omega) (by omega), zu_s, upd_n _ _ (by omega)]
    · exact absurd (iff.mp c1) c2
  · rcases hM with ⟨c2, -⟩ | ⟨-, -, m2, -⟩
    · exact absurd (iff.mpr c2) c1
    · rw [m2, e1]; subst e1; exact zOK.no h hA e c1 hr0
theorem s_pass {f : Int32}   (h : zR2 μ μ t c9 nc n A) (hA : A < 512)
    (hL : (((1 ≤ f ∧ f ≤ 50) ∧ (f ≤ 500 - μ 63 0) ∧ (True)) ∧ r = 0 ∧ ∃ v : Int32, (v = zpas f.toNatClampNeg μ 63 0 ∧ μ1 = zpas f.toNatClampNeg μ) ∧ ov1 = vp_updL ov 0 v.toInt64) ∨ (¬ ((1 ≤ f ∧ f ≤ 50) ∧ (f ≤ 500 - μ 63 0) ∧ (True)) ∧ r = zgo (1 ≤ f ∧ f ≤ 50) (f ≤ 500 - μ 63 0) (True) ∧ μ1 = μ ∧ ov1 = ov)) :
    zMs μ μ1 ∧ ∀ (r2 : Int32) (μ2 : zM) (ov2 : Nat → Int64), ((((1 ≤ f ∧ f ≤ 50) ∧ (μ1 63 11 + f ≤ 500) ∧ (True)) ∧ r2 = nI (t + f.toNatClampNeg) ∧ μ2 = (zpsM nc n (zu μ1 63 19 0) t c9 f.toNatClampNeg).1 ∧ ov2 = ov1) ∨ (¬ ((1 ≤ f ∧ f ≤ 50) ∧ (μ1 63 11 + f ≤ 500) ∧ (True)) ∧ r2 = 0 ∧ μ2 = zu μ1 63 19 (zgo (1 ≤ f ∧ f ≤ 50) (μ1 63 11 + f ≤ 500) (True)) ∧ ov2 = ov1)) → zOK A r r2 μ2 ov2 := by
  obtain ⟨HX, HM, hw, hs, hr, ho, hb9⟩ := h.one
  obtain ⟨X1, X2, X3, X4, X5, X6, X7, X8, X9⟩ := id HX
  obtain ⟨M1, M2, M3, M4, M5, M6, M7, M8, M9⟩ := id HM
  obtain ⟨w2, w3, w5, w6, w4, w7, w8, w9, w10, w11, w12, w0, w1⟩ := id hw
  have hms : zMs μ μ1 := by
    have hL := hL
    rcases id hL with ⟨-, -, v, hv, -⟩ | ⟨-, -, e, -⟩
    · exact (by
        obtain ⟨hv1, hv2⟩ := hv
        rcases hL with ⟨c1, -, -⟩ | ⟨c1, -, e, -⟩
        · obtain ⟨q, hq1, hq, hfq⟩ := znat2 (n := 50) c1.1.1 c1.1.2 (by omega)
          have efq : f.toNatClampNeg = q := by rw [hfq, nI_clamp (by omega)]
          have htq : t + q ≤ 500 := by have z := c1.2.1; rw [X1, hfq, show (500 : Int32) = nI 500 from rfl, pk_sub X2, nI_leI (by omega) (by omega)] at z; omega
          obtain ⟨a1, a2⟩ := zpas_k HX q htq
          rw [hv2, efq]
          exact ⟨fun b p1 p2 => a1 b (by omega) p2, fun j p1 => a2 j (by omega) (by omega)⟩
        · rw [e]; exact zMs.rf μ)
    · rw [e]; exact zMs.rf μ
  refine ⟨hms, fun r2 μ2 ov2 hM => ?_⟩
  obtain ⟨e, iff⟩ := zgo_cg (P := 1 ≤ f ∧ f ≤ 50) (Q := f ≤ 500 - μ 63 0) (S := True) (P' := 1 ≤ f ∧ f ≤ 50) (Q' := μ1 63 11 + f ≤ 500) (S' := True) Iff.rfl (fun p => by obtain ⟨q, hq1, hq, hfq⟩ := znat2 (n := 50) p.1 p.2 (by omega); rw [X1, hms.2 11 (by decide), M1, hfq, nI_add, show (500 : Int32) = nI 500 from rfl, pk_sub X2, nI_leI (by omega) (by omega), nI_leI (by omega) (by omega)]; omega) (fun _ _ => Iff.rfl)
  rcases hL with ⟨c1, hr0, v, hv, ho1⟩ | ⟨c1, hr0, e1, ho1⟩
  · rcases hM with ⟨c2, hM⟩ | ⟨c2, -⟩
    · obtain ⟨hv1, hv2⟩ := hv
      obtain ⟨m1, m2, m3⟩ := hM
      obtain ⟨q, hq1, hq, hfq⟩ := znat2 (n := 50) c1.1.1 c1.1.2 (by omega)
      have efq : f.toNatClampNeg = q := by rw [hfq, nI_clamp (by omega)]
      have htq : t + q ≤ 500 := by have z := c1.2.1; rw [X1, hfq, show (500 : Int32) = nI 500 from rfl, pk_sub X2, nI_leI (by omega) (by omega)] at z; omega
      rw [efq] at hv1 hv2 m1 m2
      obtain ⟨cx, hpx⟩ := HX.pas q htq
      have e0 : v = nI (t + q) := hv1.trans hpx.1
      rw [hv2] at m2
      refine ⟨by rw [hr0, m2, (zpsM_k nc n _ t c9 q).2 19 (by decide) (by decide), zu_s, upd_s], (fun _ => by rw [m3, ho1, m1, e0]; rfl), t + q, (zpsM nc n (zu (zpas q μ) 63 19 0) t c9 q).2, nc, n, ?_⟩
      rw [m2]; exact (h.pass htq).more (by omega) (by omega)
    · exact absurd (iff.mp c1) c2
  · rcases hM with ⟨c2, -⟩ | ⟨-, -, m2, -⟩
    · exact absurd (iff.mpr c2) c1
    · rw [m2, e1]; subst e1; exact zOK.no h hA e c1 hr0
end
