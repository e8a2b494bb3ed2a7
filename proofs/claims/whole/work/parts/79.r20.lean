def zOKv (A : Nat) (r : Int32) (μ2 : zM) : Prop := r = μ2 63 19 ∧ ∃ t c nc n, zR2 μ2 μ2 t c nc n (A + 1)
theorem zOKv.no {μ : zM} {t c nc n A : Nat} (h : zR2 μ μ t c nc n A) (hA : A < 512) {r : Int32} {P Q S P' Q' S' : Prop} [Decidable P] [Decidable Q] [Decidable S] [Decidable P'] [Decidable Q'] [Decidable S'] (e : zgo P Q S = zgo P' Q' S') (hn : ¬ (P ∧ Q ∧ S)) (hr : r = zgo P Q S) : zOKv A r (zu μ 63 19 (zgo P' Q' S')) :=
  ⟨by rw [zu_s, upd_s, hr, e], t, c, nc, n, h.th hA _⟩
section
variable {μ μ1 : zM} {ov ov1 : Nat → Int64} {t c9 nc n A : Nat} {r : Int32}
theorem s_bounds {a b : Int32}   (h : zR2 μ μ t c9 nc n A) (hA : A < 512)
    (hL : ((((0 ≤ a ∧ a ≤ 499) ∧ 1 ≤ b ∧ b ≤ 1000) ∧ (True) ∧ (True)) ∧ r = 0 ∧ (μ1 = zu (zu μ 63 1 a) 63 2 b) ∧ ov1 = ov) ∨ (¬ (((0 ≤ a ∧ a ≤ 499) ∧ 1 ≤ b ∧ b ≤ 1000) ∧ (True) ∧ (True)) ∧ r = zgo ((0 ≤ a ∧ a ≤ 499) ∧ 1 ≤ b ∧ b ≤ 1000) (True) (True) ∧ μ1 = μ ∧ ov1 = ov)) :
    zMs μ μ1 ∧ ∀ (μ2 : zM) (ov2 : Nat → Int64), (((((0 ≤ a ∧ a ≤ 499) ∧ 1 ≤ b ∧ b ≤ 1000) ∧ (True) ∧ (True)) ∧ μ2 = zu (zu (zu μ1 63 19 0) 63 15 a) 63 16 b ∧ ov2 = ov1) ∨ (¬ (((0 ≤ a ∧ a ≤ 499) ∧ 1 ≤ b ∧ b ≤ 1000) ∧ (True) ∧ (True)) ∧ μ2 = zu μ1 63 19 (zgo ((0 ≤ a ∧ a ≤ 499) ∧ 1 ≤ b ∧ b ≤ 1000) (True) (True)) ∧ ov2 = ov1)) → zOKv A r μ2 := by
  obtain ⟨HX, HM, hw, hs, hr, ho, hb9⟩ := h.one
  obtain ⟨X1, X2, X3, X4, X5, X6, X7, X8, X9⟩ := id HX
  obtain ⟨M1, M2, M3, M4, M5, M6, M7, M8, M9⟩ := id HM
  obtain ⟨w2, w3, w5, w6, w4, w7, w8, w9, w10, w11, w12, w0, w1⟩ := id hw
  have hms : zMs μ μ1 := by
    rcases hL with ⟨-, -, hv, -⟩ | ⟨-, -, e, -⟩
    · rw [hv]; exact ((zMs.rf μ).s (by decide)).s (by decide)
    · rw [e]; exact zMs.rf μ
  refine ⟨hms, fun μ2 ov2 hM => ?_⟩
  obtain ⟨e, iff⟩ := zgo_cg (P := (0 ≤ a ∧ a ≤ 499) ∧ 1 ≤ b ∧ b ≤ 1000) (Q := True) (S := True) (P' := (0 ≤ a ∧ a ≤ 499) ∧ 1 ≤ b ∧ b ≤ 1000) (Q' := True) (S' := True) Iff.rfl (fun _ => Iff.rfl) (fun _ _ => Iff.rfl)
  rcases hL with ⟨c1, hr0, hv, ho1⟩ | ⟨c1, hr0, e1, ho1⟩
  · rcases hM with ⟨c2, hM⟩ | ⟨c2, -⟩
    · have hv2 := hv
      obtain ⟨m2, m3⟩ := hM
      exact ⟨(by rw [hr0, m2]; simp [zu, zur, upd]), t, c9, nc, n, (h.bounds (κ := μ2) (a := a) (b := b) c1.1.1 c1.1.2 (by rw [m2, hv2]; first | (simp [zu, zur]; done) | simp [zu, zur, upd]) (by rw [m2, hv2]; first | (simp [zu, zur]; done) | simp [zu, zur, upd]) (by rw [m2, hv2]; first | (simp [zu, zur]; done) | simp [zu, zur, upd]) (by rw [m2, hv2]; first | (simp [zu, zur]; done) | simp [zu, zur, upd]) (fun b q0  => by rw [m2, hv2]; simp [zu, zur, show b ≠ 63 by omega]) (fun b q0 q9  => by rw [m2, hv2]; simp [zu, zur, show b ≠ 63 by omega]) (fun j q0 q1 q2 q3 q4 => by rw [m2, hv2]; simp [zu, zur, upd, show j ≠ 19 by omega, show j ≠ 1 by omega, show j ≠ 2 by omega, show j ≠ 15 by omega, show j ≠ 16 by omega])).more (by omega) (by omega)⟩
    · exact absurd (iff.mp c1) c2
  · rcases hM with ⟨c2, -⟩ | ⟨-, m2, -⟩
    · exact absurd (iff.mpr c2) c1
    · rw [m2, e1]; subst e1; exact zOKv.no h hA e c1 hr0
theorem s_link {i j d : Int32}   (h : zR2 μ μ t c9 nc n A) (hA : A < 512)
    (hL : ((((0 ≤ i ∧ i < μ 63 4) ∧ 0 ≤ j ∧ j < μ 63 4) ∧ (¬ i = j ∧ -50 ≤ d ∧ d ≤ 50) ∧ (n < 8)) ∧ r = 0 ∧ ∃ v : Int32, (v = nI n ∧ μ1 = zu (zu (zu (zu (zu μ 7 n i) 8 n j) 9 n d) 11 n (μ 63 0)) 63 5 (nI (n + 1))) ∧ ov1 = vp_updL ov 0 v.toInt64) ∨ (¬ (((0 ≤ i ∧ i < μ 63 4) ∧ 0 ≤ j ∧ j < μ 63 4) ∧ (¬ i = j ∧ -50 ≤ d ∧ d ≤ 50) ∧ (n < 8)) ∧ r = zgo ((0 ≤ i ∧ i < μ 63 4) ∧ 0 ≤ j ∧ j < μ 63 4) (¬ i = j ∧ -50 ≤ d ∧ d ≤ 50) (n < 8) ∧ μ1 = μ ∧ ov1 = ov)) :
    zMs μ μ1 ∧ ∀ (r2 : Int32) (μ2 : zM) (ov2 : Nat → Int64), (((((0 ≤ i ∧ i < μ1 63 12) ∧ 0 ≤ j ∧ j < μ1 63 12) ∧ (¬ i = j ∧ -50 ≤ d ∧ d ≤ 50) ∧ (μ1 63 13 < 8)) ∧ r2 = nI n ∧ μ2 = zu (zu (zu (zu (zu (zu μ1 63 19 0) 43 n i) 44 n j) 45 n d) 47 n (μ1 63 11)) 63 13 (nI (n + 1)) ∧ ov2 = ov1) ∨ (¬ (((0 ≤ i ∧ i < μ1 63 12) ∧ 0 ≤ j ∧ j < μ1 63 12) ∧ (¬ i = j ∧ -50 ≤ d ∧ d ≤ 50) ∧ (μ1 63 13 < 8)) ∧ r2 = 0 ∧ μ2 = zu μ1 63 19 (zgo ((0 ≤ i ∧ i < μ1 63 12) ∧ 0 ≤ j ∧ j < μ1 63 12) (¬ i = j ∧ -50 ≤ d ∧ d ≤ 50) (μ1 63 13 < 8)) ∧ ov2 = ov1)) → zOK A r r2 μ2 ov2 := by
  obtain ⟨HX, HM, hw, hs, hr, ho, hb9⟩ := h.one
  obtain ⟨X1, X2, X3, X4, X5, X6, X7, X8, X9⟩ := id HX
  obtain ⟨M1, M2, M3, M4, M5, M6, M7, M8, M9⟩ := id HM
  obtain ⟨w2, w3, w5, w6, w4, w7, w8, w9, w10, w11, w12, w0, w1⟩ := id hw
  have hms : zMs μ μ1 := by
    rcases hL with ⟨-, -, v, hv, -⟩ | ⟨-, -, e, -⟩
    · rw [hv.2]; exact (((((zMs.rf μ).x (by decide)).x (by decide)).x (by decide)).x (by decide)).s (by decide)
    · rw [e]; exact zMs.rf μ
  refine ⟨hms, fun r2 μ2 ov2 hM => ?_⟩
  obtain ⟨e, iff⟩ := zgo_cg (P := (0 ≤ i ∧ i < μ 63 4) ∧ 0 ≤ j ∧ j < μ 63 4) (Q := ¬ i = j ∧ -50 ≤ d ∧ d ≤ 50) (S := n < 8) (P' := (0 ≤ i ∧ i < μ1 63 12) ∧ 0 ≤ j ∧ j < μ1 63 12) (Q' := ¬ i = j ∧ -50 ≤ d ∧ d ≤ 50) (S' := μ1 63 13 < 8) (by rw [X4, hms.2 12 (by decide), M4]) (fun _ => Iff.rfl) (fun _ _ => by rw [hms.2 13 (by decide), M6, show (8 : Int32) = nI 8 from rfl, nI_ltI (by omega) (by omega)])
  rcases hL with ⟨c1, hr0, v, hv, ho1⟩ | ⟨c1, hr0, e1, ho1⟩
  · rcases hM with ⟨c2, hM⟩ | ⟨c2, -⟩
    · obtain ⟨hv1, hv2⟩ := hv
      obtain ⟨m1, m2, m3⟩ := hM
      rw [show μ1 63 11 = μ 63 0 by rw [hms.2 11 (by decide), M1, X1]] at m2
      obtain ⟨ki, hki, eki⟩ := znat (n := nc) c1.1.1.1 (by rw [← X4]; exact c1.1.1.2) (by omega)
      obtain ⟨kj, hkj, ekj⟩ := znat (n := nc) c1.1.2.1 (by rw [← X4]; exact c1.1.2.2) (by omega)
      have hne : ki ≠ kj := fun z => c1.2.1.1 (by rw [eki, ekj, z])
      rw [eki, ekj] at hv2 m2
      exact ⟨(by rw [hr0, m2]; simp [zu, zur, upd]), (fun _ => by rw [m3, ho1, m1, hv1]; rfl), t, c9, nc, n + 1, (h.link (κ := μ2) (d := d) (i := ki) (j0 := kj) c1.2.2 hki hkj hne c1.2.1.2 (by rw [m2, hv2]; first | (simp [zu, zur]; done) | simp [zu, zur, upd]) (by rw [m2, hv2]; first | (simp [zu, zur]; done) | simp [zu, zur, upd]) (by rw [m2, hv2]; first | (simp [zu, zur]; done) | simp [zu, zur, upd]) (by rw [m2, hv2]; first | (simp [zu, zur]; done) | simp [zu, zur, upd]) (by rw [m2, hv2]; first | (simp [zu, zur]; done) | simp [zu, zur, upd]) (by rw [m2, hv2]; first | (simp [zu, zur]; done) | simp [zu, zur, upd]) (by rw [m2, hv2]; first | (simp [zu, zur]; done) | simp [zu, zur, upd]) (by rw [m2, hv2]; first | (simp [zu, zur]; done) | simp [zu, zur, upd]) (by rw [m2, hv2]; first | (simp [zu, zur]; done) | simp [zu, zur, upd]) (by rw [m2, hv2]; first | (simp [zu, zur]; done) | simp [zu, zur, upd]) (fun b q0 q1 q2 q3 q4 => by rw [m2, hv2]; simp [zu, zur, show b ≠ 7 by omega, show b ≠ 8 by omega, show b ≠ 9 by omega, show b ≠ 11 by omega, show b ≠ 43 by omega, show b ≠ 44 by omega, show b ≠ 45 by omega, show b ≠ 47 by omega, show b ≠ 63 by omega]) (fun b q0 q9 q1 q2 q3 q4 => by rw [m2, hv2]; simp [zu, zur, show b ≠ 7 by omega, show b ≠ 8 by omega, show b ≠ 9 by omega, show b ≠ 11 by omega, show b ≠ 43 by omega, show b ≠ 44 by omega, show b ≠ 45 by omega, show b ≠ 47 by omega, show b ≠ 63 by omega]) (fun j q0 q1 q2 => by rw [m2, hv2]; simp [zu, zur, upd, show j ≠ 19 by omega, show j ≠ 5 by omega, show j ≠ 13 by omega])).more (by omega) (by omega)⟩
    · exact absurd (iff.mp c1) c2
  · rcases hM with ⟨c2, -⟩ | ⟨-, -, m2, -⟩
    · exact absurd (iff.mpr c2) c1
    · rw [m2, e1]; subst e1; exact zOK.no h hA e c1 hr0
theorem s_calibrate {i a b x : Int32}   (h : zR2 μ μ t c9 nc n A) (hA : A < 512)
    (hL : (((0 ≤ i ∧ i < μ 63 5) ∧ ((0 ≤ a ∧ a ≤ 500) ∧ (a ≤ b ∧ b ≤ 500) ∧ -10000 ≤ x ∧ x ≤ 10000) ∧ (μ 12 i.toNatClampNeg < 10)) ∧ r = 0 ∧ ∃ v : Int32, (v = μ 12 i.toNatClampNeg + 1 ∧ μ1 = zu (zitr (fun j μ => zu μ (30 + i.toNatClampNeg) (a.toNatClampNeg + j) (μ (30 + i.toNatClampNeg) (a.toNatClampNeg + j) + x)) (b.toNatClampNeg + 1 - a.toNatClampNeg) μ) 12 i.toNatClampNeg (μ 12 i.toNatClampNeg + 1)) ∧ ov1 = vp_updL ov 0 v.toInt64) ∨ (¬ ((0 ≤ i ∧ i < μ 63 5) ∧ ((0 ≤ a ∧ a ≤ 500) ∧ (a ≤ b ∧ b ≤ 500) ∧ -10000 ≤ x ∧ x ≤ 10000) ∧ (μ 12 i.toNatClampNeg < 10)) ∧ r = zgo (0 ≤ i ∧ i < μ 63 5) ((0 ≤ a ∧ a ≤ 500) ∧ (a ≤ b ∧ b ≤ 500) ∧ -10000 ≤ x ∧ x ≤ 10000) (μ 12 i.toNatClampNeg < 10) ∧ μ1 = μ ∧ ov1 = ov)) :
    zMs μ μ1 ∧ ∀ (r2 : Int32) (μ2 : zM) (ov2 : Nat → Int64), ((((0 ≤ i ∧ i < μ1 63 13) ∧ ((0 ≤ a ∧ a ≤ 500) ∧ (a ≤ b ∧ b ≤ 500) ∧ -10000 ≤ x ∧ x ≤ 10000) ∧ ((0 ≤ i ∧ i < μ1 63 13) ∧ μ1 53 i.toNatClampNeg < 10)) ∧ r2 = μ1 53 i.toNatClampNeg + 1 ∧ (∃ g, g < 10 ∧ μ1 53 i.toNatClampNeg = nI g ∧ μ2 = zu (zu (zu (zu (zu μ1 63 19 0) 54 (10 * i.toNatClampNeg + g) a) 55 (10 * i.toNatClampNeg + g) b) 56 (10 * i.toNatClampNeg + g) x) 53 i.toNatClampNeg (nI (g + 1))) ∧ ov2 = ov1) ∨ (¬ ((0 ≤ i ∧ i < μ1 63 13) ∧ ((0 ≤ a ∧ a ≤ 500) ∧ (a ≤ b ∧ b ≤ 500) ∧ -10000 ≤ x ∧ x ≤ 10000) ∧ ((0 ≤ i ∧ i < μ1 63 13) ∧ μ1 53 i.toNatClampNeg < 10)) ∧ r2 = 0 ∧ μ2 = zu μ1 63 19 (zgo (0 ≤ i ∧ i < μ1 63 13) ((0 ≤ a ∧ a ≤ 500) ∧ (a ≤ b ∧ b ≤ 500) ∧ -10000 ≤ x ∧ x ≤ 10000) ((0 ≤ i ∧ i < μ1 63 13) ∧ μ1 53 i.toNatClampNeg < 10)) ∧ ov2 = ov1)) → zOK A r r2 μ2 ov2 := by
  obtain ⟨HX, HM, hw, hs, hr, ho, hb9⟩ := h.one
  obtain ⟨X1, X2, X3, X4, X5, X6, X7, X8, X9⟩ := id HX
  obtain ⟨M1, M2, M3, M4, M5, M6, M7, M8, M9⟩ := id HM
  obtain ⟨w2, w3, w5, w6, w4, w7, w8, w9, w10, w11, w12, w0, w1⟩ := id hw
  have hms : zMs μ μ1 := by
    rcases hL with ⟨c1, -, v, hv, -⟩ | ⟨-, -, e, -⟩
    · obtain ⟨k, hk, hik⟩ := znat (n := n) c1.1.1 (by rw [← X6]; exact c1.1.2) (by omega)
      have eik : i.toNatClampNeg = k := by rw [hik, nI_clamp (by omega)]
      rw [hv.2]; refine zMs.x ⟨fun r p c => zitr_b (f := fun j μ => zu μ (30 + i.toNatClampNeg) (a.toNatClampNeg + j) (μ (30 + i.toNatClampNeg) (a.toNatClampNeg + j) + x)) (fun j ν _ => zu_n _ _ _ (by omega)), fun j p => congrFun (zitr_b (f := fun j μ => zu μ (30 + i.toNatClampNeg) (a.toNatClampNeg + j) (μ (30 + i.toNatClampNeg) (a.toNatClampNeg + j) + x)) (fun j ν _ => zu_n _ _ _ (by omega))) j⟩ (by decide)
    · rw [e]; exact zMs.rf μ
  refine ⟨hms, fun r2 μ2 ov2 hM => ?_⟩
  obtain ⟨e, iff⟩ := zgo_cg (P := 0 ≤ i ∧ i < μ 63 5) (Q := (0 ≤ a ∧ a ≤ 500) ∧ (a ≤ b ∧ b ≤ 500) ∧ -10000 ≤ x ∧ x ≤ 10000) (S := μ 12 i.toNatClampNeg < 10) (P' := 0 ≤ i ∧ i < μ1 63 13) (Q' := (0 ≤ a ∧ a ≤ 500) ∧ (a ≤ b ∧ b ≤ 500) ∧ -10000 ≤ x ∧ x ≤ 10000) (S' := (0 ≤ i ∧ i < μ1 63 13) ∧ μ1 53 i.toNatClampNeg < 10) (by rw [X6, hms.2 13 (by decide), M6]) (fun _ => Iff.rfl) (fun p _ => by rw [X6] at p; rw [hms.2 13 (by decide), M6, hms.1 53 (by decide) (by decide), w12]; exact ⟨fun z => ⟨p, z⟩, fun z => z.2⟩)
  rcases hL with ⟨c1, hr0, v, hv, ho1⟩ | ⟨c1, hr0, e1, ho1⟩
  · rcases hM with ⟨c2, hM⟩ | ⟨c2, -⟩
    · obtain ⟨hv1, hv2⟩ := hv
      obtain ⟨m1, ⟨g, hg10, eg, m2⟩, m3⟩ := hM
      obtain ⟨k, hk, hik⟩ := znat (n := n) c1.1.1 (by rw [← X6]; exact c1.1.2) (by omega)
      have eik : i.toNatClampNeg = k := by rw [hik, nI_clamp (by omega)]
      obtain ⟨f, hf, ha⟩ := nI_of2 (x := a) (M := 500) (n := 500) rfl (fun h => by have := c1.2.1.1.1; rw [zlt] at h; rw [zle2] at this; omega) c1.2.1.1.2
      obtain ⟨g5, hg5, hb5⟩ := nI_of2 (x := b) (M := 500) (n := 500) rfl (fun h => by have h1 := c1.2.1.1.1; have h2 := c1.2.1.2.1.1; rw [zlt] at h; rw [zle2] at h1 h2; omega) c1.2.1.2.1.2
      have hfg : f ≤ g5 := by have h2 := c1.2.1.2.1.1; rw [ha, hb5, nI_leI (by omega) (by omega)] at h2; exact h2
      have haf : a.toNatClampNeg = f := by rw [ha, nI_clamp (by omega)]
      have hbg : b.toNatClampNeg = g5 := by rw [hb5, nI_clamp (by omega)]
      have zk : ∀ r, r ≠ 30 + i.toNatClampNeg → zitr (fun j μ => zu μ (30 + i.toNatClampNeg) (a.toNatClampNeg + j) (μ (30 + i.toNatClampNeg) (a.toNatClampNeg + j) + x)) (b.toNatClampNeg + 1 - a.toNatClampNeg) μ r = μ r := fun r q => zitr_k (fun j μ => zu_n _ _ _ q)
      rw [eik, haf, hbg] at zk hv2
      rw [eik] at m2 eg
      rw [hms.1 53 (by decide) (by decide)] at eg
      have y : ∀ r, r ≠ 12 → r ≠ 30 + k → μ1 r = μ r := fun r p q => by rw [hv2, zu_n _ _ _ p]; exact zk r q
      have z : ∀ r, r ≠ 53 → r ≠ 54 → r ≠ 55 → r ≠ 56 → r ≠ 63 → μ2 r = μ1 r := fun r p1 p2 p3 p4 p5 => by rw [m2, zu_n _ _ _ p1, zu_n _ _ _ p4, zu_n _ _ _ p3, zu_n _ _ _ p2, zu_n _ _ _ p5]
      refine ⟨by rw [hr0, m2]; simp [zu, zur, upd], (fun _ => by rw [m3, ho1, m1, hv1, hms.1 53 (by decide) (by decide), w12]; rfl), t, c9, nc, n, (h.calibrate (κ := μ2) (a := a) (b := b) (x := x) (k0 := k) (g0 := g) (f := f) (g := g5) (by omega) hg10 eg ha hb5 hfg hg5 c1.2.1.2.2 ?_ ?_ ?_ ?_ ?_ ?_ (fun r q0 q1 q2 => ?_) (fun r q0 q9 q1 q2 q3 q4 => ?_) (fun j q0 => ?_)).more (by omega) (by omega)⟩
      · rw [z 12 (by decide) (by decide) (by decide) (by decide) (by decide), hv2, zu_s, zk 12 (by omega)]
      · rw [z (30 + k) (by omega) (by omega) (by omega) (by omega) (by omega), hv2, zu_n _ _ _ (by omega)]
      · rw [← y 53 (by omega) (by omega), m2]; simp [zu, zur]
      · rw [← y 54 (by omega) (by omega), m2]; simp [zu, zur]
      · rw [← y 55 (by omega) (by omega), m2]; simp [zu, zur]
      · rw [← y 56 (by omega) (by omega), m2]; simp [zu, zur]
      · rw [z r (by omega) (by omega) (by omega) (by omega) (by omega)]; exact y r q1 q2
      · rw [z r q1 q2 q3 q4 (by omega)]; exact y r (by omega) (by omega)
      · rw [m2]; simp [zu, zur, upd, show j ≠ 19 by omega]; rw [y 63 (by decide) (by omega)]
    · exact absurd (iff.mp c1) c2
  · rcases hM with ⟨c2, -⟩ | ⟨-, -, m2, -⟩
    · exact absurd (iff.mpr c2) c1
    · rw [m2, e1]; subst e1; exact zOK.no h hA e c1 hr0
end
