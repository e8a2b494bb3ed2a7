theorem zam_iff {k a : Int32} (hk : k = 0 ∨ k = 1 ∨ k = 2 ∨ k = 3) : zamt k a ↔ zamM k a := by
  rcases hk with rfl | rfl | rfl | rfl <;> unfold zamt zamM <;> simp
theorem zk4 : ∀ k, k < 4 → nI k = 0 ∨ nI k = 1 ∨ nI k = 2 ∨ nI k = 3 := by decide
theorem zk2 : ∀ k, k < 4 → ((nI k = 0 ∨ nI k = 1) ↔ nI k < 2) := by decide
theorem zk2n : ∀ k, k < 4 → (nI k < 2 ↔ k < 2) := by decide
theorem zav {k a : Int32} (h : zamt k a) : ∃ v, v ≤ 5500 ∧ a = nI v - 500 ∧ (k = 2 → 450 ≤ v ∧ v ≤ 550) ∧ (k = 3 → 497 ≤ v ∧ v ≤ 503) := by
  have e5 : (-500 : Int32).toInt = -500 := by decide
  have e6 : (500 : Int32).toInt = 500 := by decide
  have e7 : (5000 : Int32).toInt = 5000 := by decide
  have e8 : (-50 : Int32).toInt = -50 := by decide
  have e9 : (50 : Int32).toInt = 50 := by decide
  have e10 : (-3 : Int32).toInt = -3 := by decide
  have e11 : (3 : Int32).toInt = 3 := by decide
  have e0 : (0 : Int32).toInt = 0 := rfl
  have main : ∀ lo hi : Int, lo ≤ a.toInt → a.toInt ≤ hi → -500 ≤ lo → hi ≤ 5000 → (a.toInt + 500).toNat ≤ 5500 ∧ a = nI (a.toInt + 500).toNat - 500 ∧ ((a.toInt + 500).toNat : Int) = a.toInt + 500 := fun lo hi h1 h2 h3 h4 => by
    have hv : (a.toInt + 500).toNat ≤ 5500 := by omega
    refine ⟨hv, Int32.toInt_inj.mp ?_, by omega⟩
    rw [zvi hv]; omega
  unfold zamt at h
  rcases h with ⟨hk, h1, h2⟩ | ⟨hk, h1, h2⟩ | ⟨hk, h1, h2⟩ | ⟨hk, h1, h2⟩
  · rw [zle2] at h1 h2
    obtain ⟨m1, m2, m3⟩ := main _ _ h1 h2 (by omega) (by omega)
    exact ⟨_, m1, m2, fun z => absurd (hk.symm.trans z) (by decide), fun z => absurd (hk.symm.trans z) (by decide)⟩
  · rw [zle2] at h1 h2
    obtain ⟨m1, m2, m3⟩ := main _ _ h1 h2 (by omega) (by omega)
    exact ⟨_, m1, m2, fun z => absurd (hk.symm.trans z) (by decide), fun z => absurd (hk.symm.trans z) (by decide)⟩
  · rw [zle2] at h1 h2
    obtain ⟨m1, m2, m3⟩ := main _ _ h1 h2 (by omega) (by omega)
    exact ⟨_, m1, m2, fun _ => by omega, fun z => absurd (hk.symm.trans z) (by decide)⟩
  · rw [zle2] at h1 h2
    obtain ⟨m1, m2, m3⟩ := main _ _ h1 h2 (by omega) (by omega)
    exact ⟨_, m1, m2, fun z => absurd (hk.symm.trans z) (by decide), fun _ => by omega⟩
section
variable {μ μ1 : zM} {ov ov1 : Nat → Int64} {t c9 nc n A : Nat} {r : Int32}
theorem s_event {d k i a : Int32}   (h : zR2 μ μ t c9 nc n A) (hA : A < 512)
    (hL : (((μ 63 0 < d ∧ d ≤ 500 ∧ 0 ≤ k ∧ k ≤ 3) ∧ (((k = 0 ∨ k = 1) ∧ 0 ≤ i ∧ i < μ 63 4) ∨ (¬ (k = 0 ∨ k = 1) ∧ 0 ≤ i ∧ i < μ 63 5)) ∧ (zamt k a ∧ c9 < 40)) ∧ r = 0 ∧ ∃ v : Int32, (v = nI (c9 + 1) ∧ (∃ (p : Nat) (h : Nat → Int32), zins (μ 13) c9 (zevC d k i a) p h ∧ (p = 0 ∨ zevC d k i a ≤ μ 13 (p - 1)) ∧ μ1 = zu (zur μ 13 (upd h p (zevC d k i a))) 63 6 (nI (c9 + 1)))) ∧ ov1 = vp_updL ov 0 v.toInt64) ∨ (¬ ((μ 63 0 < d ∧ d ≤ 500 ∧ 0 ≤ k ∧ k ≤ 3) ∧ (((k = 0 ∨ k = 1) ∧ 0 ≤ i ∧ i < μ 63 4) ∨ (¬ (k = 0 ∨ k = 1) ∧ 0 ≤ i ∧ i < μ 63 5)) ∧ (zamt k a ∧ c9 < 40)) ∧ r = zgo (μ 63 0 < d ∧ d ≤ 500 ∧ 0 ≤ k ∧ k ≤ 3) (((k = 0 ∨ k = 1) ∧ 0 ≤ i ∧ i < μ 63 4) ∨ (¬ (k = 0 ∨ k = 1) ∧ 0 ≤ i ∧ i < μ 63 5)) (zamt k a ∧ c9 < 40) ∧ μ1 = μ ∧ ov1 = ov)) :
    zMs μ μ1 ∧ ∀ (r2 : Int32) (μ2 : zM) (ov2 : Nat → Int64), ((((μ1 63 11 < d ∧ d ≤ 500 ∧ 0 ≤ k ∧ k ≤ 3) ∧ ((k < 2 ∧ 0 ≤ i ∧ i < μ1 63 12) ∨ (¬ k < 2 ∧ 0 ≤ i ∧ i < μ1 63 13)) ∧ (zamM k a ∧ μ1 63 14 < 40)) ∧ r2 = nI (c9 + 1) ∧ μ2 = zu (zu (zu (zu (zu (zu μ1 63 19 0) 49 c9 d) 50 c9 k) 51 c9 i) 52 c9 a) 63 14 (nI (c9 + 1)) ∧ ov2 = ov1) ∨ (¬ ((μ1 63 11 < d ∧ d ≤ 500 ∧ 0 ≤ k ∧ k ≤ 3) ∧ ((k < 2 ∧ 0 ≤ i ∧ i < μ1 63 12) ∨ (¬ k < 2 ∧ 0 ≤ i ∧ i < μ1 63 13)) ∧ (zamM k a ∧ μ1 63 14 < 40)) ∧ r2 = 0 ∧ μ2 = zu μ1 63 19 (zgo (μ1 63 11 < d ∧ d ≤ 500 ∧ 0 ≤ k ∧ k ≤ 3) ((k < 2 ∧ 0 ≤ i ∧ i < μ1 63 12) ∨ (¬ k < 2 ∧ 0 ≤ i ∧ i < μ1 63 13)) (zamM k a ∧ μ1 63 14 < 40)) ∧ ov2 = ov1)) → zOK A r r2 μ2 ov2 := by
  obtain ⟨HX, HM, hw, hs, hr, ho, hb9⟩ := h.one
  obtain ⟨X1, X2, X3, X4, X5, X6, X7, X8, X9⟩ := id HX
  obtain ⟨M1, M2, M3, M4, M5, M6, M7, M8, M9⟩ := id HM
  obtain ⟨w2, w3, w5, w6, w4, w7, w8, w9, w10, w11, w12, w0, w1⟩ := id hw
  have hms : zMs μ μ1 := by
    rcases hL with ⟨-, -, v, hv, -⟩ | ⟨-, -, e, -⟩
    · obtain ⟨-, p, f, -, -, e⟩ := hv; rw [e]; exact zMs.s ⟨fun b q1 q2 => zur_n _ _ (by omega), fun j q1 => by rw [zur_n _ _ (by decide)]⟩ (by decide)
    · rw [e]; exact zMs.rf μ
  refine ⟨hms, fun r2 μ2 ov2 hM => ?_⟩
  obtain ⟨e, iff⟩ := zgo_cg (P := μ 63 0 < d ∧ d ≤ 500 ∧ 0 ≤ k ∧ k ≤ 3) (Q := ((k = 0 ∨ k = 1) ∧ 0 ≤ i ∧ i < μ 63 4) ∨ (¬ (k = 0 ∨ k = 1) ∧ 0 ≤ i ∧ i < μ 63 5)) (S := zamt k a ∧ c9 < 40) (P' := μ1 63 11 < d ∧ d ≤ 500 ∧ 0 ≤ k ∧ k ≤ 3) (Q' := (k < 2 ∧ 0 ≤ i ∧ i < μ1 63 12) ∨ (¬ k < 2 ∧ 0 ≤ i ∧ i < μ1 63 13)) (S' := zamM k a ∧ μ1 63 14 < 40) (by rw [X1, hms.2 11 (by decide), M1]) (fun p => by obtain ⟨kk, hkk, ek⟩ := nI_of2 (x := k) (M := 3) (n := 3) rfl (fun h => by have := p.2.2.1; rw [zlt] at h; rw [zle2] at this; omega) p.2.2.2; rw [X4, X6, hms.2 12 (by decide), hms.2 13 (by decide), M4, M6, ek]; simp only [zk2 kk (by omega)]) (fun p _ => by obtain ⟨kk, hkk, ek⟩ := nI_of2 (x := k) (M := 3) (n := 3) rfl (fun h => by have := p.2.2.1; rw [zlt] at h; rw [zle2] at this; omega) p.2.2.2; rw [hms.2 14 (by decide), M3.1, zam_iff (by rw [ek]; exact zk4 kk (by omega)), show (40 : Int32) = nI 40 from rfl, nI_ltI (by have := M3.2.1; omega) (by omega)])
  rcases hL with ⟨c1, hr0, v, hv, ho1⟩ | ⟨c1, hr0, e1, ho1⟩
  · rcases hM with ⟨c2, hM⟩ | ⟨c2, -⟩
    · obtain ⟨hv1, p, f, hins, hp, hv2⟩ := hv
      obtain ⟨m1, m2, m3⟩ := hM
      obtain ⟨kk, hkk, ek⟩ := nI_of2 (x := k) (M := 3) (n := 3) rfl (fun h => by have := c1.1.2.2.1; rw [zlt] at h; rw [zle2] at this; omega) c1.1.2.2.2
      obtain ⟨dd, hdd, ed⟩ := nI_of2 (x := d) (M := 500) (n := 500) rfl (fun h => by have := c1.1.1; rw [X1] at this; rw [zlt] at h this; rw [nI_toInt (by omega)] at this; rw [show (0 : Int32).toInt = 0 from rfl] at h; omega) c1.1.2.1
      have htd : t + 1 ≤ dd := by have := c1.1.1; rw [X1, ed, nI_ltI (by omega) (by omega)] at this; omega
      obtain ⟨v0, hv0, ea, g2, g3⟩ := zav c1.2.2.1
      have ho8 : ∃ o, o < 8 ∧ i = nI o ∧ (kk < 2 → o < 6) := by
        rcases c1.2.1 with ⟨q1, q2, q3⟩ | ⟨q1, q2, q3⟩
        · obtain ⟨o, o1, o2⟩ := znat (n := nc) q2 (by rw [← X4]; exact q3) (by omega)
          exact ⟨o, by omega, o2, fun _ => by omega⟩
        · obtain ⟨o, o1, o2⟩ := znat (n := n) q2 (by rw [← X6]; exact q3) (by omega)
          refine ⟨o, by omega, o2, fun z => absurd ?_ q1⟩
          rw [ek, zk2 kk (by omega), zk2n kk (by omega)]; exact z
      obtain ⟨o, o8, ei, o6⟩ := ho8
      have hy : zevC d k i a = nI (zcN dd kk o v0) := by rw [ed, ek, ei, ea]; exact zevC_N hdd (by omega) o8 (by omega)
      refine ⟨by rw [hr0, m2]; simp [zu, zur, upd], (fun _ => by rw [m3, ho1, m1, hv1]; rfl), t, c9 + 1, nc, n, ?_⟩
      rw [ed, ek, ei, ea] at m2
      generalize hyy : zevC d k i a = y at hv2 hins hp hy
      exact h.event (κ := μ2) (d := dd) (k := kk) (o := o) (v := v0) (p := p) (f := f) (y := y) hy c1.2.2.2 hA htd hdd (by omega) o8 o6 hv0 (fun z => g2 (by rw [ek, z]; rfl)) (fun z => g3 (by rw [ek, z]; rfl)) hins hp (by rw [m2, hv2]; first | (simp [zu, zur]; done) | simp [zu, zur, upd]) (by rw [m2, hv2]; first | (simp [zu, zur]; done) | simp [zu, zur, upd]) (by rw [m2, hv2]; first | (simp [zu, zur]; done) | simp [zu, zur, upd]) (by rw [m2, hv2]; first | (simp [zu, zur]; done) | simp [zu, zur, upd]) (by rw [m2, hv2]; first | (simp [zu, zur]; done) | simp [zu, zur, upd]) (by rw [m2, hv2]; first | (simp [zu, zur]; done) | simp [zu, zur, upd]) (by rw [m2, hv2]; first | (simp [zu, zur]; done) | simp [zu, zur, upd]) (fun b q0 q1 => by rw [m2, hv2]; simp [zu, zur, show b ≠ 13 by omega, show b ≠ 49 by omega, show b ≠ 50 by omega, show b ≠ 51 by omega, show b ≠ 52 by omega, show b ≠ 63 by omega]) (fun b q0 q9 q1 q2 q3 q4 => by rw [m2, hv2]; simp [zu, zur, show b ≠ 13 by omega, show b ≠ 49 by omega, show b ≠ 50 by omega, show b ≠ 51 by omega, show b ≠ 52 by omega, show b ≠ 63 by omega]) (fun j q0 q1 q2 => by rw [m2, hv2]; simp [zu, zur, upd, show j ≠ 19 by omega, q1, q2])
    · exact absurd (iff.mp c1) c2
  · rcases hM with ⟨c2, -⟩ | ⟨-, -, m2, -⟩
    · exact absurd (iff.mpr c2) c1
    · rw [m2, e1]; subst e1; exact zOK.no h hA e c1 hr0
end
