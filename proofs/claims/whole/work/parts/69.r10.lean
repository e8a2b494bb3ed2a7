set_option maxHeartbeats 1000000 in
theorem zR2.day {μ ν : zM} {t c nc n A : Nat} (h : zR2 μ ν t c nc n A) (ht : t + 1 ≤ 500) : zR2 (zday μ) (zdM ν t c nc n) (t + 1) (zlft c (zdM1 ν t)) nc n A := by
  obtain ⟨HX, HM, hW, hS, hr, ho, hE, hB⟩ := h
  obtain ⟨w2, w3, w5, w6, w4, w7, w8, w9, w10, w11, w12, w0, w1⟩ := hW
  obtain ⟨s1, s2, s3⟩ := hS
  obtain ⟨b1, b2, b3, b4, b5, b6⟩ := hB
  obtain ⟨c8, HX'⟩ := HX.day (by omega)
  have HM' := HM.day ht
  obtain ⟨X1, X2, X3, X4, X5, X6, X7, X8, X9⟩ := id HX
  have e0 : (μ 63 0).toNatClampNeg = t := by rw [X1, nI_clamp (by omega)]
  have e6 : (μ 63 6).toNatClampNeg = c := by rw [X3.1, nI_clamp (by have := X3.2.1; omega)]
  have e4 : (μ 63 4).toNatClampNeg = nc := by rw [X4, nI_clamp (by omega)]
  have e5 : (μ 63 5).toNatClampNeg = n := by rw [X6, nI_clamp (by omega)]
  have dA : zdayA μ = zu μ 63 0 (nI (t + 1)) := by unfold zdayA; rw [e0]
  have dB : zdayB μ = zevs (nI (t + 1)) c (zdayA μ) := by unfold zdayB; rw [e0, e6]
  have dC : zdayC μ = zitr (zrunS (nI (t + 1))) nc (zdayB μ) := by unfold zdayC; rw [e0, e4]
  have dD : zdayD μ = zitr (zmeaS (t + 1)) n (zdayC μ) := by unfold zdayD; rw [e0, e5]
  have dY : zday μ = zu (zdayD μ) 0 (t + 1) (zste (zdayD μ) (μ 0 t) (t + 1) n) := by unfold zday; rw [e0, e5]
  -- the start
  have kA : ∀ b, b ≠ 63 → zdayA μ b = μ b := fun b hb => by rw [dA]; exact zu_n _ _ _ hb
  have kA' : ∀ b, b ≠ 63 → zdM1 ν t b = ν b := fun b hb => by unfold zdM1; exact zu_n _ _ _ hb
  have zA : zec (zdM1 ν t) = zec ν := by funext j; unfold zec; rw [kA' 49 (by decide), kA' 50 (by decide), kA' 51 (by decide), kA' 52 (by decide)]
  have hE0 : zER (zdayA μ) (zdM1 ν t) (t + 1) c := by
    obtain ⟨E1, E2, E3, E4, E5, E6⟩ := hE
    refine ⟨by rw [dA, zu_s, upd_n _ _ (by decide)]; exact E1, by unfold zdM1; rw [zu_s, upd_n _ _ (by decide)]; exact E2, E3, by rw [kA 13 (by decide), zA]; exact E4, fun i j a b => by rw [kA 13 (by decide)]; exact E5 i j a b, fun j hj => ?_⟩
    unfold zevV
    rw [kA' 49 (by decide), kA' 50 (by decide), kA' 51 (by decide), kA' 52 (by decide)]
    exact E6 j hj
  have hV0 : zRv (zdayA μ) (zdM1 ν t) := by
    unfold zRv
    rw [kA 2 (by decide), kA 5 (by decide), kA 9 (by decide), kA 10 (by decide), kA' 38 (by decide), kA' 40 (by decide), kA' 45 (by decide), kA' 46 (by decide)]
    exact ⟨w2, w5, w9, w10⟩
  have h11 : zdM1 ν t 63 11 = nI (t + 1) := by unfold zdM1; rw [zu_s, upd_s]
  have hA0 : zBe (zdayA μ) c A := by
    unfold zBe
    rw [kA 2 (by decide), kA 5 (by decide), kA 9 (by decide), kA 10 (by decide)]
    exact b2
  -- the events
  obtain ⟨hE1, hV1⟩ := zER.all ht c _ _ hE0 hV0 h11
  have hB1 := zER.ind ht (P := fun μ _ c => zBe μ c A) (fun μ ν c j d k o v _ _ e V p => p.one b6 e V) c _ _ hE0 h11 hA0
  rw [← dB] at hE1 hV1 hB1
  have kB : ∀ b, b ≠ 2 → b ≠ 5 → b ≠ 9 → b ≠ 10 → b ≠ 63 → zdayB μ b = μ b := fun b q1 q2 q3 q4 q5 => by rw [dB, zevs_k _ q1 q2 q3 q4 q5]; exact kA b q5
  have kB' : ∀ b, b ≠ 38 → b ≠ 40 → b ≠ 45 → b ≠ 46 → b ≠ 49 → b ≠ 50 → b ≠ 51 → b ≠ 52 → b ≠ 63 → zdM2 ν t c b = ν b := fun b q1 q2 q3 q4 q5 q6 q7 q8 q9 => by unfold zdM2; rw [zdr_k q1 q2 q3 q4 q5 q6 q7 q8 q9]; exact kA' b q9
  obtain ⟨v2, v5, v9, v10⟩ := hV1
  have D2 : zdr c (zdM1 ν t) = zdM2 ν t c := rfl
  rw [D2] at v2 v5 v9 v10
  have u3 : zdayB μ 3 = zdM2 ν t c 39 := by rw [kB 3 (by decide) (by decide) (by decide) (by decide) (by decide), kB' 39 (by decide) (by decide) (by decide) (by decide) (by decide) (by decide) (by decide) (by decide) (by decide)]; exact w3
  have u6 : zdayB μ 6 = zdM2 ν t c 41 := by rw [kB 6 (by decide) (by decide) (by decide) (by decide) (by decide), kB' 41 (by decide) (by decide) (by decide) (by decide) (by decide) (by decide) (by decide) (by decide) (by decide)]; exact w6
  -- the clocks
  obtain ⟨r2, r6⟩ := zrun_2 (T := nI (t + 1)) v2 u3 v5 u6 nc
  have D3 : zitr (zckM (nI (t + 1))) nc (zdM2 ν t c) = zdM3 ν t c nc := rfl
  rw [← dC, D3] at r2 r6
  obtain ⟨rb2, rb6⟩ := zrun_b (T := nI (t + 1)) (t := t) (by omega) hB1.1 hB1.2.1 (fun i => by rw [kB 6 (by decide) (by decide) (by decide) (by decide) (by decide)]; exact b1 i) nc
  rw [← dC] at rb2 rb6
  have kC : ∀ b, b ≠ 6 → b ≠ 2 → zdayC μ b = zdayB μ b := fun b q1 q2 => by rw [dC]; exact zitr_k (fun i μ => zrunS_k _ i μ q1 q2)
  have kC' : ∀ b, b ≠ 38 → b ≠ 41 → zdM3 ν t c nc b = zdM2 ν t c b := fun b q1 q2 => zdM3_r ν t c nc q1 q2
  -- the links
  have kD : ∀ b, (b < 22 ∨ 29 < b) → zdayD μ b = zdayC μ b := fun b hb => by rw [dD]; exact zitr_b (fun i μ hi => zu_n _ _ _ (by omega))
  have kD' : ∀ b, b ≠ 48 → zdM4 ν t c nc n b = zdM3 ν t c nc b := fun b hb => zitr_k (fun i μ => zlkM_k (t + 1) hb i μ)
  have gX : ∀ b, b ≠ 2 → b ≠ 5 → b ≠ 9 → b ≠ 10 → b ≠ 63 → b ≠ 6 → (b < 22 ∨ 29 < b) → zdayD μ b = μ b := fun b q1 q2 q3 q4 q5 q6 q7 => by rw [kD b q7, kC b q6 q1]; exact kB b q1 q2 q3 q4 q5
  have gM : ∀ b, b ≠ 38 → b ≠ 40 → b ≠ 45 → b ≠ 46 → b ≠ 49 → b ≠ 50 → b ≠ 51 → b ≠ 52 → b ≠ 63 → b ≠ 41 → b ≠ 48 → zdM4 ν t c nc n b = ν b := fun b q1 q2 q3 q4 q5 q6 q7 q8 q9 q10 q11 => zdM4_k ν t c nc n q1 q2 q3 q4 q5 q6 q7 q8 q9 q10 q11
  have o7 : zdayC μ 7 = zdM3 ν t c nc 43 := by rw [kC 7 (by decide) (by decide), kC' 43 (by decide) (by decide), kB 7 (by decide) (by decide) (by decide) (by decide) (by decide), kB' 43 (by decide) (by decide) (by decide) (by decide) (by decide) (by decide) (by decide) (by decide) (by decide)]; exact w7
  have o8 : zdayC μ 8 = zdM3 ν t c nc 44 := by rw [kC 8 (by decide) (by decide), kC' 44 (by decide) (by decide), kB 8 (by decide) (by decide) (by decide) (by decide) (by decide), kB' 44 (by decide) (by decide) (by decide) (by decide) (by decide) (by decide) (by decide) (by decide) (by decide)]; exact w8
  have o9 : zdayC μ 9 = zdM3 ν t c nc 45 := by rw [kC 9 (by decide) (by decide), kC' 45 (by decide) (by decide)]; exact v9
  have o10 : zdayC μ 10 = zdM3 ν t c nc 46 := by rw [kC 10 (by decide) (by decide), kC' 46 (by decide) (by decide)]; exact v10
  have hrC : zr2 (zdayC μ) (zdM3 ν t c nc) := fun k hk d d1 d5 => by
    rw [kC (22 + k) (by omega) (by omega), kC' 48 (by decide) (by decide), kB (22 + k) (by omega) (by omega) (by omega) (by omega) (by omega), kB' 48 (by decide) (by decide) (by decide) (by decide) (by decide) (by decide) (by decide) (by decide) (by decide)]
    exact hr k hk d d1 d5
  have hrD := zmes_2 (t := t + 1) (by omega) ht r6 o7 o8 o9 o10 hrC n X7
  have D4 : zitr (zlkM (t + 1)) n (zdM3 ν t c nc) = zdM4 ν t c nc n := rfl
  rw [← dD, D4] at hrD
  have c10 : ∀ i, zbn (zdayC μ 10 i) 1536 := fun i => by
    rw [kC 10 (by decide) (by decide)]
    obtain ⟨B, z1, z2⟩ := hB1.2.2.2 i
    exact z1.le (by omega)
  have rbD := zmes_b (C := zdayC μ) (t := t + 1) (fun i => (rb6 i).1.le (by omega)) (fun i => by rw [kC 9 (by decide) (by decide)]; exact hB1.2.2.1 i) c10 (fun k hk d => by rw [kC (22 + k) (by omega) (by omega), kB (22 + k) (by omega) (by omega) (by omega) (by omega) (by omega)]; exact b3 k hk d) n X7
  rw [← dD] at rbD
  -- side by side
  have oD : ∀ k, k < 8 → ∀ q, q ≤ 500 → zdayD μ (30 + k) q = zof (zdM4 ν t c nc n) k q (zdM4 ν t c nc n 53 k).toNatClampNeg := fun k hk q hq => by
    rw [gX (30 + k) (by omega) (by omega) (by omega) (by omega) (by omega) (by omega) (by omega), zof_cg (fun b hb => gM b (by omega) (by omega) (by omega) (by omega) (by omega) (by omega) (by omega) (by omega) (by omega) (by omega) (by omega)), gM 53 (by decide) (by decide) (by decide) (by decide) (by decide) (by decide) (by decide) (by decide) (by decide) (by decide) (by decide)]
    exact ho k hk q hq
  have wX : ∀ b, b ≠ 0 → zday μ b = zdayD μ b := fun b hb => by rw [dY]; exact zu_n _ _ _ hb
  have wM : ∀ b, b ≠ 57 → zdM ν t c nc n b = zdM4 ν t c nc n b := fun b hb => by unfold zdM; exact zu_n _ _ _ hb
  have q63 : ∀ j, j ≠ 6 → j ≠ 0 → zday μ 63 j = μ 63 j := fun j a b => by rw [wX 63 (by decide)]; exact zday_63 HX a b
  have p63 : ∀ j, j ≠ 14 → j ≠ 11 → zdM ν t c nc n 63 j = ν 63 j := fun j a b => by rw [wM 63 (by decide), kD' 63 (by decide), kC' 63 (by decide) (by decide)]; exact zdM2_63 ν t c a b
  have hWD : zW2 (zdayD μ) (zdM4 ν t c nc n) := by
    have gx : ∀ b b', b ≠ 2 → b ≠ 5 → b ≠ 9 → b ≠ 10 → b ≠ 63 → b ≠ 6 → (b < 22 ∨ 29 < b) → b' ≠ 38 → b' ≠ 40 → b' ≠ 45 → b' ≠ 46 → b' ≠ 49 → b' ≠ 50 → b' ≠ 51 → b' ≠ 52 → b' ≠ 63 → b' ≠ 41 → b' ≠ 48 → μ b = ν b' → zdayD μ b = zdM4 ν t c nc n b' := fun b b' q1 q2 q3 q4 q5 q6 q7 p1 p2 p3 p4 p5 p6 p7 p8 p9 p10 p11 e => by rw [gX b q1 q2 q3 q4 q5 q6 q7, gM b' p1 p2 p3 p4 p5 p6 p7 p8 p9 p10 p11]; exact e
    have D : True := trivial
    refine ⟨?_, ?_, ?_, ?_, ?_, ?_, ?_, ?_, ?_, ?_, ?_, ?_, ?_⟩
    · rw [kD 2 (by decide), kD' 38 (by decide)]; exact r2
    · exact gx 3 39 (by decide) (by decide) (by decide) (by decide) (by decide) (by decide) (by decide) (by decide) (by decide) (by decide) (by decide) (by decide) (by decide) (by decide) (by decide) (by decide) (by decide) (by decide) w3
    · rw [kD 5 (by decide), kD' 40 (by decide), kC 5 (by decide) (by decide), kC' 40 (by decide) (by decide)]; exact v5
    · rw [kD 6 (by decide), kD' 41 (by decide)]; exact r6
    · exact gx 4 42 (by decide) (by decide) (by decide) (by decide) (by decide) (by decide) (by decide) (by decide) (by decide) (by decide) (by decide) (by decide) (by decide) (by decide) (by decide) (by decide) (by decide) (by decide) w4
    · rw [kD 7 (by decide), kD' 43 (by decide)]; exact o7
    · rw [kD 8 (by decide), kD' 44 (by decide)]; exact o8
    · rw [kD 9 (by decide), kD' 45 (by decide)]; exact o9
    · rw [kD 10 (by decide), kD' 46 (by decide)]; exact o10
    · exact gx 11 47 (by decide) (by decide) (by decide) (by decide) (by decide) (by decide) (by decide) (by decide) (by decide) (by decide) (by decide) (by decide) (by decide) (by decide) (by decide) (by decide) (by decide) (by decide) w11
    · exact gx 12 53 (by decide) (by decide) (by decide) (by decide) (by decide) (by decide) (by decide) (by decide) (by decide) (by decide) (by decide) (by decide) (by decide) (by decide) (by decide) (by decide) (by decide) (by decide) w12
    · exact gx 0 57 (by decide) (by decide) (by decide) (by decide) (by decide) (by decide) (by decide) (by decide) (by decide) (by decide) (by decide) (by decide) (by decide) (by decide) (by decide) (by decide) (by decide) (by decide) w0
    · exact gx 1 58 (by decide) (by decide) (by decide) (by decide) (by decide) (by decide) (by decide) (by decide) (by decide) (by decide) (by decide) (by decide) (by decide) (by decide) (by decide) (by decide) (by decide) (by decide) w1
  have HXD : zCI (zdayD μ) (t + 1) c8 nc n := HX'.cg (fun b hb h => (wX b h).symm) (fun j hj => by rw [wX 63 (by decide)])
  have HMD : zMI (zdM4 ν t c nc n) (t + 1) (zlft c (zdM1 ν t)) nc n := HM'.cg (fun b hb h h2 => (wM b h2).symm) (fun j a b => by rw [wM 63 (by decide)])
  have e13 : zday μ 13 = zdayB μ 13 := by rw [wX 13 (by decide), kD 13 (by decide), kC 13 (by decide) (by decide)]
  have e63 : zday μ 63 = zdayB μ 63 := by rw [wX 63 (by decide), kD 63 (by decide), kC 63 (by decide) (by decide)]
  have m63 : zdM ν t c nc n 63 = zdM2 ν t c 63 := by rw [wM 63 (by decide), kD' 63 (by decide), kC' 63 (by decide) (by decide)]
  have mE : ∀ b, b ≠ 38 → b ≠ 41 → b ≠ 48 → b ≠ 57 → zdM ν t c nc n b = zdM2 ν t c b := fun b q1 q2 q3 q4 => by rw [wM b q4, kD' b q3]; exact kC' b q1 q2
  rw [D2] at hE1
  obtain ⟨E1, E2, E3, E4, E5, E6⟩ := hE1
  have hc8 : c8 = zlft c (zdM1 ν t) := by
    have a := HX'.2.2.1.1
    have b := HX'.2.2.1.2.1
    rw [e63, E1] at a
    exact ((nI_eq (by omega) (by omega)).mp a).symm
  subst hc8
  have mm : zmeanM (zdM4 ν t c nc n) (t + 1) n nc = zmean (zdayD μ) (t + 1) n := by
    have hX2 := HXD
    exact zmean_2 hX2 HMD hWD hrD oD (by omega) (Nat.le_refl _)
  refine ⟨HX', HM', ?_, ?_, ?_, ?_, ?_, ?_⟩
  · obtain ⟨y1, y2, y3, y4, y5, y6, y7, y8, y9, y10, y11, y12, y13⟩ := hWD
    unfold zW2
    rw [wX 2 (by decide), wX 3 (by decide), wX 5 (by decide), wX 6 (by decide), wX 4 (by decide), wX 7 (by decide), wX 8 (by decide), wX 9 (by decide), wX 10 (by decide), wX 11 (by decide), wX 12 (by decide), wX 1 (by decide), wM 38 (by decide), wM 39 (by decide), wM 40 (by decide), wM 41 (by decide), wM 42 (by decide), wM 43 (by decide), wM 44 (by decide), wM 45 (by decide), wM 46 (by decide), wM 47 (by decide), wM 53 (by decide), wM 58 (by decide)]
    refine ⟨y1, y2, y3, y4, y5, y6, y7, y8, y9, y10, y11, ?_, y13⟩
    rw [dY]
    unfold zdM
    rw [zu_s, zu_s, y12]
    unfold zste zstM
    rw [mm, w0, zday_63 HX (by decide) (by decide), s2]
    rw [show zdM4 ν t c nc n 63 16 = ν 63 16 from by rw [← wM 63 (by decide)]; exact p63 16 (by decide) (by decide)]
  · exact ⟨by rw [q63 1 (by decide) (by decide), p63 15 (by decide) (by decide)]; exact s1, by rw [q63 2 (by decide) (by decide), p63 16 (by decide) (by decide)]; exact s2, by rw [q63 3 (by decide) (by decide), p63 17 (by decide) (by decide)]; exact s3⟩
  · intro k hk d d1 d5
    rw [wX (22 + k) (by omega), wM 48 (by decide)]
    exact hrD k hk d d1 d5
  · intro k hk q hq
    rw [wX (30 + k) (by omega), wM 53 (by decide), zof_cg (fun b hb => wM b (by omega))]
    exact oD k hk q hq
  · refine ⟨by rw [e63]; exact E1, by rw [m63]; exact E2, E3, ?_, fun i j a b => by rw [e13]; exact E5 i j a b, fun j hj => ?_⟩
    · rw [e13, show zec (zdM ν t c nc n) = zec (zdM2 ν t c) from by funext j; unfold zec; rw [mE 49 (by decide) (by decide) (by decide) (by decide), mE 50 (by decide) (by decide) (by decide) (by decide), mE 51 (by decide) (by decide) (by decide) (by decide), mE 52 (by decide) (by decide) (by decide) (by decide)]]
      exact E4
    · unfold zevV
      rw [mE 49 (by decide) (by decide) (by decide) (by decide), mE 50 (by decide) (by decide) (by decide) (by decide), mE 51 (by decide) (by decide) (by decide) (by decide), mE 52 (by decide) (by decide) (by decide) (by decide)]
      exact E6 j hj
  · refine ⟨fun i => by rw [wX 6 (by decide), kD 6 (by decide)]; exact (rb6 i).1, ⟨fun i => by rw [wX 2 (by decide), kD 2 (by decide)]; exact rb2 i, fun i => by rw [wX 5 (by decide), kD 5 (by decide), kC 5 (by decide) (by decide)]; exact hB1.2.1 i, fun i => by rw [wX 9 (by decide), kD 9 (by decide), kC 9 (by decide) (by decide)]; exact hB1.2.2.1 i, fun i => by rw [wX 10 (by decide), kD 10 (by decide), kC 10 (by decide) (by decide)]; exact hB1.2.2.2 i⟩, fun k hk d => by rw [wX (22 + k) (by omega)]; exact rbD k hk d, fun i => by rw [wM 56 (by decide), gM 56 (by decide) (by decide) (by decide) (by decide) (by decide) (by decide) (by decide) (by decide) (by decide) (by decide) (by decide)]; exact b4 i, by rw [q63 1 (by decide) (by decide)]; exact b5, b6⟩
