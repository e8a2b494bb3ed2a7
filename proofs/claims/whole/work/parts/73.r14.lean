/-! ===== the relation kept, call by call ===== -/
theorem zER.cg {μ ν ρ σ : zM} {T c : Nat} (h13 : ρ 13 = μ 13) (h6 : ρ 63 6 = μ 63 6) (hm : ∀ b, 49 ≤ b → b ≤ 52 → σ b = ν b) (h14 : σ 63 14 = ν 63 14) (h : zER μ ν T c) : zER ρ σ T c := by
  obtain ⟨E1, E2, E3, E4, E5, E6⟩ := h
  have z : zec σ = zec ν := by funext j; unfold zec; rw [hm 49 (by decide) (by decide), hm 50 (by decide) (by decide), hm 51 (by decide) (by decide), hm 52 (by decide) (by decide)]
  refine ⟨h6.trans E1, h14.trans E2, E3, by rw [h13, z]; exact E4, fun i j a b => by rw [h13]; exact E5 i j a b, fun j hj => ?_⟩
  unfold zevV
  rw [hm 49 (by decide) (by decide), hm 50 (by decide) (by decide), hm 51 (by decide) (by decide), hm 52 (by decide) (by decide)]
  exact E6 j hj
theorem zEM.cg {μ ν : zM} {c : Nat} (hm : ∀ b, 49 ≤ b → b ≤ 52 → ν b = μ b) (h14 : ν 63 14 = μ 63 14) (h : zEM μ c) : zEM ν c :=
  ⟨h14.trans h.1, h.2.1, fun j hj => by unfold zevM; rw [hm 51 (by decide) (by decide), hm 50 (by decide) (by decide)]; exact h.2.2 j hj⟩
theorem zAg.cg {μ ν : zM} {c : Nat} (h13 : ν 13 = μ 13) (h6 : ν 63 6 = μ 63 6) (h : zAg μ c) : zAg ν c :=
  ⟨h6.trans h.1, h.2.1, fun j hj => by rw [h13]; exact h.2.2 j hj⟩
theorem zR2.cg {μ ν ρ σ : zM} {t c nc n A : Nat} (hX : ∀ b, (b < 14 ∨ (21 < b ∧ b < 38)) → ρ b = μ b) (h63 : ∀ j, j < 7 → ρ 63 j = μ 63 j) (hM : ∀ b, 38 ≤ b → b ≤ 58 → σ b = ν b) (m63 : ∀ j, 11 ≤ j → j ≤ 17 → σ 63 j = ν 63 j) (h : zR2 μ ν t c nc n A) : zR2 ρ σ t c nc n A := by
  obtain ⟨HX, HM, hW, hS, hr, ho, hE, hB⟩ := h
  obtain ⟨X1, X2, X3, X4, X5, X6, X7, X8, X9⟩ := HX
  obtain ⟨M1, M2, M3, M4, M5, M6, M7, M8, M9⟩ := HM
  refine ⟨⟨(h63 0 (by decide)).trans X1, X2, X3.cg (hX 13 (by decide)) (h63 6 (by decide)), (h63 4 (by decide)).trans X4, X5, (h63 5 (by decide)).trans X6, X7, X8.cg (hX 7 (by decide)) (hX 8 (by decide)), by rw [h63 2 (by decide)]; exact X9⟩, ?_, ?_, ?_, ?_, ?_, ?_, ?_⟩
  · refine ⟨(m63 11 (by decide) (by decide)).trans M1, M2, M3.cg (fun b a c => hM b (by omega) (by omega)) (m63 14 (by decide) (by decide)), (m63 12 (by decide) (by decide)).trans M4, M5, (m63 13 (by decide) (by decide)).trans M6, M7, fun j hj => ?_, fun k hk => ?_⟩
    · rw [hM 43 (by decide) (by decide), hM 44 (by decide) (by decide)]; exact M8 j hj
    · rw [hM 53 (by decide) (by decide)]; exact M9 k hk
  · unfold zW2
    rw [hX 2 (by decide), hX 3 (by decide), hX 5 (by decide), hX 6 (by decide), hX 4 (by decide), hX 7 (by decide), hX 8 (by decide), hX 9 (by decide), hX 10 (by decide), hX 11 (by decide), hX 12 (by decide), hX 0 (by decide), hX 1 (by decide), hM 38 (by decide) (by decide), hM 39 (by decide) (by decide), hM 40 (by decide) (by decide), hM 41 (by decide) (by decide), hM 42 (by decide) (by decide), hM 43 (by decide) (by decide), hM 44 (by decide) (by decide), hM 45 (by decide) (by decide), hM 46 (by decide) (by decide), hM 47 (by decide) (by decide), hM 53 (by decide) (by decide), hM 57 (by decide) (by decide), hM 58 (by decide) (by decide)]
    exact hW
  · unfold zS2
    rw [h63 1 (by decide), h63 2 (by decide), h63 3 (by decide), m63 15 (by decide) (by decide), m63 16 (by decide) (by decide), m63 17 (by decide) (by decide)]
    exact hS
  · intro k hk d d1 d5
    rw [hX (22 + k) (by omega), hM 48 (by decide) (by decide)]; exact hr k hk d d1 d5
  · intro k hk q hq
    rw [hX (30 + k) (by omega), hM 53 (by decide) (by decide), zof_cg (fun b hb => hM b (by omega) (by omega))]; exact ho k hk q hq
  · exact hE.cg (hX 13 (by decide)) (h63 6 (by decide)) (fun b a c => hM b (by omega) (by omega)) (m63 14 (by decide) (by decide))
  · obtain ⟨b1, b2, b3, b4, b5, b6⟩ := hB
    refine ⟨by rw [hX 6 (by decide)]; exact b1, ?_, fun k hk d => by rw [hX (22 + k) (by omega)]; exact b3 k hk d, by rw [hM 56 (by decide) (by decide)]; exact b4, by rw [h63 1 (by decide)]; exact b5, b6⟩
    unfold zBe
    rw [hX 2 (by decide), hX 5 (by decide), hX 9 (by decide), hX 10 (by decide)]
    exact b2
theorem zbn_r {x lo hi : Int32} {a b : Int} {B : Nat} (h1 : lo ≤ x) (h2 : x ≤ hi) (e1 : lo.toInt = a) (e2 : hi.toInt = b) (ha : -(B : Int) ≤ a) (hb : b ≤ (B : Int)) : zbn x B := by
  rw [zle2] at h1 h2; unfold zbn; omega
section
variable {μ κ : zM} {t c nc n A : Nat}
theorem zR2.clock {a b : Int32} (h : zR2 μ μ t c nc n A) (hnc : nc < 6) (ha : -500 ≤ a ∧ a ≤ 500) (hb : 0 ≤ b ∧ b ≤ 5000)
    (k2 : κ 2 = upd (μ 2) nc a) (k5 : κ 5 = upd (μ 5) nc b) (k4 : κ 4 = upd (μ 4) nc 1) (k38 : κ 38 = upd (μ 38) nc a) (k40 : κ 40 = upd (μ 40) nc b) (k42 : κ 42 = upd (μ 42) nc 1)
    (kX : ∀ b, b < 38 → b ≠ 2 → b ≠ 5 → b ≠ 4 → κ b = μ b) (kM : ∀ b, 38 ≤ b → b ≤ 58 → b ≠ 38 → b ≠ 40 → b ≠ 42 → κ b = μ b)
    (k63 : ∀ j, j ≤ 17 → j ≠ 4 → j ≠ 12 → κ 63 j = μ 63 j) (s4 : κ 63 4 = nI (nc + 1)) (s12 : κ 63 12 = nI (nc + 1)) : zR2 κ κ t c (nc + 1) n A := by
  obtain ⟨HX, HM, hW, hS, hr, ho, hE, hB⟩ := h
  obtain ⟨X1, X2, X3, X4, X5, X6, X7, X8, X9⟩ := HX
  obtain ⟨M1, M2, M3, M4, M5, M6, M7, M8, M9⟩ := HM
  obtain ⟨w2, w3, w5, w6, w4, w7, w8, w9, w10, w11, w12, w0, w1⟩ := hW
  have kE : ∀ b, 49 ≤ b → b ≤ 52 → κ b = μ b := fun b p q => kM b (by omega) (by omega) (by omega) (by omega) (by omega)
  refine ⟨⟨(k63 0 (by decide) (by decide) (by decide)).trans X1, X2, X3.cg (kX 13 (by decide) (by decide) (by decide) (by decide)) (k63 6 (by decide) (by decide) (by decide)), s4, by omega, (k63 5 (by decide) (by decide) (by decide)).trans X6, X7, fun j hj => ?_, by rw [k63 2 (by decide) (by decide) (by decide)]; exact X9⟩, ?_, ?_, ?_, ?_, ?_, ?_, ?_⟩
  · rw [kX 7 (by decide) (by decide) (by decide) (by decide), kX 8 (by decide) (by decide) (by decide) (by decide)]
    obtain ⟨x, y, p1, p2, p3⟩ := X8 j hj
    exact ⟨x, y, by omega, by omega, p3⟩
  · refine ⟨(k63 11 (by decide) (by decide) (by decide)).trans M1, M2, M3.cg kE (k63 14 (by decide) (by decide) (by decide)), s12, by omega, (k63 13 (by decide) (by decide) (by decide)).trans M6, M7, fun j hj => ?_, fun k hk => ?_⟩
    · rw [kM 43 (by decide) (by decide) (by decide) (by decide) (by decide), kM 44 (by decide) (by decide) (by decide) (by decide) (by decide)]
      obtain ⟨x, y, p1, p2, p3⟩ := M8 j hj
      exact ⟨x, y, by omega, by omega, p3⟩
    · rw [kM 53 (by decide) (by decide) (by decide) (by decide) (by decide)]; exact M9 k hk
  · have g : ∀ b b', b < 38 → b ≠ 2 → b ≠ 5 → b ≠ 4 → 38 ≤ b' → b' ≤ 58 → b' ≠ 38 → b' ≠ 40 → b' ≠ 42 → μ b = μ b' → κ b = κ b' := fun b b' p1 p2 p3 p4 q1 q2 q3 q4 q5 e => by rw [kX b p1 p2 p3 p4, kM b' q1 q2 q3 q4 q5]; exact e
    exact ⟨by rw [k2, k38, w2], g 3 39 (by decide) (by decide) (by decide) (by decide) (by decide) (by decide) (by decide) (by decide) (by decide) w3, by rw [k5, k40, w5], g 6 41 (by decide) (by decide) (by decide) (by decide) (by decide) (by decide) (by decide) (by decide) (by decide) w6, by rw [k4, k42, w4], g 7 43 (by decide) (by decide) (by decide) (by decide) (by decide) (by decide) (by decide) (by decide) (by decide) w7, g 8 44 (by decide) (by decide) (by decide) (by decide) (by decide) (by decide) (by decide) (by decide) (by decide) w8, g 9 45 (by decide) (by decide) (by decide) (by decide) (by decide) (by decide) (by decide) (by decide) (by decide) w9, g 10 46 (by decide) (by decide) (by decide) (by decide) (by decide) (by decide) (by decide) (by decide) (by decide) w10, g 11 47 (by decide) (by decide) (by decide) (by decide) (by decide) (by decide) (by decide) (by decide) (by decide) w11, g 12 53 (by decide) (by decide) (by decide) (by decide) (by decide) (by decide) (by decide) (by decide) (by decide) w12, g 0 57 (by decide) (by decide) (by decide) (by decide) (by decide) (by decide) (by decide) (by decide) (by decide) w0, g 1 58 (by decide) (by decide) (by decide) (by decide) (by decide) (by decide) (by decide) (by decide) (by decide) w1⟩
  · unfold zS2
    rw [k63 1 (by decide) (by decide) (by decide), k63 2 (by decide) (by decide) (by decide), k63 3 (by decide) (by decide) (by decide), k63 15 (by decide) (by decide) (by decide), k63 16 (by decide) (by decide) (by decide), k63 17 (by decide) (by decide) (by decide)]
    exact hS
  · intro k hk d d1 d5
    rw [kX (22 + k) (by omega) (by omega) (by omega) (by omega), kM 48 (by decide) (by decide) (by decide) (by decide) (by decide)]; exact hr k hk d d1 d5
  · intro k hk q hq
    rw [kX (30 + k) (by omega) (by omega) (by omega) (by omega), kM 53 (by decide) (by decide) (by decide) (by decide) (by decide), zof_cg (fun b hb => kM b (by omega) (by omega) (by omega) (by omega) (by omega))]; exact ho k hk q hq
  · exact hE.cg (kX 13 (by decide) (by decide) (by decide) (by decide)) (k63 6 (by decide) (by decide) (by decide)) kE (k63 14 (by decide) (by decide) (by decide))
  · obtain ⟨b1, b2, b3, b4, b5, b6⟩ := hB
    refine ⟨by rw [kX 6 (by decide) (by decide) (by decide) (by decide)]; exact b1, ⟨by rw [k2]; exact zbn_u b2.1 (zbn_r ha.1 ha.2 rfl rfl (by decide) (by decide)), by rw [k5]; exact zbn_u b2.2.1 (zbn_r hb.1 hb.2 rfl rfl (by decide) (by decide)), by rw [kX 9 (by decide) (by decide) (by decide) (by decide)]; exact b2.2.2.1, by rw [kX 10 (by decide) (by decide) (by decide) (by decide)]; exact b2.2.2.2⟩, fun k hk d => by rw [kX (22 + k) (by omega) (by omega) (by omega) (by omega)]; exact b3 k hk d, by rw [kM 56 (by decide) (by decide) (by decide) (by decide) (by decide)]; exact b4, by rw [k63 1 (by decide) (by decide) (by decide)]; exact b5, b6⟩
end
