/-! ===== a day ===== -/
theorem zoth_c {μ : zM} {nc n i : Nat} (h : zcl μ nc n) (hi : i < n) : zoth μ i = -1 ∨ ∃ a, a < nc ∧ zoth μ i = nI a := by
  obtain ⟨a, b, ha, hb, hab, ea, eb⟩ := h i hi
  unfold zoth
  split
  · exact Or.inr ⟨b, hb, eb⟩
  · split
    · exact Or.inr ⟨a, ha, ea⟩
    · exact Or.inl rfl
/-- the class's state: t days, c events, nc clocks, n links -/
def zCI (μ : zM) (t c nc n : Nat) : Prop :=
  μ 63 0 = nI t ∧ t ≤ 500 ∧ zAg μ c ∧ μ 63 4 = nI nc ∧ nc ≤ 6 ∧ μ 63 5 = nI n ∧ n ≤ 8 ∧ zcl μ nc n ∧ 0 ≤ μ 63 2
def zdayA (μ : zM) : zM := zu μ 63 0 (nI ((μ 63 0).toNatClampNeg + 1))
def zdayB (μ : zM) : zM := zevs (nI ((μ 63 0).toNatClampNeg + 1)) (μ 63 6).toNatClampNeg (zdayA μ)
def zdayC (μ : zM) : zM := zitr (zrunS (nI ((μ 63 0).toNatClampNeg + 1))) (μ 63 4).toNatClampNeg (zdayB μ)
def zdayD (μ : zM) : zM := zitr (zmeaS ((μ 63 0).toNatClampNeg + 1)) (μ 63 5).toNatClampNeg (zdayC μ)
def zday (μ : zM) : zM := zu (zdayD μ) 0 ((μ 63 0).toNatClampNeg + 1) (zste (zdayD μ) (μ 0 (μ 63 0).toNatClampNeg) ((μ 63 0).toNatClampNeg + 1) (μ 63 5).toNatClampNeg)
theorem zAg.step {μ : zM} {c : Nat} (h : zAg μ (c + 1)) (e : Int32) : zAg (zhap (zu μ 63 6 (nI c)) e) c := by
  refine ⟨?_, by have := h.2.1; omega, fun j hj => ?_⟩
  · rw [zhap_k _ _ (by decide) (by decide) (by decide) (by decide), zu_s, upd_s]
  · rw [zhap_k _ _ (by decide) (by decide) (by decide) (by decide), zu_n _ _ _ (by decide)]
    exact h.2.2 j (by omega)
theorem zcl.cg {μ ν : zM} {nc n : Nat} (h : zcl μ nc n) (h7 : ν 7 = μ 7) (h8 : ν 8 = μ 8) : zcl ν nc n := by
  unfold zcl; rw [h7, h8]; exact h
theorem zday_63 {μ : zM} {t c nc n : Nat} (h : zCI μ t c nc n) {j : Nat} (hj : j ≠ 6) (h0 : j ≠ 0) : zdayD μ 63 j = μ 63 j := by
  obtain ⟨h1, h2, h3, h4, h5, h6, h7, h8, h9⟩ := h
  unfold zdayD
  rw [zitr_b (fun i ν hi => zmeaS_k _ i ν (by omega) (by rw [h6, nI_clamp (by omega)] at hi; omega))]
  unfold zdayC
  rw [zitr_k (fun i ν => zrunS_k _ i ν (by decide) (by decide))]
  unfold zdayB
  rw [zevs_63 _ hj]
  unfold zdayA
  rw [zu_s, upd_n _ _ h0]
theorem zday_k {μ : zM} {t c nc n : Nat} (h : zCI μ t c nc n) {b : Nat} (h63 : b ≠ 63) (h2 : b ≠ 2) (h5 : b ≠ 5) (h6 : b ≠ 6) (h9 : b ≠ 9) (h10 : b ≠ 10) (hb : b < 22 ∨ 62 < b) : zdayD μ b = μ b := by
  obtain ⟨g1, g2, g3, g4, g5, g6, g7, g8, g9⟩ := h
  unfold zdayD
  rw [zitr_b (fun i ν hi => zmeaS_k _ i ν hb (by rw [g6, nI_clamp (by omega)] at hi; omega))]
  unfold zdayC
  rw [zitr_k (fun i ν => zrunS_k _ i ν h6 h2)]
  unfold zdayB
  rw [zevs_k _ h2 h5 h9 h10 h63]
  unfold zdayA
  rw [zu_n _ _ _ h63]
theorem zCI.day {μ : zM} {t c nc n : Nat} (h : zCI μ t c nc n) (ht : t < 500) : ∃ c', zCI (zday μ) (t + 1) c' nc n := by
  have h0 := h
  obtain ⟨h1, h2, h3, h4, h5, h6, h7, h8, h9⟩ := h
  have e63 : ∀ j, j ≠ 6 → j ≠ 0 → zday μ 63 j = μ 63 j := fun j a b => by unfold zday; rw [zu_n _ _ _ (by decide)]; exact zday_63 h0 a b
  have ek : ∀ b, b ≠ 63 → b ≠ 0 → b ≠ 2 → b ≠ 5 → b ≠ 6 → b ≠ 9 → b ≠ 10 → (b < 22 ∨ 62 < b) → zday μ b = μ b := fun b a0 a1 a2 a3 a4 a5 a6 a7 => by unfold zday; rw [zu_n _ _ _ a1]; exact zday_k h0 a0 a2 a3 a4 a5 a6 a7
  have hA : zAg (zdayA μ) c := by
    unfold zdayA
    refine ⟨by rw [zu_s, upd_n _ _ (by decide)]; exact h3.1, h3.2.1, fun j hj => by rw [zu_n _ _ _ (by decide)]; exact h3.2.2 j hj⟩
  obtain ⟨c', hB⟩ := zAg.evs (T := nI ((μ 63 0).toNatClampNeg + 1)) (μ 63 6).toNatClampNeg hA
  have eB : ∀ b, (b = 13 ∨ b = 63) → zday μ b = zdayB μ b := fun b hb => by
    unfold zday
    rw [zu_n _ _ _ (by omega)]
    unfold zdayD
    rw [zitr_b (fun i ν hi => zmeaS_k _ i ν (by omega) (by rw [h6, nI_clamp (by omega)] at hi; omega))]
    unfold zdayC
    rw [zitr_k (fun i ν => zrunS_k _ i ν (by omega) (by omega))]
  refine ⟨c', ?_, by omega, ⟨by rw [eB 63 (Or.inr rfl)]; exact hB.1, hB.2.1, by rw [eB 13 (Or.inl rfl)]; exact hB.2.2⟩, by rw [e63 4 (by decide) (by decide)]; exact h4, h5, by rw [e63 5 (by decide) (by decide)]; exact h6, h7, h8.cg (ek 7 (by decide) (by decide) (by decide) (by decide) (by decide) (by decide) (by decide) (by decide)) (ek 8 (by decide) (by decide) (by decide) (by decide) (by decide) (by decide) (by decide) (by decide)), by rw [e63 2 (by decide) (by decide)]; exact h9⟩
  rw [eB 63 (Or.inr rfl)]
  unfold zdayB
  rw [zevs_63 _ (by decide)]
  unfold zdayA
  rw [zu_s, upd_s, h1, nI_clamp (by omega)]
def zpas (f : Nat) (μ : zM) : zM := zitr (fun _ ν => zday ν) f μ
theorem zCI.pas {μ : zM} {t c nc n : Nat} (h : zCI μ t c nc n) : ∀ f, t + f ≤ 500 → ∃ c', zCI (zpas f μ) (t + f) c' nc n
  | 0, _ => ⟨c, h⟩
  | f + 1, hf => by
    obtain ⟨c1, h1⟩ := zCI.pas h f (by omega)
    exact zCI.day h1 (show t + f < 500 by omega)
