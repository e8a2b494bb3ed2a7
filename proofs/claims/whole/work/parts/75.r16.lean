theorem zit_r (r f : Nat) (x : Int32) (μ : zM) : ∀ m q, zitr (fun j μ => zu μ r (f + j) (μ r (f + j) + x)) m μ r q = if f ≤ q ∧ q < f + m then μ r q + x else μ r q
  | 0, q => by rw [if_neg (by omega)]; rfl
  | m + 1, q => by
    rw [zitr_s, zu_s]
    have ih := zit_r r f x μ m
    by_cases e : q = f + m
    · subst e
      rw [upd_s, ih, if_neg (by omega), if_pos (by omega)]
    · rw [upd_n _ _ e, ih]
      by_cases h : f ≤ q ∧ q < f + m
      · rw [if_pos h, if_pos (by omega)]
      · rw [if_neg h, if_neg (by omega)]
theorem zof_lt {μ ν : zM} {k q : Nat} : ∀ g, (∀ j, j < g → ν 54 (10 * k + j) = μ 54 (10 * k + j) ∧ ν 55 (10 * k + j) = μ 55 (10 * k + j) ∧ ν 56 (10 * k + j) = μ 56 (10 * k + j)) → zof ν k q g = zof μ k q g
  | 0, _ => rfl
  | g + 1, h => by
    obtain ⟨a, b, c⟩ := h g (by omega)
    rw [zof, zof, zof_lt g (fun j hj => h j (by omega)), a, b, c]
section
variable {μ κ : zM} {t c nc n A : Nat}
theorem zR2.calibrate {a b x : Int32} {k0 g0 f g : Nat} (h : zR2 μ μ t c nc n A) (hk0 : k0 < 8) (hg0 : g0 < 10) (e53 : μ 53 k0 = nI g0) (ha : a = nI f) (hb : b = nI g) (hfg : f ≤ g) (hg : g ≤ 500) (hx : -10000 ≤ x ∧ x ≤ 10000)
    (k12 : κ 12 = upd (μ 12) k0 (μ 12 k0 + 1)) (k30 : κ (30 + k0) = zitr (fun j μ => zu μ (30 + k0) (f + j) (μ (30 + k0) (f + j) + x)) (g + 1 - f) μ (30 + k0)) (k53 : κ 53 = upd (μ 53) k0 (nI (g0 + 1))) (k54 : κ 54 = upd (μ 54) (10 * k0 + g0) a) (k55 : κ 55 = upd (μ 55) (10 * k0 + g0) b) (k56 : κ 56 = upd (μ 56) (10 * k0 + g0) x)
    (kX : ∀ b, b < 38 → b ≠ 12 → b ≠ 30 + k0 → κ b = μ b) (kM : ∀ b, 38 ≤ b → b ≤ 58 → b ≠ 53 → b ≠ 54 → b ≠ 55 → b ≠ 56 → κ b = μ b)
    (k63 : ∀ j, j ≤ 17 → κ 63 j = μ 63 j) : zR2 κ κ t c nc n A := by
  obtain ⟨HX, HM, hW, hS, hr, ho, hE, hB⟩ := h
  obtain ⟨X1, X2, X3, X4, X5, X6, X7, X8, X9⟩ := HX
  obtain ⟨M1, M2, M3, M4, M5, M6, M7, M8, M9⟩ := HM
  obtain ⟨w2, w3, w5, w6, w4, w7, w8, w9, w10, w11, w12, w0, w1⟩ := hW
  obtain ⟨b1, b2, b3, b4, b5, b6⟩ := hB
  have kE : ∀ b, 49 ≤ b → b ≤ 52 → κ b = μ b := fun b p q => kM b (by omega) (by omega) (by omega) (by omega) (by omega) (by omega)
  have e12k : μ 12 k0 + 1 = nI (g0 + 1) := by rw [w12, e53, nI_1]
  have HX2 : zCI κ t c nc n := ⟨(k63 0 (by omega)).trans X1, X2, X3.cg (kX 13 (by omega) (by omega) (by omega)) (k63 6 (by omega)), (k63 4 (by omega)).trans X4, X5, (k63 5 (by omega)).trans X6, X7, (fun j hj => by rw [kX 7 (by omega) (by omega) (by omega), kX 8 (by omega) (by omega) (by omega)]; exact X8 j hj), by rw [k63 2 (by omega)]; exact X9⟩
  have HM2 : zMI κ t c nc n := ⟨(k63 11 (by omega)).trans M1, M2, M3.cg kE (k63 14 (by omega)), (k63 12 (by omega)).trans M4, M5, (k63 13 (by omega)).trans M6, M7, (fun j hj => by rw [kM 43 (by omega) (by omega) (by omega) (by omega) (by omega) (by omega), kM 44 (by omega) (by omega) (by omega) (by omega) (by omega) (by omega)]; exact M8 j hj), (fun k hk => (by rw [k53]; exact (if e : k = k0 then ⟨g0 + 1, by omega, by rw [e, upd_s]⟩ else by rw [upd_n _ _ e]; exact M9 k hk)))⟩
  have hW2 : zW2 κ κ := ⟨(by rw [kX 2 (by omega) (by omega) (by omega), kM 38 (by omega) (by omega) (by omega) (by omega) (by omega) (by omega)]; exact w2), (by rw [kX 3 (by omega) (by omega) (by omega), kM 39 (by omega) (by omega) (by omega) (by omega) (by omega) (by omega)]; exact w3), (by rw [kX 5 (by omega) (by omega) (by omega), kM 40 (by omega) (by omega) (by omega) (by omega) (by omega) (by omega)]; exact w5), (by rw [kX 6 (by omega) (by omega) (by omega), kM 41 (by omega) (by omega) (by omega) (by omega) (by omega) (by omega)]; exact w6), (by rw [kX 4 (by omega) (by omega) (by omega), kM 42 (by omega) (by omega) (by omega) (by omega) (by omega) (by omega)]; exact w4), (by rw [kX 7 (by omega) (by omega) (by omega), kM 43 (by omega) (by omega) (by omega) (by omega) (by omega) (by omega)]; exact w7), (by rw [kX 8 (by omega) (by omega) (by omega), kM 44 (by omega) (by omega) (by omega) (by omega) (by omega) (by omega)]; exact w8), (by rw [kX 9 (by omega) (by omega) (by omega), kM 45 (by omega) (by omega) (by omega) (by omega) (by omega) (by omega)]; exact w9), (by rw [kX 10 (by omega) (by omega) (by omega), kM 46 (by omega) (by omega) (by omega) (by omega) (by omega) (by omega)]; exact w10), (by rw [kX 11 (by omega) (by omega) (by omega), kM 47 (by omega) (by omega) (by omega) (by omega) (by omega) (by omega)]; exact w11), (by rw [k12, k53, e12k, w12]), (by rw [kX 0 (by omega) (by omega) (by omega), kM 57 (by omega) (by omega) (by omega) (by omega) (by omega) (by omega)]; exact w0), (by rw [kX 1 (by omega) (by omega) (by omega), kM 58 (by omega) (by omega) (by omega) (by omega) (by omega) (by omega)]; exact w1)⟩
  have hS2 : zS2 κ κ := by unfold zS2; rw [k63 1 (by omega), k63 2 (by omega), k63 3 (by omega), k63 15 (by omega), k63 16 (by omega), k63 17 (by omega)]; exact hS
  have hr2 : zr2 κ κ := fun k hk d d1 d5 => by rw [kX (22 + k) (by omega) (by omega) (by omega), kM 48 (by omega) (by omega) (by omega) (by omega) (by omega) (by omega)]; exact hr k hk d d1 d5
  have ho2 : zo2 κ κ := fun k hk q hq => by
    obtain ⟨gk, h10, ek⟩ := M9 k hk
    have hg9 : gk < 10 ∨ k ≠ k0 := by
      by_cases e : k = k0
      · subst e; rw [e53] at ek; have := (nI_eq (by omega) (by omega)).mp ek; omega
      · exact Or.inr e
    by_cases e : k = k0
    · subst e
      rw [k30, zit_r, ho k hk q hq, k53, upd_s, e53, nI_clamp (by omega), nI_clamp (by omega), zof]
      rw [zof_lt (μ := μ) (ν := κ) g0 (fun j hj => by rw [k54, k55, k56, upd_n _ _ (by omega), upd_n _ _ (by omega), upd_n _ _ (by omega)]; exact ⟨rfl, rfl, rfl⟩)]
      rw [k54, k55, k56, upd_s, upd_s, upd_s, ha, hb]
      by_cases h : f ≤ q ∧ q ≤ g
      · rw [if_pos (by omega), if_pos ⟨nI_le h.1 (by omega), nI_le h.2 (by omega)⟩]
      · rw [if_neg (by omega), if_neg (fun z => h ⟨by have := z.1; rw [nI_leI (by omega) (by omega)] at this; exact this, by have := z.2; rw [nI_leI (by omega) (by omega)] at this; exact this⟩), Int32.add_zero]
    · rw [kX (30 + k) (by omega) (by omega) (by omega), ho k hk q hq, k53, upd_n _ _ e, ek, nI_clamp (by omega)]
      exact (zof_lt (μ := μ) (ν := κ) gk (fun j hj => by rw [k54, k55, k56, upd_n _ _ (by omega), upd_n _ _ (by omega), upd_n _ _ (by omega)]; exact ⟨rfl, rfl, rfl⟩)).symm
  have hE2 : zER κ κ (t + 1) c := hE.cg (kX 13 (by omega) (by omega) (by omega)) (k63 6 (by omega)) kE (k63 14 (by omega))
  exact ⟨HX2, HM2, hW2, hS2, hr2, ho2, hE2, (by rw [kX 6 (by omega) (by omega) (by omega)]; exact b1), ⟨(by rw [kX 2 (by omega) (by omega) (by omega)]; exact b2.1), (by rw [kX 5 (by omega) (by omega) (by omega)]; exact b2.2.1), (by rw [kX 9 (by omega) (by omega) (by omega)]; exact b2.2.2.1), (by rw [kX 10 (by omega) (by omega) (by omega)]; exact b2.2.2.2)⟩, (fun k hk d => by rw [kX (22 + k) (by omega) (by omega) (by omega)]; exact b3 k hk d), (by rw [k56]; exact zbn_u b4 (zbn_r hx.1 hx.2 rfl rfl (by decide) (by decide))), (by rw [k63 1 (by omega)]; exact b5), b6⟩
theorem zday_k2 {μ : zM} {t c nc n : Nat} (h : zCI μ t c nc n) {b : Nat} (hb : 30 ≤ b) (h63 : b ≠ 63) : zday μ b = μ b := by
  obtain ⟨g1, g2, g3, g4, g5, g6, g7, g8, g9⟩ := h
  unfold zday
  rw [zu_n _ _ _ (by omega)]
  unfold zdayD
  rw [zitr_b (f := zmeaS ((μ 63 0).toNatClampNeg + 1)) (b := b) (fun i ν hi => zu_n _ _ _ (by rw [g6, nI_clamp (by omega)] at hi; omega))]
  unfold zdayC
  rw [zitr_k (fun i ν => zrunS_k _ i ν (by omega) (by omega))]
  unfold zdayB
  rw [zevs_k _ (by omega) (by omega) (by omega) (by omega) h63]
  unfold zdayA
  exact zu_n _ _ _ h63
theorem zday_j {μ : zM} {t c nc n : Nat} (h : zCI μ t c nc n) {j : Nat} (h6 : j ≠ 6) (h0 : j ≠ 0) : zday μ 63 j = μ 63 j := by
  unfold zday
  rw [zu_n _ _ _ (by decide)]
  exact zday_63 h h6 h0
theorem zdM_k (ν : zM) (t c nc n : Nat) {b : Nat} (hb : b < 38) : zdM ν t c nc n b = ν b := by
  unfold zdM
  rw [zu_n _ _ _ (by omega)]
  exact zdM4_k ν t c nc n (by omega) (by omega) (by omega) (by omega) (by omega) (by omega) (by omega) (by omega) (by omega) (by omega) (by omega)
theorem zdM_j (ν : zM) (t c nc n : Nat) {j : Nat} (h14 : j ≠ 14) (h11 : j ≠ 11) : zdM ν t c nc n 63 j = ν 63 j := by
  unfold zdM
  rw [zu_n _ _ _ (by decide), zdM4_r _ _ _ _ _ (by decide) (by decide) (by decide)]
  exact zdM2_63 ν t c h14 h11
theorem zpas_k {μ : zM} {t c nc n : Nat} (h : zCI μ t c nc n) : ∀ f, t + f ≤ 500 → (∀ b, 30 ≤ b → b ≠ 63 → zpas f μ b = μ b) ∧ ∀ j, j ≠ 6 → j ≠ 0 → zpas f μ 63 j = μ 63 j
  | 0, _ => ⟨fun _ _ _ => rfl, fun _ _ _ => rfl⟩
  | f + 1, hf => by
    obtain ⟨a, b⟩ := zpas_k h f (by omega)
    obtain ⟨c', hc⟩ := h.pas f (by omega)
    exact ⟨fun r h1 h2 => (zday_k2 hc h1 h2).trans (a r h1 h2), fun j h1 h2 => (zday_j hc h1 h2).trans (b j h1 h2)⟩
theorem zpsM_k (nc n : Nat) (ν : zM) (t c : Nat) : ∀ f, (∀ b, b < 38 → (zpsM nc n ν t c f).1 b = ν b) ∧ ∀ j, j ≠ 14 → j ≠ 11 → (zpsM nc n ν t c f).1 63 j = ν 63 j
  | 0 => ⟨fun _ _ => rfl, fun _ _ _ => rfl⟩
  | f + 1 => by
    obtain ⟨a, b⟩ := zpsM_k nc n ν t c f
    exact ⟨fun r h => (zdM_k _ _ _ _ _ h).trans (a r h), fun j h1 h2 => (zdM_j _ _ _ _ _ h1 h2).trans (b j h1 h2)⟩
theorem zR2.days {ν : zM} (h : zR2 μ ν t c nc n A) : ∀ f, t + f ≤ 500 → zR2 (zpas f μ) (zpsM nc n ν t c f).1 (t + f) (zpsM nc n ν t c f).2 nc n A
  | 0, _ => h
  | f + 1, hf => (zR2.days h f (by omega)).day (by omega)
/-- both pass f days -/
theorem zR2.pass (h : zR2 μ μ t c nc n A) {f : Nat} (hf : t + f ≤ 500) : zR2 (zpsM nc n (zu (zpas f μ) 63 19 0) t c f).1 (zpsM nc n (zu (zpas f μ) 63 19 0) t c f).1 (t + f) (zpsM nc n (zu (zpas f μ) 63 19 0) t c f).2 nc n A := by
  obtain ⟨a1, a2⟩ := zpas_k h.1 f hf
  have h0 : zR2 μ (zu (zpas f μ) 63 19 0) t c nc n A := h.cg (fun _ _ => rfl) (fun _ _ => rfl) (fun b p q => by rw [zu_n _ _ _ (by omega)]; exact a1 b (by omega) (by omega)) (fun j p q => by rw [zu_s, upd_n _ _ (by omega)]; exact a2 j (by omega) (by omega))
  obtain ⟨b1, b2⟩ := zpsM_k nc n (zu (zpas f μ) 63 19 0) t c f
  exact (h0.days f hf).cg (fun b hb => by rw [b1 b (by omega), zu_n _ _ _ (by omega)]) (fun j hj => by rw [b2 j (by omega) (by omega), zu_s, upd_n _ _ (by omega)]) (fun _ _ _ => rfl) (fun _ _ _ => rfl)
theorem zR2.more (h : zR2 μ κ t c nc n A) {B : Nat} (h1 : A ≤ B) (h2 : B ≤ 512) : zR2 μ κ t c nc n B := by
  obtain ⟨HX, HM, hW, hS, hr, ho, hE, b1, ⟨c1, c2, c3, c4⟩, b3, b4, b5, b6⟩ := h
  exact ⟨HX, HM, hW, hS, hr, ho, hE, b1, ⟨c1, c2, c3, fun i => by obtain ⟨B', z1, z2⟩ := c4 i; exact ⟨B', z1, by omega⟩⟩, b3, b4, b5, h2⟩
/-- from the relation, all that parts r3 to r13 ask of one memory -/
theorem zR2.one (h : zR2 μ μ t c nc n A) : zCI μ t c nc n ∧ zMI μ t c nc n ∧ zRw μ ∧ zRs μ ∧ zRr μ ∧ zRo μ ∧ zBn μ t c A := by
  obtain ⟨HX, HM, hW, hS, hr, ho, hE, b1, ⟨c1, c2, c3, c4⟩, b3, b4, b5, b6⟩ := h
  exact ⟨HX, HM, hW, hS, hr, ho, b1, c1, c2, c3, c4, b3, b4, b5, b6⟩
end
