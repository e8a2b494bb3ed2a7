/-! ===== both memories side by side ===== -/
theorem zER.ind {T : Nat} (hT5 : T ≤ 500) {P : zM → zM → Nat → Prop} (hP : ∀ (μ ν : zM) (c j d k o v : Nat), zER μ ν T (c + 1) → j < c + 1 → μ 13 c = zec ν j → zevV ν T j d k o v → P μ ν (c + 1) → P (zhap (zu μ 63 6 (nI c)) (μ 13 c)) (zcm ν j c) c) : ∀ (c : Nat) (μ ν : zM), zER μ ν T c → ν 63 11 = nI T → P μ ν c → P (zevs (nI T) c μ) (zdr c ν) (zlft c ν)
  | 0, _, _, _, _, p => p
  | c + 1, μ, ν, h, hT, p => by
    have h1 := h.1
    have hc := h.2.2.1
    have h0 : 0 < μ 63 6 := by rw [h1]; exact (nI_ltI (a := 0) (by omega) (by omega)).mpr (by omega)
    have ek : (μ 63 6).toNatClampNeg - 1 = c := by rw [h1, nI_clamp (by omega)]; rfl
    rw [zevs, zdr, zlft, ek]
    rcases h.step hT hT5 with ⟨g1, g2⟩ | ⟨j, hj, g1, g2, g3⟩
    · rw [if_neg (fun z => g2 z.2), if_pos g1, if_pos g1]
      exact p
    · have hn1 : ¬ znx ν (c + 1) = -1 := fun z => by
        rw [g1] at z
        have h9 := congrArg Int32.toInt z
        rw [nI_toInt (by omega), show (-1 : Int32).toInt = -1 from by decide] at h9
        omega
      obtain ⟨d, k, o, v, V⟩ := h.2.2.2.2.2 j hj
      rw [if_pos ⟨h0, g2⟩, if_neg hn1, if_neg hn1, g1, nI_clamp (by omega)]
      exact zER.ind hT5 hP c _ _ (h.one hj g3 (μ 13 c)) (by rw [zcm_63, upd_n _ _ (by decide)]; exact hT) (hP μ ν c j d k o v h hj g3 V p)
/-- bounds of what events change -/
def zBe (μ : zM) (c A : Nat) : Prop := (∀ i, zbn (μ 2 i) 5000) ∧ (∀ i, zbn (μ 5 i) 5000) ∧ (∀ i, zbn (μ 9 i) 50) ∧ (∀ i, ∃ B, zbn (μ 10 i) B ∧ B + 3 * c ≤ 3 * A)
theorem zbn_u {f : Nat → Int32} {B : Nat} (h : ∀ i, zbn (f i) B) {k : Nat} {x : Int32} (hx : zbn x B) : ∀ i, zbn (upd f k x i) B := fun i => by
  by_cases e : i = k
  · subst e; rw [upd_s]; exact hx
  · rw [upd_n _ _ e]; exact h i
theorem zbn_v {v lo hi B : Nat} (h1 : lo ≤ v) (h2 : v ≤ hi) (h3 : 500 ≤ lo + B) (h4 : hi ≤ 500 + B) (h5 : v ≤ 5500) : zbn (nI v - 500) B := by
  unfold zbn; rw [zvi h5]; omega
theorem zBe.one {μ ν : zM} {T c j d k o v A : Nat} (hA : A ≤ 512) (e : μ 13 c = zec ν j) (V : zevV ν T j d k o v) (h : zBe μ (c + 1) A) : zBe (zhap (zu μ 63 6 (nI c)) (μ 13 c)) c A := by
  obtain ⟨b1, b2, b3, b4⟩ := h
  obtain ⟨eK, eN, eA⟩ := V.K
  obtain ⟨a1, a2, a3, a4, a5, a6, a7, a8, a9, a10, a11, a12⟩ := V
  have b4' : ∀ i, ∃ B, zbn (μ 10 i) B ∧ B + 3 * c ≤ 3 * A := fun i => by
    obtain ⟨B, z1, z2⟩ := b4 i
    exact ⟨B, z1, by omega⟩
  have u : ∀ b, b ≠ 63 → zu μ 63 6 (nI c) b = μ b := fun b hb => zu_n _ _ _ hb
  unfold zhap zBe
  rw [e, eK, eN, eA, a8, a9, a10]
  by_cases c0 : nI k = 0
  · rw [if_pos c0, zu_s, zu_n _ _ _ (by decide : (5 : Nat) ≠ 2), zu_n _ _ _ (by decide : (9 : Nat) ≠ 2), zu_n _ _ _ (by decide : (10 : Nat) ≠ 2), u 2 (by decide), u 5 (by decide), u 9 (by decide), u 10 (by decide)]
    exact ⟨zbn_u b1 (zbn_held _ (B := 5000) rfl (by decide)), b2, b3, b4'⟩
  · rw [if_neg c0]
    by_cases c1 : nI k = 1
    · rw [if_pos c1, zu_s, zu_n _ _ _ (by decide : (2 : Nat) ≠ 5), zu_n _ _ _ (by decide : (9 : Nat) ≠ 5), zu_n _ _ _ (by decide : (10 : Nat) ≠ 5), u 2 (by decide), u 5 (by decide), u 9 (by decide), u 10 (by decide)]
      exact ⟨b1, zbn_u b2 (zbn_v (lo := 0) (hi := 5500) (by omega) a6 (by decide) (by decide) a6), b3, b4'⟩
    · rw [if_neg c1]
      by_cases c2 : nI k = 2
      · rw [if_pos c2, zu_s, zu_n _ _ _ (by decide : (2 : Nat) ≠ 9), zu_n _ _ _ (by decide : (5 : Nat) ≠ 9), zu_n _ _ _ (by decide : (10 : Nat) ≠ 9), u 2 (by decide), u 5 (by decide), u 9 (by decide), u 10 (by decide)]
        have k2 := a11 ((nI_eq (b := 2) (by omega) (by omega)).mp c2)
        exact ⟨b1, b2, zbn_u b3 (zbn_v k2.1 k2.2 (by decide) (by decide) a6), b4'⟩
      · rw [if_neg c2, zu_s, zu_n _ _ _ (by decide : (2 : Nat) ≠ 10), zu_n _ _ _ (by decide : (5 : Nat) ≠ 10), zu_n _ _ _ (by decide : (9 : Nat) ≠ 10), u 2 (by decide), u 5 (by decide), u 9 (by decide), u 10 (by decide)]
        have k3 : k = 3 := by
          have n0 : k ≠ 0 := fun z => c0 (by rw [z]; rfl)
          have n1 : k ≠ 1 := fun z => c1 (by rw [z]; rfl)
          have n2 : k ≠ 2 := fun z => c2 (by rw [z]; rfl)
          omega
        have v3 := a12 k3
        refine ⟨b1, b2, b3, fun i => ?_⟩
        by_cases q : i = (nI o).toNatClampNeg
        · subst q
          obtain ⟨B, z1, z2⟩ := b4 (nI o).toNatClampNeg
          rw [upd_s]
          exact ⟨B + 3, z1.add (zbn_v v3.1 v3.2 (by decide) (by decide) a6) (by omega), by omega⟩
        · rw [upd_n _ _ q]; exact b4' i
def zmg (μ ν : zM) : zM := fun b => if b < 38 then μ b else if b = 63 then (fun j => if j < 11 then μ 63 j else ν 63 j) else ν b
theorem mgX (μ ν : zM) {b : Nat} (h : b < 38) : zmg μ ν b = μ b := if_pos h
theorem mgM (μ ν : zM) {b : Nat} (h : 38 ≤ b) (h2 : b ≠ 63) : zmg μ ν b = ν b := by unfold zmg; rw [if_neg (by omega), if_neg h2]
theorem mg6X (μ ν : zM) {j : Nat} (h : j < 11) : zmg μ ν 63 j = μ 63 j := if_pos h
theorem mg6M (μ ν : zM) {j : Nat} (h : 11 ≤ j) : zmg μ ν 63 j = ν 63 j := if_neg (by omega)
theorem zmnX_cg {μ ρ : zM} (h : ∀ b, b < 38 → ρ b = μ b) (q : Nat) : ∀ i, i ≤ 8 → zmnX ρ q i = zmnX μ q i
  | 0, _ => by rw [zmnX, zmnX, h 4 (by decide)]
  | i + 1, hi => by
    rw [zmnX, zmnX, zmnX_cg h q i (by omega)]
    unfold zmns zoth zahd zcorX
    rw [h 4 (by decide), h 7 (by decide), h 8 (by decide), h 11 (by decide), h (22 + i) (by omega), h (30 + i) (by omega)]
theorem zmean_cg {μ ρ : zM} (h : ∀ b, b < 38 → ρ b = μ b) (h4 : ρ 63 4 = μ 63 4) (q : Nat) {n : Nat} (hn : n ≤ 8) : zmean ρ q n = zmean μ q n := by
  unfold zmean; rw [h4, zmnX_cg h q n hn]
theorem zloM_c2 {μ ν : zM} (h : ∀ b, 38 ≤ b → b ≠ 63 → ν b = μ b) (h11 : ν 63 11 = μ 63 11) (h13 : ν 63 13 = μ 63 13) (q cl : Int32) (n : Nat) : ∀ g, zloM ν q cl n g = zloM μ q cl n g
  | 0 => rfl
  | g + 1 => by
    rw [zloM, zloM, zloM_c2 h h11 h13 q cl n g]
    unfold zjnM zmeaM
    rw [h 43 (by decide) (by decide), h 44 (by decide) (by decide), h 47 (by decide) (by decide), h11, h13]
theorem zmnM_c2 {μ ν : zM} (h : ∀ b, 38 ≤ b → b ≠ 63 → ν b = μ b) (h11 : ν 63 11 = μ 63 11) (h12 : ν 63 12 = μ 63 12) (h13 : ν 63 13 = μ 63 13) (q n : Nat) : ∀ i, zmnM ν q n i = zmnM μ q n i
  | 0 => by rw [zmnM, zmnM, h 42 (by decide) (by decide), h12]
  | i + 1 => by
    rw [zmnM, zmnM, zmnM_c2 h h11 h12 h13 q n i]
    unfold zmnS
    rw [zloM_c2 h h11 h13, h 42 (by decide) (by decide), h 43 (by decide) (by decide), zcorM_c3 (fun b hb => h b (by omega) (by omega))]
theorem zmeanM_c2 {μ ν : zM} (h : ∀ b, 38 ≤ b → b ≠ 63 → ν b = μ b) (h11 : ν 63 11 = μ 63 11) (h12 : ν 63 12 = μ 63 12) (h13 : ν 63 13 = μ 63 13) (q n nc : Nat) : zmeanM ν q n nc = zmeanM μ q n nc := by
  unfold zmeanM; rw [zmnM_c2 h h11 h12 h13]
theorem zof_cg {μ ν : zM} (h : ∀ b, (b = 54 ∨ b = 55 ∨ b = 56) → ν b = μ b) (k q : Nat) : ∀ j, zof ν k q j = zof μ k q j
  | 0 => rfl
  | j + 1 => by rw [zof, zof, zof_cg h k q j, h 54 (by decide), h 55 (by decide), h 56 (by decide)]
theorem zCI.cg {μ ρ : zM} {t c nc n : Nat} (h : ∀ b, b < 38 → b ≠ 0 → ρ b = μ b) (h63 : ∀ j, j < 7 → ρ 63 j = μ 63 j) (H : zCI μ t c nc n) : zCI ρ t c nc n := by
  obtain ⟨h1, h2, h3, h4, h5, h6, h7, h8, h9⟩ := H
  refine ⟨(h63 0 (by decide)).trans h1, h2, ⟨(h63 6 (by decide)).trans h3.1, h3.2.1, fun j hj => by rw [h 13 (by decide) (by decide)]; exact h3.2.2 j hj⟩, (h63 4 (by decide)).trans h4, h5, (h63 5 (by decide)).trans h6, h7, fun j hj => by rw [h 7 (by decide) (by decide), h 8 (by decide) (by decide)]; exact h8 j hj, by rw [h63 2 (by decide)]; exact h9⟩
theorem zMI.cg {μ ν : zM} {t c nc n : Nat} (h : ∀ b, 38 ≤ b → b ≠ 63 → b ≠ 57 → ν b = μ b) (h2 : ∀ j, 11 ≤ j → j < 15 → ν 63 j = μ 63 j) (H : zMI μ t c nc n) : zMI ν t c nc n := by
  obtain ⟨h1, hb, h3, h4, h5, h6, h7, h8, h9⟩ := H
  refine ⟨(h2 11 (by decide) (by decide)).trans h1, hb, ⟨(h2 14 (by decide) (by decide)).trans h3.1, h3.2.1, fun j hj => ?_⟩, (h2 12 (by decide) (by decide)).trans h4, h5, (h2 13 (by decide) (by decide)).trans h6, h7, fun j hj => ?_, fun k hk => ?_⟩
  · unfold zevM; rw [h 51 (by decide) (by decide) (by decide), h 50 (by decide) (by decide) (by decide)]; exact h3.2.2 j hj
  · rw [h 43 (by decide) (by decide) (by decide), h 44 (by decide) (by decide) (by decide)]; exact h8 j hj
  · rw [h 53 (by decide) (by decide) (by decide)]; exact h9 k hk
/-- the relation -/
def zW2 (μ ν : zM) : Prop := μ 2 = ν 38 ∧ μ 3 = ν 39 ∧ μ 5 = ν 40 ∧ μ 6 = ν 41 ∧ μ 4 = ν 42 ∧ μ 7 = ν 43 ∧ μ 8 = ν 44 ∧ μ 9 = ν 45 ∧ μ 10 = ν 46 ∧ μ 11 = ν 47 ∧ μ 12 = ν 53 ∧ μ 0 = ν 57 ∧ μ 1 = ν 58
def zS2 (μ ν : zM) : Prop := μ 63 1 = ν 63 15 ∧ μ 63 2 = ν 63 16 ∧ μ 63 3 = ν 63 17
def zr2 (μ ν : zM) : Prop := ∀ k, k < 8 → ∀ d, 1 ≤ d → d ≤ 500 → μ (22 + k) d = ν 48 (8 * (d - 1) + k)
def zo2 (μ ν : zM) : Prop := ∀ k, k < 8 → ∀ q, q ≤ 500 → μ (30 + k) q = zof ν k q (ν 53 k).toNatClampNeg
def zB2' (μ ν : zM) (t c A : Nat) : Prop := (∀ i, zbn (μ 6 i) (5050 * t)) ∧ zBe μ c A ∧ (∀ k, k < 8 → ∀ d, zbn (μ (22 + k) d) 6600000) ∧ (∀ i, zbn (ν 56 i) 10000) ∧ (0 ≤ μ 63 1 ∧ μ 63 1 ≤ 499) ∧ A ≤ 512
def zR2 (μ ν : zM) (t c nc n A : Nat) : Prop :=
  zCI μ t c nc n ∧ zMI ν t c nc n ∧ zW2 μ ν ∧ zS2 μ ν ∧ zr2 μ ν ∧ zo2 μ ν ∧ zER μ ν (t + 1) c ∧ zB2' μ ν t c A
/-- side by side in one memory, all that parts r3 to r5 ask -/
theorem zmg_all {μ ν : zM} {t c nc n : Nat} (h1 : zCI μ t c nc n) (h2 : zMI ν t c nc n) (h3 : zW2 μ ν) (h5 : zr2 μ ν) (h6 : zo2 μ ν) : zCI (zmg μ ν) t c nc n ∧ zMI (zmg μ ν) t c nc n ∧ zRw (zmg μ ν) ∧ zRr (zmg μ ν) ∧ zRo (zmg μ ν) := by
  refine ⟨h1.cg (fun b hb _ => mgX μ ν hb) (fun j hj => mg6X μ ν (by omega)), h2.cg (fun b hb h _ => mgM μ ν hb h) (fun j a b => mg6M μ ν a), ?_, ?_, ?_⟩
  · exact h3
  · intro k hk d d1 d5
    rw [mgX μ ν (by omega), mgM μ ν (by decide) (by decide)]
    exact h5 k hk d d1 d5
  · intro k hk q hq
    rw [mgX μ ν (by omega), mgM μ ν (b := 53) (by decide) (by decide), zof_cg (fun b hb => mgM μ ν (by omega) (by omega))]
    exact h6 k hk q hq
theorem zmean_2 {μ ν : zM} {t c nc n q : Nat} (h1 : zCI μ t c nc n) (h2 : zMI ν t c nc n) (h3 : zW2 μ ν) (h5 : zr2 μ ν) (h6 : zo2 μ ν) (q1 : 1 ≤ q) (hq : q ≤ t) : zmeanM ν q n nc = zmean μ q n := by
  obtain ⟨g1, g2, g3, g4, g5⟩ := zmg_all h1 h2 h3 h5 h6
  have e := zmean_eq g3 g4 g5 g1 g2 q1 hq
  rw [zmean_cg (fun b hb => mgX μ ν hb) (mg6X μ ν (by decide)) q h1.2.2.2.2.2.2.1, zmeanM_c2 (fun b hb h => mgM μ ν hb h) (mg6M μ ν (by decide)) (mg6M μ ν (by decide)) (mg6M μ ν (by decide))] at e
  exact e
