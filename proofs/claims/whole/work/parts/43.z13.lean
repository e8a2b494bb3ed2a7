/-! the model's days -/
abbrev zahM (μ : zM) (a b : Nat) : Prop := if μ 50 a = μ 50 b then (if μ 51 a = μ 51 b then μ 52 a < μ 52 b else μ 51 a < μ 51 b) else μ 50 a < μ 50 b
theorem zah_n {μ : zM} {a b : Nat} (h : ¬ μ 50 a = μ 50 b) : zahM μ a b ↔ μ 50 a < μ 50 b := by unfold zahM; rw [if_neg h]
theorem zah_o {μ : zM} {a b : Nat} (h : μ 50 a = μ 50 b) (h2 : ¬ μ 51 a = μ 51 b) : zahM μ a b ↔ μ 51 a < μ 51 b := by unfold zahM; rw [if_pos h, if_neg h2]
theorem zah_a {μ : zM} {a b : Nat} (h : μ 50 a = μ 50 b) (h2 : μ 51 a = μ 51 b) : zahM μ a b ↔ μ 52 a < μ 52 b := by unfold zahM; rw [if_pos h, if_pos h2]
/-- the next event of today among the first i, or -1 -/
def znx (μ : zM) : Nat → Int32
  | 0 => -1
  | i + 1 => if μ 49 i = μ 63 11 ∧ (znx μ i = -1 ∨ zahM μ i (znx μ i).toNatClampNeg) then nI i else znx μ i
theorem znx_r (μ : zM) : ∀ i, znx μ i = -1 ∨ ∃ j, j < i ∧ znx μ i = nI j
  | 0 => Or.inl rfl
  | i + 1 => by
    rw [znx]
    split
    · exact Or.inr ⟨i, by omega, rfl⟩
    · rcases znx_r μ i with h | ⟨j, hj, h⟩
      · exact Or.inl h
      · exact Or.inr ⟨j, by omega, h⟩
/-- an event that can happen -/
def zevM (μ : zM) (j : Nat) : Prop := ∃ o, o < 8 ∧ μ 51 j = nI o ∧ ((μ 50 j = 0 ∨ μ 50 j = 1) → o < 6)
def zcmA (μ : zM) (j : Nat) : zM :=
  if μ 50 j = 0 then zu μ 38 (μ 51 j).toNatClampNeg (zheld (μ 38 (μ 51 j).toNatClampNeg + μ 52 j) 5000)
  else if μ 50 j = 1 then zu μ 40 (μ 51 j).toNatClampNeg (μ 52 j)
  else if μ 50 j = 2 then zu μ 45 (μ 51 j).toNatClampNeg (μ 52 j)
  else zu μ 46 (μ 51 j).toNatClampNeg (μ 46 (μ 51 j).toNatClampNeg + μ 52 j)
theorem zcmA_k (μ : zM) (j : Nat) {b : Nat} (h1 : b ≠ 38) (h2 : b ≠ 40) (h3 : b ≠ 45) (h4 : b ≠ 46) : zcmA μ j b = μ b := by
  unfold zcmA
  split
  · exact zu_n _ _ _ h1
  · split
    · exact zu_n _ _ _ h2
    · split
      · exact zu_n _ _ _ h3
      · exact zu_n _ _ _ h4
def zcmB (μ : zM) (j c : Nat) : zM := zu (zu (zu (zu (zu μ 63 14 (nI c)) 49 j (μ 49 c)) 50 j (μ 50 c)) 51 j (μ 51 c)) 52 j (μ 52 c)
/-- the event j happens, of c + 1 -/
def zcm (μ : zM) (j c : Nat) : zM := zcmB (zcmA μ j) j c
theorem zcm_k (μ : zM) (j c : Nat) {b : Nat} (h1 : b ≠ 38) (h2 : b ≠ 40) (h3 : b ≠ 45) (h4 : b ≠ 46) (h5 : b ≠ 49) (h6 : b ≠ 50) (h7 : b ≠ 51) (h8 : b ≠ 52) (h9 : b ≠ 63) : zcm μ j c b = μ b := by
  unfold zcm zcmB
  rw [zu_n _ _ _ h8, zu_n _ _ _ h7, zu_n _ _ _ h6, zu_n _ _ _ h5, zu_n _ _ _ h9]
  exact zcmA_k μ j h1 h2 h3 h4
theorem zcm_63 (μ : zM) (j c : Nat) : zcm μ j c 63 = upd (μ 63) 14 (nI c) := by
  unfold zcm zcmB
  rw [zu_n _ _ _ (by decide), zu_n _ _ _ (by decide), zu_n _ _ _ (by decide), zu_n _ _ _ (by decide), zu_s, zcmA_k μ j (by decide) (by decide) (by decide) (by decide)]
theorem zcm_50 (μ : zM) (j c : Nat) : zcm μ j c 50 = upd (μ 50) j (μ 50 c) := by
  unfold zcm zcmB
  rw [zu_n _ _ _ (by decide), zu_n _ _ _ (by decide), zu_s, zu_n _ _ _ (by decide), zu_n _ _ _ (by decide), zcmA_k μ j (by decide) (by decide) (by decide) (by decide)]
theorem zcm_51 (μ : zM) (j c : Nat) : zcm μ j c 51 = upd (μ 51) j (μ 51 c) := by
  unfold zcm zcmB
  rw [zu_n _ _ _ (by decide), zu_s, zu_n _ _ _ (by decide), zu_n _ _ _ (by decide), zu_n _ _ _ (by decide), zcmA_k μ j (by decide) (by decide) (by decide) (by decide)]
theorem zcm_49 (μ : zM) (j c : Nat) : zcm μ j c 49 = upd (μ 49) j (μ 49 c) := by
  unfold zcm zcmB
  rw [zu_n _ _ _ (by decide), zu_n _ _ _ (by decide), zu_n _ _ _ (by decide), zu_s, zu_n _ _ _ (by decide), zcmA_k μ j (by decide) (by decide) (by decide) (by decide)]
theorem zcm_52 (μ : zM) (j c : Nat) : zcm μ j c 52 = upd (μ 52) j (μ 52 c) := by
  unfold zcm zcmB
  rw [zu_s, zu_n _ _ _ (by decide), zu_n _ _ _ (by decide), zu_n _ _ _ (by decide), zu_n _ _ _ (by decide), zcmA_k μ j (by decide) (by decide) (by decide) (by decide)]
def zEM (μ : zM) (c : Nat) : Prop := μ 63 14 = nI c ∧ c ≤ 40 ∧ ∀ j, j < c → zevM μ j
theorem zEM.cm {μ : zM} {c j : Nat} (h : zEM μ (c + 1)) (hj : j < c + 1) : zEM (zcm μ j c) c := by
  refine ⟨by rw [zcm_63, upd_s], by have := h.2.1; omega, fun i hi => ?_⟩
  unfold zevM
  rw [zcm_50, zcm_51]
  by_cases e : i = j
  · subst e
    rw [upd_s, upd_s]
    exact h.2.2 c (by omega)
  · rw [upd_n _ _ e, upd_n _ _ e]
    exact h.2.2 i (by omega)
/-- what happens today, of c events at most f -/
def zdr : Nat → zM → zM
  | 0, μ => μ
  | c + 1, μ => if znx μ (c + 1) = -1 then μ else zdr c (zcm μ (znx μ (c + 1)).toNatClampNeg c)
def zlft : Nat → zM → Nat
  | 0, _ => 0
  | c + 1, μ => if znx μ (c + 1) = -1 then c + 1 else zlft c (zcm μ (znx μ (c + 1)).toNatClampNeg c)
theorem zdr_k {b : Nat} (h1 : b ≠ 38) (h2 : b ≠ 40) (h3 : b ≠ 45) (h4 : b ≠ 46) (h5 : b ≠ 49) (h6 : b ≠ 50) (h7 : b ≠ 51) (h8 : b ≠ 52) (h9 : b ≠ 63) : ∀ (c : Nat) (μ : zM), zdr c μ b = μ b
  | 0, _ => rfl
  | c + 1, μ => by
    rw [zdr]
    split
    · rfl
    · rw [zdr_k h1 h2 h3 h4 h5 h6 h7 h8 h9 c, zcm_k _ _ _ h1 h2 h3 h4 h5 h6 h7 h8 h9]
theorem zdr_63 {i : Nat} (hi : i ≠ 14) : ∀ (c : Nat) (μ : zM), zdr c μ 63 i = μ 63 i
  | 0, _ => rfl
  | c + 1, μ => by
    rw [zdr]
    split
    · rfl
    · rw [zdr_63 hi c, zcm_63, upd_n _ _ hi]
theorem zdr_E : ∀ (c : Nat) (μ : zM), zEM μ c → zEM (zdr c μ) (zlft c μ)
  | 0, _, h => h
  | c + 1, μ, h => by
    rw [zdr, zlft]
    split
    · exact h
    · rename_i e
      rcases znx_r μ (c + 1) with h0 | ⟨j, hj, h0⟩
      · exact absurd h0 e
      · refine zdr_E c _ (h.cm ?_)
        rw [h0, nI_clamp (by have := h.2.1; omega)]; exact hj
/-- a clock's day -/
def zphM (i : Nat) (μ : zM) : zM := zu μ 41 i (μ 41 i + (μ 38 i + μ 40 i / 100))
def zrtM (t : Int32) (i : Nat) (μ : zM) : Int32 := if t - t / 10 * 10 = 0 then zheld (μ 38 i + μ 39 i) 5000 else μ 38 i
def zckM (t : Int32) (i : Nat) (μ : zM) : zM := zu (zphM i μ) 38 i (zrtM t i (zphM i μ))
theorem zckM_k (t : Int32) {b : Nat} (h1 : b ≠ 41) (h2 : b ≠ 38) (i : Nat) (μ : zM) : zckM t i μ b = μ b := by
  unfold zckM zphM; rw [zu_n _ _ _ h2, zu_n _ _ _ h1]
def zlkM (t i : Nat) (μ : zM) : zM := zu μ 48 (8 * (t - 1) + i) (μ 41 (μ 43 i).toNatClampNeg - μ 41 (μ 44 i).toNatClampNeg + μ 45 i + 1000 * μ 46 i)
theorem zlkM_k (t : Nat) {b : Nat} (h1 : b ≠ 48) (i : Nat) (μ : zM) : zlkM t i μ b = μ b := zu_n _ _ _ h1
/-- the link of the clock, among the g last of n -/
abbrev zjnM (μ : zM) (cl : Int32) (i : Nat) : Prop := (μ 43 i = cl ∧ μ 44 i = 0) ∨ (μ 44 i = cl ∧ μ 43 i = 0)
def zloM (μ : zM) (q cl : Int32) (n : Nat) : Nat → Int32
  | 0 => -1
  | g + 1 => if zjnM μ cl (n - 1 - g) ∧ zmeaM μ (nI (n - 1 - g)) q then nI (n - 1 - g) else zloM μ q cl n g
theorem zloM_r (μ : zM) (q cl : Int32) (n : Nat) : ∀ g, g ≤ n → zloM μ q cl n g = -1 ∨ ∃ k, k < n ∧ zloM μ q cl n g = nI k
  | 0, _ => Or.inl rfl
  | g + 1, h => by
    rw [zloM]
    split
    · exact Or.inr ⟨n - 1 - g, by omega, rfl⟩
    · exact zloM_r μ q cl n g (by omega)
def zmnS (μ : zM) (q n i : Nat) (x : Int64 × Int64) : Int64 × Int64 :=
  if zloM μ (nI q) (nI i) n n = -1 then x
  else (x.1 + (μ 42 i).toInt64 * (if μ 43 (zloM μ (nI q) (nI i) n n).toNatClampNeg = nI i then zcorM μ (zloM μ (nI q) (nI i) n n).toNatClampNeg q else -zcorM μ (zloM μ (nI q) (nI i) n n).toNatClampNeg q).toInt64, x.2 + (μ 42 i).toInt64)
def zmnM (μ : zM) (q n : Nat) : Nat → Int64 × Int64
  | 0 => (0, if 0 < μ 63 12 then (μ 42 0).toInt64 else 0)
  | i + 1 => zmnS μ q n (i + 1) (zmnM μ q n i)
def zmeanM (μ : zM) (q n nc : Nat) : Int32 := if (zmnM μ q n (nc - 1)).2 = 0 then 0 else ((zmnM μ q n (nc - 1)).1 / (zmnM μ q n (nc - 1)).2).toInt32
def zstM (μ : zM) (b : Int32) (q n nc : Nat) : Int32 := b + zheld (zmeanM μ q n nc - b) (μ 63 16)
/-- what holds of the model's memory -/
def zMI (μ : zM) (t c nc n : Nat) : Prop :=
  μ 63 11 = nI t ∧ t ≤ 500 ∧ zEM μ c ∧ μ 63 12 = nI nc ∧ nc ≤ 6 ∧ μ 63 13 = nI n ∧ n ≤ 8 ∧ (∀ j, j < n → ∃ a b, a < nc ∧ b < nc ∧ a ≠ b ∧ μ 43 j = nI a ∧ μ 44 j = nI b) ∧ zGv μ
/-- a day -/
def zdM1 (μ : zM) (t : Nat) : zM := zu μ 63 11 (nI (t + 1))
def zdM2 (μ : zM) (t c : Nat) : zM := zdr c (zdM1 μ t)
def zdM3 (μ : zM) (t c nc : Nat) : zM := zitr (zckM (nI (t + 1))) nc (zdM2 μ t c)
def zdM4 (μ : zM) (t c nc n : Nat) : zM := zitr (zlkM (t + 1)) n (zdM3 μ t c nc)
def zdM (μ : zM) (t c nc n : Nat) : zM := zu (zdM4 μ t c nc n) 57 (t + 1) (zstM (zdM4 μ t c nc n) (μ 57 t) (t + 1) n nc)
theorem zdM4_k (μ : zM) (t c nc n : Nat) {b : Nat} (h1 : b ≠ 38) (h2 : b ≠ 40) (h3 : b ≠ 45) (h4 : b ≠ 46) (h5 : b ≠ 49) (h6 : b ≠ 50) (h7 : b ≠ 51) (h8 : b ≠ 52) (h9 : b ≠ 63) (h10 : b ≠ 41) (h11 : b ≠ 48) : zdM4 μ t c nc n b = μ b := by
  unfold zdM4 zdM3 zdM2 zdM1
  rw [zitr_k (fun i μ => zlkM_k (t + 1) h11 i μ), zitr_k (fun i μ => zckM_k (nI (t + 1)) h10 h1 i μ), zdr_k h1 h2 h3 h4 h5 h6 h7 h8 h9, zu_n _ _ _ h9]
theorem zdM3_r (μ : zM) (t c nc : Nat) {b : Nat} (h1 : b ≠ 38) (h10 : b ≠ 41) : zdM3 μ t c nc b = zdM2 μ t c b := zitr_k (fun i μ => zckM_k (nI (t + 1)) h10 h1 i μ)
theorem zdM4_r (μ : zM) (t c nc n : Nat) {b : Nat} (h1 : b ≠ 38) (h10 : b ≠ 41) (h11 : b ≠ 48) : zdM4 μ t c nc n b = zdM2 μ t c b := (zitr_k (fun i μ => zlkM_k (t + 1) h11 i μ)).trans (zdM3_r μ t c nc h1 h10)
theorem zdM2_63 (μ : zM) (t c : Nat) {i : Nat} (h : i ≠ 14) (h2 : i ≠ 11) : zdM2 μ t c 63 i = μ 63 i := by unfold zdM2 zdM1; rw [zdr_63 h, zu_s, upd_n _ _ h2]
theorem zdM2_11 (μ : zM) (t c : Nat) : zdM2 μ t c 63 11 = nI (t + 1) := by unfold zdM2 zdM1; rw [zdr_63 (by decide), zu_s, upd_s]
theorem zEM.d1 {μ : zM} {t c : Nat} (h : zEM μ c) : zEM (zdM1 μ t) c := by
  refine ⟨by unfold zdM1; rw [zu_s, upd_n _ _ (by decide)]; exact h.1, h.2.1, fun j hj => ?_⟩
  unfold zevM zdM1
  rw [zu_n _ _ _ (by decide), zu_n _ _ _ (by decide)]
  exact h.2.2 j hj
theorem zMI.day {μ : zM} {t c nc n : Nat} (h : zMI μ t c nc n) (ht : t + 1 ≤ 500) : zMI (zdM μ t c nc n) (t + 1) (zlft c (zdM1 μ t)) nc n := by
  obtain ⟨h1, h2, h3, h4, h5, h6, h7, h8, h9⟩ := h
  have e63 : ∀ i, i ≠ 14 → i ≠ 11 → zdM μ t c nc n 63 i = μ 63 i := fun i a b => by unfold zdM; rw [zu_n _ _ _ (by decide), zdM4_r _ _ _ _ _ (by decide) (by decide) (by decide)]; exact zdM2_63 μ t c a b
  have ek : ∀ b, b ≠ 38 → b ≠ 40 → b ≠ 45 → b ≠ 46 → b ≠ 49 → b ≠ 50 → b ≠ 51 → b ≠ 52 → b ≠ 63 → b ≠ 41 → b ≠ 48 → b ≠ 57 → zdM μ t c nc n b = μ b := fun b a1 a2 a3 a4 a5 a6 a7 a8 a9 a10 a11 a12 => by unfold zdM; rw [zu_n _ _ _ a12]; exact zdM4_k μ t c nc n a1 a2 a3 a4 a5 a6 a7 a8 a9 a10 a11
  have e2 : ∀ b, b ≠ 38 → b ≠ 41 → b ≠ 48 → b ≠ 57 → zdM μ t c nc n b = zdr c (zdM1 μ t) b := fun b a1 a2 a3 a4 => by unfold zdM; rw [zu_n _ _ _ a4]; exact zdM4_r μ t c nc n a1 a2 a3
  have hE := zdr_E c _ (h3.d1 (t := t))
  refine ⟨by rw [e2 63 (by decide) (by decide) (by decide) (by decide)]; exact zdM2_11 μ t c, ht, ⟨by rw [e2 63 (by decide) (by decide) (by decide) (by decide)]; exact hE.1, hE.2.1, fun j hj => ?_⟩, (e63 12 (by decide) (by decide)).trans h4, h5, (e63 13 (by decide) (by decide)).trans h6, h7, fun j hj => ?_, fun k hk => ?_⟩
  · unfold zevM
    rw [e2 51 (by decide) (by decide) (by decide) (by decide), e2 50 (by decide) (by decide) (by decide) (by decide)]
    exact hE.2.2 j hj
  · rw [ek 43 (by decide) (by decide) (by decide) (by decide) (by decide) (by decide) (by decide) (by decide) (by decide) (by decide) (by decide) (by decide), ek 44 (by decide) (by decide) (by decide) (by decide) (by decide) (by decide) (by decide) (by decide) (by decide) (by decide) (by decide) (by decide)]
    exact h8 j hj
  · rw [ek 53 (by decide) (by decide) (by decide) (by decide) (by decide) (by decide) (by decide) (by decide) (by decide) (by decide) (by decide) (by decide)]
    exact h9 k hk
/-- f days: the memory and the events that are left -/
def zpsM (nc n : Nat) (μ : zM) (t c : Nat) : Nat → zM × Nat
  | 0 => (μ, c)
  | f + 1 => (zdM (zpsM nc n μ t c f).1 (t + f) (zpsM nc n μ t c f).2 nc n, zlft (zpsM nc n μ t c f).2 (zdM1 (zpsM nc n μ t c f).1 (t + f)))
theorem zMI.pas {μ : zM} {t c nc n : Nat} (h : zMI μ t c nc n) : ∀ f, t + f ≤ 500 → zMI (zpsM nc n μ t c f).1 (t + f) (zpsM nc n μ t c f).2 nc n
  | 0, _ => h
  | f + 1, hf => (zMI.pas h f (by omega)).day (by omega)
theorem zitr_s (f : Nat → zM → zM) (n : Nat) (μ : zM) : zitr f (n + 1) μ = f n (zitr f n μ) := rfl
theorem nI_sub1 (c : Nat) : nI (c + 1) - 1 = nI c := by rw [show (1 : Int32) = nI 1 from rfl, pk_sub (by omega)]; rfl
theorem nI_nneg {c : Nat} (h : c < 2 ^ 31) : ¬ nI c < 0 := by rw [zlt, nI_toInt h, show (0 : Int32).toInt = 0 from rfl]; omega
