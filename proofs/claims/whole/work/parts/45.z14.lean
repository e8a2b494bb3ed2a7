theorem zcorM_c2 {μ ν : zM} (h : ∀ b, b ≠ 63 → ν b = μ b) (k q : Nat) : zcorM ν k q = zcorM μ k q := zcorM_cg h k q
theorem zmeaM_cg {μ ν : zM} (h : ∀ b, b ≠ 63 → ν b = μ b) (h2 : ∀ j, j ≠ 19 → ν 63 j = μ 63 j) (i d : Int32) : zmeaM ν i d ↔ zmeaM μ i d := by
  unfold zmeaM; rw [h2 11 (by decide), h2 13 (by decide), h 47 (by decide)]
theorem zloM_cg {μ ν : zM} (h : ∀ b, b ≠ 63 → ν b = μ b) (h2 : ∀ j, j ≠ 19 → ν 63 j = μ 63 j) (q cl : Int32) (n : Nat) : ∀ g, zloM ν q cl n g = zloM μ q cl n g
  | 0 => rfl
  | g + 1 => by
    rw [zloM, zloM, zloM_cg h h2 q cl n g]
    unfold zjnM
    rw [h 43 (by decide), h 44 (by decide)]
    simp only [zmeaM_cg h h2]
theorem zmnM_cg {μ ν : zM} (h : ∀ b, b ≠ 63 → ν b = μ b) (h2 : ∀ j, j ≠ 19 → ν 63 j = μ 63 j) (q n : Nat) : ∀ i, zmnM ν q n i = zmnM μ q n i
  | 0 => by rw [zmnM, zmnM, h 42 (by decide), h2 12 (by decide)]
  | i + 1 => by
    rw [zmnM, zmnM, zmnM_cg h h2 q n i]
    unfold zmnS
    rw [zloM_cg h h2, h 42 (by decide), h 43 (by decide), zcorM_cg h]
theorem zmeanM_cg {μ ν : zM} (h : ∀ b, b ≠ 63 → ν b = μ b) (h2 : ∀ j, j ≠ 19 → ν 63 j = μ 63 j) (q n nc : Nat) : zmeanM ν q n nc = zmeanM μ q n nc := by
  unfold zmeanM; rw [zmnM_cg h h2]
theorem zMI.nu {μ ν : zM} {t c nc n : Nat} (h : ∀ b, b ≠ 63 → ν b = μ b) (h2 : ∀ j, j ≠ 19 → ν 63 j = μ 63 j) (H : zMI μ t c nc n) : zMI ν t c nc n := by
  obtain ⟨h1, hb, h3, h4, h5, h6, h7, h8, h9⟩ := H
  refine ⟨(h2 11 (by decide)).trans h1, hb, ⟨(h2 14 (by decide)).trans h3.1, h3.2.1, fun j hj => ?_⟩, (h2 12 (by decide)).trans h4, h5, (h2 13 (by decide)).trans h6, h7, fun j hj => ?_, fun k hk => ?_⟩
  · unfold zevM; rw [h 51 (by decide), h 50 (by decide)]; exact h3.2.2 j hj
  · rw [h 43 (by decide), h 44 (by decide)]; exact h8 j hj
  · rw [h 53 (by decide)]; exact h9 k hk
/-- the mean time from the first day on, steered anew -/
def zanM (μ : zM) (n nc : Nat) : Nat → Int32
  | 0 => 0
  | q + 1 => zstM μ (zanM μ n nc q) (q + 1) n nc
theorem zanM_cg {μ ν : zM} (h : ∀ b, b ≠ 63 → ν b = μ b) (h2 : ∀ j, j ≠ 19 → ν 63 j = μ 63 j) (n nc : Nat) : ∀ q, zanM ν n nc q = zanM μ n nc q
  | 0 => rfl
  | q + 1 => by rw [zanM, zanM, zanM_cg h h2 n nc q]; unfold zstM; rw [zmeanM_cg h h2, h2 16 (by decide)]
