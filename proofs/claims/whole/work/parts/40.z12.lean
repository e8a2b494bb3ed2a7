/-! ===== the check's own class: what its methods do, on the memory ===== -/
theorem zgo_t {P Q S : Prop} [Decidable P] [Decidable Q] [Decidable S] (h : P ∧ Q ∧ S) : zgo P Q S = 0 := by unfold zgo; rw [if_pos h.1, if_pos h.2.1, if_pos h.2.2]
theorem zm1 {n : Nat} (hn : n < 2 ^ 31) (i : Int32) : (0 ≤ i ∧ i ≤ nI n - 1) ↔ (0 ≤ i ∧ i < nI n) := by
  have h0 : (0 : Int32).toInt = 0 := rfl
  constructor
  · rintro ⟨h1, h2⟩
    refine ⟨h1, ?_⟩
    rcases Nat.eq_zero_or_pos n with e | e
    · subst e
      rw [zle2, h0] at h1
      rw [zle2, show (nI 0 - 1).toInt = -1 from by decide] at h2
      omega
    · rw [show (1 : Int32) = nI 1 from rfl, pk_sub (by omega), zle2, nI_toInt (by omega)] at h2
      rw [zlt, nI_toInt hn]
      omega
  · rintro ⟨h1, h2⟩
    refine ⟨h1, ?_⟩
    rw [zlt, nI_toInt hn] at h2
    rw [zle2, h0] at h1
    rw [show (1 : Int32) = nI 1 from rfl, pk_sub (by omega), zle2, nI_toInt (by omega)]
    omega
theorem zb_cg {P Q : Prop} [Decidable P] [Decidable Q] (h : P ↔ Q) : zb P = zb Q := by
  by_cases p : P
  · rw [zb_t p, zb_t (h.mp p)]
  · rw [zb_f p, zb_f (fun q => p (h.mpr q))]
abbrev zmeaM (μ : zM) (i d : Int32) : Prop := (1 ≤ d ∧ d ≤ μ 63 11) ∧ (0 ≤ i ∧ i < μ 63 13) ∧ μ 47 i.toNatClampNeg < d
/-- what is corrected of the link k on the day q, by the first g calibrations -/
def zcoM (μ : zM) (k q : Nat) : Nat → Int32
  | 0 => μ 48 (8 * (q - 1) + k)
  | j + 1 => zcoM μ k q j - (if μ 54 (10 * k + j) ≤ nI q ∧ nI q ≤ μ 55 (10 * k + j) then μ 56 (10 * k + j) else 0)
def zcorM (μ : zM) (k q : Nat) : Int32 := zcoM μ k q (μ 53 k).toNatClampNeg
def zoeM (μ : zM) (k : Nat) (c : Int32) : Int32 := if μ 43 k = c then μ 44 k else if μ 44 k = c then μ 43 k else -1
def zneM (μ : zM) (a b c : Nat) : Nat := if zoeM μ b (μ 44 a) = -1 then c else b
def zlaM (μ : zM) (a b c : Nat) : Nat := if zneM μ a b c = b then c else b
abbrev zriM (μ : zM) (a b c : Nat) : Prop := ¬ zoeM μ (zneM μ a b c) (μ 44 a) = -1 ∧ ¬ zoeM μ (zneM μ a b c) (μ 44 a) = μ 43 a ∧ zoeM μ (zlaM μ a b c) (zoeM μ (zneM μ a b c) (μ 44 a)) = μ 43 a
/-- how many calibrations each link has -/
def zGv (μ : zM) : Prop := ∀ k, k < 8 → ∃ g, g ≤ 10 ∧ μ 53 k = nI g
theorem zix8 {i d : Int32} {k q : Nat} (hi : i = nI k) (hd : d = nI q) (h1 : 1 ≤ q) : 8 * (d - 1) + i = nI (8 * (q - 1) + k) := by
  rw [hd, hi, show (1 : Int32) = nI 1 from rfl, pk_sub h1, show (8 : Int32) = nI 8 from rfl, pk_mul, nI_add]
