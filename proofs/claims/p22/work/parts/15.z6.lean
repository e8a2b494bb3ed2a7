/-! ===== numbers and small facts ===== -/
theorem zkd22 {k : Nat} (h : k < 8) : zkd (22 + k) = 0 := by
  unfold zkd; rw [if_neg (by omega), if_neg (by omega), if_neg (by omega)]
theorem zkd30 {k : Nat} (h : k < 8) : zkd (30 + k) = 0 := by
  unfold zkd; rw [if_neg (by omega), if_neg (by omega), if_neg (by omega)]
theorem zln22 : ∀ k, k < 8 → zlen (22 + k) = 501 := by decide +kernel
theorem zln30 : ∀ k, k < 8 → zlen (30 + k) = 501 := by decide +kernel
theorem zix22 {k d : Nat} (h : k < 8) (hd : d < 501) : d < zlen (22 + k) := by rw [zln22 k h]; exact hd
theorem zix30 {k d : Nat} (h : k < 8) (hd : d < 501) : d < zlen (30 + k) := by rw [zln30 k h]; exact hd
theorem zlt (a b : Int32) : a < b ↔ a.toInt < b.toInt := Int32.lt_iff_toInt_lt
theorem zle2 (a b : Int32) : a ≤ b ↔ a.toInt ≤ b.toInt := Int32.le_iff_toInt_le
theorem zeq (a b : Int32) : a = b ↔ a.toInt = b.toInt := Int32.toInt_inj.symm
theorem zrng (x : Int32) : -2147483648 ≤ x.toInt ∧ x.toInt < 2147483648 := ⟨Int32.le_toInt x, Int32.toInt_lt x⟩
theorem znot_lt {a b : Int32} (h : ¬ a < b) : b ≤ a := by rw [zle2]; rw [zlt] at h; omega
theorem znot_le {a b : Int32} (h : ¬ a ≤ b) : b < a := by rw [zlt]; rw [zle2] at h; omega
theorem zneg {x : Int32} (h : x.toInt ≠ -2147483648) : (-x).toInt = -x.toInt := by
  have := zrng x
  rw [Int32.toInt_neg]
  exact Int.bmod_eq_of_le (by omega) (by omega)
/-- a condition as the machine's 1 or 0 -/
def zb (P : Prop) [Decidable P] : Int32 := if P then 1 else 0
theorem zb_t {P : Prop} [Decidable P] (h : P) : zb P = 1 := if_pos h
theorem zb_f {P : Prop} [Decidable P] (h : ¬ P) : zb P = 0 := if_neg h
theorem zb_eq0 {P : Prop} [Decidable P] : zb P = 0 ↔ ¬ P := by
  by_cases h : P
  · rw [zb_t h]; exact ⟨fun e => absurd e (by decide), fun n => absurd h n⟩
  · rw [zb_f h]; exact ⟨fun _ => h, fun _ => rfl⟩
theorem zb_ne0 {P : Prop} [Decidable P] : ¬ zb P = 0 ↔ P := by rw [zb_eq0]; exact Decidable.not_not
theorem zb_01 {P : Prop} [Decidable P] : zb P = 0 ∨ zb P = 1 := by
  by_cases h : P
  · exact Or.inr (zb_t h)
  · exact Or.inl (zb_f h)
theorem znarz {x : Int32} (h : x = 0 ∨ x = 1) : narrow .boolean (.int x) = .int x := by rcases h with rfl | rfl <;> decide
theorem zvnz {x : Int32} (h : x = 0 ∨ x = 1) : vp_nar .boolean x = x := by rcases h with rfl | rfl <;> decide
/-- held to a bound -/
def zheld (v b : Int32) : Int32 := if b < v then b else if v < -b then -b else v
theorem zheld_mm {n b : Int32} (h : 0 ≤ b) : (if -b < (if n < b then n else b) then (if n < b then n else b) else -b) = zheld n b := by
  have hb := zrng b
  have hn := zrng n
  rw [zle2] at h
  have h0 : (0 : Int32).toInt = 0 := rfl
  rw [h0] at h
  have hneg := zneg (x := b) (by omega)
  unfold zheld
  by_cases h1 : n < b
  · have h1' := (zlt _ _).mp h1
    rw [if_pos h1, if_neg (show ¬ b < n by rw [zlt]; omega)]
    by_cases h2 : -b < n
    · rw [if_pos h2, if_neg (show ¬ n < -b by rw [zlt] at h2 ⊢; omega)]
    · rw [if_neg h2]
      by_cases h3 : n < -b
      · rw [if_pos h3]
      · rw [if_neg h3]
        rw [zeq]; rw [zlt] at h2 h3; omega
  · rw [if_neg h1]
    rw [zlt] at h1
    by_cases h2 : -b < b
    · rw [if_pos h2]
      by_cases h3 : b < n
      · rw [if_pos h3]
      · rw [if_neg h3, if_neg (show ¬ n < -b by rw [zlt] at h2 h3 ⊢; omega)]
        rw [zeq]; rw [zlt] at h3; omega
    · rw [if_neg h2]
      rw [zlt] at h2
      by_cases h3 : b < n
      · rw [if_pos h3, zeq]; omega
      · rw [if_neg h3]
        rw [zlt] at h3
        by_cases h4 : n < -b
        · rw [if_pos h4]
        · rw [if_neg h4, zeq]; rw [zlt] at h4; omega
theorem zheld_1 {n b : Int32} (h : ¬ n ≤ b) : b = zheld n b := by unfold zheld; rw [if_pos (znot_le h)]
theorem zheld_2 {n b : Int32} (h1 : n ≤ b) (h2 : ¬ -b ≤ n) : -b = zheld n b := by
  unfold zheld; rw [if_neg (fun h => by rw [zlt] at h; rw [zle2] at h1; omega), if_pos (znot_le h2)]
theorem zheld_3 {n b : Int32} (h1 : n ≤ b) (h2 : -b ≤ n) : n = zheld n b := by
  unfold zheld; rw [if_neg (fun h => by rw [zlt] at h; rw [zle2] at h1; omega), if_neg (fun h => by rw [zlt] at h; rw [zle2] at h2; omega)]
/-- a loop's memory: f i is what the body does at i -/
def zitr (f : Nat → zM → zM) : Nat → zM → zM
  | 0, μ => μ
  | i + 1, μ => f i (zitr f i μ)
theorem zitr_k {f : Nat → zM → zM} {b : Nat} (h : ∀ i μ, f i μ b = μ b) : ∀ {n : Nat} {μ : zM}, zitr f n μ b = μ b
  | 0, _ => rfl
  | n + 1, μ => (h n _).trans (zitr_k h)
theorem upd_s (f : Nat → Int32) (k : Nat) (x : Int32) : upd f k x k = x := if_pos rfl
theorem upd_n (f : Nat → Int32) {k j : Nat} (x : Int32) (h : j ≠ k) : upd f k x j = f j := if_neg h
theorem zitr_b {f : Nat → zM → zM} {b : Nat} : ∀ {n : Nat} {μ : zM}, (∀ i μ, i < n → f i μ b = μ b) → zitr f n μ b = μ b
  | 0, _, _ => rfl
  | n + 1, μ, h => (h n _ (Nat.lt_succ_self n)).trans (zitr_b (fun i μ hi => h i μ (Nat.lt_succ_of_lt hi)))
