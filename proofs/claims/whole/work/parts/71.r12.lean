theorem zslM_b (μ ν : zM) (q n L : Nat) : ∀ P, zbst (fun p => zcnt (zbdM (zly n p ν)) L = 0) (fun p => zcsM μ q p n) 0 P 9 (-1) (zslM μ ν q n L P).2 (zslM μ ν q n L P).1
  | 0 => zbst.no (fun p a b _ => by omega)
  | P + 1 => by
    refine zbst.go (mid := P) (Nat.zero_le _) (by omega) (zslM_b μ ν q n L P) ?_
    rw [zslM]
    by_cases h : zcsM μ q P n < (zslM μ ν q n L P).2 ∧ zcnt (zbdM (zly n P ν)) L = 0
    · rw [if_pos h]
      refine Or.inr ⟨P, Nat.le_refl _, by omega, h.2, h.1, rfl, rfl, fun p a b _ => ?_⟩
      rw [show p = P by omega]
      exact ⟨Nat.le_refl _, fun z => absurd z (Nat.lt_irrefl _)⟩
    · rw [if_neg h]
      refine zbst.no (fun p a b hq => ?_)
      have e : p = P := by omega
      subst e
      exact Nat.le_of_not_lt (fun z => h ⟨z, hq⟩)
section
variable {μ : zM} {a b c a1 a2 b1 b2 c1 c2 : Nat}
theorem zsign (h7 : μ 7 = μ 43) (h8 : μ 8 = μ 44) (Ea : zEnd μ a a1 a2) (Eb : zEnd μ b b1 b2) (Ec : zEnd μ c c1 c2) (hbc : b ≠ c) (hr : zriM μ a b c) :
    (zneM μ a b c = b ∧ zlaM μ a b c = c ∧ zs1 μ (a, b, c) = zsgn μ a b ∧ zs2 μ (a, b, c) = zsgn μ a c) ∨ (zneM μ a b c = c ∧ zlaM μ a b c = b ∧ zs1 μ (a, b, c) = zsgn μ a c ∧ zs2 μ (a, b, c) = zsgn μ a b) := by
  have h := zkN_t Ea.2.2.1 Ea.2.2.2.1 Eb.2.2.1 Eb.2.2.2.1 Ec.2.2.1 Ec.2.2.2.1 Ea.2.2.2.2 Eb.2.2.2.2 Ec.2.2.2.2
  have hr2 := (zri_N Ea Eb Ec hbc).mp hr
  unfold zkN at h
  simp only [Bool.and_eq_true] at h
  have h := h.2
  rw [hr2] at h
  simp only [Bool.not_true, Bool.false_or] at h
  have gb : zsgn μ a b = if b1 = a2 ∨ b2 = a1 then 1 else -1 := by
    unfold zsgn
    rw [h7, h8, Eb.1, Eb.2.1, Ea.1, Ea.2.1]
    exact zsg_B (or_congr (nI_eq (by have := Eb.2.2.1; omega) (by have := Ea.2.2.2.1; omega)) (nI_eq (by have := Eb.2.2.2.1; omega) (by have := Ea.2.2.1; omega)))
  have gc : zsgn μ a c = if c1 = a2 ∨ c2 = a1 then 1 else -1 := by
    unfold zsgn
    rw [h7, h8, Ec.1, Ec.2.1, Ea.1, Ea.2.1]
    exact zsg_B (or_congr (nI_eq (by have := Ec.2.2.1; omega) (by have := Ea.2.2.2.1; omega)) (nI_eq (by have := Ec.2.2.2.1; omega) (by have := Ea.2.2.1; omega)))
  unfold zs1 zs2
  simp only []
  by_cases g : zoN b1 b2 a2 = 9
  · have e1 : zneM μ a b c = c := zne_C Ea Eb g
    have e2 : zlaM μ a b c = b := zla_C e1 hbc
    have hb : (!(zoN b1 b2 a2 == 9)) = false := by rw [g]; rfl
    simp only [hb, Bool.false_eq_true, if_false, Bool.and_eq_true, beq_iff_eq] at h
    have ht := hr.1
    rw [e1, Ea.2.1, Ec.oe Ea.2.2.2.1, zI9_ne _ Ec.lt] at ht
    have ht6 : zoN c1 c2 a2 < 6 := Ec.lt6 ht
    refine Or.inr ⟨e1, e2, ?_, ?_⟩
    · rw [e1, gc]; unfold zsgM
      rw [Ec.1, Ea.2.1]
      exact zsg_B ((nI_eq (by have := Ec.2.2.1; omega) (by have := Ea.2.2.2.1; omega)).trans (zbq h.1 (by rw [Bool.or_eq_true, beq_iff_eq, beq_iff_eq])))
    · rw [e1, e2, gb]; unfold zsgM
      rw [Eb.1, Ea.2.1, Ec.oe Ea.2.2.2.1, show zI9 (zoN c1 c2 a2) = nI (zoN c1 c2 a2) from if_neg ht]
      exact zsg_B ((nI_eq (by have := Eb.2.2.1; omega) (by omega)).trans (zbq h.2 (by rw [Bool.or_eq_true, beq_iff_eq, beq_iff_eq])))
  · have e1 : zneM μ a b c = b := zne_B Ea Eb g
    have e2 : zlaM μ a b c = c := zla_B e1
    have hb : (!(zoN b1 b2 a2 == 9)) = true := by rw [Bool.not_eq_true', beq_eq_false_iff_ne]; exact g
    simp only [hb, if_true, Bool.and_eq_true, beq_iff_eq] at h
    have ht6 : zoN b1 b2 a2 < 6 := Eb.lt6 g
    refine Or.inl ⟨e1, e2, ?_, ?_⟩
    · rw [e1, gb]; unfold zsgM
      rw [Eb.1, Ea.2.1]
      exact zsg_B ((nI_eq (by have := Eb.2.2.1; omega) (by have := Ea.2.2.2.1; omega)).trans (zbq h.1 (by rw [Bool.or_eq_true, beq_iff_eq, beq_iff_eq])))
    · rw [e1, e2, gc]; unfold zsgM
      rw [Ec.1, Ea.2.1, Eb.oe Ea.2.2.2.1, show zI9 (zoN b1 b2 a2) = nI (zoN b1 b2 a2) from if_neg g]
      exact zsg_B ((nI_eq (by have := Ec.2.2.1; omega) (by omega)).trans (zbq h.2 (by rw [Bool.or_eq_true, beq_iff_eq, beq_iff_eq])))
end
theorem zalg (S A B C : Int32) : S - 1000 * A - 1000 * B - 1000 * C = S - 1000 * (A + B + C) := by
  rw [Int32.mul_add, Int32.mul_add, Int32.sub_eq_add_neg, Int32.sub_eq_add_neg, Int32.sub_eq_add_neg, Int32.sub_eq_add_neg, Int32.neg_add, Int32.sub_eq_add_neg, Int32.neg_add, Int32.sub_eq_add_neg, Int32.add_assoc, Int32.add_assoc, Int32.add_assoc]
theorem zcnt_0 {f : Nat → Bool} : ∀ n, zcnt f n = 0 ↔ ∀ j, j < n → f j = false
  | 0 => ⟨fun _ j h => absurd h (Nat.not_lt_zero j), fun _ => rfl⟩
  | n + 1 => by
    rw [zcnt]
    constructor
    · intro h j hj
      have ih := (zcnt_0 (f := f) n).mp (by omega)
      rcases Nat.lt_or_ge j n with q | q
      · exact ih j q
      · rw [show j = n by omega]
        cases hf : f n with
        | false => rfl
        | true => rw [hf] at h; simp at h
    · intro h
      rw [(zcnt_0 (f := f) n).mpr (fun j hj => h j (by omega)), h n (by omega)]; rfl
/-! numbers from digits -/
def zenc (f : Nat → Nat) : Nat → Nat
  | 0 => 0
  | n + 1 => zenc f n + f n * 3 ^ n
theorem zenc_lt {f : Nat → Nat} (hf : ∀ i, f i < 3) : ∀ n, zenc f n < 3 ^ n
  | 0 => Nat.one_pos
  | n + 1 => by
    rw [zenc, Nat.pow_succ]
    have := zenc_lt hf n
    have : f n * 3 ^ n ≤ 2 * 3 ^ n := Nat.mul_le_mul_right _ (by have := hf n; omega)
    omega
theorem zdig_add (a m n i : Nat) (hi : i < n) : zdig (a + m * 3 ^ n) i = zdig a i := by
  unfold zdig
  obtain ⟨j, rfl⟩ : ∃ j, n = i + 1 + j := ⟨n - i - 1, by omega⟩
  have e : m * 3 ^ (i + 1 + j) = 3 ^ i * (3 * (m * 3 ^ j)) := by
    rw [Nat.pow_add, Nat.pow_succ]
    simp only [Nat.mul_assoc, Nat.mul_comm, Nat.mul_left_comm]
  rw [e, Nat.add_mul_div_left _ _ (Nat.pow_pos (by decide))]
  omega
theorem zenc_d {f : Nat → Nat} (hf : ∀ i, f i < 3) : ∀ n i, i < n → zdig (zenc f n) i = f i
  | 0, _, h => absurd h (Nat.not_lt_zero _)
  | n + 1, i, h => by
    rw [zenc]
    by_cases e : i = n
    · subst e
      unfold zdig
      rw [Nat.add_mul_div_right _ _ (Nat.pow_pos (by decide)), Nat.div_eq_of_lt (zenc_lt hf i), Nat.zero_add]
      exact Nat.mod_eq_of_lt (hf i)
    · rw [zdig_add _ _ _ _ (by omega)]
      exact zenc_d hf n i (by omega)
/-! costs -/
theorem zcs_x {μ : zM} {q p : Nat} : ∀ i, (∀ j, j < i → zdig p j ≠ 1 → zmeaM μ (nI j) (nI q)) → zcsM μ q p i = zcnt (fun j => decide (0 ≤ j ∧ zdig p j ≠ 1)) i
  | 0, _ => rfl
  | i + 1, h => by
    rw [zcsM, zcnt, zcs_x i (fun j hj => h j (by omega))]
    by_cases e : zdig p i = 1
    · rw [if_pos e, decide_eq_false (fun z => z.2 e)]; rfl
    · rw [if_neg e, if_pos (h i (by omega) e), decide_eq_true ⟨Nat.zero_le _, e⟩]; rfl
theorem zcs_9 {μ : zM} {q p : Nat} : ∀ i, zcsM μ q p i < 9 → ∀ j, j < i → zdig p j ≠ 1 → zmeaM μ (nI j) (nI q)
  | 0, _, j, hj, _ => absurd hj (Nat.not_lt_zero j)
  | i + 1, h, j, hj, hd => by
    rw [zcsM] at h
    rcases Nat.lt_or_ge j i with g | g
    · exact zcs_9 i (by omega) j g hd
    · have e : j = i := by omega
      subst e
      rw [if_neg hd] at h
      by_cases m : zmeaM μ (nI j) (nI q)
      · exact m
      · rw [if_neg m] at h; omega
