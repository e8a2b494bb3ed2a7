/-- the ends of a link -/
def zEnd (μ : zM) (k x y : Nat) : Prop := μ 43 k = nI x ∧ μ 44 k = nI y ∧ x < 6 ∧ y < 6 ∧ x ≠ y
def zI9 (v : Nat) : Int32 := if v = 9 then -1 else nI v
theorem zoN_v (x y c : Nat) : zoN x y c = x ∨ zoN x y c = y ∨ zoN x y c = 9 := by
  unfold zoN
  split
  · exact Or.inr (Or.inl rfl)
  · split
    · exact Or.inl rfl
    · exact Or.inr (Or.inr rfl)
theorem zI9_ne : ∀ v, v < 10 → (zI9 v = -1 ↔ v = 9) := by decide
theorem zI9_eq : ∀ v, v < 10 → ∀ w, w < 6 → (zI9 v = nI w ↔ v = w) := by decide
theorem zEnd.lt {μ : zM} {k x y c : Nat} (h : zEnd μ k x y) : zoN x y c < 10 := by
  obtain ⟨-, -, h1, h2, -⟩ := h
  rcases zoN_v x y c with e | e | e <;> omega
theorem zEnd.oe {μ : zM} {k x y c : Nat} (h : zEnd μ k x y) (hc : c < 6) : zoeM μ k (nI c) = zI9 (zoN x y c) := by
  obtain ⟨e1, e2, h1, h2, h3⟩ := h
  unfold zoeM zoN zI9
  rw [e1, e2]
  by_cases a : x = c
  · rw [if_pos (show nI x = nI c by rw [a]), if_pos (show (x == c) = true by rw [a]; exact beq_self_eq_true _), if_neg (by omega)]
  · rw [if_neg (show ¬ nI x = nI c from fun e => a ((nI_eq (by omega) (by omega)).mp e)), if_neg (show ¬ (x == c) = true by rw [beq_iff_eq]; exact a)]
    by_cases b : y = c
    · rw [if_pos (show nI y = nI c by rw [b]), if_pos (show (y == c) = true by rw [b]; exact beq_self_eq_true _), if_neg (by omega)]
    · rw [if_neg (show ¬ nI y = nI c from fun e => b ((nI_eq (by omega) (by omega)).mp e)), if_neg (show ¬ (y == c) = true by rw [beq_iff_eq]; exact b), if_pos rfl]
theorem zEnd.lt6 {μ : zM} {k x y c : Nat} (h : zEnd μ k x y) (g : ¬ zoN x y c = 9) : zoN x y c < 6 := by
  rcases zoN_v x y c with e | e | e
  · rw [e]; exact h.2.2.1
  · rw [e]; exact h.2.2.2.1
  · exact absurd e g
theorem zxorI (a b : Nat) : nI a ^^^ nI b = nI (a ^^^ b) := by
  apply Int32.toBitVec_inj.mp
  rw [Int32.toBitVec_xor]
  show BitVec.ofNat 32 a ^^^ BitVec.ofNat 32 b = BitVec.ofNat 32 (a ^^^ b)
  exact BitVec.ofNat_xor.symm
section
variable {μ : zM} {a b c a1 a2 b1 b2 c1 c2 : Nat}
theorem zne_B (Ea : zEnd μ a a1 a2) (Eb : zEnd μ b b1 b2) (h : ¬ zoN b1 b2 a2 = 9) : zneM μ a b c = b := by
  unfold zneM
  rw [Ea.2.1, Eb.oe Ea.2.2.2.1, if_neg (fun e => h ((zI9_ne _ Eb.lt).mp e))]
theorem zne_C (Ea : zEnd μ a a1 a2) (Eb : zEnd μ b b1 b2) (h : zoN b1 b2 a2 = 9) : zneM μ a b c = c := by
  unfold zneM
  rw [Ea.2.1, Eb.oe Ea.2.2.2.1, if_pos ((zI9_ne _ Eb.lt).mpr h)]
theorem zla_B (h : zneM μ a b c = b) : zlaM μ a b c = c := by unfold zlaM; rw [if_pos h]
theorem zla_C (h : zneM μ a b c = c) (hbc : b ≠ c) : zlaM μ a b c = b := by unfold zlaM; rw [h, if_neg (fun e => hbc e.symm)]
theorem zri_N (Ea : zEnd μ a a1 a2) (Eb : zEnd μ b b1 b2) (Ec : zEnd μ c c1 c2) (hbc : b ≠ c) : zriM μ a b c ↔ zrN a1 a2 b1 b2 c1 c2 = true := by
  have ha1 := Ea.2.2.1
  have ha2 := Ea.2.2.2.1
  unfold zriM zrN
  by_cases h : zoN b1 b2 a2 = 9
  · have e1 : zneM μ a b c = c := zne_C Ea Eb h
    have e2 : zlaM μ a b c = b := zla_C e1 hbc
    rw [e1, e2, Ea.2.1, Ea.1, Ec.oe ha2]
    have hb : (!(zoN b1 b2 a2 == 9)) = false := by rw [h]; rfl
    simp only [hb, Bool.false_eq_true, if_false]
    rw [zI9_ne _ Ec.lt, zI9_eq _ Ec.lt _ ha1]
    simp only [Bool.and_eq_true, Bool.not_eq_true', beq_eq_false_iff_ne, beq_iff_eq]
    by_cases g : zoN c1 c2 a2 = 9
    · constructor
      · intro z; exact absurd g z.1
      · intro z; exact absurd g z.1.1
    · have ht : zoN c1 c2 a2 < 6 := Ec.lt6 g
      rw [show zI9 (zoN c1 c2 a2) = nI (zoN c1 c2 a2) from if_neg g, Eb.oe ht, zI9_eq _ Eb.lt _ ha1]
      constructor
      · intro z; exact ⟨⟨z.1, z.2.1⟩, z.2.2⟩
      · intro z; exact ⟨z.1.1, z.1.2, z.2⟩
  · have e1 : zneM μ a b c = b := zne_B Ea Eb h
    have e2 : zlaM μ a b c = c := zla_B e1
    rw [e1, e2, Ea.2.1, Ea.1, Eb.oe ha2]
    have hb : (!(zoN b1 b2 a2 == 9)) = true := by rw [Bool.not_eq_true', beq_eq_false_iff_ne]; exact h
    simp only [hb, if_true]
    rw [zI9_ne _ Eb.lt, zI9_eq _ Eb.lt _ ha1]
    simp only [Bool.and_eq_true, Bool.not_eq_true', beq_eq_false_iff_ne, beq_iff_eq]
    have ht : zoN b1 b2 a2 < 6 := Eb.lt6 h
    rw [show zI9 (zoN b1 b2 a2) = nI (zoN b1 b2 a2) from if_neg h, Ec.oe ht, zI9_eq _ Ec.lt _ ha1]
    constructor
    · intro z; exact ⟨⟨trivial, z.2.1⟩, z.2.2⟩
    · intro z; exact ⟨h, z.1.2, z.2⟩
theorem zbits_N : ∀ x, x < 6 → ∀ y, y < 6 → zbits (nI x) (nI y) = nI (2 ^ x ||| 2 ^ y) := by decide
theorem zbl : ∀ x, x < 6 → ∀ y, y < 6 → 2 ^ x ||| 2 ^ y < 2 ^ 6 := by decide
theorem zx_N (h7 : μ 7 = μ 43) (h8 : μ 8 = μ 44) (Ea : zEnd μ a a1 a2) (Eb : zEnd μ b b1 b2) (Ec : zEnd μ c c1 c2) : zbits (μ 7 a) (μ 8 a) ^^^ zbits (μ 7 b) (μ 8 b) ^^^ zbits (μ 7 c) (μ 8 c) = 0 ↔ zxN a1 a2 b1 b2 c1 c2 = true := by
  rw [h7, h8, Ea.1, Ea.2.1, Eb.1, Eb.2.1, Ec.1, Ec.2.1, zbits_N _ Ea.2.2.1 _ Ea.2.2.2.1, zbits_N _ Eb.2.2.1 _ Eb.2.2.2.1, zbits_N _ Ec.2.2.1 _ Ec.2.2.2.1, zxorI, zxorI]
  have l1 : ((2 ^ a1 ||| 2 ^ a2) ^^^ (2 ^ b1 ||| 2 ^ b2) ^^^ (2 ^ c1 ||| 2 ^ c2)) < 2 ^ 6 := Nat.xor_lt_two_pow (Nat.xor_lt_two_pow (zbl _ Ea.2.2.1 _ Ea.2.2.2.1) (zbl _ Eb.2.2.1 _ Eb.2.2.2.1)) (zbl _ Ec.2.2.1 _ Ec.2.2.2.1)
  unfold zxN
  rw [beq_iff_eq]
  exact nI_eq (b := 0) (Nat.lt_trans l1 (by decide)) (by decide)
theorem zring_iff (h7 : μ 7 = μ 43) (h8 : μ 8 = μ 44) (Ea : zEnd μ a a1 a2) (Eb : zEnd μ b b1 b2) (Ec : zEnd μ c c1 c2) (hbc : b ≠ c) : zriM μ a b c ↔ zbits (μ 7 a) (μ 8 a) ^^^ zbits (μ 7 b) (μ 8 b) ^^^ zbits (μ 7 c) (μ 8 c) = 0 := by
  rw [zri_N Ea Eb Ec hbc, zx_N h7 h8 Ea Eb Ec]
  have h := zkN_t Ea.2.2.1 Ea.2.2.2.1 Eb.2.2.1 Eb.2.2.2.1 Ec.2.2.1 Ec.2.2.2.1 Ea.2.2.2.2 Eb.2.2.2.2 Ec.2.2.2.2
  unfold zkN at h
  simp only [Bool.and_eq_true, beq_iff_eq] at h
  rw [h.1]
theorem zsg_B {P Q : Prop} [Decidable P] [Decidable Q] (h : P ↔ Q) : (if P then (1 : Int32) else -1) = if Q then 1 else -1 := by
  by_cases p : P
  · rw [if_pos p, if_pos (h.mp p)]
  · rw [if_neg p, if_neg (fun q => p (h.mpr q))]
theorem zbq {x y : Nat} {p : Prop} [Decidable p] {B : Bool} (h : (x == y) = B) (hB : B = true ↔ p) : x = y ↔ p := by
  rw [← hB, ← h, beq_iff_eq]
theorem zsum_eq (h7 : μ 7 = μ 43) (h8 : μ 8 = μ 44) (Ea : zEnd μ a a1 a2) (Eb : zEnd μ b b1 b2) (Ec : zEnd μ c c1 c2) (hbc : b ≠ c) (hr : zriM μ a b c) {q : Nat} (ka : zcorM μ a q = zcorX μ a q) (kb : zcorM μ b q = zcorX μ b q) (kc : zcorM μ c q = zcorX μ c q) : zsumM μ q (a, b, c) = zsum μ q (a, b, c) := by
  have h := zkN_t Ea.2.2.1 Ea.2.2.2.1 Eb.2.2.1 Eb.2.2.2.1 Ec.2.2.1 Ec.2.2.2.1 Ea.2.2.2.2 Eb.2.2.2.2 Ec.2.2.2.2
  have hr2 := (zri_N Ea Eb Ec hbc).mp hr
  unfold zkN at h
  simp only [Bool.and_eq_true] at h
  have h := h.2
  rw [hr2] at h
  simp only [Bool.not_true, Bool.false_or] at h
  have sa : zsgM μ a (μ 43 a) = 1 := by unfold zsgM; exact if_pos rfl
  have gb : zsgn μ a b = if b1 = a2 ∨ b2 = a1 then 1 else -1 := by
    unfold zsgn
    rw [h7, h8, Eb.1, Eb.2.1, Ea.1, Ea.2.1]
    exact zsg_B (or_congr (nI_eq (by have := Eb.2.2.1; omega) (by have := Ea.2.2.2.1; omega)) (nI_eq (by have := Eb.2.2.2.1; omega) (by have := Ea.2.2.1; omega)))
  have gc : zsgn μ a c = if c1 = a2 ∨ c2 = a1 then 1 else -1 := by
    unfold zsgn
    rw [h7, h8, Ec.1, Ec.2.1, Ea.1, Ea.2.1]
    exact zsg_B (or_congr (nI_eq (by have := Ec.2.2.1; omega) (by have := Ea.2.2.2.1; omega)) (nI_eq (by have := Ec.2.2.2.1; omega) (by have := Ea.2.2.1; omega)))
  unfold zsumM zsum
  simp only []
  rw [sa, ka]
  by_cases g : zoN b1 b2 a2 = 9
  · have e1 : zneM μ a b c = c := zne_C Ea Eb g
    have e2 : zlaM μ a b c = b := zla_C e1 hbc
    have hb : (!(zoN b1 b2 a2 == 9)) = false := by rw [g]; rfl
    simp only [hb, Bool.false_eq_true, if_false, Bool.and_eq_true, beq_iff_eq] at h
    have ht := hr.1
    rw [e1, Ea.2.1, Ec.oe Ea.2.2.2.1, zI9_ne _ Ec.lt] at ht
    have ht6 : zoN c1 c2 a2 < 6 := Ec.lt6 ht
    rw [e1, e2, kb, kc]
    have s1 : zsgM μ c (μ 44 a) = zsgn μ a c := by
      rw [gc]; unfold zsgM
      rw [Ec.1, Ea.2.1]
      exact zsg_B ((nI_eq (by have := Ec.2.2.1; omega) (by have := Ea.2.2.2.1; omega)).trans (zbq h.1 (by rw [Bool.or_eq_true, beq_iff_eq, beq_iff_eq])))
    have s2 : zsgM μ b (zoeM μ c (μ 44 a)) = zsgn μ a b := by
      rw [gb]; unfold zsgM
      rw [Eb.1, Ea.2.1, Ec.oe Ea.2.2.2.1, show zI9 (zoN c1 c2 a2) = nI (zoN c1 c2 a2) from if_neg ht]
      exact zsg_B ((nI_eq (by have := Eb.2.2.1; omega) (by omega)).trans (zbq h.2 (by rw [Bool.or_eq_true, beq_iff_eq, beq_iff_eq])))
    rw [s1, s2, Int32.zero_add, Int32.one_mul, Int32.add_assoc, Int32.add_comm (zsgn μ a c * _), ← Int32.add_assoc]
  · have e1 : zneM μ a b c = b := zne_B Ea Eb g
    have e2 : zlaM μ a b c = c := zla_B e1
    have hb : (!(zoN b1 b2 a2 == 9)) = true := by rw [Bool.not_eq_true', beq_eq_false_iff_ne]; exact g
    simp only [hb, if_true, Bool.and_eq_true, beq_iff_eq] at h
    have ht6 : zoN b1 b2 a2 < 6 := Eb.lt6 g
    rw [e1, e2, kb, kc]
    have s1 : zsgM μ b (μ 44 a) = zsgn μ a b := by
      rw [gb]; unfold zsgM
      rw [Eb.1, Ea.2.1]
      exact zsg_B ((nI_eq (by have := Eb.2.2.1; omega) (by have := Ea.2.2.2.1; omega)).trans (zbq h.1 (by rw [Bool.or_eq_true, beq_iff_eq, beq_iff_eq])))
    have s2 : zsgM μ c (zoeM μ b (μ 44 a)) = zsgn μ a c := by
      rw [gc]; unfold zsgM
      rw [Ec.1, Ea.2.1, Eb.oe Ea.2.2.2.1, show zI9 (zoN b1 b2 a2) = nI (zoN b1 b2 a2) from if_neg g]
      exact zsg_B ((nI_eq (by have := Ec.2.2.1; omega) (by omega)).trans (zbq h.2 (by rw [Bool.or_eq_true, beq_iff_eq, beq_iff_eq])))
    rw [s1, s2, Int32.zero_add, Int32.one_mul]
end
