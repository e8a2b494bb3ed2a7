/-! ===== bounds ===== -/
def zbn (x : Int32) (B : Nat) : Prop := -(B : Int) ≤ x.toInt ∧ x.toInt ≤ (B : Int)
theorem zbm {z : Int} (h1 : -2147483648 ≤ z) (h2 : z < 2147483648) : z.bmod (2 ^ 32) = z := by
  unfold Int.bmod; simp only [show ((2 ^ 32 : Nat) : Int) = 4294967296 from rfl]; split <;> omega
theorem zbm8 {z : Int} (h1 : -9223372036854775808 ≤ z) (h2 : z < 9223372036854775808) : z.bmod (2 ^ 64) = z := by
  unfold Int.bmod; simp only [show ((2 ^ 64 : Nat) : Int) = 18446744073709551616 from rfl]; split <;> omega
theorem zbn.le {x : Int32} {A B : Nat} (h : zbn x A) (hAB : A ≤ B) : zbn x B := by unfold zbn at *; omega
theorem zti_add {x y : Int32} {A B : Nat} (h : zbn x A) (g : zbn y B) (hb : A + B < 2 ^ 31) : (x + y).toInt = x.toInt + y.toInt := by
  rw [Int32.toInt_add]; unfold zbn at *; exact zbm (by omega) (by omega)
theorem zti_sub {x y : Int32} {A B : Nat} (h : zbn x A) (g : zbn y B) (hb : A + B < 2 ^ 31) : (x - y).toInt = x.toInt - y.toInt := by
  rw [Int32.toInt_sub]; unfold zbn at *; exact zbm (by omega) (by omega)
theorem zti_neg {x : Int32} {A : Nat} (h : zbn x A) (hb : A < 2 ^ 31) : (-x).toInt = -x.toInt := by
  rw [Int32.toInt_neg]; unfold zbn at *; exact zbm (by omega) (by omega)
theorem zbn.add {x y : Int32} {A B : Nat} (h : zbn x A) (g : zbn y B) (hb : A + B < 2 ^ 31) : zbn (x + y) (A + B) := by
  unfold zbn; rw [zti_add h g hb]; unfold zbn at *; omega
theorem zbn.sub {x y : Int32} {A B : Nat} (h : zbn x A) (g : zbn y B) (hb : A + B < 2 ^ 31) : zbn (x - y) (A + B) := by
  unfold zbn; rw [zti_sub h g hb]; unfold zbn at *; omega
theorem zbn.neg {x : Int32} {A : Nat} (h : zbn x A) (hb : A < 2 ^ 31) : zbn (-x) A := by
  unfold zbn; rw [zti_neg h hb]; unfold zbn at *; omega
theorem zmul_b {a b : Int} {A B : Nat} (h1 : -(A : Int) ≤ a) (h2 : a ≤ A) (h3 : -(B : Int) ≤ b) (h4 : b ≤ B) : -((A * B : Nat) : Int) ≤ a * b ∧ a * b ≤ ((A * B : Nat) : Int) := by
  have h : (a * b).natAbs ≤ A * B := by rw [Int.natAbs_mul]; exact Nat.mul_le_mul (by omega) (by omega)
  omega
theorem zti_mul {x y : Int32} {A B : Nat} (h : zbn x A) (g : zbn y B) (hb : A * B < 2 ^ 31) : (x * y).toInt = x.toInt * y.toInt := by
  rw [Int32.toInt_mul]
  have := zmul_b h.1 h.2 g.1 g.2
  exact zbm (by omega) (by omega)
theorem zbn.mul {x y : Int32} {A B : Nat} (h : zbn x A) (g : zbn y B) (hb : A * B < 2 ^ 31) : zbn (x * y) (A * B) := by
  unfold zbn; rw [zti_mul h g hb]; exact zmul_b h.1 h.2 g.1 g.2
theorem zbn_0 : zbn 0 0 := by unfold zbn; decide
theorem zbn_sg (P : Prop) [Decidable P] : zbn (if P then 1 else -1) 1 := by split <;> (unfold zbn; decide)
theorem zbn_held (x : Int32) {b : Int32} {B : Nat} (hb : b = nI B) (hB : B < 2 ^ 31) : zbn (zheld x b) B := by
  have e : b.toInt = (B : Int) := by rw [hb]; exact nI_toInt hB
  have e2 : (-b).toInt = -(B : Int) := by rw [Int32.toInt_neg, e]; exact zbm (by omega) (by omega)
  unfold zheld zbn
  split
  · omega
  · rename_i h1
    split
    · omega
    · rename_i h2
      rw [zlt] at h1 h2
      omega
/-- above a bound, either way -/
theorem zabs_d {x d : Int32} {B : Nat} (h : zbn x B) (hB : B < 2 ^ 31) (h0 : 0 ≤ d) (h9 : d ≤ 499) : d < zabs x ↔ (d < x ∨ x < -d) := by
  have d0 : 0 ≤ d.toInt := by rw [zle2] at h0; exact h0
  have d9 : d.toInt ≤ 499 := by rw [zle2] at h9; exact h9
  have en : (-d).toInt = -d.toInt := by rw [Int32.toInt_neg]; exact zbm (by omega) (by omega)
  unfold zbn at h
  unfold zabs
  split
  · rename_i g
    rw [zle2] at g
    rw [zlt, zlt, en]
    have : (0 : Int32).toInt = 0 := rfl
    omega
  · rename_i g
    rw [zle2] at g
    have e0 : (0 : Int32).toInt = 0 := rfl
    have ez : (0 - x).toInt = -x.toInt := by rw [Int32.toInt_sub, e0]; rw [show (0 : Int) - x.toInt = -x.toInt by omega]; exact zbm (by omega) (by omega)
    rw [zlt, zlt, zlt, en, ez]
    omega
/-- the bounds of the memory; A events were told so far -/
def zBn (μ : zM) (t c A : Nat) : Prop :=
  (∀ i, zbn (μ 6 i) (5050 * t)) ∧ (∀ i, zbn (μ 2 i) 5000) ∧ (∀ i, zbn (μ 5 i) 5000) ∧ (∀ i, zbn (μ 9 i) 50) ∧ (∀ i, ∃ B, zbn (μ 10 i) B ∧ B + 3 * c ≤ 3 * A) ∧
  (∀ k, k < 8 → ∀ d, zbn (μ (22 + k) d) 6600000) ∧ (∀ i, zbn (μ 56 i) 10000) ∧ (0 ≤ μ 63 1 ∧ μ 63 1 ≤ 499) ∧ A ≤ 512
theorem zof_b {μ : zM} (h : ∀ i, zbn (μ 56 i) 10000) (k q : Nat) : ∀ j, j ≤ 100 → zbn (zof μ k q j) (10000 * j)
  | 0, _ => zbn_0
  | j + 1, hj => by
    rw [zof, show 10000 * (j + 1) = 10000 * j + 10000 by omega]
    refine (zof_b h k q j (by omega)).add ?_ (by omega)
    split
    · exact h _
    · exact zbn_0.le (by omega)
theorem zcorX_b {μ : zM} {t c A : Nat} (hb : zBn μ t c A) (ho : zRo μ) (hg : zGv μ) {k q : Nat} (hk : k < 8) (hq : q ≤ 500) : zbn (zcorX μ k q) 6700000 := by
  obtain ⟨g, h1, h2⟩ := hg k hk
  have ho := ho k hk q hq
  rw [h2, nI_clamp (by omega)] at ho
  unfold zcorX
  rw [ho]
  exact ((hb.2.2.2.2.2.1 k hk q).sub (zof_b hb.2.2.2.2.2.2.1 k q g (by omega)) (by omega)).le (by omega)
theorem zsgn_b (μ : zM) (k j : Nat) : zbn (zsgn μ k j) 1 := zbn_sg _
theorem zsum_b {μ : zM} {t c A : Nat} (hb : zBn μ t c A) (ho : zRo μ) (hg : zGv μ) {x : z3} (h1 : x.1 < 8) (h2 : x.2.1 < 8) (h3 : x.2.2 < 8) {q : Nat} (hq : q ≤ 500) : zbn (zsum μ q x) 20100000 := by
  have b1 := zcorX_b hb ho hg h1 hq
  have b2 := (zsgn_b μ x.1 x.2.1).mul (zcorX_b hb ho hg h2 hq) (by decide)
  have b3 := (zsgn_b μ x.1 x.2.2).mul (zcorX_b hb ho hg h3 hq) (by decide)
  unfold zsum
  exact ((b1.add b2 (by decide)).add b3 (by decide)).le (by decide)
theorem zopn_eq {μ : zM} {t c nc n q A : Nat} (hw : zRw μ) (hs : zRs μ) (hr : zRr μ) (ho : zRo μ) (HX : zCI μ t c nc n) (HM : zMI μ t c nc n) (hb : zBn μ t c A) (h1 : 1 ≤ q) (hq : q ≤ t) : zopM μ q n = zopen μ q n := by
  have ht := HM.2.1
  have hn := HM.2.2.2.2.2.2.1
  have hg := HM.2.2.2.2.2.2.2.2
  unfold zopM zopen
  rw [← (zgat_pm hw HX HM h1 hq).countP_eq]
  refine List.countP_congr (fun x hx => ?_)
  obtain ⟨a1, a2, a3, -⟩ := zgaM_mem.mp hx
  have b := zsum_b hb ho hg (x := x) (by omega) (by omega) (by omega) (q := q) (by omega)
  rw [decide_eq_true_eq, decide_eq_true_eq, zsum_x hw hr ho HM h1 hq hx, ← hs.1]
  exact (zabs_d b (by decide) hb.2.2.2.2.2.2.2.1.1 hb.2.2.2.2.2.2.2.1.2).symm
theorem z64_ext {a b : Int64} (h : a.toInt = b.toInt) : a = b := Int64.toInt_inj.mp h
/-- a height in ints is a height in longs -/
theorem zhei {x y w d : Int32} {A : Nat} (hx : zbn x A) (hy : zbn y A) (hw : zbn w 1000) (hd : zbn d 500) (hA : A ≤ 100000000) : (x - y - w * d).toInt64 = x.toInt64 - y.toInt64 - w.toInt64 * d.toInt64 := by
  apply z64_ext
  have b1 := hx.sub hy (by omega)
  have b2 := hw.mul hd (by decide)
  have e1 : (x - y - w * d).toInt = x.toInt - y.toInt - w.toInt * d.toInt := by rw [zti_sub b1 b2 (by omega), zti_sub hx hy (by omega), zti_mul hw hd (by decide)]
  have hm := zmul_b hw.1 hw.2 hd.1 hd.2
  unfold zbn at hx hy
  rw [Int32.toInt_toInt64, e1, Int64.toInt_sub, Int64.toInt_sub, Int64.toInt_mul, Int32.toInt_toInt64, Int32.toInt_toInt64, Int32.toInt_toInt64, Int32.toInt_toInt64]
  rw [zbm8 (z := x.toInt - y.toInt) (by omega) (by omega), zbm8 (z := w.toInt * d.toInt) (by omega) (by omega)]
  exact (zbm8 (by omega) (by omega)).symm
