/-! ===== what whole proved of the class's numbers, rings and search (its parts 47 to 82, what speaks of the class alone) ===== -/
/-! ===== bounds ===== -/
def zbn (x : Int32) (B : Nat) : Prop := -(B : Int) ≤ x.toInt ∧ x.toInt ≤ (B : Int)
theorem zbm {z : Int} (h1 : -2147483648 ≤ z) (h2 : z < 2147483648) : z.bmod (2 ^ 32) = z := by
  unfold Int.bmod; simp only [show ((2 ^ 32 : Nat) : Int) = 4294967296 from rfl]; split <;> omega
theorem zbm8 {z : Int} (h1 : -9223372036854775808 ≤ z) (h2 : z < 9223372036854775808) : z.bmod (2 ^ 64) = z := by
  unfold Int.bmod; simp only [show ((2 ^ 64 : Nat) : Int) = 18446744073709551616 from rfl]; split <;> omega
theorem zbn.le {x : Int32} {A B : Nat} (h : zbn x A) (hAB : A ≤ B) : zbn x B := by unfold zbn at *; omega
theorem zti_add {x y : Int32} {A B : Nat} (h : zbn x A) (g : zbn y B) (hb : A + B < 2 ^ 31) : (x + y).toInt = x.toInt + y.toInt := by
  rw [Int32.toInt_add]; unfold zbn at *; exact zbm (by omega) (by omega)
theorem zti_sub {x y : Int32} {A B : Nat} (h : zbn x A) (g : zbn y B) (hb : A + B < 2 ^ 31) : (x - y).toInt = x.toInt - y.toInt := by
  rw [Int32.toInt_sub]; unfold zbn at *; exact zbm (by omega) (by omega)
theorem zti_neg {x : Int32} {A : Nat} (h : zbn x A) (hb : A < 2 ^ 31) : (-x).toInt = -x.toInt := by
  rw [Int32.toInt_neg]; unfold zbn at *; exact zbm (by omega) (by omega)
theorem zbn.add {x y : Int32} {A B : Nat} (h : zbn x A) (g : zbn y B) (hb : A + B < 2 ^ 31) : zbn (x + y) (A + B) := by
  unfold zbn; rw [zti_add h g hb]; unfold zbn at *; omega
theorem zbn.sub {x y : Int32} {A B : Nat} (h : zbn x A) (g : zbn y B) (hb : A + B < 2 ^ 31) : zbn (x - y) (A + B) := by
  unfold zbn; rw [zti_sub h g hb]; unfold zbn at *; omega
theorem zbn.neg {x : Int32} {A : Nat} (h : zbn x A) (hb : A < 2 ^ 31) : zbn (-x) A := by
  unfold zbn; rw [zti_neg h hb]; unfold zbn at *; omega
theorem zmul_b {a b : Int} {A B : Nat} (h1 : -(A : Int) ≤ a) (h2 : a ≤ A) (h3 : -(B : Int) ≤ b) (h4 : b ≤ B) : -((A * B : Nat) : Int) ≤ a * b ∧ a * b ≤ ((A * B : Nat) : Int) := by
  have h : (a * b).natAbs ≤ A * B := by rw [Int.natAbs_mul]; exact Nat.mul_le_mul (by omega) (by omega)
  omega
theorem zti_mul {x y : Int32} {A B : Nat} (h : zbn x A) (g : zbn y B) (hb : A * B < 2 ^ 31) : (x * y).toInt = x.toInt * y.toInt := by
  rw [Int32.toInt_mul]
  have := zmul_b h.1 h.2 g.1 g.2
  exact zbm (by omega) (by omega)
theorem zbn.mul {x y : Int32} {A B : Nat} (h : zbn x A) (g : zbn y B) (hb : A * B < 2 ^ 31) : zbn (x * y) (A * B) := by
  unfold zbn; rw [zti_mul h g hb]; exact zmul_b h.1 h.2 g.1 g.2
theorem zbn_0 : zbn 0 0 := by unfold zbn; decide
theorem zbn_sg (P : Prop) [Decidable P] : zbn (if P then 1 else -1) 1 := by split <;> (unfold zbn; decide)
theorem zbn_held (x : Int32) {b : Int32} {B : Nat} (hb : b = nI B) (hB : B < 2 ^ 31) : zbn (zheld x b) B := by
  have e : b.toInt = (B : Int) := by rw [hb]; exact nI_toInt hB
  have e2 : (-b).toInt = -(B : Int) := by rw [Int32.toInt_neg, e]; exact zbm (by omega) (by omega)
  unfold zheld zbn
  split
  · omega
  · rename_i h1
    split
    · omega
    · rename_i h2
      rw [zlt] at h1 h2
      omega
/-- above a bound, either way -/
theorem zabs_d {x d : Int32} {B : Nat} (h : zbn x B) (hB : B < 2 ^ 31) (h0 : 0 ≤ d) (h9 : d ≤ 499) : d < zabs x ↔ (d < x ∨ x < -d) := by
  have d0 : 0 ≤ d.toInt := by rw [zle2] at h0; exact h0
  have d9 : d.toInt ≤ 499 := by rw [zle2] at h9; exact h9
  have en : (-d).toInt = -d.toInt := by rw [Int32.toInt_neg]; exact zbm (by omega) (by omega)
  unfold zbn at h
  unfold zabs
  split
  · rename_i g
    rw [zle2] at g
    rw [zlt, zlt, en]
    have : (0 : Int32).toInt = 0 := rfl
    omega
  · rename_i g
    rw [zle2] at g
    have e0 : (0 : Int32).toInt = 0 := rfl
    have ez : (0 - x).toInt = -x.toInt := by rw [Int32.toInt_sub, e0]; rw [show (0 : Int) - x.toInt = -x.toInt by omega]; exact zbm (by omega) (by omega)
    rw [zlt, zlt, zlt, en, ez]
    omega
theorem zsgn_b (μ : zM) (k j : Nat) : zbn (zsgn μ k j) 1 := zbn_sg _
theorem z64_ext {a b : Int64} (h : a.toInt = b.toInt) : a = b := Int64.toInt_inj.mp h
theorem zbn_u {f : Nat → Int32} {B : Nat} (h : ∀ i, zbn (f i) B) {k : Nat} {x : Int32} (hx : zbn x B) : ∀ i, zbn (upd f k x i) B := fun i => by
  by_cases e : i = k
  · subst e; rw [upd_s]; exact hx
  · rw [upd_n _ _ e]; exact h i
theorem zbn_div {x : Int32} (h : zbn x 5000) : zbn (x / 100) 50 := by
  unfold zbn at *
  have e100 : (100 : Int32).toInt = 100 := rfl
  have e : (x / 100).toInt = x.toInt.tdiv 100 := by
    rw [Int32.toInt_div, e100]
    have a : x.toInt.tdiv 100 ≤ 50 := by
      rcases Int.le_total 0 x.toInt with p | p
      · rw [Int.tdiv_eq_ediv_of_nonneg p]; omega
      · have q : x.toInt.tdiv 100 ≤ 0 := by
          rw [show x.toInt = -(-x.toInt) by omega, Int.neg_tdiv, Int.tdiv_eq_ediv_of_nonneg (by omega)]; omega
        omega
    have b : -50 ≤ x.toInt.tdiv 100 := by
      rcases Int.le_total 0 x.toInt with p | p
      · rw [Int.tdiv_eq_ediv_of_nonneg p]; omega
      · rw [show x.toInt = -(-x.toInt) by omega, Int.neg_tdiv, Int.tdiv_eq_ediv_of_nonneg (by omega)]; omega
    exact zbm (by omega) (by omega)
  rw [e]
  rcases Int.le_total 0 x.toInt with p | p
  · rw [Int.tdiv_eq_ediv_of_nonneg p]; omega
  · rw [show x.toInt = -(-x.toInt) by omega, Int.neg_tdiv, Int.tdiv_eq_ediv_of_nonneg (by omega)]; omega
theorem zbn_r {x lo hi : Int32} {a b : Int} {B : Nat} (h1 : lo ≤ x) (h2 : x ≤ hi) (e1 : lo.toInt = a) (e2 : hi.toInt = b) (ha : -(B : Int) ≤ a) (hb : b ≤ (B : Int)) : zbn x B := by
  rw [zle2] at h1 h2; unfold zbn; omega
theorem zxorI (a b : Nat) : nI a ^^^ nI b = nI (a ^^^ b) := by
  apply Int32.toBitVec_inj.mp
  rw [Int32.toBitVec_xor]
  show BitVec.ofNat 32 a ^^^ BitVec.ofNat 32 b = BitVec.ofNat 32 (a ^^^ b)
  exact BitVec.ofNat_xor.symm
section
variable {μ : zM} {a b c a1 a2 b1 b2 c1 c2 : Nat}
theorem zbits_N : ∀ x, x < 6 → ∀ y, y < 6 → zbits (nI x) (nI y) = nI (2 ^ x ||| 2 ^ y) := by decide
end
section
variable {μ : zM} {a b c a1 a2 b1 b2 c1 c2 : Nat}
theorem zbl : ∀ x, x < 6 → ∀ y, y < 6 → 2 ^ x ||| 2 ^ y < 2 ^ 6 := by decide
end
def zxN (a1 a2 b1 b2 c1 c2 : Nat) : Bool := ((2 ^ a1 ||| 2 ^ a2) ^^^ (2 ^ b1 ||| 2 ^ b2) ^^^ (2 ^ c1 ||| 2 ^ c2)) == 0
/-! the rings of both, as lists -/
theorem zinn_mem {μ : zM} {t a b s k : Nat} {x : z3} : x ∈ zinn μ t a b s k ↔ x.1 = a ∧ x.2.1 = b ∧ (s ≤ x.2.2 ∧ x.2.2 < s + k) ∧ zPr μ t a b x.2.2 = true := by
  unfold zinn
  rw [List.mem_map]
  constructor
  · rintro ⟨c, hc, rfl⟩
    have h := List.mem_filter.mp hc
    exact ⟨rfl, rfl, List.mem_range'_1.mp h.1, h.2⟩
  · rintro ⟨rfl, rfl, h1, h2⟩
    exact ⟨x.2.2, List.mem_filter.mpr ⟨List.mem_range'_1.mpr h1, h2⟩, rfl⟩
theorem zmid_mem {μ : zM} {t n a s k : Nat} {x : z3} : x ∈ zmid μ t n a s k ↔ x.1 = a ∧ (s ≤ x.2.1 ∧ x.2.1 < s + k) ∧ (x.2.1 < x.2.2 ∧ x.2.2 < n) ∧ zPr μ t a x.2.1 x.2.2 = true := by
  unfold zmid
  rw [List.mem_flatMap]
  constructor
  · rintro ⟨b, hb, hx⟩
    obtain ⟨h1, h2, h3, h4⟩ := zinn_mem.mp hx
    rw [h2]
    exact ⟨h1, List.mem_range'_1.mp hb, by omega, h4⟩
  · rintro ⟨h1, h2, h3, h4⟩
    exact ⟨x.2.1, List.mem_range'_1.mpr h2, zinn_mem.mpr ⟨h1, rfl, by omega, h4⟩⟩
theorem zgat_mem {μ : zM} {t n k : Nat} {x : z3} : x ∈ zgat μ t n k ↔ x.1 < k ∧ μ 11 x.1 < nI t ∧ (x.1 < x.2.1 ∧ x.2.1 < n) ∧ (x.2.1 < x.2.2 ∧ x.2.2 < n) ∧ zPr μ t x.1 x.2.1 x.2.2 = true := by
  unfold zgat
  rw [List.mem_flatMap]
  constructor
  · rintro ⟨a, ha, hx⟩
    have ha := List.mem_range.mp ha
    by_cases h : μ 11 a < nI t
    · rw [if_pos h] at hx
      obtain ⟨h1, h2, h3, h4⟩ := zmid_mem.mp hx
      rw [h1]
      exact ⟨ha, h, by omega, h3, h4⟩
    · rw [if_neg h] at hx
      cases hx
  · rintro ⟨h1, h2, h3, h4, h5⟩
    refine ⟨x.1, List.mem_range.mpr h1, ?_⟩
    rw [if_pos h2]
    exact zmid_mem.mpr ⟨rfl, by omega, h4, h5⟩
theorem zinn_nd (μ : zM) (t a b s k : Nat) : (zinn μ t a b s k).Nodup := by
  unfold zinn
  refine List.pairwise_map.mpr (List.Pairwise.filter _ ?_)
  exact (List.nodup_range' (step := 1)).imp (fun h e => h (by injection e with _ e; injection e))
theorem zmid_nd (μ : zM) (t n a s k : Nat) : (zmid μ t n a s k).Nodup := by
  unfold zmid
  refine List.pairwise_flatMap.mpr ⟨fun b _ => zinn_nd μ t a b _ _, ?_⟩
  refine (List.nodup_range' (step := 1)).imp (fun h x hx y hy e => h ?_)
  rw [← (zinn_mem.mp hx).2.1, ← (zinn_mem.mp hy).2.1, e]
theorem zgat_nd (μ : zM) (t n k : Nat) : (zgat μ t n k).Nodup := by
  unfold zgat
  refine List.pairwise_flatMap.mpr ⟨fun a _ => ?_, ?_⟩
  · split
    · exact zmid_nd μ t n a _ _
    · exact List.Pairwise.nil
  refine List.nodup_range.imp (fun {a b} h x hx y hy e => h ?_)
  split at hx
  · split at hy
    · rw [← (zmid_mem.mp hx).1, ← (zmid_mem.mp hy).1, e]
    · cases hy
  · cases hx
/-! ===== events of both ===== -/
theorem zorI (a b : Nat) : nI a ||| nI b = nI (a ||| b) := by
  apply Int32.toBitVec_inj.mp
  rw [Int32.toBitVec_or]
  show BitVec.ofNat 32 a ||| BitVec.ofNat 32 b = BitVec.ofNat 32 (a ||| b)
  exact BitVec.ofNat_or.symm
theorem zandI (a b : Nat) : nI a &&& nI b = nI (a &&& b) := by
  apply Int32.toBitVec_inj.mp
  rw [Int32.toBitVec_and]
  show BitVec.ofNat 32 a &&& BitVec.ofNat 32 b = BitVec.ofNat 32 (a &&& b)
  exact BitVec.ofNat_and.symm
def zcN (d k o v : Nat) : Nat := d * 262144 + k * 65536 + o * 8192 + v
theorem zcN_or {d k o v : Nat} (hk : k < 4) (ho : o < 8) (hv : v < 8192) : d * 2 ^ 18 ||| k * 2 ^ 16 ||| o * 2 ^ 13 ||| v = zcN d k o v := by
  have e1 : d * 2 ^ 18 ||| k * 2 ^ 16 = d * 2 ^ 18 + k * 2 ^ 16 := by
    have := Nat.two_pow_add_eq_or_of_lt (i := 18) (b := k * 2 ^ 16) (by omega) d
    rw [Nat.mul_comm (2 ^ 18) d] at this; exact this.symm
  have e2 : (d * 2 ^ 18 + k * 2 ^ 16) ||| o * 2 ^ 13 = (d * 2 ^ 18 + k * 2 ^ 16) + o * 2 ^ 13 := by
    have := Nat.two_pow_add_eq_or_of_lt (i := 16) (b := o * 2 ^ 13) (by omega) (d * 4 + k)
    rw [show 2 ^ 16 * (d * 4 + k) = d * 2 ^ 18 + k * 2 ^ 16 by omega] at this; exact this.symm
  have e3 : (d * 2 ^ 18 + k * 2 ^ 16 + o * 2 ^ 13) ||| v = d * 2 ^ 18 + k * 2 ^ 16 + o * 2 ^ 13 + v := by
    have := Nat.two_pow_add_eq_or_of_lt (i := 13) (b := v) (by omega) (d * 32 + k * 8 + o)
    rw [show 2 ^ 13 * (d * 32 + k * 8 + o) = d * 2 ^ 18 + k * 2 ^ 16 + o * 2 ^ 13 by omega] at this; exact this.symm
  rw [e1, e2, e3]; rfl
theorem zevC_N {d k o v : Nat} (hd : d ≤ 500) (hk : k < 4) (ho : o < 8) (hv : v < 8192) : zevC (nI d) (nI k) (nI o) (nI v - 500) = nI (zcN d k o v) := by
  unfold zevC
  rw [pk_shlN (18 &&& 31) 18 (by decide) (by omega), pk_shlN (16 &&& 31) 16 (by decide) (by omega), pk_shlN (13 &&& 31) 13 (by decide) (by omega), Int32.sub_add_cancel, zorI, zorI, zorI, zcN_or hk ho hv]
theorem zcN_lt {d k o v : Nat} (hd : d ≤ 500) (hk : k < 4) (ho : o < 8) (hv : v < 8192) : zcN d k o v < 2 ^ 31 := by unfold zcN; omega
theorem zcN_d {d k o v : Nat} (hd : d ≤ 500) (hk : k < 4) (ho : o < 8) (hv : v < 8192) : nI (zcN d k o v) >>> (18 &&& 31) = nI d := by
  rw [pk_shrN (zcN_lt hd hk ho hv) (18 &&& 31) 18 (by decide), show zcN d k o v / 2 ^ 18 = d by unfold zcN; omega]
theorem zcN_K {d k o v : Nat} (hd : d ≤ 500) (hk : k < 4) (ho : o < 8) (hv : v < 8192) : zeK (nI (zcN d k o v)) = nI k := by
  unfold zeK
  rw [pk_shrN (zcN_lt hd hk ho hv) (16 &&& 31) 16 (by decide), show (3 : Int32) = nI 3 from rfl, zandI, show 3 = 2 ^ 2 - 1 from rfl, Nat.and_two_pow_sub_one_eq_mod, show zcN d k o v / 2 ^ 16 % 2 ^ 2 = k by unfold zcN; omega]
theorem zcN_O {d k o v : Nat} (hd : d ≤ 500) (hk : k < 4) (ho : o < 8) (hv : v < 8192) : zeN (nI (zcN d k o v)) = nI o := by
  unfold zeN
  rw [pk_shrN (zcN_lt hd hk ho hv) (13 &&& 31) 13 (by decide), show (7 : Int32) = nI 7 from rfl, zandI, show 7 = 2 ^ 3 - 1 from rfl, Nat.and_two_pow_sub_one_eq_mod, show zcN d k o v / 2 ^ 13 % 2 ^ 3 = o by unfold zcN; omega]
theorem zcN_A {d k o v : Nat} (hd : d ≤ 500) (hk : k < 4) (ho : o < 8) (hv : v < 8192) : zeA (nI (zcN d k o v)) = nI v - 500 := by
  unfold zeA
  rw [show (8191 : Int32) = nI 8191 from rfl, zandI, show 8191 = 2 ^ 13 - 1 from rfl, Nat.and_two_pow_sub_one_eq_mod, show zcN d k o v % 2 ^ 13 = v by unfold zcN; omega]
theorem zvi {v : Nat} (h : v ≤ 5500) : (nI v - 500).toInt = (v : Int) - 500 := by
  rw [Int32.toInt_sub, nI_toInt (by omega), show (500 : Int32).toInt = 500 from rfl]; exact zbm (by omega) (by omega)
/-- slips laid out -/
def zdig (p i : Nat) : Nat := p / 3 ^ i % 3
theorem zdig_lt (p i : Nat) : zdig p i < 3 := Nat.mod_lt _ (by decide)
theorem zdig_1 : ∀ d, d < 3 → (nI d - 1 = 0 ↔ d = 1) := by decide
/-! ===== slips: the class's search and the model's ===== -/
def zDg (p i : Nat) : Int32 := nI (zdig p i) - 1
def zoff (μ : zM) (x : z3) (p : Nat) : Int32 := zDg p x.1 + zsgn μ x.1 x.2.1 * zDg p x.2.1 + zsgn μ x.1 x.2.2 * zDg p x.2.2
/-- the ring x stays closed under the slips p -/
def zclo (μ : zM) (q : Nat) (d : Int32) (x : z3) (p : Nat) : Prop := zabs (zsum μ q x - 1000 * zoff μ x p) ≤ d
def zxc (n k p : Nat) : Nat := zcnt (fun i => decide (k ≤ i ∧ zdig p i ≠ 1)) n
theorem zcnt_flip {f g : Nat → Bool} {i : Nat} (hf : f i = true) (hg : g i = false) : ∀ n, i < n → (∀ j, j < n → j ≠ i → f j = g j) → zcnt f n = zcnt g n + 1
  | 0, h, _ => absurd h (Nat.not_lt_zero _)
  | n + 1, h, e => by
    rw [zcnt, zcnt]
    by_cases q : i = n
    · subst q
      rw [zcnt_cg (f := f) (g := g) (fun j hj => e j (by omega) (by omega)), hf, hg]; rfl
    · rw [zcnt_flip hf hg n (by omega) (fun j hj => e j (by omega)), e n (by omega) (fun z => q z.symm)]; omega
theorem zcnt_mo {f g : Nat → Bool} : ∀ n, (∀ j, j < n → f j = true → g j = true) → zcnt f n ≤ zcnt g n
  | 0, _ => Nat.le_refl _
  | n + 1, e => by
    rw [zcnt, zcnt]
    have ih := zcnt_mo (f := f) (g := g) n (fun j hj => e j (by omega))
    cases hf : f n with
    | false => simp; omega
    | true => rw [e n (by omega) hf]; simp; omega
theorem zxc_0 (n k p : Nat) : zxc n k p ≤ zxc n 0 p := zcnt_mo n (fun j _ h => by
  rw [decide_eq_true_eq] at h ⊢; exact ⟨Nat.zero_le _, h.2⟩)
theorem zxc_le (n k p : Nat) : zxc n k p ≤ n := zcnt_le _ n
theorem zxc_s {n k p : Nat} (hk : k < n) : zxc n k p = zxc n (k + 1) p + (if zdig p k = 1 then 0 else 1) := by
  unfold zxc
  by_cases h : zdig p k = 1
  · rw [if_pos h, Nat.add_zero]
    refine zcnt_cg (fun j _ => ?_)
    by_cases e : j = k
    · subst e; rw [decide_eq_false (fun z => z.2 h), decide_eq_false (fun z => z.2 h)]
    · exact decide_eq_decide.mpr ⟨fun z => ⟨by omega, z.2⟩, fun z => ⟨by omega, z.2⟩⟩
  · rw [if_neg h]
    exact zcnt_flip (i := k) (decide_eq_true ⟨Nat.le_refl k, h⟩) (decide_eq_false (fun z => by omega)) n hk (fun j _ e => decide_eq_decide.mpr ⟨fun z => ⟨by omega, z.2⟩, fun z => ⟨by omega, z.2⟩⟩)
/-- the best of a range -/
def zbst (Q : Nat → Prop) (w : Nat → Nat) (lo hi F : Nat) (X : Int32) (F' : Nat) (X' : Int32) : Prop :=
  (F' = F ∧ X' = X ∧ ∀ p, lo ≤ p → p < hi → Q p → F ≤ w p) ∨
  ∃ p0, lo ≤ p0 ∧ p0 < hi ∧ Q p0 ∧ w p0 < F ∧ F' = w p0 ∧ X' = nI p0 ∧ ∀ p, lo ≤ p → p < hi → Q p → w p0 ≤ w p ∧ (p < p0 → w p0 < w p)
theorem zbst.go {Q : Nat → Prop} {w : Nat → Nat} {lo mid hi F F1 F2 : Nat} {X X1 X2 : Int32} (m1 : lo ≤ mid) (m2 : mid ≤ hi) (h : zbst Q w lo mid F X F1 X1) (g : zbst Q w mid hi F1 X1 F2 X2) : zbst Q w lo hi F X F2 X2 := by
  rcases h with ⟨rfl, rfl, h⟩ | ⟨p0, a1, a2, a3, a4, rfl, rfl, a5⟩
  · rcases g with ⟨rfl, rfl, g⟩ | ⟨p1, b1, b2, b3, b4, rfl, rfl, b5⟩
    · refine Or.inl ⟨rfl, rfl, fun p x y z => ?_⟩
      rcases Nat.lt_or_ge p mid with q | q
      · exact h p x q z
      · exact g p q y z
    · refine Or.inr ⟨p1, by omega, b2, b3, b4, rfl, rfl, fun p x y z => ?_⟩
      rcases Nat.lt_or_ge p mid with q | q
      · have := h p x q z; exact ⟨by omega, fun _ => by omega⟩
      · exact b5 p q y z
  · rcases g with ⟨rfl, rfl, g⟩ | ⟨p1, b1, b2, b3, b4, rfl, rfl, b5⟩
    · refine Or.inr ⟨p0, a1, by omega, a3, a4, rfl, rfl, fun p x y z => ?_⟩
      rcases Nat.lt_or_ge p mid with q | q
      · exact a5 p x q z
      · exact ⟨g p q y z, fun _ => by omega⟩
    · refine Or.inr ⟨p1, by omega, b2, b3, by omega, rfl, rfl, fun p x y z => ?_⟩
      rcases Nat.lt_or_ge p mid with q | q
      · have := (a5 p x q z).1; exact ⟨by omega, fun _ => by omega⟩
      · exact b5 p q y z
theorem zbst.no {Q : Nat → Prop} {w : Nat → Nat} {lo hi F : Nat} {X : Int32} (h : ∀ p, lo ≤ p → p < hi → Q p → F ≤ w p) : zbst Q w lo hi F X F X := Or.inl ⟨rfl, rfl, h⟩
/-- what the search finds laid out -/
def zDF (μ ν : zM) (q n : Nat) (L : List z3) (d : Int32) : Prop :=
  (∀ j x, L[j]? = some x → ν 14 j = nI x.1 ∧ ν 15 j = nI x.2.1 ∧ ν 16 j = nI x.2.2 ∧ ν 17 j = zsgn μ x.1 x.2.1 ∧ ν 18 j = zsgn μ x.1 x.2.2 ∧ ν 19 j = zsum μ q x) ∧
  (∀ k, k < 8 → (ν 20 k = 0 ∨ ν 20 k = 1) ∧ (ν 20 k = 1 ↔ zin3 L k)) ∧ (∀ x ∈ L, x.1 < x.2.1 ∧ x.2.1 < x.2.2 ∧ x.2.2 < n) ∧ n ≤ 8 ∧ ν 63 8 = d
/-- all but the slips tried and what was found stays -/
def zKp (ν σ : zM) : Prop := (∀ b, b ≠ 21 → b ≠ 63 → σ b = ν b) ∧ ∀ j, j ≠ 9 → j ≠ 10 → σ 63 j = ν 63 j
def zQs (μ : zM) (q n : Nat) (L : List z3) (d : Int32) (p : Nat) : Prop := (∀ x ∈ L, zclo μ q d x p) ∧ ∀ i, i < n → ¬ zin3 L i → zdig p i = 1
/-- a level of the search at the number N, s slips laid out so far -/
def zLv (μ σ : zM) (q n : Nat) (L : List z3) (d : Int32) (k N s : Nat) : Prop :=
  ∀ p, N * 3 ^ k ≤ p → p < (N + 1) * 3 ^ k → (∀ i, k ≤ i → i < n → σ 21 i = zDg p i) ∧ zxc n k p = s ∧ (∀ x ∈ L, k ≤ x.1 → zclo μ q d x p) ∧ ∀ i, k ≤ i → i < n → ¬ zin3 L i → zdig p i = 1
def zRes (μ ν : zM) (q n : Nat) (L : List z3) (d : Int32) (lo hi k F : Nat) (X : Int32) (σ σ' : zM) : Prop :=
  ∃ (F' : Nat) (X' : Int32), zKp ν σ' ∧ σ' 63 9 = nI F' ∧ σ' 63 10 = X' ∧ F' ≤ 9 ∧ (∀ i, k ≤ i → σ' 21 i = σ 21 i) ∧ zbst (zQs μ q n L d) (zxc n 0) lo hi F X F' X'
theorem zpow3 (N k : Nat) : N * 3 ^ (k + 1) = 3 * (N * 3 ^ k) ∧ (N + 1) * 3 ^ (k + 1) = 3 * (N * 3 ^ k) + 3 * 3 ^ k := by
  have h : N * 3 ^ (k + 1) = 3 * (N * 3 ^ k) := by rw [Nat.pow_succ, ← Nat.mul_assoc, Nat.mul_comm]
  exact ⟨h, by rw [Nat.add_mul, h, Nat.one_mul, Nat.pow_succ]; omega⟩
theorem zpow3c (N c k : Nat) : (3 * N + c) * 3 ^ k = 3 * (N * 3 ^ k) + c * 3 ^ k := by rw [Nat.add_mul, Nat.mul_assoc]
theorem zdig_in {N c k p : Nat} (hc : c < 3) (h1 : (3 * N + c) * 3 ^ k ≤ p) (h2 : p < (3 * N + c + 1) * 3 ^ k) : zdig p k = c := by
  unfold zdig
  rw [Nat.div_eq_of_lt_le h1 h2]; omega
/-- one link's slip is tried -/
theorem zone_b {μ ν : zM} {q n : Nat} {L : List z3} {d : Int32} (D : zDF μ ν q n L d) {k N s F c : Nat} {X cyc : Int32} {σ : zM} (hk : k < n) (hK : zKp ν σ) (h9 : σ 63 9 = nI F) (h10 : σ 63 10 = X) (hF : F ≤ 9) (hL : zLv μ σ q n L d (k + 1) N s) (hc : c < 3) (hcyc : cyc = nI c - 1) (hz : zabs cyc = nI (if c = 1 then 0 else 1)) (hr : zin3 L k ∨ c = 1)
    (ih : ∀ (N s F : Nat) (X : Int32) (σ : zM), zKp ν σ → σ 63 9 = nI F → σ 63 10 = X → F ≤ 9 → zLv μ σ q n L d k N s → zRes μ ν q n L d (N * 3 ^ k) ((N + 1) * 3 ^ k) k F X σ (zdfs L.length k σ (nI N) (nI s))) :
    zRes μ ν q n L d ((3 * N + c) * 3 ^ k) ((3 * N + c + 1) * 3 ^ k) (k + 1) F X σ (zone (zdfs L.length k) L.length k (nI N) (nI s) cyc σ) := by
  obtain ⟨D1, D2, D3, D4, D5⟩ := D
  obtain ⟨p1, p2⟩ := zpow3 N k
  have q1 := zpow3c N c k
  have q2 : (3 * N + c + 1) * 3 ^ k = 3 * (N * 3 ^ k) + c * 3 ^ k + 3 ^ k := by rw [Nat.add_mul, q1, Nat.one_mul]
  have hck : c * 3 ^ k + 3 ^ k ≤ 3 * 3 ^ k := by
    have : c * 3 ^ k ≤ 2 * 3 ^ k := Nat.mul_le_mul_right _ (by omega)
    omega
  have inb : ∀ p, (3 * N + c) * 3 ^ k ≤ p → p < (3 * N + c + 1) * 3 ^ k → N * 3 ^ (k + 1) ≤ p ∧ p < (N + 1) * 3 ^ (k + 1) := fun p a b => by omega
  have hdg : ∀ p, (3 * N + c) * 3 ^ k ≤ p → p < (3 * N + c + 1) * 3 ^ k → zdig p k = c := fun p a b => zdig_in hc a b
  have hK1 : zKp ν (zu σ 21 k cyc) := ⟨fun b h1 h2 => by rw [zu_n _ _ _ h1]; exact hK.1 b h1 h2, fun j a b => by rw [zu_n _ _ _ (by decide)]; exact hK.2 j a b⟩
  have hrow : ∀ p, (3 * N + c) * 3 ^ k ≤ p → p < (3 * N + c + 1) * 3 ^ k → ∀ i, k ≤ i → i < n → zu σ 21 k cyc 21 i = zDg p i := fun p a b i hi hin => by
    rw [zu_s]
    by_cases e : i = k
    · subst e; rw [upd_s, hcyc]; unfold zDg; rw [hdg p a b]
    · rw [upd_n _ _ e]; exact (hL p (inb p a b).1 (inb p a b).2).1 i (by omega) hin
  have hcls : ∀ p, (3 * N + c) * 3 ^ k ≤ p → p < (3 * N + c + 1) * 3 ^ k → (zclA (zu σ 21 k cyc) L.length (nI k) ↔ ∀ x ∈ L, x.1 = k → zclo μ q d x p) := fun p a b => by
    have one : ∀ j x, L[j]? = some x → (zu σ 21 k cyc 14 j = nI k ↔ x.1 = k) ∧ (x.1 = k → (zabs (zu σ 21 k cyc 19 j - 1000 * ztoff (zu σ 21 k cyc) j) ≤ zu σ 21 k cyc 63 8 ↔ zclo μ q d x p)) := fun j x hx => by
      obtain ⟨y1, y2, y3, y4, y5, y6⟩ := D1 j x hx
      obtain ⟨z1, z2, z3⟩ := D3 x (List.mem_of_getElem? hx)
      have r : ∀ b, b ≠ 21 → b ≠ 63 → zu σ 21 k cyc b = ν b := hK1.1
      refine ⟨by rw [r 14 (by decide) (by decide), y1]; exact nI_eq (by omega) (by omega), fun e => ?_⟩
      unfold ztoff zclo zoff
      rw [r 14 (by decide) (by decide), r 15 (by decide) (by decide), r 16 (by decide) (by decide), r 17 (by decide) (by decide), r 18 (by decide) (by decide), r 19 (by decide) (by decide), y1, y2, y3, y4, y5, y6, nI_clamp (by omega), nI_clamp (by omega), nI_clamp (by omega), hrow p a b _ (by omega) (by omega), hrow p a b _ (by omega) (by omega), hrow p a b _ (by omega) (by omega), hK1.2 8 (by decide) (by decide), D5]
    constructor
    · intro h x hx e
      obtain ⟨j, hj⟩ := List.getElem?_of_mem hx
      have o := one j x hj
      exact (o.2 e).mp (h j (List.getElem?_eq_some_iff.mp hj).1 (o.1.mpr e))
    · intro h j hj e
      have hx : L[j]? = some L[j] := List.getElem?_eq_getElem hj
      have o := one j _ hx
      exact (o.2 (o.1.mp e)).mpr (h _ (List.mem_of_getElem? hx) (o.1.mp e))
  have hpos : 0 < 3 ^ k := Nat.pow_pos (by decide)
  unfold zone
  by_cases hcl : zclA (zu σ 21 k cyc) L.length (nI k)
  · rw [if_pos hcl]
    have en : nI N * 3 + 1 + cyc = nI (3 * N + c) := by
      rw [hcyc, show (3 : Int32) = nI 3 from rfl, pk_mul, Int32.add_assoc, Int32.add_comm 1, Int32.sub_add_cancel, nI_add, Nat.mul_comm]
    have es : nI s + zabs cyc = nI (s + if c = 1 then 0 else 1) := by rw [hz, nI_add]
    rw [en, es]
    obtain ⟨F', X', g1, g2, g3, g4, g5, g6⟩ := ih (3 * N + c) (s + if c = 1 then 0 else 1) F X (zu σ 21 k cyc) hK1 (by rw [zu_n _ _ _ (by decide)]; exact h9) (by rw [zu_n _ _ _ (by decide)]; exact h10) hF (fun p a b => by
      obtain ⟨l1, l2, l3, l4⟩ := hL p (inb p a b).1 (inb p a b).2
      refine ⟨hrow p a b, by rw [zxc_s hk, l2, hdg p a b], fun x hx e => ?_, fun i hi hin hni => ?_⟩
      · by_cases e2 : x.1 = k
        · exact (hcls p a b).mp hcl x hx e2
        · exact l3 x hx (by omega)
      · by_cases e2 : i = k
        · subst e2; rw [hdg p a b]; exact hr.resolve_left hni
        · exact l4 i (by omega) hin hni)
    exact ⟨F', X', g1, g2, g3, g4, fun i hi => by rw [g5 i (by omega), zu_s, upd_n _ _ (by omega)], g6⟩
  · rw [if_neg hcl]
    refine ⟨F, X, hK1, by rw [zu_n _ _ _ (by decide)]; exact h9, by rw [zu_n _ _ _ (by decide)]; exact h10, hF, fun i hi => by rw [zu_s, upd_n _ _ (by omega)], zbst.no (fun p a b hq => absurd ((hcls p a b).mpr (fun x hx _ => hq.1 x hx)) hcl)⟩
theorem zdfs_b {μ ν : zM} {q n : Nat} {L : List z3} {d : Int32} (D : zDF μ ν q n L d) : ∀ (k : Nat), k ≤ n → ∀ (N s F : Nat) (X : Int32) (σ : zM), zKp ν σ → σ 63 9 = nI F → σ 63 10 = X → F ≤ 9 → zLv μ σ q n L d k N s → zRes μ ν q n L d (N * 3 ^ k) ((N + 1) * 3 ^ k) k F X σ (zdfs L.length k σ (nI N) (nI s))
  | 0, _, N, s, F, X, σ, hK, h9, h10, hF, hL => by
    have hN := hL N (by omega) (by omega)
    have hs : s ≤ 8 := by rw [← hN.2.1]; exact Nat.le_trans (zxc_le n 0 N) D.2.2.2.1
    have only : ∀ p, N * 3 ^ 0 ≤ p → p < (N + 1) * 3 ^ 0 → p = N := fun p a b => by omega
    rw [zdfs, h9]
    by_cases h : s < F
    · rw [if_pos ((nI_ltI (by omega) (by omega)).mpr h)]
      refine ⟨s, nI N, ⟨fun b h1 h2 => by rw [zu_n _ _ _ h2, zu_n _ _ _ h2]; exact hK.1 b h1 h2, fun j a b => by rw [zu_s, upd_n _ _ b, zu_s, upd_n _ _ a]; exact hK.2 j a b⟩, by rw [zu_s, upd_n _ _ (by decide), zu_s, upd_s], by rw [zu_s, upd_s], by omega, fun i _ => by rw [zu_n _ _ _ (by decide), zu_n _ _ _ (by decide)], Or.inr ⟨N, by omega, by omega, ⟨fun x hx => hN.2.2.1 x hx (Nat.zero_le _), fun i hi => hN.2.2.2 i (Nat.zero_le _) hi⟩, by rw [hN.2.1]; exact h, hN.2.1.symm, rfl, fun p a b _ => by rw [only p a b]; exact ⟨Nat.le_refl _, fun z => absurd z (Nat.lt_irrefl _)⟩⟩⟩
    · rw [if_neg (fun z => h ((nI_ltI (by omega) (by omega)).mp z))]
      exact ⟨F, X, hK, h9, h10, hF, fun _ _ => rfl, zbst.no (fun p a b _ => by rw [only p a b, hN.2.1]; omega)⟩
  | k + 1, hkn, N, s, F, X, σ, hK, h9, h10, hF, hL => by
    obtain ⟨p1, p2⟩ := zpow3 N k
    have hpos : 0 < 3 ^ k := Nat.pow_pos (by decide)
    have hN := hL (N * 3 ^ (k + 1)) (Nat.le_refl _) (by omega)
    have hs : s ≤ 8 := by rw [← hN.2.1]; exact Nat.le_trans (zxc_le n _ _) D.2.2.2.1
    have ih := zdfs_b D k (by omega)
    rw [zdfs, h9]
    by_cases h : s < F
    · rw [if_pos ((nI_ltI (by omega) (by omega)).mpr h)]
      have c0 := zpow3c N 0 k
      have c1 := zpow3c N 1 k
      have c2 := zpow3c N 2 k
      have c3 := zpow3c N 3 k
      have d0 : (3 * N + 0 + 1) * 3 ^ k = 3 * (N * 3 ^ k) + 1 * 3 ^ k := zpow3c N 1 k
      have d1 : (3 * N + 1 + 1) * 3 ^ k = 3 * (N * 3 ^ k) + 2 * 3 ^ k := zpow3c N 2 k
      have d2 : (3 * N + 2 + 1) * 3 ^ k = 3 * (N * 3 ^ k) + 3 * 3 ^ k := zpow3c N 3 k
      have hkn8 : k < 8 := by have := D.2.2.2.1; omega
      have e20 : σ 20 k = ν 20 k := by rw [hK.1 20 (by decide) (by decide)]
      by_cases hz : σ 20 k = 0
      · rw [if_pos hz]
        have hnr : ¬ zin3 L k := fun z => by
          have := ((D.2.1 k hkn8).2.mpr z)
          rw [← e20, hz] at this; exact absurd this (by decide)
        obtain ⟨F1, X1, g1, g2, g3, g4, g5, g6⟩ := zone_b D (by omega) hK h9 h10 hF hL (c := 1) (cyc := 0) (by decide) (by decide) (by decide) (Or.inr rfl) ih
        refine ⟨F1, X1, g1, g2, g3, g4, g5, ?_⟩
        have n0 : zbst (zQs μ q n L d) (zxc n 0) ((3 * N + 0) * 3 ^ k) ((3 * N + 0 + 1) * 3 ^ k) F X F X := zbst.no (fun p a b hq => by
          have := hq.2 k (by omega) hnr
          rw [zdig_in (by decide) a b] at this; exact absurd this (by decide))
        have n2 : zbst (zQs μ q n L d) (zxc n 0) ((3 * N + 2) * 3 ^ k) ((3 * N + 2 + 1) * 3 ^ k) F1 X1 F1 X1 := zbst.no (fun p a b hq => by
          have := hq.2 k (by omega) hnr
          rw [zdig_in (by decide) a b] at this; exact absurd this (by decide))
        have r1 := zbst.go (by omega) (by omega) n0 g6
        have r2 := zbst.go (by omega) (by omega) r1 n2
        rw [show (3 * N + 0) * 3 ^ k = N * 3 ^ (k + 1) by omega, show (3 * N + 2 + 1) * 3 ^ k = (N + 1) * 3 ^ (k + 1) by omega] at r2
        exact r2
      · rw [if_neg hz]
        have hir : zin3 L k := (D.2.1 k hkn8).2.mp (by
          rcases (D.2.1 k hkn8).1 with z | z
          · exact absurd (e20.trans z) hz
          · exact z)
        have keep : ∀ {σ1 : zM}, (∀ i, k + 1 ≤ i → σ1 21 i = σ 21 i) → zLv μ σ1 q n L d (k + 1) N s := fun e p a b => by
          obtain ⟨l1, l2⟩ := hL p a b
          exact ⟨fun i hi hin => by rw [e i hi]; exact l1 i hi hin, l2⟩
        obtain ⟨F1, X1, g1, g2, g3, g4, g5, g6⟩ := zone_b D (by omega) hK h9 h10 hF hL (c := 0) (cyc := -1) (by decide) (by decide) (by decide) (Or.inl hir) ih
        obtain ⟨F2, X2, i1, i2, i3, i4, i5, i6⟩ := zone_b D (by omega) g1 g2 g3 g4 (keep g5) (c := 1) (cyc := 0) (by decide) (by decide) (by decide) (Or.inl hir) ih
        have k2 : ∀ i, k + 1 ≤ i → zone (zdfs L.length k) L.length k (nI N) (nI s) 0 (zone (zdfs L.length k) L.length k (nI N) (nI s) (-1) σ) 21 i = σ 21 i := fun i hi => by rw [i5 i hi, g5 i hi]
        obtain ⟨F3, X3, j1, j2, j3, j4, j5, j6⟩ := zone_b D (by omega) i1 i2 i3 i4 (keep k2) (c := 2) (cyc := 1) (by decide) (by decide) (by decide) (Or.inl hir) ih
        refine ⟨F3, X3, j1, j2, j3, j4, fun i hi => by rw [j5 i hi]; exact k2 i hi, ?_⟩
        have r1 := zbst.go (by omega) (by omega) g6 i6
        have r2 := zbst.go (by omega) (by omega) r1 j6
        rw [show (3 * N + 0) * 3 ^ k = N * 3 ^ (k + 1) by omega, show (3 * N + 2 + 1) * 3 ^ k = (N + 1) * 3 ^ (k + 1) by omega] at r2
        exact r2
    · rw [if_neg (fun z => h ((nI_ltI (by omega) (by omega)).mp z))]
      exact ⟨F, X, hK, h9, h10, hF, fun _ _ => rfl, zbst.no (fun p a b _ => by
        have := (hL p a b).2.1
        have := zxc_0 n (k + 1) p
        omega)⟩
theorem zcnt_0 {f : Nat → Bool} : ∀ n, zcnt f n = 0 ↔ ∀ j, j < n → f j = false
  | 0 => ⟨fun _ j h => absurd h (Nat.not_lt_zero j), fun _ => rfl⟩
  | n + 1 => by
    rw [zcnt]
    constructor
    · intro h j hj
      have ih := (zcnt_0 (f := f) n).mp (by omega)
      rcases Nat.lt_or_ge j n with q | q
      · exact ih j q
      · rw [show j = n by omega]
        cases hf : f n with
        | false => rfl
        | true => rw [hf] at h; simp at h
    · intro h
      rw [(zcnt_0 (f := f) n).mpr (fun j hj => h j (by omega)), h n (by omega)]; rfl
/-! numbers from digits -/
def zenc (f : Nat → Nat) : Nat → Nat
  | 0 => 0
  | n + 1 => zenc f n + f n * 3 ^ n
theorem zenc_lt {f : Nat → Nat} (hf : ∀ i, f i < 3) : ∀ n, zenc f n < 3 ^ n
  | 0 => Nat.one_pos
  | n + 1 => by
    rw [zenc, Nat.pow_succ]
    have := zenc_lt hf n
    have : f n * 3 ^ n ≤ 2 * 3 ^ n := Nat.mul_le_mul_right _ (by have := hf n; omega)
    omega
theorem zdig_add (a m n i : Nat) (hi : i < n) : zdig (a + m * 3 ^ n) i = zdig a i := by
  unfold zdig
  obtain ⟨j, rfl⟩ : ∃ j, n = i + 1 + j := ⟨n - i - 1, by omega⟩
  have e : m * 3 ^ (i + 1 + j) = 3 ^ i * (3 * (m * 3 ^ j)) := by
    rw [Nat.pow_add, Nat.pow_succ]
    simp only [Nat.mul_assoc, Nat.mul_comm, Nat.mul_left_comm]
  rw [e, Nat.add_mul_div_left _ _ (Nat.pow_pos (by decide))]
  omega
theorem zenc_d {f : Nat → Nat} (hf : ∀ i, f i < 3) : ∀ n i, i < n → zdig (zenc f n) i = f i
  | 0, _, h => absurd h (Nat.not_lt_zero _)
  | n + 1, i, h => by
    rw [zenc]
    by_cases e : i = n
    · subst e
      unfold zdig
      rw [Nat.add_mul_div_right _ _ (Nat.pow_pos (by decide)), Nat.div_eq_of_lt (zenc_lt hf i), Nat.zero_add]
      exact Nat.mod_eq_of_lt (hf i)
    · rw [zdig_add _ _ _ _ (by omega)]
      exact zenc_d hf n i (by omega)
theorem zDg_b (p i : Nat) : zbn (zDg p i) 1 := by
  have h := zdig_lt p i
  have e : ∀ v, v < 3 → -(1 : Int) ≤ (nI v - 1).toInt ∧ (nI v - 1).toInt ≤ 1 := by decide
  exact e _ h
theorem zord_x (B : Nat → Int32) {a b c : Nat} (h12 : a ≠ b) (h13 : a ≠ c) (h23 : b ≠ c) : (B (zord a b c).1 ^^^ B (zord a b c).2.1 ^^^ B (zord a b c).2.2 = B a ^^^ B b ^^^ B c) ∧ (zord a b c).2.1 ≠ (zord a b c).2.2 ∧ ∀ P : Nat → Prop, P a → P b → P c → P (zord a b c).1 ∧ P (zord a b c).2.1 ∧ P (zord a b c).2.2 := by
  obtain ⟨x, hx⟩ : ∃ x, x = (zord a b c).1 := ⟨_, rfl⟩
  obtain ⟨y, hy⟩ : ∃ x, x = (zord a b c).2.1 := ⟨_, rfl⟩
  obtain ⟨z, hz⟩ : ∃ x, x = (zord a b c).2.2 := ⟨_, rfl⟩
  rw [← hx, ← hy, ← hz]
  unfold zord at hx hy hz
  simp only [] at hx hy hz
  have k : (x = a ∧ y = b ∧ z = c) ∨ (x = a ∧ y = c ∧ z = b) ∨ (x = b ∧ y = a ∧ z = c) ∨ (x = b ∧ y = c ∧ z = a) ∨ (x = c ∧ y = a ∧ z = b) ∨ (x = c ∧ y = b ∧ z = a) := by
    by_cases p : a < b
    · by_cases q : b < c
      · exact Or.inl ⟨by omega, by omega, by omega⟩
      · by_cases r : a < c
        · exact Or.inr (Or.inl ⟨by omega, by omega, by omega⟩)
        · exact Or.inr (Or.inr (Or.inr (Or.inr (Or.inl ⟨by omega, by omega, by omega⟩))))
    · by_cases q : a < c
      · exact Or.inr (Or.inr (Or.inl ⟨by omega, by omega, by omega⟩))
      · by_cases r : b < c
        · exact Or.inr (Or.inr (Or.inr (Or.inl ⟨by omega, by omega, by omega⟩)))
        · exact Or.inr (Or.inr (Or.inr (Or.inr (Or.inr ⟨by omega, by omega, by omega⟩))))
  clear hx hy hz
  rcases k with ⟨rfl, rfl, rfl⟩ | ⟨rfl, rfl, rfl⟩ | ⟨rfl, rfl, rfl⟩ | ⟨rfl, rfl, rfl⟩ | ⟨rfl, rfl, rfl⟩ | ⟨rfl, rfl, rfl⟩
  · exact ⟨rfl, h23, fun P p q r => ⟨p, q, r⟩⟩
  · exact ⟨by ac_rfl, fun e => h23 e.symm, fun P p q r => ⟨p, r, q⟩⟩
  · exact ⟨by ac_rfl, h13, fun P p q r => ⟨q, p, r⟩⟩
  · exact ⟨by ac_rfl, fun e => h13 e.symm, fun P p q r => ⟨q, r, p⟩⟩
  · exact ⟨by ac_rfl, h12, fun P p q r => ⟨r, p, q⟩⟩
  · exact ⟨by ac_rfl, fun e => h12 e.symm, fun P p q r => ⟨r, q, p⟩⟩
theorem zbn0 : ∀ x, x < 6 → ∀ y, y < 6 → ¬ zbits (nI x) (nI y) = 0 := by decide
theorem zxx (x y : Int32) : x ^^^ x ^^^ y = y ∧ x ^^^ y ^^^ x = y ∧ x ^^^ y ^^^ y = x := by
  refine ⟨by rw [Int32.xor_self, Int32.zero_xor], ?_, by rw [Int32.xor_assoc, Int32.xor_self, Int32.xor_zero]⟩
  rw [Int32.xor_comm x y, Int32.xor_assoc, Int32.xor_self, Int32.xor_zero]
def zDk (μ σ : zM) : Prop := (∀ b, b ≠ 21 → b ≠ 63 → σ b = μ b) ∧ ∀ j, j ≠ 9 → j ≠ 10 → σ 63 j = μ 63 j
theorem zDk.tr {μ σ τ : zM} (h : zDk μ σ) (g : zDk σ τ) : zDk μ τ := ⟨fun b p q => (g.1 b p q).trans (h.1 b p q), fun j p q => (g.2 j p q).trans (h.2 j p q)⟩
theorem zDk.t (μ : zM) (k : Nat) (x : Int32) : zDk μ (zu μ 21 k x) := ⟨fun b p _ => zu_n _ _ _ p, fun j _ _ => by rw [zu_n _ _ _ (by decide)]⟩
theorem zone_k {F : zM → Int32 → Int32 → zM} (hF : ∀ μ a b, zDk μ (F μ a b)) (c k : Nat) (num sl cyc : Int32) (μ : zM) : zDk μ (zone F c k num sl cyc μ) := by
  unfold zone
  split
  · exact (zDk.t μ k cyc).tr (hF _ _ _)
  · exact zDk.t μ k cyc
theorem zdfs_k (c : Nat) : ∀ (k : Nat) (μ : zM) (a b : Int32), zDk μ (zdfs c k μ a b)
  | 0, μ, a, b => by
    rw [zdfs]
    split
    · exact ⟨fun r p q => by rw [zu_n _ _ _ q, zu_n _ _ _ q], fun j p q => by rw [zu_s, upd_n _ _ q, zu_s, upd_n _ _ p]⟩
    · exact ⟨fun _ _ _ => rfl, fun _ _ _ => rfl⟩
  | k + 1, μ, a, b => by
    rw [zdfs]
    have z := fun cyc μ => zone_k (zdfs_k c k) c k a b cyc μ
    split
    · split
      · exact z 0 μ
      · exact ((z (-1) μ).tr (z 0 _)).tr (z 1 _)
    · exact ⟨fun _ _ _ => rfl, fun _ _ _ => rfl⟩
theorem zAg.cg {μ ν : zM} {c : Nat} (h13 : ν 13 = μ 13) (h6 : ν 63 6 = μ 63 6) (h : zAg μ c) : zAg ν c :=
  ⟨h6.trans h.1, h.2.1, fun j hj => by rw [h13]; exact h.2.2 j hj⟩
theorem zitr_s (f : Nat → zM → zM) (n : Nat) (μ : zM) : zitr f (n + 1) μ = f n (zitr f n μ) := rfl
theorem zit_r (r f : Nat) (x : Int32) (μ : zM) : ∀ m q, zitr (fun j μ => zu μ r (f + j) (μ r (f + j) + x)) m μ r q = if f ≤ q ∧ q < f + m then μ r q + x else μ r q
  | 0, q => by rw [if_neg (by omega)]; rfl
  | m + 1, q => by
    rw [zitr_s, zu_s]
    have ih := zit_r r f x μ m
    by_cases e : q = f + m
    · subst e
      rw [upd_s, ih, if_neg (by omega), if_pos (by omega)]
    · rw [upd_n _ _ e, ih]
      by_cases h : f ≤ q ∧ q < f + m
      · rw [if_pos h, if_pos (by omega)]
      · rw [if_neg h, if_neg (by omega)]
section
variable {μ κ : zM} {t c nc n A : Nat}
theorem zday_k2 {μ : zM} {t c nc n : Nat} (h : zCI μ t c nc n) {b : Nat} (hb : 30 ≤ b) (h63 : b ≠ 63) : zday μ b = μ b := by
  obtain ⟨g1, g2, g3, g4, g5, g6, g7, g8, g9⟩ := h
  unfold zday
  rw [zu_n _ _ _ (by omega)]
  unfold zdayD
  rw [zitr_b (f := zmeaS ((μ 63 0).toNatClampNeg + 1)) (b := b) (fun i ν hi => zu_n _ _ _ (by rw [g6, nI_clamp (by omega)] at hi; omega))]
  unfold zdayC
  rw [zitr_k (fun i ν => zrunS_k _ i ν (by omega) (by omega))]
  unfold zdayB
  rw [zevs_k _ (by omega) (by omega) (by omega) (by omega) h63]
  unfold zdayA
  exact zu_n _ _ _ h63
end
section
variable {μ κ : zM} {t c nc n A : Nat}
theorem zday_j {μ : zM} {t c nc n : Nat} (h : zCI μ t c nc n) {j : Nat} (h6 : j ≠ 6) (h0 : j ≠ 0) : zday μ 63 j = μ 63 j := by
  unfold zday
  rw [zu_n _ _ _ (by decide)]
  exact zday_63 h h6 h0
end
section
variable {μ κ : zM} {t c nc n A : Nat}
theorem zpas_k {μ : zM} {t c nc n : Nat} (h : zCI μ t c nc n) : ∀ f, t + f ≤ 500 → (∀ b, 30 ≤ b → b ≠ 63 → zpas f μ b = μ b) ∧ ∀ j, j ≠ 6 → j ≠ 0 → zpas f μ 63 j = μ 63 j
  | 0, _ => ⟨fun _ _ _ => rfl, fun _ _ _ => rfl⟩
  | f + 1, hf => by
    obtain ⟨a, b⟩ := zpas_k h f (by omega)
    obtain ⟨c', hc⟩ := h.pas f (by omega)
    exact ⟨fun r h1 h2 => (zday_k2 hc h1 h2).trans (a r h1 h2), fun j h1 h2 => (zday_j hc h1 h2).trans (b j h1 h2)⟩
end
theorem zk4 : ∀ k, k < 4 → nI k = 0 ∨ nI k = 1 ∨ nI k = 2 ∨ nI k = 3 := by decide
theorem zav {k a : Int32} (h : zamt k a) : ∃ v, v ≤ 5500 ∧ a = nI v - 500 ∧ (k = 2 → 450 ≤ v ∧ v ≤ 550) ∧ (k = 3 → 497 ≤ v ∧ v ≤ 503) := by
  have e5 : (-500 : Int32).toInt = -500 := by decide
  have e6 : (500 : Int32).toInt = 500 := by decide
  have e7 : (5000 : Int32).toInt = 5000 := by decide
  have e8 : (-50 : Int32).toInt = -50 := by decide
  have e9 : (50 : Int32).toInt = 50 := by decide
  have e10 : (-3 : Int32).toInt = -3 := by decide
  have e11 : (3 : Int32).toInt = 3 := by decide
  have e0 : (0 : Int32).toInt = 0 := rfl
  have main : ∀ lo hi : Int, lo ≤ a.toInt → a.toInt ≤ hi → -500 ≤ lo → hi ≤ 5000 → (a.toInt + 500).toNat ≤ 5500 ∧ a = nI (a.toInt + 500).toNat - 500 ∧ ((a.toInt + 500).toNat : Int) = a.toInt + 500 := fun lo hi h1 h2 h3 h4 => by
    have hv : (a.toInt + 500).toNat ≤ 5500 := by omega
    refine ⟨hv, Int32.toInt_inj.mp ?_, by omega⟩
    rw [zvi hv]; omega
  unfold zamt at h
  rcases h with ⟨hk, h1, h2⟩ | ⟨hk, h1, h2⟩ | ⟨hk, h1, h2⟩ | ⟨hk, h1, h2⟩
  · rw [zle2] at h1 h2
    obtain ⟨m1, m2, m3⟩ := main _ _ h1 h2 (by omega) (by omega)
    exact ⟨_, m1, m2, fun z => absurd (hk.symm.trans z) (by decide), fun z => absurd (hk.symm.trans z) (by decide)⟩
  · rw [zle2] at h1 h2
    obtain ⟨m1, m2, m3⟩ := main _ _ h1 h2 (by omega) (by omega)
    exact ⟨_, m1, m2, fun z => absurd (hk.symm.trans z) (by decide), fun z => absurd (hk.symm.trans z) (by decide)⟩
  · rw [zle2] at h1 h2
    obtain ⟨m1, m2, m3⟩ := main _ _ h1 h2 (by omega) (by omega)
    exact ⟨_, m1, m2, fun _ => by omega, fun z => absurd (hk.symm.trans z) (by decide)⟩
  · rw [zle2] at h1 h2
    obtain ⟨m1, m2, m3⟩ := main _ _ h1 h2 (by omega) (by omega)
    exact ⟨_, m1, m2, fun z => absurd (hk.symm.trans z) (by decide), fun _ => by omega⟩
theorem zCI.cg {μ ρ : zM} {t c nc n : Nat} (h : ∀ b, b < 38 → b ≠ 0 → ρ b = μ b) (h63 : ∀ j, j < 7 → ρ 63 j = μ 63 j) (H : zCI μ t c nc n) : zCI ρ t c nc n := by
  obtain ⟨h1, h2, h3, h4, h5, h6, h7, h8, h9⟩ := H
  refine ⟨(h63 0 (by decide)).trans h1, h2, ⟨(h63 6 (by decide)).trans h3.1, h3.2.1, fun j hj => by rw [h 13 (by decide) (by decide)]; exact h3.2.2 j hj⟩, (h63 4 (by decide)).trans h4, h5, (h63 5 (by decide)).trans h6, h7, fun j hj => by rw [h 7 (by decide) (by decide), h 8 (by decide) (by decide)]; exact h8 j hj, by rw [h63 2 (by decide)]; exact h9⟩
theorem zmnX_cg {μ ρ : zM} (h : ∀ b, b < 38 → ρ b = μ b) (q : Nat) : ∀ i, i ≤ 8 → zmnX ρ q i = zmnX μ q i
  | 0, _ => by rw [zmnX, zmnX, h 4 (by decide)]
  | i + 1, hi => by
    rw [zmnX, zmnX, zmnX_cg h q i (by omega)]
    unfold zmns zoth zahd zcorX
    rw [h 4 (by decide), h 7 (by decide), h 8 (by decide), h 11 (by decide), h (22 + i) (by omega), h (30 + i) (by omega)]
theorem zmean_cg {μ ρ : zM} (h : ∀ b, b < 38 → ρ b = μ b) (h4 : ρ 63 4 = μ 63 4) (q : Nat) {n : Nat} (hn : n ≤ 8) : zmean ρ q n = zmean μ q n := by
  unfold zmean; rw [h4, zmnX_cg h q n hn]
/-! ===== a day of both ===== -/
theorem zupd_id (f : Nat → Int32) (k : Nat) : upd f k (f k) = f := by
  funext j
  by_cases h : j = k
  · subst h; exact upd_s _ _ _
  · exact upd_n _ _ h
