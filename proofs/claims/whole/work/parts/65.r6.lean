/-! ===== events of both ===== -/
theorem zorI (a b : Nat) : nI a ||| nI b = nI (a ||| b) := by
  apply Int32.toBitVec_inj.mp
  rw [Int32.toBitVec_or]
  show BitVec.ofNat 32 a ||| BitVec.ofNat 32 b = BitVec.ofNat 32 (a ||| b)
  exact BitVec.ofNat_or.symm
theorem zandI (a b : Nat) : nI a &&& nI b = nI (a &&& b) := by
  apply Int32.toBitVec_inj.mp
  rw [Int32.toBitVec_and]
  show BitVec.ofNat 32 a &&& BitVec.ofNat 32 b = BitVec.ofNat 32 (a &&& b)
  exact BitVec.ofNat_and.symm
def zcN (d k o v : Nat) : Nat := d * 262144 + k * 65536 + o * 8192 + v
theorem zcN_or {d k o v : Nat} (hk : k < 4) (ho : o < 8) (hv : v < 8192) : d * 2 ^ 18 ||| k * 2 ^ 16 ||| o * 2 ^ 13 ||| v = zcN d k o v := by
  have e1 : d * 2 ^ 18 ||| k * 2 ^ 16 = d * 2 ^ 18 + k * 2 ^ 16 := by
    have := Nat.two_pow_add_eq_or_of_lt (i := 18) (b := k * 2 ^ 16) (by omega) d
    rw [Nat.mul_comm (2 ^ 18) d] at this; exact this.symm
  have e2 : (d * 2 ^ 18 + k * 2 ^ 16) ||| o * 2 ^ 13 = (d * 2 ^ 18 + k * 2 ^ 16) + o * 2 ^ 13 := by
    have := Nat.two_pow_add_eq_or_of_lt (i := 16) (b := o * 2 ^ 13) (by omega) (d * 4 + k)
    rw [show 2 ^ 16 * (d * 4 + k) = d * 2 ^ 18 + k * 2 ^ 16 by omega] at this; exact this.symm
  have e3 : (d * 2 ^ 18 + k * 2 ^ 16 + o * 2 ^ 13) ||| v = d * 2 ^ 18 + k * 2 ^ 16 + o * 2 ^ 13 + v := by
    have := Nat.two_pow_add_eq_or_of_lt (i := 13) (b := v) (by omega) (d * 32 + k * 8 + o)
    rw [show 2 ^ 13 * (d * 32 + k * 8 + o) = d * 2 ^ 18 + k * 2 ^ 16 + o * 2 ^ 13 by omega] at this; exact this.symm
  rw [e1, e2, e3]; rfl
theorem zevC_N {d k o v : Nat} (hd : d ≤ 500) (hk : k < 4) (ho : o < 8) (hv : v < 8192) : zevC (nI d) (nI k) (nI o) (nI v - 500) = nI (zcN d k o v) := by
  unfold zevC
  rw [pk_shlN (18 &&& 31) 18 (by decide) (by omega), pk_shlN (16 &&& 31) 16 (by decide) (by omega), pk_shlN (13 &&& 31) 13 (by decide) (by omega), Int32.sub_add_cancel, zorI, zorI, zorI, zcN_or hk ho hv]
theorem zcN_lt {d k o v : Nat} (hd : d ≤ 500) (hk : k < 4) (ho : o < 8) (hv : v < 8192) : zcN d k o v < 2 ^ 31 := by unfold zcN; omega
theorem zcN_d {d k o v : Nat} (hd : d ≤ 500) (hk : k < 4) (ho : o < 8) (hv : v < 8192) : nI (zcN d k o v) >>> (18 &&& 31) = nI d := by
  rw [pk_shrN (zcN_lt hd hk ho hv) (18 &&& 31) 18 (by decide), show zcN d k o v / 2 ^ 18 = d by unfold zcN; omega]
theorem zcN_K {d k o v : Nat} (hd : d ≤ 500) (hk : k < 4) (ho : o < 8) (hv : v < 8192) : zeK (nI (zcN d k o v)) = nI k := by
  unfold zeK
  rw [pk_shrN (zcN_lt hd hk ho hv) (16 &&& 31) 16 (by decide), show (3 : Int32) = nI 3 from rfl, zandI, show 3 = 2 ^ 2 - 1 from rfl, Nat.and_two_pow_sub_one_eq_mod, show zcN d k o v / 2 ^ 16 % 2 ^ 2 = k by unfold zcN; omega]
theorem zcN_O {d k o v : Nat} (hd : d ≤ 500) (hk : k < 4) (ho : o < 8) (hv : v < 8192) : zeN (nI (zcN d k o v)) = nI o := by
  unfold zeN
  rw [pk_shrN (zcN_lt hd hk ho hv) (13 &&& 31) 13 (by decide), show (7 : Int32) = nI 7 from rfl, zandI, show 7 = 2 ^ 3 - 1 from rfl, Nat.and_two_pow_sub_one_eq_mod, show zcN d k o v / 2 ^ 13 % 2 ^ 3 = o by unfold zcN; omega]
theorem zcN_A {d k o v : Nat} (hd : d ≤ 500) (hk : k < 4) (ho : o < 8) (hv : v < 8192) : zeA (nI (zcN d k o v)) = nI v - 500 := by
  unfold zeA
  rw [show (8191 : Int32) = nI 8191 from rfl, zandI, show 8191 = 2 ^ 13 - 1 from rfl, Nat.and_two_pow_sub_one_eq_mod, show zcN d k o v % 2 ^ 13 = v by unfold zcN; omega]
/-- the code of the model's event j -/
def zec (μ : zM) (j : Nat) : Int32 := zevC (μ 49 j) (μ 50 j) (μ 51 j) (μ 52 j)
/-- an event to come on the day T or behind it -/
def zevV (μ : zM) (T j d k o v : Nat) : Prop :=
  T ≤ d ∧ d ≤ 500 ∧ k < 4 ∧ o < 8 ∧ (k < 2 → o < 6) ∧ v ≤ 5500 ∧ μ 49 j = nI d ∧ μ 50 j = nI k ∧ μ 51 j = nI o ∧ μ 52 j = nI v - 500 ∧ (k = 2 → 450 ≤ v ∧ v ≤ 550) ∧ (k = 3 → 497 ≤ v ∧ v ≤ 503)
theorem zevV.code {μ : zM} {T j d k o v : Nat} (h : zevV μ T j d k o v) : zec μ j = nI (zcN d k o v) := by
  obtain ⟨h1, h2, h3, h4, h5, h6, e1, e2, e3, e4, -⟩ := h
  unfold zec; rw [e1, e2, e3, e4]; exact zevC_N h2 h3 h4 (by omega)
theorem zvi {v : Nat} (h : v ≤ 5500) : (nI v - 500).toInt = (v : Int) - 500 := by
  rw [Int32.toInt_sub, nI_toInt (by omega), show (500 : Int32).toInt = 500 from rfl]; exact zbm (by omega) (by omega)
theorem zah_i (μ : zM) (a b : Nat) : zahM μ a b ↔ ((μ 50 a).toInt < (μ 50 b).toInt ∨ ((μ 50 a).toInt = (μ 50 b).toInt ∧ ((μ 51 a).toInt < (μ 51 b).toInt ∨ ((μ 51 a).toInt = (μ 51 b).toInt ∧ (μ 52 a).toInt < (μ 52 b).toInt)))) := by
  by_cases h1 : μ 50 a = μ 50 b
  · have e1 := congrArg Int32.toInt h1
    by_cases h2 : μ 51 a = μ 51 b
    · have e2 := congrArg Int32.toInt h2
      rw [zah_a h1 h2, zlt]; omega
    · have e2 : ¬ (μ 51 a).toInt = (μ 51 b).toInt := fun e => h2 (Int32.toInt_inj.mp e)
      rw [zah_o h1 h2, zlt]; omega
  · have e1 : ¬ (μ 50 a).toInt = (μ 50 b).toInt := fun e => h1 (Int32.toInt_inj.mp e)
    rw [zah_n h1, zlt]; omega
theorem znx_c (μ : zM) : ∀ i, i ≤ 40 → (znx μ i = -1 ∧ ∀ k, k < i → ¬ μ 49 k = μ 63 11) ∨ ∃ j, j < i ∧ znx μ i = nI j ∧ μ 49 j = μ 63 11 ∧ ∀ k, k < i → μ 49 k = μ 63 11 → ¬ zahM μ k j
  | 0, _ => Or.inl ⟨rfl, fun k hk => absurd hk (Nat.not_lt_zero k)⟩
  | i + 1, hi => by
    by_cases hd : μ 49 i = μ 63 11
    · rcases znx_c μ i (by omega) with ⟨h, g⟩ | ⟨j, hj, h, g1, g2⟩
      · refine Or.inr ⟨i, by omega, by rw [znx]; exact if_pos ⟨hd, Or.inl h⟩, hd, fun k hk e => ?_⟩
        rcases Nat.lt_or_ge k i with q | q
        · exact absurd e (g k q)
        · rw [show k = i by omega, zah_i]; omega
      · have ek : (znx μ i).toNatClampNeg = j := by rw [h, nI_clamp (by omega)]
        by_cases ha : zahM μ i j
        · refine Or.inr ⟨i, by omega, by rw [znx, ek]; exact if_pos ⟨hd, Or.inr ha⟩, hd, fun k hk e => ?_⟩
          rcases Nat.lt_or_ge k i with q | q
          · have := g2 k q e
            rw [zah_i] at this ha ⊢
            omega
          · rw [show k = i by omega, zah_i]; omega
        · refine Or.inr ⟨j, by omega, ?_, g1, fun k hk e => ?_⟩
          · rw [znx, ek, if_neg (fun z => z.2.elim (fun y => by
              rw [h] at y
              have h9 := congrArg Int32.toInt y; rw [nI_toInt (by omega), show (-1 : Int32).toInt = -1 from by decide] at h9; omega) ha)]
            exact h
          · rcases Nat.lt_or_ge k i with q | q
            · exact g2 k q e
            · rw [show k = i by omega]; exact ha
    · have e : znx μ (i + 1) = znx μ i := by rw [znx]; exact if_neg (fun z => hd z.1)
      rw [e]
      rcases znx_c μ i (by omega) with ⟨h, g⟩ | ⟨j, hj, h, g1, g2⟩
      · refine Or.inl ⟨h, fun k hk => ?_⟩
        rcases Nat.lt_or_ge k i with q | q
        · exact g k q
        · rw [show k = i by omega]; exact hd
      · refine Or.inr ⟨j, by omega, h, g1, fun k hk e => ?_⟩
        rcases Nat.lt_or_ge k i with q | q
        · exact g2 k q e
        · rw [show k = i by omega] at e; exact absurd e hd
