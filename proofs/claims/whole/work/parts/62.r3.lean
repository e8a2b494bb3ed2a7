/-! the rings of both, as lists -/
theorem zinn_mem {μ : zM} {t a b s k : Nat} {x : z3} : x ∈ zinn μ t a b s k ↔ x.1 = a ∧ x.2.1 = b ∧ (s ≤ x.2.2 ∧ x.2.2 < s + k) ∧ zPr μ t a b x.2.2 = true := by
  unfold zinn
  rw [List.mem_map]
  constructor
  · rintro ⟨c, hc, rfl⟩
    have h := List.mem_filter.mp hc
    exact ⟨rfl, rfl, List.mem_range'_1.mp h.1, h.2⟩
  · rintro ⟨rfl, rfl, h1, h2⟩
    exact ⟨x.2.2, List.mem_filter.mpr ⟨List.mem_range'_1.mpr h1, h2⟩, rfl⟩
theorem zmid_mem {μ : zM} {t n a s k : Nat} {x : z3} : x ∈ zmid μ t n a s k ↔ x.1 = a ∧ (s ≤ x.2.1 ∧ x.2.1 < s + k) ∧ (x.2.1 < x.2.2 ∧ x.2.2 < n) ∧ zPr μ t a x.2.1 x.2.2 = true := by
  unfold zmid
  rw [List.mem_flatMap]
  constructor
  · rintro ⟨b, hb, hx⟩
    obtain ⟨h1, h2, h3, h4⟩ := zinn_mem.mp hx
    rw [h2]
    exact ⟨h1, List.mem_range'_1.mp hb, by omega, h4⟩
  · rintro ⟨h1, h2, h3, h4⟩
    exact ⟨x.2.1, List.mem_range'_1.mpr h2, zinn_mem.mpr ⟨h1, rfl, by omega, h4⟩⟩
theorem zgat_mem {μ : zM} {t n k : Nat} {x : z3} : x ∈ zgat μ t n k ↔ x.1 < k ∧ μ 11 x.1 < nI t ∧ (x.1 < x.2.1 ∧ x.2.1 < n) ∧ (x.2.1 < x.2.2 ∧ x.2.2 < n) ∧ zPr μ t x.1 x.2.1 x.2.2 = true := by
  unfold zgat
  rw [List.mem_flatMap]
  constructor
  · rintro ⟨a, ha, hx⟩
    have ha := List.mem_range.mp ha
    by_cases h : μ 11 a < nI t
    · rw [if_pos h] at hx
      obtain ⟨h1, h2, h3, h4⟩ := zmid_mem.mp hx
      rw [h1]
      exact ⟨ha, h, by omega, h3, h4⟩
    · rw [if_neg h] at hx
      cases hx
  · rintro ⟨h1, h2, h3, h4, h5⟩
    refine ⟨x.1, List.mem_range.mpr h1, ?_⟩
    rw [if_pos h2]
    exact zmid_mem.mpr ⟨rfl, by omega, h4, h5⟩
theorem zinn_nd (μ : zM) (t a b s k : Nat) : (zinn μ t a b s k).Nodup := by
  unfold zinn
  refine List.pairwise_map.mpr (List.Pairwise.filter _ ?_)
  exact (List.nodup_range' (step := 1)).imp (fun h e => h (by injection e with _ e; injection e))
theorem zmid_nd (μ : zM) (t n a s k : Nat) : (zmid μ t n a s k).Nodup := by
  unfold zmid
  refine List.pairwise_flatMap.mpr ⟨fun b _ => zinn_nd μ t a b _ _, ?_⟩
  refine (List.nodup_range' (step := 1)).imp (fun h x hx y hy e => h ?_)
  rw [← (zinn_mem.mp hx).2.1, ← (zinn_mem.mp hy).2.1, e]
theorem zgat_nd (μ : zM) (t n k : Nat) : (zgat μ t n k).Nodup := by
  unfold zgat
  refine List.pairwise_flatMap.mpr ⟨fun a _ => ?_, ?_⟩
  · split
    · exact zmid_nd μ t n a _ _
    · exact List.Pairwise.nil
  refine List.nodup_range.imp (fun {a b} h x hx y hy e => h ?_)
  split at hx
  · split at hy
    · rw [← (zmid_mem.mp hx).1, ← (zmid_mem.mp hy).1, e]
    · cases hy
  · cases hx
theorem ziaM_mem {μ : zM} {q c b k : Nat} {x : z3} : x ∈ ziaM μ q c b k ↔ x.2.2 = c ∧ x.2.1 = b ∧ x.1 < k ∧ zPM μ q x.1 b c = true := by
  unfold ziaM
  rw [List.mem_map]
  constructor
  · rintro ⟨a, ha, rfl⟩
    have h := List.mem_filter.mp ha
    exact ⟨rfl, rfl, List.mem_range.mp h.1, h.2⟩
  · rintro ⟨rfl, rfl, h1, h2⟩
    exact ⟨x.1, List.mem_filter.mpr ⟨List.mem_range.mpr h1, h2⟩, rfl⟩
theorem zmiM_mem {μ : zM} {q c k : Nat} {x : z3} : x ∈ zmiM μ q c k ↔ x.2.2 = c ∧ x.2.1 < k ∧ x.1 < x.2.1 ∧ zPM μ q x.1 x.2.1 c = true := by
  unfold zmiM
  rw [List.mem_flatMap]
  constructor
  · rintro ⟨b, hb, hx⟩
    obtain ⟨h1, h2, h3, h4⟩ := ziaM_mem.mp hx
    rw [h2]
    exact ⟨h1, List.mem_range.mp hb, h3, h4⟩
  · rintro ⟨h1, h2, h3, h4⟩
    exact ⟨x.2.1, List.mem_range.mpr h2, ziaM_mem.mpr ⟨h1, rfl, h3, h4⟩⟩
theorem zgaM_mem {μ : zM} {q k : Nat} {x : z3} : x ∈ zgaM μ q k ↔ x.2.2 < k ∧ x.2.1 < x.2.2 ∧ x.1 < x.2.1 ∧ zPM μ q x.1 x.2.1 x.2.2 = true := by
  unfold zgaM
  rw [List.mem_flatMap]
  constructor
  · rintro ⟨c, hc, hx⟩
    obtain ⟨h1, h2, h3, h4⟩ := zmiM_mem.mp hx
    rw [h1]
    exact ⟨List.mem_range.mp hc, h2, h3, h4⟩
  · rintro ⟨h1, h2, h3, h4⟩
    exact ⟨x.2.2, List.mem_range.mpr h1, zmiM_mem.mpr ⟨rfl, h2, h3, h4⟩⟩
theorem ziaM_nd (μ : zM) (q c b k : Nat) : (ziaM μ q c b k).Nodup := by
  unfold ziaM
  refine List.pairwise_map.mpr (List.Pairwise.filter _ ?_)
  exact List.nodup_range.imp (fun h e => h (by injection e))
theorem zmiM_nd (μ : zM) (q c k : Nat) : (zmiM μ q c k).Nodup := by
  unfold zmiM
  refine List.pairwise_flatMap.mpr ⟨fun b _ => ziaM_nd μ q c b _, ?_⟩
  refine List.nodup_range.imp (fun h x hx y hy e => h ?_)
  rw [← (ziaM_mem.mp hx).2.1, ← (ziaM_mem.mp hy).2.1, e]
theorem zgaM_nd (μ : zM) (q k : Nat) : (zgaM μ q k).Nodup := by
  unfold zgaM
  refine List.pairwise_flatMap.mpr ⟨fun c _ => zmiM_nd μ q c _, ?_⟩
  refine List.nodup_range.imp (fun h x hx y hy e => h ?_)
  rw [← (zmiM_mem.mp hx).1, ← (zmiM_mem.mp hy).1, e]
/-! the relation's parts -/
def zRw (μ : zM) : Prop := μ 2 = μ 38 ∧ μ 3 = μ 39 ∧ μ 5 = μ 40 ∧ μ 6 = μ 41 ∧ μ 4 = μ 42 ∧ μ 7 = μ 43 ∧ μ 8 = μ 44 ∧ μ 9 = μ 45 ∧ μ 10 = μ 46 ∧ μ 11 = μ 47 ∧ μ 12 = μ 53 ∧ μ 0 = μ 57 ∧ μ 1 = μ 58
def zRs (μ : zM) : Prop := μ 63 1 = μ 63 15 ∧ μ 63 2 = μ 63 16 ∧ μ 63 3 = μ 63 17
def zRr (μ : zM) : Prop := ∀ k, k < 8 → ∀ d, 1 ≤ d → d ≤ 500 → μ (22 + k) d = μ 48 (8 * (d - 1) + k)
/-- what the calibrations take on a day -/
def zof (μ : zM) (k q : Nat) : Nat → Int32
  | 0 => 0
  | j + 1 => zof μ k q j + (if μ 54 (10 * k + j) ≤ nI q ∧ nI q ≤ μ 55 (10 * k + j) then μ 56 (10 * k + j) else 0)
def zRo (μ : zM) : Prop := ∀ k, k < 8 → ∀ q, q ≤ 500 → μ (30 + k) q = zof μ k q (μ 53 k).toNatClampNeg
theorem zcoM_of (μ : zM) (k q : Nat) : ∀ j, zcoM μ k q j = μ 48 (8 * (q - 1) + k) - zof μ k q j
  | 0 => by rw [zcoM, zof, Int32.sub_zero]
  | j + 1 => by
    rw [zcoM, zof, zcoM_of μ k q j, Int32.sub_eq_add_neg, Int32.sub_eq_add_neg, Int32.sub_eq_add_neg, Int32.neg_add, Int32.sub_eq_add_neg, Int32.add_assoc]
theorem zcor_eq {μ : zM} (hr : zRr μ) (ho : zRo μ) {k q : Nat} (hk : k < 8) (h1 : 1 ≤ q) (hq : q ≤ 500) : zcorM μ k q = zcorX μ k q := by
  unfold zcorM zcorX
  rw [zcoM_of, hr k hk q h1 hq, ho k hk q hq]
theorem zmea_eq {μ : zM} (hw : zRw μ) {t n : Nat} (h0 : μ 63 0 = nI t) (h11 : μ 63 11 = nI t) (h5 : μ 63 5 = nI n) (h13 : μ 63 13 = nI n) (i d : Int32) : zmeaM μ i d ↔ zmea μ i d := by
  unfold zmeaM zmea
  rw [h0, h11, h5, h13, hw.2.2.2.2.2.2.2.2.2.1]
/-- both gather the same rings -/
theorem zgat_ga {μ : zM} {t c nc n q : Nat} (hw : zRw μ) (HX : zCI μ t c nc n) (HM : zMI μ t c nc n) (h1 : 1 ≤ q) (hq : q ≤ t) : ∀ x, x ∈ zgaM μ q n ↔ x ∈ zgat μ q n n := by
  intro x
  obtain ⟨X1, X2, X3, X4, X5, X6, X7, X8, X9⟩ := HX
  obtain ⟨M1, M2, M3, M4, M5, M6, M7, M8, M9⟩ := HM
  have h7 : μ 7 = μ 43 := hw.2.2.2.2.2.1
  have h8 : μ 8 = μ 44 := hw.2.2.2.2.2.2.1
  have h11 : μ 11 = μ 47 := hw.2.2.2.2.2.2.2.2.2.1
  have hE : ∀ k, k < n → ∃ y z, zEnd μ k y z := fun k hk => by
    obtain ⟨y, z, a1, a2, a3, a4, a5⟩ := M8 k hk
    exact ⟨y, z, a4, a5, by omega, by omega, a3⟩
  have hm : ∀ k, k < n → (zmeaM μ (nI k) (nI q) ↔ μ 11 k < nI q) := fun k hk => by
    unfold zmeaM
    rw [M1, M6, nI_clamp (by omega), h11]
    exact ⟨fun h => h.2.2, fun h => ⟨⟨nI_le (a := 1) h1 (by omega), nI_le hq (by omega)⟩, ⟨nI_le (a := 0) (by omega) (by omega), (nI_ltI (by omega) (by omega)).mpr hk⟩, h⟩⟩
  rw [zgaM_mem, zgat_mem]
  unfold zPM zPr
  rw [decide_eq_true_eq, decide_eq_true_eq]
  constructor
  · rintro ⟨a1, a2, a3, ⟨m1, m2, m3⟩, r⟩
    obtain ⟨_, _, E1⟩ := hE x.1 (by omega)
    obtain ⟨_, _, E2⟩ := hE x.2.1 (by omega)
    obtain ⟨_, _, E3⟩ := hE x.2.2 (by omega)
    exact ⟨by omega, (hm _ (by omega)).mp m1, by omega, by omega, (zring_iff h7 h8 E1 E2 E3 (by omega)).mp r, (hm _ (by omega)).mp m2, (hm _ (by omega)).mp m3⟩
  · rintro ⟨a1, l1, a2, a3, r, l2, l3⟩
    obtain ⟨_, _, E1⟩ := hE x.1 (by omega)
    obtain ⟨_, _, E2⟩ := hE x.2.1 (by omega)
    obtain ⟨_, _, E3⟩ := hE x.2.2 (by omega)
    exact ⟨by omega, by omega, by omega, ⟨(hm _ (by omega)).mpr l1, (hm _ (by omega)).mpr l2, (hm _ (by omega)).mpr l3⟩, (zring_iff h7 h8 E1 E2 E3 (by omega)).mpr r⟩
theorem zgat_pm {μ : zM} {t c nc n q : Nat} (hw : zRw μ) (HX : zCI μ t c nc n) (HM : zMI μ t c nc n) (h1 : 1 ≤ q) (hq : q ≤ t) : (zgaM μ q n).Perm (zgat μ q n n) :=
  (List.perm_ext_iff_of_nodup (zgaM_nd μ q n) (zgat_nd μ q n n)).mpr (zgat_ga hw HX HM h1 hq)
/-- and they are out by the same -/
theorem zsum_x {μ : zM} {t c nc n q : Nat} (hw : zRw μ) (hr : zRr μ) (ho : zRo μ) (HM : zMI μ t c nc n) (h1 : 1 ≤ q) (hq : q ≤ t) {x : z3} (hx : x ∈ zgaM μ q n) : zsumM μ q x = zsum μ q x := by
  obtain ⟨M1, M2, M3, M4, M5, M6, M7, M8, M9⟩ := HM
  have hE : ∀ k, k < n → ∃ y z, zEnd μ k y z := fun k hk => by
    obtain ⟨y, z, a1, a2, a3, a4, a5⟩ := M8 k hk
    exact ⟨y, z, a4, a5, by omega, by omega, a3⟩
  obtain ⟨a1, a2, a3, p⟩ := zgaM_mem.mp hx
  unfold zPM at p
  rw [decide_eq_true_eq] at p
  obtain ⟨_, _, E1⟩ := hE x.1 (by omega)
  obtain ⟨_, _, E2⟩ := hE x.2.1 (by omega)
  obtain ⟨_, _, E3⟩ := hE x.2.2 (by omega)
  exact zsum_eq hw.2.2.2.2.2.1 hw.2.2.2.2.2.2.1 E1 E2 E3 (by omega) p.2 (zcor_eq hr ho (by omega) h1 (by omega)) (zcor_eq hr ho (by omega) h1 (by omega)) (zcor_eq hr ho (by omega) h1 (by omega))
