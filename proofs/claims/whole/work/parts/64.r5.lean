/-! ===== the mean of both ===== -/
abbrev zPj (μ : zM) (q o k : Nat) : Prop := zjnM μ (nI o) k ∧ μ 47 k < nI q
def zfd (μ : zM) (q o : Nat) : Nat → Option Nat
  | 0 => none
  | i + 1 => match zfd μ q o i with
    | some k => some k
    | none => if zPj μ q o i then some i else none
theorem zfd_c (μ : zM) (q o : Nat) : ∀ i, (zfd μ q o i = none ∧ ∀ k, k < i → ¬ zPj μ q o k) ∨ ∃ k, k < i ∧ zfd μ q o i = some k ∧ zPj μ q o k ∧ ∀ j, j < k → ¬ zPj μ q o j
  | 0 => Or.inl ⟨rfl, fun k hk => absurd hk (Nat.not_lt_zero k)⟩
  | i + 1 => by
    rcases zfd_c μ q o i with ⟨h, g⟩ | ⟨k, hk, h, g⟩
    · by_cases p : zPj μ q o i
      · exact Or.inr ⟨i, by omega, by rw [zfd, h]; exact if_pos p, p, g⟩
      · refine Or.inl ⟨by rw [zfd, h]; exact if_neg p, fun k hk => ?_⟩
        rcases Nat.lt_or_ge k i with q1 | q1
        · exact g k q1
        · rw [show k = i by omega]; exact p
    · exact Or.inr ⟨k, by omega, by rw [zfd, h], g⟩
theorem zlo_c {μ : zM} {q o n : Nat} (hm : ∀ k, k < n → (zmeaM μ (nI k) (nI q) ↔ μ 47 k < nI q)) : ∀ g, g ≤ n → (zloM μ (nI q) (nI o) n g = -1 ∧ ∀ k, n - g ≤ k → k < n → ¬ zPj μ q o k) ∨ ∃ k, n - g ≤ k ∧ k < n ∧ zloM μ (nI q) (nI o) n g = nI k ∧ zPj μ q o k ∧ ∀ j, n - g ≤ j → j < k → ¬ zPj μ q o j
  | 0, _ => Or.inl ⟨rfl, fun k h1 h2 => by omega⟩
  | g + 1, hg => by
    by_cases p : zPj μ q o (n - 1 - g)
    · refine Or.inr ⟨n - 1 - g, by omega, by omega, ?_, p, fun j h1 h2 => by omega⟩
      rw [zloM]; exact if_pos ⟨p.1, (hm _ (by omega)).mpr p.2⟩
    · have e : zloM μ (nI q) (nI o) n (g + 1) = zloM μ (nI q) (nI o) n g := by
        rw [zloM]; exact if_neg (fun h => p ⟨h.1, (hm _ (by omega)).mp h.2⟩)
      rw [e]
      rcases zlo_c (o := o) hm g (by omega) with ⟨h, z⟩ | ⟨k, h1, h2, h, z1, z2⟩
      · refine Or.inl ⟨h, fun k k1 k2 => ?_⟩
        rcases Nat.lt_or_ge k (n - g) with q1 | q1
        · rw [show k = n - 1 - g by omega]; exact p
        · exact z k q1 k2
      · refine Or.inr ⟨k, by omega, h2, h, z1, fun j j1 j2 => ?_⟩
        rcases Nat.lt_or_ge j (n - g) with q1 | q1
        · rw [show j = n - 1 - g by omega]; exact p
        · exact z2 j q1 j2
theorem zlo_fd {μ : zM} {q o n : Nat} (hm : ∀ k, k < n → (zmeaM μ (nI k) (nI q) ↔ μ 47 k < nI q)) : (zfd μ q o n = none ∧ zloM μ (nI q) (nI o) n n = -1) ∨ ∃ k, k < n ∧ zfd μ q o n = some k ∧ zloM μ (nI q) (nI o) n n = nI k := by
  rcases zfd_c μ q o n with ⟨h, g⟩ | ⟨k, hk, h, g, g2⟩
  · rcases zlo_c (o := o) hm n (Nat.le_refl n) with ⟨h2, z⟩ | ⟨k, h1, h2, h3, z1, z2⟩
    · exact Or.inl ⟨h, h2⟩
    · exact absurd z1 (g k h2)
  · rcases zlo_c (o := o) hm n (Nat.le_refl n) with ⟨h2, z⟩ | ⟨k2, h1, h2, h3, z1, z2⟩
    · exact absurd g (z k (by omega) hk)
    · refine Or.inr ⟨k, hk, h, ?_⟩
      rcases Nat.lt_trichotomy k k2 with e | e | e
      · exact absurd g (z2 k (by omega) e)
      · rw [e]; exact h3
      · exact absurd z1 (g2 k2 e)
def zah (μ : zM) (q o k : Nat) : Int32 := if μ 43 k = nI o then zcorM μ k q else -zcorM μ k q
def zfwe (μ : zM) (q i o : Nat) : Int64 := match zfd μ q o i with
  | none => 0
  | some _ => (μ 42 o).toInt64
def zfsu (μ : zM) (q i o : Nat) : Int64 := match zfd μ q o i with
  | none => 0
  | some k => (μ 42 o).toInt64 * (zah μ q o k).toInt64
def zso (f : Nat → Int64) : Nat → Int64
  | 0 => 0
  | m + 1 => zso f m + f (m + 1)
theorem zso_cg {f g : Nat → Int64} : ∀ m, (∀ o, 1 ≤ o → o ≤ m → f o = g o) → zso f m = zso g m
  | 0, _ => rfl
  | m + 1, h => by rw [zso, zso, zso_cg m (fun o h1 h2 => h o h1 (by omega)), h (m + 1) (by omega) (by omega)]
theorem zso_up {f g : Nat → Int64} {o0 : Nat} (h1 : 1 ≤ o0) (hf : f o0 = 0) : ∀ m, o0 ≤ m → (∀ o, 1 ≤ o → o ≤ m → o ≠ o0 → g o = f o) → zso g m = zso f m + g o0
  | 0, h, _ => by omega
  | m + 1, h, hg => by
    rw [zso, zso]
    by_cases e : o0 = m + 1
    · subst e
      rw [zso_cg m (fun o a b => hg o a (by omega) (by omega)), hf, Int64.add_zero]
    · rw [zso_up h1 hf m (by omega) (fun o a b c => hg o a (by omega) c), hg (m + 1) (by omega) (by omega) (fun z => e z.symm), Int64.add_assoc, Int64.add_comm (g o0), ← Int64.add_assoc]
theorem zso_0 : ∀ m, zso (fun _ => 0) m = 0
  | 0 => rfl
  | m + 1 => by rw [zso, zso_0 m]; rfl
/-- the model's sums -/
theorem zmnM_so {μ : zM} {q n : Nat} (hn : n ≤ 8) (hm : ∀ k, k < n → (zmeaM μ (nI k) (nI q) ↔ μ 47 k < nI q)) (h12 : 0 < μ 63 12) : ∀ i, zmnM μ q n i = (zso (zfsu μ q n) i, (μ 42 0).toInt64 + zso (zfwe μ q n) i)
  | 0 => by rw [zmnM, if_pos h12, zso, zso, Int64.add_zero]
  | i + 1 => by
    rw [zmnM, zmnM_so hn hm h12 i, zso, zso]
    unfold zmnS
    rcases zlo_fd (o := i + 1) hm with ⟨h, g⟩ | ⟨k, hk, h, g⟩
    · rw [if_pos g]
      have e1 : zfsu μ q n (i + 1) = 0 := by unfold zfsu; rw [h]
      have e2 : zfwe μ q n (i + 1) = 0 := by unfold zfwe; rw [h]
      rw [e1, e2, Int64.add_zero, Int64.add_zero]
    · rw [g, if_neg (by intro e; have h9 := congrArg Int32.toInt e; rw [nI_toInt (by omega), show (-1 : Int32).toInt = -1 from by decide] at h9; omega), nI_clamp (by omega)]
      have e1 : zfsu μ q n (i + 1) = (μ 42 (i + 1)).toInt64 * (zah μ q (i + 1) k).toInt64 := by unfold zfsu; rw [h]
      have e2 : zfwe μ q n (i + 1) = (μ 42 (i + 1)).toInt64 := by unfold zfwe; rw [h]
      rw [e1, e2, Int64.add_assoc]
      rfl
/-! the mask of clocks that are counted -/
theorem zmk_or : ∀ M, M < 64 → ∀ o, o < 6 → nI M ||| 1 <<< (nI o &&& 31) = nI (M ||| 2 ^ o) ∧ M ||| 2 ^ o < 64 := by decide +kernel
theorem zmk_bt : ∀ M, M < 64 → ∀ o, o < 6 → ∀ o2, o2 < 6 → (nI (M ||| 2 ^ o) >>> (nI o2 &&& 31) &&& 1 = 0 ↔ nI M >>> (nI o2 &&& 31) &&& 1 = 0 ∧ o2 ≠ o) := by decide +kernel
theorem zmk_1 : ∀ o, o < 6 → (nI 1 >>> (nI o &&& 31) &&& 1 = 0 ↔ o ≠ 0) := by decide +kernel
theorem zoth_j {μ : zM} {k a b o : Nat} (h7 : μ 7 = μ 43) (h8 : μ 8 = μ 44) (E : zEnd μ k a b) (h1 : 1 ≤ o) (h6 : o < 6) : zjnM μ (nI o) k ↔ zoth μ k = nI o := by
  obtain ⟨e1, e2, l1, l2, ne⟩ := E
  have z0 : ∀ x, x < 6 → (nI x = 0 ↔ x = 0) := by decide
  have zz : ∀ x, x < 6 → ¬ (-1 : Int32) = nI x := by decide
  unfold zjnM zoth
  rw [h7, h8, e1, e2]
  by_cases ha : a = 0
  · rw [if_pos ((z0 a l1).mpr ha), z0 b l2, z0 a l1, nI_eq (by omega) (by omega), nI_eq (by omega) (by omega)]
    omega
  · rw [if_neg (fun h => ha ((z0 a l1).mp h))]
    by_cases hb : b = 0
    · rw [if_pos ((z0 b l2).mpr hb), z0 b l2, z0 a l1, nI_eq (by omega) (by omega), nI_eq (by omega) (by omega)]
      omega
    · rw [if_neg (fun h => hb ((z0 b l2).mp h)), z0 b l2, z0 a l1]
      constructor
      · intro h; exact absurd h (by rintro (⟨_, h⟩ | ⟨_, h⟩); exact hb h; exact ha h)
      · intro h; exact absurd h (zz o h6)
theorem zoth_v {μ : zM} {k a b : Nat} (h7 : μ 7 = μ 43) (h8 : μ 8 = μ 44) (E : zEnd μ k a b) : zoth μ k = -1 ∨ ∃ o, 1 ≤ o ∧ (o = a ∨ o = b) ∧ zoth μ k = nI o := by
  obtain ⟨e1, e2, l1, l2, ne⟩ := E
  have z0 : ∀ x, x < 6 → (nI x = 0 ↔ x = 0) := by decide
  unfold zoth
  rw [h7, h8, e1, e2]
  by_cases ha : a = 0
  · rw [if_pos ((z0 a l1).mpr ha)]; exact Or.inr ⟨b, by omega, Or.inr rfl, rfl⟩
  · rw [if_neg (fun h => ha ((z0 a l1).mp h))]
    by_cases hb : b = 0
    · rw [if_pos ((z0 b l2).mpr hb)]; exact Or.inr ⟨a, by omega, Or.inl rfl, rfl⟩
    · rw [if_neg (fun h => hb ((z0 b l2).mp h))]; exact Or.inl rfl
theorem zahd_ah {μ : zM} {k a b o q : Nat} (h7 : μ 7 = μ 43) (h8 : μ 8 = μ 44) (E : zEnd μ k a b) (h1 : 1 ≤ o) (h6 : o < 6) (hj : zoth μ k = nI o) (hc : zcorM μ k q = zcorX μ k q) : zahd μ k q = zah μ q o k := by
  have j := (zoth_j h7 h8 E h1 h6).mpr hj
  obtain ⟨e1, e2, l1, l2, ne⟩ := E
  have z0 : ∀ x, x < 6 → (nI x = 0 ↔ x = 0) := by decide
  unfold zahd zah
  rw [h7, hc]
  rcases j with ⟨j1, j2⟩ | ⟨j1, j2⟩
  · rw [if_pos j1, if_neg (by rw [j1]; intro h; have := (z0 o h6).mp h; omega)]
  · rw [if_pos j2, if_neg (by rw [j2]; intro h; have := (z0 o h6).mp h.symm; omega)]
/-- the class's sums, link by link -/
theorem zmnX_so {μ : zM} {t c nc n q : Nat} (hw : zRw μ) (hr : zRr μ) (ho : zRo μ) (HX : zCI μ t c nc n) (HM : zMI μ t c nc n) (h1 : 1 ≤ q) (hq : q ≤ t) (hnc : 1 ≤ nc) : ∀ i, i ≤ n → ∃ M, M < 64 ∧ zmnX μ q i = (nI M, (μ 42 0).toInt64 + zso (zfwe μ q i) (nc - 1), zso (zfsu μ q i) (nc - 1)) ∧ ∀ o, 1 ≤ o → o < nc → (nI M >>> (nI o &&& 31) &&& 1 = 0 ↔ zfd μ q o i = none)
  | 0, _ => by
    have hn6 := HM.2.2.2.2.1
    refine ⟨1, by decide, ?_, fun o a b => ?_⟩
    · have e1 : zfwe μ q 0 = fun _ => 0 := rfl
      have e2 : zfsu μ q 0 = fun _ => 0 := rfl
      rw [zmnX, e1, e2, zso_0, Int64.add_zero, hw.2.2.2.2.1]; rfl
    · rw [zmk_1 o (by omega)]
      exact ⟨fun _ => rfl, fun _ => by omega⟩
  | i + 1, hi => by
    obtain ⟨M, hM, e, hbit⟩ := zmnX_so hw hr ho HX HM h1 hq hnc i (by omega)
    have hn6 := HM.2.2.2.2.1
    have ht := HM.2.1
    have hn8 := HM.2.2.2.2.2.2.1
    obtain ⟨y, z, a1, a2, a3, a4, a5⟩ := HM.2.2.2.2.2.2.2.1 i (by omega)
    have E : zEnd μ i y z := ⟨a4, a5, by omega, by omega, a3⟩
    have h7 : μ 7 = μ 43 := hw.2.2.2.2.2.1
    have h8 : μ 8 = μ 44 := hw.2.2.2.2.2.2.1
    have h11 : μ 11 = μ 47 := hw.2.2.2.2.2.2.2.2.2.1
    have h4 : μ 4 = μ 42 := hw.2.2.2.2.1
    -- nothing changes for a clock whose link this is not
    have same : ∀ o, ¬ zPj μ q o i → zfd μ q o (i + 1) = zfd μ q o i := fun o p => by
      rw [zfd]
      cases hz : zfd μ q o i with
      | some k => rfl
      | none => exact if_neg p
    have keep : (∀ o, 1 ≤ o → o < nc → zfd μ q o (i + 1) = zfd μ q o i) → zmnX μ q (i + 1) = zmnX μ q i → ∃ M, M < 64 ∧ zmnX μ q (i + 1) = (nI M, (μ 42 0).toInt64 + zso (zfwe μ q (i + 1)) (nc - 1), zso (zfsu μ q (i + 1)) (nc - 1)) ∧ ∀ o, 1 ≤ o → o < nc → (nI M >>> (nI o &&& 31) &&& 1 = 0 ↔ zfd μ q o (i + 1) = none) := fun hs hx => by
      refine ⟨M, hM, ?_, fun o o1 o2 => by rw [hs o o1 o2]; exact hbit o o1 o2⟩
      rw [hx, e, zso_cg (nc - 1) (f := zfwe μ q (i + 1)) (g := zfwe μ q i) (fun o o1 o2 => by unfold zfwe; rw [hs o o1 (by omega)]), zso_cg (nc - 1) (f := zfsu μ q (i + 1)) (g := zfsu μ q i) (fun o o1 o2 => by unfold zfsu; rw [hs o o1 (by omega)])]
    rcases zoth_v h7 h8 E with hz | ⟨o0, o1, o2, hz⟩
    · refine keep (fun o p1 p2 => same o (fun p => ?_)) ?_
      · have := (zoth_j h7 h8 E p1 (by omega)).mp p.1
        rw [hz] at this
        have zz : ∀ x, x < 6 → ¬ (-1 : Int32) = nI x := by decide
        exact zz o (by omega) this
      · rw [zmnX, zmns, if_neg (fun h => h.1 hz)]
    · have o3 : o0 < nc := by omega
      have only : ∀ o, 1 ≤ o → o < nc → o ≠ o0 → ¬ zPj μ q o i := fun o p1 p2 p3 p => by
        have := (zoth_j h7 h8 E p1 (by omega)).mp p.1
        rw [hz, nI_eq (by omega) (by omega)] at this
        exact p3 this.symm
      by_cases hset : nI M >>> (nI o0 &&& 31) &&& 1 = 0 ∧ μ 47 i < nI q
      · have hnone := (hbit o0 o1 o3).mp hset.1
        have hP : zPj μ q o0 i := ⟨(zoth_j h7 h8 E o1 (by omega)).mpr hz, hset.2⟩
        have hnew : zfd μ q o0 (i + 1) = some i := by rw [zfd, hnone]; exact if_pos hP
        obtain ⟨f1, f2⟩ := zmk_or M hM o0 (by omega)
        have zm1 : ∀ x, x < 6 → ¬ nI x = -1 := by decide
        refine ⟨M ||| 2 ^ o0, f2, ?_, fun o p1 p2 => ?_⟩
        · rw [zmnX, zmns, e]
          simp only []
          rw [hz, h11, if_pos ⟨zm1 o0 (by omega), hset.1, hset.2⟩, f1, nI_clamp (by omega), h4]
          rw [zahd_ah h7 h8 E o1 (by omega) hz (zcor_eq hr ho (by omega) h1 (by omega))]
          have w0 : zfwe μ q i o0 = 0 := by unfold zfwe; rw [hnone]
          have s0 : zfsu μ q i o0 = 0 := by unfold zfsu; rw [hnone]
          have w1 : zfwe μ q (i + 1) o0 = (μ 42 o0).toInt64 := by unfold zfwe; rw [hnew]
          have s1 : zfsu μ q (i + 1) o0 = (μ 42 o0).toInt64 * (zah μ q o0 i).toInt64 := by unfold zfsu; rw [hnew]
          rw [zso_up (f := zfwe μ q i) (g := zfwe μ q (i + 1)) o1 w0 (nc - 1) (by omega) (fun o p1 p2 p3 => by unfold zfwe; rw [same o (only o p1 (by omega) p3)]), zso_up (f := zfsu μ q i) (g := zfsu μ q (i + 1)) o1 s0 (nc - 1) (by omega) (fun o p1 p2 p3 => by unfold zfsu; rw [same o (only o p1 (by omega) p3)]), w1, s1, Int64.add_assoc]
        · rw [zmk_bt M hM o0 (by omega) o (by omega), hbit o p1 p2]
          by_cases p : o = o0
          · subst p; rw [hnew]; exact ⟨fun h => absurd rfl h.2, fun h => by cases h⟩
          · rw [same o (only o p1 p2 p)]; exact ⟨fun h => h.1, fun h => ⟨h, p⟩⟩
      · refine keep (fun o p1 p2 => ?_) ?_
        · by_cases p : o = o0
          · subst p
            by_cases hb : nI M >>> (nI o &&& 31) &&& 1 = 0
            · exact same o (fun h => hset ⟨hb, h.2⟩)
            · rw [zfd]
              cases hv : zfd μ q o i with
              | some k => rfl
              | none => exact absurd ((hbit o p1 p2).mpr hv) hb
          · exact same o (only o p1 p2 p)
        · rw [zmnX, zmns, e]
          simp only []
          rw [hz, h11, if_neg (fun h => hset ⟨h.2.1, h.2.2⟩)]
theorem zmean_eq {μ : zM} {t c nc n q : Nat} (hw : zRw μ) (hr : zRr μ) (ho : zRo μ) (HX : zCI μ t c nc n) (HM : zMI μ t c nc n) (h1 : 1 ≤ q) (hq : q ≤ t) : zmeanM μ q n nc = zmean μ q n := by
  obtain ⟨X1, X2, X3, X4, X5, X6, X7, X8, X9⟩ := id HX
  obtain ⟨M1, M2, M3, M4, M5, M6, M7, M8, M9⟩ := id HM
  have hm : ∀ k, k < n → (zmeaM μ (nI k) (nI q) ↔ μ 47 k < nI q) := fun k hk => by
    unfold zmeaM
    rw [M1, M6, nI_clamp (by omega)]
    exact ⟨fun h => h.2.2, fun h => ⟨⟨nI_le (a := 1) h1 (by omega), nI_le hq (by omega)⟩, ⟨nI_le (a := 0) (by omega) (by omega), (nI_ltI (by omega) (by omega)).mpr hk⟩, h⟩⟩
  unfold zmeanM zmean
  rcases Nat.lt_or_ge 0 nc with h | h
  · have h12 : 0 < μ 63 12 := by rw [M4]; exact (nI_ltI (a := 0) (by omega) (by omega)).mpr h
    have h0 : ¬ μ 63 4 = 0 := by rw [X4]; intro e; have := (nI_eq (b := 0) (by omega) (by omega)).mp e; omega
    obtain ⟨M, hM, e, -⟩ := zmnX_so hw hr ho HX HM h1 hq h n (Nat.le_refl n)
    rw [if_neg h0, zmnM_so M7 hm h12, e]
  · have e0 : nc = 0 := by omega
    have h4 : μ 63 4 = 0 := by rw [X4, e0]; rfl
    have h12 : ¬ 0 < μ 63 12 := by rw [M4, e0]; decide
    subst e0
    rw [if_pos h4]
    have e : (zmnM μ q n (0 - 1)).2 = 0 := by rw [show 0 - 1 = 0 from rfl, zmnM, if_neg h12]
    rw [if_pos e]
