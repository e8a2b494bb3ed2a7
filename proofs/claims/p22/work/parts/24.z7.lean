/-! ===== rings as the class gathers them ===== -/
abbrev z3 : Type := Nat × Nat × Nat
def zring (μ : zM) (a b c : Nat) : Prop := zbits (μ 7 a) (μ 8 a) ^^^ zbits (μ 7 b) (μ 8 b) ^^^ zbits (μ 7 c) (μ 8 c) = 0
def zlaid (μ : zM) (t k : Nat) : Prop := μ 11 k < nI t
def zPr (μ : zM) (t a b c : Nat) : Bool := decide (zbits (μ 7 a) (μ 8 a) ^^^ zbits (μ 7 b) (μ 8 b) ^^^ zbits (μ 7 c) (μ 8 c) = 0 ∧ μ 11 b < nI t ∧ μ 11 c < nI t)
def zsum (μ : zM) (t : Nat) (x : z3) : Int32 := zcorX μ x.1 t + zsgn μ x.1 x.2.1 * zcorX μ x.2.1 t + zsgn μ x.1 x.2.2 * zcorX μ x.2.2 t
def zinn (μ : zM) (t a b s k : Nat) : List z3 := ((List.range' s k).filter (fun c => zPr μ t a b c)).map (fun c => (a, b, c))
def zmid (μ : zM) (t n a s k : Nat) : List z3 := (List.range' s k).flatMap (fun b => zinn μ t a b (b + 1) (n - (b + 1)))
def zgat (μ : zM) (t n k : Nat) : List z3 := (List.range k).flatMap (fun a => if μ 11 a < nI t then zmid μ t n a (a + 1) (n - (a + 1)) else [])
def zin3 (L : List z3) (k : Nat) : Prop := ∃ x ∈ L, k = x.1 ∨ k = x.2.1 ∨ k = x.2.2
theorem zsgn_cg {μ ν : zM} (h7 : μ 7 = ν 7) (h8 : μ 8 = ν 8) (a b : Nat) : zsgn μ a b = zsgn ν a b := by unfold zsgn; rw [h7, h8]
theorem zcorX_cg {μ ν : zM} (h : ∀ b, 20 < b → b < 63 → μ b = ν b) {k : Nat} (hk : k < 8) (t : Nat) : zcorX μ k t = zcorX ν k t := by
  unfold zcorX; rw [h (22 + k) (by omega) (by omega), h (30 + k) (by omega) (by omega)]
/-- the rings L, of the day t, laid out in μ; all else as in μ0 -/
def zRI (μ0 : zM) (t : Nat) (μ : zM) (L : List z3) : Prop :=
  (∀ b, (b < 14 ∨ 20 < b) → b ≠ 63 → μ b = μ0 b) ∧ (∀ j, j ≠ 7 → μ 63 j = μ0 63 j) ∧ μ 63 7 = nI L.length ∧
  (∀ j x, L[j]? = some x → μ 14 j = nI x.1 ∧ μ 15 j = nI x.2.1 ∧ μ 16 j = nI x.2.2 ∧ μ 17 j = zsgn μ0 x.1 x.2.1 ∧ μ 18 j = zsgn μ0 x.1 x.2.2 ∧ μ 19 j = zsum μ0 t x) ∧
  (∀ k, k < 8 → (μ 20 k = 0 ∨ μ 20 k = 1) ∧ (μ 20 k = 1 ↔ zin3 L k)) ∧ ∀ x ∈ L, x.1 < 8 ∧ x.2.1 < 8 ∧ x.2.2 < 8
def zaddR (μ : zM) (c a b d t : Nat) : zM :=
  zu (zu (zu (zu (zu (zu (zu (zu (zu (zu μ 14 c (nI a)) 15 c (nI b)) 16 c (nI d)) 17 c (zsgn μ a b)) 18 c (zsgn μ a d)) 19 c (zsum μ t (a, b, d))) 20 a 1) 20 b 1) 20 d 1) 63 7 (nI (c + 1))
theorem zaddR_o (μ : zM) (c a b d t : Nat) {i : Nat} (h : i < 14 ∨ 20 < i) (h63 : i ≠ 63) : zaddR μ c a b d t i = μ i := by
  unfold zaddR
  rw [zu_n _ _ _ h63, zu_n _ _ _ (by omega), zu_n _ _ _ (by omega), zu_n _ _ _ (by omega), zu_n _ _ _ (by omega), zu_n _ _ _ (by omega), zu_n _ _ _ (by omega), zu_n _ _ _ (by omega), zu_n _ _ _ (by omega), zu_n _ _ _ (by omega)]
theorem zaddR_63 (μ : zM) (c a b d t : Nat) : zaddR μ c a b d t 63 = upd (μ 63) 7 (nI (c + 1)) := by
  unfold zaddR
  rw [zu_s]
  repeat rw [zu_n _ _ _ (by decide)]
theorem zaddR_20 (μ : zM) (c a b d t : Nat) : zaddR μ c a b d t 20 = upd (upd (upd (μ 20) a 1) b 1) d 1 := by
  unfold zaddR
  rw [zu_n _ _ _ (by decide), zu_s, zu_s, zu_s]
  repeat rw [zu_n _ _ _ (by decide)]
theorem zaddR_14 (μ : zM) (c a b d t : Nat) : zaddR μ c a b d t 14 = upd (μ 14) c (nI a) ∧ zaddR μ c a b d t 15 = upd (μ 15) c (nI b) ∧ zaddR μ c a b d t 16 = upd (μ 16) c (nI d) ∧ zaddR μ c a b d t 17 = upd (μ 17) c (zsgn μ a b) ∧ zaddR μ c a b d t 18 = upd (μ 18) c (zsgn μ a d) ∧ zaddR μ c a b d t 19 = upd (μ 19) c (zsum μ t (a, b, d)) := by
  unfold zaddR
  refine ⟨?_, ?_, ?_, ?_, ?_, ?_⟩ <;> simp [zu, zur]
theorem zRI.add {μ0 μ : zM} {t : Nat} {L : List z3} (h : zRI μ0 t μ L) {a b d : Nat} (ha : a < 8) (hb : b < 8) (hd : d < 8) : zRI μ0 t (zaddR μ L.length a b d t) (L ++ [(a, b, d)]) := by
  obtain ⟨h1, h2, h3, h4, h5, h6⟩ := h
  have c7 : μ 7 = μ0 7 := h1 7 (by omega) (by omega)
  have c8 : μ 8 = μ0 8 := h1 8 (by omega) (by omega)
  have cc : ∀ b, 20 < b → b < 63 → μ b = μ0 b := fun b hb h63 => h1 b (Or.inr hb) (by omega)
  have es : zsum μ t (a, b, d) = zsum μ0 t (a, b, d) := by
    unfold zsum
    rw [zcorX_cg cc ha, zcorX_cg cc hb, zcorX_cg cc hd, zsgn_cg c7 c8, zsgn_cg c7 c8]
  obtain ⟨e14, e15, e16, e17, e18, e19⟩ := zaddR_14 μ L.length a b d t
  refine ⟨fun i hi h63 => (zaddR_o μ _ a b d t hi h63).trans (h1 i hi h63), fun j hj => by rw [zaddR_63, upd_n _ _ hj]; exact h2 j hj, by rw [zaddR_63, upd_s, List.length_append]; rfl, fun j x hx => ?_, fun k hk => ?_, fun x hx => ?_⟩
  · by_cases hl : j < L.length
    · rw [List.getElem?_append_left hl] at hx
      rw [e14, e15, e16, e17, e18, e19, upd_n _ _ (by omega), upd_n _ _ (by omega), upd_n _ _ (by omega), upd_n _ _ (by omega), upd_n _ _ (by omega), upd_n _ _ (by omega)]
      exact h4 j x hx
    · rw [List.getElem?_append_right (by omega)] at hx
      have hj : j - L.length < 1 := (List.getElem?_eq_some_iff.mp hx).1
      have hj2 : j = L.length := by omega
      subst hj2
      rw [Nat.sub_self] at hx
      cases hx
      rw [e14, e15, e16, e17, e18, e19, upd_s, upd_s, upd_s, upd_s, upd_s, upd_s, es, zsgn_cg c7 c8, zsgn_cg c7 c8]
      exact ⟨rfl, rfl, rfl, rfl, rfl, rfl⟩
  · rw [zaddR_20]
    have hz : zin3 (L ++ [(a, b, d)]) k ↔ zin3 L k ∨ k = a ∨ k = b ∨ k = d := by
      unfold zin3
      constructor
      · rintro ⟨x, hx, hk⟩
        rcases List.mem_append.mp hx with q | q
        · exact Or.inl ⟨x, q, hk⟩
        · rw [List.mem_singleton.mp q] at hk
          exact Or.inr hk
      · rintro (⟨x, hx, hk⟩ | hk)
        · exact ⟨x, List.mem_append_left _ hx, hk⟩
        · exact ⟨(a, b, d), List.mem_append_right _ (List.mem_singleton.mpr rfl), hk⟩
    rw [hz]
    unfold upd
    by_cases e1 : k = d
    · simp [e1]
    · by_cases e2 : k = b
      · simp [e2]
      · by_cases e3 : k = a
        · simp [e3]
        · simp only [e1, e2, e3, if_false, or_false]
          exact h5 k hk
  · rcases List.mem_append.mp hx with q | q
    · exact h6 x q
    · rw [List.mem_singleton.mp q]
      exact ⟨ha, hb, hd⟩
theorem zinn_s (μ : zM) (t a b s k : Nat) : zinn μ t a b s (k + 1) = zinn μ t a b s k ++ (if zPr μ t a b (s + k) then [(a, b, s + k)] else []) := by
  unfold zinn
  rw [List.range'_1_concat, List.filter_append, List.map_append]
  congr 1
  by_cases h : zPr μ t a b (s + k) = true
  · rw [if_pos h, List.filter_cons_of_pos h]; rfl
  · rw [if_neg h, List.filter_cons_of_neg h]; rfl
theorem zmid_s (μ : zM) (t n a s k : Nat) : zmid μ t n a s (k + 1) = zmid μ t n a s k ++ zinn μ t a (s + k) (s + k + 1) (n - (s + k + 1)) := by
  unfold zmid
  rw [List.range'_1_concat, List.flatMap_append]
  simp
theorem zgat_s (μ : zM) (t n k : Nat) : zgat μ t n (k + 1) = zgat μ t n k ++ (if μ 11 k < nI t then zmid μ t n k (k + 1) (n - (k + 1)) else []) := by
  unfold zgat
  rw [List.range_succ, List.flatMap_append]
  simp
theorem zinn_len (μ : zM) (t a b s k : Nat) : (zinn μ t a b s k).length ≤ k := by
  unfold zinn
  rw [List.length_map]
  exact Nat.le_trans (List.length_filter_le _ _) (by rw [List.length_range']; exact Nat.le_refl _)
/-- how many threes stand ahead -/
def zBm (a : Nat) : Nat → Nat
  | 0 => 0
  | k + 1 => zBm a k + (7 - (a + 1 + k))
def zBa : Nat → Nat
  | 0 => 0
  | a + 1 => zBa a + zBm a (7 - a)
theorem zmid_len (μ : zM) {t n a : Nat} (hn : n ≤ 8) : ∀ k, (zmid μ t n a (a + 1) k).length ≤ zBm a k
  | 0 => by simp [zmid, zBm]
  | k + 1 => by
    rw [zmid_s, List.length_append, zBm]
    have h1 := zmid_len μ (t := t) (a := a) hn k
    have h2 := zinn_len μ t a (a + 1 + k) (a + 1 + k + 1) (n - (a + 1 + k + 1))
    omega
theorem zBm_mono (a : Nat) : ∀ {j k : Nat}, j ≤ k → zBm a j ≤ zBm a k := by
  intro j k h
  induction k with
  | zero => rw [show j = 0 by omega]; exact Nat.le_refl _
  | succ k ih =>
    rcases Nat.lt_or_ge k j with q | q
    · rw [show j = k + 1 by omega]; exact Nat.le_refl _
    · rw [zBm]; have := ih q; omega
theorem zgat_len (μ : zM) {t n : Nat} (hn : n ≤ 8) : ∀ k, k ≤ n → (zgat μ t n k).length ≤ zBa k
  | 0, _ => by simp [zgat, zBa]
  | k + 1, hk => by
    rw [zgat_s, List.length_append, zBa]
    have h1 := zgat_len μ (t := t) hn k (by omega)
    split
    · have h2 := zmid_len μ (t := t) (a := k) hn (n - (k + 1))
      have h3 := zBm_mono k (show n - (k + 1) ≤ 7 - k by omega)
      omega
    · simp; omega
theorem zB_lt : ∀ a, a < 8 → ∀ b, b < 8 → ∀ c, c < 8 → a < b → b < c → zBa a + zBm a (b - (a + 1)) + (c - (b + 1)) < 56 := by decide
