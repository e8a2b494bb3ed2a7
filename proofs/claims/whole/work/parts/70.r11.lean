/-! ===== slips: the class's search and the model's ===== -/
def zDg (p i : Nat) : Int32 := nI (zdig p i) - 1
def zoff (μ : zM) (x : z3) (p : Nat) : Int32 := zDg p x.1 + zsgn μ x.1 x.2.1 * zDg p x.2.1 + zsgn μ x.1 x.2.2 * zDg p x.2.2
/-- the ring x stays closed under the slips p -/
def zclo (μ : zM) (q : Nat) (d : Int32) (x : z3) (p : Nat) : Prop := zabs (zsum μ q x - 1000 * zoff μ x p) ≤ d
def zxc (n k p : Nat) : Nat := zcnt (fun i => decide (k ≤ i ∧ zdig p i ≠ 1)) n
theorem zcnt_flip {f g : Nat → Bool} {i : Nat} (hf : f i = true) (hg : g i = false) : ∀ n, i < n → (∀ j, j < n → j ≠ i → f j = g j) → zcnt f n = zcnt g n + 1
  | 0, h, _ => absurd h (Nat.not_lt_zero _)
  | n + 1, h, e => by
    rw [zcnt, zcnt]
    by_cases q : i = n
    · subst q
      rw [zcnt_cg (f := f) (g := g) (fun j hj => e j (by omega) (by omega)), hf, hg]; rfl
    · rw [zcnt_flip hf hg n (by omega) (fun j hj => e j (by omega)), e n (by omega) (fun z => q z.symm)]; omega
theorem zcnt_mo {f g : Nat → Bool} : ∀ n, (∀ j, j < n → f j = true → g j = true) → zcnt f n ≤ zcnt g n
  | 0, _ => Nat.le_refl _
  | n + 1, e => by
    rw [zcnt, zcnt]
    have ih := zcnt_mo (f := f) (g := g) n (fun j hj => e j (by omega))
    cases hf : f n with
    | false => simp; omega
    | true => rw [e n (by omega) hf]; simp; omega
theorem zxc_0 (n k p : Nat) : zxc n k p ≤ zxc n 0 p := zcnt_mo n (fun j _ h => by
  rw [decide_eq_true_eq] at h ⊢; exact ⟨Nat.zero_le _, h.2⟩)
theorem zxc_le (n k p : Nat) : zxc n k p ≤ n := zcnt_le _ n
theorem zxc_s {n k p : Nat} (hk : k < n) : zxc n k p = zxc n (k + 1) p + (if zdig p k = 1 then 0 else 1) := by
  unfold zxc
  by_cases h : zdig p k = 1
  · rw [if_pos h, Nat.add_zero]
    refine zcnt_cg (fun j _ => ?_)
    by_cases e : j = k
    · subst e; rw [decide_eq_false (fun z => z.2 h), decide_eq_false (fun z => z.2 h)]
    · exact decide_eq_decide.mpr ⟨fun z => ⟨by omega, z.2⟩, fun z => ⟨by omega, z.2⟩⟩
  · rw [if_neg h]
    exact zcnt_flip (i := k) (decide_eq_true ⟨Nat.le_refl k, h⟩) (decide_eq_false (fun z => by omega)) n hk (fun j _ e => decide_eq_decide.mpr ⟨fun z => ⟨by omega, z.2⟩, fun z => ⟨by omega, z.2⟩⟩)
/-- the best of a range -/
def zbst (Q : Nat → Prop) (w : Nat → Nat) (lo hi F : Nat) (X : Int32) (F' : Nat) (X' : Int32) : Prop :=
  (F' = F ∧ X' = X ∧ ∀ p, lo ≤ p → p < hi → Q p → F ≤ w p) ∨
  ∃ p0, lo ≤ p0 ∧ p0 < hi ∧ Q p0 ∧ w p0 < F ∧ F' = w p0 ∧ X' = nI p0 ∧ ∀ p, lo ≤ p → p < hi → Q p → w p0 ≤ w p ∧ (p < p0 → w p0 < w p)
theorem zbst.go {Q : Nat → Prop} {w : Nat → Nat} {lo mid hi F F1 F2 : Nat} {X X1 X2 : Int32} (m1 : lo ≤ mid) (m2 : mid ≤ hi) (h : zbst Q w lo mid F X F1 X1) (g : zbst Q w mid hi F1 X1 F2 X2) : zbst Q w lo hi F X F2 X2 := by
  rcases h with ⟨rfl, rfl, h⟩ | ⟨p0, a1, a2, a3, a4, rfl, rfl, a5⟩
  · rcases g with ⟨rfl, rfl, g⟩ | ⟨p1, b1, b2, b3, b4, rfl, rfl, b5⟩
    · refine Or.inl ⟨rfl, rfl, fun p x y z => ?_⟩
      rcases Nat.lt_or_ge p mid with q | q
      · exact h p x q z
      · exact g p q y z
    · refine Or.inr ⟨p1, by omega, b2, b3, b4, rfl, rfl, fun p x y z => ?_⟩
      rcases Nat.lt_or_ge p mid with q | q
      · have := h p x q z; exact ⟨by omega, fun _ => by omega⟩
      · exact b5 p q y z
  · rcases g with ⟨rfl, rfl, g⟩ | ⟨p1, b1, b2, b3, b4, rfl, rfl, b5⟩
    · refine Or.inr ⟨p0, a1, by omega, a3, a4, rfl, rfl, fun p x y z => ?_⟩
      rcases Nat.lt_or_ge p mid with q | q
      · exact a5 p x q z
      · exact ⟨g p q y z, fun _ => by omega⟩
    · refine Or.inr ⟨p1, by omega, b2, b3, by omega, rfl, rfl, fun p x y z => ?_⟩
      rcases Nat.lt_or_ge p mid with q | q
      · have := (a5 p x q z).1; exact ⟨by omega, fun _ => by omega⟩
      · exact b5 p q y z
theorem zbst.no {Q : Nat → Prop} {w : Nat → Nat} {lo hi F : Nat} {X : Int32} (h : ∀ p, lo ≤ p → p < hi → Q p → F ≤ w p) : zbst Q w lo hi F X F X := Or.inl ⟨rfl, rfl, h⟩
/-- what the search finds laid out -/
def zDF (μ ν : zM) (q n : Nat) (L : List z3) (d : Int32) : Prop :=
  (∀ j x, L[j]? = some x → ν 14 j = nI x.1 ∧ ν 15 j = nI x.2.1 ∧ ν 16 j = nI x.2.2 ∧ ν 17 j = zsgn μ x.1 x.2.1 ∧ ν 18 j = zsgn μ x.1 x.2.2 ∧ ν 19 j = zsum μ q x) ∧
  (∀ k, k < 8 → (ν 20 k = 0 ∨ ν 20 k = 1) ∧ (ν 20 k = 1 ↔ zin3 L k)) ∧ (∀ x ∈ L, x.1 < x.2.1 ∧ x.2.1 < x.2.2 ∧ x.2.2 < n) ∧ n ≤ 8 ∧ ν 63 8 = d
/-- all but the slips tried and what was found stays -/
def zKp (ν σ : zM) : Prop := (∀ b, b ≠ 21 → b ≠ 63 → σ b = ν b) ∧ ∀ j, j ≠ 9 → j ≠ 10 → σ 63 j = ν 63 j
def zQs (μ : zM) (q n : Nat) (L : List z3) (d : Int32) (p : Nat) : Prop := (∀ x ∈ L, zclo μ q d x p) ∧ ∀ i, i < n → ¬ zin3 L i → zdig p i = 1
/-- a level of the search at the number N, s slips laid out so far -/
def zLv (μ σ : zM) (q n : Nat) (L : List z3) (d : Int32) (k N s : Nat) : Prop :=
  ∀ p, N * 3 ^ k ≤ p → p < (N + 1) * 3 ^ k → (∀ i, k ≤ i → i < n → σ 21 i = zDg p i) ∧ zxc n k p = s ∧ (∀ x ∈ L, k ≤ x.1 → zclo μ q d x p) ∧ ∀ i, k ≤ i → i < n → ¬ zin3 L i → zdig p i = 1
def zRes (μ ν : zM) (q n : Nat) (L : List z3) (d : Int32) (lo hi k F : Nat) (X : Int32) (σ σ' : zM) : Prop :=
  ∃ (F' : Nat) (X' : Int32), zKp ν σ' ∧ σ' 63 9 = nI F' ∧ σ' 63 10 = X' ∧ F' ≤ 9 ∧ (∀ i, k ≤ i → σ' 21 i = σ 21 i) ∧ zbst (zQs μ q n L d) (zxc n 0) lo hi F X F' X'
theorem zpow3 (N k : Nat) : N * 3 ^ (k + 1) = 3 * (N * 3 ^ k) ∧ (N + 1) * 3 ^ (k + 1) = 3 * (N * 3 ^ k) + 3 * 3 ^ k := by
  have h : N * 3 ^ (k + 1) = 3 * (N * 3 ^ k) := by rw [Nat.pow_succ, ← Nat.mul_assoc, Nat.mul_comm]
  exact ⟨h, by rw [Nat.add_mul, h, Nat.one_mul, Nat.pow_succ]; omega⟩
theorem zpow3c (N c k : Nat) : (3 * N + c) * 3 ^ k = 3 * (N * 3 ^ k) + c * 3 ^ k := by rw [Nat.add_mul, Nat.mul_assoc]
theorem zdig_in {N c k p : Nat} (hc : c < 3) (h1 : (3 * N + c) * 3 ^ k ≤ p) (h2 : p < (3 * N + c + 1) * 3 ^ k) : zdig p k = c := by
  unfold zdig
  rw [Nat.div_eq_of_lt_le h1 h2]; omega
/-- one link's slip is tried -/
theorem zone_b {μ ν : zM} {q n : Nat} {L : List z3} {d : Int32} (D : zDF μ ν q n L d) {k N s F c : Nat} {X cyc : Int32} {σ : zM} (hk : k < n) (hK : zKp ν σ) (h9 : σ 63 9 = nI F) (h10 : σ 63 10 = X) (hF : F ≤ 9) (hL : zLv μ σ q n L d (k + 1) N s) (hc : c < 3) (hcyc : cyc = nI c - 1) (hz : zabs cyc = nI (if c = 1 then 0 else 1)) (hr : zin3 L k ∨ c = 1)
    (ih : ∀ (N s F : Nat) (X : Int32) (σ : zM), zKp ν σ → σ 63 9 = nI F → σ 63 10 = X → F ≤ 9 → zLv μ σ q n L d k N s → zRes μ ν q n L d (N * 3 ^ k) ((N + 1) * 3 ^ k) k F X σ (zdfs L.length k σ (nI N) (nI s))) :
    zRes μ ν q n L d ((3 * N + c) * 3 ^ k) ((3 * N + c + 1) * 3 ^ k) (k + 1) F X σ (zone (zdfs L.length k) L.length k (nI N) (nI s) cyc σ) := by
  obtain ⟨D1, D2, D3, D4, D5⟩ := D
  obtain ⟨p1, p2⟩ := zpow3 N k
  have q1 := zpow3c N c k
  have q2 : (3 * N + c + 1) * 3 ^ k = 3 * (N * 3 ^ k) + c * 3 ^ k + 3 ^ k := by rw [Nat.add_mul, q1, Nat.one_mul]
  have hck : c * 3 ^ k + 3 ^ k ≤ 3 * 3 ^ k := by
    have : c * 3 ^ k ≤ 2 * 3 ^ k := Nat.mul_le_mul_right _ (by omega)
    omega
  have inb : ∀ p, (3 * N + c) * 3 ^ k ≤ p → p < (3 * N + c + 1) * 3 ^ k → N * 3 ^ (k + 1) ≤ p ∧ p < (N + 1) * 3 ^ (k + 1) := fun p a b => by omega
  have hdg : ∀ p, (3 * N + c) * 3 ^ k ≤ p → p < (3 * N + c + 1) * 3 ^ k → zdig p k = c := fun p a b => zdig_in hc a b
  have hK1 : zKp ν (zu σ 21 k cyc) := ⟨fun b h1 h2 => by rw [zu_n _ _ _ h1]; exact hK.1 b h1 h2, fun j a b => by rw [zu_n _ _ _ (by decide)]; exact hK.2 j a b⟩
  have hrow : ∀ p, (3 * N + c) * 3 ^ k ≤ p → p < (3 * N + c + 1) * 3 ^ k → ∀ i, k ≤ i → i < n → zu σ 21 k cyc 21 i = zDg p i := fun p a b i hi hin => by
    rw [zu_s]
    by_cases e : i = k
    · subst e; rw [upd_s, hcyc]; unfold zDg; rw [hdg p a b]
    · rw [upd_n _ _ e]; exact (hL p (inb p a b).1 (inb p a b).2).1 i (by omega) hin
  have hcls : ∀ p, (3 * N + c) * 3 ^ k ≤ p → p < (3 * N + c + 1) * 3 ^ k → (zclA (zu σ 21 k cyc) L.length (nI k) ↔ ∀ x ∈ L, x.1 = k → zclo μ q d x p) := fun p a b => by
    have one : ∀ j x, L[j]? = some x → (zu σ 21 k cyc 14 j = nI k ↔ x.1 = k) ∧ (x.1 = k → (zabs (zu σ 21 k cyc 19 j - 1000 * ztoff (zu σ 21 k cyc) j) ≤ zu σ 21 k cyc 63 8 ↔ zclo μ q d x p)) := fun j x hx => by
      obtain ⟨y1, y2, y3, y4, y5, y6⟩ := D1 j x hx
      obtain ⟨z1, z2, z3⟩ := D3 x (List.mem_of_getElem? hx)
      have r : ∀ b, b ≠ 21 → b ≠ 63 → zu σ 21 k cyc b = ν b := hK1.1
      refine ⟨by rw [r 14 (by decide) (by decide), y1]; exact nI_eq (by omega) (by omega), fun e => ?_⟩
      unfold ztoff zclo zoff
      rw [r 14 (by decide) (by decide), r 15 (by decide) (by decide), r 16 (by decide) (by decide), r 17 (by decide) (by decide), r 18 (by decide) (by decide), r 19 (by decide) (by decide), y1, y2, y3, y4, y5, y6, nI_clamp (by omega), nI_clamp (by omega), nI_clamp (by omega), hrow p a b _ (by omega) (by omega), hrow p a b _ (by omega) (by omega), hrow p a b _ (by omega) (by omega), hK1.2 8 (by decide) (by decide), D5]
    constructor
    · intro h x hx e
      obtain ⟨j, hj⟩ := List.getElem?_of_mem hx
      have o := one j x hj
      exact (o.2 e).mp (h j (List.getElem?_eq_some_iff.mp hj).1 (o.1.mpr e))
    · intro h j hj e
      have hx : L[j]? = some L[j] := List.getElem?_eq_getElem hj
      have o := one j _ hx
      exact (o.2 (o.1.mp e)).mpr (h _ (List.mem_of_getElem? hx) (o.1.mp e))
  have hpos : 0 < 3 ^ k := Nat.pow_pos (by decide)
  unfold zone
  by_cases hcl : zclA (zu σ 21 k cyc) L.length (nI k)
  · rw [if_pos hcl]
    have en : nI N * 3 + 1 + cyc = nI (3 * N + c) := by
      rw [hcyc, show (3 : Int32) = nI 3 from rfl, pk_mul, Int32.add_assoc, Int32.add_comm 1, Int32.sub_add_cancel, nI_add, Nat.mul_comm]
    have es : nI s + zabs cyc = nI (s + if c = 1 then 0 else 1) := by rw [hz, nI_add]
    rw [en, es]
    obtain ⟨F', X', g1, g2, g3, g4, g5, g6⟩ := ih (3 * N + c) (s + if c = 1 then 0 else 1) F X (zu σ 21 k cyc) hK1 (by rw [zu_n _ _ _ (by decide)]; exact h9) (by rw [zu_n _ _ _ (by decide)]; exact h10) hF (fun p a b => by
      obtain ⟨l1, l2, l3, l4⟩ := hL p (inb p a b).1 (inb p a b).2
      refine ⟨hrow p a b, by rw [zxc_s hk, l2, hdg p a b], fun x hx e => ?_, fun i hi hin hni => ?_⟩
      · by_cases e2 : x.1 = k
        · exact (hcls p a b).mp hcl x hx e2
        · exact l3 x hx (by omega)
      · by_cases e2 : i = k
        · subst e2; rw [hdg p a b]; exact hr.resolve_left hni
        · exact l4 i (by omega) hin hni)
    exact ⟨F', X', g1, g2, g3, g4, fun i hi => by rw [g5 i (by omega), zu_s, upd_n _ _ (by omega)], g6⟩
  · rw [if_neg hcl]
    refine ⟨F, X, hK1, by rw [zu_n _ _ _ (by decide)]; exact h9, by rw [zu_n _ _ _ (by decide)]; exact h10, hF, fun i hi => by rw [zu_s, upd_n _ _ (by omega)], zbst.no (fun p a b hq => absurd ((hcls p a b).mpr (fun x hx _ => hq.1 x hx)) hcl)⟩
theorem zdfs_b {μ ν : zM} {q n : Nat} {L : List z3} {d : Int32} (D : zDF μ ν q n L d) : ∀ (k : Nat), k ≤ n → ∀ (N s F : Nat) (X : Int32) (σ : zM), zKp ν σ → σ 63 9 = nI F → σ 63 10 = X → F ≤ 9 → zLv μ σ q n L d k N s → zRes μ ν q n L d (N * 3 ^ k) ((N + 1) * 3 ^ k) k F X σ (zdfs L.length k σ (nI N) (nI s))
  | 0, _, N, s, F, X, σ, hK, h9, h10, hF, hL => by
    have hN := hL N (by omega) (by omega)
    have hs : s ≤ 8 := by rw [← hN.2.1]; exact Nat.le_trans (zxc_le n 0 N) D.2.2.2.1
    have only : ∀ p, N * 3 ^ 0 ≤ p → p < (N + 1) * 3 ^ 0 → p = N := fun p a b => by omega
    rw [zdfs, h9]
    by_cases h : s < F
    · rw [if_pos ((nI_ltI (by omega) (by omega)).mpr h)]
      refine ⟨s, nI N, ⟨fun b h1 h2 => by rw [zu_n _ _ _ h2, zu_n _ _ _ h2]; exact hK.1 b h1 h2, fun j a b => by rw [zu_s, upd_n _ _ b, zu_s, upd_n _ _ a]; exact hK.2 j a b⟩, by rw [zu_s, upd_n _ _ (by decide), zu_s, upd_s], by rw [zu_s, upd_s], by omega, fun i _ => by rw [zu_n _ _ _ (by decide), zu_n _ _ _ (by decide)], Or.inr ⟨N, by omega, by omega, ⟨fun x hx => hN.2.2.1 x hx (Nat.zero_le _), fun i hi => hN.2.2.2 i (Nat.zero_le _) hi⟩, by rw [hN.2.1]; exact h, hN.2.1.symm, rfl, fun p a b _ => by rw [only p a b]; exact ⟨Nat.le_refl _, fun z => absurd z (Nat.lt_irrefl _)⟩⟩⟩
    · rw [if_neg (fun z => h ((nI_ltI (by omega) (by omega)).mp z))]
      exact ⟨F, X, hK, h9, h10, hF, fun _ _ => rfl, zbst.no (fun p a b _ => by rw [only p a b, hN.2.1]; omega)⟩
  | k + 1, hkn, N, s, F, X, σ, hK, h9, h10, hF, hL => by
    obtain ⟨p1, p2⟩ := zpow3 N k
    have hpos : 0 < 3 ^ k := Nat.pow_pos (by decide)
    have hN := hL (N * 3 ^ (k + 1)) (Nat.le_refl _) (by omega)
    have hs : s ≤ 8 := by rw [← hN.2.1]; exact Nat.le_trans (zxc_le n _ _) D.2.2.2.1
    have ih := zdfs_b D k (by omega)
    rw [zdfs, h9]
    by_cases h : s < F
    · rw [if_pos ((nI_ltI (by omega) (by omega)).mpr h)]
      have c0 := zpow3c N 0 k
      have c1 := zpow3c N 1 k
      have c2 := zpow3c N 2 k
      have c3 := zpow3c N 3 k
      have d0 : (3 * N + 0 + 1) * 3 ^ k = 3 * (N * 3 ^ k) + 1 * 3 ^ k := zpow3c N 1 k
      have d1 : (3 * N + 1 + 1) * 3 ^ k = 3 * (N * 3 ^ k) + 2 * 3 ^ k := zpow3c N 2 k
      have d2 : (3 * N + 2 + 1) * 3 ^ k = 3 * (N * 3 ^ k) + 3 * 3 ^ k := zpow3c N 3 k
      have hkn8 : k < 8 := by have := D.2.2.2.1; omega
      have e20 : σ 20 k = ν 20 k := by rw [hK.1 20 (by decide) (by decide)]
      by_cases hz : σ 20 k = 0
      · rw [if_pos hz]
        have hnr : ¬ zin3 L k := fun z => by
          have := ((D.2.1 k hkn8).2.mpr z)
          rw [← e20, hz] at this; exact absurd this (by decide)
        obtain ⟨F1, X1, g1, g2, g3, g4, g5, g6⟩ := zone_b D (by omega) hK h9 h10 hF hL (c := 1) (cyc := 0) (by decide) (by decide) (by decide) (Or.inr rfl) ih
        refine ⟨F1, X1, g1, g2, g3, g4, g5, ?_⟩
        have n0 : zbst (zQs μ q n L d) (zxc n 0) ((3 * N + 0) * 3 ^ k) ((3 * N + 0 + 1) * 3 ^ k) F X F X := zbst.no (fun p a b hq => by
          have := hq.2 k (by omega) hnr
          rw [zdig_in (by decide) a b] at this; exact absurd this (by decide))
        have n2 : zbst (zQs μ q n L d) (zxc n 0) ((3 * N + 2) * 3 ^ k) ((3 * N + 2 + 1) * 3 ^ k) F1 X1 F1 X1 := zbst.no (fun p a b hq => by
          have := hq.2 k (by omega) hnr
          rw [zdig_in (by decide) a b] at this; exact absurd this (by decide))
        have r1 := zbst.go (by omega) (by omega) n0 g6
        have r2 := zbst.go (by omega) (by omega) r1 n2
        rw [show (3 * N + 0) * 3 ^ k = N * 3 ^ (k + 1) by omega, show (3 * N + 2 + 1) * 3 ^ k = (N + 1) * 3 ^ (k + 1) by omega] at r2
        exact r2
      · rw [if_neg hz]
        have hir : zin3 L k := (D.2.1 k hkn8).2.mp (by
          rcases (D.2.1 k hkn8).1 with z | z
          · exact absurd (e20.trans z) hz
          · exact z)
        have keep : ∀ {σ1 : zM}, (∀ i, k + 1 ≤ i → σ1 21 i = σ 21 i) → zLv μ σ1 q n L d (k + 1) N s := fun e p a b => by
          obtain ⟨l1, l2⟩ := hL p a b
          exact ⟨fun i hi hin => by rw [e i hi]; exact l1 i hi hin, l2⟩
        obtain ⟨F1, X1, g1, g2, g3, g4, g5, g6⟩ := zone_b D (by omega) hK h9 h10 hF hL (c := 0) (cyc := -1) (by decide) (by decide) (by decide) (Or.inl hir) ih
        obtain ⟨F2, X2, i1, i2, i3, i4, i5, i6⟩ := zone_b D (by omega) g1 g2 g3 g4 (keep g5) (c := 1) (cyc := 0) (by decide) (by decide) (by decide) (Or.inl hir) ih
        have k2 : ∀ i, k + 1 ≤ i → zone (zdfs L.length k) L.length k (nI N) (nI s) 0 (zone (zdfs L.length k) L.length k (nI N) (nI s) (-1) σ) 21 i = σ 21 i := fun i hi => by rw [i5 i hi, g5 i hi]
        obtain ⟨F3, X3, j1, j2, j3, j4, j5, j6⟩ := zone_b D (by omega) i1 i2 i3 i4 (keep k2) (c := 2) (cyc := 1) (by decide) (by decide) (by decide) (Or.inl hir) ih
        refine ⟨F3, X3, j1, j2, j3, j4, fun i hi => by rw [j5 i hi]; exact k2 i hi, ?_⟩
        have r1 := zbst.go (by omega) (by omega) g6 i6
        have r2 := zbst.go (by omega) (by omega) r1 j6
        rw [show (3 * N + 0) * 3 ^ k = N * 3 ^ (k + 1) by omega, show (3 * N + 2 + 1) * 3 ^ k = (N + 1) * 3 ^ (k + 1) by omega] at r2
        exact r2
    · rw [if_neg (fun z => h ((nI_ltI (by omega) (by omega)).mp z))]
      exact ⟨F, X, hK, h9, h10, hF, fun _ _ => rfl, zbst.no (fun p a b _ => by
        have := (hL p a b).2.1
        have := zxc_0 n (k + 1) p
        omega)⟩
