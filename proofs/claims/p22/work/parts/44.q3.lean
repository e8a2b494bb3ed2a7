/-! ===== the law's invariant ===== -/
/-- the sum of the amounts told of the link J for the day D -/
def zmu (μ : zM) (J D : Int32) : Nat → Int32
  | 0 => 0
  | q + 1 => zmu μ J D q + (if μ 40 (4 * q) = J ∧ μ 40 (4 * q + 1) ≤ D ∧ D ≤ μ 40 (4 * q + 2) then μ 40 (4 * q + 3) else 0)
theorem zmu_cg {μ ν : zM} {J D : Int32} : ∀ q, (∀ i, i < 4 * q → ν 40 i = μ 40 i) → zmu ν J D q = zmu μ J D q
  | 0, _ => rfl
  | q + 1, h => by rw [zmu, zmu, zmu_cg q (fun i hi => h i (by omega)), h (4 * q) (by omega), h (4 * q + 1) (by omega), h (4 * q + 2) (by omega), h (4 * q + 3) (by omega)]
theorem zmu_b {μ : zM} {J D : Int32} : ∀ q, q ≤ 10 → (∀ i, i < q → zbn (μ 40 (4 * i + 3)) 1500) → zbn (zmu μ J D q) (1500 * q)
  | 0, _, _ => zbn_0
  | q + 1, hq, h => by
    rw [zmu, show 1500 * (q + 1) = 1500 * q + 1500 by omega]
    refine (zmu_b q (by omega) (fun i hi => h i (by omega))).add ?_ (by omega)
    split
    · exact h q (by omega)
    · exact zbn_0.le (by omega)
def zWV (μ : zM) : Prop := (∀ i, ∃ w, w ≤ 100 ∧ μ 4 i = nI w) ∧ (∀ i, μ 1 i = 0 ∨ μ 1 i = 1) ∧ (∀ i, i < 7 → μ 41 i = μ 1 i) ∧ (∃ B, B ≤ 499 ∧ μ 63 1 = nI B) ∧ (∃ B, 1 ≤ B ∧ B ≤ 100 ∧ μ 63 2 = nI B) ∧ (μ 63 3 = 0 ∨ μ 63 3 = 1) ∧ μ 42 0 = μ 63 1 ∧ μ 42 1 = μ 63 2 ∧ μ 38 4 = nI (zcnt (zhou μ) 7) ∧ μ 38 5 = μ 63 3
def zGL (μ : zM) (t nc n : Nat) : Prop := μ 38 0 = nI nc ∧ μ 38 1 = nI n ∧ μ 38 2 = nI t ∧ ∀ j, j < n → μ 39 (3 * j) = μ 7 j ∧ μ 39 (3 * j + 1) = μ 8 j ∧ μ 39 (3 * j + 2) = μ 11 j
def zKQ (μ : zM) : Prop := ∃ q, q ≤ 10 ∧ μ 38 7 = nI q ∧ (∀ j, ∃ c, c ≤ q ∧ μ 12 j = nI c) ∧ (∀ i, i < q → zbn (μ 40 (4 * i + 3)) 1500) ∧ ∀ j, j < 8 → ∀ d, d ≤ 500 → μ (30 + j) d = zmu μ (nI j) (nI d) q
/-- A calls of acts, 60 at most, have been made -/
def zLI (μ : zM) (t c nc n A : Nat) : Prop := zCI μ t c nc n ∧ zLB μ t c A ∧ zSv μ t ∧ zWV μ ∧ zGL μ t nc n ∧ zKQ μ ∧ t ≤ 6 * A ∧ A ≤ 60 ∧ zPh μ nc
theorem zCI.c2 {μ κ : zM} {t c nc n : Nat} (H : zCI μ t c nc n) (h7 : κ 7 = μ 7) (h8 : κ 8 = μ 8) (h13 : κ 13 = μ 13) (k0 : κ 63 0 = μ 63 0) (k2 : κ 63 2 = μ 63 2) (k4 : κ 63 4 = μ 63 4) (k5 : κ 63 5 = μ 63 5) (k6 : κ 63 6 = μ 63 6) : zCI κ t c nc n := by
  obtain ⟨h1, h2, h3, h4, h5, h6, h7', h8', h9⟩ := H
  exact ⟨k0.trans h1, h2, zAg.cg h13 k6 h3, k4.trans h4, h5, k5.trans h6, h7', h8'.cg h7 h8, by rw [k2]; exact h9⟩
theorem zLB.cg {μ κ : zM} {t c A : Nat} (h : zLB μ t c A) (h2 : κ 2 = μ 2) (h3 : κ 3 = μ 3) (h5 : κ 5 = μ 5) (h6 : κ 6 = μ 6) (h9 : κ 9 = μ 9) (h10 : κ 10 = μ 10) (h13 : κ 13 = μ 13) (hr : ∀ b, 21 < b → b < 30 → κ b = μ b) : zLB κ t c A := by
  obtain ⟨a, b, d, e⟩ := h
  refine ⟨a.cg h2 h5 h9 h10 h13, by rw [h3]; exact b, by rw [h6]; exact d, fun k hk i => ?_⟩
  rw [hr (22 + k) (by omega) (by omega)]; exact e k hk i
theorem zLB.more {μ : zM} {t c A : Nat} (h : zLB μ t c A) : zLB μ t c (A + 1) := by
  obtain ⟨⟨a1, a2, a3, a4, a5, a6⟩, b, d, e⟩ := h
  exact ⟨⟨fun i => (a1 i).le (by unfold zRB; omega), a2, a3, fun i => (a4 i).le (by omega), a5, by omega⟩, b, d, e⟩
theorem zSv.cg {μ κ : zM} {t : Nat} (h : zSv μ t) (h0 : κ 0 = μ 0) : zSv κ t := by unfold zSv; rw [h0]; exact h
theorem zhou_cg {μ κ : zM} (h1 : κ 1 = μ 1) : zhou κ = zhou μ := by funext j; unfold zhou; rw [h1]
theorem zWV.cg {μ κ : zM} (h : zWV μ) (h4 : κ 4 = μ 4) (h1 : κ 1 = μ 1) (h41 : κ 41 = μ 41) (h42 : κ 42 = μ 42) (k1 : κ 63 1 = μ 63 1) (k2 : κ 63 2 = μ 63 2) (k3 : κ 63 3 = μ 63 3) (g4 : κ 38 4 = μ 38 4) (g5 : κ 38 5 = μ 38 5) : zWV κ := by
  unfold zWV; rw [h4, h1, h41, h42, k1, k2, k3, g4, g5, zhou_cg h1]; exact h
theorem zGL.cg {μ κ : zM} {t nc n : Nat} (h : zGL μ t nc n) (g0 : κ 38 0 = μ 38 0) (g1 : κ 38 1 = μ 38 1) (g2 : κ 38 2 = μ 38 2) (h39 : κ 39 = μ 39) (h7 : κ 7 = μ 7) (h8 : κ 8 = μ 8) (h11 : κ 11 = μ 11) : zGL κ t nc n := by
  unfold zGL; rw [g0, g1, g2, h39, h7, h8, h11]; exact h
theorem zKQ.cg {μ κ : zM} (h : zKQ μ) (g7 : κ 38 7 = μ 38 7) (h12 : κ 12 = μ 12) (h40 : κ 40 = μ 40) (hr : ∀ b, 29 < b → b < 38 → κ b = μ b) : zKQ κ := by
  obtain ⟨q, a1, a2, a3, a4, a5⟩ := h
  refine ⟨q, a1, g7.trans a2, by rw [h12]; exact a3, by rw [h40]; exact a4, fun j hj d hd => ?_⟩
  rw [hr (30 + j) (by omega) (by omega), zmu_cg q (fun i _ => by rw [h40])]
  exact a5 j hj d hd
theorem zLI.cg {μ κ : zM} {t c nc n A : Nat} (h : zLI μ t c nc n A) (hb : ∀ b, (b < 14 ∨ 21 < b) → b ≠ 63 → b ≠ 38 → κ b = μ b) (h63 : ∀ j, j < 7 → κ 63 j = μ 63 j) (h38 : ∀ j, j ≠ 3 → j ≠ 6 → j ≠ 8 → κ 38 j = μ 38 j) : zLI κ t c nc n A := by
  obtain ⟨a1, a2, a3, a4, a5, a6, a7, a8⟩ := h
  have r : ∀ b, b < 14 → κ b = μ b := fun b h => hb b (Or.inl h) (by omega) (by omega)
  have r2 : ∀ b, 21 < b → b < 38 → κ b = μ b := fun b h g => hb b (Or.inr h) (by omega) (by omega)
  have r3 : ∀ b, 38 < b → b < 63 → κ b = μ b := fun b h g => hb b (Or.inr (by omega)) (by omega) (by omega)
  exact ⟨a1.c2 (r 7 (by decide)) (r 8 (by decide)) (r 13 (by decide)) (h63 0 (by decide)) (h63 2 (by decide)) (h63 4 (by decide)) (h63 5 (by decide)) (h63 6 (by decide)),
    a2.cg (r 2 (by decide)) (r 3 (by decide)) (r 5 (by decide)) (r 6 (by decide)) (r 9 (by decide)) (r 10 (by decide)) (r 13 (by decide)) (fun b x y => r2 b x (by omega)),
    a3.cg (r 0 (by decide)),
    a4.cg (r 4 (by decide)) (r 1 (by decide)) (r3 41 (by decide) (by decide)) (r3 42 (by decide) (by decide)) (h63 1 (by decide)) (h63 2 (by decide)) (h63 3 (by decide)) (h38 4 (by decide) (by decide) (by decide)) (h38 5 (by decide) (by decide) (by decide)),
    a5.cg (h38 0 (by decide) (by decide) (by decide)) (h38 1 (by decide) (by decide) (by decide)) (h38 2 (by decide) (by decide) (by decide)) (r3 39 (by decide) (by decide)) (r 7 (by decide)) (r 8 (by decide)) (r 11 (by decide)),
    a6.cg (h38 7 (by decide) (by decide) (by decide)) (r 12 (by decide)) (r3 40 (by decide) (by decide)) (fun b x y => r2 b (by omega) y), a7, a8.1, fun i hi => by rw [r 6 (by decide)]; exact a8.2 i hi⟩
theorem zLI.scr {μ κ : zM} {t c nc n A : Nat} (hs : zScr μ κ) (h : zLI μ t c nc n A) : zLI κ t c nc n A := h.cg (fun b x y _ => hs.1 b x y) (fun j x => hs.2 j (Or.inl x)) (fun j _ _ _ => by rw [hs.1 38 (Or.inr (by decide)) (by decide)])
theorem zLI.g {μ : zM} {t c nc n A k : Nat} {x : Int32} (hk : k = 3 ∨ k = 6 ∨ k = 8) (h : zLI μ t c nc n A) : zLI (zu μ 38 k x) t c nc n A := h.cg (fun b _ _ g => zu_n _ _ _ g) (fun j _ => by rw [zu_n _ _ _ (by decide)]) (fun j x y z => by rw [zu_s, upd_n _ _ (by omega)])
theorem zLI.more {μ : zM} {t c nc n A : Nat} (hA : A < 60) (h : zLI μ t c nc n A) : zLI μ t c nc n (A + 1) := by
  obtain ⟨a1, a2, a3, a4, a5, a6, a7, a8⟩ := h
  exact ⟨a1, a2.more, a3, a4, a5, a6, by omega, by omega, a8.2⟩
theorem zcorX_q {μ : zM} {t c nc n A k q : Nat} (h : zLI μ t c nc n A) (hk : k < 8) (hq : q ≤ 500) : zbn (zcorX μ k q) 1015000 := by
  obtain ⟨g, b1, b2, b3, b4, b5⟩ := h.2.2.2.2.2.1
  unfold zcorX
  rw [b5 k hk q hq]
  exact ((h.2.1.2.2.2 k hk q).sub (zmu_b g b1 b4) (by omega)).le (by omega)
theorem zsum_q {μ : zM} {t c nc n A q : Nat} (h : zLI μ t c nc n A) {x : z3} (h1 : x.1 < 8) (h2 : x.2.1 < 8) (h3 : x.2.2 < 8) (hq : q ≤ 500) : zbn (zsum μ q x) 3045000 := by
  have b1 := zcorX_q h h1 hq
  have b2 := (zsgn_b μ x.1 x.2.1).mul (zcorX_q h h2 hq) (by decide)
  have b3 := (zsgn_b μ x.1 x.2.2).mul (zcorX_q h h3 hq) (by decide)
  unfold zsum
  exact ((b1.add b2 (by decide)).add b3 (by decide)).le (by decide)
/-! ===== what each call does to it ===== -/
section
variable {μ : zM} {t c nc n A : Nat}
theorem zLI.clock {a b y : Int32} (h : zLI μ t c nc n A) (hA : A < 60) (hnc : nc < 6) (ha : zbn a 40) (hb : zbn b 5000) (hy : y = nI (nc + 1)) : zLI (zu (zu (zu (zu (zu μ 2 nc a) 5 nc b) 4 nc 1) 63 4 (nI (nc + 1))) 38 0 y) t c (nc + 1) n (A + 1) := by
  obtain ⟨a1, a2, a3, a4, a5, a6, a7, a8⟩ := h.more hA
  obtain ⟨h1, h2, h3, h4, h5, h6, h7, h8, h9⟩ := a1
  obtain ⟨⟨e1, e2, e3, e4, e5, e6⟩, f1, f2, f3⟩ := a2
  obtain ⟨w1, w2⟩ := a4
  refine ⟨⟨h1, h2, h3.cg rfl rfl, rfl, by omega, h6, h7, fun j hj => ?_, h9⟩, ⟨⟨?_, ?_, e3, e4, e5, e6⟩, f1, f2, fun k hk d => ?_⟩, a3, ⟨fun i => ?_, w2⟩, ⟨hy, a5.2⟩, a6.cg rfl rfl rfl (fun b x y => by rw [zu_n _ _ _ (by omega), zu_n _ _ _ (by omega), zu_n _ _ _ (by omega), zu_n _ _ _ (by omega), zu_n _ _ _ (by omega)]), a7, a8.1, fun i hi => a8.2 i (by omega)⟩
  · obtain ⟨x, y, q1, q2, q3⟩ := h8 j hj
    exact ⟨x, y, by omega, by omega, q3⟩
  · exact zbn_u e1 (ha.le (by unfold zRB; omega))
  · exact zbn_u e2 hb
  · rw [zu_n _ _ _ (by omega), zu_n _ _ _ (by omega), zu_n _ _ _ (by omega), zu_n _ _ _ (by omega), zu_n _ _ _ (by omega)]
    exact f3 k hk d
  · show ∃ w, w ≤ 100 ∧ upd (μ 4) nc 1 i = nI w
    by_cases e : i = nc
    · subst e; exact ⟨1, by decide, upd_s _ _ _⟩
    · rw [upd_n _ _ e]; exact w1 i
theorem zLI.link {d x y : Int32} {i j : Nat} (h : zLI μ t c nc n A) (hA : A < 60) (hn : n < 8) (hi : i < nc) (hj : j < nc) (hij : i ≠ j) (hd : zbn d 50) (hx : x = nI t) (hy : y = nI (n + 1)) : zLI (zu (zu (zu (zu (zu (zu (zu (zu (zu μ 7 n (nI i)) 8 n (nI j)) 9 n d) 11 n (μ 63 0)) 63 5 (nI (n + 1))) 39 (3 * n) (nI i)) 39 (3 * n + 1) (nI j)) 39 (3 * n + 2) x) 38 1 y) t c nc (n + 1) (A + 1) := by
  obtain ⟨a1, a2, a3, a4, a5, a6, a7, a8⟩ := h.more hA
  obtain ⟨h1, h2, h3, h4, h5, h6, h7, h8, h9⟩ := a1
  obtain ⟨⟨e1, e2, e3, e4, e5, e6⟩, f1, f2, f3⟩ := a2
  obtain ⟨g1, g2, g3, g4⟩ := a5
  refine ⟨⟨h1, h2, h3.cg rfl rfl, h4, h5, rfl, by omega, fun k hk => ?_, h9⟩, ⟨⟨e1, e2, ?_, e4, e5, e6⟩, f1, f2, fun k hk d => ?_⟩, a3, a4, ⟨g1, hy, g3, fun k hk => ?_⟩, a6.cg rfl rfl rfl (fun b x y => by rw [zu_n _ _ _ (by omega), zu_n _ _ _ (by omega), zu_n _ _ _ (by omega), zu_n _ _ _ (by omega), zu_n _ _ _ (by omega), zu_n _ _ _ (by omega), zu_n _ _ _ (by omega), zu_n _ _ _ (by omega), zu_n _ _ _ (by omega)]), a7, a8⟩
  · show ∃ a b, a < nc ∧ b < nc ∧ a ≠ b ∧ upd (μ 7) n (nI i) k = nI a ∧ upd (μ 8) n (nI j) k = nI b
    by_cases e : k = n
    · subst e; exact ⟨i, j, hi, hj, hij, upd_s _ _ _, upd_s _ _ _⟩
    · rw [upd_n _ _ e, upd_n _ _ e]; exact h8 k (by omega)
  · exact zbn_u e3 hd
  · rw [zu_n _ _ _ (by omega), zu_n _ _ _ (by omega), zu_n _ _ _ (by omega), zu_n _ _ _ (by omega), zu_n _ _ _ (by omega), zu_n _ _ _ (by omega), zu_n _ _ _ (by omega), zu_n _ _ _ (by omega), zu_n _ _ _ (by omega)]
    exact f3 k hk d
  · show upd (upd (upd (μ 39) (3 * n) (nI i)) (3 * n + 1) (nI j)) (3 * n + 2) x (3 * k) = upd (μ 7) n (nI i) k ∧ upd (upd (upd (μ 39) (3 * n) (nI i)) (3 * n + 1) (nI j)) (3 * n + 2) x (3 * k + 1) = upd (μ 8) n (nI j) k ∧ upd (upd (upd (μ 39) (3 * n) (nI i)) (3 * n + 1) (nI j)) (3 * n + 2) x (3 * k + 2) = upd (μ 11) n (μ 63 0) k
    by_cases e : k = n
    · subst e
      rw [upd_s, upd_s, upd_s, upd_s, upd_n _ _ (by omega), upd_n _ _ (by omega), upd_s, upd_n _ _ (by omega), upd_s, hx, h1]
      exact ⟨rfl, rfl, rfl⟩
    · rw [upd_n _ _ e, upd_n _ _ e, upd_n _ _ e]
      repeat rw [upd_n _ _ (by omega)]
      exact g4 k (by omega)
theorem zLI.tell {d w : Int32} {i w9 : Nat} (h : zLI μ t c nc n A) (hd : zbn d 20) (hw : w = nI w9) (hw9 : w9 ≤ 100) : zLI (zu (zu μ 3 i d) 4 i w) t c nc n A := by
  obtain ⟨a1, a2, a3, a4, a5, a6, a7, a8⟩ := h
  obtain ⟨⟨e1, e2, e3, e4, e5, e6⟩, f1, f2, f3⟩ := a2
  obtain ⟨w1, w2⟩ := a4
  refine ⟨a1.c2 rfl rfl rfl rfl rfl rfl rfl rfl, ⟨⟨e1, e2, e3, e4, e5, e6⟩, zbn_u f1 hd, f2, fun k hk d => ?_⟩, a3, ⟨fun k => ?_, w2⟩, a5, a6.cg rfl rfl rfl (fun b x y => by rw [zu_n _ _ _ (by omega), zu_n _ _ _ (by omega)]), a7, a8⟩
  · rw [zu_n _ _ _ (by omega), zu_n _ _ _ (by omega)]
    exact f3 k hk d
  · show ∃ w', w' ≤ 100 ∧ upd (μ 4) i w k = nI w'
    by_cases e : k = i
    · subst e; exact ⟨w9, hw9, (upd_s _ _ _).trans hw⟩
    · rw [upd_n _ _ e]; exact w1 k
theorem zLI.bounds {B C : Nat} (h : zLI μ t c nc n A) (hA : A < 60) (hB : B ≤ 499) (hC : 1 ≤ C) (hC2 : C ≤ 100) : zLI (zu (zu (zu (zu μ 42 0 (nI B)) 42 1 (nI C)) 63 1 (nI B)) 63 2 (nI C)) t c nc n (A + 1) := by
  obtain ⟨a1, a2, a3, a4, a5, a6, a7, a8⟩ := h.more hA
  obtain ⟨h1, h2, h3, h4, h5, h6, h7, h8, h9⟩ := a1
  obtain ⟨w1, w2, w3, w4, w5, w6, w7, w8, w9, w10⟩ := a4
  refine ⟨⟨h1, h2, h3.cg rfl rfl, h4, h5, h6, h7, h8.cg rfl rfl, nI_pos' (by omega)⟩, a2.cg rfl rfl rfl rfl rfl rfl rfl (fun b x y => by rw [zu_n _ _ _ (by omega), zu_n _ _ _ (by omega), zu_n _ _ _ (by omega), zu_n _ _ _ (by omega)]), a3, ⟨w1, w2, w3, ⟨B, hB, rfl⟩, ⟨C, hC, hC2, rfl⟩, w6, rfl, rfl, w9, w10⟩, a5, a6.cg rfl rfl rfl (fun b x y => by rw [zu_n _ _ _ (by omega), zu_n _ _ _ (by omega), zu_n _ _ _ (by omega), zu_n _ _ _ (by omega)]), a7, a8⟩
theorem zcnt_u {f g : Nat → Bool} {i : Nat} (hfg : ∀ j, j ≠ i → g j = f j) : ∀ m, i < m → zcnt g m + (if f i then 1 else 0) = zcnt f m + (if g i then 1 else 0)
  | 0, h => absurd h (Nat.not_lt_zero _)
  | m + 1, h => by
    rw [zcnt, zcnt]
    by_cases e : i = m
    · subst e
      rw [zcnt_cg (f := g) (g := f) (n := i) (fun j hj => hfg j (by omega))]; omega
    · have := zcnt_u hfg m (by omega)
      rw [hfg m (fun z => e z.symm)]; omega
theorem zvk {x y : Int32} {C C' : Nat} (hx : x = 0 ∨ x = 1) (hy : y = 0 ∨ y = 1) (h : C' + (if decide (¬ x = 0) = true then 1 else 0) = C + (if decide (¬ y = 0) = true then 1 else 0)) : nI C + (y - x) = nI C' := by
  rcases hx with rfl | rfl <;> rcases hy with rfl | rfl
  · have : C' = C := by simpa using h
    rw [this, show (0 : Int32) - 0 = 0 from rfl, Int32.add_zero]
  · have : C' = C + 1 := by simpa using h
    rw [this, show (1 : Int32) - 0 = 1 from rfl, nI_1]
  · have : C' + 1 = C := by simpa using h
    rw [← this, show (0 : Int32) - 1 = -1 from rfl, pk_m1]
  · have : C' = C := by simpa using h
    rw [this, show (1 : Int32) - 1 = 0 from rfl, Int32.add_zero]
theorem zLI.vote {b y : Int32} {i : Nat} (h : zLI μ t c nc n A) (hA : A < 60) (hi : i < 7) (hb : b = 0 ∨ b = 1) (hy : y = μ 38 4 + (b - μ 41 i)) : zLI (zu (zu (zu μ 38 4 y) 41 i b) 1 i b) t c nc n (A + 1) ∧ y = nI (zcnt (zhou (zu μ 1 i b)) 7) := by
  obtain ⟨a1, a2, a3, a4, a5, a6, a7, a8⟩ := h.more hA
  obtain ⟨w1, w2, w3, w4, w5, w6, w7, w8, w9, w10⟩ := a4
  have e1 : (zu μ 1 i b) 1 = upd (μ 1) i b := rfl
  have hz : y = nI (zcnt (zhou (zu μ 1 i b)) 7) := by
    have u := zcnt_u (f := zhou μ) (g := zhou (zu μ 1 i b)) (i := i) (fun j hj => by unfold zhou; rw [e1, upd_n _ _ hj]) 7 hi
    have f1 : zhou μ i = decide (¬ μ 1 i = 0) := rfl
    have g1 : zhou (zu μ 1 i b) i = decide (¬ b = 0) := by unfold zhou; rw [e1, upd_s]
    rw [f1, g1] at u
    rw [hy, w9, w3 i hi]
    exact zvk (w2 i) hb u
  refine ⟨⟨a1.c2 rfl rfl rfl rfl rfl rfl rfl rfl, a2.cg rfl rfl rfl rfl rfl rfl rfl (fun b x y => by rw [zu_n _ _ _ (by omega), zu_n _ _ _ (by omega), zu_n _ _ _ (by omega)]), a3, ⟨w1, fun k => ?_, fun k hk => ?_, w4, w5, w6, w7, w8, ?_, w10⟩, a5, a6.cg rfl rfl rfl (fun b x y => by rw [zu_n _ _ _ (by omega), zu_n _ _ _ (by omega), zu_n _ _ _ (by omega)]), a7, a8⟩, hz⟩
  · show upd (μ 1) i b k = 0 ∨ upd (μ 1) i b k = 1
    by_cases e : k = i
    · subst e; rw [upd_s]; exact hb
    · rw [upd_n _ _ e]; exact w2 k
  · show upd (μ 41) i b k = upd (μ 1) i b k
    by_cases e : k = i
    · subst e; rw [upd_s, upd_s]
    · rw [upd_n _ _ e, upd_n _ _ e]; exact w3 k hk
  · exact hz
theorem zins_all {f h : Nat → Int32} {e : Int32} {c p : Nat} {P : Int32 → Prop} (hz : zins f c e p h) (hf : ∀ j, j < c → P (f j)) (he : P e) : ∀ j, j < c + 1 → P (upd h p e j) := fun j hj => by
  obtain ⟨z1, z2, z3, z4⟩ := hz
  by_cases e1 : j = p
  · subst e1; rw [upd_s]; exact he
  · rw [upd_n _ _ e1]
    by_cases e2 : j < p
    · rw [z2 j e2]; exact hf j (by omega)
    · rw [z3 j (by omega) (by omega)]; exact hf (j - 1) (by omega)
theorem zLI.event {d k i a x : Int32} {D K I p : Nat} {f : Nat → Int32} (h : zLI μ t c nc n A) (hA : A < 60) (hc : c < 40) (hd : d = nI D) (hD : D ≤ 500) (hk : k = nI K) (hK : K < 4) (hi : i = nI I) (hI : I < 8) (hI6 : K < 2 → I < 6) (ham : zamt k a) (ha : K ≠ 1 → zbn a 3) (hins : zins (μ 13) c (zevC d k i a) p f) : zLI (zu (zu (zur μ 13 (upd f p (zevC d k i a))) 63 6 (nI (c + 1))) 38 3 x) t (c + 1) nc n (A + 1) := by
  obtain ⟨a1, a2, a3, a4, a5, a6, a7, a8⟩ := h
  obtain ⟨h1, h2, h3, h4, h5, h6, h7, h8, h9⟩ := a1
  obtain ⟨⟨e1, e2, e3, e4, e5, e6⟩, f1, f2, f3⟩ := a2
  obtain ⟨v, v1, v2, v3, v4⟩ := zav ham
  have ez : zevC d k i a = nI (zcN D K I v) := by rw [hd, hk, hi, v2]; exact zevC_N hD hK hI (by omega)
  have eK : zeK (zevC d k i a) = nI K := by rw [ez]; exact zcN_K hD hK hI (by omega)
  have eN : zeN (zevC d k i a) = nI I := by rw [ez]; exact zcN_O hD hK hI (by omega)
  have eA : zeA (zevC d k i a) = a := by rw [ez, zcN_A hD hK hI (by omega)]; exact v2.symm
  have k0 : nI K = 0 ↔ K = 0 := nI_eq (b := 0) (by omega) (by omega)
  have k1 : nI K = 1 ↔ K = 1 := nI_eq (b := 1) (by omega) (by omega)
  have k2 : nI K = 2 ↔ K = 2 := nI_eq (b := 2) (by omega) (by omega)
  have hok : zevok (zevC d k i a) := ⟨I, hI, eN, fun z => hI6 (by rw [eK, k0, k1] at z; omega)⟩
  have hl : zevl (zevC d k i a) := by
    unfold zevl
    rw [eK, eA]
    refine ⟨fun z => ha (by rw [k0] at z; omega), fun z => ?_, fun z => (ha (by rw [k2] at z; omega)).le (by decide), fun _ z _ => ha (fun e => z (k1.mpr e))⟩
    have q := ham
    unfold zamt at q
    rw [hk, z] at q
    rcases q with q | q | q | q
    · exact absurd q.1 (by decide)
    · exact zbn_r q.2.1 q.2.2 rfl rfl (by decide) (by decide)
    · exact absurd q.1 (by decide)
    · exact absurd q.1 (by decide)
  have r : ∀ b, b ≠ 13 → b ≠ 63 → b ≠ 38 → zu (zu (zur μ 13 (upd f p (zevC d k i a))) 63 6 (nI (c + 1))) 38 3 x b = μ b := fun b x y z => by rw [zu_n _ _ _ z, zu_n _ _ _ y, zur_n _ _ x]
  refine ⟨⟨h1, h2, ⟨rfl, by omega, zins_all hins h3.2.2 hok⟩, h4, h5, h6, h7, h8.cg rfl rfl, h9⟩, ⟨⟨fun j => ?_, e2, e3, fun j => ?_, zins_all hins e5 hl, by omega⟩, f1, f2, fun k hk d => by rw [r (22 + k) (by omega) (by omega) (by omega)]; exact f3 k hk d⟩, a3, a4.cg rfl rfl rfl rfl rfl rfl rfl rfl rfl, a5.cg rfl rfl rfl rfl rfl rfl rfl, a6.cg rfl rfl rfl (fun b x y => r b (by omega) (by omega) (by omega)), by omega, by omega, a8.2⟩
  · exact (e1 j).le (by unfold zRB; omega)
  · exact (e4 j).le (by omega)
theorem zLI.calib {x : Int32} {i f g q : Nat} (h : zLI μ t c nc n A) (hA : A < 60) (hq : q < 10) (e7 : μ 38 7 = nI q) (hi : i < 8) (hfg : f ≤ g) (hg : g ≤ 500) (hx : zbn x 1500) :
    zLI (zu (zitr (fun j ν => zu ν (30 + i) (f + j) (ν (30 + i) (f + j) + x)) (g + 1 - f) (zu (zu (zu (zu (zu μ 40 (4 * q) (nI i)) 40 (4 * q + 1) (nI f)) 40 (4 * q + 2) (nI g)) 40 (4 * q + 3) x) 38 7 (nI (q + 1)))) 12 i (μ 12 i + 1)) t c nc n (A + 1) := by
  obtain ⟨a1, a2, a3, a4, a5, a6, a7, a8⟩ := h.more hA
  obtain ⟨q9, b1, b2, b3, b4, b5⟩ := a6
  have eq9 : q9 = q := (nI_eq (by omega) (by omega)).mp (b2.symm.trans e7)
  subst eq9
  obtain ⟨M, hM⟩ : ∃ M, M = zu (zu (zu (zu (zu μ 40 (4 * q9) (nI i)) 40 (4 * q9 + 1) (nI f)) 40 (4 * q9 + 2) (nI g)) 40 (4 * q9 + 3) x) 38 7 (nI (q9 + 1)) := ⟨_, rfl⟩
  have m : ∀ b, b ≠ 40 → b ≠ 38 → M b = μ b := fun b y z => by rw [hM, zu_n _ _ _ z, zu_n _ _ _ y, zu_n _ _ _ y, zu_n _ _ _ y, zu_n _ _ _ y]
  have m38 : M 38 = upd (μ 38) 7 (nI (q9 + 1)) := by rw [hM]; rfl
  have m40 : M 40 = upd (upd (upd (upd (μ 40) (4 * q9) (nI i)) (4 * q9 + 1) (nI f)) (4 * q9 + 2) (nI g)) (4 * q9 + 3) x := by rw [hM]; rfl
  rw [← hM]
  obtain ⟨N, hN⟩ : ∃ N, N = zitr (fun j ν => zu ν (30 + i) (f + j) (ν (30 + i) (f + j) + x)) (g + 1 - f) M := ⟨_, rfl⟩
  have nb : ∀ b, b ≠ 30 + i → N b = M b := fun b y => by rw [hN]; exact zitr_k (fun j ν => zu_n _ _ _ y)
  have ni : ∀ d, N (30 + i) d = if f ≤ d ∧ d < f + (g + 1 - f) then M (30 + i) d + x else M (30 + i) d := fun d => by rw [hN]; exact zit_r (30 + i) f x M (g + 1 - f) d
  rw [← hN]
  obtain ⟨κ, hκ⟩ : ∃ κ, κ = zu N 12 i (μ 12 i + 1) := ⟨_, rfl⟩
  have kb : ∀ b, b ≠ 12 → κ b = N b := fun b y => by rw [hκ]; exact zu_n _ _ _ y
  rw [← hκ]
  have r : ∀ b, b < 30 ∨ 40 < b → b ≠ 12 → κ b = μ b := fun b y z => by rw [kb b z, nb b (by omega), m b (by omega) (by omega)]
  have r39 : κ 39 = μ 39 := by rw [kb 39 (by decide), nb 39 (by omega), m 39 (by decide) (by decide)]
  have r38 : ∀ j, j ≠ 7 → κ 38 j = μ 38 j := fun j z => by rw [kb 38 (by decide), nb 38 (by omega), m38, upd_n _ _ z]
  have r40 : κ 40 = M 40 := by rw [kb 40 (by decide), nb 40 (by omega)]
  have r63 : κ 63 = μ 63 := r 63 (Or.inr (by decide)) (by decide)
  have rr : ∀ b, b < 30 → b ≠ 12 → κ b = μ b := fun b y z => r b (Or.inl y) z
  refine ⟨a1.c2 (rr 7 (by decide) (by decide)) (rr 8 (by decide) (by decide)) (rr 13 (by decide) (by decide)) (by rw [r63]) (by rw [r63]) (by rw [r63]) (by rw [r63]) (by rw [r63]),
    a2.cg (rr 2 (by decide) (by decide)) (rr 3 (by decide) (by decide)) (rr 5 (by decide) (by decide)) (rr 6 (by decide) (by decide)) (rr 9 (by decide) (by decide)) (rr 10 (by decide) (by decide)) (rr 13 (by decide) (by decide)) (fun b x y => rr b y (by omega)),
    a3.cg (rr 0 (by decide) (by decide)),
    a4.cg (rr 4 (by decide) (by decide)) (rr 1 (by decide) (by decide)) (r 41 (Or.inr (by decide)) (by decide)) (r 42 (Or.inr (by decide)) (by decide)) (by rw [r63]) (by rw [r63]) (by rw [r63]) (r38 4 (by decide)) (r38 5 (by decide)),
    a5.cg (r38 0 (by decide)) (r38 1 (by decide)) (r38 2 (by decide)) r39 (rr 7 (by decide) (by decide)) (rr 8 (by decide) (by decide)) (rr 11 (by decide) (by decide)),
    ⟨q9 + 1, by omega, by rw [kb 38 (by decide), nb 38 (by omega), m38, upd_s], fun j => ?_, fun j hj => ?_, fun j hj d hd => ?_⟩, a7, a8.1, fun j hj => by rw [rr 6 (by decide) (by decide)]; exact a8.2 j hj⟩
  · rw [hκ, zu_s, nb 12 (by omega), m 12 (by decide) (by decide)]
    by_cases e : j = i
    · subst e
      obtain ⟨z, z1, z2⟩ := b3 j
      exact ⟨z + 1, by omega, by rw [upd_s, z2, nI_1]⟩
    · rw [upd_n _ _ e]
      obtain ⟨z, z1, z2⟩ := b3 j
      exact ⟨z, by omega, z2⟩
  · rw [r40, m40]
    by_cases e : j = q9
    · subst e; rw [upd_s]; exact hx
    · rw [upd_n _ _ (by omega), upd_n _ _ (by omega), upd_n _ _ (by omega), upd_n _ _ (by omega)]
      exact b4 j (by omega)
  · have old : zmu κ (nI j) (nI d) q9 = zmu μ (nI j) (nI d) q9 := zmu_cg q9 (fun k hk => by rw [r40, m40, upd_n _ _ (by omega), upd_n _ _ (by omega), upd_n _ _ (by omega), upd_n _ _ (by omega)])
    rw [zmu, old, r40, m40, upd_s, upd_n _ _ (by omega), upd_n _ _ (by omega), upd_n _ _ (by omega), upd_s, upd_n _ _ (by omega), upd_n _ _ (by omega), upd_s, upd_n _ _ (by omega), upd_s, ← b5 j hj d hd, kb (30 + j) (by omega)]
    by_cases e : j = i
    · subst e
      rw [ni, m (30 + j) (by omega) (by omega)]
      by_cases z : f ≤ d ∧ d < f + (g + 1 - f)
      · rw [if_pos z, if_pos ⟨rfl, nI_le z.1 (by omega), nI_le (by omega) (by omega)⟩]
      · rw [if_neg z, if_neg (fun w => z (by
          obtain ⟨-, w1, w2⟩ := w
          rw [nI_leI (by omega) (by omega)] at w1 w2
          omega)), Int32.add_zero]
    · rw [nb (30 + j) (by omega), m (30 + j) (by omega) (by omega), if_neg (fun w => e ((nI_eq (by omega) (by omega)).mp w.1).symm), Int32.add_zero]
theorem zLI.pass {y : Int32} {f : Nat} (h : zLI μ t c nc n A) (hA : A < 60) (hf : f ≤ 6) (hy : y = nI (t + f)) : ∃ c', c' ≤ c ∧ zLI (zpas f (zu μ 38 2 y)) (t + f) c' nc n (A + 1) := by
  obtain ⟨a1, a2, a3, a4, a5, a6, a7, a8⟩ := h
  have H : zCI (zu μ 38 2 y) t c nc n := a1.c2 rfl rfl rfl rfl rfl rfl rfl rfl
  have hL : zLB (zu μ 38 2 y) t c (A + 1) := a2.more.cg rfl rfl rfl rfl rfl rfl rfl (fun b x y => zu_n _ _ _ (by omega))
  obtain ⟨w1, w2, w3, w4, ⟨B, B1, B2, B3⟩, w6, w7, w8, w9, w10⟩ := a4
  obtain ⟨c', l, H2, L2, S2, r2⟩ := zLB.pas (B := B) H (by omega) (by omega) B3 hL (a3.cg rfl) f (by omega)
  have k := zpas_k H f (by omega)
  have g : ∀ j, j ≠ 2 → zpas f (zu μ 38 2 y) 38 j = μ 38 j := fun j hj => by rw [k.1 38 (by decide) (by decide), zu_s, upd_n _ _ hj]
  have kb : ∀ b, 30 ≤ b → b ≠ 63 → b ≠ 38 → zpas f (zu μ 38 2 y) b = μ b := fun b x z w => by rw [k.1 b x z, zu_n _ _ _ w]
  have k3 : ∀ j, j ≠ 6 → j ≠ 0 → zpas f (zu μ 38 2 y) 63 j = μ 63 j := fun j x z => by rw [k.2 j x z, zu_n _ _ _ (by decide)]
  have kr : ∀ b, (b = 1 ∨ b = 3 ∨ b = 4 ∨ b = 7 ∨ b = 8 ∨ b = 11 ∨ b = 12) → zpas f (zu μ 38 2 y) b = μ b := fun b hb => (r2 b hb).trans (zu_n _ _ _ (by omega))
  refine ⟨c', l, H2, L2, S2, (show zWV μ from ⟨w1, w2, w3, w4, ⟨B, B1, B2, B3⟩, w6, w7, w8, w9, w10⟩).cg (kr 4 (by decide)) (kr 1 (by decide)) (kb 41 (by decide) (by decide) (by decide)) (kb 42 (by decide) (by decide) (by decide)) (k3 1 (by decide) (by decide)) (k3 2 (by decide) (by decide)) (k3 3 (by decide) (by decide)) (g 4 (by decide)) (g 5 (by decide)), ?_, a6.cg (g 7 (by decide)) (kr 12 (by decide)) (kb 40 (by decide) (by decide) (by decide)) (fun b x z => kb b (by omega) (by omega) (by omega)), by omega, by omega, zPh.pas H a8.2 f (by omega)⟩
  obtain ⟨g1, g2, g3, g4⟩ := a5
  refine ⟨(g 0 (by decide)).trans g1, (g 1 (by decide)).trans g2, by rw [k.1 38 (by decide) (by decide), zu_s, upd_s]; exact hy, ?_⟩
  rw [kb 39 (by decide) (by decide) (by decide), kr 7 (by decide), kr 8 (by decide), kr 11 (by decide)]
  exact g4
theorem zLI.adopt {b y : Int32} {ν : zM} (h : zLI μ t c nc n A) (hs : zScr μ ν) (hb : b = 0 ∨ b = 1) (hy : y = b) : zLI (zu (zu ν 63 3 b) 38 5 y) t c nc n A := by
  obtain ⟨a1, a2, a3, a4, a5, a6, a7, a8⟩ := h.scr hs
  obtain ⟨w1, w2, w3, w4, w5, w6, w7, w8, w9, w10⟩ := a4
  exact ⟨a1.c2 rfl rfl rfl rfl rfl rfl rfl rfl, a2.cg rfl rfl rfl rfl rfl rfl rfl (fun b x y => by rw [zu_n _ _ _ (by omega), zu_n _ _ _ (by omega)]), a3, ⟨w1, w2, w3, w4, w5, hb, w7, w8, w9, hy⟩, a5, a6.cg rfl rfl rfl (fun b x y => by rw [zu_n _ _ _ (by omega), zu_n _ _ _ (by omega)]), a7, a8⟩
end
