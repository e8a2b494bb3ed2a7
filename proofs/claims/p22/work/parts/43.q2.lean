/-! ===== the law's bounds: what a run of 60 calls can reach ===== -/
def zRB (A c t : Nat) : Nat := 40 + 3 * (A - c) + 20 * (t / 10)
/-- an event that the law may have set -/
def zevl (e : Int32) : Prop := (zeK e = 0 → zbn (zeA e) 3) ∧ (zeK e = 1 → zbn (zeA e) 5000) ∧ (zeK e = 2 → zbn (zeA e) 50) ∧ (¬ zeK e = 0 → ¬ zeK e = 1 → ¬ zeK e = 2 → zbn (zeA e) 3)
def zEB (μ : zM) (t c A : Nat) : Prop := (∀ i, zbn (μ 2 i) (zRB A c t)) ∧ (∀ i, zbn (μ 5 i) 5000) ∧ (∀ i, zbn (μ 9 i) 50) ∧ (∀ i, zbn (μ 10 i) (3 * (A - c))) ∧ (∀ j, j < c → zevl (μ 13 j)) ∧ c ≤ A
def zLB (μ : zM) (t c A : Nat) : Prop := zEB μ t c A ∧ (∀ i, zbn (μ 3 i) 20) ∧ (∀ i, zbn (μ 6 i) (990 * t)) ∧ ∀ k, k < 8 → ∀ d, zbn (μ (22 + k) d) 1000000
theorem zbn_hx {x : Int32} {B : Nat} (h : zbn x B) : zbn (zheld x 5000) B := by
  have e5 : (5000 : Int32).toInt = 5000 := rfl
  have e6 : (-5000 : Int32).toInt = -5000 := by decide
  unfold zheld
  unfold zbn at h ⊢
  split
  · rename_i g; rw [zlt, e5] at g; rw [e5]; omega
  · split
    · rename_i g; rw [zlt, e6] at g; rw [e6]; omega
    · exact h
theorem zEB.one {μ : zM} {t c A : Nat} (hA : A ≤ 100) (ht : t ≤ 500) (h : zEB μ t (c + 1) A) : zEB (zhap (zu μ 63 6 (nI c)) (μ 13 c)) t c A := by
  obtain ⟨b1, b2, b3, b4, b5, b6⟩ := h
  have hr : zRB A (c + 1) t + 3 = zRB A c t := by unfold zRB; omega
  have hr2 : zRB A c t < 2000 := by unfold zRB; omega
  have v := b5 c (by omega)
  have u : ∀ b, b ≠ 63 → zu μ 63 6 (nI c) b = μ b := fun b hb => zu_n _ _ _ hb
  have r2 : ∀ i, zbn (μ 2 i) (zRB A c t) := fun i => (b1 i).le (by omega)
  have r10 : ∀ i, zbn (μ 10 i) (3 * (A - c)) := fun i => (b4 i).le (by omega)
  have r13 : ∀ j, j < c → zevl (μ 13 j) := fun j hj => b5 j (by omega)
  unfold zhap zEB
  by_cases c0 : zeK (μ 13 c) = 0
  · rw [if_pos c0, zu_s, zu_n _ _ _ (by decide : (5 : Nat) ≠ 2), zu_n _ _ _ (by decide : (9 : Nat) ≠ 2), zu_n _ _ _ (by decide : (10 : Nat) ≠ 2), zu_n _ _ _ (by decide : (13 : Nat) ≠ 2), u 2 (by decide), u 5 (by decide), u 9 (by decide), u 10 (by decide), u 13 (by decide)]
    refine ⟨zbn_u r2 (zbn_hx ?_), b2, b3, r10, r13, by omega⟩
    rw [← hr]
    exact (b1 _).add (v.1 c0) (by omega)
  · rw [if_neg c0]
    by_cases c1 : zeK (μ 13 c) = 1
    · rw [if_pos c1, zu_s, zu_n _ _ _ (by decide : (2 : Nat) ≠ 5), zu_n _ _ _ (by decide : (9 : Nat) ≠ 5), zu_n _ _ _ (by decide : (10 : Nat) ≠ 5), zu_n _ _ _ (by decide : (13 : Nat) ≠ 5), u 2 (by decide), u 5 (by decide), u 9 (by decide), u 10 (by decide), u 13 (by decide)]
      exact ⟨r2, zbn_u b2 (v.2.1 c1), b3, r10, r13, by omega⟩
    · rw [if_neg c1]
      by_cases c2 : zeK (μ 13 c) = 2
      · rw [if_pos c2, zu_s, zu_n _ _ _ (by decide : (2 : Nat) ≠ 9), zu_n _ _ _ (by decide : (5 : Nat) ≠ 9), zu_n _ _ _ (by decide : (10 : Nat) ≠ 9), zu_n _ _ _ (by decide : (13 : Nat) ≠ 9), u 2 (by decide), u 5 (by decide), u 9 (by decide), u 10 (by decide), u 13 (by decide)]
        exact ⟨r2, b2, zbn_u b3 (v.2.2.1 c2), r10, r13, by omega⟩
      · rw [if_neg c2, zu_s, zu_n _ _ _ (by decide : (2 : Nat) ≠ 10), zu_n _ _ _ (by decide : (5 : Nat) ≠ 10), zu_n _ _ _ (by decide : (9 : Nat) ≠ 10), zu_n _ _ _ (by decide : (13 : Nat) ≠ 10), u 2 (by decide), u 5 (by decide), u 9 (by decide), u 10 (by decide), u 13 (by decide)]
        refine ⟨r2, b2, b3, zbn_u r10 ?_, r13, by omega⟩
        exact ((b4 _).add (v.2.2.2 c0 c1 c2) (by omega)).le (by omega)
theorem zEB.evs {T : Int32} {t A : Nat} (hA : A ≤ 100) (ht : t ≤ 500) : ∀ (f : Nat) {μ : zM} {c : Nat}, zAg μ c → zEB μ t c A → ∃ c', c' ≤ c ∧ zAg (zevs T f μ) c' ∧ zEB (zevs T f μ) t c' A
  | 0, μ, c, h, g => ⟨c, Nat.le_refl _, h, g⟩
  | f + 1, μ, c, h, g => by
    rw [zevs]
    split
    · rename_i hq
      have hc : ∃ c1, c = c1 + 1 := by
        rcases Nat.eq_zero_or_pos c with e | e
        · have h0 := hq.1; rw [h.1, e] at h0; exact absurd h0 (by decide)
        · exact ⟨c - 1, by omega⟩
      obtain ⟨c1, rfl⟩ := hc
      have e1 : (μ 63 6).toNatClampNeg - 1 = c1 := by rw [h.1, nI_clamp (by have := h.2.1; omega)]; rfl
      rw [e1]
      obtain ⟨c', a1, a2, a3⟩ := zEB.evs hA ht f (h.step (μ 13 c1)) (g.one hA ht)
      exact ⟨c', by omega, a2, a3⟩
    · exact ⟨c, Nat.le_refl _, h, g⟩
theorem zT10 : ∀ t, t < 501 → nI t - nI t / 10 * 10 = 0 → t % 10 = 0 := by decide +kernel
theorem zrun_q {B : zM} {T : Int32} {t r r1 : Nat} (ht : t ≤ 500) (hr : r ≤ 940) (hr1 : r ≤ r1) (hr2 : T - T / 10 * 10 = 0 → r + 20 ≤ r1) (h2 : ∀ i, zbn (B 2 i) r) (h3 : ∀ i, zbn (B 3 i) 20) (h5 : ∀ i, zbn (B 5 i) 5000) (h6 : ∀ i, zbn (B 6 i) (990 * t)) : ∀ i, (∀ j, zbn (zitr (zrunS T) i B 2 j) r1 ∧ (i ≤ j → zbn (zitr (zrunS T) i B 2 j) r)) ∧ ∀ j, zbn (zitr (zrunS T) i B 6 j) (990 * (t + 1)) ∧ (i ≤ j → zbn (zitr (zrunS T) i B 6 j) (990 * t))
  | 0 => ⟨fun j => ⟨(h2 j).le hr1, fun _ => h2 j⟩, fun j => ⟨(h6 j).le (by omega), fun _ => h6 j⟩⟩
  | i + 1 => by
    obtain ⟨a2, a6⟩ := zrun_q (T := T) ht hr hr1 hr2 h2 h3 h5 h6 i
    rw [zitr_s]
    have a5 : ∀ j, zbn (zitr (zrunS T) i B 5 j) 5000 := fun j => by rw [zitr_k (fun i μ => zrunS_k T i μ (by decide) (by decide))]; exact h5 j
    have a3 : ∀ j, zbn (zitr (zrunS T) i B 3 j) 20 := fun j => by rw [zitr_k (fun i μ => zrunS_k T i μ (by decide) (by decide))]; exact h3 j
    generalize zitr (zrunS T) i B = X at *
    have hp : zbn (X 6 i + (X 2 i + X 5 i / 100)) (990 * (t + 1)) := (((a6 i).2 (Nat.le_refl i)).add (((a2 i).2 (Nat.le_refl i)).add (zbn_div (a5 i)) (by omega)) (by omega)).le (by omega)
    have h66 : ∀ j, zbn (upd (X 6) i (X 6 i + (X 2 i + X 5 i / 100)) j) (990 * (t + 1)) ∧ (i + 1 ≤ j → zbn (upd (X 6) i (X 6 i + (X 2 i + X 5 i / 100)) j) (990 * t)) := fun j => by
      by_cases e : j = i
      · subst e; rw [upd_s]; exact ⟨hp, fun h => by omega⟩
      · rw [upd_n _ _ e]; exact ⟨(a6 j).1, fun h => (a6 j).2 (by omega)⟩
    unfold zrunS
    by_cases c : T - T / 10 * 10 = 0
    · rw [if_pos c]
      refine ⟨fun j => ?_, ?_⟩
      · rw [zu_s, zu_n _ _ _ (by decide : (2 : Nat) ≠ 6), zu_n _ _ _ (by decide : (3 : Nat) ≠ 6)]
        by_cases e : j = i
        · subst e
          rw [upd_s]
          exact ⟨zbn_hx ((((a2 j).2 (Nat.le_refl j)).add (a3 j) (by omega)).le (hr2 c)), fun h => by omega⟩
        · rw [upd_n _ _ e]; exact ⟨(a2 j).1, fun h => (a2 j).2 (by omega)⟩
      · rw [zu_n _ _ _ (by decide : (6 : Nat) ≠ 2), zu_s]; exact h66
    · rw [if_neg c]
      refine ⟨fun j => ?_, ?_⟩
      · rw [zu_n _ _ _ (by decide : (2 : Nat) ≠ 6)]; exact ⟨(a2 j).1, fun h => (a2 j).2 (by omega)⟩
      · rw [zu_s]; exact h66
theorem zmes_q {C : zM} {t : Nat} (h6 : ∀ i, zbn (C 6 i) 356400) (h9 : ∀ i, zbn (C 9 i) 50) (h10 : ∀ i, zbn (C 10 i) 180) (hr : ∀ k, k < 8 → ∀ d, zbn (C (22 + k) d) 1000000) : ∀ i, i ≤ 8 → ∀ k, k < 8 → ∀ d, zbn (zitr (zmeaS t) i C (22 + k) d) 1000000
  | 0, _ => hr
  | i + 1, hi => by
    have ih := zmes_q (t := t) h6 h9 h10 hr i (by omega)
    rw [zitr_s]
    have x : ∀ b, b < 22 → zitr (zmeaS t) i C b = C b := fun b hb => zitr_k (fun j μ => zu_n _ _ _ (by omega))
    have x6 := x 6 (by decide)
    have x9 := x 9 (by decide)
    have x10 := x 10 (by decide)
    generalize zitr (zmeaS t) i C = X at *
    intro k hk d
    unfold zmeaS
    rw [x6, x9, x10]
    have m1 : zbn (1000 * C 10 i) (1000 * 180) := (show zbn 1000 1000 by unfold zbn; decide).mul (h10 i) (by decide)
    have hv : ∀ a b, zbn (C 6 a - C 6 b + C 9 i + 1000 * C 10 i) 1000000 := fun a b => ((((h6 a).sub (h6 b) (by decide)).add (h9 i) (by decide)).add m1 (by decide)).le (by decide)
    by_cases e : k = i
    · subst e
      rw [zu_s]
      exact zbn_u (ih k hk) (hv _ _) d
    · rw [zu_n _ _ _ (by omega)]; exact ih k hk d
theorem zEB.cg {μ ν : zM} {t c A : Nat} (h : zEB μ t c A) (h2 : ν 2 = μ 2) (h5 : ν 5 = μ 5) (h9 : ν 9 = μ 9) (h10 : ν 10 = μ 10) (h13 : ν 13 = μ 13) : zEB ν t c A := by
  unfold zEB; rw [h2, h5, h9, h10, h13]; exact h
/-- time never steps by more than 1000 -/
def zSv (μ : zM) (t : Nat) : Prop := μ 0 0 = 0 ∧ ∀ d, 1 ≤ d → d ≤ t → zbn (μ 0 d - μ 0 (d - 1)) 1000
theorem zLB.day {μ : zM} {t c nc n A : Nat} (H : zCI μ t c nc n) (hA : A ≤ 60) (ht : t < 360) (h : zLB μ t c A) : ∃ c', c' ≤ c ∧ zCI (zday μ) (t + 1) c' nc n ∧ zLB (zday μ) (t + 1) c' A := by
  have H0 := H
  obtain ⟨c1, hc1⟩ := H.day (by omega)
  obtain ⟨g1, g2, g3, g4, g5, g6, g7, g8, g9⟩ := H
  obtain ⟨hE, h3, h6, hR⟩ := h
  have et : (μ 63 0).toNatClampNeg = t := by rw [g1, nI_clamp (by omega)]
  have en : (μ 63 5).toNatClampNeg = n := by rw [g6, nI_clamp (by omega)]
  have eA : ∀ b, b ≠ 63 → zdayA μ b = μ b := fun b hb => by unfold zdayA; exact zu_n _ _ _ hb
  have hAg : zAg (zdayA μ) c := zAg.cg (eA 13 (by decide)) (by unfold zdayA; rw [zu_s, upd_n _ _ (by decide)]) g3
  have hEA : zEB (zdayA μ) t c A := hE.cg (eA 2 (by decide)) (eA 5 (by decide)) (eA 9 (by decide)) (eA 10 (by decide)) (eA 13 (by decide))
  obtain ⟨c2, l2, a2, e2⟩ := zEB.evs (T := nI ((μ 63 0).toNatClampNeg + 1)) (by omega) (by omega) (μ 63 6).toNatClampNeg hAg hEA
  have eB : ∀ b, b = 3 ∨ b = 6 ∨ (21 < b ∧ b < 30) → zdayB μ b = μ b := fun b hb => by
    unfold zdayB; rw [zevs_k _ (by omega) (by omega) (by omega) (by omega) (by omega)]; exact eA b (by omega)
  have eC : ∀ b, b ≠ 2 → b ≠ 6 → zdayC μ b = zdayB μ b := fun b q2 q6 => by unfold zdayC; rw [zitr_k (fun i ν => zrunS_k _ i ν q6 q2)]
  have eD : ∀ b, b < 22 → zdayD μ b = zdayC μ b := fun b hb => by unfold zdayD; exact zitr_k (fun j μ => zu_n _ _ _ (by omega))
  have eX : ∀ b, b ≠ 0 → zday μ b = zdayD μ b := fun b hb => by unfold zday; exact zu_n _ _ _ hb
  have e63 : zday μ 63 6 = zdayB μ 63 6 := by
    rw [eX 63 (by decide)]
    unfold zdayD
    rw [zitr_b (f := zmeaS ((μ 63 0).toNatClampNeg + 1)) (b := 63) (fun i ν hi => zu_n _ _ _ (by rw [en] at hi; omega)), eC 63 (by decide) (by decide)]
  have ec : c1 = c2 := by
    have q1 := hc1.2.2.1.1
    rw [e63] at q1
    have q2 : zdayB μ 63 6 = nI c2 := a2.1
    have q3 := hc1.2.2.1.2.1
    exact (nI_eq (by omega) (by have := a2.2.1; omega)).mp (q1.symm.trans q2)
  subst ec
  obtain ⟨b1, b2, b3, b4, b5, b6⟩ := e2
  have hz : zRB A c1 t ≤ 940 := by unfold zRB; omega
  have hz2 : zRB A c1 t ≤ zRB A c1 (t + 1) := by unfold zRB; omega
  have hz3 : nI ((μ 63 0).toNatClampNeg + 1) - nI ((μ 63 0).toNatClampNeg + 1) / 10 * 10 = 0 → zRB A c1 t + 20 ≤ zRB A c1 (t + 1) := fun z => by
    rw [et] at z
    have := zT10 (t + 1) (by omega) z
    unfold zRB; omega
  have hrun := zrun_q (B := zdayB μ) (T := nI ((μ 63 0).toNatClampNeg + 1)) (t := t) (by omega) hz hz2 hz3 b1 (by rw [eB 3 (by decide)]; exact h3) b2 (by rw [eB 6 (by decide)]; exact h6) (μ 63 4).toNatClampNeg
  have hmes := zmes_q (C := zdayC μ) (t := (μ 63 0).toNatClampNeg + 1) (fun i => (hrun.2 i).1.le (by omega)) (fun i => by rw [eC 9 (by decide) (by decide)]; exact b3 i) (fun i => by rw [eC 10 (by decide) (by decide)]; exact (b4 i).le (by omega)) (fun k hk d => by rw [eC (22 + k) (by omega) (by omega), eB (22 + k) (by omega)]; exact hR k hk d) (μ 63 5).toNatClampNeg (by rw [en]; exact g7)
  refine ⟨c1, l2, hc1, ⟨fun i => ?_, fun i => ?_, fun i => ?_, fun i => ?_, fun j hj => ?_, b6⟩, fun i => ?_, fun i => ?_, fun k hk d => ?_⟩
  · rw [eX 2 (by decide), eD 2 (by decide)]; exact (hrun.1 i).1
  · rw [eX 5 (by decide), eD 5 (by decide), eC 5 (by decide) (by decide)]; exact b2 i
  · rw [eX 9 (by decide), eD 9 (by decide), eC 9 (by decide) (by decide)]; exact b3 i
  · rw [eX 10 (by decide), eD 10 (by decide), eC 10 (by decide) (by decide)]; exact b4 i
  · rw [eX 13 (by decide), eD 13 (by decide), eC 13 (by decide) (by decide)]; exact b5 j hj
  · rw [eX 3 (by decide), eD 3 (by decide), eC 3 (by decide) (by decide), eB 3 (by decide)]; exact h3 i
  · rw [eX 6 (by decide), eD 6 (by decide)]; exact (hrun.2 i).1
  · rw [eX (22 + k) (by omega)]; exact hmes k hk d
theorem zSv.day {μ : zM} {t c nc n B : Nat} (H : zCI μ t c nc n) (ht : t < 500) (hB : B ≤ 1000) (e2 : μ 63 2 = nI B) (h : zSv μ t) : zSv (zday μ) (t + 1) := by
  have et : (μ 63 0).toNatClampNeg = t := by rw [H.1, nI_clamp (by omega)]
  have e0 : zdayD μ 0 = μ 0 := zday_k H (by decide) (by decide) (by decide) (by decide) (by decide) (by decide) (by decide)
  have e63 : zdayD μ 63 2 = nI B := (zday_63 H (by decide) (by decide)).trans e2
  obtain ⟨h1, h2⟩ := h
  unfold zday
  unfold zSv
  rw [zu_s, e0, et]
  refine ⟨by rw [upd_n _ _ (by omega)]; exact h1, fun d d1 d2 => ?_⟩
  by_cases e : d = t + 1
  · subst e
    rw [upd_s, show t + 1 - 1 = t from rfl, upd_n _ _ (by omega)]
    unfold zste
    rw [e63, Int32.add_comm, Int32.add_sub_cancel]
    exact (zbn_held _ rfl (by omega)).le hB
  · rw [upd_n _ _ e, upd_n _ _ (by omega)]; exact h2 d d1 (by omega)
theorem zday_row {μ : zM} {t c nc n : Nat} (H : zCI μ t c nc n) {b : Nat} (hb : b = 1 ∨ b = 3 ∨ b = 4 ∨ b = 7 ∨ b = 8 ∨ b = 11 ∨ b = 12) : zday μ b = μ b := by
  unfold zday
  rw [zu_n _ _ _ (by omega)]
  exact zday_k H (by omega) (by omega) (by omega) (by omega) (by omega) (by omega) (by omega)
theorem zLB.pas {μ : zM} {t c nc n A B : Nat} (H : zCI μ t c nc n) (hA : A ≤ 60) (hB : B ≤ 1000) (e2 : μ 63 2 = nI B) (h : zLB μ t c A) (hS : zSv μ t) : ∀ f, t + f ≤ 360 → ∃ c', c' ≤ c ∧ zCI (zpas f μ) (t + f) c' nc n ∧ zLB (zpas f μ) (t + f) c' A ∧ zSv (zpas f μ) (t + f) ∧ ∀ b, (b = 1 ∨ b = 3 ∨ b = 4 ∨ b = 7 ∨ b = 8 ∨ b = 11 ∨ b = 12) → zpas f μ b = μ b
  | 0, _ => ⟨c, Nat.le_refl _, H, h, hS, fun _ _ => rfl⟩
  | f + 1, hf => by
    obtain ⟨c1, l1, H1, h1, S1, r1⟩ := zLB.pas H hA hB e2 h hS f (by omega)
    obtain ⟨c2, l2, H2, h2⟩ := h1.day H1 hA (by omega)
    refine ⟨c2, by omega, H2, h2, ?_, fun b hb => (zday_row H1 hb).trans (r1 b hb)⟩
    exact S1.day H1 (show t + f < 500 by omega) hB (((zpas_k H f (by omega)).2 2 (by decide) (by decide)).trans e2)
/-- a clock that there isn't has no phase -/
def zPh (μ : zM) (nc : Nat) : Prop := ∀ i, nc ≤ i → μ 6 i = 0
theorem zrun_6 {T : Int32} {B : zM} : ∀ m i, m ≤ i → zitr (zrunS T) m B 6 i = B 6 i
  | 0, _, _ => rfl
  | m + 1, i, h => by
    rw [zitr_s]
    have ih := zrun_6 (T := T) (B := B) m i (by omega)
    generalize zitr (zrunS T) m B = X at *
    unfold zrunS
    split
    · rw [zu_n _ _ _ (by decide : (6 : Nat) ≠ 2), zu_s, upd_n _ _ (by omega)]; exact ih
    · rw [zu_s, upd_n _ _ (by omega)]; exact ih
theorem zPh.day {μ : zM} {t c nc n : Nat} (H : zCI μ t c nc n) (h : zPh μ nc) : zPh (zday μ) nc := fun i hi => by
  have e4 : (μ 63 4).toNatClampNeg = nc := by rw [H.2.2.2.1, nI_clamp (by have := H.2.2.2.2.1; omega)]
  unfold zday
  rw [zu_n _ _ _ (by decide)]
  unfold zdayD
  rw [zitr_k (f := zmeaS ((μ 63 0).toNatClampNeg + 1)) (b := 6) (fun j ν => zu_n _ _ _ (by omega))]
  unfold zdayC
  rw [e4, zrun_6 nc i hi]
  unfold zdayB
  rw [zevs_k _ (by decide) (by decide) (by decide) (by decide) (by decide)]
  unfold zdayA
  rw [zu_n _ _ _ (by decide)]
  exact h i hi
theorem zPh.pas {μ : zM} {t c nc n : Nat} (H : zCI μ t c nc n) (h : zPh μ nc) : ∀ f, t + f ≤ 500 → zPh (zpas f μ) nc
  | 0, _ => h
  | f + 1, hf => by
    obtain ⟨c1, H1⟩ := H.pas f (by omega)
    exact zPh.day H1 (zPh.pas H h f (by omega))
