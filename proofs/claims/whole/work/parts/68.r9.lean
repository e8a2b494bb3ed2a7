/-! ===== a day of both ===== -/
theorem zupd_id (f : Nat → Int32) (k : Nat) : upd f k (f k) = f := by
  funext j
  by_cases h : j = k
  · subst h; exact upd_s _ _ _
  · exact upd_n _ _ h
theorem zbn_div {x : Int32} (h : zbn x 5000) : zbn (x / 100) 50 := by
  unfold zbn at *
  have e100 : (100 : Int32).toInt = 100 := rfl
  have e : (x / 100).toInt = x.toInt.tdiv 100 := by
    rw [Int32.toInt_div, e100]
    have a : x.toInt.tdiv 100 ≤ 50 := by
      rcases Int.le_total 0 x.toInt with p | p
      · rw [Int.tdiv_eq_ediv_of_nonneg p]; omega
      · have q : x.toInt.tdiv 100 ≤ 0 := by
          rw [show x.toInt = -(-x.toInt) by omega, Int.neg_tdiv, Int.tdiv_eq_ediv_of_nonneg (by omega)]; omega
        omega
    have b : -50 ≤ x.toInt.tdiv 100 := by
      rcases Int.le_total 0 x.toInt with p | p
      · rw [Int.tdiv_eq_ediv_of_nonneg p]; omega
      · rw [show x.toInt = -(-x.toInt) by omega, Int.neg_tdiv, Int.tdiv_eq_ediv_of_nonneg (by omega)]; omega
    exact zbm (by omega) (by omega)
  rw [e]
  rcases Int.le_total 0 x.toInt with p | p
  · rw [Int.tdiv_eq_ediv_of_nonneg p]; omega
  · rw [show x.toInt = -(-x.toInt) by omega, Int.neg_tdiv, Int.tdiv_eq_ediv_of_nonneg (by omega)]; omega
/-- the clocks run alike -/
theorem zrun_2 {B B' : zM} {T : Int32} (h2 : B 2 = B' 38) (h3 : B 3 = B' 39) (h5 : B 5 = B' 40) (h6 : B 6 = B' 41) : ∀ i, zitr (zrunS T) i B 2 = zitr (zckM T) i B' 38 ∧ zitr (zrunS T) i B 6 = zitr (zckM T) i B' 41
  | 0 => ⟨h2, h6⟩
  | i + 1 => by
    obtain ⟨a2, a6⟩ := zrun_2 (T := T) h2 h3 h5 h6 i
    rw [zitr_s, zitr_s]
    have a3 : zitr (zrunS T) i B 3 = zitr (zckM T) i B' 39 := (zitr_k (fun i μ => zrunS_k T i μ (by decide) (by decide))).trans (h3.trans (zitr_k (fun i μ => zckM_k T (by decide) (by decide) i μ)).symm)
    have a5 : zitr (zrunS T) i B 5 = zitr (zckM T) i B' 40 := (zitr_k (fun i μ => zrunS_k T i μ (by decide) (by decide))).trans (h5.trans (zitr_k (fun i μ => zckM_k T (by decide) (by decide) i μ)).symm)
    generalize zitr (zrunS T) i B = X at *
    generalize zitr (zckM T) i B' = Y at *
    unfold zrunS zckM zrtM zphM
    by_cases c : T - T / 10 * 10 = 0
    · rw [if_pos c, if_pos c]
      constructor
      · rw [zu_s, zu_s, zu_n _ _ _ (by decide : (2 : Nat) ≠ 6), zu_n _ _ _ (by decide : (3 : Nat) ≠ 6), zu_n _ _ _ (by decide : (38 : Nat) ≠ 41), zu_n _ _ _ (by decide : (39 : Nat) ≠ 41), a2, a3]
      · rw [zu_n _ _ _ (by decide : (6 : Nat) ≠ 2), zu_n _ _ _ (by decide : (41 : Nat) ≠ 38), zu_s, zu_s, a2, a5, a6]
    · rw [if_neg c, if_neg c]
      constructor
      · rw [zu_n _ _ _ (by decide : (2 : Nat) ≠ 6), zu_s, zupd_id, zu_n _ _ _ (by decide : (38 : Nat) ≠ 41), a2]
      · rw [zu_s, zu_n _ _ _ (by decide : (41 : Nat) ≠ 38), zu_s, a2, a5, a6]
theorem zrun_b {B : zM} {T : Int32} {t : Nat} (ht : t < 500) (h2 : ∀ i, zbn (B 2 i) 5000) (h5 : ∀ i, zbn (B 5 i) 5000) (h6 : ∀ i, zbn (B 6 i) (5050 * t)) : ∀ i, (∀ j, zbn (zitr (zrunS T) i B 2 j) 5000) ∧ ∀ j, zbn (zitr (zrunS T) i B 6 j) (5050 * (t + 1)) ∧ (i ≤ j → zbn (zitr (zrunS T) i B 6 j) (5050 * t))
  | 0 => ⟨h2, fun j => ⟨(h6 j).le (by omega), fun _ => h6 j⟩⟩
  | i + 1 => by
    obtain ⟨a2, a6⟩ := zrun_b (T := T) ht h2 h5 h6 i
    rw [zitr_s]
    have a5 : ∀ j, zbn (zitr (zrunS T) i B 5 j) 5000 := fun j => by rw [zitr_k (fun i μ => zrunS_k T i μ (by decide) (by decide))]; exact h5 j
    generalize zitr (zrunS T) i B = X at *
    have hp : zbn (X 6 i + (X 2 i + X 5 i / 100)) (5050 * (t + 1)) := (((a6 i).2 (Nat.le_refl i)).add ((a2 i).add (zbn_div (a5 i)) (by decide)) (by omega)).le (by omega)
    have h66 : ∀ j, zbn (upd (X 6) i (X 6 i + (X 2 i + X 5 i / 100)) j) (5050 * (t + 1)) ∧ (i + 1 ≤ j → zbn (upd (X 6) i (X 6 i + (X 2 i + X 5 i / 100)) j) (5050 * t)) := fun j => by
      by_cases e : j = i
      · subst e; rw [upd_s]; exact ⟨hp, fun h => by omega⟩
      · rw [upd_n _ _ e]; exact ⟨(a6 j).1, fun h => (a6 j).2 (by omega)⟩
    unfold zrunS
    by_cases c : T - T / 10 * 10 = 0
    · rw [if_pos c]
      refine ⟨?_, ?_⟩
      · rw [zu_s, zu_n _ _ _ (by decide : (2 : Nat) ≠ 6)]; exact zbn_u a2 (zbn_held _ (B := 5000) rfl (by decide))
      · rw [zu_n _ _ _ (by decide : (6 : Nat) ≠ 2), zu_s]; exact h66
    · rw [if_neg c]
      refine ⟨?_, ?_⟩
      · rw [zu_n _ _ _ (by decide : (2 : Nat) ≠ 6)]; exact a2
      · rw [zu_s]; exact h66
/-- the links measure alike -/
theorem zmes_2 {C C' : zM} {t : Nat} (h1 : 1 ≤ t) (ht : t ≤ 500) (h6 : C 6 = C' 41) (h7 : C 7 = C' 43) (h8 : C 8 = C' 44) (h9 : C 9 = C' 45) (h10 : C 10 = C' 46) (hr : zr2 C C') : ∀ i, i ≤ 8 → zr2 (zitr (zmeaS t) i C) (zitr (zlkM t) i C')
  | 0, _ => hr
  | i + 1, hi => by
    have ih := zmes_2 h1 ht h6 h7 h8 h9 h10 hr i (by omega)
    rw [zitr_s, zitr_s]
    have x : ∀ b, b < 22 → zitr (zmeaS t) i C b = C b := fun b hb => zitr_k (fun j μ => zu_n _ _ _ (by omega))
    have y : ∀ b, b ≠ 48 → zitr (zlkM t) i C' b = C' b := fun b hb => zitr_k (fun j μ => zlkM_k t hb j μ)
    have x6 := x 6 (by decide)
    have x7 := x 7 (by decide)
    have x8 := x 8 (by decide)
    have x9 := x 9 (by decide)
    have x10 := x 10 (by decide)
    have y6 := y 41 (by decide)
    have y7 := y 43 (by decide)
    have y8 := y 44 (by decide)
    have y9 := y 45 (by decide)
    have y10 := y 46 (by decide)
    generalize zitr (zmeaS t) i C = X at *
    generalize zitr (zlkM t) i C' = Y at *
    unfold zmeaS zlkM
    rw [x6, x7, x8, x9, x10, y6, y7, y8, y9, y10, ← h6, ← h7, ← h8, ← h9, ← h10]
    generalize C 6 (C 7 i).toNatClampNeg - C 6 (C 8 i).toNatClampNeg + C 9 i + 1000 * C 10 i = v
    intro k hk d d1 d5
    rw [zu_s]
    by_cases e : k = i
    · subst e
      rw [zu_s]
      by_cases e2 : d = t
      · subst e2; rw [upd_s, upd_s]
      · rw [upd_n _ _ e2, upd_n _ _ (by omega)]; exact ih k hk d d1 d5
    · rw [zu_n _ _ _ (by omega), upd_n _ _ (by omega)]; exact ih k hk d d1 d5
theorem zmes_b {C : zM} {t : Nat} (h6 : ∀ i, zbn (C 6 i) 2525000) (h9 : ∀ i, zbn (C 9 i) 50) (h10 : ∀ i, zbn (C 10 i) 1536) (hr : ∀ k, k < 8 → ∀ d, zbn (C (22 + k) d) 6600000) : ∀ i, i ≤ 8 → ∀ k, k < 8 → ∀ d, zbn (zitr (zmeaS t) i C (22 + k) d) 6600000
  | 0, _ => hr
  | i + 1, hi => by
    have ih := zmes_b (t := t) h6 h9 h10 hr i (by omega)
    rw [zitr_s]
    have x : ∀ b, b < 22 → zitr (zmeaS t) i C b = C b := fun b hb => zitr_k (fun j μ => zu_n _ _ _ (by omega))
    have x6 := x 6 (by decide)
    have x9 := x 9 (by decide)
    have x10 := x 10 (by decide)
    generalize zitr (zmeaS t) i C = X at *
    intro k hk d
    unfold zmeaS
    rw [x6, x9, x10]
    have m1 : zbn (1000 * C 10 i) (1000 * 1536) := (show zbn 1000 1000 by unfold zbn; decide).mul (h10 i) (by decide)
    have hv : ∀ a b, zbn (C 6 a - C 6 b + C 9 i + 1000 * C 10 i) 6600000 := fun a b => ((((h6 a).sub (h6 b) (by decide)).add (h9 i) (by decide)).add m1 (by decide)).le (by decide)
    by_cases e : k = i
    · subst e
      rw [zu_s]
      exact zbn_u (ih k hk) (hv _ _) d
    · rw [zu_n _ _ _ (by omega)]; exact ih k hk d
