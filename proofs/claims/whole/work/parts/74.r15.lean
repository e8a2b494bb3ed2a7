theorem zpin {α : Type} (f : Nat → α) (y : α) (p : Nat) : ∀ c, p ≤ c → ((List.range (c + 1)).map (fun j => if j < p then f j else if j = p then y else f (j - 1))).Perm (y :: (List.range c).map f)
  | 0, h => by
    obtain rfl : p = 0 := by omega
    exact List.Perm.refl _
  | c + 1, h => by
    rw [List.range_succ (n := c + 1), List.map_append, List.map_singleton]
    by_cases e : p = c + 1
    · subst e
      rw [if_neg (Nat.lt_irrefl _), if_pos rfl]
      have a : (List.range (c + 1)).map (fun j => if j < c + 1 then f j else if j = c + 1 then y else f (j - 1)) = (List.range (c + 1)).map f := List.map_congr_left (fun j hj => if_pos (List.mem_range.mp hj))
      rw [a]
      exact List.perm_append_singleton _ _
    · have e2 : (List.range (c + 1)).map f = (List.range c).map f ++ [f c] := by rw [List.range_succ, List.map_append, List.map_singleton]
      rw [if_neg (by omega), if_neg (by omega), show c + 1 - 1 = c from rfl, e2]
      exact (zpin f y p c (by omega)).append_right [f c]
section
variable {μ κ : zM} {t c nc n A : Nat}
theorem zR2.tell {d w : Int32} {i : Nat} (h : zR2 μ μ t c nc n A) 
    (k3 : κ 3 = upd (μ 3) i d) (k4 : κ 4 = upd (μ 4) i w) (k39 : κ 39 = upd (μ 39) i d) (k42 : κ 42 = upd (μ 42) i w)
    (kX : ∀ b, b < 38 → b ≠ 3 → b ≠ 4 → κ b = μ b) (kM : ∀ b, 38 ≤ b → b ≤ 58 → b ≠ 39 → b ≠ 42 → κ b = μ b)
    (k63 : ∀ j, j ≤ 17 → κ 63 j = μ 63 j) : zR2 κ κ t c nc n A := by
  obtain ⟨HX, HM, hW, hS, hr, ho, hE, hB⟩ := h
  obtain ⟨X1, X2, X3, X4, X5, X6, X7, X8, X9⟩ := HX
  obtain ⟨M1, M2, M3, M4, M5, M6, M7, M8, M9⟩ := HM
  obtain ⟨w2, w3, w5, w6, w4, w7, w8, w9, w10, w11, w12, w0, w1⟩ := hW
  obtain ⟨b1, b2, b3, b4, b5, b6⟩ := hB
  have kE : ∀ b, 49 ≤ b → b ≤ 52 → κ b = μ b := fun b p q => kM b (by omega) (by omega) (by omega) (by omega)
  have HX2 : zCI κ t c nc n := ⟨(k63 0 (by decide)).trans X1, X2, X3.cg (kX 13 (by decide) (by decide) (by decide)) (k63 6 (by decide)), (k63 4 (by decide)).trans X4, X5, (k63 5 (by decide)).trans X6, X7, (fun j hj => by rw [kX 7 (by decide) (by decide) (by decide), kX 8 (by decide) (by decide) (by decide)]; exact X8 j hj), by rw [k63 2 (by decide)]; exact X9⟩
  have HM2 : zMI κ t c nc n := ⟨(k63 11 (by decide)).trans M1, M2, M3.cg kE (k63 14 (by decide)), (k63 12 (by decide)).trans M4, M5, (k63 13 (by decide)).trans M6, M7, (fun j hj => by rw [kM 43 (by decide) (by decide) (by decide) (by decide), kM 44 (by decide) (by decide) (by decide) (by decide)]; exact M8 j hj), (fun k hk => by rw [kM 53 (by decide) (by decide) (by decide) (by decide)]; exact M9 k hk)⟩
  have hW2 : zW2 κ κ := ⟨(by rw [kX 2 (by decide) (by decide) (by decide), kM 38 (by decide) (by decide) (by decide) (by decide)]; exact w2), (by rw [k3, k39, w3]), (by rw [kX 5 (by decide) (by decide) (by decide), kM 40 (by decide) (by decide) (by decide) (by decide)]; exact w5), (by rw [kX 6 (by decide) (by decide) (by decide), kM 41 (by decide) (by decide) (by decide) (by decide)]; exact w6), (by rw [k4, k42, w4]), (by rw [kX 7 (by decide) (by decide) (by decide), kM 43 (by decide) (by decide) (by decide) (by decide)]; exact w7), (by rw [kX 8 (by decide) (by decide) (by decide), kM 44 (by decide) (by decide) (by decide) (by decide)]; exact w8), (by rw [kX 9 (by decide) (by decide) (by decide), kM 45 (by decide) (by decide) (by decide) (by decide)]; exact w9), (by rw [kX 10 (by decide) (by decide) (by decide), kM 46 (by decide) (by decide) (by decide) (by decide)]; exact w10), (by rw [kX 11 (by decide) (by decide) (by decide), kM 47 (by decide) (by decide) (by decide) (by decide)]; exact w11), (by rw [kX 12 (by decide) (by decide) (by decide), kM 53 (by decide) (by decide) (by decide) (by decide)]; exact w12), (by rw [kX 0 (by decide) (by decide) (by decide), kM 57 (by decide) (by decide) (by decide) (by decide)]; exact w0), (by rw [kX 1 (by decide) (by decide) (by decide), kM 58 (by decide) (by decide) (by decide) (by decide)]; exact w1)⟩
  have hS2 : zS2 κ κ := by unfold zS2; rw [k63 1 (by decide), k63 2 (by decide), k63 3 (by decide), k63 15 (by decide), k63 16 (by decide), k63 17 (by decide)]; exact hS
  have hr2 : zr2 κ κ := fun k hk d d1 d5 => by rw [kX (22 + k) (by omega) (by omega) (by omega), kM 48 (by decide) (by decide) (by decide) (by decide)]; exact hr k hk d d1 d5
  have ho2 : zo2 κ κ := fun k hk q hq => by rw [kX (30 + k) (by omega) (by omega) (by omega), kM 53 (by decide) (by decide) (by decide) (by decide), zof_cg (fun b hb => kM b (by omega) (by omega) (by omega) (by omega))]; exact ho k hk q hq
  have hE2 : zER κ κ (t + 1) c := hE.cg (kX 13 (by decide) (by decide) (by decide)) (k63 6 (by decide)) kE (k63 14 (by decide))
  exact ⟨HX2, HM2, hW2, hS2, hr2, ho2, hE2, (by rw [kX 6 (by decide) (by decide) (by decide)]; exact b1), ⟨(by rw [kX 2 (by decide) (by decide) (by decide)]; exact b2.1), (by rw [kX 5 (by decide) (by decide) (by decide)]; exact b2.2.1), (by rw [kX 9 (by decide) (by decide) (by decide)]; exact b2.2.2.1), (by rw [kX 10 (by decide) (by decide) (by decide)]; exact b2.2.2.2)⟩, (fun k hk d => by rw [kX (22 + k) (by omega) (by omega) (by omega)]; exact b3 k hk d), (by rw [kM 56 (by decide) (by decide) (by decide) (by decide)]; exact b4), (by rw [k63 1 (by decide)]; exact b5), b6⟩
theorem zR2.link {d : Int32} {i j0 : Nat} (h : zR2 μ μ t c nc n A) (hn : n < 8) (hi : i < nc) (hj0 : j0 < nc) (hne : i ≠ j0) (hd : -50 ≤ d ∧ d ≤ 50)
    (k7 : κ 7 = upd (μ 7) n (nI i)) (k8 : κ 8 = upd (μ 8) n (nI j0)) (k9 : κ 9 = upd (μ 9) n d) (k11 : κ 11 = upd (μ 11) n (μ 63 0)) (k43 : κ 43 = upd (μ 43) n (nI i)) (k44 : κ 44 = upd (μ 44) n (nI j0)) (k45 : κ 45 = upd (μ 45) n d) (k47 : κ 47 = upd (μ 47) n (μ 63 0)) (ks5 : κ 63 5 = nI (n + 1)) (ks13 : κ 63 13 = nI (n + 1))
    (kX : ∀ b, b < 38 → b ≠ 7 → b ≠ 8 → b ≠ 9 → b ≠ 11 → κ b = μ b) (kM : ∀ b, 38 ≤ b → b ≤ 58 → b ≠ 43 → b ≠ 44 → b ≠ 45 → b ≠ 47 → κ b = μ b)
    (k63 : ∀ j, j ≤ 17 → j ≠ 5 → j ≠ 13 → κ 63 j = μ 63 j) : zR2 κ κ t c nc (n + 1) A := by
  obtain ⟨HX, HM, hW, hS, hr, ho, hE, hB⟩ := h
  obtain ⟨X1, X2, X3, X4, X5, X6, X7, X8, X9⟩ := HX
  obtain ⟨M1, M2, M3, M4, M5, M6, M7, M8, M9⟩ := HM
  obtain ⟨w2, w3, w5, w6, w4, w7, w8, w9, w10, w11, w12, w0, w1⟩ := hW
  obtain ⟨b1, b2, b3, b4, b5, b6⟩ := hB
  have kE : ∀ b, 49 ≤ b → b ≤ 52 → κ b = μ b := fun b p q => kM b (by omega) (by omega) (by omega) (by omega) (by omega) (by omega)
  have HX2 : zCI κ t c nc (n + 1) := ⟨(k63 0 (by decide) (by decide) (by decide)).trans X1, X2, X3.cg (kX 13 (by decide) (by decide) (by decide) (by decide) (by decide)) (k63 6 (by decide) (by decide) (by decide)), (k63 4 (by decide) (by decide) (by decide)).trans X4, X5, ks5, hn, (fun j hj => by rw [k7, k8]; exact (if e : j = n then ⟨i, j0, hi, hj0, hne, by rw [e, upd_s], by rw [e, upd_s]⟩ else by rw [upd_n _ _ e, upd_n _ _ e]; exact X8 j (by omega))), by rw [k63 2 (by decide) (by decide) (by decide)]; exact X9⟩
  have HM2 : zMI κ t c nc (n + 1) := ⟨(k63 11 (by decide) (by decide) (by decide)).trans M1, M2, M3.cg kE (k63 14 (by decide) (by decide) (by decide)), (k63 12 (by decide) (by decide) (by decide)).trans M4, M5, ks13, hn, (fun j hj => by rw [k43, k44]; exact (if e : j = n then ⟨i, j0, hi, hj0, hne, by rw [e, upd_s], by rw [e, upd_s]⟩ else by rw [upd_n _ _ e, upd_n _ _ e]; exact M8 j (by omega))), (fun k hk => by rw [kM 53 (by decide) (by decide) (by decide) (by decide) (by decide) (by decide)]; exact M9 k hk)⟩
  have hW2 : zW2 κ κ := ⟨(by rw [kX 2 (by decide) (by decide) (by decide) (by decide) (by decide), kM 38 (by decide) (by decide) (by decide) (by decide) (by decide) (by decide)]; exact w2), (by rw [kX 3 (by decide) (by decide) (by decide) (by decide) (by decide), kM 39 (by decide) (by decide) (by decide) (by decide) (by decide) (by decide)]; exact w3), (by rw [kX 5 (by decide) (by decide) (by decide) (by decide) (by decide), kM 40 (by decide) (by decide) (by decide) (by decide) (by decide) (by decide)]; exact w5), (by rw [kX 6 (by decide) (by decide) (by decide) (by decide) (by decide), kM 41 (by decide) (by decide) (by decide) (by decide) (by decide) (by decide)]; exact w6), (by rw [kX 4 (by decide) (by decide) (by decide) (by decide) (by decide), kM 42 (by decide) (by decide) (by decide) (by decide) (by decide) (by decide)]; exact w4), (by rw [k7, k43, w7]), (by rw [k8, k44, w8]), (by rw [k9, k45, w9]), (by rw [kX 10 (by decide) (by decide) (by decide) (by decide) (by decide), kM 46 (by decide) (by decide) (by decide) (by decide) (by decide) (by decide)]; exact w10), (by rw [k11, k47, w11]), (by rw [kX 12 (by decide) (by decide) (by decide) (by decide) (by decide), kM 53 (by decide) (by decide) (by decide) (by decide) (by decide) (by decide)]; exact w12), (by rw [kX 0 (by decide) (by decide) (by decide) (by decide) (by decide), kM 57 (by decide) (by decide) (by decide) (by decide) (by decide) (by decide)]; exact w0), (by rw [kX 1 (by decide) (by decide) (by decide) (by decide) (by decide), kM 58 (by decide) (by decide) (by decide) (by decide) (by decide) (by decide)]; exact w1)⟩
  have hS2 : zS2 κ κ := by unfold zS2; rw [k63 1 (by decide) (by decide) (by decide), k63 2 (by decide) (by decide) (by decide), k63 3 (by decide) (by decide) (by decide), k63 15 (by decide) (by decide) (by decide), k63 16 (by decide) (by decide) (by decide), k63 17 (by decide) (by decide) (by decide)]; exact hS
  have hr2 : zr2 κ κ := fun k hk d d1 d5 => by rw [kX (22 + k) (by omega) (by omega) (by omega) (by omega) (by omega), kM 48 (by decide) (by decide) (by decide) (by decide) (by decide) (by decide)]; exact hr k hk d d1 d5
  have ho2 : zo2 κ κ := fun k hk q hq => by rw [kX (30 + k) (by omega) (by omega) (by omega) (by omega) (by omega), kM 53 (by decide) (by decide) (by decide) (by decide) (by decide) (by decide), zof_cg (fun b hb => kM b (by omega) (by omega) (by omega) (by omega) (by omega) (by omega))]; exact ho k hk q hq
  have hE2 : zER κ κ (t + 1) c := hE.cg (kX 13 (by decide) (by decide) (by decide) (by decide) (by decide)) (k63 6 (by decide) (by decide) (by decide)) kE (k63 14 (by decide) (by decide) (by decide))
  exact ⟨HX2, HM2, hW2, hS2, hr2, ho2, hE2, (by rw [kX 6 (by decide) (by decide) (by decide) (by decide) (by decide)]; exact b1), ⟨(by rw [kX 2 (by decide) (by decide) (by decide) (by decide) (by decide)]; exact b2.1), (by rw [kX 5 (by decide) (by decide) (by decide) (by decide) (by decide)]; exact b2.2.1), (by rw [k9]; exact zbn_u b2.2.2.1 (zbn_r hd.1 hd.2 rfl rfl (by decide) (by decide))), (by rw [kX 10 (by decide) (by decide) (by decide) (by decide) (by decide)]; exact b2.2.2.2)⟩, (fun k hk d => by rw [kX (22 + k) (by omega) (by omega) (by omega) (by omega) (by omega)]; exact b3 k hk d), (by rw [kM 56 (by decide) (by decide) (by decide) (by decide) (by decide) (by decide)]; exact b4), (by rw [k63 1 (by decide) (by decide) (by decide)]; exact b5), b6⟩
theorem zR2.bounds {a b : Int32} (h : zR2 μ μ t c nc n A) (ha : 0 ≤ a ∧ a ≤ 499) (hb : 1 ≤ b ∧ b ≤ 1000)
    (ks1 : κ 63 1 = a) (ks2 : κ 63 2 = b) (ks15 : κ 63 15 = a) (ks16 : κ 63 16 = b)
    (kX : ∀ b, b < 38 → κ b = μ b) (kM : ∀ b, 38 ≤ b → b ≤ 58 → κ b = μ b)
    (k63 : ∀ j, j ≤ 17 → j ≠ 1 → j ≠ 2 → j ≠ 15 → j ≠ 16 → κ 63 j = μ 63 j) : zR2 κ κ t c nc n A := by
  obtain ⟨HX, HM, hW, hS, hr, ho, hE, hB⟩ := h
  obtain ⟨X1, X2, X3, X4, X5, X6, X7, X8, X9⟩ := HX
  obtain ⟨M1, M2, M3, M4, M5, M6, M7, M8, M9⟩ := HM
  obtain ⟨w2, w3, w5, w6, w4, w7, w8, w9, w10, w11, w12, w0, w1⟩ := hW
  obtain ⟨b1, b2, b3, b4, b5, b6⟩ := hB
  have kE : ∀ b, 49 ≤ b → b ≤ 52 → κ b = μ b := fun b p q => kM b (by omega) (by omega)
  have HX2 : zCI κ t c nc n := ⟨(k63 0 (by decide) (by decide) (by decide) (by decide) (by decide)).trans X1, X2, X3.cg (kX 13 (by decide)) (k63 6 (by decide) (by decide) (by decide) (by decide) (by decide)), (k63 4 (by decide) (by decide) (by decide) (by decide) (by decide)).trans X4, X5, (k63 5 (by decide) (by decide) (by decide) (by decide) (by decide)).trans X6, X7, (fun j hj => by rw [kX 7 (by decide), kX 8 (by decide)]; exact X8 j hj), by rw [ks2]; exact (by have h1 := hb.1; rw [zle2] at h1 ⊢; rw [show (1 : Int32).toInt = 1 from rfl] at h1; rw [show (0 : Int32).toInt = 0 from rfl]; omega)⟩
  have HM2 : zMI κ t c nc n := ⟨(k63 11 (by decide) (by decide) (by decide) (by decide) (by decide)).trans M1, M2, M3.cg kE (k63 14 (by decide) (by decide) (by decide) (by decide) (by decide)), (k63 12 (by decide) (by decide) (by decide) (by decide) (by decide)).trans M4, M5, (k63 13 (by decide) (by decide) (by decide) (by decide) (by decide)).trans M6, M7, (fun j hj => by rw [kM 43 (by decide) (by decide), kM 44 (by decide) (by decide)]; exact M8 j hj), (fun k hk => by rw [kM 53 (by decide) (by decide)]; exact M9 k hk)⟩
  have hW2 : zW2 κ κ := ⟨(by rw [kX 2 (by decide), kM 38 (by decide) (by decide)]; exact w2), (by rw [kX 3 (by decide), kM 39 (by decide) (by decide)]; exact w3), (by rw [kX 5 (by decide), kM 40 (by decide) (by decide)]; exact w5), (by rw [kX 6 (by decide), kM 41 (by decide) (by decide)]; exact w6), (by rw [kX 4 (by decide), kM 42 (by decide) (by decide)]; exact w4), (by rw [kX 7 (by decide), kM 43 (by decide) (by decide)]; exact w7), (by rw [kX 8 (by decide), kM 44 (by decide) (by decide)]; exact w8), (by rw [kX 9 (by decide), kM 45 (by decide) (by decide)]; exact w9), (by rw [kX 10 (by decide), kM 46 (by decide) (by decide)]; exact w10), (by rw [kX 11 (by decide), kM 47 (by decide) (by decide)]; exact w11), (by rw [kX 12 (by decide), kM 53 (by decide) (by decide)]; exact w12), (by rw [kX 0 (by decide), kM 57 (by decide) (by decide)]; exact w0), (by rw [kX 1 (by decide), kM 58 (by decide) (by decide)]; exact w1)⟩
  have hS2 : zS2 κ κ := ⟨by rw [ks1, ks15], by rw [ks2, ks16], by rw [k63 3 (by decide) (by decide) (by decide) (by decide) (by decide), k63 17 (by decide) (by decide) (by decide) (by decide) (by decide)]; exact hS.2.2⟩
  have hr2 : zr2 κ κ := fun k hk d d1 d5 => by rw [kX (22 + k) (by omega), kM 48 (by decide) (by decide)]; exact hr k hk d d1 d5
  have ho2 : zo2 κ κ := fun k hk q hq => by rw [kX (30 + k) (by omega), kM 53 (by decide) (by decide), zof_cg (fun b hb => kM b (by omega) (by omega))]; exact ho k hk q hq
  have hE2 : zER κ κ (t + 1) c := hE.cg (kX 13 (by decide)) (k63 6 (by decide) (by decide) (by decide) (by decide) (by decide)) kE (k63 14 (by decide) (by decide) (by decide) (by decide) (by decide))
  exact ⟨HX2, HM2, hW2, hS2, hr2, ho2, hE2, (by rw [kX 6 (by decide)]; exact b1), ⟨(by rw [kX 2 (by decide)]; exact b2.1), (by rw [kX 5 (by decide)]; exact b2.2.1), (by rw [kX 9 (by decide)]; exact b2.2.2.1), (by rw [kX 10 (by decide)]; exact b2.2.2.2)⟩, (fun k hk d => by rw [kX (22 + k) (by omega)]; exact b3 k hk d), (by rw [kM 56 (by decide) (by decide)]; exact b4), (by rw [ks1]; exact ha), b6⟩
theorem zR2.vote {b : Int32} {i : Nat} (h : zR2 μ μ t c nc n A) 
    (k1 : κ 1 = upd (μ 1) i b) (k58 : κ 58 = upd (μ 58) i b)
    (kX : ∀ b, b < 38 → b ≠ 1 → κ b = μ b) (kM : ∀ b, 38 ≤ b → b ≤ 58 → b ≠ 58 → κ b = μ b)
    (k63 : ∀ j, j ≤ 17 → κ 63 j = μ 63 j) : zR2 κ κ t c nc n A := by
  obtain ⟨HX, HM, hW, hS, hr, ho, hE, hB⟩ := h
  obtain ⟨X1, X2, X3, X4, X5, X6, X7, X8, X9⟩ := HX
  obtain ⟨M1, M2, M3, M4, M5, M6, M7, M8, M9⟩ := HM
  obtain ⟨w2, w3, w5, w6, w4, w7, w8, w9, w10, w11, w12, w0, w1⟩ := hW
  obtain ⟨b1, b2, b3, b4, b5, b6⟩ := hB
  have kE : ∀ b, 49 ≤ b → b ≤ 52 → κ b = μ b := fun b p q => kM b (by omega) (by omega) (by omega)
  have HX2 : zCI κ t c nc n := ⟨(k63 0 (by decide)).trans X1, X2, X3.cg (kX 13 (by decide) (by decide)) (k63 6 (by decide)), (k63 4 (by decide)).trans X4, X5, (k63 5 (by decide)).trans X6, X7, (fun j hj => by rw [kX 7 (by decide) (by decide), kX 8 (by decide) (by decide)]; exact X8 j hj), by rw [k63 2 (by decide)]; exact X9⟩
  have HM2 : zMI κ t c nc n := ⟨(k63 11 (by decide)).trans M1, M2, M3.cg kE (k63 14 (by decide)), (k63 12 (by decide)).trans M4, M5, (k63 13 (by decide)).trans M6, M7, (fun j hj => by rw [kM 43 (by decide) (by decide) (by decide), kM 44 (by decide) (by decide) (by decide)]; exact M8 j hj), (fun k hk => by rw [kM 53 (by decide) (by decide) (by decide)]; exact M9 k hk)⟩
  have hW2 : zW2 κ κ := ⟨(by rw [kX 2 (by decide) (by decide), kM 38 (by decide) (by decide) (by decide)]; exact w2), (by rw [kX 3 (by decide) (by decide), kM 39 (by decide) (by decide) (by decide)]; exact w3), (by rw [kX 5 (by decide) (by decide), kM 40 (by decide) (by decide) (by decide)]; exact w5), (by rw [kX 6 (by decide) (by decide), kM 41 (by decide) (by decide) (by decide)]; exact w6), (by rw [kX 4 (by decide) (by decide), kM 42 (by decide) (by decide) (by decide)]; exact w4), (by rw [kX 7 (by decide) (by decide), kM 43 (by decide) (by decide) (by decide)]; exact w7), (by rw [kX 8 (by decide) (by decide), kM 44 (by decide) (by decide) (by decide)]; exact w8), (by rw [kX 9 (by decide) (by decide), kM 45 (by decide) (by decide) (by decide)]; exact w9), (by rw [kX 10 (by decide) (by decide), kM 46 (by decide) (by decide) (by decide)]; exact w10), (by rw [kX 11 (by decide) (by decide), kM 47 (by decide) (by decide) (by decide)]; exact w11), (by rw [kX 12 (by decide) (by decide), kM 53 (by decide) (by decide) (by decide)]; exact w12), (by rw [kX 0 (by decide) (by decide), kM 57 (by decide) (by decide) (by decide)]; exact w0), (by rw [k1, k58, w1])⟩
  have hS2 : zS2 κ κ := by unfold zS2; rw [k63 1 (by decide), k63 2 (by decide), k63 3 (by decide), k63 15 (by decide), k63 16 (by decide), k63 17 (by decide)]; exact hS
  have hr2 : zr2 κ κ := fun k hk d d1 d5 => by rw [kX (22 + k) (by omega) (by omega), kM 48 (by decide) (by decide) (by decide)]; exact hr k hk d d1 d5
  have ho2 : zo2 κ κ := fun k hk q hq => by rw [kX (30 + k) (by omega) (by omega), kM 53 (by decide) (by decide) (by decide), zof_cg (fun b hb => kM b (by omega) (by omega) (by omega))]; exact ho k hk q hq
  have hE2 : zER κ κ (t + 1) c := hE.cg (kX 13 (by decide) (by decide)) (k63 6 (by decide)) kE (k63 14 (by decide))
  exact ⟨HX2, HM2, hW2, hS2, hr2, ho2, hE2, (by rw [kX 6 (by decide) (by decide)]; exact b1), ⟨(by rw [kX 2 (by decide) (by decide)]; exact b2.1), (by rw [kX 5 (by decide) (by decide)]; exact b2.2.1), (by rw [kX 9 (by decide) (by decide)]; exact b2.2.2.1), (by rw [kX 10 (by decide) (by decide)]; exact b2.2.2.2)⟩, (fun k hk d => by rw [kX (22 + k) (by omega) (by omega)]; exact b3 k hk d), (by rw [kM 56 (by decide) (by decide) (by decide)]; exact b4), (by rw [k63 1 (by decide)]; exact b5), b6⟩
theorem zR2.adopt {b : Int32} (h : zR2 μ μ t c nc n A) 
    (ks3 : κ 63 3 = b) (ks17 : κ 63 17 = b)
    (kX : ∀ b, b < 38 → b ≠ 14 → b ≠ 15 → b ≠ 16 → b ≠ 17 → b ≠ 18 → b ≠ 19 → b ≠ 20 → b ≠ 21 → κ b = μ b) (kM : ∀ b, 38 ≤ b → b ≤ 58 → κ b = μ b)
    (k63 : ∀ j, j ≤ 17 → j ≠ 3 → j ≠ 17 → κ 63 j = μ 63 j) : zR2 κ κ t c nc n A := by
  obtain ⟨HX, HM, hW, hS, hr, ho, hE, hB⟩ := h
  obtain ⟨X1, X2, X3, X4, X5, X6, X7, X8, X9⟩ := HX
  obtain ⟨M1, M2, M3, M4, M5, M6, M7, M8, M9⟩ := HM
  obtain ⟨w2, w3, w5, w6, w4, w7, w8, w9, w10, w11, w12, w0, w1⟩ := hW
  obtain ⟨b1, b2, b3, b4, b5, b6⟩ := hB
  have kE : ∀ b, 49 ≤ b → b ≤ 52 → κ b = μ b := fun b p q => kM b (by omega) (by omega)
  have HX2 : zCI κ t c nc n := ⟨(k63 0 (by decide) (by decide) (by decide)).trans X1, X2, X3.cg (kX 13 (by decide) (by decide) (by decide) (by decide) (by decide) (by decide) (by decide) (by decide) (by decide)) (k63 6 (by decide) (by decide) (by decide)), (k63 4 (by decide) (by decide) (by decide)).trans X4, X5, (k63 5 (by decide) (by decide) (by decide)).trans X6, X7, (fun j hj => by rw [kX 7 (by decide) (by decide) (by decide) (by decide) (by decide) (by decide) (by decide) (by decide) (by decide), kX 8 (by decide) (by decide) (by decide) (by decide) (by decide) (by decide) (by decide) (by decide) (by decide)]; exact X8 j hj), by rw [k63 2 (by decide) (by decide) (by decide)]; exact X9⟩
  have HM2 : zMI κ t c nc n := ⟨(k63 11 (by decide) (by decide) (by decide)).trans M1, M2, M3.cg kE (k63 14 (by decide) (by decide) (by decide)), (k63 12 (by decide) (by decide) (by decide)).trans M4, M5, (k63 13 (by decide) (by decide) (by decide)).trans M6, M7, (fun j hj => by rw [kM 43 (by decide) (by decide), kM 44 (by decide) (by decide)]; exact M8 j hj), (fun k hk => by rw [kM 53 (by decide) (by decide)]; exact M9 k hk)⟩
  have hW2 : zW2 κ κ := ⟨(by rw [kX 2 (by decide) (by decide) (by decide) (by decide) (by decide) (by decide) (by decide) (by decide) (by decide), kM 38 (by decide) (by decide)]; exact w2), (by rw [kX 3 (by decide) (by decide) (by decide) (by decide) (by decide) (by decide) (by decide) (by decide) (by decide), kM 39 (by decide) (by decide)]; exact w3), (by rw [kX 5 (by decide) (by decide) (by decide) (by decide) (by decide) (by decide) (by decide) (by decide) (by decide), kM 40 (by decide) (by decide)]; exact w5), (by rw [kX 6 (by decide) (by decide) (by decide) (by decide) (by decide) (by decide) (by decide) (by decide) (by decide), kM 41 (by decide) (by decide)]; exact w6), (by rw [kX 4 (by decide) (by decide) (by decide) (by decide) (by decide) (by decide) (by decide) (by decide) (by decide), kM 42 (by decide) (by decide)]; exact w4), (by rw [kX 7 (by decide) (by decide) (by decide) (by decide) (by decide) (by decide) (by decide) (by decide) (by decide), kM 43 (by decide) (by decide)]; exact w7), (by rw [kX 8 (by decide) (by decide) (by decide) (by decide) (by decide) (by decide) (by decide) (by decide) (by decide), kM 44 (by decide) (by decide)]; exact w8), (by rw [kX 9 (by decide) (by decide) (by decide) (by decide) (by decide) (by decide) (by decide) (by decide) (by decide), kM 45 (by decide) (by decide)]; exact w9), (by rw [kX 10 (by decide) (by decide) (by decide) (by decide) (by decide) (by decide) (by decide) (by decide) (by decide), kM 46 (by decide) (by decide)]; exact w10), (by rw [kX 11 (by decide) (by decide) (by decide) (by decide) (by decide) (by decide) (by decide) (by decide) (by decide), kM 47 (by decide) (by decide)]; exact w11), (by rw [kX 12 (by decide) (by decide) (by decide) (by decide) (by decide) (by decide) (by decide) (by decide) (by decide), kM 53 (by decide) (by decide)]; exact w12), (by rw [kX 0 (by decide) (by decide) (by decide) (by decide) (by decide) (by decide) (by decide) (by decide) (by decide), kM 57 (by decide) (by decide)]; exact w0), (by rw [kX 1 (by decide) (by decide) (by decide) (by decide) (by decide) (by decide) (by decide) (by decide) (by decide), kM 58 (by decide) (by decide)]; exact w1)⟩
  have hS2 : zS2 κ κ := ⟨by rw [k63 1 (by decide) (by decide) (by decide), k63 15 (by decide) (by decide) (by decide)]; exact hS.1, by rw [k63 2 (by decide) (by decide) (by decide), k63 16 (by decide) (by decide) (by decide)]; exact hS.2.1, by rw [ks3, ks17]⟩
  have hr2 : zr2 κ κ := fun k hk d d1 d5 => by rw [kX (22 + k) (by omega) (by omega) (by omega) (by omega) (by omega) (by omega) (by omega) (by omega) (by omega), kM 48 (by decide) (by decide)]; exact hr k hk d d1 d5
  have ho2 : zo2 κ κ := fun k hk q hq => by rw [kX (30 + k) (by omega) (by omega) (by omega) (by omega) (by omega) (by omega) (by omega) (by omega) (by omega), kM 53 (by decide) (by decide), zof_cg (fun b hb => kM b (by omega) (by omega))]; exact ho k hk q hq
  have hE2 : zER κ κ (t + 1) c := hE.cg (kX 13 (by decide) (by decide) (by decide) (by decide) (by decide) (by decide) (by decide) (by decide) (by decide)) (k63 6 (by decide) (by decide) (by decide)) kE (k63 14 (by decide) (by decide) (by decide))
  exact ⟨HX2, HM2, hW2, hS2, hr2, ho2, hE2, (by rw [kX 6 (by decide) (by decide) (by decide) (by decide) (by decide) (by decide) (by decide) (by decide) (by decide)]; exact b1), ⟨(by rw [kX 2 (by decide) (by decide) (by decide) (by decide) (by decide) (by decide) (by decide) (by decide) (by decide)]; exact b2.1), (by rw [kX 5 (by decide) (by decide) (by decide) (by decide) (by decide) (by decide) (by decide) (by decide) (by decide)]; exact b2.2.1), (by rw [kX 9 (by decide) (by decide) (by decide) (by decide) (by decide) (by decide) (by decide) (by decide) (by decide)]; exact b2.2.2.1), (by rw [kX 10 (by decide) (by decide) (by decide) (by decide) (by decide) (by decide) (by decide) (by decide) (by decide)]; exact b2.2.2.2)⟩, (fun k hk d => by rw [kX (22 + k) (by omega) (by omega) (by omega) (by omega) (by omega) (by omega) (by omega) (by omega) (by omega)]; exact b3 k hk d), (by rw [kM 56 (by decide) (by decide)]; exact b4), (by rw [k63 1 (by decide) (by decide) (by decide)]; exact b5), b6⟩
theorem zR2.event {d k o v p : Nat} {f : Nat → Int32} {y : Int32} (h : zR2 μ μ t c nc n A) (hy : y = nI (zcN d k o v)) (hc : c < 40) (hA : A < 512) (hd : t + 1 ≤ d) (hd5 : d ≤ 500) (hk : k < 4) (ho8 : o < 8) (ho6 : k < 2 → o < 6) (hv : v ≤ 5500) (hv2 : k = 2 → 450 ≤ v ∧ v ≤ 550) (hv3 : k = 3 → 497 ≤ v ∧ v ≤ 503) (hins : zins (μ 13) c y p f) (hp : p = 0 ∨ y ≤ μ 13 (p - 1))
    (k13 : κ 13 = upd f p y) (ks6 : κ 63 6 = nI (c + 1)) (ks14 : κ 63 14 = nI (c + 1)) (k49 : κ 49 = upd (μ 49) c (nI d)) (k50 : κ 50 = upd (μ 50) c (nI k)) (k51 : κ 51 = upd (μ 51) c (nI o)) (k52 : κ 52 = upd (μ 52) c (nI v - 500))
    (kX : ∀ b, b < 38 → b ≠ 13 → κ b = μ b) (kM : ∀ b, 38 ≤ b → b ≤ 58 → b ≠ 49 → b ≠ 50 → b ≠ 51 → b ≠ 52 → κ b = μ b)
    (k63 : ∀ j, j ≤ 17 → j ≠ 6 → j ≠ 14 → κ 63 j = μ 63 j) : zR2 κ κ t (c + 1) nc n (A + 1) := by
  obtain ⟨HX, HM, hW, hS, hr, ho, hE, hB⟩ := h
  obtain ⟨X1, X2, X3, X4, X5, X6, X7, X8, X9⟩ := HX
  obtain ⟨M1, M2, M3, M4, M5, M6, M7, M8, M9⟩ := HM
  obtain ⟨w2, w3, w5, w6, w4, w7, w8, w9, w10, w11, w12, w0, w1⟩ := hW
  obtain ⟨b1, b2, b3, b4, b5, b6⟩ := hB
  obtain ⟨i1, i2, i3, i4⟩ := hins
  obtain ⟨E1, E2, E3, E4, E5, E6⟩ := hE
  have hlt : zcN d k o v < 2 ^ 31 := zcN_lt hd5 hk ho8 (by omega)
  have hnew : zevV κ (t + 1) c d k o v := ⟨hd, hd5, hk, ho8, ho6, hv, by rw [k49, upd_s], by rw [k50, upd_s], by rw [k51, upd_s], by rw [k52, upd_s], hv2, hv3⟩
  have hVa : ∀ j, j < c + 1 → ∃ d k o v, zevV κ (t + 1) j d k o v := fun j hj => by
    by_cases e : j = c
    · subst e; exact ⟨d, k, o, v, hnew⟩
    · obtain ⟨d1, k1, o1, v1, V⟩ := E6 j (by omega)
      refine ⟨d1, k1, o1, v1, ?_⟩
      unfold zevV at V ⊢
      rw [k49, k50, k51, k52, upd_n _ _ e, upd_n _ _ e, upd_n _ _ e, upd_n _ _ e]; exact V
  have hEM : ∀ j, j < c + 1 → zevM κ j := fun j hj => by
    obtain ⟨d1, k1, o1, v1, y1, y2, y3, y4, y5, y6, y7, y8, y9, y10⟩ := hVa j hj
    refine ⟨o1, y4, y9, fun z => y5 ?_⟩
    rw [y8] at z
    rcases z with z | z
    · have := (nI_eq (b := 0) (by omega) (by omega)).mp z; omega
    · have := (nI_eq (b := 1) (by omega) (by omega)).mp z; omega
  have zn : zec κ c = y := hnew.code.trans hy.symm
  have zo : ∀ j, j < c → zec κ j = zec μ j := fun j hj => by unfold zec; rw [k49, k50, k51, k52, upd_n _ _ (by omega), upd_n _ _ (by omega), upd_n _ _ (by omega), upd_n _ _ (by omega)]
  have hv13 : ∀ j, j < c + 1 → κ 13 j = if j < p then μ 13 j else if j = p then y else μ 13 (j - 1) := fun j hj => by
    rw [k13]
    by_cases e1 : j < p
    · rw [if_pos e1, upd_n _ _ (by omega)]; exact i2 j e1
    · rw [if_neg e1]
      by_cases e2 : j = p
      · subst e2; rw [if_pos rfl, upd_s]
      · rw [if_neg e2, upd_n _ _ e2]; exact i3 j (by omega) (by omega)
  have hPm : ((List.range (c + 1)).map (κ 13)).Perm ((List.range (c + 1)).map (zec κ)) := by
    have a1 : (List.range (c + 1)).map (κ 13) = (List.range (c + 1)).map (fun j => if j < p then μ 13 j else if j = p then y else μ 13 (j - 1)) := List.map_congr_left (fun j hj => hv13 j (List.mem_range.mp hj))
    have a2 : (List.range (c + 1)).map (zec κ) = (List.range c).map (zec μ) ++ [y] := by
      have a3 : (List.range c).map (zec κ) = (List.range c).map (zec μ) := List.map_congr_left (fun j hj => zo j (List.mem_range.mp hj))
      rw [List.range_succ, List.map_append, List.map_singleton, zn, a3]
    rw [a1, a2]
    exact (zpin (μ 13) y p c i1).trans ((List.perm_append_singleton _ _).symm.trans (E4.append_right _))
  have hSo : ∀ i j, i < j → j < c + 1 → κ 13 j ≤ κ 13 i := fun i j hij hj => by
    rw [hv13 j hj, hv13 i (by omega)]
    have st : ∀ x y, x < p → p ≤ y + 1 → y < c → μ 13 y ≤ μ 13 x := fun x y p1 p2 p3 => by
      by_cases e : x = y
      · rw [e, zle2]; omega
      · exact E5 x y (by omega) p3
    by_cases a1 : j < p
    · rw [if_pos a1, if_pos (by omega)]; exact E5 i j hij (by omega)
    · rw [if_neg a1]
      by_cases a2 : j = p
      · rw [if_pos a2, if_pos (by omega)]
        rcases hp with q | q
        · omega
        · by_cases e : i = p - 1
          · rw [e]; exact q
          · have := E5 i (p - 1) (by omega) (by omega)
            rw [zle2] at this q ⊢; omega
      · rw [if_neg a2]
        by_cases b1 : i < p
        · rw [if_pos b1]; exact st i (j - 1) b1 (by omega) (by omega)
        · rw [if_neg b1]
          by_cases b2 : i = p
          · rw [if_pos b2]
            have := i4 (j - 1) (by omega) (by omega)
            rw [zlt] at this; rw [zle2]; omega
          · rw [if_neg b2]; exact E5 (i - 1) (j - 1) (by omega) (by omega)
  have hAg : ∀ j, j < c + 1 → zevok (κ 13 j) := fun j hj => by
    rw [hv13 j hj]
    by_cases a1 : j < p
    · rw [if_pos a1]; exact X3.2.2 j (by omega)
    · rw [if_neg a1]
      by_cases a2 : j = p
      · rw [if_pos a2, hy]
        refine ⟨o, ho8, zcN_O hd5 hk ho8 (by omega), fun z => ho6 ?_⟩
        rw [zcN_K hd5 hk ho8 (by omega)] at z
        rcases z with z | z
        · have := (nI_eq (b := 0) (by omega) (by omega)).mp z; omega
        · have := (nI_eq (b := 1) (by omega) (by omega)).mp z; omega
      · rw [if_neg a2]; exact X3.2.2 (j - 1) (by omega)
  have HX2 : zCI κ t (c + 1) nc n := ⟨(k63 0 (by decide) (by decide) (by decide)).trans X1, X2, ⟨ks6, hc, fun j hj => hAg j hj⟩, (k63 4 (by decide) (by decide) (by decide)).trans X4, X5, (k63 5 (by decide) (by decide) (by decide)).trans X6, X7, (fun j hj => by rw [kX 7 (by decide) (by decide), kX 8 (by decide) (by decide)]; exact X8 j hj), by rw [k63 2 (by decide) (by decide) (by decide)]; exact X9⟩
  have HM2 : zMI κ t (c + 1) nc n := ⟨(k63 11 (by decide) (by decide) (by decide)).trans M1, M2, ⟨ks14, hc, fun j hj => hEM j hj⟩, (k63 12 (by decide) (by decide) (by decide)).trans M4, M5, (k63 13 (by decide) (by decide) (by decide)).trans M6, M7, (fun j hj => by rw [kM 43 (by decide) (by decide) (by decide) (by decide) (by decide) (by decide), kM 44 (by decide) (by decide) (by decide) (by decide) (by decide) (by decide)]; exact M8 j hj), (fun k hk => by rw [kM 53 (by decide) (by decide) (by decide) (by decide) (by decide) (by decide)]; exact M9 k hk)⟩
  have hW2 : zW2 κ κ := ⟨(by rw [kX 2 (by decide) (by decide), kM 38 (by decide) (by decide) (by decide) (by decide) (by decide) (by decide)]; exact w2), (by rw [kX 3 (by decide) (by decide), kM 39 (by decide) (by decide) (by decide) (by decide) (by decide) (by decide)]; exact w3), (by rw [kX 5 (by decide) (by decide), kM 40 (by decide) (by decide) (by decide) (by decide) (by decide) (by decide)]; exact w5), (by rw [kX 6 (by decide) (by decide), kM 41 (by decide) (by decide) (by decide) (by decide) (by decide) (by decide)]; exact w6), (by rw [kX 4 (by decide) (by decide), kM 42 (by decide) (by decide) (by decide) (by decide) (by decide) (by decide)]; exact w4), (by rw [kX 7 (by decide) (by decide), kM 43 (by decide) (by decide) (by decide) (by decide) (by decide) (by decide)]; exact w7), (by rw [kX 8 (by decide) (by decide), kM 44 (by decide) (by decide) (by decide) (by decide) (by decide) (by decide)]; exact w8), (by rw [kX 9 (by decide) (by decide), kM 45 (by decide) (by decide) (by decide) (by decide) (by decide) (by decide)]; exact w9), (by rw [kX 10 (by decide) (by decide), kM 46 (by decide) (by decide) (by decide) (by decide) (by decide) (by decide)]; exact w10), (by rw [kX 11 (by decide) (by decide), kM 47 (by decide) (by decide) (by decide) (by decide) (by decide) (by decide)]; exact w11), (by rw [kX 12 (by decide) (by decide), kM 53 (by decide) (by decide) (by decide) (by decide) (by decide) (by decide)]; exact w12), (by rw [kX 0 (by decide) (by decide), kM 57 (by decide) (by decide) (by decide) (by decide) (by decide) (by decide)]; exact w0), (by rw [kX 1 (by decide) (by decide), kM 58 (by decide) (by decide) (by decide) (by decide) (by decide) (by decide)]; exact w1)⟩
  have hS2 : zS2 κ κ := by unfold zS2; rw [k63 1 (by decide) (by decide) (by decide), k63 2 (by decide) (by decide) (by decide), k63 3 (by decide) (by decide) (by decide), k63 15 (by decide) (by decide) (by decide), k63 16 (by decide) (by decide) (by decide), k63 17 (by decide) (by decide) (by decide)]; exact hS
  have hr2 : zr2 κ κ := fun k hk d d1 d5 => by rw [kX (22 + k) (by omega) (by omega), kM 48 (by decide) (by decide) (by decide) (by decide) (by decide) (by decide)]; exact hr k hk d d1 d5
  have ho2 : zo2 κ κ := fun k hk q hq => by rw [kX (30 + k) (by omega) (by omega), kM 53 (by decide) (by decide) (by decide) (by decide) (by decide) (by decide), zof_cg (fun b hb => kM b (by omega) (by omega) (by omega) (by omega) (by omega) (by omega))]; exact ho k hk q hq
  have hE2 : zER κ κ (t + 1) (c + 1) := ⟨ks6, ks14, hc, hPm, hSo, hVa⟩
  exact ⟨HX2, HM2, hW2, hS2, hr2, ho2, hE2, (by rw [kX 6 (by decide) (by decide)]; exact b1), ⟨(by rw [kX 2 (by decide) (by decide)]; exact b2.1), (by rw [kX 5 (by decide) (by decide)]; exact b2.2.1), (by rw [kX 9 (by decide) (by decide)]; exact b2.2.2.1), (by rw [kX 10 (by decide) (by decide)]; exact fun i => by obtain ⟨B, z1, z2⟩ := b2.2.2.2 i; exact ⟨B, z1, by omega⟩)⟩, (fun k hk d => by rw [kX (22 + k) (by omega) (by omega)]; exact b3 k hk d), (by rw [kM 56 (by decide) (by decide) (by decide) (by decide) (by decide) (by decide)]; exact b4), (by rw [k63 1 (by decide) (by decide) (by decide)]; exact b5), hA⟩
end
