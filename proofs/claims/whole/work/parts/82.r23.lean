theorem zord_x (B : Nat → Int32) {a b c : Nat} (h12 : a ≠ b) (h13 : a ≠ c) (h23 : b ≠ c) : (B (zord a b c).1 ^^^ B (zord a b c).2.1 ^^^ B (zord a b c).2.2 = B a ^^^ B b ^^^ B c) ∧ (zord a b c).2.1 ≠ (zord a b c).2.2 ∧ ∀ P : Nat → Prop, P a → P b → P c → P (zord a b c).1 ∧ P (zord a b c).2.1 ∧ P (zord a b c).2.2 := by
  obtain ⟨x, hx⟩ : ∃ x, x = (zord a b c).1 := ⟨_, rfl⟩
  obtain ⟨y, hy⟩ : ∃ x, x = (zord a b c).2.1 := ⟨_, rfl⟩
  obtain ⟨z, hz⟩ : ∃ x, x = (zord a b c).2.2 := ⟨_, rfl⟩
  rw [← hx, ← hy, ← hz]
  unfold zord at hx hy hz
  simp only [] at hx hy hz
  have k : (x = a ∧ y = b ∧ z = c) ∨ (x = a ∧ y = c ∧ z = b) ∨ (x = b ∧ y = a ∧ z = c) ∨ (x = b ∧ y = c ∧ z = a) ∨ (x = c ∧ y = a ∧ z = b) ∨ (x = c ∧ y = b ∧ z = a) := by
    by_cases p : a < b
    · by_cases q : b < c
      · exact Or.inl ⟨by omega, by omega, by omega⟩
      · by_cases r : a < c
        · exact Or.inr (Or.inl ⟨by omega, by omega, by omega⟩)
        · exact Or.inr (Or.inr (Or.inr (Or.inr (Or.inl ⟨by omega, by omega, by omega⟩))))
    · by_cases q : a < c
      · exact Or.inr (Or.inr (Or.inl ⟨by omega, by omega, by omega⟩))
      · by_cases r : b < c
        · exact Or.inr (Or.inr (Or.inr (Or.inl ⟨by omega, by omega, by omega⟩)))
        · exact Or.inr (Or.inr (Or.inr (Or.inr (Or.inr ⟨by omega, by omega, by omega⟩))))
  clear hx hy hz
  rcases k with ⟨rfl, rfl, rfl⟩ | ⟨rfl, rfl, rfl⟩ | ⟨rfl, rfl, rfl⟩ | ⟨rfl, rfl, rfl⟩ | ⟨rfl, rfl, rfl⟩ | ⟨rfl, rfl, rfl⟩
  · exact ⟨rfl, h23, fun P p q r => ⟨p, q, r⟩⟩
  · exact ⟨by ac_rfl, fun e => h23 e.symm, fun P p q r => ⟨p, r, q⟩⟩
  · exact ⟨by ac_rfl, h13, fun P p q r => ⟨q, p, r⟩⟩
  · exact ⟨by ac_rfl, fun e => h13 e.symm, fun P p q r => ⟨q, r, p⟩⟩
  · exact ⟨by ac_rfl, h12, fun P p q r => ⟨r, p, q⟩⟩
  · exact ⟨by ac_rfl, fun e => h12 e.symm, fun P p q r => ⟨r, q, p⟩⟩
theorem zbn0 : ∀ x, x < 6 → ∀ y, y < 6 → ¬ zbits (nI x) (nI y) = 0 := by decide
theorem zxx (x y : Int32) : x ^^^ x ^^^ y = y ∧ x ^^^ y ^^^ x = y ∧ x ^^^ y ^^^ y = x := by
  refine ⟨by rw [Int32.xor_self, Int32.zero_xor], ?_, by rw [Int32.xor_assoc, Int32.xor_self, Int32.xor_zero]⟩
  rw [Int32.xor_comm x y, Int32.xor_assoc, Int32.xor_self, Int32.xor_zero]
/-- three links are a ring in one class just when they are in the other -/
theorem zcl_iff {μ : zM} {n : Nat} (h7 : μ 7 = μ 43) (h8 : μ 8 = μ 44) (hE : ∀ k, k < n → ∃ y z, zEnd μ k y z) {k1 k2 k3 : Nat} (l1 : k1 < n) (l2 : k2 < n) (l3 : k3 < n) :
    (zbits (μ 7 k1) (μ 8 k1) ^^^ zbits (μ 7 k2) (μ 8 k2) ^^^ zbits (μ 7 k3) (μ 8 k3) = 0) ↔ (k1 ≠ k2 ∧ k1 ≠ k3 ∧ k2 ≠ k3 ∧ zriM μ (zord k1 k2 k3).1 (zord k1 k2 k3).2.1 (zord k1 k2 k3).2.2) := by
  have hB : ∀ k, k < n → ¬ zbits (μ 7 k) (μ 8 k) = 0 := fun k hk => by
    obtain ⟨x, y, E⟩ := hE k hk
    rw [h7, h8, E.1, E.2.1]; exact zbn0 x E.2.2.1 y E.2.2.2.1
  by_cases e1 : k1 = k2
  · subst e1
    rw [(zxx _ _).1]
    exact ⟨fun z => absurd z (hB k3 l3), fun z => absurd rfl z.1⟩
  · by_cases e2 : k1 = k3
    · subst e2
      rw [(zxx _ _).2.1]
      exact ⟨fun z => absurd z (hB k2 l2), fun z => absurd rfl z.2.1⟩
    · by_cases e3 : k2 = k3
      · subst e3
        rw [(zxx _ _).2.2]
        exact ⟨fun z => absurd z (hB k1 l1), fun z => absurd rfl z.2.2.1⟩
      · obtain ⟨x1, x2, x3⟩ := zord_x (fun k => zbits (μ 7 k) (μ 8 k)) e1 e2 e3
        obtain ⟨y1, y2, y3⟩ := x3 (fun k => k < n) l1 l2 l3
        obtain ⟨_, _, E1⟩ := hE _ y1
        obtain ⟨_, _, E2⟩ := hE _ y2
        obtain ⟨_, _, E3⟩ := hE _ y3
        have r := zring_iff h7 h8 E1 E2 E3 x2
        rw [show zbits (μ 7 k1) (μ 8 k1) ^^^ zbits (μ 7 k2) (μ 8 k2) ^^^ zbits (μ 7 k3) (μ 8 k3) = _ from x1.symm]
        exact ⟨fun z => ⟨e1, e2, e3, r.mpr z⟩, fun z => r.mp z.2.2.2⟩
section
variable {μ μ1 : zM} {ov ov1 : Nat → Int64} {t c9 nc n A : Nat} {r : Int32}
theorem s_closes {a b c8 d : Int32}   (h : zR2 μ μ t c9 nc n A) (hA : A < 512)
    (hL : (((zmea μ a d ∧ zmea μ b d ∧ zmea μ c8 d) ∧ ((zbits (μ 7 a.toNatClampNeg) (μ 8 a.toNatClampNeg) ^^^ zbits (μ 7 b.toNatClampNeg) (μ 8 b.toNatClampNeg) ^^^ zbits (μ 7 c8.toNatClampNeg) (μ 8 c8.toNatClampNeg) = 0)) ∧ (True)) ∧ r = 0 ∧ ∃ v : Int32, (v = zsum μ d.toNatClampNeg (zord a.toNatClampNeg b.toNatClampNeg c8.toNatClampNeg) ∧ μ1 = μ) ∧ ov1 = vp_updL ov 0 v.toInt64) ∨ (¬ ((zmea μ a d ∧ zmea μ b d ∧ zmea μ c8 d) ∧ ((zbits (μ 7 a.toNatClampNeg) (μ 8 a.toNatClampNeg) ^^^ zbits (μ 7 b.toNatClampNeg) (μ 8 b.toNatClampNeg) ^^^ zbits (μ 7 c8.toNatClampNeg) (μ 8 c8.toNatClampNeg) = 0)) ∧ (True)) ∧ r = zgo (zmea μ a d ∧ zmea μ b d ∧ zmea μ c8 d) ((zbits (μ 7 a.toNatClampNeg) (μ 8 a.toNatClampNeg) ^^^ zbits (μ 7 b.toNatClampNeg) (μ 8 b.toNatClampNeg) ^^^ zbits (μ 7 c8.toNatClampNeg) (μ 8 c8.toNatClampNeg) = 0)) (True) ∧ μ1 = μ ∧ ov1 = ov)) :
    zMs μ μ1 ∧ ∀ (r2 : Int32) (μ2 : zM) (ov2 : Nat → Int64), ((((zmeaM μ1 a d ∧ zmeaM μ1 b d ∧ zmeaM μ1 c8 d) ∧ ((zmeaM μ1 a d ∧ zmeaM μ1 b d ∧ zmeaM μ1 c8 d) ∧ ¬ a = b ∧ ¬ a = c8 ∧ ¬ b = c8 ∧ zriM μ1 (zord a.toNatClampNeg b.toNatClampNeg c8.toNatClampNeg).1 (zord a.toNatClampNeg b.toNatClampNeg c8.toNatClampNeg).2.1 (zord a.toNatClampNeg b.toNatClampNeg c8.toNatClampNeg).2.2) ∧ (True)) ∧ r2 = zsumM μ1 d.toNatClampNeg (zord a.toNatClampNeg b.toNatClampNeg c8.toNatClampNeg) ∧ zScM (zu μ1 63 19 0) μ2 ∧ ov2 = ov1) ∨ (¬ ((zmeaM μ1 a d ∧ zmeaM μ1 b d ∧ zmeaM μ1 c8 d) ∧ ((zmeaM μ1 a d ∧ zmeaM μ1 b d ∧ zmeaM μ1 c8 d) ∧ ¬ a = b ∧ ¬ a = c8 ∧ ¬ b = c8 ∧ zriM μ1 (zord a.toNatClampNeg b.toNatClampNeg c8.toNatClampNeg).1 (zord a.toNatClampNeg b.toNatClampNeg c8.toNatClampNeg).2.1 (zord a.toNatClampNeg b.toNatClampNeg c8.toNatClampNeg).2.2) ∧ (True)) ∧ r2 = 0 ∧ μ2 = zu μ1 63 19 (zgo (zmeaM μ1 a d ∧ zmeaM μ1 b d ∧ zmeaM μ1 c8 d) ((zmeaM μ1 a d ∧ zmeaM μ1 b d ∧ zmeaM μ1 c8 d) ∧ ¬ a = b ∧ ¬ a = c8 ∧ ¬ b = c8 ∧ zriM μ1 (zord a.toNatClampNeg b.toNatClampNeg c8.toNatClampNeg).1 (zord a.toNatClampNeg b.toNatClampNeg c8.toNatClampNeg).2.1 (zord a.toNatClampNeg b.toNatClampNeg c8.toNatClampNeg).2.2) (True)) ∧ ov2 = ov1)) → zOK A r r2 μ2 ov2 := by
  obtain ⟨HX, HM, hw, hs, hr, ho, hb9⟩ := h.one
  obtain ⟨X1, X2, X3, X4, X5, X6, X7, X8, X9⟩ := id HX
  obtain ⟨M1, M2, M3, M4, M5, M6, M7, M8, M9⟩ := id HM
  obtain ⟨w2, w3, w5, w6, w4, w7, w8, w9, w10, w11, w12, w0, w1⟩ := id hw
  have hms : zMs μ μ1 := by
    rcases hL with ⟨-, -, v, hv, -⟩ | ⟨-, -, e, -⟩
    · rw [hv.2]; exact zMs.rf μ
    · rw [e]; exact zMs.rf μ
  refine ⟨hms, fun r2 μ2 ov2 hM => ?_⟩
  have hE : ∀ k, k < n → ∃ y z, zEnd μ k y z := fun k hk => by
    obtain ⟨y, z, a1, a2, a3, a4, a5⟩ := M8 k hk
    exact ⟨y, z, a4, a5, by omega, by omega, a3⟩
  obtain ⟨e, iff⟩ := zgo_cg (P := zmea μ a d ∧ zmea μ b d ∧ zmea μ c8 d) (Q := (zbits (μ 7 a.toNatClampNeg) (μ 8 a.toNatClampNeg) ^^^ zbits (μ 7 b.toNatClampNeg) (μ 8 b.toNatClampNeg) ^^^ zbits (μ 7 c8.toNatClampNeg) (μ 8 c8.toNatClampNeg) = 0)) (S := True) (P' := zmeaM μ1 a d ∧ zmeaM μ1 b d ∧ zmeaM μ1 c8 d) (Q' := (zmeaM μ1 a d ∧ zmeaM μ1 b d ∧ zmeaM μ1 c8 d) ∧ ¬ a = b ∧ ¬ a = c8 ∧ ¬ b = c8 ∧ zriM μ1 (zord a.toNatClampNeg b.toNatClampNeg c8.toNatClampNeg).1 (zord a.toNatClampNeg b.toNatClampNeg c8.toNatClampNeg).2.1 (zord a.toNatClampNeg b.toNatClampNeg c8.toNatClampNeg).2.2) (S' := True) (and_congr ((zmea_eq hw X1 M1 X6 M6 a d).symm.trans (zmMs hms a d)) (and_congr ((zmea_eq hw X1 M1 X6 M6 b d).symm.trans (zmMs hms b d)) ((zmea_eq hw X1 M1 X6 M6 c8 d).symm.trans (zmMs hms c8 d)))) (fun p => by
    obtain ⟨k1, hk1, ek1⟩ := znat (n := n) p.1.2.1.1 (by rw [← X6]; exact p.1.2.1.2) (by omega)
    have tk1 : a.toNatClampNeg = k1 := by rw [ek1, nI_clamp (by omega)]
    obtain ⟨k2, hk2, ek2⟩ := znat (n := n) p.2.1.2.1.1 (by rw [← X6]; exact p.2.1.2.1.2) (by omega)
    have tk2 : b.toNatClampNeg = k2 := by rw [ek2, nI_clamp (by omega)]
    obtain ⟨k3, hk3, ek3⟩ := znat (n := n) p.2.2.2.1.1 (by rw [← X6]; exact p.2.2.2.1.2) (by omega)
    have tk3 : c8.toNatClampNeg = k3 := by rw [ek3, nI_clamp (by omega)]
    rw [tk1, tk2, tk3, zcl_iff w7 w8 hE hk1 hk2 hk3, zriM_cg (hms.1 43 (by decide) (by decide)) (hms.1 44 (by decide) (by decide))]
    have p2 : zmeaM μ1 a d ∧ zmeaM μ1 b d ∧ zmeaM μ1 c8 d := ⟨((zmea_eq hw X1 M1 X6 M6 a d).symm.trans (zmMs hms a d)).mp p.1, ((zmea_eq hw X1 M1 X6 M6 b d).symm.trans (zmMs hms b d)).mp p.2.1, ((zmea_eq hw X1 M1 X6 M6 c8 d).symm.trans (zmMs hms c8 d)).mp p.2.2⟩
    rw [ek1, ek2, ek3, nI_eq (by omega) (by omega), nI_eq (by omega) (by omega), nI_eq (by omega) (by omega)]
    rw [ek1, ek2, ek3] at p2
    exact ⟨fun z => ⟨p2, z.1, z.2.1, z.2.2.1, z.2.2.2⟩, fun z => ⟨z.2.1, z.2.2.1, z.2.2.2.1, z.2.2.2.2⟩⟩) (fun _ _ => Iff.rfl)
  rcases hL with ⟨c1, hr0, v, hv, ho1⟩ | ⟨c1, hr0, e1, ho1⟩
  · rcases hM with ⟨c2, hM⟩ | ⟨c2, -⟩
    · obtain ⟨hv1, hv2⟩ := hv
      obtain ⟨⟨m1, m2⟩, m3⟩ := (show (_ ∧ _) ∧ _ from ⟨⟨hM.1, hM.2.1⟩, hM.2.2⟩)
      obtain ⟨k1, hk1, ek1⟩ := znat (n := n) c1.1.1.2.1.1 (by rw [← X6]; exact c1.1.1.2.1.2) (by omega)
      have tk1 : a.toNatClampNeg = k1 := by rw [ek1, nI_clamp (by omega)]
      obtain ⟨k2, hk2, ek2⟩ := znat (n := n) c1.1.2.1.2.1.1 (by rw [← X6]; exact c1.1.2.1.2.1.2) (by omega)
      have tk2 : b.toNatClampNeg = k2 := by rw [ek2, nI_clamp (by omega)]
      obtain ⟨k3, hk3, ek3⟩ := znat (n := n) c1.1.2.2.2.1.1 (by rw [← X6]; exact c1.1.2.2.2.1.2) (by omega)
      have tk3 : c8.toNatClampNeg = k3 := by rw [ek3, nI_clamp (by omega)]
      obtain ⟨q, h1q, hq, hdq⟩ := znat2 (n := t) c1.1.1.1.1 (by rw [← X1]; exact c1.1.1.1.2) (by omega)
      have edq : d.toNatClampNeg = q := by rw [hdq, nI_clamp (by omega)]
      have kk := c1.2.1
      rw [tk1, tk2, tk3] at kk hv1 m1
      rw [edq] at hv1 m1
      obtain ⟨n1, n2, n3, hri⟩ := (zcl_iff w7 w8 hE hk1 hk2 hk3).mp kk
      obtain ⟨x1, x2, x3⟩ := zord_x (fun k => zbits (μ 7 k) (μ 8 k)) n1 n2 n3
      obtain ⟨y1, y2, y3⟩ := x3 (fun k => k < n) hk1 hk2 hk3
      obtain ⟨_, _, E1⟩ := hE _ y1
      obtain ⟨_, _, E2⟩ := hE _ y2
      obtain ⟨_, _, E3⟩ := hE _ y3
      have es := zsum_eq w7 w8 E1 E2 E3 x2 hri (zcor_eq hr ho (by omega) h1q (by omega)) (zcor_eq hr ho (by omega) h1q (by omega)) (zcor_eq hr ho (by omega) h1q (by omega))
      subst hv2
      exact zOK.yes h hA (zScr.rf μ1) m2 hr0 (by rw [hv1, m1]; exact es.symm) ho1 m3
    · exact absurd (iff.mp c1) c2
  · rcases hM with ⟨c2, -⟩ | ⟨-, -, m2, -⟩
    · exact absurd (iff.mpr c2) c1
    · rw [m2, e1]; subst e1; exact zOK.no h hA e c1 hr0
end
