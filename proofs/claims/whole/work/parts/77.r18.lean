theorem zOK.yes {μ μ1 μ2 : zM} {ov ov1 ov2 : Nat → Int64} {t c nc n A : Nat} {r r2 v : Int32} (h : zR2 μ μ t c nc n A) (hA : A < 512) (hsx : zScr μ μ1) (hm : zScM (zu μ1 63 19 0) μ2) (hr : r = 0) (hv : v = r2) (ho : ov1 = vp_updL ov 0 v.toInt64) (ho2 : ov2 = ov1) : zOK A r r2 μ2 ov2 := by
  refine ⟨by rw [hr, hm.2 19 (by decide), zu_s, upd_s], fun _ => by rw [ho2, ho, hv]; rfl, t, c, nc, n, (h.cg (fun b hb => ?_) (fun j hj => ?_) (fun b p q => ?_) (fun j p q => ?_)).more (by omega) (by omega)⟩
  · rw [hm.1 b (by omega) (by omega) (by omega) (by omega) (by omega), zu_n _ _ _ (by omega)]; exact hsx.1 b (by omega) (by omega)
  · rw [hm.2 j (by omega), zu_s, upd_n _ _ (by omega)]; exact hsx.2 j (by omega)
  · rw [hm.1 b (by omega) (by omega) (by omega) (by omega) (by omega), zu_n _ _ _ (by omega)]; exact hsx.1 b (by omega) (by omega)
  · rw [hm.2 j (by omega), zu_s, upd_n _ _ (by omega)]; exact hsx.2 j (by omega)
theorem zScM.rf (μ : zM) : zScM μ μ := ⟨fun _ _ _ _ _ _ => rfl, fun _ _ => rfl⟩
theorem zScr.Ms {μ μ1 : zM} (h : zScr μ μ1) : zMs μ μ1 := ⟨fun b a c => h.1 b (by omega) c, fun j a => h.2 j (by omega)⟩
theorem zan_eq {μ : zM} {t c nc n : Nat} (hw : zRw μ) (hs : zRs μ) (hr : zRr μ) (ho : zRo μ) (HX : zCI μ t c nc n) (HM : zMI μ t c nc n) : ∀ q, q ≤ t → zanM μ n nc q = zanX μ n q
  | 0, _ => rfl
  | q + 1, hq => by
    rw [zanM, zanX, zan_eq hw hs hr ho HX HM q (by omega)]
    unfold zstM zste
    rw [zmean_eq hw hr ho HX HM (by omega) hq, ← hs.2.1]
section
variable {μ μ1 : zM} {ov ov1 : Nat → Int64} {t c9 nc n A : Nat} {r : Int32}
theorem zmMs {μ μ1 : zM} (h : zMs μ μ1) (i d : Int32) : zmeaM μ i d ↔ zmeaM μ1 i d := by
  unfold zmeaM; rw [h.2 11 (by decide), h.2 13 (by decide), h.1 47 (by decide) (by decide)]
theorem zcMs {μ μ1 : zM} (h : zMs μ μ1) (k q : Nat) : zcorM μ1 k q = zcorM μ k q := zcorM_c3 (fun b hb => h.1 b (by omega) (by omega)) k q
theorem s_of {i w : Int32}   (h : zR2 μ μ t c9 nc n A) (hA : A < 512)
    (hL : (((0 ≤ i ∧ i < μ 63 4) ∧ (0 ≤ w ∧ w ≤ 2) ∧ (True)) ∧ r = 0 ∧ ∃ v : Int32, (v = (if w = 0 then μ 6 i.toNatClampNeg else if w = 1 then μ 2 i.toNatClampNeg else μ 5 i.toNatClampNeg) ∧ μ1 = μ) ∧ ov1 = vp_updL ov 0 v.toInt64) ∨ (¬ ((0 ≤ i ∧ i < μ 63 4) ∧ (0 ≤ w ∧ w ≤ 2) ∧ (True)) ∧ r = zgo (0 ≤ i ∧ i < μ 63 4) (0 ≤ w ∧ w ≤ 2) (True) ∧ μ1 = μ ∧ ov1 = ov)) :
    zMs μ μ1 ∧ ∀ (r2 : Int32) (μ2 : zM) (ov2 : Nat → Int64), ((((0 ≤ i ∧ i < μ1 63 12) ∧ (0 ≤ w ∧ w ≤ 2) ∧ (True)) ∧ r2 = (if w = 0 then μ1 41 i.toNatClampNeg else if w = 1 then μ1 38 i.toNatClampNeg else μ1 40 i.toNatClampNeg) ∧ μ2 = zu μ1 63 19 0 ∧ ov2 = ov1) ∨ (¬ ((0 ≤ i ∧ i < μ1 63 12) ∧ (0 ≤ w ∧ w ≤ 2) ∧ (True)) ∧ r2 = 0 ∧ μ2 = zu μ1 63 19 (zgo (0 ≤ i ∧ i < μ1 63 12) (0 ≤ w ∧ w ≤ 2) (True)) ∧ ov2 = ov1)) → zOK A r r2 μ2 ov2 := by
  obtain ⟨HX, HM, hw, hs, hr, ho, hb9⟩ := h.one
  obtain ⟨X1, X2, X3, X4, X5, X6, X7, X8, X9⟩ := id HX
  obtain ⟨M1, M2, M3, M4, M5, M6, M7, M8, M9⟩ := id HM
  obtain ⟨w2, w3, w5, w6, w4, w7, w8, w9, w10, w11, w12, w0, w1⟩ := id hw
  have hms : zMs μ μ1 := by
    rcases hL with ⟨-, -, v, hv, -⟩ | ⟨-, -, e, -⟩
    · rw [hv.2]; exact zMs.rf μ
    · rw [e]; exact zMs.rf μ
  refine ⟨hms, fun r2 μ2 ov2 hM => ?_⟩
  obtain ⟨e, iff⟩ := zgo_cg (P := 0 ≤ i ∧ i < μ 63 4) (Q := 0 ≤ w ∧ w ≤ 2) (S := True) (P' := 0 ≤ i ∧ i < μ1 63 12) (Q' := 0 ≤ w ∧ w ≤ 2) (S' := True) (by rw [X4, hms.2 12 (by decide), M4]) (fun _ => Iff.rfl) (fun _ _ => Iff.rfl)
  rcases hL with ⟨c1, hr0, v, hv, ho1⟩ | ⟨c1, hr0, e1, ho1⟩
  · rcases hM with ⟨c2, hM⟩ | ⟨c2, -⟩
    · obtain ⟨hv1, hv2⟩ := hv
      obtain ⟨m1, m2, m3⟩ := hM
      subst hv2
      subst m2
      exact zOK.yes h hA (zScr.rf μ1) (zScM.rf _) hr0 (by rw [hv1, m1, w6, w2, w5]) ho1 m3
    · exact absurd (iff.mp c1) c2
  · rcases hM with ⟨c2, -⟩ | ⟨-, -, m2, -⟩
    · exact absurd (iff.mpr c2) c1
    · rw [m2, e1]; subst e1; exact zOK.no h hA e c1 hr0
theorem s_measured {i d b : Int32}   (h : zR2 μ μ t c9 nc n A) (hA : A < 512)
    (hL : (((zmea μ i d) ∧ (True) ∧ (True)) ∧ r = 0 ∧ ∃ v : Int32, (v = (if b = 0 then μ (22 + i.toNatClampNeg) d.toNatClampNeg else zcorX μ i.toNatClampNeg d.toNatClampNeg) ∧ μ1 = μ) ∧ ov1 = vp_updL ov 0 v.toInt64) ∨ (¬ ((zmea μ i d) ∧ (True) ∧ (True)) ∧ r = zgo (zmea μ i d) (True) (True) ∧ μ1 = μ ∧ ov1 = ov)) :
    zMs μ μ1 ∧ ∀ (r2 : Int32) (μ2 : zM) (ov2 : Nat → Int64), ((((zmeaM μ1 i d) ∧ (True) ∧ (True)) ∧ r2 = (if b = 0 then μ1 48 (8 * (d.toNatClampNeg - 1) + i.toNatClampNeg) else zcorM μ1 i.toNatClampNeg d.toNatClampNeg) ∧ μ2 = zu μ1 63 19 0 ∧ ov2 = ov1) ∨ (¬ ((zmeaM μ1 i d) ∧ (True) ∧ (True)) ∧ r2 = 0 ∧ μ2 = zu μ1 63 19 (zgo (zmeaM μ1 i d) (True) (True)) ∧ ov2 = ov1)) → zOK A r r2 μ2 ov2 := by
  obtain ⟨HX, HM, hw, hs, hr, ho, hb9⟩ := h.one
  obtain ⟨X1, X2, X3, X4, X5, X6, X7, X8, X9⟩ := id HX
  obtain ⟨M1, M2, M3, M4, M5, M6, M7, M8, M9⟩ := id HM
  obtain ⟨w2, w3, w5, w6, w4, w7, w8, w9, w10, w11, w12, w0, w1⟩ := id hw
  have hms : zMs μ μ1 := by
    rcases hL with ⟨-, -, v, hv, -⟩ | ⟨-, -, e, -⟩
    · rw [hv.2]; exact zMs.rf μ
    · rw [e]; exact zMs.rf μ
  refine ⟨hms, fun r2 μ2 ov2 hM => ?_⟩
  obtain ⟨e, iff⟩ := zgo_cg (P := zmea μ i d) (Q := True) (S := True) (P' := zmeaM μ1 i d) (Q' := True) (S' := True) ((zmea_eq hw X1 M1 X6 M6 i d).symm.trans (zmMs hms i d)) (fun _ => Iff.rfl) (fun _ _ => Iff.rfl)
  rcases hL with ⟨c1, hr0, v, hv, ho1⟩ | ⟨c1, hr0, e1, ho1⟩
  · rcases hM with ⟨c2, hM⟩ | ⟨c2, -⟩
    · obtain ⟨hv1, hv2⟩ := hv
      obtain ⟨m1, m2, m3⟩ := hM
      subst hv2
      subst m2
      obtain ⟨q, h1q, hq, hdq⟩ := znat2 (n := t) c1.1.1.1 (by rw [← X1]; exact c1.1.1.2) (by omega)
      have edq : d.toNatClampNeg = q := by rw [hdq, nI_clamp (by omega)]
      obtain ⟨k, hk, hik⟩ := znat (n := n) c1.1.2.1.1 (by rw [← X6]; exact c1.1.2.1.2) (by omega)
      have eik : i.toNatClampNeg = k := by rw [hik, nI_clamp (by omega)]
      exact zOK.yes h hA (zScr.rf μ1) (zScM.rf _) hr0 (by rw [hv1, m1, eik, edq, zcor_eq hr ho (by omega) h1q (by omega), hr k (by omega) q h1q (by omega)]) ho1 m3
    · exact absurd (iff.mp c1) c2
  · rcases hM with ⟨c2, -⟩ | ⟨-, -, m2, -⟩
    · exact absurd (iff.mpr c2) c1
    · rw [m2, e1]; subst e1; exact zOK.no h hA e c1 hr0
theorem s_mean {d : Int32}   (h : zR2 μ μ t c9 nc n A) (hA : A < 512)
    (hL : ((((1 ≤ d ∧ d ≤ μ 63 0) ∧ ¬ μ 63 4 = 0) ∧ (True) ∧ (True)) ∧ r = 0 ∧ ∃ v : Int32, (v = zmean μ d.toNatClampNeg n ∧ μ1 = μ) ∧ ov1 = vp_updL ov 0 v.toInt64) ∨ (¬ (((1 ≤ d ∧ d ≤ μ 63 0) ∧ ¬ μ 63 4 = 0) ∧ (True) ∧ (True)) ∧ r = zgo ((1 ≤ d ∧ d ≤ μ 63 0) ∧ ¬ μ 63 4 = 0) (True) (True) ∧ μ1 = μ ∧ ov1 = ov)) :
    zMs μ μ1 ∧ ∀ (r2 : Int32) (μ2 : zM) (ov2 : Nat → Int64), (((((1 ≤ d ∧ d ≤ μ1 63 11) ∧ 0 < μ1 63 12) ∧ (True) ∧ (True)) ∧ r2 = zmeanM μ1 d.toNatClampNeg n nc ∧ μ2 = zu μ1 63 19 0 ∧ ov2 = ov1) ∨ (¬ (((1 ≤ d ∧ d ≤ μ1 63 11) ∧ 0 < μ1 63 12) ∧ (True) ∧ (True)) ∧ r2 = 0 ∧ μ2 = zu μ1 63 19 (zgo ((1 ≤ d ∧ d ≤ μ1 63 11) ∧ 0 < μ1 63 12) (True) (True)) ∧ ov2 = ov1)) → zOK A r r2 μ2 ov2 := by
  obtain ⟨HX, HM, hw, hs, hr, ho, hb9⟩ := h.one
  obtain ⟨X1, X2, X3, X4, X5, X6, X7, X8, X9⟩ := id HX
  obtain ⟨M1, M2, M3, M4, M5, M6, M7, M8, M9⟩ := id HM
  obtain ⟨w2, w3, w5, w6, w4, w7, w8, w9, w10, w11, w12, w0, w1⟩ := id hw
  have hms : zMs μ μ1 := by
    rcases hL with ⟨-, -, v, hv, -⟩ | ⟨-, -, e, -⟩
    · rw [hv.2]; exact zMs.rf μ
    · rw [e]; exact zMs.rf μ
  refine ⟨hms, fun r2 μ2 ov2 hM => ?_⟩
  obtain ⟨e, iff⟩ := zgo_cg (P := (1 ≤ d ∧ d ≤ μ 63 0) ∧ ¬ μ 63 4 = 0) (Q := True) (S := True) (P' := (1 ≤ d ∧ d ≤ μ1 63 11) ∧ 0 < μ1 63 12) (Q' := True) (S' := True) (by rw [X1, X4, hms.2 11 (by decide), hms.2 12 (by decide), M1, M4]; exact and_congr Iff.rfl ⟨fun z => (nI_ltI (a := 0) (by omega) (by omega)).mpr (Nat.pos_of_ne_zero (fun e => z (by rw [e]; rfl))), fun z e => by have z1 := (nI_ltI (a := 0) (b := nc) (by omega) (by omega)).mp z; have e1 := (nI_eq (b := 0) (by omega) (by omega)).mp e; omega⟩) (fun _ => Iff.rfl) (fun _ _ => Iff.rfl)
  rcases hL with ⟨c1, hr0, v, hv, ho1⟩ | ⟨c1, hr0, e1, ho1⟩
  · rcases hM with ⟨c2, hM⟩ | ⟨c2, -⟩
    · obtain ⟨hv1, hv2⟩ := hv
      obtain ⟨m1, m2, m3⟩ := hM
      subst hv2
      subst m2
      obtain ⟨q, h1q, hq, hdq⟩ := znat2 (n := t) c1.1.1.1 (by rw [← X1]; exact c1.1.1.2) (by omega)
      have edq : d.toNatClampNeg = q := by rw [hdq, nI_clamp (by omega)]
      exact zOK.yes h hA (zScr.rf μ1) (zScM.rf _) hr0 (by rw [hv1, m1, edq, zmean_eq hw hr ho HX HM h1q hq]) ho1 m3
    · exact absurd (iff.mp c1) c2
  · rcases hM with ⟨c2, -⟩ | ⟨-, -, m2, -⟩
    · exact absurd (iff.mpr c2) c1
    · rw [m2, e1]; subst e1; exact zOK.no h hA e c1 hr0
theorem s_published {d b : Int32}   (h : zR2 μ μ t c9 nc n A) (hA : A < 512)
    (hL : (((1 ≤ d ∧ d ≤ μ 63 0) ∧ (True) ∧ (True)) ∧ r = 0 ∧ ∃ v : Int32, (v = (if b = 0 then μ 0 d.toNatClampNeg else zanX μ n d.toNatClampNeg) ∧ μ1 = μ) ∧ ov1 = vp_updL ov 0 v.toInt64) ∨ (¬ ((1 ≤ d ∧ d ≤ μ 63 0) ∧ (True) ∧ (True)) ∧ r = zgo (1 ≤ d ∧ d ≤ μ 63 0) (True) (True) ∧ μ1 = μ ∧ ov1 = ov)) :
    zMs μ μ1 ∧ ∀ (r2 : Int32) (μ2 : zM) (ov2 : Nat → Int64), ((((1 ≤ d ∧ d ≤ μ1 63 11) ∧ (True) ∧ (True)) ∧ r2 = (if b = 0 then μ1 57 d.toNatClampNeg else zanM μ1 n nc d.toNatClampNeg) ∧ μ2 = zu μ1 63 19 0 ∧ ov2 = ov1) ∨ (¬ ((1 ≤ d ∧ d ≤ μ1 63 11) ∧ (True) ∧ (True)) ∧ r2 = 0 ∧ μ2 = zu μ1 63 19 (zgo (1 ≤ d ∧ d ≤ μ1 63 11) (True) (True)) ∧ ov2 = ov1)) → zOK A r r2 μ2 ov2 := by
  obtain ⟨HX, HM, hw, hs, hr, ho, hb9⟩ := h.one
  obtain ⟨X1, X2, X3, X4, X5, X6, X7, X8, X9⟩ := id HX
  obtain ⟨M1, M2, M3, M4, M5, M6, M7, M8, M9⟩ := id HM
  obtain ⟨w2, w3, w5, w6, w4, w7, w8, w9, w10, w11, w12, w0, w1⟩ := id hw
  have hms : zMs μ μ1 := by
    rcases hL with ⟨-, -, v, hv, -⟩ | ⟨-, -, e, -⟩
    · rw [hv.2]; exact zMs.rf μ
    · rw [e]; exact zMs.rf μ
  refine ⟨hms, fun r2 μ2 ov2 hM => ?_⟩
  obtain ⟨e, iff⟩ := zgo_cg (P := 1 ≤ d ∧ d ≤ μ 63 0) (Q := True) (S := True) (P' := 1 ≤ d ∧ d ≤ μ1 63 11) (Q' := True) (S' := True) (by rw [X1, hms.2 11 (by decide), M1]) (fun _ => Iff.rfl) (fun _ _ => Iff.rfl)
  rcases hL with ⟨c1, hr0, v, hv, ho1⟩ | ⟨c1, hr0, e1, ho1⟩
  · rcases hM with ⟨c2, hM⟩ | ⟨c2, -⟩
    · obtain ⟨hv1, hv2⟩ := hv
      obtain ⟨m1, m2, m3⟩ := hM
      subst hv2
      subst m2
      obtain ⟨q, h1q, hq, hdq⟩ := znat2 (n := t) c1.1.1 (by rw [← X1]; exact c1.1.2) (by omega)
      have edq : d.toNatClampNeg = q := by rw [hdq, nI_clamp (by omega)]
      exact zOK.yes h hA (zScr.rf μ1) (zScM.rf _) hr0 (by rw [hv1, m1, edq, zan_eq hw hs hr ho HX HM q hq, w0]) ho1 m3
    · exact absurd (iff.mp c1) c2
  · rcases hM with ⟨c2, -⟩ | ⟨-, -, m2, -⟩
    · exact absurd (iff.mpr c2) c1
    · rw [m2, e1]; subst e1; exact zOK.no h hA e c1 hr0
theorem s_height {i f g w : Int32}   (h : zR2 μ μ t c9 nc n A) (hA : A < 512)
    (hL : (((zmea μ i f ∧ zmea μ i g) ∧ (f < g ∧ -1000 ≤ w ∧ w ≤ 1000) ∧ (True)) ∧ r = 0 ∧ ∃ v : Int32, (v = (100 * ((zcorX μ i.toNatClampNeg g.toNatClampNeg).toInt64 - (zcorX μ i.toNatClampNeg f.toNatClampNeg).toInt64 - w.toInt64 * (g - f).toInt64) / (g - f).toInt64).toInt32 ∧ μ1 = μ) ∧ ov1 = vp_updL ov 0 v.toInt64) ∨ (¬ ((zmea μ i f ∧ zmea μ i g) ∧ (f < g ∧ -1000 ≤ w ∧ w ≤ 1000) ∧ (True)) ∧ r = zgo (zmea μ i f ∧ zmea μ i g) (f < g ∧ -1000 ≤ w ∧ w ≤ 1000) (True) ∧ μ1 = μ ∧ ov1 = ov)) :
    zMs μ μ1 ∧ ∀ (r2 : Int32) (μ2 : zM) (ov2 : Nat → Int64), ((((zmeaM μ1 i f ∧ zmeaM μ1 i g) ∧ (f < g ∧ -1000 ≤ w ∧ w ≤ 1000) ∧ (True)) ∧ r2 = (100 * (zcorM μ1 i.toNatClampNeg g.toNatClampNeg - zcorM μ1 i.toNatClampNeg f.toNatClampNeg - w * (g - f)).toInt64 / (g - f).toInt64).toInt32 ∧ μ2 = zu μ1 63 19 0 ∧ ov2 = ov1) ∨ (¬ ((zmeaM μ1 i f ∧ zmeaM μ1 i g) ∧ (f < g ∧ -1000 ≤ w ∧ w ≤ 1000) ∧ (True)) ∧ r2 = 0 ∧ μ2 = zu μ1 63 19 (zgo (zmeaM μ1 i f ∧ zmeaM μ1 i g) (f < g ∧ -1000 ≤ w ∧ w ≤ 1000) (True)) ∧ ov2 = ov1)) → zOK A r r2 μ2 ov2 := by
  obtain ⟨HX, HM, hw, hs, hr, ho, hb9⟩ := h.one
  obtain ⟨X1, X2, X3, X4, X5, X6, X7, X8, X9⟩ := id HX
  obtain ⟨M1, M2, M3, M4, M5, M6, M7, M8, M9⟩ := id HM
  obtain ⟨w2, w3, w5, w6, w4, w7, w8, w9, w10, w11, w12, w0, w1⟩ := id hw
  have hms : zMs μ μ1 := by
    rcases hL with ⟨-, -, v, hv, -⟩ | ⟨-, -, e, -⟩
    · rw [hv.2]; exact zMs.rf μ
    · rw [e]; exact zMs.rf μ
  refine ⟨hms, fun r2 μ2 ov2 hM => ?_⟩
  obtain ⟨e, iff⟩ := zgo_cg (P := zmea μ i f ∧ zmea μ i g) (Q := f < g ∧ -1000 ≤ w ∧ w ≤ 1000) (S := True) (P' := zmeaM μ1 i f ∧ zmeaM μ1 i g) (Q' := f < g ∧ -1000 ≤ w ∧ w ≤ 1000) (S' := True) (and_congr ((zmea_eq hw X1 M1 X6 M6 i f).symm.trans (zmMs hms i f)) ((zmea_eq hw X1 M1 X6 M6 i g).symm.trans (zmMs hms i g))) (fun _ => Iff.rfl) (fun _ _ => Iff.rfl)
  rcases hL with ⟨c1, hr0, v, hv, ho1⟩ | ⟨c1, hr0, e1, ho1⟩
  · rcases hM with ⟨c2, hM⟩ | ⟨c2, -⟩
    · obtain ⟨hv1, hv2⟩ := hv
      obtain ⟨m1, m2, m3⟩ := hM
      subst hv2
      subst m2
      obtain ⟨q1, h1q1, hq1, hdq1⟩ := znat2 (n := t) c1.1.1.1.1 (by rw [← X1]; exact c1.1.1.1.2) (by omega)
      have ed1 : f.toNatClampNeg = q1 := by rw [hdq1, nI_clamp (by omega)]
      obtain ⟨q2, h1q2, hq2, hdq2⟩ := znat2 (n := t) c1.1.2.1.1 (by rw [← X1]; exact c1.1.2.1.2) (by omega)
      have ed2 : g.toNatClampNeg = q2 := by rw [hdq2, nI_clamp (by omega)]
      obtain ⟨k, hk, hik⟩ := znat (n := n) c1.1.1.2.1.1 (by rw [← X6]; exact c1.1.1.2.1.2) (by omega)
      have eik : i.toNatClampNeg = k := by rw [hik, nI_clamp (by omega)]
      have hq12 : q1 < q2 := by have z := c1.2.1.1; rw [hdq1, hdq2, nI_ltI (by omega) (by omega)] at z; exact z
      have bd : zbn (g - f) 500 := by rw [hdq1, hdq2, pk_sub (by omega)]; unfold zbn; rw [nI_toInt (by omega)]; omega
      have bw : zbn w 1000 := zbn_r c1.2.1.2.1 c1.2.1.2.2 rfl rfl (by decide) (by decide)
      have x1 := zcorX_b hb9 ho M9 (k := k) (q := q2) (by omega) (by omega)
      have x2 := zcorX_b hb9 ho M9 (k := k) (q := q1) (by omega) (by omega)
      exact zOK.yes h hA (zScr.rf μ1) (zScM.rf _) hr0 (by rw [hv1, m1, eik, ed1, ed2, zcor_eq hr ho (by omega) h1q1 (by omega), zcor_eq hr ho (by omega) h1q2 (by omega), zhei x1 x2 bw bd (by decide)]) ho1 m3
    · exact absurd (iff.mp c1) c2
  · rcases hM with ⟨c2, -⟩ | ⟨-, -, m2, -⟩
    · exact absurd (iff.mpr c2) c1
    · rw [m2, e1]; subst e1; exact zOK.no h hA e c1 hr0
theorem s_open {d : Int32}   (h : zR2 μ μ t c9 nc n A) (hA : A < 512)
    (hL : (((1 ≤ d ∧ d ≤ μ 63 0) ∧ (True) ∧ (True)) ∧ r = 0 ∧ ∃ v : Int32, (v = nI (zopen μ d.toNatClampNeg n) ∧ zScr μ μ1) ∧ ov1 = vp_updL ov 0 v.toInt64) ∨ (¬ ((1 ≤ d ∧ d ≤ μ 63 0) ∧ (True) ∧ (True)) ∧ r = zgo (1 ≤ d ∧ d ≤ μ 63 0) (True) (True) ∧ μ1 = μ ∧ ov1 = ov)) :
    zMs μ μ1 ∧ ∀ (r2 : Int32) (μ2 : zM) (ov2 : Nat → Int64), ((((1 ≤ d ∧ d ≤ μ1 63 11) ∧ (True) ∧ (True)) ∧ r2 = nI (zopM μ1 d.toNatClampNeg n) ∧ zScM (zu μ1 63 19 0) μ2 ∧ ov2 = ov1) ∨ (¬ ((1 ≤ d ∧ d ≤ μ1 63 11) ∧ (True) ∧ (True)) ∧ r2 = 0 ∧ μ2 = zu μ1 63 19 (zgo (1 ≤ d ∧ d ≤ μ1 63 11) (True) (True)) ∧ ov2 = ov1)) → zOK A r r2 μ2 ov2 := by
  obtain ⟨HX, HM, hw, hs, hr, ho, hb9⟩ := h.one
  obtain ⟨X1, X2, X3, X4, X5, X6, X7, X8, X9⟩ := id HX
  obtain ⟨M1, M2, M3, M4, M5, M6, M7, M8, M9⟩ := id HM
  obtain ⟨w2, w3, w5, w6, w4, w7, w8, w9, w10, w11, w12, w0, w1⟩ := id hw
  have hms : zMs μ μ1 := by
    rcases hL with ⟨-, -, v, hv, -⟩ | ⟨-, -, e, -⟩
    · exact hv.2.Ms
    · rw [e]; exact zMs.rf μ
  refine ⟨hms, fun r2 μ2 ov2 hM => ?_⟩
  obtain ⟨e, iff⟩ := zgo_cg (P := 1 ≤ d ∧ d ≤ μ 63 0) (Q := True) (S := True) (P' := 1 ≤ d ∧ d ≤ μ1 63 11) (Q' := True) (S' := True) (by rw [X1, hms.2 11 (by decide), M1]) (fun _ => Iff.rfl) (fun _ _ => Iff.rfl)
  rcases hL with ⟨c1, hr0, v, hv, ho1⟩ | ⟨c1, hr0, e1, ho1⟩
  · rcases hM with ⟨c2, hM⟩ | ⟨c2, -⟩
    · obtain ⟨hv1, hv2⟩ := hv
      obtain ⟨⟨m1, m2⟩, m3⟩ := (show (_ ∧ _) ∧ _ from ⟨⟨hM.1, hM.2.1⟩, hM.2.2⟩)
      obtain ⟨q, h1q, hq, hdq⟩ := znat2 (n := t) c1.1.1 (by rw [← X1]; exact c1.1.2) (by omega)
      have edq : d.toNatClampNeg = q := by rw [hdq, nI_clamp (by omega)]
      exact zOK.yes h hA hv2 m2 hr0 (by rw [hv1, m1, edq, zopM_cg (fun b hb => hms.1 b (by omega) (by omega)) (fun i d => (zmMs hms i d).symm) (hms.2 15 (by decide)), zopn_eq hw hs hr ho HX HM hb9 h1q hq]) ho1 m3
    · exact absurd (iff.mp c1) c2
  · rcases hM with ⟨c2, -⟩ | ⟨-, -, m2, -⟩
    · exact absurd (iff.mpr c2) c1
    · rw [m2, e1]; subst e1; exact zOK.no h hA e c1 hr0
end
