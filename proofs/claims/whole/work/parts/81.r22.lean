def zDk (μ σ : zM) : Prop := (∀ b, b ≠ 21 → b ≠ 63 → σ b = μ b) ∧ ∀ j, j ≠ 9 → j ≠ 10 → σ 63 j = μ 63 j
theorem zDk.tr {μ σ τ : zM} (h : zDk μ σ) (g : zDk σ τ) : zDk μ τ := ⟨fun b p q => (g.1 b p q).trans (h.1 b p q), fun j p q => (g.2 j p q).trans (h.2 j p q)⟩
theorem zDk.t (μ : zM) (k : Nat) (x : Int32) : zDk μ (zu μ 21 k x) := ⟨fun b p _ => zu_n _ _ _ p, fun j _ _ => by rw [zu_n _ _ _ (by decide)]⟩
theorem zone_k {F : zM → Int32 → Int32 → zM} (hF : ∀ μ a b, zDk μ (F μ a b)) (c k : Nat) (num sl cyc : Int32) (μ : zM) : zDk μ (zone F c k num sl cyc μ) := by
  unfold zone
  split
  · exact (zDk.t μ k cyc).tr (hF _ _ _)
  · exact zDk.t μ k cyc
theorem zdfs_k (c : Nat) : ∀ (k : Nat) (μ : zM) (a b : Int32), zDk μ (zdfs c k μ a b)
  | 0, μ, a, b => by
    rw [zdfs]
    split
    · exact ⟨fun r p q => by rw [zu_n _ _ _ q, zu_n _ _ _ q], fun j p q => by rw [zu_s, upd_n _ _ q, zu_s, upd_n _ _ p]⟩
    · exact ⟨fun _ _ _ => rfl, fun _ _ _ => rfl⟩
  | k + 1, μ, a, b => by
    rw [zdfs]
    have z := fun cyc μ => zone_k (zdfs_k c k) c k a b cyc μ
    split
    · split
      · exact z 0 μ
      · exact ((z (-1) μ).tr (z 0 _)).tr (z 1 _)
    · exact ⟨fun _ _ _ => rfl, fun _ _ _ => rfl⟩
section
variable {μ μ1 : zM} {ov ov1 : Nat → Int64} {t c9 nc n A : Nat} {r : Int32}
theorem s_slips {d : Int32}   (h : zR2 μ μ t c9 nc n A) (hA : A < 512)
    (hL : (((1 ≤ d ∧ d ≤ μ 63 0) ∧ (True) ∧ (True)) ∧ r = 0 ∧ ∃ v : Int32, ((∃ ν, zRI μ d.toNatClampNeg ν (zgat μ d.toNatClampNeg n n) ∧ v = zdfs (zgat μ d.toNatClampNeg n n).length n (zu (zu (zu ν 63 8 (μ 63 1)) 63 9 (nI (n + 1))) 63 10 (-1)) 0 0 63 10 ∧ μ1 = zdfs (zgat μ d.toNatClampNeg n n).length n (zu (zu (zu ν 63 8 (μ 63 1)) 63 9 (nI (n + 1))) 63 10 (-1)) 0 0)) ∧ ov1 = vp_updL ov 0 v.toInt64) ∨ (¬ ((1 ≤ d ∧ d ≤ μ 63 0) ∧ (True) ∧ (True)) ∧ r = zgo (1 ≤ d ∧ d ≤ μ 63 0) (True) (True) ∧ μ1 = μ ∧ ov1 = ov)) :
    zMs μ μ1 ∧ ∀ (r2 : Int32) (μ2 : zM) (ov2 : Nat → Int64), ((((1 ≤ d ∧ d ≤ μ1 63 11) ∧ (True) ∧ (True)) ∧ (∃ κ, zRM (zcy (zu μ1 63 19 0)) d.toNatClampNeg κ (zgaM (zu μ1 63 19 0) d.toNatClampNeg n) ∧ r2 = (zslM (zu μ1 63 19 0) κ d.toNatClampNeg n (zgaM (zu μ1 63 19 0) d.toNatClampNeg n).length (3 ^ n)).1 ∧ zScM (zu μ1 63 19 0) μ2) ∧ ov2 = ov1) ∨ (¬ ((1 ≤ d ∧ d ≤ μ1 63 11) ∧ (True) ∧ (True)) ∧ r2 = 0 ∧ μ2 = zu μ1 63 19 (zgo (1 ≤ d ∧ d ≤ μ1 63 11) (True) (True)) ∧ ov2 = ov1)) → zOK A r r2 μ2 ov2 := by
  obtain ⟨HX, HM, hw, hs, hr, ho, hb9⟩ := h.one
  obtain ⟨X1, X2, X3, X4, X5, X6, X7, X8, X9⟩ := id HX
  obtain ⟨M1, M2, M3, M4, M5, M6, M7, M8, M9⟩ := id HM
  obtain ⟨w2, w3, w5, w6, w4, w7, w8, w9, w10, w11, w12, w0, w1⟩ := id hw
  have sc : ∀ (ν : zM) (L : List z3) (q k : Nat) (a b : Int32), zRI μ q ν L → zScr μ (zdfs L.length k (zu (zu (zu ν 63 8 (μ 63 1)) 63 9 a) 63 10 b) 0 0) := fun ν L q k a b hz => by
    have g := zdfs_k L.length k (zu (zu (zu ν 63 8 (μ 63 1)) 63 9 a) 63 10 b) 0 0
    exact ⟨fun b' p w => by rw [g.1 b' (by omega) w, zu_n _ _ _ w, zu_n _ _ _ w, zu_n _ _ _ w]; exact hz.1 b' (by omega) w, fun j p => by rw [g.2 j (by omega) (by omega), zu_s, upd_n _ _ (by omega), zu_s, upd_n _ _ (by omega), zu_s, upd_n _ _ (by omega)]; exact hz.2.1 j (by omega)⟩
  have hms : zMs μ μ1 := by
    rcases hL with ⟨-, -, v, hv, -⟩ | ⟨-, -, e, -⟩
    · obtain ⟨ν, hz, -, e⟩ := hv; rw [e]; exact (sc ν _ _ n _ _ hz).Ms
    · rw [e]; exact zMs.rf μ
  refine ⟨hms, fun r2 μ2 ov2 hM => ?_⟩
  obtain ⟨e, iff⟩ := zgo_cg (P := 1 ≤ d ∧ d ≤ μ 63 0) (Q := True) (S := True) (P' := 1 ≤ d ∧ d ≤ μ1 63 11) (Q' := True) (S' := True) (by rw [X1, hms.2 11 (by decide), M1]) (fun _ => Iff.rfl) (fun _ _ => Iff.rfl)
  rcases hL with ⟨c1, hr0, v, hv, ho1⟩ | ⟨c1, hr0, e1, ho1⟩
  · rcases hM with ⟨c2, hM⟩ | ⟨c2, -⟩
    · obtain ⟨ν, hz, hv1, hv2⟩ := hv
      obtain ⟨⟨κ, hκ, m1, m2⟩, m3⟩ := hM
      obtain ⟨q, h1q, hq, hdq⟩ := znat2 (n := t) c1.1.1 (by rw [← X1]; exact c1.1.2) (by omega)
      have edq : d.toNatClampNeg = q := by rw [hdq, nI_clamp (by omega)]
      rw [edq] at hz hv1 hv2 hκ m1
      have hsx : zScr μ μ1 := by rw [hv2]; exact sc ν _ q n _ _ hz
      have e9 := zslp_eq (m0 := zu μ1 63 19 0) hw hs hr ho HX HM hb9 h1q hq (fun b p1 p2 => by rw [zu_n _ _ _ (by omega)]; exact hms.1 b p1 (by omega)) (by rw [zu_s, upd_n _ _ (by decide)]; exact hms.2 11 (by decide)) (by rw [zu_s, upd_n _ _ (by decide)]; exact hms.2 13 (by decide)) (by rw [zu_s, upd_n _ _ (by decide)]; exact hms.2 15 (by decide)) hz hκ
      exact zOK.yes h hA hsx m2 hr0 (by rw [hv1, m1]; exact e9) ho1 m3
    · exact absurd (iff.mp c1) c2
  · rcases hM with ⟨c2, -⟩ | ⟨-, -, m2, -⟩
    · exact absurd (iff.mpr c2) c1
    · rw [m2, e1]; subst e1; exact zOK.no h hA e c1 hr0
end
