/-- the model's rings stay closed just when the class's do -/
theorem zmu_eq {μ m0 κ : zM} {t c nc n q p A : Nat} (hw : zRw μ) (hr : zRr μ) (ho : zRo μ) (HX : zCI μ t c nc n) (HM : zMI μ t c nc n) (h1 : 1 ≤ q) (hq : q ≤ t)
    (hm : ∀ b, 38 ≤ b → b ≤ 58 → m0 b = μ b) (hκ : zRM (zcy m0) q κ (zgaM μ q n)) {j : Nat} {x : z3} (hx : (zgaM μ q n)[j]? = some x) : zmuM (zly n p κ) j 3 = zsum μ q x - 1000 * zoff μ x p := by
  have hxm := List.mem_of_getElem? hx
  obtain ⟨a1, a2, a3, pp⟩ := zgaM_mem.mp hxm
  unfold zPM at pp
  rw [decide_eq_true_eq] at pp
  have hn8 := HM.2.2.2.2.2.2.1
  have hE : ∀ k, k < n → ∃ y z, zEnd μ k y z := fun k hk => by
    obtain ⟨y, z, a1, a2, a3, a4, a5⟩ := HM.2.2.2.2.2.2.2.1 k hk
    have := HM.2.2.2.2.1
    exact ⟨y, z, a4, a5, by omega, by omega, a3⟩
  obtain ⟨_, _, E1⟩ := hE x.1 (by omega)
  obtain ⟨_, _, E2⟩ := hE x.2.1 (by omega)
  obtain ⟨_, _, E3⟩ := hE x.2.2 (by omega)
  have sg := zsign hw.2.2.2.2.2.1 hw.2.2.2.2.2.2.1 E1 E2 E3 (by omega) pp.2
  have c3 : zcy m0 43 = μ 43 := (zcy_k m0 (by decide)).trans (hm 43 (by decide) (by decide))
  have c4 : zcy m0 44 = μ 44 := (zcy_k m0 (by decide)).trans (hm 44 (by decide) (by decide))
  obtain ⟨⟨k0, k1, k2⟩, ⟨g0, g1, g2⟩, k6⟩ := hκ.2.2.2.1 j x hx
  have es : zsumM (zcy m0) q x = zsum μ q x := by
    rw [zsumM_cg (μ := μ) (fun b hb => (zcy_k m0 (by omega)).trans (hm b (by omega) (by omega)))]
    exact zsum_x hw hr ho HM h1 hq hxm
  rw [zneM_cg c3 c4] at k1
  rw [zlaM_cg c3 c4] at k2
  have e0 : zs0 (zcy m0) x = 1 := by unfold zs0 zsgM; exact if_pos rfl
  have e1 : zs1 (zcy m0) x = zs1 μ (x.1, x.2.1, x.2.2) := by unfold zs1; rw [zsgM_cg c3, c4, zneM_cg c3 c4]
  have e2 : zs2 (zcy m0) x = zs2 μ (x.1, x.2.1, x.2.2) := by unfold zs2; rw [zsgM_cg c3, c4, zneM_cg c3 c4, zlaM_cg c3 c4, zoeM_cg c3 c4]
  have r : ∀ b, b ≠ 59 → zly n p κ b = κ b := fun b h => zly_k n p κ h
  have d59 : ∀ i, i < n → zly n p κ 59 i = zDg p i := fun i hi => by rw [zly_59, if_pos hi]; rfl
  rw [zmuM, zmuM, zmuM, zmuM, show 3 * j + 0 = 3 * j from rfl, r 60 (by decide), r 61 (by decide), r 62 (by decide), k0, k1, k2, g0, g1, g2, k6, es, e0, e1, e2, nI_clamp (by omega)]
  unfold zoff
  rcases sg with ⟨s1, s2, s3, s4⟩ | ⟨s1, s2, s3, s4⟩
  · rw [s1, s2, s3, s4, nI_clamp (by omega), nI_clamp (by omega), d59 _ (by omega), d59 _ (by omega), d59 _ (by omega), Int32.mul_one, Int32.mul_assoc, Int32.mul_assoc]
    exact zalg _ _ _ _
  · rw [s1, s2, s3, s4, nI_clamp (by omega), nI_clamp (by omega), d59 _ (by omega), d59 _ (by omega), d59 _ (by omega), Int32.mul_one, Int32.mul_assoc, Int32.mul_assoc, zalg, Int32.add_assoc, Int32.add_comm (zsgn μ x.1 x.2.2 * _), ← Int32.add_assoc]
theorem zDg_b (p i : Nat) : zbn (zDg p i) 1 := by
  have h := zdig_lt p i
  have e : ∀ v, v < 3 → -(1 : Int) ≤ (nI v - 1).toInt ∧ (nI v - 1).toInt ≤ 1 := by decide
  exact e _ h
theorem zslp_eq {μ m0 κ ν : zM} {t c nc n q A : Nat} (hw : zRw μ) (hs : zRs μ) (hr : zRr μ) (ho : zRo μ) (HX : zCI μ t c nc n) (HM : zMI μ t c nc n) (hb : zBn μ t c A) (h1 : 1 ≤ q) (hq : q ≤ t)
    (hm : ∀ b, 38 ≤ b → b ≤ 58 → m0 b = μ b) (hm11 : m0 63 11 = μ 63 11) (hm13 : m0 63 13 = μ 63 13) (hm15 : m0 63 15 = μ 63 15)
    (hν : zRI μ q ν (zgat μ q n n)) (hκ : zRM (zcy m0) q κ (zgaM m0 q n)) :
    zdfs (zgat μ q n n).length n (zu (zu (zu ν 63 8 (μ 63 1)) 63 9 (nI (n + 1))) 63 10 (-1)) 0 0 63 10 = (zslM m0 κ q n (zgaM m0 q n).length (3 ^ n)).1 := by
  have hn8 := HM.2.2.2.2.2.2.1
  have ht5 := HM.2.1
  have hmea : ∀ i d, zmeaM m0 i d ↔ zmeaM μ i d := fun i d => by unfold zmeaM; rw [hm11, hm13, hm 47 (by decide) (by decide)]
  have eg : zgaM m0 q n = zgaM μ q n := zgaM_cg (hm 43 (by decide) (by decide)) (hm 44 (by decide) (by decide)) hmea q n
  rw [eg] at hκ ⊢
  have same := zgat_ga hw HX HM h1 hq
  have d0 := hb.2.2.2.2.2.2.2.1
  -- the class
  obtain ⟨σ0, hσ0⟩ : ∃ σ0, σ0 = zu (zu (zu ν 63 8 (μ 63 1)) 63 9 (nI (n + 1))) 63 10 (-1) := ⟨_, rfl⟩
  rw [← hσ0]
  have r0 : ∀ b, b ≠ 63 → σ0 b = ν b := fun b h => by rw [hσ0, zu_n _ _ _ h, zu_n _ _ _ h, zu_n _ _ _ h]
  have D : zDF μ σ0 q n (zgat μ q n n) (μ 63 1) := by
    refine ⟨fun j x hx => ?_, fun k hk => ?_, fun x hx => ?_, hn8, by rw [hσ0, zu_s, upd_n _ _ (by decide), zu_s, upd_n _ _ (by decide), zu_s, upd_s]⟩
    · rw [r0 14 (by decide), r0 15 (by decide), r0 16 (by decide), r0 17 (by decide), r0 18 (by decide), r0 19 (by decide)]
      exact hν.2.2.2.1 j x hx
    · rw [r0 20 (by decide)]; exact hν.2.2.2.2.1 k hk
    · obtain ⟨a, b, c, d, e⟩ := zgat_mem.mp hx
      exact ⟨c.1, d.1, d.2⟩
  have hxc : ∀ p, zxc n n p = 0 := fun p => by
    unfold zxc
    exact (zcnt_0 n).mpr (fun j hj => decide_eq_false (fun z => by omega))
  obtain ⟨F', X', -, -, x10, -, -, hX⟩ := zdfs_b D n (Nat.le_refl n) 0 0 (n + 1) (-1) σ0 ⟨fun _ _ _ => rfl, fun _ _ _ => rfl⟩ (by rw [hσ0, zu_s, upd_n _ _ (by decide), zu_s, upd_s]) (by rw [hσ0, zu_s, upd_s]) (by omega) (fun p _ _ => ⟨fun i a b => by omega, hxc p, fun x hx e => by
    obtain ⟨a, b⟩ := zgat_mem.mp hx; omega, fun i a b => by omega⟩)
  rw [show (0 : Int32) = nI 0 from rfl, x10]
  rw [Nat.zero_mul, Nat.zero_add, Nat.one_mul] at hX
  -- the model
  have hMb := zslM_b m0 κ q n (zgaM μ q n).length (3 ^ n)
  have hcl : ∀ p, zcnt (zbdM (zly n p κ)) (zgaM μ q n).length = 0 ↔ ∀ x ∈ zgat μ q n n, zclo μ q (μ 63 1) x p := fun p => by
    rw [zcnt_0]
    have one : ∀ j x, (zgaM μ q n)[j]? = some x → (zbdM (zly n p κ) j = false ↔ zclo μ q (μ 63 1) x p) := fun j x hx => by
      have hxm := List.mem_of_getElem? hx
      obtain ⟨a1, a2, a3, -⟩ := zgaM_mem.mp hxm
      unfold zbdM zclo
      rw [zmu_eq (A := A) hw hr ho HX HM h1 hq hm hκ hx, zly_k n p κ (by decide), hκ.2.1 15 (by decide), zcy_k m0 (by decide), hm15, ← hs.1]
      have b1 := zsum_b hb ho HM.2.2.2.2.2.2.2.2 (x := x) (by omega) (by omega) (by omega) (q := q) (by omega)
      have b2 : zbn (zoff μ x p) 3 := (((zDg_b p x.1).add ((zsgn_b μ x.1 x.2.1).mul (zDg_b p x.2.1) (by decide)) (by decide)).add ((zsgn_b μ x.1 x.2.2).mul (zDg_b p x.2.2) (by decide)) (by decide))
      have b3 : zbn (1000 * zoff μ x p) 3000 := (show zbn 1000 1000 by unfold zbn; decide).mul b2 (by decide)
      have hd := zabs_d (b1.sub b3 (by decide)) (by decide) d0.1 d0.2
      rw [decide_eq_false_iff_not, ← hd]
      exact ⟨fun h => znot_lt h, fun h z => by rw [zlt] at z; rw [zle2] at h; omega⟩
    constructor
    · intro h x hx
      obtain ⟨j, hj⟩ := List.getElem?_of_mem ((same x).mpr hx)
      exact (one j x hj).mp (h j (List.getElem?_eq_some_iff.mp hj).1)
    · intro h j hj
      have hx := List.getElem?_eq_getElem hj
      exact (one j _ hx).mpr (h _ ((same _).mp (List.mem_of_getElem? hx)))
  have hring : ∀ i, zin3 (zgat μ q n n) i → zmeaM m0 (nI i) (nI q) := fun i hi => by
    obtain ⟨x, hx, e⟩ := hi
    obtain ⟨-, -, -, pp⟩ := zgaM_mem.mp ((same x).mpr hx)
    unfold zPM at pp
    rw [decide_eq_true_eq] at pp
    rw [hmea]
    rcases e with e | e | e
    · rw [e]; exact pp.1.1
    · rw [e]; exact pp.1.2.1
    · rw [e]; exact pp.1.2.2
  have F1 : ∀ p, zQs μ q n (zgat μ q n n) (μ 63 1) p → zcnt (zbdM (zly n p κ)) (zgaM μ q n).length = 0 ∧ zcsM m0 q p n = zxc n 0 p := fun p h => by
    refine ⟨(hcl p).mpr h.1, zcs_x n (fun j hj hd => ?_)⟩
    by_cases z : zin3 (zgat μ q n n) j
    · exact hring j z
    · exact absurd (h.2 j hj z) hd
  have F2 : ∀ p, zcsM m0 q p n < 9 → zcsM m0 q p n = zxc n 0 p := fun p h => zcs_x n (zcs_9 n h)
  have F3 : ∀ p, zcnt (zbdM (zly n p κ)) (zgaM μ q n).length = 0 → zcsM m0 q p n < 9 → (∀ i, i < n → ¬ zin3 (zgat μ q n n) i → zdig p i = 1) ∨ ∃ p2, p2 < 3 ^ n ∧ zcnt (zbdM (zly n p2 κ)) (zgaM μ q n).length = 0 ∧ zcsM m0 q p2 n < zcsM m0 q p n := fun p hv hc => by
    by_cases hall : ∀ i, i < n → ¬ zin3 (zgat μ q n n) i → zdig p i = 1
    · exact Or.inl hall
    · have hex : ∃ i, i < n ∧ ¬ zin3 (zgat μ q n n) i ∧ ¬ zdig p i = 1 := by
        apply Classical.byContradiction
        intro hno
        exact hall (fun i hi hz => Classical.byContradiction (fun z => hno ⟨i, hi, hz, z⟩))
      obtain ⟨i, hi, hz, hd⟩ := hex
      have hf : ∀ j, (if j = i then 1 else zdig p j) < 3 := fun j => by
        split
        · decide
        · exact zdig_lt p j
      have dg : ∀ j, j < n → zdig (zenc (fun j => if j = i then 1 else zdig p j) n) j = if j = i then 1 else zdig p j := fun j hj => zenc_d hf n j hj
      refine Or.inr ⟨zenc (fun j => if j = i then 1 else zdig p j) n, zenc_lt hf n, ?_, ?_⟩
      · rw [hcl]
        have hv := (hcl p).mp hv
        intro x hx
        have := hv x hx
        obtain ⟨-, -, y1, y2, -⟩ := zgat_mem.mp hx
        have n1 : x.1 ≠ i := fun e => hz ⟨x, hx, Or.inl e.symm⟩
        have n2 : x.2.1 ≠ i := fun e => hz ⟨x, hx, Or.inr (Or.inl e.symm)⟩
        have n3 : x.2.2 ≠ i := fun e => hz ⟨x, hx, Or.inr (Or.inr e.symm)⟩
        unfold zclo zoff zDg at this ⊢
        rw [dg _ (by omega), dg _ (by omega), dg _ (by omega), if_neg n1, if_neg n2, if_neg n3]
        exact this
      · have m9 := zcs_9 n hc
        rw [zcs_x n (p := zenc (fun j => if j = i then 1 else zdig p j) n) (fun j hj hj1 => by
          rw [dg j hj] at hj1
          by_cases e : j = i
          · rw [if_pos e] at hj1; exact absurd rfl hj1
          · rw [if_neg e] at hj1; exact m9 j hj hj1), zcs_x n m9]
        have := zcnt_flip (f := fun j => decide (0 ≤ j ∧ zdig p j ≠ 1)) (g := fun j => decide (0 ≤ j ∧ zdig (zenc (fun j => if j = i then 1 else zdig p j) n) j ≠ 1)) (i := i) (decide_eq_true ⟨Nat.zero_le _, hd⟩) (decide_eq_false (fun z => z.2 (by rw [dg i hi, if_pos rfl]))) n hi (fun j hj e => by simp only [dg j hj, if_neg e])
        omega
  have hle : ∀ p, zxc n 0 p ≤ n := fun p => zxc_le n 0 p
  have full : ∀ p1, p1 < 3 ^ n → zcnt (zbdM (zly n p1 κ)) (zgaM μ q n).length = 0 → zcsM m0 q p1 n < 9 → (∀ p, p < 3 ^ n → zcnt (zbdM (zly n p κ)) (zgaM μ q n).length = 0 → zcsM m0 q p1 n ≤ zcsM m0 q p n) → zQs μ q n (zgat μ q n n) (μ 63 1) p1 := fun p1 y1 y2 y3 y4 => by
    refine ⟨(hcl p1).mp y2, ?_⟩
    rcases F3 p1 y2 y3 with z | ⟨p2, z1, z2, z3⟩
    · exact z
    · have := y4 p2 z1 z2; omega
  rcases hX with ⟨-, hX2, hX3⟩ | ⟨p0, -, u2, u3, u4, -, hX2, u5⟩
  · rcases hMb with ⟨-, e, -⟩ | ⟨p1, -, v2, v3, v4, -, e, v5⟩
    · rw [hX2]; exact e.symm
    · have hq1 := full p1 v2 v3 v4 (fun p a b => (v5 p (Nat.zero_le _) a b).1)
      have := hX3 p1 (Nat.zero_le _) v2 hq1
      have := hle p1
      omega
  · obtain ⟨f1, f2⟩ := F1 p0 u3
    rcases hMb with ⟨-, -, v⟩ | ⟨p1, -, v2, v3, v4, -, e, v5⟩
    · have : 9 ≤ zcsM m0 q p0 n := v p0 (Nat.zero_le _) u2 f1
      have := hle p0
      omega
    · have hq1 := full p1 v2 v3 v4 (fun p a b => (v5 p (Nat.zero_le _) a b).1)
      have w1 := F2 p1 v4
      have x1 : zcsM m0 q p1 n ≤ zcsM m0 q p0 n ∧ (p0 < p1 → zcsM m0 q p1 n < zcsM m0 q p0 n) := v5 p0 (Nat.zero_le _) u2 f1
      have x2 := u5 p1 (Nat.zero_le _) v2 hq1
      have ep : p0 = p1 := by
        rcases Nat.lt_trichotomy p0 p1 with z | z | z
        · have := x1.2 z; omega
        · exact z
        · have := x2.2 z; omega
      rw [hX2, ep]; exact e.symm
