def zER (μ ν : zM) (T c : Nat) : Prop :=
  μ 63 6 = nI c ∧ ν 63 14 = nI c ∧ c ≤ 40 ∧ ((List.range c).map (μ 13)).Perm ((List.range c).map (zec ν)) ∧ (∀ i j, i < j → j < c → μ 13 j ≤ μ 13 i) ∧ (∀ j, j < c → ∃ d k o v, zevV ν T j d k o v)
def zRv (μ ν : zM) : Prop := μ 2 = ν 38 ∧ μ 5 = ν 40 ∧ μ 9 = ν 45 ∧ μ 10 = ν 46
theorem zpr {α : Type} (f : Nat → α) (y : α) : ∀ c j, j < c → ((List.range c).map f ++ [y]).Perm (f j :: (List.range c).map (fun i => if i = j then y else f i))
  | 0, _, h => absurd h (Nat.not_lt_zero _)
  | c + 1, j, h => by
    rw [List.range_succ, List.map_append, List.map_append, List.map_singleton, List.map_singleton]
    by_cases e : j = c
    · subst e
      have hg : (List.range j).map (fun i => if i = j then y else f i) = (List.range j).map f := List.map_congr_left (fun i hi => if_neg (by have := List.mem_range.mp hi; omega))
      rw [hg, if_pos rfl, List.append_assoc]
      exact List.perm_middle
    · rw [if_neg (fun z => e z.symm)]
      have ih := zpr f y c j (by omega)
      have h1 : ((List.range c).map f ++ [f c] ++ [y]).Perm ((List.range c).map f ++ [y] ++ [f c]) := by
        rw [List.append_assoc, List.append_assoc]
        exact List.Perm.append_left _ (List.Perm.swap _ _ _)
      refine h1.trans ?_
      have h2 := ih.append_right [f c]
      exact h2
theorem zER.step {μ ν : zM} {T c : Nat} (h : zER μ ν T (c + 1)) (hT : ν 63 11 = nI T) (hT5 : T ≤ 500) :
    (znx ν (c + 1) = -1 ∧ ¬ μ 13 c >>> (18 &&& 31) ≤ nI T) ∨ ∃ j, j < c + 1 ∧ znx ν (c + 1) = nI j ∧ μ 13 c >>> (18 &&& 31) ≤ nI T ∧ μ 13 c = zec ν j := by
  obtain ⟨h1, h2, h3, h4, h5, h6⟩ := h
  have hx : μ 13 c ∈ (List.range (c + 1)).map (zec ν) := h4.mem_iff.mp (List.mem_map.mpr ⟨c, List.mem_range.mpr (by omega), rfl⟩)
  obtain ⟨j0, hj0, e0⟩ := List.mem_map.mp hx
  have hj0 := List.mem_range.mp hj0
  have hmin : ∀ j, j < c + 1 → μ 13 c ≤ zec ν j := fun j hj => by
    have hy : zec ν j ∈ (List.range (c + 1)).map (μ 13) := h4.mem_iff.mpr (List.mem_map.mpr ⟨j, List.mem_range.mpr hj, rfl⟩)
    obtain ⟨i, hi, e⟩ := List.mem_map.mp hy
    have hi := List.mem_range.mp hi
    rw [← e]
    rcases Nat.lt_or_ge i c with q | q
    · exact h5 i c q (by omega)
    · rw [show i = c by omega, zle2]; omega
  obtain ⟨d0, k0, o0, v0, V0⟩ := h6 j0 hj0
  have c0 := V0.code
  obtain ⟨a1, a2, a3, a4, a5, a6, a7, a8, a9, a10, -⟩ := V0
  rw [← e0, c0, zcN_d a2 a3 a4 (by omega), nI_leI (by omega) (by omega)]
  rcases znx_c ν (c + 1) h3 with ⟨g1, g2⟩ | ⟨j, hj, g1, g2, g3⟩
  · refine Or.inl ⟨g1, fun hd => g2 j0 hj0 ?_⟩
    rw [a7, hT, show d0 = T by omega]
  · obtain ⟨d, k, o, v, V⟩ := h6 j hj
    have cj := V.code
    obtain ⟨b1, b2, b3, b4, b5, b6, b7, b8, b9, b10, -⟩ := V
    have hd : d = T := by
      have : nI d = nI T := by rw [← b7, ← hT]; exact g2
      exact (nI_eq (by omega) (by omega)).mp this
    have hle := hmin j hj
    rw [← e0, c0, cj, nI_leI (zcN_lt a2 a3 a4 (by omega)) (zcN_lt b2 b3 b4 (by omega))] at hle
    have hd0 : d0 = T := by unfold zcN at hle; omega
    have hng := g3 j0 hj0 (by rw [a7, hT, hd0])
    rw [zah_i, a8, a9, a10, b8, b9, b10, nI_toInt (by omega), nI_toInt (by omega), nI_toInt (by omega), nI_toInt (by omega), zvi a6, zvi b6] at hng
    have hE : zcN d0 k0 o0 v0 = zcN d k o v := by unfold zcN at hle ⊢; omega
    exact Or.inr ⟨j, hj, g1, by omega, by rw [cj, hE]⟩
theorem zevV.K {μ : zM} {T j d k o v : Nat} (h : zevV μ T j d k o v) : zeK (zec μ j) = μ 50 j ∧ zeN (zec μ j) = μ 51 j ∧ zeA (zec μ j) = μ 52 j := by
  have c := h.code
  obtain ⟨a1, a2, a3, a4, a5, a6, a7, a8, a9, a10, -⟩ := h
  rw [c, zcN_K a2 a3 a4 (by omega), zcN_O a2 a3 a4 (by omega), zcN_A a2 a3 a4 (by omega)]
  exact ⟨a8.symm, a9.symm, a10.symm⟩
theorem zcm_a (μ : zM) (j c : Nat) {b : Nat} (h5 : b ≠ 49) (h6 : b ≠ 50) (h7 : b ≠ 51) (h8 : b ≠ 52) (h9 : b ≠ 63) : zcm μ j c b = zcmA μ j b := by
  unfold zcm zcmB
  rw [zu_n _ _ _ h8, zu_n _ _ _ h7, zu_n _ _ _ h6, zu_n _ _ _ h5, zu_n _ _ _ h9]
/-- one event happens in both -/
theorem zRv.one {μ ν : zM} (h : zRv μ ν) {x : Int32} {j c : Nat} (hK : zeK x = ν 50 j) (hN : zeN x = ν 51 j) (hA : zeA x = ν 52 j) : zRv (zhap (zu μ 63 6 (nI c)) x) (zcm ν j c) := by
  obtain ⟨h1, h2, h3, h4⟩ := h
  unfold zRv
  rw [zcm_a ν j c (by decide) (by decide) (by decide) (by decide) (by decide), zcm_a ν j c (by decide) (by decide) (by decide) (by decide) (by decide), zcm_a ν j c (by decide) (by decide) (by decide) (by decide) (by decide), zcm_a ν j c (by decide) (by decide) (by decide) (by decide) (by decide)]
  unfold zhap zcmA
  rw [hK, hN, hA]
  have e : ∀ b, b ≠ 63 → zu μ 63 6 (nI c) b = μ b := fun b hb => zu_n _ _ _ hb
  by_cases c0 : ν 50 j = 0
  · rw [if_pos c0, if_pos c0, e 2 (by decide), h1]
    refine ⟨?_, ?_, ?_, ?_⟩
    · rw [zu_s, zu_s, e 2 (by decide), h1]
    · exact (zu_n _ _ _ (by decide)).trans ((e 5 (by decide)).trans (h2.trans (zu_n _ _ _ (by decide)).symm))
    · exact (zu_n _ _ _ (by decide)).trans ((e 9 (by decide)).trans (h3.trans (zu_n _ _ _ (by decide)).symm))
    · exact (zu_n _ _ _ (by decide)).trans ((e 10 (by decide)).trans (h4.trans (zu_n _ _ _ (by decide)).symm))
  · rw [if_neg c0, if_neg c0]
    by_cases c1 : ν 50 j = 1
    · rw [if_pos c1, if_pos c1]
      refine ⟨?_, ?_, ?_, ?_⟩
      · exact (zu_n _ _ _ (by decide)).trans ((e 2 (by decide)).trans (h1.trans (zu_n _ _ _ (by decide)).symm))
      · rw [zu_s, zu_s, e 5 (by decide), h2]
      · exact (zu_n _ _ _ (by decide)).trans ((e 9 (by decide)).trans (h3.trans (zu_n _ _ _ (by decide)).symm))
      · exact (zu_n _ _ _ (by decide)).trans ((e 10 (by decide)).trans (h4.trans (zu_n _ _ _ (by decide)).symm))
    · rw [if_neg c1, if_neg c1]
      by_cases c2 : ν 50 j = 2
      · rw [if_pos c2, if_pos c2]
        refine ⟨?_, ?_, ?_, ?_⟩
        · exact (zu_n _ _ _ (by decide)).trans ((e 2 (by decide)).trans (h1.trans (zu_n _ _ _ (by decide)).symm))
        · exact (zu_n _ _ _ (by decide)).trans ((e 5 (by decide)).trans (h2.trans (zu_n _ _ _ (by decide)).symm))
        · rw [zu_s, zu_s, e 9 (by decide), h3]
        · exact (zu_n _ _ _ (by decide)).trans ((e 10 (by decide)).trans (h4.trans (zu_n _ _ _ (by decide)).symm))
      · rw [if_neg c2, if_neg c2, e 10 (by decide), h4]
        refine ⟨?_, ?_, ?_, ?_⟩
        · exact (zu_n _ _ _ (by decide)).trans ((e 2 (by decide)).trans (h1.trans (zu_n _ _ _ (by decide)).symm))
        · exact (zu_n _ _ _ (by decide)).trans ((e 5 (by decide)).trans (h2.trans (zu_n _ _ _ (by decide)).symm))
        · exact (zu_n _ _ _ (by decide)).trans ((e 9 (by decide)).trans (h3.trans (zu_n _ _ _ (by decide)).symm))
        · rw [zu_s, zu_s, e 10 (by decide), h4]
theorem zec_cm (ν : zM) (j c i : Nat) : zec (zcm ν j c) i = if i = j then zec ν c else zec ν i := by
  unfold zec
  rw [zcm_49, zcm_50, zcm_51, zcm_52]
  by_cases e : i = j
  · subst e; rw [if_pos rfl, upd_s, upd_s, upd_s, upd_s]
  · rw [if_neg e, upd_n _ _ e, upd_n _ _ e, upd_n _ _ e, upd_n _ _ e]
theorem zER.one {μ ν : zM} {T c j : Nat} (h : zER μ ν T (c + 1)) (hj : j < c + 1) (e : μ 13 c = zec ν j) (x : Int32) : zER (zhap (zu μ 63 6 (nI c)) x) (zcm ν j c) T c := by
  obtain ⟨h1, h2, h3, h4, h5, h6⟩ := h
  have e13 : zhap (zu μ 63 6 (nI c)) x 13 = μ 13 := (zhap_k _ _ (by decide) (by decide) (by decide) (by decide)).trans (zu_n _ _ _ (by decide))
  have e63 : zhap (zu μ 63 6 (nI c)) x 63 = upd (μ 63) 6 (nI c) := (zhap_k _ _ (by decide) (by decide) (by decide) (by decide)).trans (zu_s _ _ _ _)
  refine ⟨by rw [e63, upd_s], by rw [zcm_63, upd_s], by omega, ?_, fun i k a b => by rw [e13]; exact h5 i k a (by omega), fun i hi => ?_⟩
  · rw [e13, show zec (zcm ν j c) = fun i => if i = j then zec ν c else zec ν i from funext (fun i => zec_cm ν j c i)]
    have hl : ((List.range (c + 1)).map (μ 13)).Perm (μ 13 c :: (List.range c).map (μ 13)) := by
      rw [List.range_succ, List.map_append, List.map_singleton]
      exact List.perm_append_singleton _ _
    have hr : ((List.range (c + 1)).map (zec ν)).Perm (zec ν j :: (List.range c).map (fun i => if i = j then zec ν c else zec ν i)) := by
      rw [List.range_succ, List.map_append, List.map_singleton]
      by_cases q : j = c
      · subst q
        have hg : (List.range j).map (fun i => if i = j then zec ν j else zec ν i) = (List.range j).map (zec ν) := List.map_congr_left (fun i hi => if_neg (by have := List.mem_range.mp hi; omega))
        rw [hg]
        exact List.perm_append_singleton _ _
      · exact zpr (zec ν) (zec ν c) c j (by omega)
    have := hl.symm.trans (h4.trans hr)
    rw [e] at this
    exact this.cons_inv
  · unfold zevV
    rw [zcm_49, zcm_50, zcm_51, zcm_52]
    by_cases q : i = j
    · subst q; rw [upd_s, upd_s, upd_s, upd_s]; exact h6 c (by omega)
    · rw [upd_n _ _ q, upd_n _ _ q, upd_n _ _ q, upd_n _ _ q]; exact h6 i (by omega)
theorem zER.all {T : Nat} (hT5 : T ≤ 500) : ∀ (c : Nat) (μ ν : zM), zER μ ν T c → zRv μ ν → ν 63 11 = nI T → zER (zevs (nI T) c μ) (zdr c ν) (T + 1) (zlft c ν) ∧ zRv (zevs (nI T) c μ) (zdr c ν)
  | 0, μ, ν, h, hv, _ => ⟨⟨h.1, h.2.1, h.2.2.1, h.2.2.2.1, h.2.2.2.2.1, fun j hj => absurd hj (Nat.not_lt_zero j)⟩, hv⟩
  | c + 1, μ, ν, h, hv, hT => by
    have h1 := h.1
    have hc := h.2.2.1
    have h0 : 0 < μ 63 6 := by rw [h1]; exact (nI_ltI (a := 0) (by omega) (by omega)).mpr (by omega)
    have ek : (μ 63 6).toNatClampNeg - 1 = c := by rw [h1, nI_clamp (by omega)]; rfl
    rw [zevs, zdr, zlft, ek]
    rcases h.step hT hT5 with ⟨g1, g2⟩ | ⟨j, hj, g1, g2, g3⟩
    · rw [if_neg (fun z => g2 z.2), if_pos g1, if_pos g1]
      refine ⟨⟨h.1, h.2.1, hc, h.2.2.2.1, h.2.2.2.2.1, fun j hj => ?_⟩, hv⟩
      obtain ⟨d, k, o, v, V⟩ := h.2.2.2.2.2 j hj
      rcases znx_c ν (c + 1) hc with ⟨_, z⟩ | ⟨j', hj', z, _⟩
      · have hd : d ≠ T := fun e => z j hj (by rw [V.2.2.2.2.2.2.1, e, hT])
        have := V.1
        exact ⟨d, k, o, v, by omega, V.2⟩
      · rw [g1] at z
        have h9 := congrArg Int32.toInt z
        rw [nI_toInt (by omega), show (-1 : Int32).toInt = -1 from by decide] at h9
        omega
    · have hn1 : ¬ znx ν (c + 1) = -1 := fun z => by
        rw [g1] at z
        have h9 := congrArg Int32.toInt z
        rw [nI_toInt (by omega), show (-1 : Int32).toInt = -1 from by decide] at h9
        omega
      obtain ⟨d, k, o, v, V⟩ := h.2.2.2.2.2 j hj
      obtain ⟨e1, e2, e3⟩ := V.K
      rw [if_pos ⟨h0, g2⟩, if_neg hn1, if_neg hn1, g1, nI_clamp (by omega)]
      exact zER.all hT5 c _ _ (h.one hj g3 (μ 13 c)) (hv.one (by rw [g3]; exact e1) (by rw [g3]; exact e2) (by rw [g3]; exact e3)) (by rw [zcm_63, upd_n _ _ (by decide)]; exact hT)
