/-! ===== the search for slips, as the class does it, on the memory ===== -/
def zabs (x : Int32) : Int32 := if 0 ≤ x then x else 0 - x
def zcnt (f : Nat → Bool) : Nat → Nat
  | 0 => 0
  | n + 1 => zcnt f n + (if f n then 1 else 0)
theorem zcnt_le (f : Nat → Bool) : ∀ n, zcnt f n ≤ n
  | 0 => Nat.le_refl _
  | n + 1 => by rw [zcnt]; have := zcnt_le f n; split <;> omega
def ztoff (μ : zM) (j : Nat) : Int32 := μ 21 (μ 14 j).toNatClampNeg + μ 17 j * μ 21 (μ 15 j).toNatClampNeg + μ 18 j * μ 21 (μ 16 j).toNatClampNeg
abbrev zclA (μ : zM) (c : Nat) (k : Int32) : Prop := ∀ j, j < c → (μ 14 j = k → zabs (μ 19 j - 1000 * ztoff μ j) ≤ μ 63 8)
/-- c rings are laid out, of links that there are -/
def zH (c : Nat) (μ : zM) : Prop := μ 63 7 = nI c ∧ c ≤ 56 ∧ ∀ j, j < c → ∃ a b d, a < 8 ∧ b < 8 ∧ d < 8 ∧ μ 14 j = nI a ∧ μ 15 j = nI b ∧ μ 16 j = nI d
theorem zH.cg {c : Nat} {μ ν : zM} (h : zH c μ) (h7 : ν 63 7 = μ 63 7) (h14 : ν 14 = μ 14) (h15 : ν 15 = μ 15) (h16 : ν 16 = μ 16) : zH c ν := by
  obtain ⟨a1, a2, a3⟩ := h
  exact ⟨h7.trans a1, a2, by rw [h14, h15, h16]; exact a3⟩
theorem zH.t21 {c : Nat} {μ : zM} (h : zH c μ) (k : Nat) (x : Int32) : zH c (zu μ 21 k x) := h.cg (by rw [zu_n _ _ _ (by decide)]) (zu_n _ _ _ (by decide)) (zu_n _ _ _ (by decide)) (zu_n _ _ _ (by decide))
theorem zH.t63 {c : Nat} {μ : zM} (h : zH c μ) {k : Nat} (hk : k ≠ 7) (x : Int32) : zH c (zu μ 63 k x) := h.cg (by rw [zu_s, upd_n _ _ (fun e => hk e.symm)]) (zu_n _ _ _ (by decide)) (zu_n _ _ _ (by decide)) (zu_n _ _ _ (by decide))
theorem zRI.H {μ0 μ : zM} {t : Nat} {L : List z3} (h : zRI μ0 t μ L) (hl : L.length ≤ 56) : zH L.length μ := by
  refine ⟨h.2.2.1, hl, fun j hj => ?_⟩
  have hx := List.getElem?_eq_getElem hj
  obtain ⟨e1, e2, e3, -⟩ := h.2.2.2.1 j _ hx
  obtain ⟨g1, g2, g3⟩ := h.2.2.2.2.2 _ (List.getElem_mem hj)
  exact ⟨_, _, _, g1, g2, g3, e1, e2, e3⟩
/-- one cycle of the link k tried -/
def zone (F : zM → Int32 → Int32 → zM) (c k : Nat) (num sl cyc : Int32) (μ : zM) : zM :=
  if zclA (zu μ 21 k cyc) c (nI k) then F (zu μ 21 k cyc) (num * 3 + 1 + cyc) (sl + zabs cyc) else zu μ 21 k cyc
def zdfs (c : Nat) : Nat → zM → Int32 → Int32 → zM
  | 0, μ, num, sl => if sl < μ 63 9 then zu (zu μ 63 9 sl) 63 10 num else μ
  | k + 1, μ, num, sl => if sl < μ 63 9 then (if μ 20 k = 0 then zone (zdfs c k) c k num sl 0 μ else zone (zdfs c k) c k num sl 1 (zone (zdfs c k) c k num sl 0 (zone (zdfs c k) c k num sl (-1) μ))) else μ
theorem zone_H {F : zM → Int32 → Int32 → zM} {c k : Nat} {num sl cyc : Int32} {μ : zM} (hF : ∀ ν a b, zH c ν → zH c (F ν a b)) (h : zH c μ) : zH c (zone F c k num sl cyc μ) := by
  unfold zone
  split
  · exact hF _ _ _ (h.t21 k cyc)
  · exact h.t21 k cyc
theorem zdfs_H (c : Nat) : ∀ (k : Nat) (μ : zM) (a b : Int32), zH c μ → zH c (zdfs c k μ a b)
  | 0, μ, a, b, h => by
    rw [zdfs]
    split
    · exact (h.t63 (by decide) _).t63 (by decide) _
    · exact h
  | k + 1, μ, a, b, h => by
    rw [zdfs]
    split
    · split
      · exact zone_H (fun ν a b hν => zdfs_H c k ν a b hν) h
      · exact zone_H (fun ν a b hν => zdfs_H c k ν a b hν) (zone_H (fun ν a b hν => zdfs_H c k ν a b hν) (zone_H (fun ν a b hν => zdfs_H c k ν a b hν) h))
    · exact h
