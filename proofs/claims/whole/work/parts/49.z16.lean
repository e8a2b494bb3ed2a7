theorem zrem3 {x : Nat} (h : x < 2 ^ 31) : nI x - nI x / 3 * 3 = nI (x % 3) := pk_rem (d := 3) h (by decide) (by decide)
theorem zdiv3 {x : Nat} (h : x < 2 ^ 31) : nI x / 3 = nI (x / 3) := pk_div (d := 3) h (by decide) (by decide)
theorem zdig_lt (p i : Nat) : zdig p i < 3 := Nat.mod_lt _ (by decide)
theorem zdig_1 : ∀ d, d < 3 → (nI d - 1 = 0 ↔ d = 1) := by decide
theorem zcsM_le (μ : zM) (q p : Nat) : ∀ i, zcsM μ q p i ≤ 9 * i
  | 0 => Nat.le_refl _
  | i + 1 => by
    rw [zcsM]
    have := zcsM_le μ q p i
    split
    · omega
    · split <;> omega
theorem zcsM_cg {μ ν : zM} (h : ∀ i d, zmeaM ν i d ↔ zmeaM μ i d) (q p : Nat) : ∀ i, zcsM ν q p i = zcsM μ q p i
  | 0 => rfl
  | i + 1 => by rw [zcsM, zcsM, zcsM_cg h q p i]; simp only [h]
theorem zslM_le (μ ν : zM) (q n L : Nat) : ∀ p, (zslM μ ν q n L p).2 ≤ 9
  | 0 => Nat.le_refl _
  | p + 1 => by
    rw [zslM]
    have := zslM_le μ ν q n L p
    split
    · rename_i h; exact Nat.le_of_lt (Nat.lt_of_lt_of_le h.1 this)
    · exact this
theorem zsumM_cg {μ ν : zM} (h : ∀ b, (b = 43 ∨ b = 44 ∨ b = 48 ∨ b = 53 ∨ b = 54 ∨ b = 55 ∨ b = 56) → ν b = μ b) (q : Nat) (x : z3) : zsumM ν q x = zsumM μ q x := by
  have c3 : ν 43 = μ 43 := h 43 (by decide)
  have c4 : ν 44 = μ 44 := h 44 (by decide)
  unfold zsumM
  rw [zneM_cg c3 c4, zlaM_cg c3 c4, zoeM_cg c3 c4, zsgM_cg c3, zsgM_cg c3, zsgM_cg c3, c3, c4]
  rw [zcorM_c3 (fun b hb => h b (by omega)), zcorM_c3 (fun b hb => h b (by omega)), zcorM_c3 (fun b hb => h b (by omega))]
theorem zgaM_cg {μ ν : zM} (h3 : ν 43 = μ 43) (h4 : ν 44 = μ 44) (hm : ∀ i d, zmeaM ν i d ↔ zmeaM μ i d) (q n : Nat) : zgaM ν q n = zgaM μ q n := by
  have e : zPM ν = zPM μ := by
    funext q a b c
    unfold zPM
    simp only [hm, zriM_cg h3 h4]
  unfold zgaM zmiM ziaM
  rw [e]
theorem zopM_cg {μ ν : zM} (h : ∀ b, (b = 43 ∨ b = 44 ∨ b = 48 ∨ b = 53 ∨ b = 54 ∨ b = 55 ∨ b = 56) → ν b = μ b) (hm : ∀ i d, zmeaM ν i d ↔ zmeaM μ i d) (h15 : ν 63 15 = μ 63 15) (q n : Nat) : zopM ν q n = zopM μ q n := by
  unfold zopM
  rw [zgaM_cg (h 43 (by decide)) (h 44 (by decide)) hm]
  simp only [zsumM_cg h, h15]
theorem zRM.scr {μ ν κ : zM} {q : Nat} {L : List z3} (h : zRM (zcy ν) q κ L) : zScM ν κ :=
  ⟨fun b h9 h0 h1 h2 h3 => (h.1 b h0 h1 h2 h3).trans (zcy_k ν h9), fun j hj => by rw [h.2.1 j hj, zcy_k ν (by decide)]⟩
/-- the openings, once the rings are laid and no slip is laid out -/
theorem zRM.opq {ν κ : zM} {q n : Nat} (h : zRM (zcy ν) q κ (zgaM ν q n)) : zcnt (zbdM κ) (zgaM ν q n).length = zopM ν q n := by
  rw [h.opn (zcy_59 ν)]
  unfold zopM
  simp only [zcy_k ν (b := 63) (by decide), zsumM_cg (ν := zcy ν) (μ := ν) (fun b hb => zcy_k ν (by omega))]
theorem zgaM_56 (μ : zM) (q : Nat) {n : Nat} (hn : n ≤ 8) : (zgaM μ q n).length ≤ 56 := Nat.le_trans (zgaM_len μ q n) (zB3_56 n (by omega))
theorem zord_lt {a b c : Nat} (ha : a < 8) (hb : b < 8) (hc : c < 8) : (zord a b c).1 < 8 ∧ (zord a b c).2.1 < 8 ∧ (zord a b c).2.2 < 8 := by
  unfold zord
  refine ⟨?_, ?_, ?_⟩ <;> simp only [] <;> omega
