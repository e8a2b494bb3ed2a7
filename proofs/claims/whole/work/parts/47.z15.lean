/-! the model's rings -/
theorem zcorM_c3 {μ ν : zM} (h : ∀ b, (b = 48 ∨ b = 53 ∨ b = 54 ∨ b = 55 ∨ b = 56) → ν b = μ b) (k q : Nat) : zcorM ν k q = zcorM μ k q := by
  have e : ∀ j, zcoM ν k q j = zcoM μ k q j := by
    intro j
    induction j with
    | zero => rw [zcoM, zcoM, h 48 (by decide)]
    | succ j ih => rw [zcoM, zcoM, ih, h 54 (by decide), h 55 (by decide), h 56 (by decide)]
  unfold zcorM
  rw [h 53 (by decide), e]
def zsgM (μ : zM) (k : Nat) (fr : Int32) : Int32 := if μ 43 k = fr then 1 else -1
def zgbM (μ : zM) (r k : Nat) (fr : Int32) (j q : Nat) : zM :=
  zu (zu (zu μ 60 (3 * r + j) (nI k)) 61 (3 * r + j) (zsgM μ k fr)) 62 r ((if j = 0 then 0 else μ 62 r) + zsgM μ k fr * zcorM μ k q)
theorem zgbM_k (μ : zM) (r k : Nat) (fr : Int32) (j q : Nat) {b : Nat} (h0 : b ≠ 60) (h1 : b ≠ 61) (h2 : b ≠ 62) : zgbM μ r k fr j q b = μ b := by
  unfold zgbM; rw [zu_n _ _ _ h2, zu_n _ _ _ h1, zu_n _ _ _ h0]
theorem zgbM_60 (μ : zM) (r k : Nat) (fr : Int32) (j q : Nat) : zgbM μ r k fr j q 60 = upd (μ 60) (3 * r + j) (nI k) := by
  unfold zgbM; rw [zu_n _ _ _ (by decide), zu_n _ _ _ (by decide), zu_s]
theorem zgbM_61 (μ : zM) (r k : Nat) (fr : Int32) (j q : Nat) : zgbM μ r k fr j q 61 = upd (μ 61) (3 * r + j) (zsgM μ k fr) := by
  unfold zgbM; rw [zu_n _ _ _ (by decide), zu_s, zu_n _ _ _ (by decide)]
theorem zgbM_62 (μ : zM) (r k : Nat) (fr : Int32) (j q : Nat) : zgbM μ r k fr j q 62 = upd (μ 62) r ((if j = 0 then 0 else μ 62 r) + zsgM μ k fr * zcorM μ k q) := by
  unfold zgbM; rw [zu_s, zu_n _ _ _ (by decide), zu_n _ _ _ (by decide)]
def zrgM (μ : zM) (r a b c q : Nat) : zM :=
  zu (zgbM (zgbM (zgbM μ r a (μ 43 a) 0 q) r (zneM μ a b c) (μ 44 a) 1 q) r (zlaM μ a b c) (zoeM μ (zneM μ a b c) (μ 44 a)) 2 q) 63 18 (nI (r + 1))
/-- what a ring is out by -/
def zsumM (μ : zM) (q : Nat) (x : z3) : Int32 :=
  0 + zsgM μ x.1 (μ 43 x.1) * zcorM μ x.1 q + zsgM μ (zneM μ x.1 x.2.1 x.2.2) (μ 44 x.1) * zcorM μ (zneM μ x.1 x.2.1 x.2.2) q
    + zsgM μ (zlaM μ x.1 x.2.1 x.2.2) (zoeM μ (zneM μ x.1 x.2.1 x.2.2) (μ 44 x.1)) * zcorM μ (zlaM μ x.1 x.2.1 x.2.2) q
def zs0 (μ : zM) (x : z3) : Int32 := zsgM μ x.1 (μ 43 x.1)
def zs1 (μ : zM) (x : z3) : Int32 := zsgM μ (zneM μ x.1 x.2.1 x.2.2) (μ 44 x.1)
def zs2 (μ : zM) (x : z3) : Int32 := zsgM μ (zlaM μ x.1 x.2.1 x.2.2) (zoeM μ (zneM μ x.1 x.2.1 x.2.2) (μ 44 x.1))
/-- the rings L of the day q stand in μ; all else as in μ0 -/
def zRM (μ0 : zM) (q : Nat) (μ : zM) (L : List z3) : Prop :=
  (∀ b, b ≠ 60 → b ≠ 61 → b ≠ 62 → b ≠ 63 → μ b = μ0 b) ∧ (∀ j, j ≠ 18 → μ 63 j = μ0 63 j) ∧ μ 63 18 = nI L.length ∧
  (∀ j x, L[j]? = some x → (μ 60 (3 * j) = nI x.1 ∧ μ 60 (3 * j + 1) = nI (zneM μ0 x.1 x.2.1 x.2.2) ∧ μ 60 (3 * j + 2) = nI (zlaM μ0 x.1 x.2.1 x.2.2)) ∧
    (μ 61 (3 * j) = zs0 μ0 x ∧ μ 61 (3 * j + 1) = zs1 μ0 x ∧ μ 61 (3 * j + 2) = zs2 μ0 x) ∧ μ 62 j = zsumM μ0 q x) ∧
  ∀ x ∈ L, x.1 < 8 ∧ x.2.1 < 8 ∧ x.2.2 < 8
theorem zoeM_cg {μ ν : zM} (h3 : ν 43 = μ 43) (h4 : ν 44 = μ 44) (k : Nat) (c : Int32) : zoeM ν k c = zoeM μ k c := by unfold zoeM; rw [h3, h4]
theorem zneM_cg {μ ν : zM} (h3 : ν 43 = μ 43) (h4 : ν 44 = μ 44) (a b c : Nat) : zneM ν a b c = zneM μ a b c := by unfold zneM; rw [zoeM_cg h3 h4, h4]
theorem zlaM_cg {μ ν : zM} (h3 : ν 43 = μ 43) (h4 : ν 44 = μ 44) (a b c : Nat) : zlaM ν a b c = zlaM μ a b c := by unfold zlaM; rw [zneM_cg h3 h4]
theorem zriM_cg {μ ν : zM} (h3 : ν 43 = μ 43) (h4 : ν 44 = μ 44) (a b c : Nat) : zriM ν a b c ↔ zriM μ a b c := by unfold zriM; rw [zneM_cg h3 h4, zlaM_cg h3 h4, zoeM_cg h3 h4, zoeM_cg h3 h4, h3, h4]
theorem zsgM_cg {μ ν : zM} (h3 : ν 43 = μ 43) (k : Nat) (c : Int32) : zsgM ν k c = zsgM μ k c := by unfold zsgM; rw [h3]
theorem zneM_lt {μ : zM} {a b c : Nat} (hb : b < 8) (hc : c < 8) : zneM μ a b c < 8 := by unfold zneM; split <;> assumption
theorem zlaM_lt {μ : zM} {a b c : Nat} (hb : b < 8) (hc : c < 8) : zlaM μ a b c < 8 := by unfold zlaM; split <;> assumption
theorem zrgM_k (μ : zM) (r a b c q : Nat) {i : Nat} (h0 : i ≠ 60) (h1 : i ≠ 61) (h2 : i ≠ 62) (h3 : i ≠ 63) : zrgM μ r a b c q i = μ i := by
  unfold zrgM; rw [zu_n _ _ _ h3, zgbM_k _ _ _ _ _ _ h0 h1 h2, zgbM_k _ _ _ _ _ _ h0 h1 h2, zgbM_k _ _ _ _ _ _ h0 h1 h2]
theorem zrgM_63 (μ : zM) (r a b c q : Nat) : zrgM μ r a b c q 63 = upd (μ 63) 18 (nI (r + 1)) := by
  unfold zrgM; rw [zu_s, zgbM_k _ _ _ _ _ _ (by decide) (by decide) (by decide), zgbM_k _ _ _ _ _ _ (by decide) (by decide) (by decide), zgbM_k _ _ _ _ _ _ (by decide) (by decide) (by decide)]
theorem zrgM_60 (μ : zM) (r a b c q : Nat) : zrgM μ r a b c q 60 = upd (upd (upd (μ 60) (3 * r + 0) (nI a)) (3 * r + 1) (nI (zneM μ a b c))) (3 * r + 2) (nI (zlaM μ a b c)) := by
  unfold zrgM; rw [zu_n _ _ _ (by decide), zgbM_60, zgbM_60, zgbM_60]
theorem zgcM (μ : zM) (r k : Nat) (fr : Int32) (j q k2 q2 : Nat) : zcorM (zgbM μ r k fr j q) k2 q2 = zcorM μ k2 q2 :=
  zcorM_c3 (fun b hb => zgbM_k _ _ _ _ _ _ (by omega) (by omega) (by omega)) _ _
theorem zgsM (μ : zM) (r k : Nat) (fr : Int32) (j q k2 : Nat) (f2 : Int32) : zsgM (zgbM μ r k fr j q) k2 f2 = zsgM μ k2 f2 :=
  zsgM_cg (zgbM_k _ _ _ _ _ _ (by decide) (by decide) (by decide)) _ _
theorem zrgM_61 (μ : zM) (r a b c q : Nat) : zrgM μ r a b c q 61 = upd (upd (upd (μ 61) (3 * r + 0) (zs0 μ (a, b, c))) (3 * r + 1) (zs1 μ (a, b, c))) (3 * r + 2) (zs2 μ (a, b, c)) := by
  unfold zrgM; rw [zu_n _ _ _ (by decide), zgbM_61, zgbM_61, zgbM_61, zgsM, zgsM, zgsM]; rfl
theorem zupd2 (f : Nat → Int32) (r : Nat) (x y : Int32) : upd (upd f r x) r y = upd f r y := by
  funext j
  by_cases h : j = r
  · subst h; rw [upd_s, upd_s]
  · rw [upd_n _ _ h, upd_n _ _ h, upd_n _ _ h]
theorem zrgM_62 (μ : zM) (r a b c q : Nat) : zrgM μ r a b c q 62 = upd (μ 62) r (zsumM μ q (a, b, c)) := by
  unfold zrgM; rw [zu_n _ _ _ (by decide), zgbM_62, zgbM_62, zgbM_62, zgsM, zgsM, zgsM, zgcM, zgcM, zgcM, upd_s, upd_s, zupd2, zupd2]; rfl
theorem zRM.add {μ0 μ : zM} {q : Nat} {L : List z3} (h : zRM μ0 q μ L) {a b c : Nat} (ha : a < 8) (hb : b < 8) (hc : c < 8) : zRM μ0 q (zrgM μ L.length a b c q) (L ++ [(a, b, c)]) := by
  obtain ⟨h1, h2, h3, h4, h5⟩ := h
  have c3 : μ 43 = μ0 43 := h1 43 (by decide) (by decide) (by decide) (by decide)
  have c4 : μ 44 = μ0 44 := h1 44 (by decide) (by decide) (by decide) (by decide)
  have es : zsumM μ q (a, b, c) = zsumM μ0 q (a, b, c) := by
    unfold zsumM
    rw [zneM_cg c3 c4, zlaM_cg c3 c4, zoeM_cg c3 c4, zsgM_cg c3, zsgM_cg c3, zsgM_cg c3, c3, c4]
    rw [zcorM_c3 (fun b hb => h1 b (by omega) (by omega) (by omega) (by omega)), zcorM_c3 (fun b hb => h1 b (by omega) (by omega) (by omega) (by omega)), zcorM_c3 (fun b hb => h1 b (by omega) (by omega) (by omega) (by omega))]
  have e0 : zs0 μ (a, b, c) = zs0 μ0 (a, b, c) := by unfold zs0; rw [zsgM_cg c3, c3]
  have e1 : zs1 μ (a, b, c) = zs1 μ0 (a, b, c) := by unfold zs1; rw [zsgM_cg c3, c4, zneM_cg c3 c4]
  have e2 : zs2 μ (a, b, c) = zs2 μ0 (a, b, c) := by unfold zs2; rw [zsgM_cg c3, c4, zneM_cg c3 c4, zlaM_cg c3 c4, zoeM_cg c3 c4]
  refine ⟨fun i i0 i1 i2 i3 => (zrgM_k _ _ _ _ _ _ i0 i1 i2 i3).trans (h1 i i0 i1 i2 i3), fun j hj => by rw [zrgM_63, upd_n _ _ hj]; exact h2 j hj, by rw [zrgM_63, upd_s, List.length_append]; rfl, fun j x hx => ?_, fun x hx => ?_⟩
  · rw [zrgM_60, zrgM_61, zrgM_62, es, e0, e1, e2, zneM_cg c3 c4, zlaM_cg c3 c4]
    by_cases hl : j < L.length
    · rw [List.getElem?_append_left hl] at hx
      repeat rw [upd_n _ _ (by omega)]
      exact h4 j x hx
    · rw [List.getElem?_append_right (by omega)] at hx
      have hj : j - L.length < 1 := (List.getElem?_eq_some_iff.mp hx).1
      have hj2 : j = L.length := by omega
      subst hj2
      rw [Nat.sub_self] at hx
      cases hx
      refine ⟨⟨?_, ?_, ?_⟩, ⟨?_, ?_, ?_⟩, ?_⟩
      · rw [upd_n _ _ (by omega), upd_n _ _ (by omega)]; exact upd_s _ _ _
      · rw [upd_n _ _ (by omega)]; exact upd_s _ _ _
      · exact upd_s _ _ _
      · rw [upd_n _ _ (by omega), upd_n _ _ (by omega)]; exact upd_s _ _ _
      · rw [upd_n _ _ (by omega)]; exact upd_s _ _ _
      · exact upd_s _ _ _
      · exact upd_s _ _ _
  · rcases List.mem_append.mp hx with p | p
    · exact h5 x p
    · rw [List.mem_singleton.mp p]
      exact ⟨ha, hb, hc⟩
def zPM (μ : zM) (q a b c : Nat) : Bool := decide ((zmeaM μ (nI a) (nI q) ∧ zmeaM μ (nI b) (nI q) ∧ zmeaM μ (nI c) (nI q)) ∧ zriM μ a b c)
def ziaM (μ : zM) (q c b k : Nat) : List z3 := ((List.range k).filter (fun a => zPM μ q a b c)).map (fun a => (a, b, c))
def zmiM (μ : zM) (q c k : Nat) : List z3 := (List.range k).flatMap (fun b => ziaM μ q c b b)
def zgaM (μ : zM) (q k : Nat) : List z3 := (List.range k).flatMap (fun c => zmiM μ q c c)
theorem ziaM_s (μ : zM) (q c b k : Nat) : ziaM μ q c b (k + 1) = ziaM μ q c b k ++ (if zPM μ q k b c then [(k, b, c)] else []) := by
  unfold ziaM
  rw [List.range_succ, List.filter_append, List.map_append]
  congr 1
  by_cases h : zPM μ q k b c = true
  · rw [if_pos h, List.filter_cons_of_pos (p := fun a => zPM μ q a b c) h]; rfl
  · rw [if_neg h, List.filter_cons_of_neg (p := fun a => zPM μ q a b c) h]; rfl
theorem zmiM_s (μ : zM) (q c k : Nat) : zmiM μ q c (k + 1) = zmiM μ q c k ++ ziaM μ q c k k := by
  unfold zmiM; rw [List.range_succ, List.flatMap_append]; simp
theorem zgaM_s (μ : zM) (q k : Nat) : zgaM μ q (k + 1) = zgaM μ q k ++ zmiM μ q k k := by
  unfold zgaM; rw [List.range_succ, List.flatMap_append]; simp
theorem ziaM_len (μ : zM) (q c b k : Nat) : (ziaM μ q c b k).length ≤ k := by
  unfold ziaM
  rw [List.length_map]
  exact Nat.le_trans (List.length_filter_le _ _) (by rw [List.length_range]; exact Nat.le_refl _)
def zB2 : Nat → Nat
  | 0 => 0
  | k + 1 => zB2 k + k
def zB3 : Nat → Nat
  | 0 => 0
  | k + 1 => zB3 k + zB2 k
theorem zmiM_len (μ : zM) (q c : Nat) : ∀ k, (zmiM μ q c k).length ≤ zB2 k
  | 0 => Nat.le_refl _
  | k + 1 => by rw [zmiM_s, List.length_append, zB2]; have := zmiM_len μ q c k; have := ziaM_len μ q c k k; omega
theorem zgaM_len (μ : zM) (q : Nat) : ∀ k, (zgaM μ q k).length ≤ zB3 k
  | 0 => Nat.le_refl _
  | k + 1 => by rw [zgaM_s, List.length_append, zB3]; have := zgaM_len μ q k; have := zmiM_len μ q k k; omega
theorem zB_ltM : ∀ c, c < 8 → ∀ b, b < 8 → ∀ a, a < 8 → b < c → a < b → zB3 c + zB2 b + a < 56 := by decide
theorem zB3_56 : ∀ c, c < 9 → zB3 c ≤ 56 := by decide
theorem zgaM_2 (μ : zM) (q : Nat) : zgaM μ q 2 = [] := by simp [zgaM, zmiM, ziaM, List.range_succ]
theorem zgaM_01 (μ : zM) (q : Nat) {n : Nat} (h : n ≤ 2) : zgaM μ q n = [] := by
  rcases Nat.lt_or_ge n 1 with h1 | h1
  · rw [show n = 0 by omega]; rfl
  · rcases Nat.lt_or_ge n 2 with h2 | h2
    · rw [show n = 1 by omega]; simp [zgaM, zmiM, List.range_succ]
    · rw [show n = 2 by omega]; exact zgaM_2 μ q
theorem zmiM_1 (μ : zM) (q c : Nat) : zmiM μ q c 1 = [] := by simp [zmiM, ziaM, List.range_succ]
/-- no slip is laid out -/
def zcy (μ : zM) : zM := zitr (fun k ν => zu ν 59 k 0) 8 μ
theorem zcy_k (μ : zM) {b : Nat} (h : b ≠ 59) : zcy μ b = μ b := zitr_k (fun i μ => zu_n _ _ _ h)
theorem zcy_59 (μ : zM) : ∀ k, k < 8 → zcy μ 59 k = 0 := by
  have h : ∀ n k, k < n → zitr (fun k ν => zu ν 59 k 0) n μ 59 k = 0 := by
    intro n
    induction n with
    | zero => intro k hk; omega
    | succ n ih =>
      intro k hk
      rw [zitr_s, zu_s]
      by_cases e : k = n
      · subst e; exact upd_s _ _ _
      · rw [upd_n _ _ e]; exact ih k (by omega)
  exact h 8
/-- how much a ring stays out by -/
def zmuM (μ : zM) (j : Nat) : Nat → Int32
  | 0 => μ 62 j
  | i + 1 => zmuM μ j i - 1000 * μ 61 (3 * j + i) * μ 59 (μ 60 (3 * j + i)).toNatClampNeg
def zbdM (μ : zM) (j : Nat) : Bool := decide (μ 63 15 < zmuM μ j 3 ∨ zmuM μ j 3 < -μ 63 15)
def zopM (μ : zM) (q n : Nat) : Nat := (zgaM μ q n).countP (fun x => decide (μ 63 15 < zsumM μ q x ∨ zsumM μ q x < -μ 63 15))
theorem zRM.opn {μ0 μ : zM} {q : Nat} {L : List z3} (h : zRM μ0 q μ L) (h0 : ∀ k, k < 8 → μ0 59 k = 0) : zcnt (zbdM μ) L.length = L.countP (fun x => decide (μ0 63 15 < zsumM μ0 q x ∨ zsumM μ0 q x < -μ0 63 15)) :=
  zcnt_L _ L _ (fun j x hx => by
    obtain ⟨h1, h2, h3, h4, h5⟩ := h
    obtain ⟨⟨a0, a1, a2⟩, -, a6⟩ := h4 j x hx
    obtain ⟨b0, b1, b2⟩ := h5 x (List.mem_of_getElem? hx)
    have z : ∀ k, k < 8 → μ 59 k = 0 := fun k hk => by rw [h1 59 (by decide) (by decide) (by decide) (by decide)]; exact h0 k hk
    have e : zmuM μ j 3 = zsumM μ0 q x := by
      rw [zmuM, zmuM, zmuM, zmuM, show 3 * j + 0 = 3 * j from rfl, a0, a1, a2, nI_clamp (by omega), nI_clamp (by have := zneM_lt (μ := μ0) (a := x.1) b1 b2; omega), nI_clamp (by have := zlaM_lt (μ := μ0) (a := x.1) b1 b2; omega), z _ b0, z _ (zneM_lt b1 b2), z _ (zlaM_lt b1 b2), Int32.mul_zero, Int32.mul_zero, Int32.mul_zero, Int32.sub_zero, Int32.sub_zero, Int32.sub_zero]
      exact a6
    unfold zbdM
    rw [e, h2 15 (by decide)])
theorem zRM.ids {μ0 μ : zM} {q : Nat} {L : List z3} (h : zRM μ0 q μ L) : ∀ j, j < 3 * L.length → ∃ k, k < 8 ∧ μ 60 j = nI k := by
  intro j hj
  obtain ⟨h1, h2, h3, h4, h5⟩ := h
  obtain ⟨i, hi⟩ : ∃ i, i = j / 3 := ⟨_, rfl⟩
  have hl : i < L.length := by omega
  have hx : L[i]? = some L[i] := List.getElem?_eq_getElem hl
  obtain ⟨⟨a0, a1, a2⟩, -, -⟩ := h4 _ _ hx
  obtain ⟨b0, b1, b2⟩ := h5 _ (List.mem_of_getElem? hx)
  rcases (show j = 3 * i ∨ j = 3 * i + 1 ∨ j = 3 * i + 2 by omega) with e | e | e
  · exact ⟨_, b0, by rw [e]; exact a0⟩
  · exact ⟨_, zneM_lt b1 b2, by rw [e]; exact a1⟩
  · exact ⟨_, zlaM_lt b1 b2, by rw [e]; exact a2⟩
/-- slips laid out -/
def zdig (p i : Nat) : Nat := p / 3 ^ i % 3
def zly (n p : Nat) (μ : zM) : zM := zitr (fun i ν => zu ν 59 i (nI (zdig p i) - 1)) n μ
def zcsM (μ : zM) (q p : Nat) : Nat → Nat
  | 0 => 0
  | i + 1 => zcsM μ q p i + (if zdig p i = 1 then 0 else if zmeaM μ (nI i) (nI q) then 1 else 9)
theorem zly_k (n p : Nat) (μ : zM) {b : Nat} (h : b ≠ 59) : zly n p μ b = μ b := zitr_k (fun i μ => zu_n _ _ _ h)
theorem zly_59 (p : Nat) (μ : zM) : ∀ n k, zly n p μ 59 k = if k < n then nI (zdig p k) - 1 else μ 59 k
  | 0, k => rfl
  | n + 1, k => by
    unfold zly
    rw [zitr_s, zu_s]
    by_cases e : k = n
    · subst e; rw [upd_s, if_pos (by omega)]
    · rw [upd_n _ _ e]
      have h := zly_59 p μ n k
      unfold zly at h
      rw [h]
      by_cases e2 : k < n
      · rw [if_pos e2, if_pos (by omega)]
      · rw [if_neg e2, if_neg (by omega)]
theorem zly_ly (n p p2 : Nat) (μ : zM) : zly n p (zly n p2 μ) = zly n p μ := by
  funext b
  by_cases h : b = 59
  · subst h
    funext k
    rw [zly_59, zly_59, zly_59]
    split <;> rfl
  · rw [zly_k _ _ _ h, zly_k _ _ _ h, zly_k _ _ _ h]
/-- the slips found among the first p: the number and how many there are -/
def zslM (μ ν : zM) (q n L : Nat) : Nat → Int32 × Nat
  | 0 => (-1, 9)
  | p + 1 => if zcsM μ q p n < (zslM μ ν q n L p).2 ∧ zcnt (zbdM (zly n p ν)) L = 0 then (nI p, zcsM μ q p n) else zslM μ ν q n L p
/-- only the scratch of the model's rings has changed -/
def zScM (μ ν : zM) : Prop := (∀ b, b ≠ 59 → b ≠ 60 → b ≠ 61 → b ≠ 62 → b ≠ 63 → ν b = μ b) ∧ ∀ j, j ≠ 18 → ν 63 j = μ 63 j
def zmdX (a b c : Int32) : Int32 := if a = zlst a b c ∨ a = -zlst (-a) (-b) (-c) then (if b = zlst a b c ∨ b = -zlst (-a) (-b) (-c) then c else b) else a
theorem zlst3 : ∀ a, a < 8 → ∀ b, b < 8 → ∀ c, c < 8 → zlst (nI a) (nI b) (nI c) = nI (min a (min b c)) := by decide +kernel
theorem zlst4 : ∀ a, a < 8 → ∀ b, b < 8 → ∀ c, c < 8 → -zlst (-nI a) (-nI b) (-nI c) = nI (max a (max b c)) := by decide +kernel
theorem zlst5 : ∀ a, a < 8 → ∀ b, b < 8 → ∀ c, c < 8 → a = b ∨ a = c ∨ b = c ∨ zmdX (nI a) (nI b) (nI c) = nI (a + b + c - min a (min b c) - max a (max b c)) := by unfold zmdX; decide +kernel
