/-! ===== the class TickFall: what its methods do, on the memory ===== -/
section ZLCMP
variable {p : Program} {l : Launch} {e : Env} {R : Room} {s : State} {m : MethodId} {args : Array Value} {below : List Frame} {meth : Method} {c : Code} {E : zE} {sa : Nat → Nat} {nL cells slots : Nat} {Q : State → Prop} {cc : ByteArray} {own : String} {Ts : List Cond} {pc : Nat} {lv : List (Option Value)} {st : List Value} {μ : zM} {ov : Nat → Int64}
theorem z_lcmp (C : zC p s m args c E sa cc nL own Ts) {x y : Int64} (d : decode cc pc = .ok (.lcmp, 1)) (k : zW p l e R s m args below meth c E nL cells slots Q (pc + 1) lv (.int (lg_cmp x y) :: st) μ ov) : zW p l e R s m args below meth c E nL cells slots Q pc lv (.long y :: .long x :: st) μ ov :=
  fun H locs ls hP hD hS hl => W.lcmp C.1.1 C.1.2.1 d (k H locs ls hP hD hS hl)
end ZLCMP
theorem zlc0 (x y : Int64) : lg_cmp x y = 0 ↔ x = y := by
  unfold lg_cmp
  by_cases h : y < x
  · have : ¬ x = y := fun e => by subst e; exact absurd h (by rw [Int64.lt_iff_toInt_lt]; omega)
    simp [h, this]
  · by_cases h2 : x = y
    · simp [h2]
    · simp [h, h2]
theorem znat {i : Int32} {n : Nat} (h0 : 0 ≤ i) (h : i < nI n) (hn : n < 2 ^ 31) : ∃ k, k < n ∧ i = nI k := by
  obtain ⟨j, hj, e⟩ := nI_of (x := i) (fun h => by rw [zlt] at h; rw [zle2] at h0; omega)
  subst e
  rw [nI_ltI hj hn] at h
  exact ⟨j, h, rfl⟩
theorem znat2 {i : Int32} {n : Nat} (h0 : 1 ≤ i) (h : i ≤ nI n) (hn : n < 2 ^ 31) : ∃ k, 1 ≤ k ∧ k ≤ n ∧ i = nI k := by
  have h1 : (1 : Int32).toInt = 1 := rfl
  have h2 : (0 : Int32).toInt = 0 := rfl
  rw [zle2, h1] at h0
  obtain ⟨j, hj, e⟩ := nI_of (x := i) (fun h => by rw [zlt, h2] at h; omega)
  subst e
  rw [nI_leI hj hn] at h
  rw [nI_toInt hj] at h0
  exact ⟨j, by omega, h, rfl⟩
/-- the first condition that fails, by its number -/
def zgo (P Q S : Prop) [Decidable P] [Decidable Q] [Decidable S] : Int32 := if P then (if Q then (if S then 0 else 3) else 2) else 1
abbrev zamt (k a : Int32) : Prop := (k = 0 ∧ -500 ≤ a ∧ a ≤ 500) ∨ (k = 1 ∧ 0 ≤ a ∧ a ≤ 5000) ∨ (k = 2 ∧ -50 ≤ a ∧ a ≤ 50) ∨ (k = 3 ∧ -3 ≤ a ∧ a ≤ 3)
/-- the link i measured on the day d -/
abbrev zmea (μ : zM) (i d : Int32) : Prop := (1 ≤ d ∧ d ≤ μ 63 0) ∧ (0 ≤ i ∧ i < μ 63 5) ∧ μ 11 i.toNatClampNeg < d
def zeN (e : Int32) : Int32 := e >>> (13 &&& 31) &&& 7
def zeK (e : Int32) : Int32 := e >>> (16 &&& 31) &&& 3
def zeA (e : Int32) : Int32 := (e &&& 8191) - 500
def zhap (μ : zM) (e : Int32) : zM :=
  if zeK e = 0 then zu μ 2 (zeN e).toNatClampNeg (zheld (μ 2 (zeN e).toNatClampNeg + zeA e) 5000)
  else if zeK e = 1 then zu μ 5 (zeN e).toNatClampNeg (zeA e)
  else if zeK e = 2 then zu μ 9 (zeN e).toNatClampNeg (zeA e)
  else zu μ 10 (zeN e).toNatClampNeg (μ 10 (zeN e).toNatClampNeg + zeA e)
theorem zhap_k (μ : zM) (e : Int32) {b : Nat} (h2 : b ≠ 2) (h5 : b ≠ 5) (h9 : b ≠ 9) (h10 : b ≠ 10) : zhap μ e b = μ b := by
  unfold zhap
  split
  · exact zu_n _ _ _ h2
  · split
    · exact zu_n _ _ _ h5
    · split
      · exact zu_n _ _ _ h9
      · exact zu_n _ _ _ h10
/-- an event that can happen -/
def zevok (e : Int32) : Prop := ∃ k, k < 8 ∧ zeN e = nI k ∧ ((zeK e = 0 ∨ zeK e = 1) → k < 6)
/-- c events are to come, all such as can happen -/
def zAg (μ : zM) (c : Nat) : Prop := μ 63 6 = nI c ∧ c ≤ 40 ∧ ∀ j, j < c → zevok (μ 13 j)
/-- the events of the day T, f of them at most -/
def zevs (T : Int32) : Nat → zM → zM
  | 0, μ => μ
  | f + 1, μ => if 0 < μ 63 6 ∧ μ 13 ((μ 63 6).toNatClampNeg - 1) >>> (18 &&& 31) ≤ T then zevs T f (zhap (zu μ 63 6 (nI ((μ 63 6).toNatClampNeg - 1))) (μ 13 ((μ 63 6).toNatClampNeg - 1))) else μ
theorem zevs_k (T : Int32) {b : Nat} (h2 : b ≠ 2) (h5 : b ≠ 5) (h9 : b ≠ 9) (h10 : b ≠ 10) (h63 : b ≠ 63) : ∀ (f : Nat) (μ : zM), zevs T f μ b = μ b
  | 0, μ => rfl
  | f + 1, μ => by
    rw [zevs]
    split
    · rw [zevs_k T h2 h5 h9 h10 h63 f, zhap_k _ _ h2 h5 h9 h10, zu_n _ _ _ h63]
    · rfl
theorem zevs_63 (T : Int32) {j : Nat} (hj : j ≠ 6) : ∀ (f : Nat) (μ : zM), zevs T f μ 63 j = μ 63 j
  | 0, μ => rfl
  | f + 1, μ => by
    rw [zevs]
    split
    · rw [zevs_63 T hj f, zhap_k _ _ (by decide) (by decide) (by decide) (by decide), zu_s, upd_n _ _ hj]
    · rfl
/-- the clock that a link has beside the clock 0, or -1 -/
def zoth (μ : zM) (k : Nat) : Int32 := if μ 7 k = 0 then μ 8 k else if μ 8 k = 0 then μ 7 k else -1
def zahd (μ : zM) (k t : Nat) : Int32 := if μ 7 k = 0 then -(zcorX μ k t) else zcorX μ k t
abbrev zT3 : Type := Int32 × Int64 × Int64
def zmns (μ : zM) (t i : Nat) (x : zT3) : zT3 :=
  if ¬ zoth μ i = -1 ∧ x.1 >>> (zoth μ i &&& 31) &&& 1 = 0 ∧ μ 11 i < nI t then
    (x.1 ||| 1 <<< (zoth μ i &&& 31), x.2.1 + (μ 4 (zoth μ i).toNatClampNeg).toInt64, x.2.2 + (μ 4 (zoth μ i).toNatClampNeg).toInt64 * (zahd μ i t).toInt64)
  else x
def zmnX (μ : zM) (t : Nat) : Nat → zT3
  | 0 => (1, (μ 4 0).toInt64, 0)
  | i + 1 => zmns μ t i (zmnX μ t i)
def zmean (μ : zM) (t n : Nat) : Int32 := if μ 63 4 = 0 then 0 else if (zmnX μ t n).2.1 = 0 then 0 else ((zmnX μ t n).2.2 / (zmnX μ t n).2.1).toInt32
def zste (μ : zM) (b : Int32) (t n : Nat) : Int32 := b + zheld (zmean μ t n - b) (μ 63 2)
def zanX (μ : zM) (n : Nat) : Nat → Int32
  | 0 => 0
  | q + 1 => zste μ (zanX μ n q) (q + 1) n
/-- the links' two clocks are clocks that there are -/
def zcl (μ : zM) (nc n : Nat) : Prop := ∀ j, j < n → ∃ a b, a < nc ∧ b < nc ∧ a ≠ b ∧ μ 7 j = nI a ∧ μ 8 j = nI b
/-- only the scratch of the rings has changed -/
def zScr (μ ν : zM) : Prop := (∀ b, (b < 14 ∨ 21 < b) → b ≠ 63 → ν b = μ b) ∧ ∀ j, (j < 7 ∨ 10 < j) → ν 63 j = μ 63 j
def zopen (μ : zM) (t n : Nat) : Nat := (zgat μ t n n).countP (fun x => decide (μ 63 1 < zabs (zsum μ t x)))
theorem zcnt_cg {f g : Nat → Bool} : ∀ {n : Nat}, (∀ j, j < n → f j = g j) → zcnt f n = zcnt g n
  | 0, _ => rfl
  | n + 1, h => by rw [zcnt, zcnt, zcnt_cg (fun j hj => h j (by omega)), h n (by omega)]
theorem zcnt_s (f : Nat → Bool) : ∀ n, zcnt f (n + 1) = (if f 0 then 1 else 0) + zcnt (fun j => f (j + 1)) n
  | 0 => by simp [zcnt]
  | n + 1 => by rw [zcnt, zcnt_s f n, zcnt]; omega
theorem zcnt_L {α : Type} (g : α → Bool) : ∀ (L : List α) (f : Nat → Bool), (∀ j x, L[j]? = some x → f j = g x) → zcnt f L.length = L.countP g
  | [], _, _ => rfl
  | x :: L, f, h => by
    rw [List.length_cons, zcnt_s, zcnt_L g L (fun j => f (j + 1)) (fun j y hy => h (j + 1) y (by simpa using hy)), h 0 x rfl, List.countP_cons]
    omega
theorem zRI.opn {μ0 μ : zM} {t : Nat} {L : List z3} (h : zRI μ0 t μ L) (d : Int32) : zcnt (zopn μ d) L.length = L.countP (fun x => decide (d < zabs (zsum μ0 t x))) :=
  zcnt_L _ L _ (fun j x hx => by unfold zopn; rw [(h.2.2.2.1 j x hx).2.2.2.2.2])
theorem zRI.scr {μ0 μ : zM} {t : Nat} {L : List z3} (h : zRI μ0 t μ L) : zScr μ0 μ := ⟨fun b hb h63 => h.1 b (by omega) h63, fun j hj => h.2.1 j (by omega)⟩
theorem zgat_56 (μ : zM) {t n : Nat} (hn : n ≤ 8) : (zgat μ t n n).length ≤ 56 := by
  have h := zgat_len μ (t := t) hn n (Nat.le_refl _)
  have h2 : ∀ k, k ≤ 8 → zBa k ≤ 56 := by decide
  exact Nat.le_trans h (h2 n hn)
theorem zsw4 (k : Int32) : k = 0 ∨ k = 1 ∨ k = 2 ∨ k = 3 ∨ (k.toInt < 0 ∨ 3 < k.toInt) := by
  have h0 : (0 : Int32).toInt = 0 := rfl
  have h1 : (1 : Int32).toInt = 1 := rfl
  have h2 : (2 : Int32).toInt = 2 := rfl
  have h3 : (3 : Int32).toInt = 3 := rfl
  rw [zeq, zeq, zeq, zeq, h0, h1, h2, h3]
  omega
theorem zsw3 (k : Int32) : k = 0 ∨ k = 1 ∨ k = 2 ∨ (k.toInt < 0 ∨ 2 < k.toInt) := by
  have h0 : (0 : Int32).toInt = 0 := rfl
  have h1 : (1 : Int32).toInt = 1 := rfl
  have h2 : (2 : Int32).toInt = 2 := rfl
  rw [zeq, zeq, zeq, h0, h1, h2]
  omega
theorem zout {k v : Int32} {n : Int} (hv : v.toInt = n) {lo hi : Int} (h : k.toInt < lo ∨ hi < k.toInt) (h1 : lo ≤ n) (h2 : n ≤ hi) : ¬ k = v := fun e => by subst e; omega
theorem zAg.evs {T : Int32} : ∀ (f : Nat) {μ : zM} {c : Nat}, zAg μ c → ∃ c', zAg (zevs T f μ) c'
  | 0, μ, c, h => ⟨c, h⟩
  | f + 1, μ, c, h => by
    rw [zevs]
    split
    · rename_i hq
      have hc : 0 < c := by
        rcases Nat.eq_zero_or_pos c with e | e
        · have h0 := hq.1; rw [h.1, e] at h0; exact absurd h0 (by decide)
        · exact e
      refine zAg.evs f (c := c - 1) ⟨?_, by have := h.2.1; omega, fun j hj => ?_⟩
      · rw [zhap_k _ _ (by decide) (by decide) (by decide) (by decide), zu_s, upd_s, h.1, nI_clamp (by have := h.2.1; omega)]
      · rw [zhap_k _ _ (by decide) (by decide) (by decide) (by decide), zu_n _ _ _ (by decide)]
        exact h.2.2 j (by omega)
    · exact ⟨c, h⟩
