/-! ===== rings by the law's words ===== -/
abbrev ztou (f : Nat → Int32) (a b : Nat) : Prop := f (3 * a) = f (3 * b) ∨ f (3 * a) = f (3 * b + 1) ∨ f (3 * a + 1) = f (3 * b) ∨ f (3 * a + 1) = f (3 * b + 1)
abbrev zali (f : Nat → Int32) (a b : Nat) : Prop := f (3 * a) + f (3 * a + 1) = f (3 * b) + f (3 * b + 1) ∧ (f (3 * a) = f (3 * b) ∨ f (3 * a) = f (3 * b + 1))
abbrev zseti (f : Nat → Int32) (a b c : Nat) : Int32 := 1 <<< (f (3 * a) &&& 31) ||| 1 <<< (f (3 * a + 1) &&& 31) ||| 1 <<< (f (3 * b) &&& 31) ||| 1 <<< (f (3 * b + 1) &&& 31) ||| 1 <<< (f (3 * c) &&& 31) ||| 1 <<< (f (3 * c + 1) &&& 31)
def zpc (s : Int32) : Nat → Int32
  | 0 => 0
  | k + 1 => zpc s k + (s >>> (nI k &&& 31) &&& 1)
abbrev zisr (f : Nat → Int32) (a b c : Nat) : Prop := zpc (zseti f a b c) 6 = 3 ∧ ztou f a b ∧ ztou f b c ∧ ztou f a c ∧ ¬ zali f a b ∧ ¬ zali f b c ∧ ¬ zali f a c
def zpcN (S : Nat) : Nat := S % 2 + S / 2 % 2 + S / 4 % 2 + S / 8 % 2 + S / 16 % 2 + S / 32 % 2
def zjT (a1 a2 b1 b2 : Nat) : Bool := (a1 == b1) || ((a1 == b2) || ((a2 == b1) || (a2 == b2)))
def zjA (a1 a2 b1 b2 : Nat) : Bool := (a1 + a2 == b1 + b2) && ((a1 == b1) || (a1 == b2))
def zjR (a1 a2 b1 b2 c1 c2 : Nat) : Bool := (zpcN (2 ^ a1 ||| 2 ^ a2 ||| 2 ^ b1 ||| 2 ^ b2 ||| 2 ^ c1 ||| 2 ^ c2) == 3) && (zjT a1 a2 b1 b2 && (zjT b1 b2 c1 c2 && (zjT a1 a2 c1 c2 && (!zjA a1 a2 b1 b2 && (!zjA b1 b2 c1 c2 && !zjA a1 a2 c1 c2)))))
def zjall : Bool := (List.range 6).all fun a1 => (List.range 6).all fun a2 => (a1 == a2) || (List.range 6).all fun b1 => (List.range 6).all fun b2 => (b1 == b2) || (List.range 6).all fun c1 => (List.range 6).all fun c2 => (c1 == c2) || (zjR a1 a2 b1 b2 c1 c2 == zxN a1 a2 b1 b2 c1 c2)
set_option maxRecDepth 100000 in
set_option maxHeartbeats 4000000 in
theorem zjall_t : zjall = true := by decide +kernel
theorem zj_t {a1 a2 b1 b2 c1 c2 : Nat} (h1 : a1 < 6) (h2 : a2 < 6) (h3 : b1 < 6) (h4 : b2 < 6) (h5 : c1 < 6) (h6 : c2 < 6) (n1 : a1 ≠ a2) (n2 : b1 ≠ b2) (n3 : c1 ≠ c2) : zjR a1 a2 b1 b2 c1 c2 = zxN a1 a2 b1 b2 c1 c2 := by
  have h := zjall_t
  unfold zjall at h
  have h := List.all_eq_true.mp h a1 (List.mem_range.mpr h1)
  have h := List.all_eq_true.mp h a2 (List.mem_range.mpr h2)
  rw [Bool.or_eq_true, beq_iff_eq] at h
  have h := h.resolve_left n1
  have h := List.all_eq_true.mp h b1 (List.mem_range.mpr h3)
  have h := List.all_eq_true.mp h b2 (List.mem_range.mpr h4)
  rw [Bool.or_eq_true, beq_iff_eq] at h
  have h := h.resolve_left n2
  have h := List.all_eq_true.mp h c1 (List.mem_range.mpr h5)
  have h := List.all_eq_true.mp h c2 (List.mem_range.mpr h6)
  rw [Bool.or_eq_true, beq_iff_eq] at h
  exact beq_iff_eq.mp (h.resolve_left n3)
theorem zsh1 : ∀ a, a < 6 → 1 <<< (nI a &&& 31) = nI (2 ^ a) ∧ 2 ^ a < 2 ^ 6 := by decide
theorem zpc_N : ∀ S, S < 64 → zpc (nI S) 6 = nI (zpcN S) ∧ zpcN S < 7 := by decide +kernel
section
variable {f : Nat → Int32} {a b c a1 a2 b1 b2 c1 c2 : Nat}
theorem zef (ha : a < 6) (hb : b < 6) : nI a = nI b ↔ a = b := nI_eq (by omega) (by omega)
theorem ztou_N (e1 : f (3 * a) = nI a1) (e2 : f (3 * a + 1) = nI a2) (e3 : f (3 * b) = nI b1) (e4 : f (3 * b + 1) = nI b2) (h1 : a1 < 6) (h2 : a2 < 6) (h3 : b1 < 6) (h4 : b2 < 6) : ztou f a b ↔ zjT a1 a2 b1 b2 = true := by
  unfold ztou zjT
  rw [e1, e2, e3, e4, zef h1 h3, zef h1 h4, zef h2 h3, zef h2 h4]
  simp only [Bool.or_eq_true, beq_iff_eq]
theorem zali_N (e1 : f (3 * a) = nI a1) (e2 : f (3 * a + 1) = nI a2) (e3 : f (3 * b) = nI b1) (e4 : f (3 * b + 1) = nI b2) (h1 : a1 < 6) (h2 : a2 < 6) (h3 : b1 < 6) (h4 : b2 < 6) : zali f a b ↔ zjA a1 a2 b1 b2 = true := by
  unfold zali zjA
  rw [e1, e2, e3, e4, zef h1 h3, zef h1 h4, nI_add, nI_add, nI_eq (by omega) (by omega)]
  simp only [Bool.or_eq_true, Bool.and_eq_true, beq_iff_eq]
theorem zisr_iff (e1 : f (3 * a) = nI a1) (e2 : f (3 * a + 1) = nI a2) (e3 : f (3 * b) = nI b1) (e4 : f (3 * b + 1) = nI b2) (e5 : f (3 * c) = nI c1) (e6 : f (3 * c + 1) = nI c2) (h1 : a1 < 6) (h2 : a2 < 6) (h3 : b1 < 6) (h4 : b2 < 6) (h5 : c1 < 6) (h6 : c2 < 6) (n1 : a1 ≠ a2) (n2 : b1 ≠ b2) (n3 : c1 ≠ c2) :
    zisr f a b c ↔ zbits (nI a1) (nI a2) ^^^ zbits (nI b1) (nI b2) ^^^ zbits (nI c1) (nI c2) = 0 := by
  have es : zseti f a b c = nI (2 ^ a1 ||| 2 ^ a2 ||| 2 ^ b1 ||| 2 ^ b2 ||| 2 ^ c1 ||| 2 ^ c2) := by
    unfold zseti
    rw [e1, e2, e3, e4, e5, e6, (zsh1 _ h1).1, (zsh1 _ h2).1, (zsh1 _ h3).1, (zsh1 _ h4).1, (zsh1 _ h5).1, (zsh1 _ h6).1, zorI, zorI, zorI, zorI, zorI]
  have l : 2 ^ a1 ||| 2 ^ a2 ||| 2 ^ b1 ||| 2 ^ b2 ||| 2 ^ c1 ||| 2 ^ c2 < 2 ^ 6 := Nat.or_lt_two_pow (Nat.or_lt_two_pow (Nat.or_lt_two_pow (Nat.or_lt_two_pow (Nat.or_lt_two_pow (zsh1 _ h1).2 (zsh1 _ h2).2) (zsh1 _ h3).2) (zsh1 _ h4).2) (zsh1 _ h5).2) (zsh1 _ h6).2
  obtain ⟨p1, p2⟩ := zpc_N _ l
  have l1 : ((2 ^ a1 ||| 2 ^ a2) ^^^ (2 ^ b1 ||| 2 ^ b2) ^^^ (2 ^ c1 ||| 2 ^ c2)) < 2 ^ 6 := Nat.xor_lt_two_pow (Nat.xor_lt_two_pow (zbl _ h1 _ h2) (zbl _ h3 _ h4)) (zbl _ h5 _ h6)
  rw [zbits_N _ h1 _ h2, zbits_N _ h3 _ h4, zbits_N _ h5 _ h6, zxorI, zxorI]
  have x : (nI ((2 ^ a1 ||| 2 ^ a2) ^^^ (2 ^ b1 ||| 2 ^ b2) ^^^ (2 ^ c1 ||| 2 ^ c2)) = 0) ↔ zxN a1 a2 b1 b2 c1 c2 = true := by
    unfold zxN
    rw [beq_iff_eq]
    exact nI_eq (b := 0) (Nat.lt_trans l1 (by decide)) (by decide)
  rw [x, ← zj_t h1 h2 h3 h4 h5 h6 n1 n2 n3]
  unfold zisr zjR
  rw [es, p1, ztou_N e1 e2 e3 e4 h1 h2 h3 h4, ztou_N e3 e4 e5 e6 h3 h4 h5 h6, ztou_N e1 e2 e5 e6 h1 h2 h5 h6, zali_N e1 e2 e3 e4 h1 h2 h3 h4, zali_N e3 e4 e5 e6 h3 h4 h5 h6, zali_N e1 e2 e5 e6 h1 h2 h5 h6, show (3 : Int32) = nI 3 from rfl, nI_eq (by omega) (by decide)]
  simp only [Bool.and_eq_true, beq_iff_eq, Bool.not_eq_true', Bool.not_eq_true]
end
theorem zord_s {a b c : Nat} (h1 : a < b) (h2 : b < c) : zord a b c = (a, b, c) ∧ zord c a b = (a, b, c) ∧ zord c b a = (a, b, c) := by
  have e1 : min b c = b := Nat.min_eq_left (by omega)
  have e2 : min a b = a := Nat.min_eq_left (by omega)
  have e3 : max b c = c := Nat.max_eq_right (by omega)
  have e4 : max a c = c := Nat.max_eq_right (by omega)
  have e5 : min c a = a := Nat.min_eq_right (by omega)
  have e6 : max a b = b := Nat.max_eq_right (by omega)
  have e7 : max c b = c := Nat.max_eq_left (by omega)
  have e8 : min b a = a := Nat.min_eq_right (by omega)
  have e9 : max b a = b := Nat.max_eq_left (by omega)
  unfold zord
  refine ⟨?_, ?_, ?_⟩
  · rw [e1, e2, e3, e4, show a + b + c - a - c = b by omega]
  · rw [e2, e5, e6, e7, show c + a + b - a - c = b by omega]
  · rw [e8, e5, e9, e7, show c + b + a - a - c = b by omega]
/-! the law's order of the threes -/
def zT3n (g n : Nat) : z3 := (n % g, n / g % g, n / g / g)
theorem zcnt_R (f : Nat → Bool) : ∀ n, zcnt f n = (List.range n).countP f
  | 0 => rfl
  | n + 1 => by rw [zcnt, zcnt_R f n, List.range_succ, List.countP_append]; simp [List.countP_cons]
theorem zT3_inj {g n m : Nat} (h : zT3n g n = zT3n g m) : n = m := by
  unfold zT3n at h
  have h1 : n % g = m % g := congrArg Prod.fst h
  have h2 : n / g % g = m / g % g := congrArg (fun x => x.2.1) h
  have h3 : n / g / g = m / g / g := congrArg (fun x => x.2.2) h
  have a := Nat.div_add_mod n g
  have b := Nat.div_add_mod m g
  have a2 := Nat.div_add_mod (n / g) g
  have b2 := Nat.div_add_mod (m / g) g
  rw [← a, ← b, h1, ← a2, ← b2, h2, h3]
theorem zT3_at {g a b c : Nat} (ha : a < g) (hb : b < g) (hc : c < g) : a + g * (b + g * c) < g * g * g ∧ zT3n g (a + g * (b + g * c)) = (a, b, c) := by
  have hg : 0 < g := by omega
  have m1 : (a + g * (b + g * c)) % g = a := by rw [Nat.add_mul_mod_self_left]; exact Nat.mod_eq_of_lt ha
  have d1 : (a + g * (b + g * c)) / g = b + g * c := by rw [Nat.add_mul_div_left _ _ hg, Nat.div_eq_of_lt ha, Nat.zero_add]
  have m2 : (b + g * c) % g = b := by rw [Nat.add_mul_mod_self_left]; exact Nat.mod_eq_of_lt hb
  have d2 : (b + g * c) / g = c := by rw [Nat.add_mul_div_left _ _ hg, Nat.div_eq_of_lt hb, Nat.zero_add]
  refine ⟨?_, by unfold zT3n; rw [m1, d1, m2, d2]⟩
  have k1 : g * c + g ≤ g * g := by
    have := Nat.mul_le_mul_left g (show c + 1 ≤ g by omega)
    rw [Nat.mul_add, Nat.mul_one] at this; exact this
  have k2 : g * (b + g * c) + g ≤ g * (g * g) := by
    have := Nat.mul_le_mul_left g (show b + g * c + 1 ≤ g * g by omega)
    rw [Nat.mul_add, Nat.mul_one] at this; exact this
  rw [Nat.mul_assoc]; omega
/-- the three is a ring of the day, and open -/
def zopq (μ : zM) (t g n : Nat) : Bool := decide (zT3n g n ∈ zgat μ t g g) && decide (μ 63 1 < zabs (zsum μ t (zT3n g n)))
theorem zopen_n {μ : zM} {t g : Nat} : zcnt (zopq μ t g) (g * g * g) = zopen μ t g := by
  rw [zcnt_R]
  unfold zopen
  rw [List.countP_eq_length_filter, List.countP_eq_length_filter, ← List.length_map (f := zT3n g)]
  refine List.Perm.length_eq ?_
  have n1 : (((List.range (g * g * g)).filter (zopq μ t g)).map (zT3n g)).Nodup := by
    exact List.Pairwise.map (zT3n g) (fun x y (hxy : x ≠ y) e => hxy (zT3_inj e)) (List.Pairwise.filter _ List.nodup_range)
  have n2 : ((zgat μ t g g).filter (fun x => decide (μ 63 1 < zabs (zsum μ t x)))).Nodup := List.Pairwise.filter _ (zgat_nd μ t g g)
  refine (List.perm_ext_iff_of_nodup n1 n2).mpr (fun x => ?_)
  rw [List.mem_map, List.mem_filter]
  constructor
  · rintro ⟨n, hn, rfl⟩
    have q := (List.mem_filter.mp hn).2
    unfold zopq at q
    rw [Bool.and_eq_true, decide_eq_true_eq] at q
    exact q
  · rintro ⟨hx, hp⟩
    obtain ⟨a, b, c, d, e⟩ := zgat_mem.mp hx
    obtain ⟨k1, k2⟩ := zT3_at (g := g) (a := x.1) (b := x.2.1) (c := x.2.2) (by omega) (by omega) (by omega)
    refine ⟨_, List.mem_filter.mpr ⟨List.mem_range.mpr k1, ?_⟩, k2⟩
    unfold zopq
    rw [Bool.and_eq_true, decide_eq_true_eq, k2]
    exact ⟨hx, hp⟩
/-! what scratch doesn't change -/
theorem zcorX_s {μ κ : zM} {k : Nat} (hk : k < 8) (h : ∀ b, 21 < b → b < 38 → κ b = μ b) (t : Nat) : zcorX κ k t = zcorX μ k t := by
  unfold zcorX; rw [h (22 + k) (by omega) (by omega), h (30 + k) (by omega) (by omega)]
theorem zsum_s {μ κ : zM} {x : z3} (h1 : x.1 < 8) (h2 : x.2.1 < 8) (h3 : x.2.2 < 8) (h7 : κ 7 = μ 7) (h8 : κ 8 = μ 8) (h : ∀ b, 21 < b → b < 38 → κ b = μ b) (t : Nat) : zsum κ t x = zsum μ t x := by
  unfold zsum; rw [zcorX_s h1 h, zcorX_s h2 h, zcorX_s h3 h, zsgn_cg h7 h8, zsgn_cg h7 h8]
theorem zgat_s2 {μ κ : zM} (h7 : κ 7 = μ 7) (h8 : κ 8 = μ 8) (h11 : κ 11 = μ 11) (t n k : Nat) : zgat κ t n k = zgat μ t n k := by
  unfold zgat zmid zinn zPr; rw [h7, h8, h11]
theorem zopen_s {μ κ : zM} {n : Nat} (hn : n ≤ 8) (h7 : κ 7 = μ 7) (h8 : κ 8 = μ 8) (h11 : κ 11 = μ 11) (h1 : κ 63 1 = μ 63 1) (h : ∀ b, 21 < b → b < 38 → κ b = μ b) (t : Nat) : zopen κ t n = zopen μ t n := by
  unfold zopen
  rw [zgat_s2 h7 h8 h11, h1]
  refine List.countP_congr (fun x hx => ?_)
  obtain ⟨a, b, c, d, e⟩ := zgat_mem.mp hx
  rw [zsum_s (by omega) (by omega) (by omega) h7 h8 h]
/-! ===== slips ===== -/
theorem zenc_m (p : Nat) : ∀ n, zenc (zdig p) n = p % 3 ^ n
  | 0 => by rw [zenc, Nat.pow_zero, Nat.mod_one]
  | n + 1 => by rw [zenc, zenc_m p n, Nat.mod_pow_succ]; unfold zdig; rw [Nat.mul_comm]
theorem zenc_cg {f g : Nat → Nat} : ∀ n, (∀ i, i < n → f i = g i) → zenc f n = zenc g n
  | 0, _ => rfl
  | n + 1, h => by rw [zenc, zenc, zenc_cg n (fun i hi => h i (by omega)), h n (by omega)]
/-- the number of no slip -/
def zpl (n : Nat) : Nat := zenc (fun _ => 1) n
theorem zpl_s (n : Nat) : zpl (n + 1) = zpl n + 3 ^ n := by unfold zpl; rw [zenc, Nat.one_mul]
theorem zpl_lt (n : Nat) : zpl n < 3 ^ n := zenc_lt (fun _ => by decide) n
theorem zpl_d {n i : Nat} (hi : i < n) : zdig (zpl n) i = 1 := zenc_d (f := fun _ => 1) (fun _ => by decide) n i hi
theorem zpl_u {n p : Nat} (hp : p < 3 ^ n) (h : ∀ i, i < n → zdig p i = 1) : p = zpl n := by
  have := zenc_m p n
  rw [Nat.mod_eq_of_lt hp] at this
  rw [← this]; exact zenc_cg n h
theorem zxc_z {n p : Nat} : zxc n 0 p = 0 ↔ ∀ i, i < n → zdig p i = 1 := by
  unfold zxc
  rw [zcnt_0]
  constructor
  · intro h i hi
    have := h i hi
    rw [decide_eq_false_iff_not] at this
    exact Classical.byContradiction (fun z => this ⟨Nat.zero_le _, z⟩)
  · intro h i hi
    exact decide_eq_false (fun z => z.2 (h i hi))
theorem zslp_q {μ ν : zM} {n q : Nat} (hn : n ≤ 8) (hν : zRI μ q ν (zgat μ q n n)) (hz : zopen μ q n = 0 ↔ ∀ x ∈ zgat μ q n n, ¬ μ 63 1 < zabs (zsum μ q x)) :
    ∃ X, zdfs (zgat μ q n n).length n (zu (zu (zu ν 63 8 (μ 63 1)) 63 9 (nI (n + 1))) 63 10 (-1)) 0 0 63 10 = X ∧ ((X = -1 ∧ ¬ zopen μ q n = 0) ∨ ∃ p, p < 3 ^ n ∧ X = nI p ∧ (p = zpl n ↔ zopen μ q n = 0)) := by
  obtain ⟨σ0, hσ0⟩ : ∃ σ0, σ0 = zu (zu (zu ν 63 8 (μ 63 1)) 63 9 (nI (n + 1))) 63 10 (-1) := ⟨_, rfl⟩
  rw [← hσ0]
  have r0 : ∀ b, b ≠ 63 → σ0 b = ν b := fun b h => by rw [hσ0, zu_n _ _ _ h, zu_n _ _ _ h, zu_n _ _ _ h]
  have D : zDF μ σ0 q n (zgat μ q n n) (μ 63 1) := by
    refine ⟨fun j x hx => ?_, fun k hk => ?_, fun x hx => ?_, hn, by rw [hσ0, zu_s, upd_n _ _ (by decide), zu_s, upd_n _ _ (by decide), zu_s, upd_s]⟩
    · rw [r0 14 (by decide), r0 15 (by decide), r0 16 (by decide), r0 17 (by decide), r0 18 (by decide), r0 19 (by decide)]
      exact hν.2.2.2.1 j x hx
    · rw [r0 20 (by decide)]; exact hν.2.2.2.2.1 k hk
    · obtain ⟨a, b, c, d, e⟩ := zgat_mem.mp hx
      exact ⟨c.1, d.1, d.2⟩
  have hxc : ∀ p, zxc n n p = 0 := fun p => by
    unfold zxc
    exact (zcnt_0 n).mpr (fun j hj => decide_eq_false (fun z => by omega))
  obtain ⟨F', X', -, -, x10, -, -, hX⟩ := zdfs_b D n (Nat.le_refl n) 0 0 (n + 1) (-1) σ0 ⟨fun _ _ _ => rfl, fun _ _ _ => rfl⟩ (by rw [hσ0, zu_s, upd_n _ _ (by decide), zu_s, upd_s]) (by rw [hσ0, zu_s, upd_s]) (by omega) (fun p _ _ => ⟨fun i a b => by omega, hxc p, fun x hx e => by
    obtain ⟨a, b⟩ := zgat_mem.mp hx; omega, fun i a b => by omega⟩)
  rw [show (0 : Int32) = nI 0 from rfl, x10]
  rw [Nat.zero_mul, Nat.zero_add, Nat.one_mul] at hX
  have offz : ∀ x ∈ zgat μ q n n, zoff μ x (zpl n) = 0 := fun x hx => by
    obtain ⟨a, b, c, d, e⟩ := zgat_mem.mp hx
    have z : ∀ i, i < n → zDg (zpl n) i = 0 := fun i hi => by unfold zDg; rw [zpl_d hi]; rfl
    unfold zoff
    rw [z _ (by omega), z _ (by omega), z _ (by omega), Int32.mul_zero, Int32.mul_zero, Int32.add_zero, Int32.add_zero]
  have qpl : zQs μ q n (zgat μ q n n) (μ 63 1) (zpl n) ↔ zopen μ q n = 0 := by
    rw [hz]
    constructor
    · intro h x hx
      have := h.1 x hx
      unfold zclo at this
      rw [offz x hx, Int32.mul_zero, Int32.sub_zero] at this
      exact fun z => by rw [zlt] at z; rw [zle2] at this; omega
    · intro h
      refine ⟨fun x hx => ?_, fun i hi _ => zpl_d hi⟩
      unfold zclo
      rw [offz x hx, Int32.mul_zero, Int32.sub_zero]
      exact znot_lt (h x hx)
  have wpl : zxc n 0 (zpl n) = 0 := zxc_z.mpr (fun i hi => zpl_d hi)
  refine ⟨X', rfl, ?_⟩
  rcases hX with ⟨-, hX2, hX3⟩ | ⟨p0, -, u2, u3, u4, -, hX2, u5⟩
  · refine Or.inl ⟨hX2, fun z => ?_⟩
    have := hX3 (zpl n) (Nat.zero_le _) (zpl_lt n) (qpl.mpr z)
    omega
  · refine Or.inr ⟨p0, u2, hX2, fun e => qpl.mp (by rw [← e]; exact u3), fun z => ?_⟩
    have := (u5 (zpl n) (Nat.zero_le _) (zpl_lt n) (qpl.mpr z)).1
    exact zpl_u u2 (zxc_z.mp (by omega))
theorem zslp_s {μ ν : zM} {q n : Nat} {L : List z3} {a b c : Int32} (hz : zRI μ q ν L) : zScr μ (zdfs L.length n (zu (zu (zu ν 63 8 a) 63 9 b) 63 10 c) 0 0) := by
  have g := zdfs_k L.length n (zu (zu (zu ν 63 8 a) 63 9 b) 63 10 c) 0 0
  exact ⟨fun b' p w => by rw [g.1 b' (by omega) w, zu_n _ _ _ w, zu_n _ _ _ w, zu_n _ _ _ w]; exact hz.1 b' (by omega) w, fun j p => by rw [g.2 j (by omega) (by omega), zu_s, upd_n _ _ (by omega), zu_s, upd_n _ _ (by omega), zu_s, upd_n _ _ (by omega)]; exact hz.2.1 j (by omega)⟩
theorem zopen_0 {μ : zM} {q n : Nat} : zopen μ q n = 0 ↔ ∀ x ∈ zgat μ q n n, ¬ μ 63 1 < zabs (zsum μ q x) := by
  unfold zopen
  rw [List.countP_eq_zero]
  constructor
  · intro h x hx; have := h x hx; rw [decide_eq_true_eq] at this; exact this
  · intro h x hx; rw [decide_eq_true_eq]; exact h x hx
/-! ===== the mean ===== -/
theorem ztd {s : Int} {W B : Nat} (hW : 0 < W) (h1 : -((B * W : Nat) : Int) ≤ s) (h2 : s ≤ ((B * W : Nat) : Int)) : -(B : Int) ≤ s.tdiv W ∧ s.tdiv W ≤ B := by
  have hw : (0 : Int) < W := by omega
  have up : ∀ z : Int, 0 ≤ z → z ≤ ((B * W : Nat) : Int) → 0 ≤ z.tdiv W ∧ z.tdiv W ≤ B := fun z z0 z1 => by
    rw [Int.tdiv_eq_ediv_of_nonneg z0]
    refine ⟨Int.ediv_nonneg z0 (by omega), ?_⟩
    have : z / (W : Int) ≤ ((B * W : Nat) : Int) / (W : Int) := Int.ediv_le_ediv hw z1
    rw [Int.natCast_mul, Int.mul_ediv_cancel _ (by omega)] at this
    exact this
  rcases Int.le_total 0 s with p | p
  · have := up s p h2; omega
  · have := up (-s) (by omega) (by omega)
    rw [Int.neg_tdiv] at this; omega
def zmB (x : zT3) (i : Nat) : Prop := ∃ W : Nat, W ≤ 100 * (i + 1) ∧ x.2.1.toInt = W ∧ -((1015000 * W : Nat) : Int) ≤ x.2.2.toInt ∧ x.2.2.toInt ≤ ((1015000 * W : Nat) : Int)
theorem zmB_0 {μ : zM} (h : ∃ w, w ≤ 100 ∧ μ 4 0 = nI w) (m : Int32) : zmB (m, (μ 4 0).toInt64, 0) 0 := by
  obtain ⟨w, w1, w2⟩ := h
  refine ⟨w, by omega, ?_, ?_, ?_⟩
  · show (μ 4 0).toInt64.toInt = w
    rw [w2, Int32.toInt_toInt64, nI_toInt (by omega)]
  · show _ ≤ (0 : Int64).toInt
    rw [show (0 : Int64).toInt = 0 from rfl]; omega
  · show (0 : Int64).toInt ≤ _
    rw [show (0 : Int64).toInt = 0 from rfl]; omega
theorem zmB_s {m m' : Int32} {W S : Int64} {w : Nat} {x v : Int32} {i : Nat} (hi : i ≤ 8) (h : zmB (m, W, S) i) (hw : w ≤ 100) (hx : x = nI w) (hv : zbn v 1015000) : zmB (m', W + x.toInt64, S + x.toInt64 * v.toInt64) (i + 1) := by
  obtain ⟨V, v1, v2, v3, v4⟩ := h
  have v2 : W.toInt = V := v2
  have v3 : -((1015000 * V : Nat) : Int) ≤ S.toInt := v3
  have v4 : S.toInt ≤ ((1015000 * V : Nat) : Int) := v4
  have ex : x.toInt64.toInt = w := by rw [hx, Int32.toInt_toInt64, nI_toInt (by omega)]
  have ev : v.toInt64.toInt = v.toInt := Int32.toInt_toInt64 v
  unfold zbn at hv
  have b1 : (w : Int) * v.toInt ≤ (w : Int) * 1015000 := Int.mul_le_mul_of_nonneg_left hv.2 (by omega)
  have b2 : (w : Int) * (-1015000) ≤ (w : Int) * v.toInt := Int.mul_le_mul_of_nonneg_left hv.1 (by omega)
  have em : (x.toInt64 * v.toInt64).toInt = (w : Int) * v.toInt := by rw [Int64.toInt_mul, ex, ev]; exact zbm8 (by omega) (by omega)
  refine ⟨V + w, by omega, ?_, ?_, ?_⟩
  · show (W + x.toInt64).toInt = _
    rw [Int64.toInt_add, v2, ex, zbm8 (by omega) (by omega)]; omega
  · show _ ≤ (S + x.toInt64 * v.toInt64).toInt
    rw [Int64.toInt_add, em, zbm8 (by omega) (by omega)]; omega
  · show (S + x.toInt64 * v.toInt64).toInt ≤ _
    rw [Int64.toInt_add, em, zbm8 (by omega) (by omega)]; omega
theorem zmB.mono {x : zT3} {i : Nat} (h : zmB x i) : zmB x (i + 1) := by obtain ⟨W, a, b⟩ := h; exact ⟨W, by omega, b⟩
theorem zmean_q {μ : zM} {t c nc n A q : Nat} (h : zLI μ t c nc n A) (hq : q ≤ 500) : zbn (zmean μ q n) 1015000 := by
  have hn : n ≤ 8 := h.1.2.2.2.2.2.2.1
  have hw := h.2.2.2.1.1
  have key : ∀ i, i ≤ 8 → zmB (zmnX μ q i) i := fun i => by
    induction i with
    | zero => intro _; rw [zmnX]; exact zmB_0 (hw 0) _
    | succ i ih =>
      intro hi
      have ih := ih (by omega)
      rw [zmnX]
      unfold zmns
      split
      · obtain ⟨w, w1, w2⟩ := hw (zoth μ i).toNatClampNeg
        refine zmB_s (by omega) (m := (zmnX μ q i).1) ih w1 w2 ?_
        have b := zcorX_q h (k := i) (by omega) hq
        unfold zahd
        split
        · exact b.neg (by decide)
        · exact b
      · exact ih.mono
  obtain ⟨W, a1, a2, a3, a4⟩ := key n hn
  unfold zmean
  split
  · exact zbn_0.le (by decide)
  · split
    · exact zbn_0.le (by decide)
    · rename_i hne
      have hW : 0 < W := by
        rcases Nat.eq_zero_or_pos W with z | z
        · exact absurd (z64_ext (by rw [a2, z]; rfl)) hne
        · exact z
      obtain ⟨d1, d2⟩ := ztd hW a3 a4
      have ed : ((zmnX μ q n).2.2 / (zmnX μ q n).2.1).toInt = (zmnX μ q n).2.2.toInt.tdiv W := by
        rw [Int64.toInt_div, a2]; exact zbm8 (by omega) (by omega)
      unfold zbn
      rw [Int64.toInt_toInt32, ed, zbm (by omega) (by omega)]
      exact ⟨d1, d2⟩
theorem zanX_q {μ : zM} {n B : Nat} (hB : B ≤ 100) (e : μ 63 2 = nI B) : ∀ q, q ≤ 500 → zbn (zanX μ n q) (100 * q)
  | 0, _ => zbn_0
  | q + 1, hq => by
    rw [zanX]
    unfold zste
    rw [e]
    exact ((zanX_q hB e q (by omega)).add ((zbn_held _ rfl (by omega)).le hB) (by omega)).le (by omega)
/-- a day's step -/
theorem zstd {ah me st : Int32} {B : Nat} (h1 : zbn ah 50000) (h2 : zbn me 1015000) (hB : 1 ≤ B) (hB2 : B ≤ 100) (e : st = nI B) :
    (me - ah ≤ st → ah - me ≤ st → ah + zheld (me - ah) st = me) ∧ (¬ (me - ah ≤ st ∧ ah - me ≤ st) → ah + zheld (me - ah) st - ah = if ah < me then st else -st) := by
  have e1 := zti_sub h2 h1 (by decide)
  have e2 := zti_sub h1 h2 (by decide)
  have es : st.toInt = B := by rw [e, nI_toInt (by omega)]
  have en : (-st).toInt = -(B : Int) := by rw [zti_neg (A := B) (by unfold zbn; rw [es]; omega) (by omega), es]
  unfold zheld
  constructor
  · intro a b
    rw [zle2, e1, es] at a
    rw [zle2, e2, es] at b
    rw [if_neg (by rw [zlt, e1, es]; omega), if_neg (by rw [zlt, e1, en]; omega), Int32.add_comm, Int32.sub_add_cancel]
  · intro h
    rw [zle2, zle2, e1, e2, es] at h
    rw [Int32.add_comm, Int32.add_sub_cancel]
    by_cases g : ah < me
    · rw [if_pos g]
      rw [zlt] at g
      rw [if_pos (by rw [zlt, e1, es]; omega)]
    · rw [if_neg g]
      rw [zlt] at g
      rw [if_neg (by rw [zlt, e1, es]; omega), if_pos (by rw [zlt, e1, en]; omega)]
