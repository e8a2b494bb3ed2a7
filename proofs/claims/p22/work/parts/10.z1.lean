/-! ===== the one memory of the claim: every object of it stands alone, so a world is a table of numbers ===== -/
abbrev zM : Type := Nat → Nat → Int32
abbrev zE : Type := va_G × (Nat → ClassId) × (Nat → Nat)
def zur (μ : zM) (a : Nat) (f : Nat → Int32) : zM := fun b => if b = a then f else μ b
def zu (μ : zM) (a i : Nat) (x : Int32) : zM := zur μ a (upd (μ a) i x)
theorem zur_s (μ : zM) (a : Nat) (f : Nat → Int32) : zur μ a f a = f := if_pos rfl
theorem zur_n (μ : zM) {a b : Nat} (f : Nat → Int32) (h : b ≠ a) : zur μ a f b = μ b := if_neg h
theorem zu_s (μ : zM) (a i : Nat) (x : Int32) : zu μ a i x a = upd (μ a) i x := if_pos rfl
theorem zu_n (μ : zM) {a b : Nat} (i : Nat) (x : Int32) (h : b ≠ a) : zu μ a i x b = μ b := if_neg h
def zlens : List Nat := [501, 7, 6, 6, 6, 6, 6, 8, 8, 8, 8, 8, 8, 40, 56, 56, 56, 56, 56, 56, 8, 8, 501, 501, 501, 501, 501, 501, 501, 501, 501, 501, 501, 501, 501, 501, 501, 501, 9, 24, 40, 7, 2]
def zlen (k : Nat) : Nat := zlens.getD k 0
def zkd (k : Nat) : Nat := if k = 1 then 1 else if k = 20 then 1 else if k = 58 then 1 else 0
def zob (E : zE) (q : Nat) : Nat := E.2.2 q
def zad (E : zE) (k : Nat) : Nat := E.2.2 (7 + k)
theorem zlen_lt : ∀ k, k < 43 → zlen k < 5000 := by decide +kernel
def zfs (E : zE) (μ : zM) (o : Nat) : List Value := match o with
  | 0 => [.ref (zob E 1), .ref (zob E 2), .ref (zob E 3), .ref (zob E 4), .ref (zad E 0), .ref (zad E 1), .int (μ 63 0), .int (μ 63 1), .int (μ 63 2), .int (μ 63 3)]
  | 1 => [.ref (zad E 2), .ref (zad E 3), .ref (zad E 4), .ref (zad E 5), .ref (zad E 6), .int (μ 63 4)]
  | 2 => [.ref (zad E 7), .ref (zad E 8), .ref (zad E 9), .ref (zad E 10), .ref (zad E 11), .ref (zad E 12), .ref (zob E 5), .ref (zob E 6), .int (μ 63 5)]
  | 3 => [.ref (zad E 13), .int (μ 63 6)]
  | _ => [.ref (zad E 14), .ref (zad E 15), .ref (zad E 16), .ref (zad E 17), .ref (zad E 18), .ref (zad E 19), .int (μ 63 7), .ref (zad E 20), .ref (zad E 21), .int (μ 63 8), .int (μ 63 9), .int (μ 63 10)]
def zrow (E : zE) (k : Nat) : Nat → Option Nat := fun j => if j < 8 then some (zad E (k + j)) else none
def zO (E : zE) (μ : zM) (ov : Nat → Int64) : va_W := [(zob E 0, .inr (4, zfs E μ 0)), (zob E 1, .inr (1, zfs E μ 1)), (zob E 2, .inr (2, zfs E μ 2)), (zob E 3, .inr (0, zfs E μ 3)), (zob E 4, .inr (3, zfs E μ 4)), (zob E 5, .inl (E.2.1 3, 8, .inr (.inr (.inr (.inr (zrow E 22)))))), (zob E 6, .inl (E.2.1 3, 8, .inr (.inr (.inr (.inr (zrow E 30))))))]
def zAr (E : zE) (μ : zM) : va_W := (List.range 43).map fun k => (zad E k, .inl (E.2.1 (zkd k), zlen k, .inl (μ k)))
def zG (E : zE) (μ : zM) (ov : Nat → Int64) : va_W := zO E μ ov ++ zAr E μ
def zT (E : zE) : List (ClassId × FieldType) := [(E.2.1 0, .int), (E.2.1 1, .boolean), (E.2.1 3, .array .int)]
def zA (E : zE) (sz : Nat) : Nat → Prop := fun q => (∃ i, i < 50 ∧ q = E.2.2 i) ∨ sz ≤ q
theorem zO_cg (E : zE) {μ μ' : zM} (ov : Nat → Int64) (h : μ 63 = μ' 63) : zO E μ ov = zO E μ' ov := by
  simp only [zO, zfs, h]
theorem zAr_cg (E : zE) {μ μ' : zM} (h : ∀ k, k < 43 → μ k = μ' k) : zAr E μ = zAr E μ' := by
  unfold zAr
  apply List.map_congr_left
  intro k hk
  rw [h k (List.mem_range.mp hk)]
theorem zAr_at (E : zE) (μ : zM) {k : Nat} (hk : k < 43) : (zAr E μ)[k]? = some (zad E k, .inl (E.2.1 (zkd k), zlen k, .inl (μ k))) := by
  unfold zAr
  rw [List.getElem?_map, List.getElem?_range hk]
  rfl
theorem zAr_len (E : zE) (μ : zM) : (zAr E μ).length = 43 := by
  unfold zAr
  rw [List.length_map, List.length_range]
theorem zG_ar (E : zE) (μ : zM) (ov : Nat → Int64) {k : Nat} (hk : k < 43) : (zG E μ ov)[7 + k]? = some (zad E k, .inl (E.2.1 (zkd k), zlen k, .inl (μ k))) := by
  unfold zG
  rw [List.getElem?_append_right (show (zO E μ ov).length ≤ 7 + k from Nat.le_add_right 7 k), show 7 + k - (zO E μ ov).length = k from Nat.add_sub_cancel_left 7 k]
  exact zAr_at E μ hk
theorem zG_o (E : zE) (μ : zM) (ov : Nat → Int64) {i : Nat} (hi : i < 7) : (zG E μ ov)[i]? = (zO E μ ov)[i]? := List.getElem?_append_left hi
theorem zG_set_ar (E : zE) (μ : zM) (ov : Nat → Int64) {k : Nat} (hk : k < 43) (f : Nat → Int32) : (zG E μ ov).set (7 + k) (zad E k, .inl (E.2.1 (zkd k), zlen k, .inl f)) = zG E (zur μ k f) ov := by
  have h63 : μ 63 = (zur μ k f) 63 := (zur_n μ f (by omega)).symm
  unfold zG
  rw [← zO_cg E ov h63, List.set_append_right _ _ (show (zO E μ ov).length ≤ 7 + k from Nat.le_add_right 7 k), show 7 + k - (zO E μ ov).length = k from Nat.add_sub_cancel_left 7 k]
  congr 1
  apply List.ext_getElem?
  intro i
  rw [List.getElem?_set]
  by_cases hi : i < 43
  · rw [zAr_at E (zur μ k f) hi]
    by_cases e : k = i
    · subst e
      rw [if_pos rfl, if_pos (by rw [zAr_len]; exact hk), zur_s]
    · rw [if_neg e, zAr_at E μ hi, zur_n μ f (fun h => e h.symm)]
  · have h1 : (zAr E (zur μ k f))[i]? = none := List.getElem?_eq_none (by rw [zAr_len]; omega)
    have h2 : (zAr E μ)[i]? = none := List.getElem?_eq_none (by rw [zAr_len]; omega)
    rw [h1, if_neg (by omega), h2]
/-- a number of an object is written: the objects' numbers are the row 63 -/
theorem zG_set_sc (E : zE) (μ : zM) (ov : Nat → Int64) {q j : Nat} {x : Int32} {c : Nat × va_E} (hq : q < 7) (h : (zO E μ ov).set q c = zO E (zu μ 63 j x) ov) : (zG E μ ov).set q c = zG E (zu μ 63 j x) ov := by
  unfold zG
  rw [List.set_append_left _ _ (show q < (zO E μ ov).length from hq), h]
  rw [zAr_cg E (μ := μ) (μ' := zu μ 63 j x) (fun k hk => (zu_n μ j x (by omega)).symm)]
theorem zG_ad {E : zE} {μ : zM} {ov : Nat → Int64} {i : Nat} {q : Nat × va_E} (h : (zG E μ ov)[i]? = some q) : i < 50 ∧ q.1 = E.2.2 i := by
  by_cases hi : i < 7
  · rw [zG_o E μ ov hi] at h
    refine ⟨Nat.lt_of_lt_of_le hi (by decide), ?_⟩
    rcases (show i = 0 ∨ i = 1 ∨ i = 2 ∨ i = 3 ∨ i = 4 ∨ i = 5 ∨ i = 6 by omega) with rfl | rfl | rfl | rfl | rfl | rfl | rfl <;> (cases h; rfl)
  · obtain ⟨k, rfl⟩ : ∃ k, i = 7 + k := ⟨i - 7, by omega⟩
    by_cases hk : k < 43
    · rw [zG_ar E μ ov hk] at h
      cases h
      exact ⟨by omega, rfl⟩
    · exfalso
      have hl : (zG E μ ov).length = 50 := by unfold zG; rw [List.length_append, zAr_len]; rfl
      have := (List.getElem?_eq_some_iff.mp h).1
      omega
theorem zG_in {E : zE} {μ : zM} {ov : Nat → Int64} {sz i : Nat} {q : Nat × va_E} (h : (zG E μ ov)[i]? = some q) : zA E sz q.1 := Or.inl ⟨i, (zG_ad h).1, (zG_ad h).2⟩
theorem zA_mono {E : zE} {a b : Nat} (h : a ≤ b) : ∀ q, zA E b q → zA E a q := fun _ hq => hq.elim Or.inl (fun z => Or.inr (Nat.le_trans h z))
/-! locals: what each holds, if it's known -/
def zl : Nat → List (Option Value) → List (Nat × Value)
  | _, [] => []
  | i, none :: r => zl (i + 1) r
  | i, some v :: r => (i, v) :: zl (i + 1) r
def zL (ls : Array Slot) (nL : Nat) (lv : List (Option Value)) : Prop := lv_has ls nL (zl 0 lv)
theorem zl_mem : ∀ (lv : List (Option Value)) (i : Nat) (q : Nat × Value), q ∈ zl i lv ↔ i ≤ q.1 ∧ lv[q.1 - i]? = some (some q.2)
  | [], i, q => by simp [zl]
  | none :: r, i, q => by
    rw [zl, zl_mem r (i + 1) q]
    constructor
    · rintro ⟨h1, h2⟩
      refine ⟨by omega, ?_⟩
      rw [show q.1 - i = (q.1 - (i + 1)) + 1 by omega, List.getElem?_cons_succ]
      exact h2
    · rintro ⟨h1, h2⟩
      by_cases e : q.1 = i
      · rw [e, Nat.sub_self, List.getElem?_cons_zero] at h2
        cases h2
      · rw [show q.1 - i = (q.1 - (i + 1)) + 1 by omega, List.getElem?_cons_succ] at h2
        exact ⟨by omega, h2⟩
  | some v :: r, i, q => by
    rw [zl, List.mem_cons, zl_mem r (i + 1) q]
    constructor
    · rintro (rfl | ⟨h1, h2⟩)
      · exact ⟨Nat.le_refl _, by rw [Nat.sub_self, List.getElem?_cons_zero]⟩
      · refine ⟨by omega, ?_⟩
        rw [show q.1 - i = (q.1 - (i + 1)) + 1 by omega, List.getElem?_cons_succ]
        exact h2
    · rintro ⟨h1, h2⟩
      by_cases e : q.1 = i
      · rw [e, Nat.sub_self, List.getElem?_cons_zero] at h2
        have h3 : v = q.2 := by cases h2; rfl
        exact Or.inl (by rw [h3, ← e])
      · rw [show q.1 - i = (q.1 - (i + 1)) + 1 by omega, List.getElem?_cons_succ] at h2
        exact Or.inr ⟨by omega, h2⟩
theorem zL_at {ls : Array Slot} {nL : Nat} {lv : List (Option Value)} (h : zL ls nL lv) {i : Nat} {v : Value} (hk : lv[i]? = some (some v)) : ls[i]? = some (.val v) := h.2.2 (i, v) ((zl_mem lv 0 (i, v)).mpr ⟨Nat.zero_le _, hk⟩)
/-- nothing of two slots stands just ahead of the place i -/
def zc1 (lv : List (Option Value)) (i : Nat) : Prop := ∀ (j : Nat) (w : Value), j + 1 = i → lv[j]? = some (some w) → ¬ w.category = 2
theorem zst1 {lv : List (Option Value)} {i : Nat} {v : Value} (hc : zc1 lv i) : ∀ q ∈ zl 0 (lv.set i (some v)), q ∈ (i, v) :: (zl 0 lv).filter (fun q => !(q.1 == i) && !(q.1 + 1 == i && q.2.category == 2)) := by
  intro q hq
  obtain ⟨-, h2⟩ := (zl_mem _ 0 q).mp hq
  rw [Nat.sub_zero, List.getElem?_set] at h2
  by_cases e : i = q.1
  · rw [if_pos e] at h2
    split at h2
    · have h3 : v = q.2 := by cases h2; rfl
      exact List.mem_cons.mpr (Or.inl (by rw [e, h3]))
    · cases h2
  · rw [if_neg e] at h2
    refine List.mem_cons_of_mem _ (List.mem_filter.mpr ⟨(zl_mem lv 0 q).mpr ⟨Nat.zero_le _, by rw [Nat.sub_zero]; exact h2⟩, ?_⟩)
    have n1 : (q.1 == i) = false := by simp; exact fun h => e h.symm
    by_cases e2 : q.1 + 1 = i
    · have := hc q.1 q.2 e2 h2
      simp [n1, this]
    · simp [n1, e2]
theorem zst2 {lv : List (Option Value)} {i : Nat} {v : Value} (hc : zc1 lv i) : ∀ q ∈ zl 0 ((lv.set i (some v)).set (i + 1) none), q ∈ (i, v) :: (zl 0 lv).filter (fun q => !(q.1 == i) && (!(q.1 == i + 1) && !(q.1 + 1 == i && q.2.category == 2))) := by
  intro q hq
  obtain ⟨-, h2⟩ := (zl_mem _ 0 q).mp hq
  rw [Nat.sub_zero, List.getElem?_set] at h2
  by_cases e0 : i + 1 = q.1
  · rw [if_pos e0] at h2
    split at h2
    · cases h2
    · cases h2
  rw [if_neg e0, List.getElem?_set] at h2
  by_cases e : i = q.1
  · rw [if_pos e] at h2
    split at h2
    · have h3 : v = q.2 := by cases h2; rfl
      exact List.mem_cons.mpr (Or.inl (by rw [e, h3]))
    · cases h2
  · rw [if_neg e] at h2
    refine List.mem_cons_of_mem _ (List.mem_filter.mpr ⟨(zl_mem lv 0 q).mpr ⟨Nat.zero_le _, by rw [Nat.sub_zero]; exact h2⟩, ?_⟩)
    have n1 : (q.1 == i) = false := by simp; exact fun h => e h.symm
    have n0 : (q.1 == i + 1) = false := by simp; exact fun h => e0 h.symm
    by_cases e2 : q.1 + 1 = i
    · have := hc q.1 q.2 e2 h2
      simp [n1, n0, this]
    · simp [n1, n0, e2]
theorem zL_of {ls : Array Slot} {nL : Nat} {l : List (Nat × Value)} {lv : List (Option Value)} (h : lv_has ls nL l) (hs : ∀ q ∈ zl 0 lv, q ∈ l) : zL ls nL lv := ⟨h.1, h.2.1, fun q hq => h.2.2 q (hs q hq)⟩
/-- less is known -/
def zle : List (Option Value) → List (Option Value) → Prop
  | [], _ => True
  | none :: a, _ :: b => zle a b
  | some v :: a, w :: b => w = some v ∧ zle a b
  | none :: a, [] => zle a []
  | some _ :: _, [] => False
theorem zle_at : ∀ (a b : List (Option Value)), zle a b → ∀ (i : Nat) (v : Value), a[i]? = some (some v) → b[i]? = some (some v)
  | [], _, _, i, v, h => by simp at h
  | none :: a, [], hz, i, v, h => by
    cases i with
    | zero => simp at h
    | succ i =>
      rw [List.getElem?_cons_succ] at h
      have := zle_at a [] hz i v h
      simp at this
  | none :: a, _ :: b, hz, i, v, h => by
    cases i with
    | zero => simp at h
    | succ i =>
      rw [List.getElem?_cons_succ] at h ⊢
      exact zle_at a b hz i v h
  | some x :: a, w :: b, hz, i, v, h => by
    obtain ⟨h1, h2⟩ := hz
    cases i with
    | zero =>
      rw [List.getElem?_cons_zero] at h ⊢
      rw [h1]
      exact h
    | succ i =>
      rw [List.getElem?_cons_succ] at h ⊢
      exact zle_at a b h2 i v h
theorem zL_le {ls : Array Slot} {nL : Nat} {a b : List (Option Value)} (h : zL ls nL b) (hz : zle a b) : zL ls nL a := zL_of h (fun q hq => by
  obtain ⟨h1, h2⟩ := (zl_mem a 0 q).mp hq
  exact (zl_mem b 0 q).mpr ⟨h1, zle_at a b hz _ _ h2⟩)
/-- the locals at a method's entry -/
def zin (nL : Nat) (av : List Value) : List (Option Value) := av.map some ++ List.replicate (nL - av.length) none
theorem zin_at : ∀ (av : List Value) (i : Nat), (∀ v ∈ av, v.category = 1) → lv_args i av = zl i (av.map some)
  | [], i, _ => rfl
  | v :: r, i, h => by
    rw [lv_args, List.map_cons, zl, if_neg (by rw [h v List.mem_cons_self]; decide), zin_at r (i + 1) (fun w hw => h w (List.mem_cons_of_mem _ hw))]
theorem zl_app : ∀ (a : List (Option Value)) (i n : Nat), zl i (a ++ List.replicate n none) = zl i a
  | [], i, 0 => rfl
  | [], i, n + 1 => by
    have := zl_app [] (i + 1) n
    rw [List.nil_append] at this
    rw [List.nil_append, List.replicate_succ]
    exact this
  | none :: a, i, n => by rw [List.cons_append, zl, zl, zl_app a (i + 1) n]
  | some v :: a, i, n => by rw [List.cons_append, zl, zl, zl_app a (i + 1) n]
theorem zL_in {av : List Value} {nL : Nat} (h1 : ∀ v ∈ av, v.category = 1) {ls : Array Slot} (h : lv_has ls nL (lv_args 0 av)) : zL ls nL (zin nL av) := by
  unfold zL zin
  rw [zl_app, ← zin_at av 0 h1]
  exact h
