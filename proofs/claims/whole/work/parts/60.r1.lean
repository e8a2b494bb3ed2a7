/-! ===== rings: both classes mean the same by a ring ===== -/
def zoN (x y c : Nat) : Nat := if x == c then y else if y == c then x else 9
def zrN (a1 a2 b1 b2 c1 c2 : Nat) : Bool :=
  let isB := !(zoN b1 b2 a2 == 9)
  let t := if isB then zoN b1 b2 a2 else zoN c1 c2 a2
  let u := if isB then zoN c1 c2 t else zoN b1 b2 t
  !(t == 9) && !(t == a1) && (u == a1)
def zxN (a1 a2 b1 b2 c1 c2 : Nat) : Bool := ((2 ^ a1 ||| 2 ^ a2) ^^^ (2 ^ b1 ||| 2 ^ b2) ^^^ (2 ^ c1 ||| 2 ^ c2)) == 0
def zkN (a1 a2 b1 b2 c1 c2 : Nat) : Bool :=
  let isB := !(zoN b1 b2 a2 == 9)
  let t := if isB then zoN b1 b2 a2 else zoN c1 c2 a2
  (zrN a1 a2 b1 b2 c1 c2 == zxN a1 a2 b1 b2 c1 c2) &&
  (!(zrN a1 a2 b1 b2 c1 c2) || (if isB then ((b1 == a2) == (b1 == a2 || b2 == a1)) && ((c1 == t) == (c1 == a2 || c2 == a1)) else ((c1 == a2) == (c1 == a2 || c2 == a1)) && ((b1 == t) == (b1 == a2 || b2 == a1))))
def zaN : Bool := (List.range 6).all fun a1 => (List.range 6).all fun a2 => (a1 == a2) || (List.range 6).all fun b1 => (List.range 6).all fun b2 => (b1 == b2) || (List.range 6).all fun c1 => (List.range 6).all fun c2 => (c1 == c2) || zkN a1 a2 b1 b2 c1 c2
set_option maxRecDepth 100000 in
set_option maxHeartbeats 4000000 in
theorem zaN_t : zaN = true := by decide +kernel
theorem zkN_t {a1 a2 b1 b2 c1 c2 : Nat} (h1 : a1 < 6) (h2 : a2 < 6) (h3 : b1 < 6) (h4 : b2 < 6) (h5 : c1 < 6) (h6 : c2 < 6) (n1 : a1 ≠ a2) (n2 : b1 ≠ b2) (n3 : c1 ≠ c2) : zkN a1 a2 b1 b2 c1 c2 = true := by
  have h := zaN_t
  unfold zaN at h
  have h := List.all_eq_true.mp h a1 (List.mem_range.mpr h1)
  have h := List.all_eq_true.mp h a2 (List.mem_range.mpr h2)
  rw [Bool.or_eq_true, beq_iff_eq] at h
  have h := h.resolve_left n1
  have h := List.all_eq_true.mp h b1 (List.mem_range.mpr h3)
  have h := List.all_eq_true.mp h b2 (List.mem_range.mpr h4)
  rw [Bool.or_eq_true, beq_iff_eq] at h
  have h := h.resolve_left n2
  have h := List.all_eq_true.mp h c1 (List.mem_range.mpr h5)
  have h := List.all_eq_true.mp h c2 (List.mem_range.mpr h6)
  rw [Bool.or_eq_true, beq_iff_eq] at h
  exact h.resolve_left n3
