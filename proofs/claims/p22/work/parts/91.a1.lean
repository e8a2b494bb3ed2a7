/-! ===== what the tables and the statement say of the start ===== -/
theorem zy_w {i : Nat} {w : Cond} (h : tables_1[i]? = some w) : w ∈ lw_tbl := List.mem_append_right _ (List.mem_of_getElem? h)
section
variable {args : Array Value} {s : State}
theorem zy_str (hts : ∀ w ∈ lw_tbl, w.before args s = true) : ∀ x ∈ zTx, (Cond.stringRef RX4 x.1 x.2).before args s = true := by
  have tb : ∀ (i : Nat) {w : Cond}, tables_1[i]? = some w → w.before args s = true := fun i w h => hts w (zy_w h)
  unfold zTx
  exact List.forall_mem_cons.mpr ⟨(tb 477 (by decide +kernel)), List.forall_mem_cons.mpr ⟨(tb 487 (by decide +kernel)), List.forall_mem_cons.mpr ⟨(tb 510 (by decide +kernel)), List.forall_mem_cons.mpr ⟨(tb 590 (by decide +kernel)), List.forall_mem_cons.mpr ⟨(tb 531 (by decide +kernel)), List.forall_mem_cons.mpr ⟨(tb 532 (by decide +kernel)), List.forall_mem_cons.mpr ⟨(tb 547 (by decide +kernel)), List.forall_mem_cons.mpr ⟨(tb 548 (by decide +kernel)), List.forall_mem_cons.mpr ⟨(tb 556 (by decide +kernel)), List.forall_mem_cons.mpr ⟨(tb 572 (by decide +kernel)), List.forall_mem_cons.mpr ⟨(tb 573 (by decide +kernel)), List.forall_mem_cons.mpr ⟨(tb 578 (by decide +kernel)), List.forall_mem_cons.mpr ⟨(tb 622 (by decide +kernel)), List.forall_mem_cons.mpr ⟨(tb 630 (by decide +kernel)), List.forall_mem_cons.mpr ⟨(tb 631 (by decide +kernel)), List.forall_mem_cons.mpr ⟨(tb 602 (by decide +kernel)), List.forall_mem_cons.mpr ⟨(tb 614 (by decide +kernel)), List.forall_mem_cons.mpr ⟨(tb 523 (by decide +kernel)), List.forall_mem_cons.mpr ⟨(tb 251 (by decide +kernel)), List.forall_mem_cons.mpr ⟨(tb 298 (by decide +kernel)), List.forall_mem_cons.mpr ⟨(tb 316 (by decide +kernel)), List.forall_mem_cons.mpr ⟨(tb 355 (by decide +kernel)), List.forall_mem_cons.mpr ⟨(tb 458 (by decide +kernel)), fun _ h => absurd h List.not_mem_nil⟩⟩⟩⟩⟩⟩⟩⟩⟩⟩⟩⟩⟩⟩⟩⟩⟩⟩⟩⟩⟩⟩⟩
theorem zy_sa (hts : ∀ w ∈ lw_tbl, w.before args s = true) {cur : ClassId} (hc : s.vm.findClass RX4 = some cur) (k : Nat) : ∃ a, ∀ x ∈ zTx, x.1 = k → (Term.string RX4 k).eval args s none [] s = some (.ref a) := by
  by_cases h : ∃ x, x ∈ zTx ∧ x.1 = k
  · obtain ⟨x, hx, rfl⟩ := h
    obtain ⟨_, _, _, a, _, _, _, _, _, hev⟩ := Cond.stringRef_spec hc (zy_str hts x hx)
    exact ⟨a, fun _ _ _ => hev⟩
  · exact ⟨0, fun x hx e => absurd ⟨x, hx, e⟩ h⟩
theorem zy_nest (hts : ∀ w ∈ lw_tbl, w.before args s = true) : ∀ x ∈ zNs, va_Nw (.methodLinkNest x.1 x.2.1 x.2.2 RX4) s := by
  have tb : ∀ (i : Nat) {w : Cond}, tables_1[i]? = some w → w.before args s = true := fun i w h => hts w (zy_w h)
  unfold zNs
  exact List.forall_mem_cons.mpr ⟨va_Nw.of rfl (tb 23 (by decide +kernel)), List.forall_mem_cons.mpr ⟨va_Nw.of rfl (tb 49 (by decide +kernel)), List.forall_mem_cons.mpr ⟨va_Nw.of rfl (tb 85 (by decide +kernel)), List.forall_mem_cons.mpr ⟨va_Nw.of rfl (tb 98 (by decide +kernel)), List.forall_mem_cons.mpr ⟨va_Nw.of rfl (tb 661 (by decide +kernel)), fun _ h => absurd h List.not_mem_nil⟩⟩⟩⟩⟩
theorem zy_decl (hts : ∀ w ∈ lw_tbl, w.before args s = true) : ∀ y ∈ zDs, va_Nw (.declares (Bundle.initS y)) s := by
  have tb : ∀ (i : Nat) {w : Cond}, tables_1[i]? = some w → w.before args s = true := fun i w h => hts w (zy_w h)
  unfold zDs
  exact List.forall_mem_cons.mpr ⟨va_Nw.of rfl (tb 214 (by decide +kernel)), List.forall_mem_cons.mpr ⟨va_Nw.of rfl (tb 216 (by decide +kernel)), List.forall_mem_cons.mpr ⟨va_Nw.of rfl (tb 218 (by decide +kernel)), fun _ h => absurd h List.not_mem_nil⟩⟩⟩
theorem zy_cast (hts : ∀ w ∈ lw_tbl, w.before args s = true) : ∀ x ∈ zEx, va_Nw (.castable x x) s := by
  have tb : ∀ (i : Nat) {w : Cond}, tables_1[i]? = some w → w.before args s = true := fun i w h => hts w (zy_w h)
  unfold zEx
  exact List.forall_mem_cons.mpr ⟨va_Nw.of rfl (tb 309 (by decide +kernel)), List.forall_mem_cons.mpr ⟨va_Nw.of rfl (tb 480 (by decide +kernel)), List.forall_mem_cons.mpr ⟨va_Nw.of rfl (tb 212 (by decide +kernel)), fun _ h => absurd h List.not_mem_nil⟩⟩⟩
theorem zy_ncast (hgv : (Jvm.Cond.and given_1 narrow_1).before args s = true) : ∀ x ∈ zEx, ∀ y ∈ zEx, x ≠ y → va_Nc x y s := by
  have hs := flat_of_before _ hgv
  unfold zEx
  exact List.forall_mem_cons.mpr ⟨List.forall_mem_cons.mpr ⟨fun n => absurd rfl n, List.forall_mem_cons.mpr ⟨fun _ => va_Nc.of (hs (.not (.castable zIA zIS)) (by decide +kernel)), List.forall_mem_cons.mpr ⟨fun _ => va_Nc.of (hs (.not (.castable zIA zIO)) (by decide +kernel)), fun _ h => absurd h List.not_mem_nil⟩⟩⟩, List.forall_mem_cons.mpr ⟨List.forall_mem_cons.mpr ⟨fun _ => va_Nc.of (hs (.not (.castable zIS zIA)) (by decide +kernel)), List.forall_mem_cons.mpr ⟨fun n => absurd rfl n, List.forall_mem_cons.mpr ⟨fun _ => va_Nc.of (hs (.not (.castable zIS zIO)) (by decide +kernel)), fun _ h => absurd h List.not_mem_nil⟩⟩⟩, List.forall_mem_cons.mpr ⟨List.forall_mem_cons.mpr ⟨fun _ => va_Nc.of (hs (.not (.castable zIO zIA)) (by decide +kernel)), List.forall_mem_cons.mpr ⟨fun _ => va_Nc.of (hs (.not (.castable zIO zIS)) (by decide +kernel)), List.forall_mem_cons.mpr ⟨fun n => absurd rfl n, fun _ h => absurd h List.not_mem_nil⟩⟩⟩, fun _ h => absurd h List.not_mem_nil⟩⟩⟩
theorem zy_Wd (hts : ∀ w ∈ lw_tbl, w.before args s = true) (hgv : (Jvm.Cond.and given_1 narrow_1).before args s = true) {cur : ClassId} (hc : s.vm.findClass RX4 = some cur) : ∃ sa, zWd sa s := by
  refine ⟨fun k => Classical.choose (zy_sa hts hc k), zy_nest hts, va_AOA.of (hts _ (zy_w (i := 54) (by decide +kernel))), fun x hx => ⟨zy_cast hts x hx, zy_decl hts⟩, zy_ncast hgv, fun x hx => vk_R.of (zy_str hts x hx) (Classical.choose_spec (zy_sa hts hc x.1) x hx rfl)⟩
theorem zy_St (hts : ∀ w ∈ lw_tbl, w.before args s = true) (hgv : (Jvm.Cond.and given_1 narrow_1).before args s = true) {E : zE} (hE : ∀ i, i < 50 → s.heap.size ≤ E.2.2 i) : zSt E s.heap.size s s.heap := by
  have tb : ∀ (i : Nat) {w : Cond}, tables_1[i]? = some w → w.before args s = true := fun i w h => hts w (zy_w h)
  have hs := flat_of_before _ hgv
  have hA : ∀ a : Nat, a < s.heap.size → ¬ zA E s.heap.size a := by
    rintro a h (⟨i, hi, e⟩ | z)
    · have := hE i hi
      omega
    · omega
  exact ⟨vx_Zqof (args := args) (tb 237 (by decide +kernel)) (tb 6 (by decide +kernel)) (hs (.isRef (.static Bundle.tN "UNASSIGNED_STACK" Bundle.steD)) (by decide +kernel)) hA, vx_Zqof (args := args) (tb 239 (by decide +kernel)) (tb 6 (by decide +kernel)) (hs (.isRef (.static Bundle.tN "SUPPRESSED_SENTINEL" Bundle.listD)) (by decide +kernel)) hA⟩
theorem zy_arr {ty : FieldType} (h : (Cond.arrayClass ty).before args s = true) (hn : ∀ C, ty ≠ .object C) : ∃ c, ArrOfT s c ty ∧ va_RA s c ty := by
  obtain ⟨c, k, comp, h1, h2, h3⟩ := Cond.arrayClass_spec h
  refine ⟨c, fun n z => ⟨fun k h => (by cases h), k, h2, comp, h3⟩, ?_⟩
  cases ty with
  | object C => exact absurd rfl (hn C)
  | _ => exact h1
/-- the classes of the objects and of the arrays, as the tables have them -/
theorem zy_K (hts : ∀ w ∈ lw_tbl, w.before args s = true) : ∃ (D : va_G) (ty : Nat → ClassId), va_K D vwCl [(ty 0, .int), (ty 1, .boolean), (ty 3, .array .int)] s := by
  have tb : ∀ (i : Nat) {w : Cond}, tables_1[i]? = some w → w.before args s = true := fun i w h => hts w (zy_w h)
  obtain ⟨c0, S0, h0⟩ := u_known (C := RX0) (T := TX0) (N := 2) (n := 2) hts inX0 (tb 84 (by decide +kernel))
  obtain ⟨c1, S1, h1⟩ := u_known (C := RX1) (T := TX1) (N := 6) (n := 6) hts inX1 (tb 22 (by decide +kernel))
  obtain ⟨c2, S2, h2⟩ := u_known (C := RX2) (T := TX2) (N := 9) (n := 9) hts inX2 (tb 48 (by decide +kernel))
  obtain ⟨c3, S3, h3⟩ := u_known (C := RX3) (T := TX3) (N := 12) (n := 12) hts inX3 (tb 97 (by decide +kernel))
  obtain ⟨c4, S4, h4⟩ := u_known (C := RX4) (T := TX4) (N := 10) (n := 10) hts inX4 (tb 14 (by decide +kernel))
  obtain ⟨a0, g0, r0⟩ := zy_arr (ty := .int) (tb 46 (by decide +kernel)) (fun _ h => by cases h)
  obtain ⟨a1, g1, r1⟩ := zy_arr (ty := .boolean) (tb 139 (by decide +kernel)) (fun _ h => by cases h)
  obtain ⟨comp, a3, k3, -, -, e2, e3, e4⟩ := (va_AOA.of (hts _ (zy_w (i := 54) (by decide +kernel))) : va_AOA .int s).spec
  refine ⟨(fun k => [c0, c1, c2, c3, c4].getD k 0, fun k => [S0, S1, S2, S3, S4].getD k S0), fun k => [a0, a1, 0, a3].getD k 0, fun c q hq => ?_, fun k q hq => ?_⟩
  · match c, hq with
    | 0, hq => cases hq; exact h0
    | 1, hq => cases hq; exact h1
    | 2, hq => cases hq; exact h2
    | 3, hq => cases hq; exact h3
    | 4, hq => cases hq; exact h4
    | c + 5, hq => simp [vwCl] at hq
  · match k, hq with
    | 0, hq => cases hq; exact ⟨g0, r0⟩
    | 1, hq => cases hq; exact ⟨g1, r1⟩
    | 2, hq => cases hq; exact ⟨fun n z => ⟨fun k h => (by cases h), k3, e2, comp, e3⟩, e4⟩
    | k + 3, hq => simp at hq
end
theorem zy_fl {l : Launch} (h : l.flags = flags0) : l.stackTraces = false := by
  unfold Launch.stackTraces
  rw [h]
  decide +kernel
