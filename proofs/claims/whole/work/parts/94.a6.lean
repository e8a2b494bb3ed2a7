/-! ===== the law: its start and its end (the text of kit/laws/SKELETON.whole), rows that read the script ===== -/
def R_law : String := "TickFallLaw"
def lw_P (b : Addr) (xs : List Int32) (args : Array Value) (s : State) : Prop := args = #[.ref b] ∧ s.IntsAt b xs ∧ xs.length ≤ 2560 ∧ (Jvm.Cond.and given_1 narrow_1).before args s = true
def lw_Q (_ : Array Value) (s : State) (o : Outcome) (t : State) : Prop := o = .returned (some (.int 1)) ∧ Framed s o t [] 601024 7293034
def lw_Z (below : List Frame) (a : Array Value) (s : State) : State → Prop := fun t => ∃ o, t.status = .running ∧ Ended t below o ∧ lw_Q a s o t
/-- the law's own end, with 1 on the stack, nothing written that was there before, its room as the claim has it -/
theorem lw_ret {p : Program} {l : Launch} {e : Env} {s : State} {m : MethodId} {below : List Frame} {meth : Method} {c : Code} {b : Nat} (hx : p.tables.exec = Jvm.exec) (hb : c.code = code) (hr : meth.sig.returnType = ret) (hlocks : meth.locks = false) {pc : Nat} {H : Heap} {ls : Array Slot} (hdg : decode code pc = .ok (.ireturn, 1)) : W p l e room_1 s m #[Value.ref b] below meth c H [] 601024 7293034 (lw_Z below #[Value.ref b] s) (F0 m pc ls [.int 1]) := by
  intro T hT X
  obtain ⟨fs, hret, hrun, hended, hW, hframe⟩ := X.leave (v := some (.int 1)) (hlocks := hlocks) (fun h => by rw [hr] at h; cases h)
  have hmeth' : T.vm.method? m = some meth := X.method'
  refine ⟨T.setFrames fs, ?_, .returned (some (.int 1)), hrun, hended, rfl, ⟨_, rfl⟩, hW, hframe⟩
  jvm_step X.here [X.here.top, hx, hb, hdg, hmeth', hr, ret, narrow_b1]
  (try refine ⟨rfl, ?_⟩); (try refine ⟨rfl, ?_⟩)
  first | (intro acts; rw [hret _ acts rfl rfl rfl]) | rw [hret _ _ rfl rfl rfl]
  exact Steps.refl _
/-- what holds at the law's entry: the machine, the code, the tables' words (any of lw_tbl by 'hts w (by decide +kernel)'), the script of L ints xs at the cell b, what the Statement gives of the start (any of its parts by flat_of_before) -/
def lw_At (p : Program) (s : State) (m : MethodId) (meth : Method) (c : Code) (b L : Nat) (xs : Nat → Int32) : Prop :=
  p.tables.exec = Jvm.exec ∧ c.code = code ∧ meth.sig.returnType = ret ∧ c.maxLocals = 7 ∧ s.vm.findClass R_law = some m.cls ∧ (∀ w ∈ lw_tbl, w.before #[Value.ref b] s = true) ∧ va_X b L xs s s.heap ∧ b < s.heap.size ∧ meth.locks = false ∧ (Jvm.Cond.and given_1 narrow_1).before #[Value.ref b] s = true
section ZLAW
variable {p : Program} {l : Launch} {e : Env} {R : Room} {s : State} {m : MethodId} {args : Array Value} {below : List Frame} {meth : Method} {c : Code} {E : zE} {sa : Nat → Nat} {nL cells slots : Nat} {Q : State → Prop} {cc : ByteArray} {own : String} {Ts : List Cond} {pc : Nat} {lv : List (Option Value)} {st : List Value} {μ : zM} {ov : Nat → Int64}
theorem z_sld (C : zC p s m args c E sa cc nL own Ts) {b L : Nat} {xs : Nat → Int32} (hX : va_X b L xs s s.heap) (hbl : b < s.heap.size) (hbA : ¬ zA E s.heap.size b) {i : Int32} (j : Nat) (hi : i = nI j) (hj : j < L) (hL : L ≤ 2560) (d : decode cc pc = .ok (.iaload, 1)) (k : zW p l e R s m args below meth c E nL cells slots Q (pc + 1) lv (.int (xs j) :: st) μ ov) : zW p l e R s m args below meth c E nL cells slots Q pc lv (.int i :: .ref b :: st) μ ov := by
  intro H locs ls hP hD hS hl
  subst hi
  have h := k H locs ls hP hD hS hl
  rw [← nI_clamp (n := j) (by omega)] at h
  exact va_sld C.1.1 C.1.2.1 hX hbl hbA hS (vp_in_nI hj (by omega)) d h
theorem z_slen (C : zC p s m args c E sa cc nL own Ts) {b L : Nat} {xs : Nat → Int32} (hX : va_X b L xs s s.heap) (hbl : b < s.heap.size) (hbA : ¬ zA E s.heap.size b) (d : decode cc pc = .ok (.arraylength, 1)) (k : zW p l e R s m args below meth c E nL cells slots Q (pc + 1) lv (.int (nI L) :: st) μ ov) : zW p l e R s m args below meth c E nL cells slots Q pc lv (.ref b :: st) μ ov :=
  fun H locs ls hP hD hS hl => va_slen C.1.1 C.1.2.1 hX hbl hbA hS d (k H locs ls hP hD hS hl)
/-- the words of a wrapper's call, and those of what it catches -/
theorem zHL_law : GoodIn wsL_law zHL := fun w h => by
  unfold zHL at h
  rcases List.mem_cons.mp h with rfl | h
  · exact ggL_law_L_clock _ (by decide +kernel)
  rcases List.mem_cons.mp h with rfl | h
  · exact ggL_law_L_adopt _ (by decide +kernel)
  rcases List.mem_cons.mp h with rfl | h
  · exact ggL_law_L_vote _ (by decide +kernel)
  · exact absurd h List.not_mem_nil
theorem zwS_g {own : String} {i : Nat} {y : MethodName} {ws : List Cond} (g : GoodIn wsL_law (va_wsS own i y ws)) : GoodIn wsL_law (va_wsS own i y (ws ++ zHL)) := fun w h => by
  unfold va_wsS at g h
  rw [← List.append_assoc] at h
  exact (List.mem_append.mp h).elim (g w) (zHL_law w)
end ZLAW
theorem zsw (v : Int32) : v = 0 ∨ v = 1 ∨ v = 2 ∨ v = 3 ∨ v = 4 ∨ v = 5 ∨ v = 6 ∨ v = 7 ∨ v = 8 ∨ v = 9 ∨ v = 10 ∨ v = 11 ∨ v = 12 ∨ v = 13 ∨ v = 14 ∨ v = 15 ∨ v = 16 ∨ v = 17 ∨ v = 18 ∨ (v.toInt < 0 ∨ 18 < v.toInt) := by
  by_cases c0 : v = 0
  · exact Or.inl c0
  by_cases c1 : v = 1
  · exact Or.inr (Or.inl c1)
  by_cases c2 : v = 2
  · exact Or.inr (Or.inr (Or.inl c2))
  by_cases c3 : v = 3
  · exact Or.inr (Or.inr (Or.inr (Or.inl c3)))
  by_cases c4 : v = 4
  · exact Or.inr (Or.inr (Or.inr (Or.inr (Or.inl c4))))
  by_cases c5 : v = 5
  · exact Or.inr (Or.inr (Or.inr (Or.inr (Or.inr (Or.inl c5)))))
  by_cases c6 : v = 6
  · exact Or.inr (Or.inr (Or.inr (Or.inr (Or.inr (Or.inr (Or.inl c6))))))
  by_cases c7 : v = 7
  · exact Or.inr (Or.inr (Or.inr (Or.inr (Or.inr (Or.inr (Or.inr (Or.inl c7)))))))
  by_cases c8 : v = 8
  · exact Or.inr (Or.inr (Or.inr (Or.inr (Or.inr (Or.inr (Or.inr (Or.inr (Or.inl c8))))))))
  by_cases c9 : v = 9
  · exact Or.inr (Or.inr (Or.inr (Or.inr (Or.inr (Or.inr (Or.inr (Or.inr (Or.inr (Or.inl c9)))))))))
  by_cases c10 : v = 10
  · exact Or.inr (Or.inr (Or.inr (Or.inr (Or.inr (Or.inr (Or.inr (Or.inr (Or.inr (Or.inr (Or.inl c10))))))))))
  by_cases c11 : v = 11
  · exact Or.inr (Or.inr (Or.inr (Or.inr (Or.inr (Or.inr (Or.inr (Or.inr (Or.inr (Or.inr (Or.inr (Or.inl c11)))))))))))
  by_cases c12 : v = 12
  · exact Or.inr (Or.inr (Or.inr (Or.inr (Or.inr (Or.inr (Or.inr (Or.inr (Or.inr (Or.inr (Or.inr (Or.inr (Or.inl c12))))))))))))
  by_cases c13 : v = 13
  · exact Or.inr (Or.inr (Or.inr (Or.inr (Or.inr (Or.inr (Or.inr (Or.inr (Or.inr (Or.inr (Or.inr (Or.inr (Or.inr (Or.inl c13)))))))))))))
  by_cases c14 : v = 14
  · exact Or.inr (Or.inr (Or.inr (Or.inr (Or.inr (Or.inr (Or.inr (Or.inr (Or.inr (Or.inr (Or.inr (Or.inr (Or.inr (Or.inr (Or.inl c14))))))))))))))
  by_cases c15 : v = 15
  · exact Or.inr (Or.inr (Or.inr (Or.inr (Or.inr (Or.inr (Or.inr (Or.inr (Or.inr (Or.inr (Or.inr (Or.inr (Or.inr (Or.inr (Or.inr (Or.inl c15)))))))))))))))
  by_cases c16 : v = 16
  · exact Or.inr (Or.inr (Or.inr (Or.inr (Or.inr (Or.inr (Or.inr (Or.inr (Or.inr (Or.inr (Or.inr (Or.inr (Or.inr (Or.inr (Or.inr (Or.inr (Or.inl c16))))))))))))))))
  by_cases c17 : v = 17
  · exact Or.inr (Or.inr (Or.inr (Or.inr (Or.inr (Or.inr (Or.inr (Or.inr (Or.inr (Or.inr (Or.inr (Or.inr (Or.inr (Or.inr (Or.inr (Or.inr (Or.inr (Or.inl c17)))))))))))))))))
  by_cases c18 : v = 18
  · exact Or.inr (Or.inr (Or.inr (Or.inr (Or.inr (Or.inr (Or.inr (Or.inr (Or.inr (Or.inr (Or.inr (Or.inr (Or.inr (Or.inr (Or.inr (Or.inr (Or.inr (Or.inr (Or.inl c18))))))))))))))))))
  refine Or.inr (Or.inr (Or.inr (Or.inr (Or.inr (Or.inr (Or.inr (Or.inr (Or.inr (Or.inr (Or.inr (Or.inr (Or.inr (Or.inr (Or.inr (Or.inr (Or.inr (Or.inr (Or.inr (?_)))))))))))))))))))
  rw [zeq, show (0 : Int32).toInt = 0 from rfl] at c0
  rw [zeq, show (1 : Int32).toInt = 1 from rfl] at c1
  rw [zeq, show (2 : Int32).toInt = 2 from rfl] at c2
  rw [zeq, show (3 : Int32).toInt = 3 from rfl] at c3
  rw [zeq, show (4 : Int32).toInt = 4 from rfl] at c4
  rw [zeq, show (5 : Int32).toInt = 5 from rfl] at c5
  rw [zeq, show (6 : Int32).toInt = 6 from rfl] at c6
  rw [zeq, show (7 : Int32).toInt = 7 from rfl] at c7
  rw [zeq, show (8 : Int32).toInt = 8 from rfl] at c8
  rw [zeq, show (9 : Int32).toInt = 9 from rfl] at c9
  rw [zeq, show (10 : Int32).toInt = 10 from rfl] at c10
  rw [zeq, show (11 : Int32).toInt = 11 from rfl] at c11
  rw [zeq, show (12 : Int32).toInt = 12 from rfl] at c12
  rw [zeq, show (13 : Int32).toInt = 13 from rfl] at c13
  rw [zeq, show (14 : Int32).toInt = 14 from rfl] at c14
  rw [zeq, show (15 : Int32).toInt = 15 from rfl] at c15
  rw [zeq, show (16 : Int32).toInt = 16 from rfl] at c16
  rw [zeq, show (17 : Int32).toInt = 17 from rfl] at c17
  rw [zeq, show (18 : Int32).toInt = 18 from rfl] at c18
  omega
