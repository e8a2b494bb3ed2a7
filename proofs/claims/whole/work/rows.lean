section
-- ===== PART A: goes FIRST, ahead of the names: the tables' words, and 'selects' of the private methods out of them =====
/-- a private method of a class that the tables say can be made, by its rows of tables_1 -/
def lw_okq (q : MethodName × Nat) : Prop := (q.1.cls ≠ "java/lang/invoke/MethodHandle" ∧ q.1.cls ≠ "java/lang/invoke/VarHandle") ∧ Cond.instantiable q.1.cls q.2 ∈ tables_1 ∧ Cond.privateMethod q.1 ∈ tables_1 ∧ Cond.instanceMethod q.1 ∈ tables_1
theorem lw_p0 : lw_okq (⟨"java/lang/Throwable", "fillInStackTrace", "(I)Ljava/lang/Throwable;"⟩, 6) := ⟨⟨by decide +kernel, by decide +kernel⟩, List.mem_of_getElem? (i := 235) (by decide +kernel), List.mem_of_getElem? (i := 233) (by decide +kernel), List.mem_of_getElem? (i := 234) (by decide +kernel)⟩
theorem lw_p1 : lw_okq (⟨"TickFall", "passOneDay", "()V"⟩, 10) := ⟨⟨by decide +kernel, by decide +kernel⟩, List.mem_of_getElem? (i := 15) (by decide +kernel), List.mem_of_getElem? (i := 399) (by decide +kernel), List.mem_of_getElem? (i := 400) (by decide +kernel)⟩
theorem lw_p2 : lw_okq (⟨"TickFall", "happen", "(I)V"⟩, 10) := ⟨⟨by decide +kernel, by decide +kernel⟩, List.mem_of_getElem? (i := 15) (by decide +kernel), List.mem_of_getElem? (i := 411) (by decide +kernel), List.mem_of_getElem? (i := 412) (by decide +kernel)⟩
theorem lw_p3 : lw_okq (⟨"TickFall", "steered", "(II)I"⟩, 10) := ⟨⟨by decide +kernel, by decide +kernel⟩, List.mem_of_getElem? (i := 15) (by decide +kernel), List.mem_of_getElem? (i := 462) (by decide +kernel), List.mem_of_getElem? (i := 463) (by decide +kernel)⟩
theorem lw_p4 : lw_okq (⟨"TickFall", "meanOrZero", "(I)I"⟩, 10) := ⟨⟨by decide +kernel, by decide +kernel⟩, List.mem_of_getElem? (i := 15) (by decide +kernel), List.mem_of_getElem? (i := 466) (by decide +kernel), List.mem_of_getElem? (i := 467) (by decide +kernel)⟩
theorem lw_p5 : lw_okq (⟨"TickFall", "housesFor", "()I"⟩, 10) := ⟨⟨by decide +kernel, by decide +kernel⟩, List.mem_of_getElem? (i := 15) (by decide +kernel), List.mem_of_getElem? (i := 495) (by decide +kernel), List.mem_of_getElem? (i := 496) (by decide +kernel)⟩
theorem lw_p6 : lw_okq (⟨"TickFall", "openRings", "(I)I"⟩, 10) := ⟨⟨by decide +kernel, by decide +kernel⟩, List.mem_of_getElem? (i := 15) (by decide +kernel), List.mem_of_getElem? (i := 507) (by decide +kernel), List.mem_of_getElem? (i := 508) (by decide +kernel)⟩
theorem lw_p7 : lw_okq (⟨"TickFall$Rings", "gatherFrom", "(ILTickFall$Links;I)V"⟩, 12) := ⟨⟨by decide +kernel, by decide +kernel⟩, List.mem_of_getElem? (i := 98) (by decide +kernel), List.mem_of_getElem? (i := 517) (by decide +kernel), List.mem_of_getElem? (i := 518) (by decide +kernel)⟩
theorem lw_p8 : lw_okq (⟨"TickFall$Links", "bothBits", "(I)I"⟩, 9) := ⟨⟨by decide +kernel, by decide +kernel⟩, List.mem_of_getElem? (i := 49) (by decide +kernel), List.mem_of_getElem? (i := 525) (by decide +kernel), List.mem_of_getElem? (i := 526) (by decide +kernel)⟩
theorem lw_p9 : lw_okq (⟨"TickFall$Rings", "add", "(IIILTickFall$Links;I)V"⟩, 12) := ⟨⟨by decide +kernel, by decide +kernel⟩, List.mem_of_getElem? (i := 98) (by decide +kernel), List.mem_of_getElem? (i := 529) (by decide +kernel), List.mem_of_getElem? (i := 530) (by decide +kernel)⟩
theorem lw_p10 : lw_okq (⟨"TickFall", "hasMeasured", "(II)Z"⟩, 10) := ⟨⟨by decide +kernel, by decide +kernel⟩, List.mem_of_getElem? (i := 15) (by decide +kernel), List.mem_of_getElem? (i := 573) (by decide +kernel), List.mem_of_getElem? (i := 574) (by decide +kernel)⟩
theorem lw_p11 : lw_okq (⟨"TickFall", "hasPassed", "(I)Z"⟩, 10) := ⟨⟨by decide +kernel, by decide +kernel⟩, List.mem_of_getElem? (i := 15) (by decide +kernel), List.mem_of_getElem? (i := 577) (by decide +kernel), List.mem_of_getElem? (i := 578) (by decide +kernel)⟩
theorem lw_p12 : lw_okq (⟨"TickFall$Rings", "areClosedAbove", "(I)Z"⟩, 12) := ⟨⟨by decide +kernel, by decide +kernel⟩, List.mem_of_getElem? (i := 98) (by decide +kernel), List.mem_of_getElem? (i := 620) (by decide +kernel), List.mem_of_getElem? (i := 621) (by decide +kernel)⟩
theorem lw_p13 : lw_okq (⟨"TickFall$Rings", "takenOff", "(I)I"⟩, 12) := ⟨⟨by decide +kernel, by decide +kernel⟩, List.mem_of_getElem? (i := 98) (by decide +kernel), List.mem_of_getElem? (i := 624) (by decide +kernel), List.mem_of_getElem? (i := 625) (by decide +kernel)⟩
theorem lw_p14 : lw_okq (⟨"TickFall", "steeredAnew", "(I)I"⟩, 10) := ⟨⟨by decide +kernel, by decide +kernel⟩, List.mem_of_getElem? (i := 15) (by decide +kernel), List.mem_of_getElem? (i := 643) (by decide +kernel), List.mem_of_getElem? (i := 644) (by decide +kernel)⟩
theorem lw_p15 : lw_okq (⟨"TickFallModel", "goes", "(ZZZ)Z"⟩, 34) := ⟨⟨by decide +kernel, by decide +kernel⟩, List.mem_of_getElem? (i := 657) (by decide +kernel), List.mem_of_getElem? (i := 777) (by decide +kernel), List.mem_of_getElem? (i := 778) (by decide +kernel)⟩
def lw_privs_1 : List (MethodName × Nat) := [(⟨"java/lang/Throwable", "fillInStackTrace", "(I)Ljava/lang/Throwable;"⟩, 6), (⟨"TickFall", "passOneDay", "()V"⟩, 10), (⟨"TickFall", "happen", "(I)V"⟩, 10), (⟨"TickFall", "steered", "(II)I"⟩, 10), (⟨"TickFall", "meanOrZero", "(I)I"⟩, 10), (⟨"TickFall", "housesFor", "()I"⟩, 10), (⟨"TickFall", "openRings", "(I)I"⟩, 10), (⟨"TickFall$Rings", "gatherFrom", "(ILTickFall$Links;I)V"⟩, 12), (⟨"TickFall$Links", "bothBits", "(I)I"⟩, 9), (⟨"TickFall$Rings", "add", "(IIILTickFall$Links;I)V"⟩, 12), (⟨"TickFall", "hasMeasured", "(II)Z"⟩, 10), (⟨"TickFall", "hasPassed", "(I)Z"⟩, 10), (⟨"TickFall$Rings", "areClosedAbove", "(I)Z"⟩, 12), (⟨"TickFall$Rings", "takenOff", "(I)I"⟩, 12), (⟨"TickFall", "steeredAnew", "(I)I"⟩, 10), (⟨"TickFallModel", "goes", "(ZZZ)Z"⟩, 34)]
theorem lw_r1 : ∀ q ∈ lw_privs_1, lw_okq q := List.forall_mem_cons.mpr ⟨lw_p0, List.forall_mem_cons.mpr ⟨lw_p1, List.forall_mem_cons.mpr ⟨lw_p2, List.forall_mem_cons.mpr ⟨lw_p3, List.forall_mem_cons.mpr ⟨lw_p4, List.forall_mem_cons.mpr ⟨lw_p5, List.forall_mem_cons.mpr ⟨lw_p6, List.forall_mem_cons.mpr ⟨lw_p7, List.forall_mem_cons.mpr ⟨lw_p8, List.forall_mem_cons.mpr ⟨lw_p9, List.forall_mem_cons.mpr ⟨lw_p10, List.forall_mem_cons.mpr ⟨lw_p11, List.forall_mem_cons.mpr ⟨lw_p12, List.forall_mem_cons.mpr ⟨lw_p13, List.forall_mem_cons.mpr ⟨lw_p14, List.forall_mem_cons.mpr ⟨lw_p15, fun _ h => absurd h List.not_mem_nil⟩⟩⟩⟩⟩⟩⟩⟩⟩⟩⟩⟩⟩⟩⟩⟩
theorem lw_p16 : lw_okq (⟨"TickFallModel", "isClock", "(I)Z"⟩, 34) := ⟨⟨by decide +kernel, by decide +kernel⟩, List.mem_of_getElem? (i := 657) (by decide +kernel), List.mem_of_getElem? (i := 785) (by decide +kernel), List.mem_of_getElem? (i := 786) (by decide +kernel)⟩
theorem lw_p17 : lw_okq (⟨"TickFallModel", "isLink", "(I)Z"⟩, 34) := ⟨⟨by decide +kernel, by decide +kernel⟩, List.mem_of_getElem? (i := 657) (by decide +kernel), List.mem_of_getElem? (i := 797) (by decide +kernel), List.mem_of_getElem? (i := 798) (by decide +kernel)⟩
theorem lw_p18 : lw_okq (⟨"TickFallModel", "passes", "()V"⟩, 34) := ⟨⟨by decide +kernel, by decide +kernel⟩, List.mem_of_getElem? (i := 657) (by decide +kernel), List.mem_of_getElem? (i := 816) (by decide +kernel), List.mem_of_getElem? (i := 817) (by decide +kernel)⟩
theorem lw_p19 : lw_okq (⟨"TickFallModel", "next", "()I"⟩, 34) := ⟨⟨by decide +kernel, by decide +kernel⟩, List.mem_of_getElem? (i := 657) (by decide +kernel), List.mem_of_getElem? (i := 820) (by decide +kernel), List.mem_of_getElem? (i := 821) (by decide +kernel)⟩
theorem lw_p20 : lw_okq (⟨"TickFallModel", "isAhead", "(II)Z"⟩, 34) := ⟨⟨by decide +kernel, by decide +kernel⟩, List.mem_of_getElem? (i := 657) (by decide +kernel), List.mem_of_getElem? (i := 824) (by decide +kernel), List.mem_of_getElem? (i := 825) (by decide +kernel)⟩
theorem lw_p21 : lw_okq (⟨"TickFallModel", "comes", "(I)V"⟩, 34) := ⟨⟨by decide +kernel, by decide +kernel⟩, List.mem_of_getElem? (i := 657) (by decide +kernel), List.mem_of_getElem? (i := 828) (by decide +kernel), List.mem_of_getElem? (i := 829) (by decide +kernel)⟩
theorem lw_p22 : lw_okq (⟨"TickFallModel", "meanOf", "(I)I"⟩, 34) := ⟨⟨by decide +kernel, by decide +kernel⟩, List.mem_of_getElem? (i := 657) (by decide +kernel), List.mem_of_getElem? (i := 835) (by decide +kernel), List.mem_of_getElem? (i := 836) (by decide +kernel)⟩
theorem lw_p23 : lw_okq (⟨"TickFallModel", "linkOf", "(II)I"⟩, 34) := ⟨⟨by decide +kernel, by decide +kernel⟩, List.mem_of_getElem? (i := 657) (by decide +kernel), List.mem_of_getElem? (i := 839) (by decide +kernel), List.mem_of_getElem? (i := 840) (by decide +kernel)⟩
theorem lw_p24 : lw_okq (⟨"TickFallModel", "hasMeasured", "(II)Z"⟩, 34) := ⟨⟨by decide +kernel, by decide +kernel⟩, List.mem_of_getElem? (i := 657) (by decide +kernel), List.mem_of_getElem? (i := 843) (by decide +kernel), List.mem_of_getElem? (i := 844) (by decide +kernel)⟩
theorem lw_p25 : lw_okq (⟨"TickFallModel", "isDay", "(I)Z"⟩, 34) := ⟨⟨by decide +kernel, by decide +kernel⟩, List.mem_of_getElem? (i := 657) (by decide +kernel), List.mem_of_getElem? (i := 847) (by decide +kernel), List.mem_of_getElem? (i := 848) (by decide +kernel)⟩
theorem lw_p26 : lw_okq (⟨"TickFallModel", "corrected", "(II)I"⟩, 34) := ⟨⟨by decide +kernel, by decide +kernel⟩, List.mem_of_getElem? (i := 657) (by decide +kernel), List.mem_of_getElem? (i := 851) (by decide +kernel), List.mem_of_getElem? (i := 852) (by decide +kernel)⟩
theorem lw_p27 : lw_okq (⟨"TickFallModel", "isRing", "(III)Z"⟩, 34) := ⟨⟨by decide +kernel, by decide +kernel⟩, List.mem_of_getElem? (i := 657) (by decide +kernel), List.mem_of_getElem? (i := 869) (by decide +kernel), List.mem_of_getElem? (i := 870) (by decide +kernel)⟩
theorem lw_p28 : lw_okq (⟨"TickFallModel", "otherEnd", "(II)I"⟩, 34) := ⟨⟨by decide +kernel, by decide +kernel⟩, List.mem_of_getElem? (i := 657) (by decide +kernel), List.mem_of_getElem? (i := 873) (by decide +kernel), List.mem_of_getElem? (i := 874) (by decide +kernel)⟩
theorem lw_p29 : lw_okq (⟨"TickFallModel", "laysRing", "(IIII)V"⟩, 34) := ⟨⟨by decide +kernel, by decide +kernel⟩, List.mem_of_getElem? (i := 657) (by decide +kernel), List.mem_of_getElem? (i := 877) (by decide +kernel), List.mem_of_getElem? (i := 878) (by decide +kernel)⟩
theorem lw_p30 : lw_okq (⟨"TickFallModel", "goesBy", "(IIII)V"⟩, 34) := ⟨⟨by decide +kernel, by decide +kernel⟩, List.mem_of_getElem? (i := 657) (by decide +kernel), List.mem_of_getElem? (i := 881) (by decide +kernel), List.mem_of_getElem? (i := 882) (by decide +kernel)⟩
theorem lw_p31 : lw_okq (⟨"TickFallModel", "laysRings", "(I)V"⟩, 34) := ⟨⟨by decide +kernel, by decide +kernel⟩, List.mem_of_getElem? (i := 657) (by decide +kernel), List.mem_of_getElem? (i := 889) (by decide +kernel), List.mem_of_getElem? (i := 890) (by decide +kernel)⟩
def lw_privs_2 : List (MethodName × Nat) := [(⟨"TickFallModel", "isClock", "(I)Z"⟩, 34), (⟨"TickFallModel", "isLink", "(I)Z"⟩, 34), (⟨"TickFallModel", "passes", "()V"⟩, 34), (⟨"TickFallModel", "next", "()I"⟩, 34), (⟨"TickFallModel", "isAhead", "(II)Z"⟩, 34), (⟨"TickFallModel", "comes", "(I)V"⟩, 34), (⟨"TickFallModel", "meanOf", "(I)I"⟩, 34), (⟨"TickFallModel", "linkOf", "(II)I"⟩, 34), (⟨"TickFallModel", "hasMeasured", "(II)Z"⟩, 34), (⟨"TickFallModel", "isDay", "(I)Z"⟩, 34), (⟨"TickFallModel", "corrected", "(II)I"⟩, 34), (⟨"TickFallModel", "isRing", "(III)Z"⟩, 34), (⟨"TickFallModel", "otherEnd", "(II)I"⟩, 34), (⟨"TickFallModel", "laysRing", "(IIII)V"⟩, 34), (⟨"TickFallModel", "goesBy", "(IIII)V"⟩, 34), (⟨"TickFallModel", "laysRings", "(I)V"⟩, 34)]
theorem lw_r2 : ∀ q ∈ lw_privs_2, lw_okq q := List.forall_mem_cons.mpr ⟨lw_p16, List.forall_mem_cons.mpr ⟨lw_p17, List.forall_mem_cons.mpr ⟨lw_p18, List.forall_mem_cons.mpr ⟨lw_p19, List.forall_mem_cons.mpr ⟨lw_p20, List.forall_mem_cons.mpr ⟨lw_p21, List.forall_mem_cons.mpr ⟨lw_p22, List.forall_mem_cons.mpr ⟨lw_p23, List.forall_mem_cons.mpr ⟨lw_p24, List.forall_mem_cons.mpr ⟨lw_p25, List.forall_mem_cons.mpr ⟨lw_p26, List.forall_mem_cons.mpr ⟨lw_p27, List.forall_mem_cons.mpr ⟨lw_p28, List.forall_mem_cons.mpr ⟨lw_p29, List.forall_mem_cons.mpr ⟨lw_p30, List.forall_mem_cons.mpr ⟨lw_p31, fun _ h => absurd h List.not_mem_nil⟩⟩⟩⟩⟩⟩⟩⟩⟩⟩⟩⟩⟩⟩⟩⟩
theorem lw_p32 : lw_okq (⟨"TickFallModel", "openRings", "()I"⟩, 34) := ⟨⟨by decide +kernel, by decide +kernel⟩, List.mem_of_getElem? (i := 657) (by decide +kernel), List.mem_of_getElem? (i := 893) (by decide +kernel), List.mem_of_getElem? (i := 894) (by decide +kernel)⟩
theorem lw_p33 : lw_okq (⟨"TickFallModel", "laysOut", "(II)I"⟩, 34) := ⟨⟨by decide +kernel, by decide +kernel⟩, List.mem_of_getElem? (i := 657) (by decide +kernel), List.mem_of_getElem? (i := 901) (by decide +kernel), List.mem_of_getElem? (i := 902) (by decide +kernel)⟩
theorem lw_p34 : lw_okq (⟨"TickFallModel", "forIt", "()I"⟩, 34) := ⟨⟨by decide +kernel, by decide +kernel⟩, List.mem_of_getElem? (i := 657) (by decide +kernel), List.mem_of_getElem? (i := 922) (by decide +kernel), List.mem_of_getElem? (i := 923) (by decide +kernel)⟩
def lw_privs_3 : List (MethodName × Nat) := [(⟨"TickFallModel", "openRings", "()I"⟩, 34), (⟨"TickFallModel", "laysOut", "(II)I"⟩, 34), (⟨"TickFallModel", "forIt", "()I"⟩, 34)]
theorem lw_r3 : ∀ q ∈ lw_privs_3, lw_okq q := List.forall_mem_cons.mpr ⟨lw_p32, List.forall_mem_cons.mpr ⟨lw_p33, List.forall_mem_cons.mpr ⟨lw_p34, fun _ h => absurd h List.not_mem_nil⟩⟩⟩
def lw_privs : List (MethodName × Nat) := lw_privs_1 ++ (lw_privs_2 ++ (lw_privs_3))
def lw_tbl : List Cond := k2_sels lw_privs ++ tables_1
theorem lw_privs_ok : ∀ q ∈ lw_privs, lw_okq q := by
  show ∀ q ∈ lw_privs_1 ++ (lw_privs_2 ++ (lw_privs_3)), lw_okq q
  exact List.forall_mem_append.mpr ⟨lw_r1, List.forall_mem_append.mpr ⟨lw_r2, lw_r3⟩⟩
end
section
/-- arrays of arrays of a number type are there, said of a state (as va_AO says it of arrays of objects) -/
def va_AOA (ty : FieldType) (U : State) : Prop := (Cond.arrayOver (.array ty)).before #[] U = true
theorem va_AOA.of {ty : FieldType} {a : Array Value} {U : State} (h : (Cond.arrayOver (.array ty)).before a U = true) : va_AOA ty U := h
theorem va_AOA.use {ty : FieldType} {a : Array Value} {U : State} (h : va_AOA ty U) : (Cond.arrayOver (.array ty)).before a U = true := h
end
section
/-! ===== BEGIN words of one list among another's, by their places ===== -/
theorem goodIn_r {big : List Cond} (ws : List Cond) (ps : List Nat) (hp : ws = ps.filterMap (fun i => big[i]?)) (h : ws.all goodWord = true) : GoodIn big ws := by
  intro w hw
  have h1 := List.all_eq_true.mp h w hw
  rw [hp] at hw
  obtain ⟨i, -, hi⟩ := List.mem_filterMap.mp hw
  have hm : w ∈ big := by first | exact List.mem_of_getElem? hi | exact List.getElem?_mem hi
  exact ⟨hm, good_of_word h1⟩
theorem goodIn_app {big a b : List Cond} (ha : GoodIn big a) (hb : GoodIn big b) : GoodIn big (a ++ b) := fun w h => (List.mem_append.mp h).elim (ha w) (hb w)
theorem goodIn_ca {big a b : List Cond} {c : Cond} (ha : GoodIn big (c :: a)) (hb : GoodIn big b) : GoodIn big (c :: (a ++ b)) := fun w h => (List.mem_cons.mp h).elim (fun e => ha w (List.mem_cons.mpr (Or.inl e))) (fun h => (List.mem_append.mp h).elim (fun h => ha w (List.mem_cons.mpr (Or.inr h))) (hb w))
theorem goodIn_sub {big ws : List Cond} (hm : ∀ w ∈ ws, w ∈ big) (h : ws.all goodWord = true) : GoodIn big ws := fun w hw => ⟨hm w hw, good_of_word (List.all_eq_true.mp h w hw)⟩
/-! ===== END ===== -/

/-! ===== BEGIN new T[n][m]: the outer array a place, the inner ones among the pooled ===== -/
/-- f, but v at every address of l -/
def vr_up {α : Type} (f : Nat → α) (l : List Nat) (v : α) : Nat → α := fun a => if a ∈ l then v else f a
theorem vr_up_in {α : Type} {f : Nat → α} {l : List Nat} {v : α} {a : Nat} (h : a ∈ l) : vr_up f l v a = v := if_pos h
theorem vr_up_ne {α : Type} {f : Nat → α} {l : List Nat} {v : α} {a : Nat} (h : a ∉ l) : vr_up f l v a = f a := if_neg h
theorem vr_rows {L l : List Nat} {f : Nat → va_E} {e : va_E} (h : ∀ a, a ∈ l → a ∉ L) : va_pl L f ++ l.map (fun a => (a, e)) = va_pl (L ++ l) (vr_up f l e) := by
  unfold va_pl
  rw [List.map_append]
  congr 1
  · apply List.map_congr_left
    intro a ha
    rw [vr_up_ne (fun q => h a q ha)]
  · apply List.map_congr_left
    intro a ha
    rw [vr_up_in ha]
theorem vr_lay {X rows : va_W} {x : Nat × va_E} {pl : va_W} {D : va_G} {cl : List vw_C} {H : Heap} (hP : va_P D cl (((X ++ pl) ++ [x]) ++ rows) H) : va_P D cl ((X ++ [x]) ++ (pl ++ rows)) H := by
  rw [List.append_assoc (X ++ pl)] at hP
  have h := va_P.swap hP
  rw [← List.append_assoc X] at h
  have h2 := va_P.swap h
  rw [List.append_assoc (X ++ [x])] at h2
  exact h2
theorem vr_layD {X rows : va_W} {x : Nat × va_E} {pl : va_W} {A : Nat → Prop} (hD : va_D A (((X ++ pl) ++ [x]) ++ rows)) : va_D A ((X ++ [x]) ++ (pl ++ rows)) := by
  rw [List.append_assoc (X ++ pl)] at hD
  have h := va_D.swap hD
  rw [← List.append_assoc X] at h
  have h2 := va_D.swap h
  rw [List.append_assoc (X ++ [x])] at h2
  exact h2
theorem vr_outer (c : ClassId) (N h0 : Nat) : ∀ i : Nat, Jvm.Free.Multi.outerC c N h0 i = arrV c N (fun j => va_rf (if j < i then some (h0 + 1 + j) else none))
  | 0 => by
    show ({ cls := c, slots := Array.replicate N .null, vm := .none } : Cell) = _
    rw [arrV_new]
    refine congrArg (arrV c N) (funext fun j => ?_)
    simp [va_rf]
  | i + 1 => by
    show (Jvm.Free.Multi.outerC c N h0 i).setSlot i (.ref (h0 + 1 + i)) = _
    rw [vr_outer c N h0 i, arrV_store]
    refine congrArg (arrV c N) (funext fun j => ?_)
    by_cases e : j = i
    · subst e
      simp [updV, va_rf]
    · by_cases h : j < i
      · simp [updV, e, h, Nat.lt_succ_of_lt h]
      · simp [updV, e, h, show ¬ j < i + 1 by omega]
section VGM
variable {p : Program} {l : Launch} {e : Env} {R : Room} {s : State} {m : MethodId} {args : Array Value} {below : List Frame} {meth : Method} {c : Code} {H : Heap} {locs : List Loc} {cells slots : Nat} {Q : State → Prop}
variable {cc : ByteArray} {pc : Nat} {ls : Array Slot} {rest : List Value} {D : va_G} {cl : List vw_C} {A : Nat → Prop} {a : Nat} {tys : List (ClassId × FieldType)} {ws : va_W} {H0 : Heap}
theorem va_mna {X : va_W} {L : List Nat} {f : Nat → va_E} {cc : ByteArray} (hexec : p.tables.exec = Jvm.exec) (hb : c.code = cc) {own : String} {index : Nat} {ty : FieldType} {cy : ClassId} (hown : s.vm.findClass own = some m.cls) (hclink : (Cond.classLink own index ("[" ++ (FieldType.array ty).toString)).before args s = true) (hover : va_AOA ty s) (harr : (Cond.arrayClass ty).before args s = true) (hcy : s.vm.findClass (FieldType.array ty).toString = some cy)
    (hK : va_K D cl tys s) (hP : va_P D cl (X ++ va_pl L f) H) (hD : va_D A (X ++ va_pl L f)) (hS : va_S A H0 H locs) (hA : ∀ q, H0.size ≤ q → A q) {n k : Int32} {N' K' : Nat} {z : vp_A} (hn : ¬ n < 0) (hk : ¬ k < 0) (hN : n.toNatClampNeg = N') (hM : k.toNatClampNeg = K')
    (hb1 : N' * 4 ≤ 536870912) (hb2 : K' * componentBytes ty ≤ 536870912) (hb3 : K' ≤ 536870912) (hdf : fits ty (defaultValue ty) = true) (hdd : (defaultValue ty).isDefault = true) (hcells : cells + (1 + N') ≤ R.cells) (hslots : slots + (N' + N' * K') ≤ R.slots) (hz : ∀ c : ClassId, Jvm.Free.Multi.innerC c K' (defaultValue ty) = vp_cell c z) (hdg : decode cc pc = .ok (.multianewarray index 2, 4))
    (kk : ∀ (q : Nat) (r : Nat → Nat) (cA : ClassId) (H1 : Heap), (∀ i j : Nat, i < N' → j < N' → r i = r j → i = j) → (∀ i : Nat, i < N' → r i ∉ L) → va_K D cl (tys ++ [(cA, .array ty)]) s →
      va_P D cl ((X ++ [(q, .inl (cA, N', .inr (.inr (.inr (.inr (fun i => if i < N' then some (r i) else none))))))]) ++ va_pl (L ++ (List.range N').map r) (vr_up f ((List.range N').map r) (.inl (cy, z)))) H1 → va_D A ((X ++ [(q, .inl (cA, N', .inr (.inr (.inr (.inr (fun i => if i < N' then some (r i) else none))))))]) ++ va_pl (L ++ (List.range N').map r) (vr_up f ((List.range N').map r) (.inl (cy, z)))) → va_S A H0 H1 locs →
      W p l e R s m args below meth c H1 locs (cells + 1 + N') (slots + N' + N' * K') Q (F0 m (pc + 4) ls (.ref q :: rest))) : W p l e R s m args below meth c H locs cells slots Q (F0 m pc ls (.int k :: .int n :: rest)) := by
  subst hN
  subst hM
  intro T hT Xs
  obtain ⟨vm₁, cA, comp, -, fA, fC, hO, -, X', step⟩ := Xs.multianewarray2F hexec hown hclink (va_AOA.use hover) harr (g := F0 m pc ls (.int k :: .int n :: rest)) rfl (by rw [hb]; exact hdg) rfl hn hk hb1 hb2 hb3 hdf hdd hcells hslots
  have ec : some cy = some comp := hcy.symm.trans fC
  cases ec
  generalize hF : Jvm.Free.Multi.fill (T.setVm vm₁) cA cy n.toNatClampNeg k.toNatClampNeg (defaultValue ty) n.toNatClampNeg = F at X' step
  have hTh : (T.setVm vm₁).heap = H := hT
  obtain ⟨f1, f2, -, -⟩ := Jvm.Free.Multi.fill_facts (T.setVm vm₁) cA cy n.toNatClampNeg k.toNatClampNeg (defaultValue ty) n.toNatClampNeg
  rw [hF, hTh] at f1 f2
  have hold : ∀ x : Nat, x < H.size → F.heap[x]? = H[x]? := fun x hx => by
    have := Jvm.Free.Multi.fill_old (T.setVm vm₁) cA cy n.toNatClampNeg k.toNatClampNeg (defaultValue ty) (a := x) (by rw [hTh]; exact hx) n.toNatClampNeg
    rw [hF, hTh] at this
    exact this
  have hrow : ∀ j : Nat, j < n.toNatClampNeg → F.heap[H.size + 1 + j]? = some (vp_cell cy z) := fun j hj => by
    have := Jvm.Free.Multi.fill_inner (T.setVm vm₁) cA cy n.toNatClampNeg k.toNatClampNeg (defaultValue ty) n.toNatClampNeg j hj
    rw [hF, hTh, hz] at this
    exact this
  have hout : Jvm.Free.Multi.outerC cA n.toNatClampNeg H.size n.toNatClampNeg = vp_cell cA (n.toNatClampNeg, .inr (.inr (.inr (.inr (fun i => if i < n.toNatClampNeg then some (H.size + 1 + i) else none))))) := by
    rw [vp_cell_q]
    exact vr_outer cA n.toNatClampNeg H.size n.toNatClampNeg
  rw [hout] at f2
  have hlt : ∀ a, a ∈ L → a < H.size := fun a ha => by
    obtain ⟨k9, hk9⟩ := va_pl_get (X := X) (f := f) ha
    exact (hP k9 _ hk9).lt
  have hnl : ∀ i : Nat, i < n.toNatClampNeg → H.size + 1 + i ∉ L := fun i _ h => by
    have := hlt _ h
    omega
  have hnm : ∀ a, a ∈ (List.range n.toNatClampNeg).map (fun i => H.size + 1 + i) → a ∉ L := fun a ha h => by
    obtain ⟨i, -, rfl⟩ := List.mem_map.mp ha
    have := hlt _ h
    omega
  have hP0 : va_P D cl (X ++ va_pl L f) F.heap := hP.kept (fun k9 x hx => hold x.1 ((hP k9 x hx).lt))
  have hP1 : va_P D cl ((X ++ va_pl L f) ++ [(H.size, .inl (cA, n.toNatClampNeg, .inr (.inr (.inr (.inr (fun i => if i < n.toNatClampNeg then some (H.size + 1 + i) else none))))))]) F.heap := hP0.app (fun k9 x hx => by
    have h0 : k9 < 1 := (List.getElem?_eq_some_iff.mp hx).1
    rw [show k9 = 0 by omega] at hx
    cases hx
    exact f2)
  have hP2 : va_P D cl (((X ++ va_pl L f) ++ [(H.size, .inl (cA, n.toNatClampNeg, .inr (.inr (.inr (.inr (fun i => if i < n.toNatClampNeg then some (H.size + 1 + i) else none))))))]) ++ ((List.range n.toNatClampNeg).map (fun i => H.size + 1 + i)).map (fun a => (a, .inl (cy, z)))) F.heap := hP1.app (fun k9 x hx => by
    obtain ⟨a, ha, rfl⟩ := List.mem_map.mp (List.mem_of_getElem? hx)
    obtain ⟨i, hi, rfl⟩ := List.mem_map.mp ha
    exact hrow i (List.mem_range.mp hi))
  have hD2 : va_D A (((X ++ va_pl L f) ++ [(H.size, .inl (cA, n.toNatClampNeg, .inr (.inr (.inr (.inr (fun i => if i < n.toNatClampNeg then some (H.size + 1 + i) else none))))))]) ++ ((List.range n.toNatClampNeg).map (fun i => H.size + 1 + i)).map (fun a => (a, .inl (cy, z)))) := by
    have hD1 := hD.push (e := .inl (cA, n.toNatClampNeg, .inr (.inr (.inr (.inr (fun i => if i < n.toNatClampNeg then some (H.size + 1 + i) else none)))))) hP rfl (hA _ hS.1)
    generalize hW1 : (X ++ va_pl L f) ++ [(H.size, .inl (cA, n.toNatClampNeg, .inr (.inr (.inr (.inr (fun i => if i < n.toNatClampNeg then some (H.size + 1 + i) else none))))))] = W1 at hD1 hP1 ⊢
    have hle : ∀ (k9 : Nat) (x : Nat × va_E), W1[k9]? = some x → x.1 ≤ H.size := fun k9 x hx => by
      rw [← hW1] at hx
      by_cases hl : k9 < (X ++ va_pl L f).length
      · rw [List.getElem?_append_left hl] at hx
        exact Nat.le_of_lt ((hP k9 x hx).lt)
      · rw [List.getElem?_append_right (by omega)] at hx
        have h0 : k9 - (X ++ va_pl L f).length < 1 := (List.getElem?_eq_some_iff.mp hx).1
        rw [show k9 - (X ++ va_pl L f).length = 0 by omega] at hx
        cases hx
        exact Nat.le_refl _
    have hr : ∀ (k9 : Nat) (x : Nat × va_E), (((List.range n.toNatClampNeg).map (fun i => H.size + 1 + i)).map (fun a => ((a, .inl (cy, z)) : Nat × va_E)))[k9]? = some x → x.1 = H.size + 1 + k9 := fun k9 x hx => by
      rw [List.getElem?_map, List.getElem?_map] at hx
      by_cases h9 : k9 < n.toNatClampNeg
      · rw [List.getElem?_range h9] at hx
        cases hx
        rfl
      · have hn0 : (List.range n.toNatClampNeg)[k9]? = none := List.getElem?_eq_none (by rw [List.length_range]; omega)
        rw [hn0] at hx
        cases hx
    refine ⟨fun i j x y hi hj hxy => ?_, fun k9 x hx => ?_⟩
    · by_cases h1 : i < W1.length <;> by_cases h2 : j < W1.length
      · rw [List.getElem?_append_left h1] at hi
        rw [List.getElem?_append_left h2] at hj
        exact hD1.1 i j x y hi hj hxy
      · rw [List.getElem?_append_left h1] at hi
        rw [List.getElem?_append_right (by omega)] at hj
        have := hle _ _ hi
        have := hr _ _ hj
        omega
      · rw [List.getElem?_append_right (by omega)] at hi
        rw [List.getElem?_append_left h2] at hj
        have := hle _ _ hj
        have := hr _ _ hi
        omega
      · rw [List.getElem?_append_right (by omega)] at hi hj
        have := hr _ _ hi
        have := hr _ _ hj
        omega
    · by_cases h1 : k9 < W1.length
      · rw [List.getElem?_append_left h1] at hx
        exact hD1.2 k9 x hx
      · rw [List.getElem?_append_right (by omega)] at hx
        have := hr _ _ hx
        exact hA _ (by have := hS.1; omega)
  have hAr : ArrOfT s cA (.array ty) := fun N9 z9 => by
    obtain ⟨-, k9, hk9, cm9, hkk9⟩ := (hO 0 0 0).1
    exact ⟨(fun q hq => by cases hq), k9, hk9, cm9, hkk9⟩
  have hK2 : va_K D cl (tys ++ [(cA, .array ty)]) s := ⟨hK.1, fun k9 x hx => by
    by_cases hl : k9 < tys.length
    · rw [List.getElem?_append_left hl] at hx
      exact hK.2 k9 x hx
    · rw [List.getElem?_append_right (by omega)] at hx
      have h0 : k9 - tys.length < 1 := (List.getElem?_eq_some_iff.mp hx).1
      rw [show k9 - tys.length = 0 by omega] at hx
      cases hx
      exact ⟨hAr, fA⟩⟩
  obtain ⟨t, a1, b1⟩ := kk H.size (fun i => H.size + 1 + i) cA F.heap (fun i j _ _ h => by have h9 : H.size + 1 + i = H.size + 1 + j := h; omega) hnl hK2 (by rw [← vr_rows hnm]; exact vr_lay hP2) (by rw [← vr_rows hnm]; exact vr_layD hD2) ⟨by rw [f1]; have := hS.1; omega, fun x h1 h2 => (hold x (Nat.lt_of_lt_of_le h1 hS.1)).trans (hS.2.1 x h1 h2), hS.2.2⟩ F rfl X'
  refine ⟨t, step t ?_, b1⟩
  have e : T.heap.size = H.size := by rw [hT]
  rw [e]
  exact a1
end VGM
/-! ===== END ===== -/

/-! ===== BEGIN exceptions that leave a method, and their catching by the caller (launches without stack traces) ===== -/
section VXA
/-! The laws vx_back, vx_callV, vx_callS, vx_callSW, vx_throw0, vx_throwS follow proofs of the library, with one case more: JvmDerived/Free/Laws.lean (Back.of_free), Shelf42/LK1.lean (callV, callS), Shelf/KitTraced.lean (throwNew0V, throwNewS). -/
/-- where a method has thrown q: the class by its name, the cell, what was written, the world -/
def vx_T (XC : String → State → State → Prop) (st : State) (q : Addr) (t : State) (mc ms : Nat) (free : Addr → Prop) : Prop :=
  ∃ (E : String) (ce : Cell) (L : List Loc), XC E st t ∧ t.heap[q]? = some ce ∧ ce.vm = .none ∧ st.vm.findClass E = some ce.cls ∧ st.WarmedH t.vm ∧ st.sameButNew ({ t with vm := st.vm } : State) L mc ms ∧ ∀ z ∈ L, free z.base
def vx_Q (Qc : Array Value → State → Outcome → State → Prop) (XC : String → State → State → Prop) (mc ms : Nat) (free : Addr → Prop) : Array Value → State → Outcome → State → Prop := fun a st o t =>
  (Qc a st o t ∧ ∃ L, FrameEnd st o t L mc ms ∧ ∀ q ∈ L, free q.base) ∨ ∃ q, o = .threw q ∧ vx_T XC st q t mc ms free
/-- a callee that returns or throws -/
def vx_Met (l : Launch) (y : MethodName) (ws : List Cond) (rm : Room) (Pc : Array Value → State → Prop) (Qc : Array Value → State → Outcome → State → Prop) (XC : String → State → State → Prop) (mc ms : Nat) (free : Addr → Prop) : Prop :=
  MetFree l y (headSpec ws rm) Pc (fun _ _ _ _ _ => True) (vx_Q Qc XC mc ms free)
def vx_Post (XC : String → State → State → Prop) (mc ms : Nat) (free : Addr → Prop) : Pt → Array Value → Addr → Pt → Prop := fun A a q B =>
  ∃ (g : JFrame) (mk : MethodId) (t : State) (L : List Loc) (E : String) (ce : Cell), B.U.heap = t.heap ∧ B.U.vm = t.vm ∧ XC E (A.U.calling g mk a) t ∧ t.heap[q]? = some ce ∧ ce.vm = .none ∧ A.U.vm.findClass E = some ce.cls ∧ B.locs = A.locs ++ L ∧ (∀ z ∈ L, free z.base) ∧ B.cells = A.cells + mc ∧ B.slots = A.slots + ms
def vx_Back (l : Launch) (R : Room) (p : Program) (e : Env) (below : List Frame) (s : State) (sargs : Array Value) (y : MethodName) (len W9 : Nat)
    (Pre : Pt → Array Value → Prop) (Post : Pt → Array Value → Option Value → Pt → Prop) (PostX : Pt → Array Value → Addr → Pt → Prop) : Prop :=
  ∀ (m : MethodId) (meth : Method) (c : Code) (A : Pt) (g : JFrame) (ig : Instr) (mk : MethodId) (a : Array Value),
    Stand p l e R s m sargs below meth c A.U A.locs A.cells A.slots → g.method = m → g.locals.size = c.maxLocals → decode c.code g.pc = .ok (ig, len) →
    2 * g.monitorRoom + (g.stack.map fun v => v.category).sum ≤ W9 → A.U.methodNamed? y = some mk → Pre A a →
    (∃ (v : Option Value) (B : Pt), Stand p l e R s m sargs below meth c B.U B.locs B.cells B.slots ∧ Post A a v B ∧
      Steps p.tables e below (doInvoke e (A.U.setTop g) [] mk a).1 (B.U.setTop { g with pc := g.pc + len, stack := v.toList ++ g.stack })) ∨
    (∃ (q : Addr) (B : Pt), Stand p l e R s m sargs below meth c B.U B.locs B.cells B.slots ∧ PostX A a q B ∧
      Steps p.tables e below (doInvoke e (A.U.setTop g) [] mk a).1 ((B.U.setTop g).pushFrame (.throwing q)))
section Payer
variable {l : Launch} {R : Room} {p : Program} {e : Env} {below : List Frame} {s : State} {sargs : Array Value} {y : MethodName} {len W9 : Nat}
theorem vx_back {ws : List Cond} {rm : Room} {Pc : Array Value → State → Prop} {Qc : Array Value → State → Outcome → State → Prop} {XC : String → State → State → Prop} {mc ms : Nat} {free : Addr → Prop} {bytes : ByteArray} {maxL : Nat} {ret : Option FieldType}
    (hM : vx_Met l y ws rm Pc Qc XC mc ms free) (hblind : FrameBlind Pc) (hrc : rm.cells = mc) (hrs : rm.slots = ms)
    (hframes : rm.frames + 1 ≤ R.frames) (hlocals : W9 + (maxL + 11) + rm.locals ≤ R.locals)
    (hws : ∀ w ∈ ws, ∀ a' U, s.WarmedH U.vm → w.before a' U = true) (hcode : Cond.code y bytes maxL ret ∈ ws) (hinit : ∀ a' U, s.WarmedH U.vm → (Cond.initialized y.cls).before a' U = true) :
    vx_Back l R p e below s sargs y len W9 (PreOf R mc ms Pc) (PostOf Qc mc ms free) (vx_Post XC mc ms free) := by
  intro m meth c A g ig mk a X hg hsize hdg hW hn hp
  have h1 : (headSpec ws rm).pre.before a A.U = true := atoms_intro fun w hw => hws w hw _ _ X.warmed
  have h2 : (Cond.code y bytes maxL ret).before a A.U = true := hws _ hcode _ _ X.warmed
  have h3 : (Cond.initialized y.cls).before a A.U = true := hinit _ _ X.warmed
  have h4 : A.cells + (headSpec ws rm).room.cells ≤ R.cells := by rw [show (headSpec ws rm).room.cells = mc from hrc]; exact hp.1
  have h5 : A.slots + (headSpec ws rm).room.slots ≤ R.slots := by rw [show (headSpec ws rm).room.slots = ms from hrs]; exact hp.2.1
  have hPc : Pc a (A.U.calling g mk a) := hblind _ _ _ _ hp.2.2
  obtain ⟨U, Ls, c0, s0⟩ := A
  dsimp only [Pt.U, Pt.locs, Pt.cells, Pt.slots] at h1 h2 h3 h4 h5 X hn hPc ⊢
  obtain ⟨methY, cY, hmY, hcY, -, hlY, -, -, -, -⟩ := Cond.code_spec hn h2
  obtain ⟨kY, hkY, -⟩ := className_of_methodNamed hn
  have hinitY : kY.init = .initialized := Cond.initialized_spec (findClass_of_methodNamed hn) hkY h3
  have h : At U g.method c below := by rw [hg]; exact X.here
  have hlocals9 : W9 + (maxL + 11) + (headSpec ws rm).room.locals ≤ R.locals := hlocals
  have happ : (headSpec ws rm).appliesLoose y e.platform (U.calling g mk a) = true :=
    Spec.appliesLoose_calling (g := g) h hdg hn hkY hinitY
      (X.room_calling (g := g) (R' := (headSpec ws rm).room) hsize hmY hcY hframes (by rw [hlY]; omega) h4 h5) h1
  obtain ⟨mid, hmid⟩ := h.above
  have hfr : (U.setTop g).frames = (.java g :: mid) ++ below := by rw [State.frames_setTop' g h.top, hmid]; rfl
  obtain ⟨o, s₂, hsteps, -, hend, hq⟩ := Steps.callFree hM p X.admits X.cas X.clock (acts := []) hfr happ hPc trivial
  have hq' : vx_Q Qc XC mc ms free a (U.calling g mk a) o s₂ := hq
  rw [State.frames_setTop' g h.top] at hend
  obtain ⟨g₀, hg0⟩ := Option.isSome_iff_exists.mp h.top
  obtain ⟨r, hr⟩ := State.topJava?_eq_some.mp hg0
  have hr' : (({ U with heap := s₂.heap, slotsUsed := s₂.slotsUsed } : State).setVm s₂.vm).frames = .java g₀ :: r := hr
  rcases hq' with ⟨hqc, L, hfe, hL⟩ | ⟨q, rfl, E, ce, L, hx, hce, hcv, hcl, hW₂, hsm, hL⟩
  · obtain ⟨⟨v, rfl⟩, hW₂, e2, q2, q3, q4, q5, q6⟩ := id hfe
    have e3 : s₂ = ({ (U.calling g mk a).setFrames s₂.frames with heap := s₂.heap, slotsUsed := s₂.slotsUsed } : State).setVm s₂.vm := by
      have : s₂ = ({ s₂ with vm := (U.calling g mk a).vm } : State).setVm s₂.vm := rfl
      rw [e2] at this
      exact this
    obtain ⟨c₂, i₂, len₂, hc₂, hd₂, hf₂⟩ := hend
    have hW' : U.WarmedH s₂.vm := hW₂
    have hcc : c₂ = c := by
      have h1 : s₂.code? g.method = U.code? g.method := by
        rw [State.code?_eq, State.code?_eq, hW'.alike.method?]
      exact Option.some.inj (hc₂.symm.trans (h1.trans h.code))
    subst hcc
    have hlen : len₂ = len := by rw [hdg] at hd₂; cases hd₂; rfl
    subst hlen
    have hs₂ : s₂ = (({ U with heap := s₂.heap, slotsUsed := s₂.slotsUsed } : State).setVm s₂.vm).setTop { g with pc := g.pc + len₂, stack := v.toList ++ g.stack } := by
      refine e3.trans ?_
      rw [hf₂, State.calling_eq h.top, State.setFrames_setFrames, State.setTop_of_frames _ hr', hr]
      rfl
    have hsame : U.sameButNew ({ U with heap := s₂.heap, slotsUsed := s₂.slotsUsed } : State) L mc ms := by
      refine ⟨?_, q2, q3, q4, q5, q6⟩
      obtain ⟨t, ht, -⟩ := State.frames_cons hr
      show ({ U with heap := s₂.heap, slotsUsed := s₂.slotsUsed } : State) = { U.setFrames U.frames with heap := s₂.heap, slotsUsed := s₂.slotsUsed }
      rw [State.setFrames_self ht]
    subst hg
    refine Or.inl ⟨v, ⟨(({ U with heap := s₂.heap, slotsUsed := s₂.slotsUsed } : State).setVm s₂.vm), Ls ++ L, c0 + mc, s0 + ms⟩,
      ⟨X.admits, X.cas, X.clock, X.frames, X.room, X.hears, X.method, X.code, (X.here.setHeapUsed s₂.heap s₂.slotsUsed).setVm hW'.alike, X.tail, State.WarmedH.trans X.warmed hW', X.limits, X.bytes, X.same.trans (hsame.setVm s.vm)⟩,
      ⟨g, mk, s₂, L, rfl, rfl, hqc, rfl, hL, rfl, rfl⟩, ?_⟩
    show Steps p.tables e below _ ((({ U with heap := s₂.heap, slotsUsed := s₂.slotsUsed } : State).setVm s₂.vm).setTop { g with pc := g.pc + len₂, stack := v.toList ++ g.stack })
    rw [← hs₂]
    exact hsteps
  · obtain ⟨e2, q2, q3, q4, q5, q6⟩ := id hsm
    have e3 : s₂ = ({ (U.calling g mk a).setFrames s₂.frames with heap := s₂.heap, slotsUsed := s₂.slotsUsed } : State).setVm s₂.vm := by
      have : s₂ = ({ s₂ with vm := (U.calling g mk a).vm } : State).setVm s₂.vm := rfl
      rw [e2] at this
      exact this
    have hf₂ : s₂.frames = .throwing q :: .java g :: U.frames.tail := hend
    have hW' : U.WarmedH s₂.vm := hW₂
    have hs₂ : s₂ = ((({ U with heap := s₂.heap, slotsUsed := s₂.slotsUsed } : State).setVm s₂.vm).setTop g).pushFrame (.throwing q) := by
      refine e3.trans ?_
      rw [hf₂, State.calling_eq h.top, State.setFrames_setFrames, State.pushFrame, State.frames_setTop _ hr', State.setTop_of_frames _ hr', State.setFrames_setFrames, hr]
      rfl
    have hsame : U.sameButNew ({ U with heap := s₂.heap, slotsUsed := s₂.slotsUsed } : State) L mc ms := by
      refine ⟨?_, q2, q3, q4, q5, q6⟩
      obtain ⟨t, ht, -⟩ := State.frames_cons hr
      show ({ U with heap := s₂.heap, slotsUsed := s₂.slotsUsed } : State) = { U.setFrames U.frames with heap := s₂.heap, slotsUsed := s₂.slotsUsed }
      rw [State.setFrames_self ht]
    subst hg
    refine Or.inr ⟨q, ⟨(({ U with heap := s₂.heap, slotsUsed := s₂.slotsUsed } : State).setVm s₂.vm), Ls ++ L, c0 + mc, s0 + ms⟩,
      ⟨X.admits, X.cas, X.clock, X.frames, X.room, X.hears, X.method, X.code, (X.here.setHeapUsed s₂.heap s₂.slotsUsed).setVm hW'.alike, X.tail, State.WarmedH.trans X.warmed hW', X.limits, X.bytes, X.same.trans (hsame.setVm s.vm)⟩,
      ⟨g, mk, s₂, L, E, ce, rfl, rfl, hx, hce, hcv, hcl, rfl, hL, rfl, rfl⟩, ?_⟩
    show Steps p.tables e below _ (((({ U with heap := s₂.heap, slotsUsed := s₂.slotsUsed } : State).setVm s₂.vm).setTop g).pushFrame (.throwing q))
    rw [← hs₂]
    exact hsteps
end Payer
section Calls
variable {p : Program} {l : Launch} {e : Env} {R : Room} {s : State} {m : MethodId} {args : Array Value} {below : List Frame} {meth : Method} {c : Code} {T : State} {locs : List Loc} {cells slots : Nat}
theorem vx_callV (X : Stand p l e R s m args below meth c T locs cells slots) (hexec : p.tables.exec = Jvm.exec) {own C : String} {index : Nat} {y : MethodName} {bytes : ByteArray} {maxL : Nat} {ret : Option FieldType}
    (hown : s.vm.findClass own = some m.cls) (hlink : (Cond.methodLink own index y).before args s = true) (hinst : (Cond.instanceMethod y).before args s = true) (hsel : (Cond.selects C y y).before args s = true)
    (hcode : (Cond.code y bytes maxL ret).before args s = true) (hy : y.cls ≠ "java/lang/invoke/MethodHandle" ∧ y.cls ≠ "java/lang/invoke/VarHandle")
    {W9 : Nat} {Pre : Pt → Array Value → Prop} {Post : Pt → Array Value → Option Value → Pt → Prop} {PostX : Pt → Array Value → Addr → Pt → Prop} (hK : vx_Back l R p e below s args y 3 W9 Pre Post PostX)
    {b : Addr} {cellB : Cell} (hcell : T.heap[b]? = some cellB) (hobj : cellB.vm.isStatics = false) (hcls : s.vm.findClass C = some cellB.cls)
    {g : JFrame} (hg : g.method = m) (hsize : g.locals.size = c.maxLocals) {argsL rest : List Value} (hlen : ∀ sig, parseMethodDescriptor y.desc = some sig → argsL.length = sig.parameters.length)
    (hstack : g.stack = argsL.reverse ++ .ref b :: rest) (hW : 2 * g.monitorRoom + (rest.map fun v => v.category).sum ≤ W9) (hdg : decode c.code g.pc = .ok (.invokevirtual index, 3))
    (hpre : ∀ vm₁, s.WarmedH vm₁ → Pre ⟨T.setVm vm₁, locs, cells, slots⟩ (Value.ref b :: argsL).toArray) :
    (∃ (v : Option Value) (vm₁ : Vm) (B : Pt), s.WarmedH vm₁ ∧ Stand p l e R s m args below meth c B.U B.locs B.cells B.slots ∧ Post ⟨T.setVm vm₁, locs, cells, slots⟩ (Value.ref b :: argsL).toArray v B ∧
      ∀ target, Steps p.tables e below (B.U.setTop { g with pc := g.pc + 3, stack := v.toList ++ rest }) target → Steps p.tables e below (T.setTop g) target) ∨
    (∃ (q : Addr) (vm₁ : Vm) (B : Pt), s.WarmedH vm₁ ∧ Stand p l e R s m args below meth c B.U B.locs B.cells B.slots ∧ PostX ⟨T.setVm vm₁, locs, cells, slots⟩ (Value.ref b :: argsL).toArray q B ∧
      Steps p.tables e below (T.setTop g) ((B.U.setTop { g with stack := rest }).pushFrame (.throwing q))) := by
  obtain ⟨mk, methM, hnamed, hmethM, hstM, habM⟩ := Cond.instanceMethod_spec hinst
  obtain ⟨methM', cM, hmethM', -, -, -, -, -, -, hsigM⟩ := Cond.code_spec hnamed hcode
  cases hmethM.symm.trans hmethM'
  obtain ⟨c2, r2, m2, q1, q2, q3, q4, kP, hkP, hkPi⟩ := Cond.selects_spec hsel
  cases hcls.symm.trans q1
  cases (State.methodFound?_of_named hnamed hy).symm.trans q2
  cases hnamed.symm.trans q3
  have hselP : selectMethod e.platform s.vm cellB.cls mk = .method mk := by rw [Launch.admits_selectMethod X.admits]; exact q4
  obtain ⟨vm₁, X₁, hstep₁⟩ := X.invokevirtual hexec hown hlink hnamed hmethM hstM hkP hkPi hy (a := b) (cell := cellB) hcell
    (fun z h => by rw [h] at hobj; cases hobj) hselP hmethM habM hkP hkPi (g := g) hg (argsL := argsL) (rest := rest) (hlen _ hsigM) hstack hdg
  rcases hK m meth c ⟨T.setVm vm₁, locs, cells, slots⟩ { g with stack := rest } (.invokevirtual index) mk (Value.ref b :: argsL).toArray X₁ hg hsize hdg hW (X₁.named hnamed) (hpre vm₁ X₁.warmed) with ⟨v, B, X', hpost, hsteps⟩ | ⟨q, B, X', hpost, hsteps⟩
  · exact Or.inl ⟨v, vm₁, B, X₁.warmed, X', hpost, fun target h => hstep₁ _ fun acts => by rw [doInvoke_state]; exact hsteps.trans h⟩
  · exact Or.inr ⟨q, vm₁, B, X₁.warmed, X', hpost, hstep₁ _ fun acts => by rw [doInvoke_state]; exact hsteps⟩
theorem vx_callS (X : Stand p l e R s m args below meth c T locs cells slots) (hexec : p.tables.exec = Jvm.exec) {own : String} {index : Nat} {y : MethodName} {bytes : ByteArray} {maxL : Nat} {ret : Option FieldType}
    (hown : s.vm.findClass own = some m.cls) (hlink : (Cond.methodLink own index y).before args s = true) (hstat : (Cond.static y).before args s = true) (hinit : (Cond.initialized y.cls).before args s = true)
    (hcode : (Cond.code y bytes maxL ret).before args s = true) (hy : y.cls ≠ "java/lang/invoke/MethodHandle" ∧ y.cls ≠ "java/lang/invoke/VarHandle")
    {W9 : Nat} {Pre : Pt → Array Value → Prop} {Post : Pt → Array Value → Option Value → Pt → Prop} {PostX : Pt → Array Value → Addr → Pt → Prop} (hK : vx_Back l R p e below s args y 3 W9 Pre Post PostX)
    {g : JFrame} (hg : g.method = m) (hsize : g.locals.size = c.maxLocals) {argsL rest : List Value} (hlen : ∀ sig, parseMethodDescriptor y.desc = some sig → argsL.length = sig.parameters.length)
    (hstack : g.stack = argsL.reverse ++ rest) (hW : 2 * g.monitorRoom + (rest.map fun v => v.category).sum ≤ W9) (hdg : decode c.code g.pc = .ok (.invokestatic index, 3))
    (hpre : ∀ vm₁, s.WarmedH vm₁ → Pre ⟨T.setVm vm₁, locs, cells, slots⟩ argsL.toArray) :
    (∃ (v : Option Value) (vm₁ : Vm) (B : Pt), s.WarmedH vm₁ ∧ Stand p l e R s m args below meth c B.U B.locs B.cells B.slots ∧ Post ⟨T.setVm vm₁, locs, cells, slots⟩ argsL.toArray v B ∧
      ∀ target, Steps p.tables e below (B.U.setTop { g with pc := g.pc + 3, stack := v.toList ++ rest }) target → Steps p.tables e below (T.setTop g) target) ∨
    (∃ (q : Addr) (vm₁ : Vm) (B : Pt), s.WarmedH vm₁ ∧ Stand p l e R s m args below meth c B.U B.locs B.cells B.slots ∧ PostX ⟨T.setVm vm₁, locs, cells, slots⟩ argsL.toArray q B ∧
      Steps p.tables e below (T.setTop g) ((B.U.setTop { g with stack := rest }).pushFrame (.throwing q))) := by
  obtain ⟨mk, hnamed⟩ := Cond.code_named hcode
  obtain ⟨methM, cM, hmethM, -, -, -, -, -, -, hsigM⟩ := Cond.code_spec hnamed hcode
  have hstatic : methM.isStatic = true := Cond.static_spec hnamed hmethM hstat
  obtain ⟨kP, hkP, -⟩ := className_of_methodNamed hnamed
  have hinitP : kP.init = .initialized := Cond.initialized_spec (findClass_of_methodNamed hnamed) hkP hinit
  obtain ⟨vm₁, X₁, hstep₁⟩ := X.invokestatic hexec hown hlink hnamed hmethM hstatic hkP hinitP hy (g := g) hg (argsL := argsL) (rest := rest) (hlen _ hsigM) hstack hdg
  rcases hK m meth c ⟨T.setVm vm₁, locs, cells, slots⟩ { g with stack := rest } (.invokestatic index) mk argsL.toArray X₁ hg hsize hdg hW (X₁.named hnamed) (hpre vm₁ X₁.warmed) with ⟨v, B, X', hpost, hsteps⟩ | ⟨q, B, X', hpost, hsteps⟩
  · exact Or.inl ⟨v, vm₁, B, X₁.warmed, X', hpost, fun target h => hstep₁ _ fun acts => by rw [doInvoke_state]; exact hsteps.trans h⟩
  · exact Or.inr ⟨q, vm₁, B, X₁.warmed, X', hpost, hstep₁ _ fun acts => by rw [doInvoke_state]; exact hsteps⟩
end Calls
theorem vx_cls {s : State} {T : State} {vm₁ : Vm} {E : String} {k : ClassId} (hW : s.WarmedH vm₁) (h : (T.setVm vm₁).vm.findClass E = some k) : s.vm.findClass E = some k := by
  have h1 : vm₁.findClass E = some k := h
  rw [hW.alike.findClass] at h1
  exact h1
/-- the method's frame g, with q thrown over it -/
def vx_W (p : Program) (l : Launch) (e : Env) (R : Room) (s : State) (m : MethodId) (args : Array Value) (below : List Frame) (meth : Method) (c : Code) (H : Heap) (locs : List Loc) (cells slots : Nat) (Q : State → Prop) (g : JFrame) (q : Addr) : Prop :=
  ∀ T : State, T.heap = H → Stand p l e R s m args below meth c T locs cells slots → ∃ t, Steps p.tables e below ((T.setTop g).pushFrame (.throwing q)) t ∧ Q t
def vx_Run (p : Program) (l : Launch) (e : Env) (R : Room) (s : State) (m : MethodId) (args : Array Value) (below : List Frame) (meth : Method) (c : Code) (H : Heap) (locs : List Loc) (cells slots mc ms : Nat) (g : JFrame) (rest : List Value) (Qa : State → Outcome → State → Prop) (XC : String → State → State → Prop) (free : Addr → Prop) : Prop :=
  ∀ T : State, T.heap = H → Stand p l e R s m args below meth c T locs cells slots →
    (∃ (v : Option Value) (st₀ t T' : State) (L : List Loc), st₀.heap = H ∧ Stand p l e R s m args below meth c T' (locs ++ L) (cells + mc) (slots + ms) ∧ (∀ q ∈ L, free q.base) ∧ T'.heap = t.heap ∧ T'.vm = t.vm ∧ Qa st₀ (.returned v) t ∧
      Goes p e below T g T' { g with pc := g.pc + 3, stack := v.toList ++ rest }) ∨
    (∃ (q : Addr) (st₀ t T' : State) (L : List Loc) (E : String) (ce : Cell), st₀.heap = H ∧ Stand p l e R s m args below meth c T' (locs ++ L) (cells + mc) (slots + ms) ∧ (∀ z ∈ L, free z.base) ∧ T'.heap = t.heap ∧ T'.vm = t.vm ∧ XC E st₀ t ∧ t.heap[q]? = some ce ∧ ce.vm = .none ∧ s.vm.findClass E = some ce.cls ∧
      Steps p.tables e below (T.setTop g) ((T'.setTop { g with stack := rest }).pushFrame (.throwing q)))
def vx_X {S : Type} (px : S → Prop) (B : String → S → State → Prop) (A : Nat → Prop) : String → State → State → Prop := fun E st t => ∃ u : S, px u ∧ B E u t ∧ va_F A st t
section Runs
variable {p : Program} {l : Launch} {e : Env} {R : Room} {s : State} {m : MethodId} {args : Array Value} {below : List Frame} {meth : Method} {c : Code} {H : Heap} {locs : List Loc} {cells slots : Nat}
variable {y : MethodName} {bytes cc : ByteArray} {maxL nL mc ms n index : Nat} {ret : Option FieldType} {ws : List Cond} {rm : Room} {Pc : Array Value → State → Prop} {Qc : Array Value → State → Outcome → State → Prop} {XC : String → State → State → Prop} {free : Addr → Prop} {Ts : List Cond} {own C : String} {b : Addr} {As rest : List Value} {g : JFrame}
theorem vx_callBack (cb : CallB R s args own index y bytes maxL ret ws rm mc ms n) (hM : vx_Met l y ws rm Pc Qc XC mc ms free) (hbl : FrameBlind Pc) : vx_Back l R p e below s args y 3 8 (PreOf R mc ms Pc) (PostOf Qc mc ms free) (vx_Post XC mc ms free) := by
  obtain ⟨hrc, hrs, hfr, hlo, hws, hcw, -, hini, -⟩ := cb
  exact vx_back (bytes := bytes) (maxL := maxL) (ret := ret) hM hbl hrc hrs hfr hlo hws hcw (fun a' U hW => word_at hW (Or.inl (by first | rfl | simp [Cond.onTables, Cond.keeps, Cond.steady])) hini)
theorem vx_runV (S : CallFix p m c cc nL s args Ts own) (hM : vx_Met l y ws rm Pc Qc XC mc ms free) (cw : CallW R s args own C index y bytes maxL ret ws rm mc ms n) (hp : PreV s H C b Pc As)
    (hg : g.method = m) (hn : As.length = n) (hsize : g.locals.size = nL) (hstack : g.stack = As.reverse ++ .ref b :: rest) (hW : 2 * g.monitorRoom + (rest.map fun v => v.category).sum ≤ 8) (hdg : decode cc g.pc = .ok (.invokevirtual index, 3)) (hf : cells + mc ≤ R.cells ∧ slots + ms ≤ R.slots) :
    vx_Run p l e R s m args below meth c H locs cells slots mc ms g rest (Qc (Value.ref b :: As).toArray) XC free := by
  have hK : vx_Back l R p e below s args y 3 8 (PreOf R mc ms Pc) (PostOf Qc mc ms free) (vx_Post XC mc ms free) := vx_callBack cw.1 hM hp.1
  obtain ⟨⟨-, -, -, -, -, -, hcode, -, hy, hlen, hl⟩, hin, hse⟩ := cw
  obtain ⟨hx, hb, hml, ho, -⟩ := S
  obtain ⟨-, ⟨cellB, hcB, hoB, hclB⟩, hPc⟩ := hp
  intro T hT X
  rcases vx_callV X hx (C := C) (bytes := bytes) (maxL := maxL) (ret := ret) ho hl hin hse hcode hy hK (by rw [hT]; exact hcB) hoB hclB hg (hsize.trans hml.symm) (argsL := As) (rest := rest) (fun sig h => hn.trans (hlen sig h)) hstack hW (by rw [hb]; exact hdg)
    (fun vm₁ hW₁ => ⟨hf.1, hf.2, hPc (T.setVm vm₁) hT hW₁⟩) with ⟨v, vm₁, ⟨U', l2, c2, s2⟩, hW₁, X', ⟨g', mk, t, L, e1, e2, hq, h1, hL, h2, h3⟩, st⟩ | ⟨q, vm₁, ⟨U', l2, c2, s2⟩, hW₁, X', ⟨g', mk, t, L, E, ce, e1, e2, hq, hce, hcv, hcl, h1, hL, h2, h3⟩, st⟩
  · dsimp only [Pt.U, Pt.locs, Pt.cells, Pt.slots] at X' e1 e2 h1 h2 h3 st
    subst h1; subst h2; subst h3
    exact Or.inl ⟨v, (T.setVm vm₁).calling g' mk (Value.ref b :: As).toArray, t, U', L, hT, X', hL, e1, e2, hq, st⟩
  · dsimp only [Pt.U, Pt.locs, Pt.cells, Pt.slots] at X' e1 e2 h1 h2 h3 st hcl
    subst h1; subst h2; subst h3
    exact Or.inr ⟨q, (T.setVm vm₁).calling g' mk (Value.ref b :: As).toArray, t, U', L, E, ce, hT, X', hL, e1, e2, hq, hce, hcv, vx_cls hW₁ hcl, st⟩
theorem vx_runS (S : CallFix p m c cc nL s args Ts own) (hM : vx_Met l y ws rm Pc Qc XC mc ms free) (cw : CallB R s args own index y bytes maxL ret ws rm mc ms n ∧ (Cond.static y).before args s = true) (hp : PreS s H Pc As)
    (hg : g.method = m) (hn : As.length = n) (hsize : g.locals.size = nL) (hstack : g.stack = As.reverse ++ rest) (hW : 2 * g.monitorRoom + (rest.map fun v => v.category).sum ≤ 8) (hdg : decode cc g.pc = .ok (.invokestatic index, 3)) (hf : cells + mc ≤ R.cells ∧ slots + ms ≤ R.slots) :
    vx_Run p l e R s m args below meth c H locs cells slots mc ms g rest (Qc As.toArray) XC free := by
  have hK : vx_Back l R p e below s args y 3 8 (PreOf R mc ms Pc) (PostOf Qc mc ms free) (vx_Post XC mc ms free) := vx_callBack cw.1 hM hp.1
  obtain ⟨⟨-, -, -, -, -, -, hcode, hini, hy, hlen, hl⟩, hstt⟩ := cw
  obtain ⟨hx, hb, hml, ho, -⟩ := S
  intro T hT X
  rcases vx_callS X hx (bytes := bytes) (maxL := maxL) (ret := ret) ho hl hstt hini hcode hy hK hg (hsize.trans hml.symm) (argsL := As) (rest := rest) (fun sig h => hn.trans (hlen sig h)) hstack hW (by rw [hb]; exact hdg)
    (fun vm₁ hW₁ => ⟨hf.1, hf.2, hp.2 (T.setVm vm₁) hT hW₁⟩) with ⟨v, vm₁, ⟨U', l2, c2, s2⟩, hW₁, X', ⟨g', mk, t, L, e1, e2, hq, h1, hL, h2, h3⟩, st⟩ | ⟨q, vm₁, ⟨U', l2, c2, s2⟩, hW₁, X', ⟨g', mk, t, L, E, ce, e1, e2, hq, hce, hcv, hcl, h1, hL, h2, h3⟩, st⟩
  · dsimp only [Pt.U, Pt.locs, Pt.cells, Pt.slots] at X' e1 e2 h1 h2 h3 st
    subst h1; subst h2; subst h3
    exact Or.inl ⟨v, (T.setVm vm₁).calling g' mk As.toArray, t, U', L, hT, X', hL, e1, e2, hq, st⟩
  · dsimp only [Pt.U, Pt.locs, Pt.cells, Pt.slots] at X' e1 e2 h1 h2 h3 st hcl
    subst h1; subst h2; subst h3
    exact Or.inr ⟨q, (T.setVm vm₁).calling g' mk As.toArray, t, U', L, E, ce, hT, X', hL, e1, e2, hq, hce, hcv, vx_cls hW₁ hcl, st⟩
end Runs
section Rows
variable {p : Program} {l : Launch} {e : Env} {R : Room} {s : State} {m : MethodId} {args : Array Value} {below : List Frame} {meth : Method} {c : Code} {H : Heap} {locs : List Loc} {cells slots : Nat} {Q : State → Prop}
variable {mc ms : Nat} {free : Addr → Prop} {A0 A1 : Nat → Prop} {H0 : Heap} {a : Array Value} {pc : Nat} {ls : Array Slot} {st0 rest : List Value}
theorem vx_keep {st₀ t T' : State} {L : List Loc} (h0 : st₀.heap = H) (e1 : T'.heap = t.heap) (hS : va_S A0 H0 H locs) (hA : ∀ q, q < H.size → A1 q → A0 q) (hf : ∀ q, free q → A0 q) (hL : ∀ q ∈ L, free q.base) (hF : va_F A1 st₀ t) :
    H.size ≤ T'.heap.size ∧ (∀ q : Nat, q < H.size → ¬ A1 q → T'.heap[q]? = H[q]?) ∧ va_S A0 H0 T'.heap (locs ++ L) := by
  obtain ⟨hz, hk⟩ := hF
  rw [h0] at hz hk
  exact ⟨by rw [e1]; exact hz, fun q h1 h2 => by rw [e1]; exact hk q h1 h2,
    ⟨Nat.le_trans hS.1 (by rw [e1]; exact hz), fun q h1 h2 => by rw [e1, hk q (Nat.lt_of_lt_of_le h1 hS.1) (fun z => h2 (hA q (Nat.lt_of_lt_of_le h1 hS.1) z))]; exact hS.2.1 q h1 h2, fun q hq => by
      rcases List.mem_append.mp hq with h | h
      · exact hS.2.2 q h
      · exact hf _ (hL q h)⟩⟩
theorem vx_calli {S SX : Type} {post : Int32 → S → Prop} {px : SX → Prop} {B : S → State → Prop} {BX : String → SX → State → Prop} {AX : Nat → Prop} (hr : vx_Run p l e R s m args below meth c H locs cells slots mc ms (F0 m pc ls st0) rest (va_Qi post B A1 a) (vx_X px BX AX) free) (hS : va_S A0 H0 H locs) (hA : ∀ q, q < H.size → A1 q → A0 q) (hf : ∀ q, free q → A0 q) (hAX : ∀ q, q < H.size → AX q → A0 q)
    (kx : ∀ (E : String) (ce : Cell) (q9 : Addr) (u : SX) (t : State) (H1 : Heap) (locs1 : List Loc), t.heap = H1 → s.vm.Alike t.vm → px u → BX E u t → H.size ≤ H1.size → (∀ q : Nat, q < H.size → ¬ AX q → H1[q]? = H[q]?) → va_S A0 H0 H1 locs1 → H1[q9]? = some ce → ce.vm = .none → s.vm.findClass E = some ce.cls → vx_W p l e R s m args below meth c H1 locs1 (cells + mc) (slots + ms) Q (F0 m pc ls rest) q9)
    (kk : ∀ (r : Int32) (u : S) (t : State) (H1 : Heap) (locs1 : List Loc), t.heap = H1 → s.vm.Alike t.vm → post r u → B u t → H.size ≤ H1.size → (∀ q : Nat, q < H.size → ¬ A1 q → H1[q]? = H[q]?) → va_S A0 H0 H1 locs1 → W p l e R s m args below meth c H1 locs1 (cells + mc) (slots + ms) Q (F0 m (pc + 3) ls (.int r :: rest))) : W p l e R s m args below meth c H locs cells slots Q (F0 m pc ls st0) := by
  intro T hT X
  rcases hr T hT X with ⟨v, st₀, t, T', L, h0, X', hL, e1, e2, ⟨⟨r, u, hv, hp, hb⟩, hF⟩, st⟩ | ⟨q, st₀, t, T', L, E, ce, h0, X', hL, e1, e2, ⟨u, hp, hb, hF⟩, hce, hcv, hcl, st⟩
  · cases hv
    obtain ⟨k1, k2, k3⟩ := vx_keep h0 e1 hS hA hf hL hF
    obtain ⟨t2, a1, b1⟩ := kk r u t T'.heap (locs ++ L) e1.symm (by rw [← e2]; exact X'.warmed.alike) hp hb k1 k2 k3 T' rfl X'
    exact ⟨t2, st t2 a1, b1⟩
  · obtain ⟨k1, k2, k3⟩ := vx_keep h0 e1 hS hAX hf hL hF
    obtain ⟨t2, a1, b1⟩ := kx E ce q u t T'.heap (locs ++ L) e1.symm (by rw [← e2]; exact X'.warmed.alike) hp hb k1 k2 k3 (by rw [e1]; exact hce) hcv hcl T' rfl X'
    exact ⟨t2, st.trans a1, b1⟩
theorem vx_calll {S SX : Type} {post : Int64 → S → Prop} {px : SX → Prop} {B : S → State → Prop} {BX : String → SX → State → Prop} {AX : Nat → Prop} (hr : vx_Run p l e R s m args below meth c H locs cells slots mc ms (F0 m pc ls st0) rest (va_Ql post B A1 a) (vx_X px BX AX) free) (hS : va_S A0 H0 H locs) (hA : ∀ q, q < H.size → A1 q → A0 q) (hf : ∀ q, free q → A0 q) (hAX : ∀ q, q < H.size → AX q → A0 q)
    (kx : ∀ (E : String) (ce : Cell) (q9 : Addr) (u : SX) (t : State) (H1 : Heap) (locs1 : List Loc), t.heap = H1 → s.vm.Alike t.vm → px u → BX E u t → H.size ≤ H1.size → (∀ q : Nat, q < H.size → ¬ AX q → H1[q]? = H[q]?) → va_S A0 H0 H1 locs1 → H1[q9]? = some ce → ce.vm = .none → s.vm.findClass E = some ce.cls → vx_W p l e R s m args below meth c H1 locs1 (cells + mc) (slots + ms) Q (F0 m pc ls rest) q9)
    (kk : ∀ (r : Int64) (u : S) (t : State) (H1 : Heap) (locs1 : List Loc), t.heap = H1 → s.vm.Alike t.vm → post r u → B u t → H.size ≤ H1.size → (∀ q : Nat, q < H.size → ¬ A1 q → H1[q]? = H[q]?) → va_S A0 H0 H1 locs1 → W p l e R s m args below meth c H1 locs1 (cells + mc) (slots + ms) Q (F0 m (pc + 3) ls (.long r :: rest))) : W p l e R s m args below meth c H locs cells slots Q (F0 m pc ls st0) := by
  intro T hT X
  rcases hr T hT X with ⟨v, st₀, t, T', L, h0, X', hL, e1, e2, ⟨⟨r, u, hv, hp, hb⟩, hF⟩, st⟩ | ⟨q, st₀, t, T', L, E, ce, h0, X', hL, e1, e2, ⟨u, hp, hb, hF⟩, hce, hcv, hcl, st⟩
  · cases hv
    obtain ⟨k1, k2, k3⟩ := vx_keep h0 e1 hS hA hf hL hF
    obtain ⟨t2, a1, b1⟩ := kk r u t T'.heap (locs ++ L) e1.symm (by rw [← e2]; exact X'.warmed.alike) hp hb k1 k2 k3 T' rfl X'
    exact ⟨t2, st t2 a1, b1⟩
  · obtain ⟨k1, k2, k3⟩ := vx_keep h0 e1 hS hAX hf hL hF
    obtain ⟨t2, a1, b1⟩ := kx E ce q u t T'.heap (locs ++ L) e1.symm (by rw [← e2]; exact X'.warmed.alike) hp hb k1 k2 k3 (by rw [e1]; exact hce) hcv hcl T' rfl X'
    exact ⟨t2, st.trans a1, b1⟩
theorem vx_callf {S SX : Type} {post : UInt32 → S → Prop} {px : SX → Prop} {B : S → State → Prop} {BX : String → SX → State → Prop} {AX : Nat → Prop} (hr : vx_Run p l e R s m args below meth c H locs cells slots mc ms (F0 m pc ls st0) rest (va_Qf post B A1 a) (vx_X px BX AX) free) (hS : va_S A0 H0 H locs) (hA : ∀ q, q < H.size → A1 q → A0 q) (hf : ∀ q, free q → A0 q) (hAX : ∀ q, q < H.size → AX q → A0 q)
    (kx : ∀ (E : String) (ce : Cell) (q9 : Addr) (u : SX) (t : State) (H1 : Heap) (locs1 : List Loc), t.heap = H1 → s.vm.Alike t.vm → px u → BX E u t → H.size ≤ H1.size → (∀ q : Nat, q < H.size → ¬ AX q → H1[q]? = H[q]?) → va_S A0 H0 H1 locs1 → H1[q9]? = some ce → ce.vm = .none → s.vm.findClass E = some ce.cls → vx_W p l e R s m args below meth c H1 locs1 (cells + mc) (slots + ms) Q (F0 m pc ls rest) q9)
    (kk : ∀ (r : UInt32) (u : S) (t : State) (H1 : Heap) (locs1 : List Loc), t.heap = H1 → s.vm.Alike t.vm → post r u → B u t → H.size ≤ H1.size → (∀ q : Nat, q < H.size → ¬ A1 q → H1[q]? = H[q]?) → va_S A0 H0 H1 locs1 → W p l e R s m args below meth c H1 locs1 (cells + mc) (slots + ms) Q (F0 m (pc + 3) ls (.float r :: rest))) : W p l e R s m args below meth c H locs cells slots Q (F0 m pc ls st0) := by
  intro T hT X
  rcases hr T hT X with ⟨v, st₀, t, T', L, h0, X', hL, e1, e2, ⟨⟨r, u, hv, hp, hb⟩, hF⟩, st⟩ | ⟨q, st₀, t, T', L, E, ce, h0, X', hL, e1, e2, ⟨u, hp, hb, hF⟩, hce, hcv, hcl, st⟩
  · cases hv
    obtain ⟨k1, k2, k3⟩ := vx_keep h0 e1 hS hA hf hL hF
    obtain ⟨t2, a1, b1⟩ := kk r u t T'.heap (locs ++ L) e1.symm (by rw [← e2]; exact X'.warmed.alike) hp hb k1 k2 k3 T' rfl X'
    exact ⟨t2, st t2 a1, b1⟩
  · obtain ⟨k1, k2, k3⟩ := vx_keep h0 e1 hS hAX hf hL hF
    obtain ⟨t2, a1, b1⟩ := kx E ce q u t T'.heap (locs ++ L) e1.symm (by rw [← e2]; exact X'.warmed.alike) hp hb k1 k2 k3 (by rw [e1]; exact hce) hcv hcl T' rfl X'
    exact ⟨t2, st.trans a1, b1⟩
theorem vx_calld {S SX : Type} {post : UInt64 → S → Prop} {px : SX → Prop} {B : S → State → Prop} {BX : String → SX → State → Prop} {AX : Nat → Prop} (hr : vx_Run p l e R s m args below meth c H locs cells slots mc ms (F0 m pc ls st0) rest (va_Qd post B A1 a) (vx_X px BX AX) free) (hS : va_S A0 H0 H locs) (hA : ∀ q, q < H.size → A1 q → A0 q) (hf : ∀ q, free q → A0 q) (hAX : ∀ q, q < H.size → AX q → A0 q)
    (kx : ∀ (E : String) (ce : Cell) (q9 : Addr) (u : SX) (t : State) (H1 : Heap) (locs1 : List Loc), t.heap = H1 → s.vm.Alike t.vm → px u → BX E u t → H.size ≤ H1.size → (∀ q : Nat, q < H.size → ¬ AX q → H1[q]? = H[q]?) → va_S A0 H0 H1 locs1 → H1[q9]? = some ce → ce.vm = .none → s.vm.findClass E = some ce.cls → vx_W p l e R s m args below meth c H1 locs1 (cells + mc) (slots + ms) Q (F0 m pc ls rest) q9)
    (kk : ∀ (r : UInt64) (u : S) (t : State) (H1 : Heap) (locs1 : List Loc), t.heap = H1 → s.vm.Alike t.vm → post r u → B u t → H.size ≤ H1.size → (∀ q : Nat, q < H.size → ¬ A1 q → H1[q]? = H[q]?) → va_S A0 H0 H1 locs1 → W p l e R s m args below meth c H1 locs1 (cells + mc) (slots + ms) Q (F0 m (pc + 3) ls (.double r :: rest))) : W p l e R s m args below meth c H locs cells slots Q (F0 m pc ls st0) := by
  intro T hT X
  rcases hr T hT X with ⟨v, st₀, t, T', L, h0, X', hL, e1, e2, ⟨⟨r, u, hv, hp, hb⟩, hF⟩, st⟩ | ⟨q, st₀, t, T', L, E, ce, h0, X', hL, e1, e2, ⟨u, hp, hb, hF⟩, hce, hcv, hcl, st⟩
  · cases hv
    obtain ⟨k1, k2, k3⟩ := vx_keep h0 e1 hS hA hf hL hF
    obtain ⟨t2, a1, b1⟩ := kk r u t T'.heap (locs ++ L) e1.symm (by rw [← e2]; exact X'.warmed.alike) hp hb k1 k2 k3 T' rfl X'
    exact ⟨t2, st t2 a1, b1⟩
  · obtain ⟨k1, k2, k3⟩ := vx_keep h0 e1 hS hAX hf hL hF
    obtain ⟨t2, a1, b1⟩ := kx E ce q u t T'.heap (locs ++ L) e1.symm (by rw [← e2]; exact X'.warmed.alike) hp hb k1 k2 k3 (by rw [e1]; exact hce) hcv hcl T' rfl X'
    exact ⟨t2, st.trans a1, b1⟩
theorem vx_callv {S SX : Type} {post : S → Prop} {px : SX → Prop} {B : S → State → Prop} {BX : String → SX → State → Prop} {AX : Nat → Prop} (hr : vx_Run p l e R s m args below meth c H locs cells slots mc ms (F0 m pc ls st0) rest (va_Qv post B A1 a) (vx_X px BX AX) free) (hS : va_S A0 H0 H locs) (hA : ∀ q, q < H.size → A1 q → A0 q) (hf : ∀ q, free q → A0 q) (hAX : ∀ q, q < H.size → AX q → A0 q)
    (kx : ∀ (E : String) (ce : Cell) (q9 : Addr) (u : SX) (t : State) (H1 : Heap) (locs1 : List Loc), t.heap = H1 → s.vm.Alike t.vm → px u → BX E u t → H.size ≤ H1.size → (∀ q : Nat, q < H.size → ¬ AX q → H1[q]? = H[q]?) → va_S A0 H0 H1 locs1 → H1[q9]? = some ce → ce.vm = .none → s.vm.findClass E = some ce.cls → vx_W p l e R s m args below meth c H1 locs1 (cells + mc) (slots + ms) Q (F0 m pc ls rest) q9)
    (kk : ∀ (u : S) (t : State) (H1 : Heap) (locs1 : List Loc), t.heap = H1 → s.vm.Alike t.vm → post u → B u t → H.size ≤ H1.size → (∀ q : Nat, q < H.size → ¬ A1 q → H1[q]? = H[q]?) → va_S A0 H0 H1 locs1 → W p l e R s m args below meth c H1 locs1 (cells + mc) (slots + ms) Q (F0 m (pc + 3) ls (rest))) : W p l e R s m args below meth c H locs cells slots Q (F0 m pc ls st0) := by
  intro T hT X
  rcases hr T hT X with ⟨v, st₀, t, T', L, h0, X', hL, e1, e2, ⟨⟨u, hv, hp, hb⟩, hF⟩, st⟩ | ⟨q, st₀, t, T', L, E, ce, h0, X', hL, e1, e2, ⟨u, hp, hb, hF⟩, hce, hcv, hcl, st⟩
  · cases hv
    obtain ⟨k1, k2, k3⟩ := vx_keep h0 e1 hS hA hf hL hF
    obtain ⟨t2, a1, b1⟩ := kk u t T'.heap (locs ++ L) e1.symm (by rw [← e2]; exact X'.warmed.alike) hp hb k1 k2 k3 T' rfl X'
    exact ⟨t2, st t2 a1, b1⟩
  · obtain ⟨k1, k2, k3⟩ := vx_keep h0 e1 hS hAX hf hL hF
    obtain ⟨t2, a1, b1⟩ := kx E ce q u t T'.heap (locs ++ L) e1.symm (by rw [← e2]; exact X'.warmed.alike) hp hb k1 k2 k3 (by rw [e1]; exact hce) hcv hcl T' rfl X'
    exact ⟨t2, st.trans a1, b1⟩
/-- caught by the row x of this method's table; the rows ahead don't take it -/
theorem vx_catch {own name : String} {E : String} {ce : Cell} {q : Addr} (hown : s.vm.findClass own = some m.cls) (pre : List ExceptionTableEntry) (x : ExceptionTableEntry) (suf : List ExceptionTableEntry) (hsplit : c.exceptionTable.toList = pre ++ x :: suf)
    (hpass : ∀ z ∈ pre, covers z pc = false ∨ (z.catchType ≠ 0 ∧ ∃ nm : String, (Cond.classLink own z.catchType nm).before args s = true ∧ va_Nc E nm s)) (hx : covers x pc = true) (h0 : x.catchType ≠ 0)
    (hlink : (Cond.classLink own x.catchType name).before args s = true) (hcast : (Cond.castable E name).before args s = true) (hcell : H[q]? = some ce) (hv : ce.vm = .none) (hcl : s.vm.findClass E = some ce.cls)
    (kk : W p l e R s m args below meth c H locs cells slots Q (F0 m x.handlerPc ls [.ref q])) : vx_W p l e R s m args below meth c H locs cells slots Q (F0 m pc ls rest) q := by
  intro T hT X
  have hpl : e.platform.magicAccessors = ({} : Platform).magicAccessors := by rw [X.admits.platform]
  obtain ⟨c3, c4, hc3, hc4, hasg⟩ := Cond.castable_spec hcast
  cases Option.some.inj (hc3.symm.trans hcl)
  obtain ⟨c5, hc5, hcl5⟩ := Cond.classLink_spec hown hlink e.platform hpl
  cases Option.some.inj (hc4.symm.trans hc5)
  obtain ⟨vm', X', st⟩ := X.thenCaughtThrough q (g := F0 m pc ls rest) rfl (Steps.refl _) (by rw [hT]; exact hcell) (by rw [hv]; rfl) (by obtain ⟨k9, h9, -⟩ := Vm.findClass_spec hcl; exact ⟨k9, h9⟩) pre x suf hsplit
    (fun z hz => by
      rcases hpass z hz with h | ⟨hz0, nm, hl1, hn1⟩
      · exact Or.inl h
      · obtain ⟨c6, hc6, hcl6⟩ := Cond.classLink_spec hown hl1 e.platform hpl
        obtain ⟨a8, b8, h1, h2, h3⟩ := hn1
        cases Option.some.inj (h1.symm.trans hcl)
        cases Option.some.inj (h2.symm.trans hc6)
        exact Or.inr ⟨hz0, _, hcl6, h3⟩) hx (Or.inr ⟨h0, c4, hcl5, hasg⟩)
  obtain ⟨t, a1, b1⟩ := kk (T.setVm vm') hT X'
  exact ⟨t, st.trans a1, b1⟩
end Rows
section Ends
variable {p : Program} {l : Launch} {e : Env} {R : Room} {s : State} {m : MethodId} {args : Array Value} {below : List Frame} {meth : Method} {c : Code} {H : Heap} {locs : List Loc} {cells slots : Nat} {Q : State → Prop}
variable {mc ms : Nat} {free : Addr → Prop} {A0 A1 : Nat → Prop} {H0 : Heap} {a : Array Value} {ls : Array Slot} {st0 rest : List Value}
variable {Qc : Array Value → State → Outcome → State → Prop} {XC : String → State → State → Prop}
/-- what a body that may throw owes at its end -/
def vx_MQ (below : List Frame) (Qc : Array Value → State → Outcome → State → Prop) (XC : String → State → State → Prop) (a : Array Value) (s : State) (mc ms : Nat) (free : Addr → Prop) : State → Prop := fun t =>
  ∃ o, t.status = .running ∧ Ended t below o ∧ vx_Q Qc XC mc ms free a s o t
theorem vx_ret {g : JFrame} {mc ms : Nat} (k : W p l e R s m args below meth c H locs cells slots (MQ below Qc args s mc ms free) g) : W p l e R s m args below meth c H locs cells slots (vx_MQ below Qc XC args s mc ms free) g := by
  intro T hT X
  obtain ⟨t, a1, o, b1, b2, b3, b4⟩ := k T hT X
  exact ⟨t, a1, o, b1, b2, Or.inl ⟨b3, b4⟩⟩
/-- not caught here: it goes on to the caller -/
theorem vx_widen {g : JFrame} {q : Addr} {k n : Nat} (h1 : cells ≤ k) (h2 : slots ≤ n) (kk : vx_W p l e R s m args below meth c H locs k n Q g q) : vx_W p l e R s m args below meth c H locs cells slots Q g q := fun T hT X => kk T hT (stand_widen X h1 h2)
theorem vx_out {pc : Nat} {E : String} {ce : Cell} {q : Addr} {mc ms : Nat} (hout : ∀ x ∈ c.exceptionTable.toList, covers x pc = false) (hlocks : meth.locks = false) (hcell : H[q]? = some ce) (hv : ce.vm = .none) (hcl : s.vm.findClass E = some ce.cls)
    (hx : ∀ t : State, t.heap = H → s.vm.Alike t.vm → XC E s t) (hf : ∀ z ∈ locs, free z.base) (hc : cells ≤ mc) (hs : slots ≤ ms) :
    vx_W p l e R s m args below meth c H locs cells slots (vx_MQ below Qc XC args s mc ms free) (F0 m pc ls rest) q := by
  intro T hT X
  obtain ⟨st1, hrun, hend, hW, hsm⟩ := X.leaveThrown q (g := F0 m pc ls rest) rfl rfl rfl hout hlocks
  have hcell9 : (T.setFrames (.throwing q :: below)).heap[q]? = some ce := by
    show T.heap[q]? = some ce
    rw [hT]; exact hcell
  exact ⟨_, st1, .threw q, hrun, hend, Or.inr ⟨q, rfl, E, ce, locs, hx _ hT hW.alike, hcell9, hv, hcl, hW, hsm.mono hc hs, hf⟩⟩
theorem vx_frame {U : State} {k n : Nat} (h : s.sameButNew ({ U with vm := s.vm } : State) locs k n) : s.heap.size ≤ U.heap.size ∧ ∀ q : Nat, q < s.heap.size → (∀ z ∈ locs, z.base ≠ q) → U.heap[q]? = s.heap[q]? := by
  obtain ⟨-, h2, -, -, -, h6⟩ := h
  refine ⟨h2, fun q hq hz => ?_⟩
  obtain ⟨c9, e1, e2, e3, e4⟩ := h6 q _ (Array.getElem?_eq_getElem hq)
  have hs : c9.slots = (s.heap[q]).slots := Array.ext_getElem? fun i => e4 i fun hm => hz _ hm rfl
  have h9 : c9 = s.heap[q] := by
    rw [hs] at e2
    exact e2
  have e5 : U.heap[q]? = some c9 := e1
  rw [e5, h9, Array.getElem?_eq_getElem hq]
/-- the words of a throw but the four that speak of the heap -/
def vx_no (w : Cond) : Bool := decide (w ≠ .isRef (.static Bundle.tN "UNASSIGNED_STACK" Bundle.steD)) && decide (w ≠ .isRef (.static Bundle.tN "SUPPRESSED_SENTINEL" Bundle.listD)) && decide (w ≠ .laysStatic Bundle.tN "UNASSIGNED_STACK" Bundle.steD) && decide (w ≠ .laysStatic Bundle.tN "SUPPRESSED_SENTINEL" Bundle.listD)
def vx_at0 (own : String) (ic : Nat) (X : String) (names : List String) : List Cond := (Bundle.ownAtoms0 own ic X names).filter vx_no
def vx_atS (own : String) (ic : Nat) (X : String) (names : List String) : List Cond := (Bundle.ownAtoms own ic X names).filter vx_no
/-- a word that the tables alone decide, or a good one -/
def vx_ot (w : Cond) : Bool := w.onTables || goodWord w
theorem vx_ot_at {args a' : Array Value} {s U : State} {w : Cond} (hW : s.WarmedH U.vm) (hvm : s.vm = U.vm) (hg : vx_ot w = true) (h : w.before args s = true) : w.before a' U = true := by
  simp only [vx_ot, Bool.or_eq_true] at hg
  rcases hg with hg | hg
  · exact va_tabs hg hvm h
  · exact word_at hW (good_of_word hg) h
/-- a list's words: the good ones out of the method's own list, the others by premises of their own -/
theorem vx_hat {args : Array Value} {s : State} {L B : List Cond} (h1 : ∀ w ∈ L.filter goodWord, w.before args s = true) (h2 : ∀ w ∈ L.filter (fun w => !goodWord w), w ∈ B) (h3 : ∀ w ∈ B, w.before args s = true) : ∀ w ∈ L, w.before args s = true := by
  intro w hw
  by_cases g : goodWord w = true
  · exact h1 w (List.mem_filter.mpr ⟨hw, g⟩)
  · refine h3 w (h2 w (List.mem_filter.mpr ⟨hw, ?_⟩))
    show (!goodWord w) = true
    cases hgw : goodWord w
    · rfl
    · exact absurd hgw g
theorem vx_c {args : Array Value} {s : State} {w : Cond} {B : List Cond} (h : w.before args s = true) (t : ∀ w ∈ B, w.before args s = true) : ∀ w' ∈ w :: B, w'.before args s = true := fun w' h' => (List.mem_cons.mp h').elim (fun e => by rw [e]; exact h) (t w')
theorem vx_n {args : Array Value} {s : State} : ∀ w ∈ ([] : List Cond), w.before args s = true := fun _ h => nomatch h
theorem vx_own {args : Array Value} {s : State} {L : List Cond} (h1 : ∀ w ∈ L.filter vx_no, w.before args s = true)
    (hU : (Cond.isRef (.static Bundle.tN "UNASSIGNED_STACK" Bundle.steD)).before args s = true) (hN : (Cond.isRef (.static Bundle.tN "SUPPRESSED_SENTINEL" Bundle.listD)).before args s = true)
    (lU : (Cond.laysStatic Bundle.tN "UNASSIGNED_STACK" Bundle.steD).before args s = true) (lN : (Cond.laysStatic Bundle.tN "SUPPRESSED_SENTINEL" Bundle.listD).before args s = true) : ∀ w ∈ L, w.before args s = true := by
  intro w hw
  by_cases e1 : w = .isRef (.static Bundle.tN "UNASSIGNED_STACK" Bundle.steD)
  · rw [e1]; exact hU
  · by_cases e2 : w = .isRef (.static Bundle.tN "SUPPRESSED_SENTINEL" Bundle.listD)
    · rw [e2]; exact hN
    · by_cases e3 : w = .laysStatic Bundle.tN "UNASSIGNED_STACK" Bundle.steD
      · rw [e3]; exact lU
      · by_cases e4 : w = .laysStatic Bundle.tN "SUPPRESSED_SENTINEL" Bundle.listD
        · rw [e4]; exact lN
        · exact h1 w (List.mem_filter.mpr ⟨hw, by unfold vx_no; rw [decide_eq_true e1, decide_eq_true e2, decide_eq_true e3, decide_eq_true e4]; rfl⟩)
/-- where a static field lies, its class's statics cell in H -/
def vx_L (C n d : String) (A : Nat → Prop) (U : State) (H : Heap) : Prop := ∃ (c : ClassId) (k : Class) (i : Nat) (f : Field) (a : Nat) (cell : Cell), U.vm.findClass C = some c ∧ U.fieldFound? C n d = some (c, k, i, f) ∧ f.isStatic = true ∧ k.statics = some a ∧ H[a]? = some cell ∧ cell.vm.isStatics = true ∧ cell.cls = c ∧ f.slot < cell.slots.size ∧ k.staticTypes[f.slot]? = some f.type ∧ ¬ A a
theorem vx_L.moved {C n d : String} {A : Nat → Prop} {u U : State} {H : Heap} (hvm : u.vm.Alike U.vm) (h : vx_L C n d A u H) : vx_L C n d A U H := by
  obtain ⟨c, k, i, f, a, cell, h1, h2, h3, h4, h5, h6, h7, h8, h9, h10⟩ := h
  obtain ⟨k', hi', he⟩ := State.fieldFound?_setVm hvm h2
  exact ⟨c, k', i, f, a, cell, by rw [hvm.findClass]; exact h1, hi', h3, by rw [he]; exact h4, h5, h6, h7, h8, by rw [he]; exact h9, h10⟩
theorem vx_L.kept {C n d : String} {A : Nat → Prop} {U : State} {H H1 : Heap} (h : vx_L C n d A U H) (hq : ∀ a : Nat, a < H.size → ¬ A a → H1[a]? = H[a]?) : vx_L C n d A U H1 := by
  obtain ⟨c, k, i, f, a, cell, h1, h2, h3, h4, h5, h6, h7, h8, h9, h10⟩ := h
  exact ⟨c, k, i, f, a, cell, h1, h2, h3, h4, by rw [hq a (Array.getElem?_eq_some_iff.mp h5).1 h10]; exact h5, h6, h7, h8, h9, h10⟩
theorem vx_L.narrow {C n d : String} {A B : Nat → Prop} {U : State} {H : Heap} (h : vx_L C n d A U H) (hAB : ∀ q, B q → A q) : vx_L C n d B U H := by
  obtain ⟨c, k, i, f, a, cell, h1, h2, h3, h4, h5, h6, h7, h8, h9, h10⟩ := h
  exact ⟨c, k, i, f, a, cell, h1, h2, h3, h4, h5, h6, h7, h8, h9, fun z => h10 (hAB _ z)⟩
theorem vx_L.word {C n d : String} {A : Nat → Prop} {s : State} {args : Array Value} (h : vx_L C n d A s s.heap) : (Cond.laysStatic C n d).before args s = true := by
  obtain ⟨c, k, i, f, a, cell, h1, h2, h3, h4, h5, h6, h7, h8, h9, -⟩ := h
  show (Cond.laysStatic C n d).holds args s none s [] = true
  exact Cond.laysStatic_of h1 h2 h3 h4 h5 h6 h7 h8 h9
/-- .. and what it holds: null or some reference -/
def vx_Zq (C n d : String) (A : Nat → Prop) (U : State) (H : Heap) : Prop := va_Zq C n d A U H ∧ vx_L C n d A U H
theorem vx_Zq.moved {C n d : String} {A : Nat → Prop} {u U : State} {H : Heap} (hvm : u.vm.Alike U.vm) (h : vx_Zq C n d A u H) : vx_Zq C n d A U H := ⟨va_Zq.moved hvm h.1, vx_L.moved hvm h.2⟩
theorem vx_Zq.kept {C n d : String} {A : Nat → Prop} {U : State} {H H1 : Heap} (h : vx_Zq C n d A U H) (hq : ∀ a : Nat, a < H.size → ¬ A a → H1[a]? = H[a]?) : vx_Zq C n d A U H1 := ⟨va_Zq.kept h.1 hq, vx_L.kept h.2 hq⟩
theorem vx_Zq.narrow {C n d : String} {A B : Nat → Prop} {U : State} {H : Heap} (h : vx_Zq C n d A U H) (hAB : ∀ q, B q → A q) : vx_Zq C n d B U H := ⟨va_Zq.narrow h.1 hAB, vx_L.narrow h.2 hAB⟩
theorem vx_Zqof {args : Array Value} {s : State} {C n d : String} {A : Nat → Prop} (hl : (Cond.laysStatic C n d).before args s = true) (hini : (Cond.initialized C).before args s = true) (h : (Cond.isRef (.static C n d)).before args s = true) (hA : ∀ a : Nat, a < s.heap.size → ¬ A a) : vx_Zq C n d A s s.heap := by
  refine ⟨va_Zqof hl hini h hA, ?_⟩
  obtain ⟨c, k, i, f, a, cell, h1, h2, h3, h4, h5, h6, h7, h8, h9⟩ := Cond.laysStatic_spec hl
  exact ⟨c, k, i, f, a, cell, h1, h2, h3, h4, h5, h6, h7, h8, h9, hA a (Array.getElem?_eq_some_iff.mp h5).1⟩
theorem vx_isRef {C n d : String} {v : Value} {A : Nat → Prop} {s : State} {args : Array Value} (h : va_Z C n d v A s s.heap) (hv : v.isRef = true) : (Cond.isRef (.static C n d)).before args s = true := by
  obtain ⟨cf, kf, fi, f, a, cell, h1, h2, h3, h4, h5, h6, h7, -⟩ := h
  have he : (Term.static C n d).eval args s none [] s = some v := by
    simp [Term.eval, State.fieldNamed?, h1, h2, h4, h5, h6, h7]
  simp only [Cond.before, Cond.holds, Cond.value, he]
  cases v <;> simp_all [Value.isRef]
theorem vx_isRefq {C n d : String} {A : Nat → Prop} {s : State} {args : Array Value} (h : va_Zq C n d A s s.heap) : (Cond.isRef (.static C n d)).before args s = true := by
  rcases h with h | ⟨t, h⟩
  · exact vx_isRef h rfl
  · exact vx_isRef h rfl
/-- the same frame, seen from here: as if the method were called anew in this heap -/
theorem vx_rebase {T : State} (X : Stand p l e R s m args below meth c T locs cells slots) {R' : Room} (hf : R'.frames ≤ R.frames) (hl : R'.locals ≤ R.locals) (hc : cells + R'.cells ≤ R.cells) (hs : slots + R'.slots ≤ R.slots) :
    Stand p l e R' ((T.setVm s.vm).setFrames (.invoking m args :: below)) m args below meth c T [] 0 0 := by
  have htop : (T.setVm s.vm).topJava?.isSome := X.here.top
  have hF : ((T.setVm s.vm).setFrames (.invoking m args :: below)).frames = .invoking m args :: below := State.frames_setFrames _ (State.cur_lt_of_top htop)
  obtain ⟨g₀, hg0⟩ := Option.isSome_iff_exists.mp htop
  obtain ⟨r, hr⟩ := State.topJava?_eq_some.mp hg0
  have hl9 : e.platform.stackLimits (T.setVm s.vm).me = e.platform.stackLimits s.me := X.limits
  have hb9 : (T.setVm s.vm).me.stackBytes = s.me.stackBytes := X.bytes
  refine ⟨X.admits, X.cas, X.clock, hF, ?_, X.hears, X.method, X.code, X.here, X.tail, X.warmed, ?_, ?_, ?_⟩
  · have h := X.room
    have hU : ((T.setVm s.vm).setFrames (.invoking m args :: below)).localsInUse = s.localsInUse := by
      rw [State.localsInUse_invoking hF (meth := meth) (c := c) X.method X.code, State.localsInUse_invoking X.frames X.method X.code]
    simp only [State.hasRoom, Bool.and_eq_true, decide_eq_true_eq] at h ⊢
    obtain ⟨⟨⟨⟨h1, h2, h3, h4, h5, h6⟩, h7⟩, h8⟩, h9⟩ := h
    rw [X.frames, List.length_cons] at h2 h3
    have q1 := X.heapSize
    have q2 := X.used
    simp only [hF, hU, List.length_cons, State.stackLimits_setFrames, State.stackBytes_setFrames, hl9, hb9]
    refine ⟨⟨⟨⟨by omega, by omega, by omega, by omega, by omega, h6⟩, ?_⟩, ?_⟩, X.book⟩
    · show T.heap.size + R'.cells ≤ e.platform.maxCells
      omega
    · show T.slotsUsed + R'.slots ≤ e.platform.maxSlots
      omega
  · rw [State.stackLimits_setFrames]; rfl
  · rw [State.stackBytes_setFrames]; rfl
  · refine ⟨?_, Nat.le_refl _, Nat.le_refl _, ?_, ?_, fun a c9 h9 => ⟨c9, h9, rfl, rfl, fun _ _ => rfl⟩⟩
    · obtain ⟨t, ht, -⟩ := State.frames_cons hr
      show T.setVm s.vm = { ((T.setVm s.vm).setFrames (.invoking m args :: below)).setFrames (T.setVm s.vm).frames with heap := T.heap, slotsUsed := T.slotsUsed }
      rw [State.setFrames_setFrames, State.setFrames_self ht]
      rfl
    · show T.slotsUsed = T.slotsUsed + ((T.heap.toList.drop T.heap.size).map (·.slots.size)).sum
      rw [List.drop_eq_nil_of_le (Nat.le_of_eq Array.length_toList)]
      rfl
    · show ((T.heap.toList.drop T.heap.size).map (·.slots.size)).sum ≤ 0
      rw [List.drop_eq_nil_of_le (Nat.le_of_eq Array.length_toList)]
      exact Nat.le_refl _
/-- 'throw new E()': new; dup; invokespecial; athrow -/
theorem vx_throw0 {cc : ByteArray} {pc : Nat} (hexec : p.tables.exec = Jvm.exec) (hb : c.code = cc) (hl : l.stackTraces = false) {own cls : String} {names : List String} {ik ic mc ms : Nat} {A : Nat → Prop}
    (hown : s.vm.findClass own = some m.cls) (hcls : Bundle.fit cls = true) (hnames : ∀ n ∈ names, Bundle.fit n = true)
    (hk : (Cond.classLink own ik cls).before args s = true) (hini : (Cond.initialized cls).before args s = true) (hat : ∀ w ∈ vx_at0 own ic cls names, w.before args s = true)
    (hgood : ∀ w ∈ Cond.classLink own ik cls :: Cond.initialized cls :: vx_at0 own ic cls names, vx_ot w = true)
    (hU : vx_Zq Bundle.tN "UNASSIGNED_STACK" Bundle.steD A s s.heap) (hN : vx_Zq Bundle.tN "SUPPRESSED_SENTINEL" Bundle.listD A s s.heap) (hS : va_S A s.heap H locs) (hsize : ls.size = c.maxLocals)
    (d0 : decode cc pc = .ok (.new ik, 3)) (d3 : decode cc (pc + 3) = .ok (.dup, 1)) (d4 : decode cc (pc + 4) = .ok (.invokespecial ic, 3)) (d7 : decode cc (pc + 7) = .ok (.athrow, 1))
    (hout : ∀ x ∈ c.exceptionTable.toList, covers x (pc + 7) = false)
    (hRframes : names.length + 3 < R.frames) (hRlocals : (rest.map fun v => v.category).sum + (13 * (names.length + 1) + 42) ≤ R.locals) (hRcells : cells + 1 ≤ R.cells) (hRslots : slots + 6 ≤ R.slots) (hlocks : meth.locks = false)
    (hx : ∀ t : State, s.vm.Alike t.vm → H.size ≤ t.heap.size → (∀ q : Nat, q < H.size → t.heap[q]? = H[q]?) → XC cls s t)
    (hf : ∀ z ∈ locs, free z.base) (hc : cells + 1 ≤ mc) (hs : slots + 6 ≤ ms) :
    W p l e R s m args below meth c H locs cells slots (vx_MQ below Qc XC args s mc ms free) (F0 m pc ls rest) := by
  intro T hT X
  have htr : e.platform.stackTraces = false := (show e.platform.stackTraces = l.stackTraces by rw [X.admits.platform]).trans hl
  have Y := vx_rebase X (R' := { frames := R.frames, locals := R.locals, cells := 1, slots := 6 }) (Nat.le_refl _) (Nat.le_refl _) hRcells hRslots
  obtain ⟨s', hA⟩ : ∃ z, z = (T.setVm s.vm).setFrames (.invoking m args :: below) := ⟨_, rfl⟩
  rw [← hA] at Y
  have hvm : s'.vm = s.vm := by rw [hA]; rfl
  have hhp : s'.heap = H := by rw [hA]; exact hT
  have hW0 : s.WarmedH s'.vm := by rw [hvm]; exact State.WarmedH.refl s
  have hat' : ∀ w ∈ vx_at0 own ic cls names, w.before args s' = true := fun w hw => vx_ot_at hW0 hvm.symm (hgood w (List.mem_cons_of_mem _ (List.mem_cons_of_mem _ hw))) (hat w hw)
  have hk' : (Cond.classLink own ik cls).before args s' = true := vx_ot_at hW0 hvm.symm (hgood _ List.mem_cons_self) hk
  have hini' : (Cond.initialized cls).before args s' = true := vx_ot_at hW0 hvm.symm (hgood _ (List.mem_cons_of_mem _ List.mem_cons_self)) hini
  have hU' : vx_Zq Bundle.tN "UNASSIGNED_STACK" Bundle.steD A s' s'.heap := by rw [hhp]; exact vx_Zq.moved hW0.alike (hU.kept hS.2.1)
  have hN' : vx_Zq Bundle.tN "SUPPRESSED_SENTINEL" Bundle.listD A s' s'.heap := by rw [hhp]; exact vx_Zq.moved hW0.alike (hN.kept hS.2.1)
  have h : ∀ w ∈ Bundle.ownAtoms0 own ic cls names, w.before args s' = true := vx_own hat' (vx_isRefq hU'.1) (vx_isRefq hN'.1) hU'.2.word hN'.2.word
  have hown' : s'.vm.findClass own = some m.cls := by rw [hvm]; exact hown
  have hins : (Cond.instantiable cls 6).before args s' = true := h _ (by simp [Bundle.ownAtoms0])
  obtain ⟨vm₁, cX, kX, hfX, hkX, -, -, X₁, st1⟩ := Y.newCold hexec (own := own) (C := cls) (index := ik) (n := 6) hown' hk' hins hini'
    (g := F0 m pc ls rest) rfl (by rw [hb]; exact d0) (Nat.le_refl _) (Nat.le_refl _)
  generalize hT1 : (T.setVm vm₁).pushCell { cls := cX, slots := kX.instanceTypes.map defaultValue, vm := .none } = T1 at X₁ st1
  have hcat : (Value.ref T.heap.size).category = 1 := rfl
  have hcellA : T1.heap[T.heap.size]? = some (freshCell cX kX) := by rw [← hT1]; exact State.heap_pushCell_size _ _
  have d3' : decode c.code (pc + 3) = .ok (.dup, 1) := by rw [hb]; exact d3
  obtain ⟨U, hsteps, hrun, hend, hW, hsame, ce, hce, hO⟩ := X₁.ctorThrow0 hexec htr (own := own) (cls := cls) (names := names) (ic := ic) hown' hcls hnames h (fun x hx => nomatch hx) hfX hkX hcellA (by rw [hhp, hT]; exact Nat.le_refl _)
    (g := { method := m, pc := pc + 4, locals := ls, stack := .ref T.heap.size :: .ref T.heap.size :: rest, locked := none }) rfl hsize rfl rfl (rest := rest) rfl
    (by rw [hb]; exact d4) (by rw [hb]; exact d7) hout hRframes (by simp only [List.map_cons, List.sum_cons, hcat]; omega) hlocks
  obtain ⟨f1, f2⟩ := vx_frame hsame
  rw [hhp] at f1 f2
  have hWs : s.WarmedH U.vm := State.WarmedH.trans hW0 hW
  have hcl : s.vm.findClass cls = some ce.cls := by
    have h9 := hO.cls
    rw [hvm] at h9
    exact h9
  have hall : s.sameButNew ({ U with vm := s.vm } : State) locs mc ms := by
    subst hA
    obtain ⟨e1, e2⟩ := hsame
    rw [State.setFrames_setFrames] at e1
    have h2 : (T.setVm s.vm).sameButNew ({ U with vm := s.vm } : State) [] (0 + 1) (0 + 6) := ⟨e1, e2⟩
    have h3 := X.same.trans h2
    rw [List.append_nil] at h3
    exact h3.mono hc hs
  refine ⟨U, ?_, .threw T.heap.size, hrun, hend, Or.inr ⟨T.heap.size, rfl, cls, ce, locs, hx U hWs.alike f1 (fun q hq => f2 q hq (fun z hz => nomatch hz)), hce, hO.vm, hcl, hWs, hall, hf⟩⟩
  refine st1 _ ?_
  show Steps p.tables e below (T1.setTop { method := m, pc := pc + 3, locals := ls, stack := .ref T.heap.size :: rest, locked := none }) _
  jvm_step X₁.here [X₁.here.top, hexec, d3', Value.category]
  exact hsteps
/-- 'throw new E("text")': new; dup; ldc; invokespecial; athrow -/
theorem vx_throwS {cc : ByteArray} {pc : Nat} (hexec : p.tables.exec = Jvm.exec) (hb : c.code = cc) (hl : l.stackTraces = false) {own cls text : String} {names : List String} {ik is ic mc ms sa : Nat} {A : Nat → Prop}
    (hown : s.vm.findClass own = some m.cls) (hcls : Bundle.fit cls = true) (hnames : ∀ n ∈ names, Bundle.fit n = true)
    (hk : (Cond.classLink own ik cls).before args s = true) (hini : (Cond.initialized cls).before args s = true) (hstr : vk_R own is text sa s) (hat : ∀ w ∈ vx_atS own ic cls names, w.before args s = true)
    (hgood : ∀ w ∈ Cond.classLink own ik cls :: Cond.initialized cls :: vx_atS own ic cls names, vx_ot w = true)
    (hU : vx_Zq Bundle.tN "UNASSIGNED_STACK" Bundle.steD A s s.heap) (hN : vx_Zq Bundle.tN "SUPPRESSED_SENTINEL" Bundle.listD A s s.heap) (hS : va_S A s.heap H locs) (hsize : ls.size = c.maxLocals)
    (d0 : decode cc pc = .ok (.new ik, 3)) (d3 : decode cc (pc + 3) = .ok (.dup, 1)) (d4 : decode cc (pc + 4) = .ok (.ldc is, 2)) (d6 : decode cc (pc + 6) = .ok (.invokespecial ic, 3)) (d9 : decode cc (pc + 9) = .ok (.athrow, 1))
    (hout : ∀ x ∈ c.exceptionTable.toList, covers x (pc + 9) = false)
    (hRframes : names.length + 3 < R.frames) (hRlocals : (rest.map fun v => v.category).sum + (13 * (names.length + 1) + 43) ≤ R.locals) (hRcells : cells + 1 ≤ R.cells) (hRslots : slots + 6 ≤ R.slots) (hlocks : meth.locks = false)
    (hx : ∀ t : State, s.vm.Alike t.vm → H.size ≤ t.heap.size → (∀ q : Nat, q < H.size → t.heap[q]? = H[q]?) → XC cls s t)
    (hf : ∀ z ∈ locs, free z.base) (hc : cells + 1 ≤ mc) (hs : slots + 6 ≤ ms) :
    W p l e R s m args below meth c H locs cells slots (vx_MQ below Qc XC args s mc ms free) (F0 m pc ls rest) := by
  intro T hT X
  have htr : e.platform.stackTraces = false := (show e.platform.stackTraces = l.stackTraces by rw [X.admits.platform]).trans hl
  have Y := vx_rebase X (R' := { frames := R.frames, locals := R.locals, cells := 1, slots := 6 }) (Nat.le_refl _) (Nat.le_refl _) hRcells hRslots
  obtain ⟨s', hA⟩ : ∃ z, z = (T.setVm s.vm).setFrames (.invoking m args :: below) := ⟨_, rfl⟩
  rw [← hA] at Y
  have hvm : s'.vm = s.vm := by rw [hA]; rfl
  have hhp : s'.heap = H := by rw [hA]; exact hT
  have hW0 : s.WarmedH s'.vm := by rw [hvm]; exact State.WarmedH.refl s
  have hat' : ∀ w ∈ vx_atS own ic cls names, w.before args s' = true := fun w hw => vx_ot_at hW0 hvm.symm (hgood w (List.mem_cons_of_mem _ (List.mem_cons_of_mem _ hw))) (hat w hw)
  have hk' : (Cond.classLink own ik cls).before args s' = true := vx_ot_at hW0 hvm.symm (hgood _ List.mem_cons_self) hk
  have hini' : (Cond.initialized cls).before args s' = true := vx_ot_at hW0 hvm.symm (hgood _ (List.mem_cons_of_mem _ List.mem_cons_self)) hini
  have hU' : vx_Zq Bundle.tN "UNASSIGNED_STACK" Bundle.steD A s' s'.heap := by rw [hhp]; exact vx_Zq.moved hW0.alike (hU.kept hS.2.1)
  have hN' : vx_Zq Bundle.tN "SUPPRESSED_SENTINEL" Bundle.listD A s' s'.heap := by rw [hhp]; exact vx_Zq.moved hW0.alike (hN.kept hS.2.1)
  have h : ∀ w ∈ Bundle.ownAtoms own ic cls names, w.before args s' = true := vx_own hat' (vx_isRefq hU'.1) (vx_isRefq hN'.1) hU'.2.word hN'.2.word
  have hown' : s'.vm.findClass own = some m.cls := by rw [hvm]; exact hown
  have hins : (Cond.instantiable cls 6).before args s' = true := h _ (by simp [Bundle.ownAtoms])
  obtain ⟨vm₁, cX, kX, hfX, hkX, -, -, X₁, st1⟩ := Y.newCold hexec (own := own) (C := cls) (index := ik) (n := 6) hown' hk' hins hini'
    (g := F0 m pc ls rest) rfl (by rw [hb]; exact d0) (Nat.le_refl _) (Nat.le_refl _)
  generalize hT1 : (T.setVm vm₁).pushCell { cls := cX, slots := kX.instanceTypes.map defaultValue, vm := .none } = T1 at X₁ st1
  have hcat : (Value.ref T.heap.size).category = 1 := rfl
  have hcellA : T1.heap[T.heap.size]? = some (freshCell cX kX) := by rw [← hT1]; exact State.heap_pushCell_size _ _
  have d3' : decode c.code (pc + 3) = .ok (.dup, 1) := by rw [hb]; exact d3
  have d4' : decode c.code (pc + 4) = .ok (.ldc is, 2) := by rw [hb]; exact d4
  have hstr' : vk_R own is text sa s' := vk_R.warm hW0 hstr
  obtain ⟨U, hsteps, hrun, hend, hW, hsame, ce, hce, hO⟩ := X₁.ctorThrowS hexec htr (own := own) (cls := cls) (names := names) (ic := ic) hown' hcls hnames h (fun x hx => nomatch hx) hfX hkX hcellA (by rw [hhp, hT]; exact Nat.le_refl _) (msg := .ref sa) rfl
    (g := { method := m, pc := pc + 6, locals := ls, stack := .ref sa :: .ref T.heap.size :: .ref T.heap.size :: rest, locked := none }) rfl hsize rfl rfl (rest := rest) rfl
    (by rw [hb]; exact d6) (by rw [hb]; exact d9) hout hRframes (by simp only [List.map_cons, List.sum_cons, hcat]; omega) hlocks
  obtain ⟨f1, f2⟩ := vx_frame hsame
  rw [hhp] at f1 f2
  have hWs : s.WarmedH U.vm := State.WarmedH.trans hW0 hW
  have hcl : s.vm.findClass cls = some ce.cls := by
    have h9 := hO.cls
    rw [hvm] at h9
    exact h9
  have hall : s.sameButNew ({ U with vm := s.vm } : State) locs mc ms := by
    subst hA
    obtain ⟨e1, e2⟩ := hsame
    rw [State.setFrames_setFrames] at e1
    have h2 : (T.setVm s.vm).sameButNew ({ U with vm := s.vm } : State) [] (0 + 1) (0 + 6) := ⟨e1, e2⟩
    have h3 := X.same.trans h2
    rw [List.append_nil] at h3
    exact h3.mono hc hs
  refine ⟨U, ?_, .threw T.heap.size, hrun, hend, Or.inr ⟨T.heap.size, rfl, cls, ce, locs, hx U hWs.alike f1 (fun q hq => f2 q hq (fun z hz => nomatch hz)), hce, hO.vm, hcl, hWs, hall, hf⟩⟩
  refine st1 _ ?_
  show Steps p.tables e below (T1.setTop { method := m, pc := pc + 3, locals := ls, stack := .ref T.heap.size :: rest, locked := none }) _
  jvm_step X₁.here [X₁.here.top, hexec, d3', Value.category]
  exact X₁.ldcString hexec (own := own) (text := text) (index := is) (a := sa) hown' hstr'.1 hstr'.2
    (g := { method := m, pc := pc + 4, locals := ls, stack := .ref T.heap.size :: .ref T.heap.size :: rest, locked := none }) rfl d4' _ hsteps
/-- 'throw new E("text")', the text by a wide index -/
theorem vx_throwSW {cc : ByteArray} {pc : Nat} (hexec : p.tables.exec = Jvm.exec) (hb : c.code = cc) (hl : l.stackTraces = false) {own cls text : String} {names : List String} {ik is ic mc ms sa : Nat} {A : Nat → Prop}
    (hown : s.vm.findClass own = some m.cls) (hcls : Bundle.fit cls = true) (hnames : ∀ n ∈ names, Bundle.fit n = true)
    (hk : (Cond.classLink own ik cls).before args s = true) (hini : (Cond.initialized cls).before args s = true) (hstr : vk_R own is text sa s) (hat : ∀ w ∈ vx_atS own ic cls names, w.before args s = true)
    (hgood : ∀ w ∈ Cond.classLink own ik cls :: Cond.initialized cls :: vx_atS own ic cls names, vx_ot w = true)
    (hU : vx_Zq Bundle.tN "UNASSIGNED_STACK" Bundle.steD A s s.heap) (hN : vx_Zq Bundle.tN "SUPPRESSED_SENTINEL" Bundle.listD A s s.heap) (hS : va_S A s.heap H locs) (hsize : ls.size = c.maxLocals)
    (d0 : decode cc pc = .ok (.new ik, 3)) (d3 : decode cc (pc + 3) = .ok (.dup, 1)) (d4 : decode cc (pc + 4) = .ok (.ldc_w is, 3)) (d7 : decode cc (pc + 7) = .ok (.invokespecial ic, 3)) (d10 : decode cc (pc + 10) = .ok (.athrow, 1))
    (hout : ∀ x ∈ c.exceptionTable.toList, covers x (pc + 10) = false)
    (hRframes : names.length + 3 < R.frames) (hRlocals : (rest.map fun v => v.category).sum + (13 * (names.length + 1) + 43) ≤ R.locals) (hRcells : cells + 1 ≤ R.cells) (hRslots : slots + 6 ≤ R.slots) (hlocks : meth.locks = false)
    (hx : ∀ t : State, s.vm.Alike t.vm → H.size ≤ t.heap.size → (∀ q : Nat, q < H.size → t.heap[q]? = H[q]?) → XC cls s t)
    (hf : ∀ z ∈ locs, free z.base) (hc : cells + 1 ≤ mc) (hs : slots + 6 ≤ ms) :
    W p l e R s m args below meth c H locs cells slots (vx_MQ below Qc XC args s mc ms free) (F0 m pc ls rest) := by
  intro T hT X
  have htr : e.platform.stackTraces = false := (show e.platform.stackTraces = l.stackTraces by rw [X.admits.platform]).trans hl
  have Y := vx_rebase X (R' := { frames := R.frames, locals := R.locals, cells := 1, slots := 6 }) (Nat.le_refl _) (Nat.le_refl _) hRcells hRslots
  obtain ⟨s', hA⟩ : ∃ z, z = (T.setVm s.vm).setFrames (.invoking m args :: below) := ⟨_, rfl⟩
  rw [← hA] at Y
  have hvm : s'.vm = s.vm := by rw [hA]; rfl
  have hhp : s'.heap = H := by rw [hA]; exact hT
  have hW0 : s.WarmedH s'.vm := by rw [hvm]; exact State.WarmedH.refl s
  have hat' : ∀ w ∈ vx_atS own ic cls names, w.before args s' = true := fun w hw => vx_ot_at hW0 hvm.symm (hgood w (List.mem_cons_of_mem _ (List.mem_cons_of_mem _ hw))) (hat w hw)
  have hk' : (Cond.classLink own ik cls).before args s' = true := vx_ot_at hW0 hvm.symm (hgood _ List.mem_cons_self) hk
  have hini' : (Cond.initialized cls).before args s' = true := vx_ot_at hW0 hvm.symm (hgood _ (List.mem_cons_of_mem _ List.mem_cons_self)) hini
  have hU' : vx_Zq Bundle.tN "UNASSIGNED_STACK" Bundle.steD A s' s'.heap := by rw [hhp]; exact vx_Zq.moved hW0.alike (hU.kept hS.2.1)
  have hN' : vx_Zq Bundle.tN "SUPPRESSED_SENTINEL" Bundle.listD A s' s'.heap := by rw [hhp]; exact vx_Zq.moved hW0.alike (hN.kept hS.2.1)
  have h : ∀ w ∈ Bundle.ownAtoms own ic cls names, w.before args s' = true := vx_own hat' (vx_isRefq hU'.1) (vx_isRefq hN'.1) hU'.2.word hN'.2.word
  have hown' : s'.vm.findClass own = some m.cls := by rw [hvm]; exact hown
  have hins : (Cond.instantiable cls 6).before args s' = true := h _ (by simp [Bundle.ownAtoms])
  obtain ⟨vm₁, cX, kX, hfX, hkX, -, -, X₁, st1⟩ := Y.newCold hexec (own := own) (C := cls) (index := ik) (n := 6) hown' hk' hins hini'
    (g := F0 m pc ls rest) rfl (by rw [hb]; exact d0) (Nat.le_refl _) (Nat.le_refl _)
  generalize hT1 : (T.setVm vm₁).pushCell { cls := cX, slots := kX.instanceTypes.map defaultValue, vm := .none } = T1 at X₁ st1
  have hcat : (Value.ref T.heap.size).category = 1 := rfl
  have hcellA : T1.heap[T.heap.size]? = some (freshCell cX kX) := by rw [← hT1]; exact State.heap_pushCell_size _ _
  have d3' : decode c.code (pc + 3) = .ok (.dup, 1) := by rw [hb]; exact d3
  have d4' : decode c.code (pc + 4) = .ok (.ldc_w is, 3) := by rw [hb]; exact d4
  have hstr' : vk_R own is text sa s' := vk_R.warm hW0 hstr
  obtain ⟨U, hsteps, hrun, hend, hW, hsame, ce, hce, hO⟩ := X₁.ctorThrowS hexec htr (own := own) (cls := cls) (names := names) (ic := ic) hown' hcls hnames h (fun x hx => nomatch hx) hfX hkX hcellA (by rw [hhp, hT]; exact Nat.le_refl _) (msg := .ref sa) rfl
    (g := { method := m, pc := pc + 7, locals := ls, stack := .ref sa :: .ref T.heap.size :: .ref T.heap.size :: rest, locked := none }) rfl hsize rfl rfl (rest := rest) rfl
    (by rw [hb]; exact d7) (by rw [hb]; exact d10) hout hRframes (by simp only [List.map_cons, List.sum_cons, hcat]; omega) hlocks
  obtain ⟨f1, f2⟩ := vx_frame hsame
  rw [hhp] at f1 f2
  have hWs : s.WarmedH U.vm := State.WarmedH.trans hW0 hW
  have hcl : s.vm.findClass cls = some ce.cls := by
    have h9 := hO.cls
    rw [hvm] at h9
    exact h9
  have hall : s.sameButNew ({ U with vm := s.vm } : State) locs mc ms := by
    subst hA
    obtain ⟨e1, e2⟩ := hsame
    rw [State.setFrames_setFrames] at e1
    have h2 : (T.setVm s.vm).sameButNew ({ U with vm := s.vm } : State) [] (0 + 1) (0 + 6) := ⟨e1, e2⟩
    have h3 := X.same.trans h2
    rw [List.append_nil] at h3
    exact h3.mono hc hs
  refine ⟨U, ?_, .threw T.heap.size, hrun, hend, Or.inr ⟨T.heap.size, rfl, cls, ce, locs, hx U hWs.alike f1 (fun q hq => f2 q hq (fun z hz => nomatch hz)), hce, hO.vm, hcl, hWs, hall, hf⟩⟩
  refine st1 _ ?_
  show Steps p.tables e below (T1.setTop { method := m, pc := pc + 3, locals := ls, stack := .ref T.heap.size :: rest, locked := none }) _
  jvm_step X₁.here [X₁.here.top, hexec, d3', Value.category]
  exact X₁.ldcStringW hexec (own := own) (text := text) (index := is) (a := sa) hown' hstr'.1 hstr'.2
    (g := { method := m, pc := pc + 4, locals := ls, stack := .ref T.heap.size :: .ref T.heap.size :: rest, locked := none }) rfl d4' _ hsteps
end Ends
section Bodies
variable {l : Launch}
theorem vx_ofW {y : MethodName} {ws ws' : List Cond} {rm : Room} {Pc : Array Value → State → Prop} {Qc : Array Value → State → Outcome → State → Prop} {XC : String → State → State → Prop} {mc ms : Nat} {free : Addr → Prop} {cc : ByteArray} {maxL : Nat} {ret : Option FieldType}
    (hy : plainName y.cls = true) (hw : ws = Cond.code y cc maxL ret :: ws')
    (body : ∀ p e s m args below meth c s₁, BodyLoose p l y (headSpec ws rm) cc maxL ret e s m args below meth c s₁ → c.maxLocals = maxL → (∀ x ∈ c.exceptionTable.toList, False) → Pc args s →
      W p l e (headSpec ws rm).room s m args below meth c s.heap [] 0 0 (vx_MQ below Qc XC args s mc ms free) (entryFrame m args maxL)) : vx_Met l y ws rm Pc Qc XC mc ms free := by
  refine MetFree.of_bodyS (code := cc) (maxLocals := maxL) (ret := ret) hy ?_ ?_
  · intro args s m h hn
    obtain ⟨meth, c, h1, h2, h3, h4, h5, h6, -, -⟩ := Cond.code_spec hn (atoms_spec (ws := ws) h _ (by rw [hw]; exact List.mem_cons_self))
    exact ⟨meth, c, h1, h2, h3, h4, h5, h6⟩
  · intro p e s m args below meth c s₁ B hml hP _
    have hh0 : s₁.heap = s.heap := by rw [B.state]; rfl
    have ht : ∀ x ∈ c.exceptionTable.toList, False := by
      obtain ⟨meth9, c9, h1, h2, -, -, -, -, h7, -⟩ := Cond.code_spec B.named (atoms_spec (ws := ws) B.pre _ (by rw [hw]; exact List.mem_cons_self))
      cases Option.some.inj (h1.symm.trans B.method)
      cases Option.some.inj (h2.symm.trans (Stand.of_body B).code)
      intro x hx
      rw [Array.isEmpty_iff.mp h7] at hx
      cases hx
    obtain ⟨t, a1, o, b1, b2, b3⟩ := body p e s m args below meth c s₁ B hml ht hP s₁ hh0 (Stand.of_body B)
    exact ⟨t, o, a1, b1, b2, b3⟩
/-- the table of a body with handlers -/
theorem vx_table {p : Program} {x y : MethodName} {S : Spec} {cc bytes : ByteArray} {maxL maxL' : Nat} {ret ret' : Option FieldType} {e : Env} {s s₁ : State} {m : MethodId} {args : Array Value} {below : List Frame} {meth : Method} {c : Code} {hh : List (Nat × Nat × Nat × Nat)}
    (B : BodyLoose p l y S cc maxL ret e s m args below meth c s₁) (h : (Cond.codeWith y bytes maxL' ret' hh).before args s = true) : c.exceptionTable.toList = tableOf hh := by
  obtain ⟨m9, meth9, c9, hn9, h1, h2, -, -, h6, -⟩ := Cond.codeWith_spec h
  cases Option.some.inj (hn9.symm.trans B.named)
  cases Option.some.inj (h1.symm.trans B.method)
  cases Option.some.inj (h2.symm.trans (Stand.of_body B).code)
  rw [← h6, table_eq]
end Bodies
end VXA
/-! ===== END ===== -/
/-! ===== BEGIN a static call of a method with an exception table ===== -/
section VXS
variable {p : Program} {l : Launch} {e : Env} {R : Room} {s : State} {m : MethodId} {args : Array Value} {below : List Frame} {meth : Method} {c : Code} {T : State} {H : Heap} {locs : List Loc} {cells slots : Nat}
abbrev vx_CSW (R : Room) (s : State) (args : Array Value) (own : String) (index : Nat) (y : MethodName) (bytes : ByteArray) (maxL : Nat) (ret : Option FieldType) (hh : List (Nat × Nat × Nat × Nat)) (ws : List Cond) (rm : Room) (mc ms n : Nat) : Prop :=
  (rm.cells = mc ∧ rm.slots = ms ∧ rm.frames + 1 ≤ R.frames ∧ 8 + (maxL + 11) + rm.locals ≤ R.locals ∧ (∀ w ∈ ws, ∀ (a' : Array Value) (U : State), s.WarmedH U.vm → w.before a' U = true) ∧ Cond.codeWith y bytes maxL ret hh ∈ ws) ∧
  (Cond.codeWith y bytes maxL ret hh).before args s = true ∧ (Cond.initialized y.cls).before args s = true ∧ (y.cls ≠ "java/lang/invoke/MethodHandle" ∧ y.cls ≠ "java/lang/invoke/VarHandle") ∧
  (∀ sig, parseMethodDescriptor y.desc = some sig → n = sig.parameters.length) ∧ (Cond.methodLink own index y).before args s = true ∧ (Cond.static y).before args s = true
theorem vx_cwSW {own : String} {index maxL mc ms : Nat} {y : MethodName} {bytes : ByteArray} {ret : Option FieldType} {hh : List (Nat × Nat × Nat × Nat)} {Ts ws ws' : List Cond} {rm : Room} (n : Nat) (ht : ∀ w ∈ Ts, w.before args s = true) (hT : GoodIn Ts (va_wsS own index y ws)) (hw : ws = Cond.codeWith y bytes maxL ret hh :: ws') (hrc : rm.cells = mc) (hrs : rm.slots = ms)
    (hd : y.cls ≠ "java/lang/invoke/MethodHandle" ∧ y.cls ≠ "java/lang/invoke/VarHandle" ∧ (parseMethodDescriptor y.desc).map (fun d => d.parameters.length) = some n) (hR : rm.frames + 1 ≤ R.frames ∧ 8 + (maxL + 11) + rm.locals ≤ R.locals) :
    vx_CSW R s args own index y bytes maxL ret hh ws rm mc ms n := by
  have ok : ∀ w ∈ va_wsS own index y ws, w.before args s = true := fun w h => ht w (hT w h).1
  have hG : GoodIn Ts ws := fun w h => hT w (by unfold va_wsS; exact List.mem_append_right _ h)
  have hc : Cond.codeWith y bytes maxL ret hh ∈ ws := by rw [hw]; exact List.mem_cons_self
  refine ⟨⟨hrc, hrs, hR.1, hR.2, pay_in ht hG, hc⟩, ht _ (hG _ hc).1, ok _ (by simp [va_wsS]), ⟨hd.1, hd.2.1⟩, fun sig h => ?_, ok _ (by simp [va_wsS]), ok _ (by simp [va_wsS])⟩
  have h2 := hd.2.2
  rw [h] at h2
  exact (Option.some.inj h2).symm
theorem vx_callSW (X : Stand p l e R s m args below meth c T locs cells slots) (hexec : p.tables.exec = Jvm.exec) {own : String} {index : Nat} {y : MethodName} {bytes : ByteArray} {maxL : Nat} {ret : Option FieldType} {hh : List (Nat × Nat × Nat × Nat)}
    (hown : s.vm.findClass own = some m.cls) (hlink : (Cond.methodLink own index y).before args s = true) (hstat : (Cond.static y).before args s = true) (hinit : (Cond.initialized y.cls).before args s = true)
    (hcode : (Cond.codeWith y bytes maxL ret hh).before args s = true) (hy : y.cls ≠ "java/lang/invoke/MethodHandle" ∧ y.cls ≠ "java/lang/invoke/VarHandle")
    {W9 : Nat} {Pre : Pt → Array Value → Prop} {Post : Pt → Array Value → Option Value → Pt → Prop} (hK : Back l R p e below s args y 3 W9 Pre Post)
    {g : JFrame} (hg : g.method = m) (hsize : g.locals.size = c.maxLocals) {argsL rest : List Value} (hlen : ∀ sig, parseMethodDescriptor y.desc = some sig → argsL.length = sig.parameters.length)
    (hstack : g.stack = argsL.reverse ++ rest) (hW : 2 * g.monitorRoom + (rest.map fun v => v.category).sum ≤ W9) (hdg : decode c.code g.pc = .ok (.invokestatic index, 3))
    (hpre : ∀ vm₁, s.WarmedH vm₁ → Pre ⟨T.setVm vm₁, locs, cells, slots⟩ argsL.toArray) :
    ∃ (v : Option Value) (vm₁ : Vm) (B : Pt), s.WarmedH vm₁ ∧ Stand p l e R s m args below meth c B.U B.locs B.cells B.slots ∧ Post ⟨T.setVm vm₁, locs, cells, slots⟩ argsL.toArray v B ∧
      ∀ target, Steps p.tables e below (B.U.setTop { g with pc := g.pc + 3, stack := v.toList ++ rest }) target → Steps p.tables e below (T.setTop g) target := by
  obtain ⟨mk, methM, cM, hnamed, hmethM, -, -, -, -, -, -, hsigM⟩ := Cond.codeWith_spec hcode
  have hstatic : methM.isStatic = true := Cond.static_spec hnamed hmethM hstat
  obtain ⟨kP, hkP, -⟩ := className_of_methodNamed hnamed
  have hinitP : kP.init = .initialized := Cond.initialized_spec (findClass_of_methodNamed hnamed) hkP hinit
  obtain ⟨vm₁, X₁, hstep₁⟩ := X.invokestatic hexec hown hlink hnamed hmethM hstatic hkP hinitP hy (g := g) hg (argsL := argsL) (rest := rest) (hlen _ hsigM) hstack hdg
  obtain ⟨v, B, X', hpost, hsteps⟩ := hK m meth c ⟨T.setVm vm₁, locs, cells, slots⟩ { g with stack := rest } (.invokestatic index) mk argsL.toArray X₁ hg hsize hdg hW (X₁.named hnamed) (hpre vm₁ X₁.warmed)
  exact ⟨v, vm₁, B, X₁.warmed, X', hpost, fun target h => hstep₁ _ fun acts => by rw [doInvoke_state]; exact hsteps.trans h⟩
theorem vx_runSW {y : MethodName} {bytes cc : ByteArray} {maxL nL mc ms n index : Nat} {ret : Option FieldType} {hh : List (Nat × Nat × Nat × Nat)} {ws : List Cond} {rm : Room} {Pc : Array Value → State → Prop} {Qc : Array Value → State → Outcome → State → Prop} {free : Addr → Prop} {Ts : List Cond} {own : String} {As rest : List Value} {g : JFrame}
    (S : CallFix p m c cc nL s args Ts own) (hM : Met l y ws rm Pc Qc mc ms free) (cw : vx_CSW R s args own index y bytes maxL ret hh ws rm mc ms n) (hp : PreS s H Pc As)
    (hg : g.method = m) (hn : As.length = n) (hsize : g.locals.size = nL) (hstack : g.stack = As.reverse ++ rest) (hW : 2 * g.monitorRoom + (rest.map fun v => v.category).sum ≤ 8) (hdg : decode cc g.pc = .ok (.invokestatic index, 3)) (hf : cells + mc ≤ R.cells ∧ slots + ms ≤ R.slots) :
    va_Run p l e R s m args below meth c H locs cells slots mc ms g rest (Qc As.toArray) (free) := by
  obtain ⟨⟨hrc, hrs, hfr, hlo, hws, hcw⟩, hcode, hini, hy, hlen, hl, hstt⟩ := cw
  have hK : Back l R p e below s args y 3 8 (PreOf R mc ms Pc) (PostOf Qc mc ms free) := va_backW (hh := hh) (bytes := bytes) (maxL := maxL) (ret := ret) hM hp.1 hrc hrs hfr hlo hws hcw (fun a' U hW => word_at hW (Or.inl (by first | rfl | simp [Cond.onTables, Cond.keeps, Cond.steady])) hini)
  obtain ⟨hx, hb, hml, ho, -⟩ := S
  intro T hT X
  obtain ⟨v, vm₁, ⟨U', l2, c2, s2⟩, hW₁, X', ⟨g', mk, t, L, e1, e2, hq, h1, hL, h2, h3⟩, st⟩ := vx_callSW X hx (hh := hh) (bytes := bytes) (maxL := maxL) (ret := ret) ho hl hstt hini hcode hy hK hg (hsize.trans hml.symm) (argsL := As) (rest := rest) (fun sig h => hn.trans (hlen sig h)) hstack hW (by rw [hb]; exact hdg)
    (fun vm₁ hW₁ => ⟨hf.1, hf.2, hp.2 (T.setVm vm₁) hT hW₁⟩)
  dsimp only [Pt.U, Pt.locs, Pt.cells, Pt.slots] at X' e1 e2 h1 h2 h3 st
  subst h1; subst h2; subst h3
  exact ⟨v, (T.setVm vm₁).calling g' mk As.toArray, t, U', L, hT, X', hL, e1, e2, hq, st⟩
/-- not caught here, past rows that name other classes: it goes on to the caller -/
theorem vx_outP {p : Program} {l : Launch} {e : Env} {R : Room} {s : State} {m : MethodId} {args : Array Value} {below : List Frame} {meth : Method} {c : Code} {H : Heap} {locs : List Loc} {cells slots : Nat} {free : Addr → Prop} {ls : Array Slot} {rest : List Value} {Qc : Array Value → State → Outcome → State → Prop} {XC : String → State → State → Prop}
    {pc : Nat} {own E : String} {ce : Cell} {q : Addr} {mc ms : Nat} (hown : s.vm.findClass own = some m.cls) (hlocks : meth.locks = false)
    (hpass : ∀ z ∈ c.exceptionTable.toList, covers z pc = false ∨ (z.catchType ≠ 0 ∧ ∃ nm : String, (Cond.classLink own z.catchType nm).before args s = true ∧ va_Nc E nm s)) (hcell : H[q]? = some ce) (hv : ce.vm = .none) (hcl : s.vm.findClass E = some ce.cls)
    (hx : ∀ t : State, t.heap = H → s.vm.Alike t.vm → XC E s t) (hf : ∀ z ∈ locs, free z.base) (hc : cells ≤ mc) (hs : slots ≤ ms) :
    vx_W p l e R s m args below meth c H locs cells slots (vx_MQ below Qc XC args s mc ms free) (F0 m pc ls rest) q := by
  intro T hT X
  have hpl : e.platform.magicAccessors = ({} : Platform).magicAccessors := by rw [X.admits.platform]
  obtain ⟨vm', hW', X', st⟩ := X.outThrough hlocks q (g := F0 m pc ls rest) rfl rfl rfl (cell := ce) (by rw [hT]; exact hcell) (by rw [hv]; rfl)
    (by obtain ⟨k9, h9, -⟩ := Vm.findClass_spec hcl; exact ⟨k9, h9⟩) (fun z hz => by
      rcases hpass z hz with h | ⟨hz0, nm, hl1, hn1⟩
      · exact Or.inl h
      · obtain ⟨c6, hc6, hcl6⟩ := Cond.classLink_spec hown hl1 e.platform hpl
        obtain ⟨a8, b8, h1, h2, h3⟩ := hn1
        cases Option.some.inj (h1.symm.trans hcl)
        cases Option.some.inj (h2.symm.trans hc6)
        exact Or.inr ⟨hz0, _, hcl6, h3⟩)
  obtain ⟨g₀, hfr⟩ := X'.frames_eq
  have hcell9 : ((T.setVm vm').setFrames (.throwing q :: below)).heap[q]? = some ce := by
    show T.heap[q]? = some ce
    rw [hT]; exact hcell
  have hend : Ended ((T.setVm vm').setFrames (.throwing q :: below)) below (.threw q) := State.frames_setFrames _ (State.cur_lt_of_frames hfr)
  refine ⟨(T.setVm vm').setFrames (.throwing q :: below), ?_, .threw q, X'.here.running, hend, Or.inr ⟨q, rfl, E, ce, locs, hx _ hT (X'.ends _).1.alike, hcell9, hv, hcl, (X'.ends _).1, (X'.ends _).2.mono hc hs, hf⟩⟩
  rw [X.pushThrowing_eq]
  exact st
/-- a thing of a world lies in the heap -/
theorem vx_lt {D : va_G} {cl : List vw_C} {ws : va_W} {H1 : Heap} (h : va_P D cl ws H1) {k : Nat} {q : Nat × va_E} (hk : ws[k]? = some q) : q.1 < H1.size := (h k q hk).lt
end VXS
/-! ===== END ===== -/
/-! ===== BEGIN methods with a table of their own: called by a name, returning or throwing ===== -/
section VXH
/-! vx_backW, vx_callVX, vx_callSX, vx_callVW, vx_runVW, vx_runVX, vx_runSX, vx_ofWH follow the same proofs as their sisters above (Free/Laws.lean, Shelf42/LK1.lean); vx_outP calls Shelf42/NT130.lean (outThrough). -/
section
variable {l : Launch} {R : Room} {p : Program} {e : Env} {below : List Frame} {s : State} {sargs : Array Value} {y : MethodName} {len W9 : Nat}
theorem vx_backW {ws : List Cond} {rm : Room} {Pc : Array Value → State → Prop} {Qc : Array Value → State → Outcome → State → Prop} {XC : String → State → State → Prop} {mc ms : Nat} {free : Addr → Prop} {bytes : ByteArray} {maxL : Nat} {ret : Option FieldType} {hh : List (Nat × Nat × Nat × Nat)}
    (hM : vx_Met l y ws rm Pc Qc XC mc ms free) (hblind : FrameBlind Pc) (hrc : rm.cells = mc) (hrs : rm.slots = ms)
    (hframes : rm.frames + 1 ≤ R.frames) (hlocals : W9 + (maxL + 11) + rm.locals ≤ R.locals)
    (hws : ∀ w ∈ ws, ∀ a' U, s.WarmedH U.vm → w.before a' U = true) (hcode : Cond.codeWith y bytes maxL ret hh ∈ ws) (hinit : ∀ a' U, s.WarmedH U.vm → (Cond.initialized y.cls).before a' U = true) :
    vx_Back l R p e below s sargs y len W9 (PreOf R mc ms Pc) (PostOf Qc mc ms free) (vx_Post XC mc ms free) := by
  intro m meth c A g ig mk a X hg hsize hdg hW hn hp
  have h1 : (headSpec ws rm).pre.before a A.U = true := atoms_intro fun w hw => hws w hw _ _ X.warmed
  have h2 : (Cond.codeWith y bytes maxL ret hh).before a A.U = true := hws _ hcode _ _ X.warmed
  have h3 : (Cond.initialized y.cls).before a A.U = true := hinit _ _ X.warmed
  have h4 : A.cells + (headSpec ws rm).room.cells ≤ R.cells := by rw [show (headSpec ws rm).room.cells = mc from hrc]; exact hp.1
  have h5 : A.slots + (headSpec ws rm).room.slots ≤ R.slots := by rw [show (headSpec ws rm).room.slots = ms from hrs]; exact hp.2.1
  have hPc : Pc a (A.U.calling g mk a) := hblind _ _ _ _ hp.2.2
  obtain ⟨U, Ls, c0, s0⟩ := A
  dsimp only [Pt.U, Pt.locs, Pt.cells, Pt.slots] at h1 h2 h3 h4 h5 X hn hPc ⊢
  obtain ⟨m9, methY, cY, hn9, hmY, hcY, -, hlY, -⟩ := Cond.codeWith_spec h2
  cases Option.some.inj (hn9.symm.trans hn)
  obtain ⟨kY, hkY, -⟩ := className_of_methodNamed hn
  have hinitY : kY.init = .initialized := Cond.initialized_spec (findClass_of_methodNamed hn) hkY h3
  have h : At U g.method c below := by rw [hg]; exact X.here
  have hlocals9 : W9 + (maxL + 11) + (headSpec ws rm).room.locals ≤ R.locals := hlocals
  have happ : (headSpec ws rm).appliesLoose y e.platform (U.calling g mk a) = true :=
    Spec.appliesLoose_calling (g := g) h hdg hn hkY hinitY
      (X.room_calling (g := g) (R' := (headSpec ws rm).room) hsize hmY hcY hframes (by rw [hlY]; omega) h4 h5) h1
  obtain ⟨mid, hmid⟩ := h.above
  have hfr : (U.setTop g).frames = (.java g :: mid) ++ below := by rw [State.frames_setTop' g h.top, hmid]; rfl
  obtain ⟨o, s₂, hsteps, -, hend, hq⟩ := Steps.callFree hM p X.admits X.cas X.clock (acts := []) hfr happ hPc trivial
  have hq' : vx_Q Qc XC mc ms free a (U.calling g mk a) o s₂ := hq
  rw [State.frames_setTop' g h.top] at hend
  obtain ⟨g₀, hg0⟩ := Option.isSome_iff_exists.mp h.top
  obtain ⟨r, hr⟩ := State.topJava?_eq_some.mp hg0
  have hr' : (({ U with heap := s₂.heap, slotsUsed := s₂.slotsUsed } : State).setVm s₂.vm).frames = .java g₀ :: r := hr
  rcases hq' with ⟨hqc, L, hfe, hL⟩ | ⟨q, rfl, E, ce, L, hx, hce, hcv, hcl, hW₂, hsm, hL⟩
  · obtain ⟨⟨v, rfl⟩, hW₂, e2, q2, q3, q4, q5, q6⟩ := id hfe
    have e3 : s₂ = ({ (U.calling g mk a).setFrames s₂.frames with heap := s₂.heap, slotsUsed := s₂.slotsUsed } : State).setVm s₂.vm := by
      have : s₂ = ({ s₂ with vm := (U.calling g mk a).vm } : State).setVm s₂.vm := rfl
      rw [e2] at this
      exact this
    obtain ⟨c₂, i₂, len₂, hc₂, hd₂, hf₂⟩ := hend
    have hW' : U.WarmedH s₂.vm := hW₂
    have hcc : c₂ = c := by
      have h1 : s₂.code? g.method = U.code? g.method := by
        rw [State.code?_eq, State.code?_eq, hW'.alike.method?]
      exact Option.some.inj (hc₂.symm.trans (h1.trans h.code))
    subst hcc
    have hlen : len₂ = len := by rw [hdg] at hd₂; cases hd₂; rfl
    subst hlen
    have hs₂ : s₂ = (({ U with heap := s₂.heap, slotsUsed := s₂.slotsUsed } : State).setVm s₂.vm).setTop { g with pc := g.pc + len₂, stack := v.toList ++ g.stack } := by
      refine e3.trans ?_
      rw [hf₂, State.calling_eq h.top, State.setFrames_setFrames, State.setTop_of_frames _ hr', hr]
      rfl
    have hsame : U.sameButNew ({ U with heap := s₂.heap, slotsUsed := s₂.slotsUsed } : State) L mc ms := by
      refine ⟨?_, q2, q3, q4, q5, q6⟩
      obtain ⟨t, ht, -⟩ := State.frames_cons hr
      show ({ U with heap := s₂.heap, slotsUsed := s₂.slotsUsed } : State) = { U.setFrames U.frames with heap := s₂.heap, slotsUsed := s₂.slotsUsed }
      rw [State.setFrames_self ht]
    subst hg
    refine Or.inl ⟨v, ⟨(({ U with heap := s₂.heap, slotsUsed := s₂.slotsUsed } : State).setVm s₂.vm), Ls ++ L, c0 + mc, s0 + ms⟩,
      ⟨X.admits, X.cas, X.clock, X.frames, X.room, X.hears, X.method, X.code, (X.here.setHeapUsed s₂.heap s₂.slotsUsed).setVm hW'.alike, X.tail, State.WarmedH.trans X.warmed hW', X.limits, X.bytes, X.same.trans (hsame.setVm s.vm)⟩,
      ⟨g, mk, s₂, L, rfl, rfl, hqc, rfl, hL, rfl, rfl⟩, ?_⟩
    show Steps p.tables e below _ ((({ U with heap := s₂.heap, slotsUsed := s₂.slotsUsed } : State).setVm s₂.vm).setTop { g with pc := g.pc + len₂, stack := v.toList ++ g.stack })
    rw [← hs₂]
    exact hsteps
  · obtain ⟨e2, q2, q3, q4, q5, q6⟩ := id hsm
    have e3 : s₂ = ({ (U.calling g mk a).setFrames s₂.frames with heap := s₂.heap, slotsUsed := s₂.slotsUsed } : State).setVm s₂.vm := by
      have : s₂ = ({ s₂ with vm := (U.calling g mk a).vm } : State).setVm s₂.vm := rfl
      rw [e2] at this
      exact this
    have hf₂ : s₂.frames = .throwing q :: .java g :: U.frames.tail := hend
    have hW' : U.WarmedH s₂.vm := hW₂
    have hs₂ : s₂ = ((({ U with heap := s₂.heap, slotsUsed := s₂.slotsUsed } : State).setVm s₂.vm).setTop g).pushFrame (.throwing q) := by
      refine e3.trans ?_
      rw [hf₂, State.calling_eq h.top, State.setFrames_setFrames, State.pushFrame, State.frames_setTop _ hr', State.setTop_of_frames _ hr', State.setFrames_setFrames, hr]
      rfl
    have hsame : U.sameButNew ({ U with heap := s₂.heap, slotsUsed := s₂.slotsUsed } : State) L mc ms := by
      refine ⟨?_, q2, q3, q4, q5, q6⟩
      obtain ⟨t, ht, -⟩ := State.frames_cons hr
      show ({ U with heap := s₂.heap, slotsUsed := s₂.slotsUsed } : State) = { U.setFrames U.frames with heap := s₂.heap, slotsUsed := s₂.slotsUsed }
      rw [State.setFrames_self ht]
    subst hg
    refine Or.inr ⟨q, ⟨(({ U with heap := s₂.heap, slotsUsed := s₂.slotsUsed } : State).setVm s₂.vm), Ls ++ L, c0 + mc, s0 + ms⟩,
      ⟨X.admits, X.cas, X.clock, X.frames, X.room, X.hears, X.method, X.code, (X.here.setHeapUsed s₂.heap s₂.slotsUsed).setVm hW'.alike, X.tail, State.WarmedH.trans X.warmed hW', X.limits, X.bytes, X.same.trans (hsame.setVm s.vm)⟩,
      ⟨g, mk, s₂, L, E, ce, rfl, rfl, hx, hce, hcv, hcl, rfl, hL, rfl, rfl⟩, ?_⟩
    show Steps p.tables e below _ (((({ U with heap := s₂.heap, slotsUsed := s₂.slotsUsed } : State).setVm s₂.vm).setTop g).pushFrame (.throwing q))
    rw [← hs₂]
    exact hsteps
end
variable {p : Program} {l : Launch} {e : Env} {R : Room} {s : State} {m : MethodId} {args : Array Value} {below : List Frame} {meth : Method} {c : Code} {T : State} {H : Heap} {locs : List Loc} {cells slots : Nat}
theorem vx_callVX (X : Stand p l e R s m args below meth c T locs cells slots) (hexec : p.tables.exec = Jvm.exec) {own C : String} {index : Nat} {y : MethodName} {bytes : ByteArray} {maxL : Nat} {ret : Option FieldType} {hh : List (Nat × Nat × Nat × Nat)}
    (hown : s.vm.findClass own = some m.cls) (hlink : (Cond.methodLink own index y).before args s = true) (hinst : (Cond.instanceMethod y).before args s = true) (hsel : (Cond.selects C y y).before args s = true)
    (hcode : (Cond.codeWith y bytes maxL ret hh).before args s = true) (hy : y.cls ≠ "java/lang/invoke/MethodHandle" ∧ y.cls ≠ "java/lang/invoke/VarHandle")
    {W9 : Nat} {Pre : Pt → Array Value → Prop} {Post : Pt → Array Value → Option Value → Pt → Prop} {PostX : Pt → Array Value → Addr → Pt → Prop} (hK : vx_Back l R p e below s args y 3 W9 Pre Post PostX)
    {b : Addr} {cellB : Cell} (hcell : T.heap[b]? = some cellB) (hobj : cellB.vm.isStatics = false) (hcls : s.vm.findClass C = some cellB.cls)
    {g : JFrame} (hg : g.method = m) (hsize : g.locals.size = c.maxLocals) {argsL rest : List Value} (hlen : ∀ sig, parseMethodDescriptor y.desc = some sig → argsL.length = sig.parameters.length)
    (hstack : g.stack = argsL.reverse ++ .ref b :: rest) (hW : 2 * g.monitorRoom + (rest.map fun v => v.category).sum ≤ W9) (hdg : decode c.code g.pc = .ok (.invokevirtual index, 3))
    (hpre : ∀ vm₁, s.WarmedH vm₁ → Pre ⟨T.setVm vm₁, locs, cells, slots⟩ (Value.ref b :: argsL).toArray) :
    (∃ (v : Option Value) (vm₁ : Vm) (B : Pt), s.WarmedH vm₁ ∧ Stand p l e R s m args below meth c B.U B.locs B.cells B.slots ∧ Post ⟨T.setVm vm₁, locs, cells, slots⟩ (Value.ref b :: argsL).toArray v B ∧
      ∀ target, Steps p.tables e below (B.U.setTop { g with pc := g.pc + 3, stack := v.toList ++ rest }) target → Steps p.tables e below (T.setTop g) target) ∨
    (∃ (q : Addr) (vm₁ : Vm) (B : Pt), s.WarmedH vm₁ ∧ Stand p l e R s m args below meth c B.U B.locs B.cells B.slots ∧ PostX ⟨T.setVm vm₁, locs, cells, slots⟩ (Value.ref b :: argsL).toArray q B ∧
      Steps p.tables e below (T.setTop g) ((B.U.setTop { g with stack := rest }).pushFrame (.throwing q))) := by
  obtain ⟨mk, methM, hnamed, hmethM, hstM, habM⟩ := Cond.instanceMethod_spec hinst
  obtain ⟨m8, methM', cM, hn8, hmethM', -, -, -, -, -, -, hsigM⟩ := Cond.codeWith_spec hcode
  cases Option.some.inj (hn8.symm.trans hnamed)
  cases hmethM.symm.trans hmethM'
  obtain ⟨c2, r2, m2, q1, q2, q3, q4, kP, hkP, hkPi⟩ := Cond.selects_spec hsel
  cases hcls.symm.trans q1
  cases (State.methodFound?_of_named hnamed hy).symm.trans q2
  cases hnamed.symm.trans q3
  have hselP : selectMethod e.platform s.vm cellB.cls mk = .method mk := by rw [Launch.admits_selectMethod X.admits]; exact q4
  obtain ⟨vm₁, X₁, hstep₁⟩ := X.invokevirtual hexec hown hlink hnamed hmethM hstM hkP hkPi hy (a := b) (cell := cellB) hcell
    (fun z h => by rw [h] at hobj; cases hobj) hselP hmethM habM hkP hkPi (g := g) hg (argsL := argsL) (rest := rest) (hlen _ hsigM) hstack hdg
  rcases hK m meth c ⟨T.setVm vm₁, locs, cells, slots⟩ { g with stack := rest } (.invokevirtual index) mk (Value.ref b :: argsL).toArray X₁ hg hsize hdg hW (X₁.named hnamed) (hpre vm₁ X₁.warmed) with ⟨v, B, X', hpost, hsteps⟩ | ⟨q, B, X', hpost, hsteps⟩
  · exact Or.inl ⟨v, vm₁, B, X₁.warmed, X', hpost, fun target h => hstep₁ _ fun acts => by rw [doInvoke_state]; exact hsteps.trans h⟩
  · exact Or.inr ⟨q, vm₁, B, X₁.warmed, X', hpost, hstep₁ _ fun acts => by rw [doInvoke_state]; exact hsteps⟩
theorem vx_callSX (X : Stand p l e R s m args below meth c T locs cells slots) (hexec : p.tables.exec = Jvm.exec) {own : String} {index : Nat} {y : MethodName} {bytes : ByteArray} {maxL : Nat} {ret : Option FieldType} {hh : List (Nat × Nat × Nat × Nat)}
    (hown : s.vm.findClass own = some m.cls) (hlink : (Cond.methodLink own index y).before args s = true) (hstat : (Cond.static y).before args s = true) (hinit : (Cond.initialized y.cls).before args s = true)
    (hcode : (Cond.codeWith y bytes maxL ret hh).before args s = true) (hy : y.cls ≠ "java/lang/invoke/MethodHandle" ∧ y.cls ≠ "java/lang/invoke/VarHandle")
    {W9 : Nat} {Pre : Pt → Array Value → Prop} {Post : Pt → Array Value → Option Value → Pt → Prop} {PostX : Pt → Array Value → Addr → Pt → Prop} (hK : vx_Back l R p e below s args y 3 W9 Pre Post PostX)
    {g : JFrame} (hg : g.method = m) (hsize : g.locals.size = c.maxLocals) {argsL rest : List Value} (hlen : ∀ sig, parseMethodDescriptor y.desc = some sig → argsL.length = sig.parameters.length)
    (hstack : g.stack = argsL.reverse ++ rest) (hW : 2 * g.monitorRoom + (rest.map fun v => v.category).sum ≤ W9) (hdg : decode c.code g.pc = .ok (.invokestatic index, 3))
    (hpre : ∀ vm₁, s.WarmedH vm₁ → Pre ⟨T.setVm vm₁, locs, cells, slots⟩ argsL.toArray) :
    (∃ (v : Option Value) (vm₁ : Vm) (B : Pt), s.WarmedH vm₁ ∧ Stand p l e R s m args below meth c B.U B.locs B.cells B.slots ∧ Post ⟨T.setVm vm₁, locs, cells, slots⟩ argsL.toArray v B ∧
      ∀ target, Steps p.tables e below (B.U.setTop { g with pc := g.pc + 3, stack := v.toList ++ rest }) target → Steps p.tables e below (T.setTop g) target) ∨
    (∃ (q : Addr) (vm₁ : Vm) (B : Pt), s.WarmedH vm₁ ∧ Stand p l e R s m args below meth c B.U B.locs B.cells B.slots ∧ PostX ⟨T.setVm vm₁, locs, cells, slots⟩ argsL.toArray q B ∧
      Steps p.tables e below (T.setTop g) ((B.U.setTop { g with stack := rest }).pushFrame (.throwing q))) := by
  obtain ⟨mk, methM, cM, hnamed, hmethM, -, -, -, -, -, -, hsigM⟩ := Cond.codeWith_spec hcode
  have hstatic : methM.isStatic = true := Cond.static_spec hnamed hmethM hstat
  obtain ⟨kP, hkP, -⟩ := className_of_methodNamed hnamed
  have hinitP : kP.init = .initialized := Cond.initialized_spec (findClass_of_methodNamed hnamed) hkP hinit
  obtain ⟨vm₁, X₁, hstep₁⟩ := X.invokestatic hexec hown hlink hnamed hmethM hstatic hkP hinitP hy (g := g) hg (argsL := argsL) (rest := rest) (hlen _ hsigM) hstack hdg
  rcases hK m meth c ⟨T.setVm vm₁, locs, cells, slots⟩ { g with stack := rest } (.invokestatic index) mk argsL.toArray X₁ hg hsize hdg hW (X₁.named hnamed) (hpre vm₁ X₁.warmed) with ⟨v, B, X', hpost, hsteps⟩ | ⟨q, B, X', hpost, hsteps⟩
  · exact Or.inl ⟨v, vm₁, B, X₁.warmed, X', hpost, fun target h => hstep₁ _ fun acts => by rw [doInvoke_state]; exact hsteps.trans h⟩
  · exact Or.inr ⟨q, vm₁, B, X₁.warmed, X', hpost, hstep₁ _ fun acts => by rw [doInvoke_state]; exact hsteps⟩
theorem vx_callVW (X : Stand p l e R s m args below meth c T locs cells slots) (hexec : p.tables.exec = Jvm.exec) {own C : String} {index : Nat} {y : MethodName} {bytes : ByteArray} {maxL : Nat} {ret : Option FieldType} {hh : List (Nat × Nat × Nat × Nat)}
    (hown : s.vm.findClass own = some m.cls) (hlink : (Cond.methodLink own index y).before args s = true) (hinst : (Cond.instanceMethod y).before args s = true) (hsel : (Cond.selects C y y).before args s = true)
    (hcode : (Cond.codeWith y bytes maxL ret hh).before args s = true) (hy : y.cls ≠ "java/lang/invoke/MethodHandle" ∧ y.cls ≠ "java/lang/invoke/VarHandle")
    {W9 : Nat} {Pre : Pt → Array Value → Prop} {Post : Pt → Array Value → Option Value → Pt → Prop} (hK : Back l R p e below s args y 3 W9 Pre Post)
    {b : Addr} {cellB : Cell} (hcell : T.heap[b]? = some cellB) (hobj : cellB.vm.isStatics = false) (hcls : s.vm.findClass C = some cellB.cls)
    {g : JFrame} (hg : g.method = m) (hsize : g.locals.size = c.maxLocals) {argsL rest : List Value} (hlen : ∀ sig, parseMethodDescriptor y.desc = some sig → argsL.length = sig.parameters.length)
    (hstack : g.stack = argsL.reverse ++ .ref b :: rest) (hW : 2 * g.monitorRoom + (rest.map fun v => v.category).sum ≤ W9) (hdg : decode c.code g.pc = .ok (.invokevirtual index, 3))
    (hpre : ∀ vm₁, s.WarmedH vm₁ → Pre ⟨T.setVm vm₁, locs, cells, slots⟩ (Value.ref b :: argsL).toArray) :
    ∃ (v : Option Value) (vm₁ : Vm) (B : Pt), s.WarmedH vm₁ ∧ Stand p l e R s m args below meth c B.U B.locs B.cells B.slots ∧ Post ⟨T.setVm vm₁, locs, cells, slots⟩ (Value.ref b :: argsL).toArray v B ∧
      ∀ target, Steps p.tables e below (B.U.setTop { g with pc := g.pc + 3, stack := v.toList ++ rest }) target → Steps p.tables e below (T.setTop g) target := by
  obtain ⟨mk, methM, hnamed, hmethM, hstM, habM⟩ := Cond.instanceMethod_spec hinst
  obtain ⟨m8, methM', cM, hn8, hmethM', -, -, -, -, -, -, hsigM⟩ := Cond.codeWith_spec hcode
  cases Option.some.inj (hn8.symm.trans hnamed)
  cases hmethM.symm.trans hmethM'
  obtain ⟨c2, r2, m2, q1, q2, q3, q4, kP, hkP, hkPi⟩ := Cond.selects_spec hsel
  cases hcls.symm.trans q1
  cases (State.methodFound?_of_named hnamed hy).symm.trans q2
  cases hnamed.symm.trans q3
  have hselP : selectMethod e.platform s.vm cellB.cls mk = .method mk := by rw [Launch.admits_selectMethod X.admits]; exact q4
  obtain ⟨vm₁, X₁, hstep₁⟩ := X.invokevirtual hexec hown hlink hnamed hmethM hstM hkP hkPi hy (a := b) (cell := cellB) hcell
    (fun z h => by rw [h] at hobj; cases hobj) hselP hmethM habM hkP hkPi (g := g) hg (argsL := argsL) (rest := rest) (hlen _ hsigM) hstack hdg
  obtain ⟨v, B, X', hpost, hsteps⟩ := hK m meth c ⟨T.setVm vm₁, locs, cells, slots⟩ { g with stack := rest } (.invokevirtual index) mk (Value.ref b :: argsL).toArray X₁ hg hsize hdg hW (X₁.named hnamed) (hpre vm₁ X₁.warmed)
  exact ⟨v, vm₁, B, X₁.warmed, X', hpost, fun target h => hstep₁ _ fun acts => by rw [doInvoke_state]; exact hsteps.trans h⟩
abbrev vx_CVW (R : Room) (s : State) (args : Array Value) (own C : String) (index : Nat) (y : MethodName) (bytes : ByteArray) (maxL : Nat) (ret : Option FieldType) (hh : List (Nat × Nat × Nat × Nat)) (ws : List Cond) (rm : Room) (mc ms n : Nat) : Prop :=
  (rm.cells = mc ∧ rm.slots = ms ∧ rm.frames + 1 ≤ R.frames ∧ 8 + (maxL + 11) + rm.locals ≤ R.locals ∧ (∀ w ∈ ws, ∀ (a' : Array Value) (U : State), s.WarmedH U.vm → w.before a' U = true) ∧ Cond.codeWith y bytes maxL ret hh ∈ ws) ∧
  (Cond.codeWith y bytes maxL ret hh).before args s = true ∧ (Cond.initialized y.cls).before args s = true ∧ (y.cls ≠ "java/lang/invoke/MethodHandle" ∧ y.cls ≠ "java/lang/invoke/VarHandle") ∧
  (∀ sig, parseMethodDescriptor y.desc = some sig → n = sig.parameters.length) ∧ (Cond.methodLink own index y).before args s = true ∧ (Cond.instanceMethod y).before args s = true ∧ (Cond.selects C y y).before args s = true
theorem vx_cwVW {own C : String} {index maxL mc ms : Nat} {y : MethodName} {bytes : ByteArray} {ret : Option FieldType} {hh : List (Nat × Nat × Nat × Nat)} {Ts ws ws' : List Cond} {rm : Room} (n : Nat) (ht : ∀ w ∈ Ts, w.before args s = true) (hT : GoodIn Ts (wsV own index C y ws)) (hw : ws = Cond.codeWith y bytes maxL ret hh :: ws') (hrc : rm.cells = mc) (hrs : rm.slots = ms)
    (hd : y.cls = C ∧ y.cls ≠ "java/lang/invoke/MethodHandle" ∧ y.cls ≠ "java/lang/invoke/VarHandle" ∧ (parseMethodDescriptor y.desc).map (fun d => d.parameters.length) = some n) (hR : rm.frames + 1 ≤ R.frames ∧ 8 + (maxL + 11) + rm.locals ≤ R.locals) :
    vx_CVW R s args own C index y bytes maxL ret hh ws rm mc ms n := by
  obtain ⟨hC, hd⟩ := hd
  subst hC
  have ok : ∀ w ∈ wsV own index y.cls y ws, w.before args s = true := fun w h => ht w (hT w h).1
  have hG : GoodIn Ts ws := fun w h => hT w (by unfold wsV; exact List.mem_append_right _ h)
  have hc : Cond.codeWith y bytes maxL ret hh ∈ ws := by rw [hw]; exact List.mem_cons_self
  refine ⟨⟨hrc, hrs, hR.1, hR.2, pay_in ht hG, hc⟩, ht _ (hG _ hc).1, ok _ (by simp [wsV]), ⟨hd.1, hd.2.1⟩, fun sig h => ?_, ok _ (by simp [wsV]), ok _ (by simp [wsV]), ok _ (by simp [wsV])⟩
  have h2 := hd.2.2
  rw [h] at h2
  exact (Option.some.inj h2).symm
theorem vx_runVW {y : MethodName} {bytes cc : ByteArray} {maxL nL mc ms n index : Nat} {ret : Option FieldType} {hh : List (Nat × Nat × Nat × Nat)} {ws : List Cond} {rm : Room} {Pc : Array Value → State → Prop} {Qc : Array Value → State → Outcome → State → Prop} {free : Addr → Prop} {Ts : List Cond} {own C : String} {b : Addr} {As rest : List Value} {g : JFrame}
    (S : CallFix p m c cc nL s args Ts own) (hM : Met l y ws rm Pc Qc mc ms free) (cw : vx_CVW R s args own C index y bytes maxL ret hh ws rm mc ms n) (hp : PreV s H C b Pc As)
    (hg : g.method = m) (hn : As.length = n) (hsize : g.locals.size = nL) (hstack : g.stack = As.reverse ++ .ref b :: rest) (hW : 2 * g.monitorRoom + (rest.map fun v => v.category).sum ≤ 8) (hdg : decode cc g.pc = .ok (.invokevirtual index, 3)) (hf : cells + mc ≤ R.cells ∧ slots + ms ≤ R.slots) :
    va_Run p l e R s m args below meth c H locs cells slots mc ms g rest (Qc (Value.ref b :: As).toArray) free := by
  obtain ⟨⟨hrc, hrs, hfr, hlo, hws, hcw⟩, hcode, hini, hy, hlen, hl, hin, hse⟩ := cw
  have hK : Back l R p e below s args y 3 8 (PreOf R mc ms Pc) (PostOf Qc mc ms free) := va_backW (hh := hh) (bytes := bytes) (maxL := maxL) (ret := ret) hM hp.1 hrc hrs hfr hlo hws hcw (fun a' U hW => word_at hW (Or.inl (by first | rfl | simp [Cond.onTables, Cond.keeps, Cond.steady])) hini)
  obtain ⟨hx, hb, hml, ho, -⟩ := S
  obtain ⟨-, ⟨cellB, hcB, hoB, hclB⟩, hPc⟩ := hp
  intro T hT X
  obtain ⟨v, vm₁, ⟨U', l2, c2, s2⟩, hW₁, X', ⟨g', mk, t, L, e1, e2, hq, h1, hL, h2, h3⟩, st⟩ := vx_callVW X hx (C := C) (hh := hh) (bytes := bytes) (maxL := maxL) (ret := ret) ho hl hin hse hcode hy hK (by rw [hT]; exact hcB) hoB hclB hg (hsize.trans hml.symm) (argsL := As) (rest := rest) (fun sig h => hn.trans (hlen sig h)) hstack hW (by rw [hb]; exact hdg)
    (fun vm₁ hW₁ => ⟨hf.1, hf.2, hPc (T.setVm vm₁) hT hW₁⟩)
  dsimp only [Pt.U, Pt.locs, Pt.cells, Pt.slots] at X' e1 e2 h1 h2 h3 st
  subst h1; subst h2; subst h3
  exact ⟨v, (T.setVm vm₁).calling g' mk (Value.ref b :: As).toArray, t, U', L, hT, X', hL, e1, e2, hq, st⟩
section
variable {y : MethodName} {bytes cc : ByteArray} {maxL nL mc ms n index : Nat} {ret : Option FieldType} {ws : List Cond} {rm : Room} {Pc : Array Value → State → Prop} {Qc : Array Value → State → Outcome → State → Prop} {XC : String → State → State → Prop} {free : Addr → Prop} {Ts : List Cond} {own C : String} {b : Addr} {As rest : List Value} {g : JFrame}
theorem vx_runVX {hh : List (Nat × Nat × Nat × Nat)} (S : CallFix p m c cc nL s args Ts own) (hM : vx_Met l y ws rm Pc Qc XC mc ms free) (cw : vx_CVW R s args own C index y bytes maxL ret hh ws rm mc ms n) (hp : PreV s H C b Pc As)
    (hg : g.method = m) (hn : As.length = n) (hsize : g.locals.size = nL) (hstack : g.stack = As.reverse ++ .ref b :: rest) (hW : 2 * g.monitorRoom + (rest.map fun v => v.category).sum ≤ 8) (hdg : decode cc g.pc = .ok (.invokevirtual index, 3)) (hf : cells + mc ≤ R.cells ∧ slots + ms ≤ R.slots) :
    vx_Run p l e R s m args below meth c H locs cells slots mc ms g rest (Qc (Value.ref b :: As).toArray) XC free := by
  obtain ⟨⟨hrc, hrs, hfr, hlo, hws, hcw⟩, hcode, hini, hy, hlen, hl, hin, hse⟩ := cw
  have hK : vx_Back l R p e below s args y 3 8 (PreOf R mc ms Pc) (PostOf Qc mc ms free) (vx_Post XC mc ms free) := vx_backW (hh := hh) (bytes := bytes) (maxL := maxL) (ret := ret) hM hp.1 hrc hrs hfr hlo hws hcw (fun a' U hW => word_at hW (Or.inl (by first | rfl | simp [Cond.onTables, Cond.keeps, Cond.steady])) hini)
  obtain ⟨hx, hb, hml, ho, -⟩ := S
  obtain ⟨-, ⟨cellB, hcB, hoB, hclB⟩, hPc⟩ := hp
  intro T hT X
  rcases vx_callVX X hx (C := C) (hh := hh) (bytes := bytes) (maxL := maxL) (ret := ret) ho hl hin hse hcode hy hK (by rw [hT]; exact hcB) hoB hclB hg (hsize.trans hml.symm) (argsL := As) (rest := rest) (fun sig h => hn.trans (hlen sig h)) hstack hW (by rw [hb]; exact hdg)
    (fun vm₁ hW₁ => ⟨hf.1, hf.2, hPc (T.setVm vm₁) hT hW₁⟩) with ⟨v, vm₁, ⟨U', l2, c2, s2⟩, hW₁, X', ⟨g', mk, t, L, e1, e2, hq, h1, hL, h2, h3⟩, st⟩ | ⟨q, vm₁, ⟨U', l2, c2, s2⟩, hW₁, X', ⟨g', mk, t, L, E, ce, e1, e2, hq, hce, hcv, hcl, h1, hL, h2, h3⟩, st⟩
  · dsimp only [Pt.U, Pt.locs, Pt.cells, Pt.slots] at X' e1 e2 h1 h2 h3 st
    subst h1; subst h2; subst h3
    exact Or.inl ⟨v, (T.setVm vm₁).calling g' mk (Value.ref b :: As).toArray, t, U', L, hT, X', hL, e1, e2, hq, st⟩
  · dsimp only [Pt.U, Pt.locs, Pt.cells, Pt.slots] at X' e1 e2 h1 h2 h3 st hcl
    subst h1; subst h2; subst h3
    exact Or.inr ⟨q, (T.setVm vm₁).calling g' mk (Value.ref b :: As).toArray, t, U', L, E, ce, hT, X', hL, e1, e2, hq, hce, hcv, vx_cls hW₁ hcl, st⟩
theorem vx_runSX {hh : List (Nat × Nat × Nat × Nat)} (S : CallFix p m c cc nL s args Ts own) (hM : vx_Met l y ws rm Pc Qc XC mc ms free) (cw : vx_CSW R s args own index y bytes maxL ret hh ws rm mc ms n) (hp : PreS s H Pc As)
    (hg : g.method = m) (hn : As.length = n) (hsize : g.locals.size = nL) (hstack : g.stack = As.reverse ++ rest) (hW : 2 * g.monitorRoom + (rest.map fun v => v.category).sum ≤ 8) (hdg : decode cc g.pc = .ok (.invokestatic index, 3)) (hf : cells + mc ≤ R.cells ∧ slots + ms ≤ R.slots) :
    vx_Run p l e R s m args below meth c H locs cells slots mc ms g rest (Qc As.toArray) XC free := by
  obtain ⟨⟨hrc, hrs, hfr, hlo, hws, hcw⟩, hcode, hini, hy, hlen, hl, hstt⟩ := cw
  have hK : vx_Back l R p e below s args y 3 8 (PreOf R mc ms Pc) (PostOf Qc mc ms free) (vx_Post XC mc ms free) := vx_backW (hh := hh) (bytes := bytes) (maxL := maxL) (ret := ret) hM hp.1 hrc hrs hfr hlo hws hcw (fun a' U hW => word_at hW (Or.inl (by first | rfl | simp [Cond.onTables, Cond.keeps, Cond.steady])) hini)
  obtain ⟨hx, hb, hml, ho, -⟩ := S
  intro T hT X
  rcases vx_callSX X hx (hh := hh) (bytes := bytes) (maxL := maxL) (ret := ret) ho hl hstt hini hcode hy hK hg (hsize.trans hml.symm) (argsL := As) (rest := rest) (fun sig h => hn.trans (hlen sig h)) hstack hW (by rw [hb]; exact hdg)
    (fun vm₁ hW₁ => ⟨hf.1, hf.2, hp.2 (T.setVm vm₁) hT hW₁⟩) with ⟨v, vm₁, ⟨U', l2, c2, s2⟩, hW₁, X', ⟨g', mk, t, L, e1, e2, hq, h1, hL, h2, h3⟩, st⟩ | ⟨q, vm₁, ⟨U', l2, c2, s2⟩, hW₁, X', ⟨g', mk, t, L, E, ce, e1, e2, hq, hce, hcv, hcl, h1, hL, h2, h3⟩, st⟩
  · dsimp only [Pt.U, Pt.locs, Pt.cells, Pt.slots] at X' e1 e2 h1 h2 h3 st
    subst h1; subst h2; subst h3
    exact Or.inl ⟨v, (T.setVm vm₁).calling g' mk As.toArray, t, U', L, hT, X', hL, e1, e2, hq, st⟩
  · dsimp only [Pt.U, Pt.locs, Pt.cells, Pt.slots] at X' e1 e2 h1 h2 h3 st hcl
    subst h1; subst h2; subst h3
    exact Or.inr ⟨q, (T.setVm vm₁).calling g' mk As.toArray, t, U', L, E, ce, hT, X', hL, e1, e2, hq, hce, hcv, vx_cls hW₁ hcl, st⟩
end
end VXH
theorem vx_ofWH {l : Launch} {y : MethodName} {ws ws' : List Cond} {rm : Room} {Pc : Array Value → State → Prop} {Qc : Array Value → State → Outcome → State → Prop} {XC : String → State → State → Prop} {mc ms : Nat} {free : Addr → Prop} {cc : ByteArray} {maxL : Nat} {ret : Option FieldType} {hh : List (Nat × Nat × Nat × Nat)}
    (hy : plainName y.cls = true) (hw : ws = Cond.codeWith y cc maxL ret hh :: ws')
    (body : ∀ p e s m args below meth c s₁, BodyLoose p l y (headSpec ws rm) cc maxL ret e s m args below meth c s₁ → c.maxLocals = maxL → Pc args s →
      W p l e (headSpec ws rm).room s m args below meth c s.heap [] 0 0 (vx_MQ below Qc XC args s mc ms free) (entryFrame m args maxL)) : vx_Met l y ws rm Pc Qc XC mc ms free := by
  refine MetFree.of_bodyS (code := cc) (maxLocals := maxL) (ret := ret) hy ?_ ?_
  · intro args s m h hn
    obtain ⟨m9, meth, c, hn9, h1, h2, h3, h4, -, h5, h6, -⟩ := Cond.codeWith_spec (atoms_spec (ws := ws) h _ (by rw [hw]; exact List.mem_cons_self))
    cases hn.symm.trans hn9
    exact ⟨meth, c, h1, h2, h3, h4, h5, h6⟩
  · intro p e s m args below meth c s₁ B hml hP _
    have hh0 : s₁.heap = s.heap := by rw [B.state]; rfl
    obtain ⟨t, a1, o, b1, b2, b3⟩ := body p e s m args below meth c s₁ B hml hP s₁ hh0 (Stand.of_body B)
    exact ⟨t, o, a1, b1, b2, b3⟩
/-! ===== END ===== -/
end
section
/-! ===== BEGIN printed: names, fields, word lists, decode rows ===== -/
def RX0 : String := "TickFall$Agenda"
def TX0 : u_T := fun k => match k with
  | 0 => ("TickFall$Agenda", "rows", "[I", true)
  | _ => ("TickFall$Agenda", "count", "I", false)
def tyX0 : Nat → FieldType := fun k => match k with
  | 0 => .array .int
  | _ => .int
abbrev wsX00 : List Cond := u_ws RX0 TX0 2
theorem nmX0 : ∀ a, a < 2 → ∀ b, b < 2 → a ≠ b → (TX0 a).2.1 ≠ (TX0 b).2.1 := by decide +kernel
theorem tyX0_ok : ∀ k, k < 2 → parseFieldDescriptor (TX0 k).2.2.1 = some (tyX0 k) := by decide +kernel
abbrev cX0_init : ByteArray := prog_2_method_1_code
def yX0_init : MethodName := ⟨RX0, "<init>", "()V"⟩
abbrev cX0_kindOf : ByteArray := prog_2_method_2_code
def yX0_kindOf : MethodName := ⟨RX0, "kindOf", "(I)I"⟩
abbrev cX0_numberOf : ByteArray := prog_2_method_3_code
def yX0_numberOf : MethodName := ⟨RX0, "numberOf", "(I)I"⟩
abbrev cX0_amountOf : ByteArray := prog_2_method_4_code
def yX0_amountOf : MethodName := ⟨RX0, "amountOf", "(I)I"⟩
abbrev cX0_count : ByteArray := prog_2_method_5_code
def yX0_count : MethodName := ⟨RX0, "count", "()I"⟩
abbrev cX0_add : ByteArray := prog_2_method_6_code
def yX0_add : MethodName := ⟨RX0, "add", "(IIII)V"⟩
abbrev cX0_isNextDue : ByteArray := prog_2_method_7_code
def yX0_isNextDue : MethodName := ⟨RX0, "isNextDue", "(I)Z"⟩
abbrev cX0_takeNext : ByteArray := prog_2_method_8_code
def yX0_takeNext : MethodName := ⟨RX0, "takeNext", "()I"⟩
def RX1 : String := "TickFall$Clocks"
def TX1 : u_T := fun k => match k with
  | 0 => ("TickFall$Clocks", "rates", "[I", true)
  | 1 => ("TickFall$Clocks", "drifts", "[I", true)
  | 2 => ("TickFall$Clocks", "weights", "[I", true)
  | 3 => ("TickFall$Clocks", "heights", "[I", true)
  | 4 => ("TickFall$Clocks", "phases", "[I", true)
  | _ => ("TickFall$Clocks", "count", "I", false)
def tyX1 : Nat → FieldType := fun k => match k with
  | 0 => .array .int
  | 1 => .array .int
  | 2 => .array .int
  | 3 => .array .int
  | 4 => .array .int
  | _ => .int
abbrev wsX10 : List Cond := u_ws RX1 TX1 6
theorem nmX1 : ∀ a, a < 6 → ∀ b, b < 6 → a ≠ b → (TX1 a).2.1 ≠ (TX1 b).2.1 := by decide +kernel
theorem tyX1_ok : ∀ k, k < 6 → parseFieldDescriptor (TX1 k).2.2.1 = some (tyX1 k) := by decide +kernel
abbrev cX1_init : ByteArray := prog_3_method_1_code
def yX1_init : MethodName := ⟨RX1, "<init>", "()V"⟩
abbrev cX1_count : ByteArray := prog_3_method_2_code
def yX1_count : MethodName := ⟨RX1, "count", "()I"⟩
abbrev cX1_has : ByteArray := prog_3_method_3_code
def yX1_has : MethodName := ⟨RX1, "has", "(I)Z"⟩
abbrev cX1_add : ByteArray := prog_3_method_4_code
def yX1_add : MethodName := ⟨RX1, "add", "(II)I"⟩
abbrev cX1_phaseOf : ByteArray := prog_3_method_5_code
def yX1_phaseOf : MethodName := ⟨RX1, "phaseOf", "(I)I"⟩
abbrev cX1_rateOf : ByteArray := prog_3_method_6_code
def yX1_rateOf : MethodName := ⟨RX1, "rateOf", "(I)I"⟩
abbrev cX1_heightOf : ByteArray := prog_3_method_7_code
def yX1_heightOf : MethodName := ⟨RX1, "heightOf", "(I)I"⟩
abbrev cX1_weightOf : ByteArray := prog_3_method_8_code
def yX1_weightOf : MethodName := ⟨RX1, "weightOf", "(I)I"⟩
abbrev cX1_setDriftAndWeight : ByteArray := prog_3_method_9_code
def yX1_setDriftAndWeight : MethodName := ⟨RX1, "setDriftAndWeight", "(III)V"⟩
abbrev cX1_setHeight : ByteArray := prog_3_method_10_code
def yX1_setHeight : MethodName := ⟨RX1, "setHeight", "(II)V"⟩
abbrev cX1_addToRate : ByteArray := prog_3_method_11_code
def yX1_addToRate : MethodName := ⟨RX1, "addToRate", "(II)V"⟩
abbrev cX1_run : ByteArray := prog_3_method_12_code
def yX1_run : MethodName := ⟨RX1, "run", "(I)V"⟩
def RX2 : String := "TickFall$Links"
def TX2 : u_T := fun k => match k with
  | 0 => ("TickFall$Links", "firsts", "[I", true)
  | 1 => ("TickFall$Links", "seconds", "[I", true)
  | 2 => ("TickFall$Links", "asymmetries", "[I", true)
  | 3 => ("TickFall$Links", "cycles", "[I", true)
  | 4 => ("TickFall$Links", "laidOn", "[I", true)
  | 5 => ("TickFall$Links", "calibrations", "[I", true)
  | 6 => ("TickFall$Links", "raw", "[[I", true)
  | 7 => ("TickFall$Links", "offsets", "[[I", true)
  | _ => ("TickFall$Links", "count", "I", false)
def tyX2 : Nat → FieldType := fun k => match k with
  | 0 => .array .int
  | 1 => .array .int
  | 2 => .array .int
  | 3 => .array .int
  | 4 => .array .int
  | 5 => .array .int
  | 6 => .array (.array .int)
  | 7 => .array (.array .int)
  | _ => .int
abbrev wsX20 : List Cond := u_ws RX2 TX2 9
theorem nmX2 : ∀ a, a < 9 → ∀ b, b < 9 → a ≠ b → (TX2 a).2.1 ≠ (TX2 b).2.1 := by decide +kernel
theorem tyX2_ok : ∀ k, k < 9 → parseFieldDescriptor (TX2 k).2.2.1 = some (tyX2 k) := by decide +kernel
abbrev cX2_init : ByteArray := prog_4_method_1_code
def yX2_init : MethodName := ⟨RX2, "<init>", "()V"⟩
abbrev cX2_count : ByteArray := prog_4_method_2_code
def yX2_count : MethodName := ⟨RX2, "count", "()I"⟩
abbrev cX2_has : ByteArray := prog_4_method_3_code
def yX2_has : MethodName := ⟨RX2, "has", "(I)Z"⟩
abbrev cX2_isLaidBefore : ByteArray := prog_4_method_4_code
def yX2_isLaidBefore : MethodName := ⟨RX2, "isLaidBefore", "(II)Z"⟩
abbrev cX2_add : ByteArray := prog_4_method_5_code
def yX2_add : MethodName := ⟨RX2, "add", "(IIII)I"⟩
abbrev cX2_setAsymmetry : ByteArray := prog_4_method_6_code
def yX2_setAsymmetry : MethodName := ⟨RX2, "setAsymmetry", "(II)V"⟩
abbrev cX2_addCycles : ByteArray := prog_4_method_7_code
def yX2_addCycles : MethodName := ⟨RX2, "addCycles", "(II)V"⟩
abbrev cX2_calibrationsOf : ByteArray := prog_4_method_8_code
def yX2_calibrationsOf : MethodName := ⟨RX2, "calibrationsOf", "(I)I"⟩
abbrev cX2_addCalibration : ByteArray := prog_4_method_9_code
def yX2_addCalibration : MethodName := ⟨RX2, "addCalibration", "(IIII)I"⟩
abbrev cX2_measureAll : ByteArray := prog_4_method_10_code
def yX2_measureAll : MethodName := ⟨RX2, "measureAll", "(LTickFall$Clocks;I)V"⟩
abbrev cX2_rawOf : ByteArray := prog_4_method_11_code
def yX2_rawOf : MethodName := ⟨RX2, "rawOf", "(II)I"⟩
abbrev cX2_correctedOf : ByteArray := prog_4_method_12_code
def yX2_correctedOf : MethodName := ⟨RX2, "correctedOf", "(II)I"⟩
abbrev cX2_otherThanZero : ByteArray := prog_4_method_13_code
def yX2_otherThanZero : MethodName := ⟨RX2, "otherThanZero", "(I)I"⟩
abbrev cX2_aheadOfZero : ByteArray := prog_4_method_14_code
def yX2_aheadOfZero : MethodName := ⟨RX2, "aheadOfZero", "(II)I"⟩
abbrev cX2_areRing : ByteArray := prog_4_method_15_code
def yX2_areRing : MethodName := ⟨RX2, "areRing", "(III)Z"⟩
abbrev cX2_bothBits : ByteArray := prog_4_method_16_code
def yX2_bothBits : MethodName := ⟨RX2, "bothBits", "(I)I"⟩
abbrev cX2_signBehind : ByteArray := prog_4_method_17_code
def yX2_signBehind : MethodName := ⟨RX2, "signBehind", "(II)I"⟩
abbrev cX2_around : ByteArray := prog_4_method_18_code
def yX2_around : MethodName := ⟨RX2, "around", "(IIII)I"⟩
def RX3 : String := "TickFall$Rings"
def TX3 : u_T := fun k => match k with
  | 0 => ("TickFall$Rings", "lowest", "[I", true)
  | 1 => ("TickFall$Rings", "between", "[I", true)
  | 2 => ("TickFall$Rings", "highest", "[I", true)
  | 3 => ("TickFall$Rings", "betweenSigns", "[I", true)
  | 4 => ("TickFall$Rings", "highestSigns", "[I", true)
  | 5 => ("TickFall$Rings", "sums", "[I", true)
  | 6 => ("TickFall$Rings", "count", "I", false)
  | 7 => ("TickFall$Rings", "isInRing", "[Z", true)
  | 8 => ("TickFall$Rings", "taken", "[I", true)
  | 9 => ("TickFall$Rings", "doubt", "I", false)
  | 10 => ("TickFall$Rings", "fewest", "I", false)
  | _ => ("TickFall$Rings", "found", "I", false)
def tyX3 : Nat → FieldType := fun k => match k with
  | 0 => .array .int
  | 1 => .array .int
  | 2 => .array .int
  | 3 => .array .int
  | 4 => .array .int
  | 5 => .array .int
  | 6 => .int
  | 7 => .array .boolean
  | 8 => .array .int
  | 9 => .int
  | 10 => .int
  | _ => .int
abbrev wsX30 : List Cond := u_ws RX3 TX3 12
theorem nmX3 : ∀ a, a < 12 → ∀ b, b < 12 → a ≠ b → (TX3 a).2.1 ≠ (TX3 b).2.1 := by decide +kernel
theorem tyX3_ok : ∀ k, k < 12 → parseFieldDescriptor (TX3 k).2.2.1 = some (tyX3 k) := by decide +kernel
abbrev cX3_init : ByteArray := prog_5_method_1_code
def yX3_init : MethodName := ⟨RX3, "<init>", "()V"⟩
abbrev cX3_gather : ByteArray := prog_5_method_2_code
def yX3_gather : MethodName := ⟨RX3, "gather", "(LTickFall$Links;I)V"⟩
abbrev cX3_gatherFrom : ByteArray := prog_5_method_3_code
def yX3_gatherFrom : MethodName := ⟨RX3, "gatherFrom", "(ILTickFall$Links;I)V"⟩
abbrev cX3_add : ByteArray := prog_5_method_4_code
def yX3_add : MethodName := ⟨RX3, "add", "(IIILTickFall$Links;I)V"⟩
abbrev cX3_countOpen : ByteArray := prog_5_method_5_code
def yX3_countOpen : MethodName := ⟨RX3, "countOpen", "(I)I"⟩
abbrev cX3_findSlips : ByteArray := prog_5_method_6_code
def yX3_findSlips : MethodName := ⟨RX3, "findSlips", "(II)I"⟩
abbrev cX3_tryFrom : ByteArray := prog_5_method_7_code
def yX3_tryFrom : MethodName := ⟨RX3, "tryFrom", "(LTickFall$Rings;III)V"⟩
abbrev cX3_areClosedAbove : ByteArray := prog_5_method_8_code
def yX3_areClosedAbove : MethodName := ⟨RX3, "areClosedAbove", "(I)Z"⟩
abbrev cX3_takenOff : ByteArray := prog_5_method_9_code
def yX3_takenOff : MethodName := ⟨RX3, "takenOff", "(I)I"⟩
def RX4 : String := "TickFall"
def TX4 : u_T := fun k => match k with
  | 0 => ("TickFall", "clocks", "LTickFall$Clocks;", true)
  | 1 => ("TickFall", "links", "LTickFall$Links;", true)
  | 2 => ("TickFall", "agenda", "LTickFall$Agenda;", true)
  | 3 => ("TickFall", "rings", "LTickFall$Rings;", true)
  | 4 => ("TickFall", "steeredTimes", "[I", true)
  | 5 => ("TickFall", "votes", "[Z", true)
  | 6 => ("TickFall", "today", "I", false)
  | 7 => ("TickFall", "doubt", "I", false)
  | 8 => ("TickFall", "step", "I", false)
  | _ => ("TickFall", "isAdopted", "Z", false)
def tyX4 : Nat → FieldType := fun k => match k with
  | 0 => .object "TickFall$Clocks"
  | 1 => .object "TickFall$Links"
  | 2 => .object "TickFall$Agenda"
  | 3 => .object "TickFall$Rings"
  | 4 => .array .int
  | 5 => .array .boolean
  | 6 => .int
  | 7 => .int
  | 8 => .int
  | _ => .boolean
abbrev wsX40 : List Cond := u_ws RX4 TX4 10
theorem nmX4 : ∀ a, a < 10 → ∀ b, b < 10 → a ≠ b → (TX4 a).2.1 ≠ (TX4 b).2.1 := by decide +kernel
theorem tyX4_ok : ∀ k, k < 10 → parseFieldDescriptor (TX4 k).2.2.1 = some (tyX4 k) := by decide +kernel
abbrev cX4_init : ByteArray := prog_1_method_1_code
def yX4_init : MethodName := ⟨RX4, "<init>", "()V"⟩
abbrev cX4_clock : ByteArray := prog_1_method_2_code
def yX4_clock : MethodName := ⟨RX4, "clock", "(II)I"⟩
abbrev cX4_tell : ByteArray := prog_1_method_3_code
def yX4_tell : MethodName := ⟨RX4, "tell", "(III)I"⟩
abbrev cX4_link : ByteArray := prog_1_method_4_code
def yX4_link : MethodName := ⟨RX4, "link", "(III)I"⟩
abbrev cX4_event : ByteArray := prog_1_method_5_code
def yX4_event : MethodName := ⟨RX4, "event", "(IIII)I"⟩
abbrev cX4_calibrate : ByteArray := prog_1_method_6_code
def yX4_calibrate : MethodName := ⟨RX4, "calibrate", "(IIII)I"⟩
abbrev cX4_bounds : ByteArray := prog_1_method_7_code
def yX4_bounds : MethodName := ⟨RX4, "bounds", "(II)V"⟩
abbrev cX4_pass : ByteArray := prog_1_method_8_code
def yX4_pass : MethodName := ⟨RX4, "pass", "(I)I"⟩
abbrev cX4_vote : ByteArray := prog_1_method_9_code
def yX4_vote : MethodName := ⟨RX4, "vote", "(IZ)I"⟩
abbrev cX4_adopt : ByteArray := prog_1_method_10_code
def yX4_adopt : MethodName := ⟨RX4, "adopt", "()Z"⟩
abbrev cX4_day : ByteArray := prog_1_method_11_code
def yX4_day : MethodName := ⟨RX4, "day", "()I"⟩
abbrev cX4_of : ByteArray := prog_1_method_12_code
def yX4_of : MethodName := ⟨RX4, "of", "(II)I"⟩
abbrev cX4_measured : ByteArray := prog_1_method_13_code
def yX4_measured : MethodName := ⟨RX4, "measured", "(IIZ)I"⟩
abbrev cX4_closes : ByteArray := prog_1_method_14_code
def yX4_closes : MethodName := ⟨RX4, "closes", "(IIII)I"⟩
abbrev cX4_open : ByteArray := prog_1_method_15_code
def yX4_open : MethodName := ⟨RX4, "open", "(I)I"⟩
abbrev cX4_slips : ByteArray := prog_1_method_16_code
def yX4_slips : MethodName := ⟨RX4, "slips", "(I)I"⟩
abbrev cX4_mean : ByteArray := prog_1_method_17_code
def yX4_mean : MethodName := ⟨RX4, "mean", "(I)I"⟩
abbrev cX4_published : ByteArray := prog_1_method_18_code
def yX4_published : MethodName := ⟨RX4, "published", "(IZ)I"⟩
abbrev cX4_height : ByteArray := prog_1_method_19_code
def yX4_height : MethodName := ⟨RX4, "height", "(IIII)I"⟩
abbrev cX4_events : ByteArray := prog_1_method_20_code
def yX4_events : MethodName := ⟨RX4, "events", "()I"⟩
abbrev cX4_isWithin : ByteArray := prog_1_method_21_code
def yX4_isWithin : MethodName := ⟨RX4, "isWithin", "(III)Z"⟩
abbrev cX4_held : ByteArray := prog_1_method_22_code
def yX4_held : MethodName := ⟨RX4, "held", "(II)I"⟩
abbrev cX4_isAmountOf : ByteArray := prog_1_method_23_code
def yX4_isAmountOf : MethodName := ⟨RX4, "isAmountOf", "(II)Z"⟩
abbrev cX4_hasPassed : ByteArray := prog_1_method_24_code
def yX4_hasPassed : MethodName := ⟨RX4, "hasPassed", "(I)Z"⟩
abbrev cX4_hasMeasured : ByteArray := prog_1_method_25_code
def yX4_hasMeasured : MethodName := ⟨RX4, "hasMeasured", "(II)Z"⟩
abbrev cX4_passOneDay : ByteArray := prog_1_method_26_code
def yX4_passOneDay : MethodName := ⟨RX4, "passOneDay", "()V"⟩
abbrev cX4_happen : ByteArray := prog_1_method_27_code
def yX4_happen : MethodName := ⟨RX4, "happen", "(I)V"⟩
abbrev cX4_housesFor : ByteArray := prog_1_method_28_code
def yX4_housesFor : MethodName := ⟨RX4, "housesFor", "()I"⟩
abbrev cX4_openRings : ByteArray := prog_1_method_29_code
def yX4_openRings : MethodName := ⟨RX4, "openRings", "(I)I"⟩
abbrev cX4_meanOrZero : ByteArray := prog_1_method_30_code
def yX4_meanOrZero : MethodName := ⟨RX4, "meanOrZero", "(I)I"⟩
abbrev cX4_steered : ByteArray := prog_1_method_31_code
def yX4_steered : MethodName := ⟨RX4, "steered", "(II)I"⟩
abbrev cX4_steeredAnew : ByteArray := prog_1_method_32_code
def yX4_steeredAnew : MethodName := ⟨RX4, "steeredAnew", "(I)I"⟩
def RX5 : String := "TickFallModel"
def TX5 : u_T := fun k => match k with
  | 0 => ("TickFallModel", "day", "I", false)
  | 1 => ("TickFallModel", "clocks", "I", false)
  | 2 => ("TickFallModel", "rate", "[I", true)
  | 3 => ("TickFallModel", "drift", "[I", true)
  | 4 => ("TickFallModel", "height", "[I", true)
  | 5 => ("TickFallModel", "phase", "[I", true)
  | 6 => ("TickFallModel", "weight", "[I", true)
  | 7 => ("TickFallModel", "links", "I", false)
  | 8 => ("TickFallModel", "one", "[I", true)
  | 9 => ("TickFallModel", "two", "[I", true)
  | 10 => ("TickFallModel", "asymmetry", "[I", true)
  | 11 => ("TickFallModel", "slipped", "[I", true)
  | 12 => ("TickFallModel", "laid", "[I", true)
  | 13 => ("TickFallModel", "counts", "[I", true)
  | 14 => ("TickFallModel", "events", "I", false)
  | 15 => ("TickFallModel", "eventDay", "[I", true)
  | 16 => ("TickFallModel", "eventKind", "[I", true)
  | 17 => ("TickFallModel", "eventOf", "[I", true)
  | 18 => ("TickFallModel", "amount", "[I", true)
  | 19 => ("TickFallModel", "given", "[I", true)
  | 20 => ("TickFallModel", "from", "[I", true)
  | 21 => ("TickFallModel", "to", "[I", true)
  | 22 => ("TickFallModel", "takes", "[I", true)
  | 23 => ("TickFallModel", "doubt", "I", false)
  | 24 => ("TickFallModel", "step", "I", false)
  | 25 => ("TickFallModel", "told", "[I", true)
  | 26 => ("TickFallModel", "isFor", "[Z", true)
  | 27 => ("TickFallModel", "isAdopted", "Z", false)
  | 28 => ("TickFallModel", "cycles", "[I", true)
  | 29 => ("TickFallModel", "rings", "I", false)
  | 30 => ("TickFallModel", "ringOf", "[I", true)
  | 31 => ("TickFallModel", "sign", "[I", true)
  | 32 => ("TickFallModel", "sum", "[I", true)
  | _ => ("TickFallModel", "thrown", "I", false)
def tyX5 : Nat → FieldType := fun k => match k with
  | 0 => .int
  | 1 => .int
  | 2 => .array .int
  | 3 => .array .int
  | 4 => .array .int
  | 5 => .array .int
  | 6 => .array .int
  | 7 => .int
  | 8 => .array .int
  | 9 => .array .int
  | 10 => .array .int
  | 11 => .array .int
  | 12 => .array .int
  | 13 => .array .int
  | 14 => .int
  | 15 => .array .int
  | 16 => .array .int
  | 17 => .array .int
  | 18 => .array .int
  | 19 => .array .int
  | 20 => .array .int
  | 21 => .array .int
  | 22 => .array .int
  | 23 => .int
  | 24 => .int
  | 25 => .array .int
  | 26 => .array .boolean
  | 27 => .boolean
  | 28 => .array .int
  | 29 => .int
  | 30 => .array .int
  | 31 => .array .int
  | 32 => .array .int
  | _ => .int
abbrev wsX50 : List Cond := u_ws RX5 TX5 34
theorem nmX5 : ∀ a, a < 34 → ∀ b, b < 34 → a ≠ b → (TX5 a).2.1 ≠ (TX5 b).2.1 := by decide +kernel
theorem tyX5_ok : ∀ k, k < 34 → parseFieldDescriptor (TX5 k).2.2.1 = some (tyX5 k) := by decide +kernel
abbrev cX5_init : ByteArray := prog_7_method_1_code
def yX5_init : MethodName := ⟨RX5, "<init>", "()V"⟩
abbrev cX5_thrown : ByteArray := prog_7_method_2_code
def yX5_thrown : MethodName := ⟨RX5, "thrown", "()I"⟩
abbrev cX5_in : ByteArray := prog_7_method_3_code
def yX5_in : MethodName := ⟨RX5, "in", "(III)Z"⟩
abbrev cX5_goes : ByteArray := prog_7_method_4_code
def yX5_goes : MethodName := ⟨RX5, "goes", "(ZZZ)Z"⟩
abbrev cX5_held : ByteArray := prog_7_method_5_code
def yX5_held : MethodName := ⟨RX5, "held", "(II)I"⟩
abbrev cX5_isClock : ByteArray := prog_7_method_6_code
def yX5_isClock : MethodName := ⟨RX5, "isClock", "(I)Z"⟩
abbrev cX5_isLink : ByteArray := prog_7_method_7_code
def yX5_isLink : MethodName := ⟨RX5, "isLink", "(I)Z"⟩
abbrev cX5_isDay : ByteArray := prog_7_method_8_code
def yX5_isDay : MethodName := ⟨RX5, "isDay", "(I)Z"⟩
abbrev cX5_clock : ByteArray := prog_7_method_9_code
def yX5_clock : MethodName := ⟨RX5, "clock", "(II)I"⟩
abbrev cX5_tell : ByteArray := prog_7_method_10_code
def yX5_tell : MethodName := ⟨RX5, "tell", "(III)I"⟩
abbrev cX5_link : ByteArray := prog_7_method_11_code
def yX5_link : MethodName := ⟨RX5, "link", "(III)I"⟩
abbrev cX5_isAmount : ByteArray := prog_7_method_12_code
def yX5_isAmount : MethodName := ⟨RX5, "isAmount", "(II)Z"⟩
abbrev cX5_event : ByteArray := prog_7_method_13_code
def yX5_event : MethodName := ⟨RX5, "event", "(IIII)I"⟩
abbrev cX5_calibrate : ByteArray := prog_7_method_14_code
def yX5_calibrate : MethodName := ⟨RX5, "calibrate", "(IIII)I"⟩
abbrev cX5_bounds : ByteArray := prog_7_method_15_code
def yX5_bounds : MethodName := ⟨RX5, "bounds", "(II)V"⟩
abbrev cX5_isAhead : ByteArray := prog_7_method_16_code
def yX5_isAhead : MethodName := ⟨RX5, "isAhead", "(II)Z"⟩
abbrev cX5_next : ByteArray := prog_7_method_17_code
def yX5_next : MethodName := ⟨RX5, "next", "()I"⟩
abbrev cX5_comes : ByteArray := prog_7_method_18_code
def yX5_comes : MethodName := ⟨RX5, "comes", "(I)V"⟩
abbrev cX5_passes : ByteArray := prog_7_method_19_code
def yX5_passes : MethodName := ⟨RX5, "passes", "()V"⟩
abbrev cX5_pass : ByteArray := prog_7_method_20_code
def yX5_pass : MethodName := ⟨RX5, "pass", "(I)I"⟩
abbrev cX5_hasMeasured : ByteArray := prog_7_method_21_code
def yX5_hasMeasured : MethodName := ⟨RX5, "hasMeasured", "(II)Z"⟩
abbrev cX5_corrected : ByteArray := prog_7_method_22_code
def yX5_corrected : MethodName := ⟨RX5, "corrected", "(II)I"⟩
abbrev cX5_measured : ByteArray := prog_7_method_23_code
def yX5_measured : MethodName := ⟨RX5, "measured", "(IIZ)I"⟩
abbrev cX5_otherEnd : ByteArray := prog_7_method_24_code
def yX5_otherEnd : MethodName := ⟨RX5, "otherEnd", "(II)I"⟩
abbrev cX5_isRing : ByteArray := prog_7_method_25_code
def yX5_isRing : MethodName := ⟨RX5, "isRing", "(III)Z"⟩
abbrev cX5_goesBy : ByteArray := prog_7_method_26_code
def yX5_goesBy : MethodName := ⟨RX5, "goesBy", "(IIII)V"⟩
abbrev cX5_laysRing : ByteArray := prog_7_method_27_code
def yX5_laysRing : MethodName := ⟨RX5, "laysRing", "(IIII)V"⟩
abbrev cX5_laysRings : ByteArray := prog_7_method_28_code
def yX5_laysRings : MethodName := ⟨RX5, "laysRings", "(I)V"⟩
abbrev cX5_openRings : ByteArray := prog_7_method_29_code
def yX5_openRings : MethodName := ⟨RX5, "openRings", "()I"⟩
abbrev cX5_least : ByteArray := prog_7_method_30_code
def yX5_least : MethodName := ⟨RX5, "least", "(III)I"⟩
abbrev cX5_most : ByteArray := prog_7_method_31_code
def yX5_most : MethodName := ⟨RX5, "most", "(III)I"⟩
abbrev cX5_closes : ByteArray := prog_7_method_32_code
def yX5_closes : MethodName := ⟨RX5, "closes", "(IIII)I"⟩
abbrev cX5_open : ByteArray := prog_7_method_33_code
def yX5_open : MethodName := ⟨RX5, "open", "(I)I"⟩
abbrev cX5_laysOut : ByteArray := prog_7_method_34_code
def yX5_laysOut : MethodName := ⟨RX5, "laysOut", "(II)I"⟩
abbrev cX5_slips : ByteArray := prog_7_method_35_code
def yX5_slips : MethodName := ⟨RX5, "slips", "(I)I"⟩
abbrev cX5_linkOf : ByteArray := prog_7_method_36_code
def yX5_linkOf : MethodName := ⟨RX5, "linkOf", "(II)I"⟩
abbrev cX5_meanOf : ByteArray := prog_7_method_37_code
def yX5_meanOf : MethodName := ⟨RX5, "meanOf", "(I)I"⟩
abbrev cX5_mean : ByteArray := prog_7_method_38_code
def yX5_mean : MethodName := ⟨RX5, "mean", "(I)I"⟩
abbrev cX5_published : ByteArray := prog_7_method_39_code
def yX5_published : MethodName := ⟨RX5, "published", "(IZ)I"⟩
abbrev cX5_height : ByteArray := prog_7_method_40_code
def yX5_height : MethodName := ⟨RX5, "height", "(IIII)I"⟩
abbrev cX5_forIt : ByteArray := prog_7_method_41_code
def yX5_forIt : MethodName := ⟨RX5, "forIt", "()I"⟩
abbrev cX5_vote : ByteArray := prog_7_method_42_code
def yX5_vote : MethodName := ⟨RX5, "vote", "(IZ)I"⟩
abbrev cX5_adopt : ByteArray := prog_7_method_43_code
def yX5_adopt : MethodName := ⟨RX5, "adopt", "()Z"⟩
abbrev cX5_day : ByteArray := prog_7_method_44_code
def yX5_day : MethodName := ⟨RX5, "day", "()I"⟩
abbrev cX5_of : ByteArray := prog_7_method_45_code
def yX5_of : MethodName := ⟨RX5, "of", "(II)I"⟩
abbrev cX5_events : ByteArray := prog_7_method_46_code
def yX5_events : MethodName := ⟨RX5, "events", "()I"⟩
def RJ9 : String := "java/lang/Math"
def TJ9 : u_T := fun k => match k with
  | _ => ("", "", "", false)
def tyJ9 : Nat → FieldType := fun k => match k with
  | _ => .int
abbrev wsJ90 : List Cond := u_ws RJ9 TJ9 0
theorem nmJ9 : ∀ a, a < 0 → ∀ b, b < 0 → a ≠ b → (TJ9 a).2.1 ≠ (TJ9 b).2.1 := by decide +kernel
theorem tyJ9_ok : ∀ k, k < 0 → parseFieldDescriptor (TJ9 k).2.2.1 = some (tyJ9 k) := by decide +kernel
abbrev cJ9_abs_0f7a4 : ByteArray := prog_12_method_59_code
def yJ9_abs_0f7a4 : MethodName := ⟨RJ9, "abs", "(I)I"⟩
abbrev cJ9_max_7cf53 : ByteArray := prog_12_method_65_code
def yJ9_max_7cf53 : MethodName := ⟨RJ9, "max", "(II)I"⟩
abbrev cJ9_min_7cf53 : ByteArray := prog_12_method_69_code
def yJ9_min_7cf53 : MethodName := ⟨RJ9, "min", "(II)I"⟩
def RJ0 : String := "java/lang/String"
def TJ0 : u_T := fun k => match k with
  | _ => ("", "", "", false)
def tyJ0 : Nat → FieldType := fun k => match k with
  | _ => .int
abbrev wsJ00 : List Cond := u_ws RJ0 TJ0 0
theorem nmJ0 : ∀ a, a < 0 → ∀ b, b < 0 → a ≠ b → (TJ0 a).2.1 ≠ (TJ0 b).2.1 := by decide +kernel
theorem tyJ0_ok : ∀ k, k < 0 → parseFieldDescriptor (TJ0 k).2.2.1 = some (tyJ0 k) := by decide +kernel
def RL : String := "TickFallLaw"
abbrev cL_clock : ByteArray := method_3_code
def yL_clock : MethodName := ⟨RL, "clock", "(LTickFall;II[J)I"⟩
abbrev cL_tell : ByteArray := method_4_code
def yL_tell : MethodName := ⟨RL, "tell", "(LTickFall;III[J)I"⟩
abbrev cL_link : ByteArray := method_5_code
def yL_link : MethodName := ⟨RL, "link", "(LTickFall;III[J)I"⟩
abbrev cL_event : ByteArray := method_6_code
def yL_event : MethodName := ⟨RL, "event", "(LTickFall;IIII[J)I"⟩
abbrev cL_calibrate : ByteArray := method_7_code
def yL_calibrate : MethodName := ⟨RL, "calibrate", "(LTickFall;IIII[J)I"⟩
abbrev cL_bounds : ByteArray := method_8_code
def yL_bounds : MethodName := ⟨RL, "bounds", "(LTickFall;II)I"⟩
abbrev cL_pass : ByteArray := method_9_code
def yL_pass : MethodName := ⟨RL, "pass", "(LTickFall;I[J)I"⟩
abbrev cL_vote : ByteArray := method_10_code
def yL_vote : MethodName := ⟨RL, "vote", "(LTickFall;IZ[J)I"⟩
abbrev cL_adopt : ByteArray := method_11_code
def yL_adopt : MethodName := ⟨RL, "adopt", "(LTickFall;[J)I"⟩
abbrev cL_of : ByteArray := method_12_code
def yL_of : MethodName := ⟨RL, "of", "(LTickFall;II[J)I"⟩
abbrev cL_measured : ByteArray := method_13_code
def yL_measured : MethodName := ⟨RL, "measured", "(LTickFall;IIZ[J)I"⟩
abbrev cL_closes : ByteArray := method_14_code
def yL_closes : MethodName := ⟨RL, "closes", "(LTickFall;IIII[J)I"⟩
abbrev cL_open : ByteArray := method_15_code
def yL_open : MethodName := ⟨RL, "open", "(LTickFall;I[J)I"⟩
abbrev cL_slips : ByteArray := method_16_code
def yL_slips : MethodName := ⟨RL, "slips", "(LTickFall;I[J)I"⟩
abbrev cL_mean : ByteArray := method_17_code
def yL_mean : MethodName := ⟨RL, "mean", "(LTickFall;I[J)I"⟩
abbrev cL_published : ByteArray := method_18_code
def yL_published : MethodName := ⟨RL, "published", "(LTickFall;IZ[J)I"⟩
abbrev cL_height : ByteArray := method_19_code
def yL_height : MethodName := ⟨RL, "height", "(LTickFall;IIII[J)I"⟩
abbrev cL_law : ByteArray := code
def yL_law : MethodName := ⟨RL, "law", "([I)Z"⟩
def wsX0_init : List Cond := .code yX0_init cX0_init 1 none :: ([.methodLink RX0 5 objectInit, .instanceMethod objectInit, .code objectInit ⟨#[0xb1]⟩ 1 none, .arrayClass .int, .fieldLink RX0 11 "TickFall$Agenda" "rows" "[I", .fieldLink RX0 15 "TickFall$Agenda" "count" "I"] ++ wsX00)
def wsX0_kindOf : List Cond := .code yX0_kindOf cX0_kindOf 1 (some .int) :: ([])
def wsX0_numberOf : List Cond := .code yX0_numberOf cX0_numberOf 1 (some .int) :: ([])
def wsX0_amountOf : List Cond := .code yX0_amountOf cX0_amountOf 1 (some .int) :: ([])
def wsX0_count : List Cond := .code yX0_count cX0_count 1 (some .int) :: ([.fieldLink RX0 15 "TickFall$Agenda" "count" "I"] ++ wsX00)
def wsX0_add : List Cond := .code yX0_add cX0_add 7 none :: ([.fieldLink RX0 15 "TickFall$Agenda" "count" "I", .fieldLink RX0 11 "TickFall$Agenda" "rows" "[I"] ++ wsX00)
def wsX0_isNextDue : List Cond := .code yX0_isNextDue cX0_isNextDue 2 (some .boolean) :: ([.fieldLink RX0 15 "TickFall$Agenda" "count" "I", .fieldLink RX0 11 "TickFall$Agenda" "rows" "[I"] ++ wsX00)
def wsX0_takeNext : List Cond := .code yX0_takeNext cX0_takeNext 1 (some .int) :: ([.fieldLink RX0 15 "TickFall$Agenda" "count" "I", .fieldLink RX0 11 "TickFall$Agenda" "rows" "[I"] ++ wsX00)
def wsX1_init : List Cond := .code yX1_init cX1_init 1 none :: ([.methodLink RX1 3 objectInit, .instanceMethod objectInit, .code objectInit ⟨#[0xb1]⟩ 1 none, .arrayClass .int, .fieldLink RX1 9 "TickFall$Clocks" "rates" "[I", .fieldLink RX1 15 "TickFall$Clocks" "drifts" "[I", .fieldLink RX1 18 "TickFall$Clocks" "weights" "[I", .fieldLink RX1 21 "TickFall$Clocks" "heights" "[I", .fieldLink RX1 24 "TickFall$Clocks" "phases" "[I", .fieldLink RX1 27 "TickFall$Clocks" "count" "I"] ++ wsX10)
def wsX1_count : List Cond := .code yX1_count cX1_count 1 (some .int) :: ([.fieldLink RX1 27 "TickFall$Clocks" "count" "I"] ++ wsX10)
def wsX1_has : List Cond := .code yX1_has cX1_has 2 (some .boolean) :: ([.fieldLink RX1 27 "TickFall$Clocks" "count" "I"] ++ wsX10)
def wsX1_add : List Cond := .code yX1_add cX1_add 4 (some .int) :: ([.fieldLink RX1 27 "TickFall$Clocks" "count" "I", .fieldLink RX1 9 "TickFall$Clocks" "rates" "[I", .fieldLink RX1 21 "TickFall$Clocks" "heights" "[I", .fieldLink RX1 18 "TickFall$Clocks" "weights" "[I"] ++ wsX10)
def wsX1_phaseOf : List Cond := .code yX1_phaseOf cX1_phaseOf 2 (some .int) :: ([.fieldLink RX1 24 "TickFall$Clocks" "phases" "[I"] ++ wsX10)
def wsX1_rateOf : List Cond := .code yX1_rateOf cX1_rateOf 2 (some .int) :: ([.fieldLink RX1 9 "TickFall$Clocks" "rates" "[I"] ++ wsX10)
def wsX1_heightOf : List Cond := .code yX1_heightOf cX1_heightOf 2 (some .int) :: ([.fieldLink RX1 21 "TickFall$Clocks" "heights" "[I"] ++ wsX10)
def wsX1_weightOf : List Cond := .code yX1_weightOf cX1_weightOf 2 (some .int) :: ([.fieldLink RX1 18 "TickFall$Clocks" "weights" "[I"] ++ wsX10)
def wsX1_setDriftAndWeight : List Cond := .code yX1_setDriftAndWeight cX1_setDriftAndWeight 4 none :: ([.fieldLink RX1 15 "TickFall$Clocks" "drifts" "[I", .fieldLink RX1 18 "TickFall$Clocks" "weights" "[I"] ++ wsX10)
def wsX1_setHeight : List Cond := .code yX1_setHeight cX1_setHeight 3 none :: ([.fieldLink RX1 21 "TickFall$Clocks" "heights" "[I"] ++ wsX10)
def wsX4_held : List Cond := .code yX4_held cX4_held 2 (some .int) :: ([.methodLink RX4 185 Lib.Math.min.name, .static Lib.Math.min.name, .initialized "java/lang/Math", .code Lib.Math.min.name Lib.Math.min.code 2 (some .int), .methodLink RX4 190 Lib.Math.max.name, .static Lib.Math.max.name, .code Lib.Math.max.name Lib.Math.max.code 2 (some .int)])
def wsX1_addToRate : List Cond := .code yX1_addToRate cX1_addToRate 3 none :: ([.fieldLink RX1 9 "TickFall$Clocks" "rates" "[I", .static yX4_held, .initialized RX4, .code yX4_held cX4_held 2 (some .int), .methodLink RX4 185 Lib.Math.min.name, .static Lib.Math.min.name, .initialized "java/lang/Math", .code Lib.Math.min.name Lib.Math.min.code 2 (some .int), .methodLink RX4 190 Lib.Math.max.name, .static Lib.Math.max.name, .code Lib.Math.max.name Lib.Math.max.code 2 (some .int)] ++ wsX10)
def wsX1_run : List Cond := .code yX1_run cX1_run 3 none :: ([.fieldLink RX1 27 "TickFall$Clocks" "count" "I", .fieldLink RX1 24 "TickFall$Clocks" "phases" "[I", .fieldLink RX1 9 "TickFall$Clocks" "rates" "[I", .fieldLink RX1 21 "TickFall$Clocks" "heights" "[I", .fieldLink RX1 15 "TickFall$Clocks" "drifts" "[I", .methodLink RX1 35 yX1_addToRate, .instanceMethod yX1_addToRate, .selects RX1 yX1_addToRate yX1_addToRate, .initialized RX1, .code yX1_addToRate cX1_addToRate 3 none, .static yX4_held, .initialized RX4, .code yX4_held cX4_held 2 (some .int), .methodLink RX4 185 Lib.Math.min.name, .static Lib.Math.min.name, .initialized "java/lang/Math", .code Lib.Math.min.name Lib.Math.min.code 2 (some .int), .methodLink RX4 190 Lib.Math.max.name, .static Lib.Math.max.name, .code Lib.Math.max.name Lib.Math.max.code 2 (some .int)] ++ wsX10)
def wsX2_init : List Cond := .code yX2_init cX2_init 1 none :: ([.methodLink RX2 3 objectInit, .instanceMethod objectInit, .code objectInit ⟨#[0xb1]⟩ 1 none, .arrayClass .int, .fieldLink RX2 9 "TickFall$Links" "firsts" "[I", .fieldLink RX2 15 "TickFall$Links" "seconds" "[I", .fieldLink RX2 18 "TickFall$Links" "asymmetries" "[I", .fieldLink RX2 21 "TickFall$Links" "cycles" "[I", .fieldLink RX2 24 "TickFall$Links" "laidOn" "[I", .fieldLink RX2 27 "TickFall$Links" "calibrations" "[I", .classLink RX2 30 "[[I", .fieldLink RX2 32 "TickFall$Links" "raw" "[[I", .fieldLink RX2 35 "TickFall$Links" "offsets" "[[I", .fieldLink RX2 38 "TickFall$Links" "count" "I"] ++ wsX20)
def wsX2_count : List Cond := .code yX2_count cX2_count 1 (some .int) :: ([.fieldLink RX2 38 "TickFall$Links" "count" "I"] ++ wsX20)
def wsX2_has : List Cond := .code yX2_has cX2_has 2 (some .boolean) :: ([.fieldLink RX2 38 "TickFall$Links" "count" "I"] ++ wsX20)
def wsX2_isLaidBefore : List Cond := .code yX2_isLaidBefore cX2_isLaidBefore 3 (some .boolean) :: ([.fieldLink RX2 24 "TickFall$Links" "laidOn" "[I"] ++ wsX20)
def wsX2_add : List Cond := .code yX2_add cX2_add 6 (some .int) :: ([.fieldLink RX2 38 "TickFall$Links" "count" "I", .fieldLink RX2 9 "TickFall$Links" "firsts" "[I", .fieldLink RX2 15 "TickFall$Links" "seconds" "[I", .fieldLink RX2 18 "TickFall$Links" "asymmetries" "[I", .fieldLink RX2 24 "TickFall$Links" "laidOn" "[I"] ++ wsX20)
def wsX2_setAsymmetry : List Cond := .code yX2_setAsymmetry cX2_setAsymmetry 3 none :: ([.fieldLink RX2 18 "TickFall$Links" "asymmetries" "[I"] ++ wsX20)
def wsX2_addCycles : List Cond := .code yX2_addCycles cX2_addCycles 3 none :: ([.fieldLink RX2 21 "TickFall$Links" "cycles" "[I"] ++ wsX20)
def wsX2_calibrationsOf : List Cond := .code yX2_calibrationsOf cX2_calibrationsOf 2 (some .int) :: ([.fieldLink RX2 27 "TickFall$Links" "calibrations" "[I"] ++ wsX20)
def wsX2_addCalibration : List Cond := .code yX2_addCalibration cX2_addCalibration 6 (some .int) :: ([.fieldLink RX2 35 "TickFall$Links" "offsets" "[[I", .fieldLink RX2 27 "TickFall$Links" "calibrations" "[I"] ++ wsX20)
def wsX2_measureAll : List Cond := .code yX2_measureAll cX2_measureAll 5 none :: ([.fieldLink RX2 38 "TickFall$Links" "count" "I", .fieldLink RX2 9 "TickFall$Links" "firsts" "[I", .fieldLink RX2 15 "TickFall$Links" "seconds" "[I", .fieldLink RX2 32 "TickFall$Links" "raw" "[[I", .fieldLink RX2 18 "TickFall$Links" "asymmetries" "[I", .fieldLink RX2 21 "TickFall$Links" "cycles" "[I", .methodLink RX2 42 yX1_phaseOf, .instanceMethod yX1_phaseOf, .selects RX1 yX1_phaseOf yX1_phaseOf, .initialized RX1, .code yX1_phaseOf cX1_phaseOf 2 (some .int), .fieldLink RX1 24 "TickFall$Clocks" "phases" "[I"] ++ wsX20 ++ wsX10)
def wsX2_rawOf : List Cond := .code yX2_rawOf cX2_rawOf 3 (some .int) :: ([.fieldLink RX2 32 "TickFall$Links" "raw" "[[I"] ++ wsX20)
def wsX2_correctedOf : List Cond := .code yX2_correctedOf cX2_correctedOf 3 (some .int) :: ([.fieldLink RX2 32 "TickFall$Links" "raw" "[[I", .fieldLink RX2 35 "TickFall$Links" "offsets" "[[I"] ++ wsX20)
def wsX2_otherThanZero : List Cond := .code yX2_otherThanZero cX2_otherThanZero 2 (some .int) :: ([.fieldLink RX2 9 "TickFall$Links" "firsts" "[I", .fieldLink RX2 15 "TickFall$Links" "seconds" "[I"] ++ wsX20)
def wsX2_aheadOfZero : List Cond := .code yX2_aheadOfZero cX2_aheadOfZero 4 (some .int) :: ([.fieldLink RX2 9 "TickFall$Links" "firsts" "[I", .methodLink RX2 48 yX2_correctedOf, .instanceMethod yX2_correctedOf, .selects RX2 yX2_correctedOf yX2_correctedOf, .initialized RX2, .code yX2_correctedOf cX2_correctedOf 3 (some .int), .fieldLink RX2 32 "TickFall$Links" "raw" "[[I", .fieldLink RX2 35 "TickFall$Links" "offsets" "[[I"] ++ wsX20)
def wsX2_bothBits : List Cond := .code yX2_bothBits cX2_bothBits 2 (some .int) :: ([.fieldLink RX2 9 "TickFall$Links" "firsts" "[I", .fieldLink RX2 15 "TickFall$Links" "seconds" "[I"] ++ wsX20)
def wsX2_areRing : List Cond := .code yX2_areRing cX2_areRing 4 (some .boolean) :: ([.methodLink RX2 52 yX2_bothBits, .instanceMethod yX2_bothBits, .selects RX2 yX2_bothBits yX2_bothBits, .initialized RX2, .code yX2_bothBits cX2_bothBits 2 (some .int), .fieldLink RX2 9 "TickFall$Links" "firsts" "[I", .fieldLink RX2 15 "TickFall$Links" "seconds" "[I"] ++ wsX20)
def wsX2_signBehind : List Cond := .code yX2_signBehind cX2_signBehind 3 (some .int) :: ([.fieldLink RX2 9 "TickFall$Links" "firsts" "[I", .fieldLink RX2 15 "TickFall$Links" "seconds" "[I"] ++ wsX20)
def wsX2_around : List Cond := .code yX2_around cX2_around 5 (some .int) :: ([.methodLink RX2 48 yX2_correctedOf, .instanceMethod yX2_correctedOf, .selects RX2 yX2_correctedOf yX2_correctedOf, .initialized RX2, .code yX2_correctedOf cX2_correctedOf 3 (some .int), .fieldLink RX2 32 "TickFall$Links" "raw" "[[I", .fieldLink RX2 35 "TickFall$Links" "offsets" "[[I", .methodLink RX2 55 yX2_signBehind, .instanceMethod yX2_signBehind, .selects RX2 yX2_signBehind yX2_signBehind, .code yX2_signBehind cX2_signBehind 3 (some .int), .fieldLink RX2 9 "TickFall$Links" "firsts" "[I", .fieldLink RX2 15 "TickFall$Links" "seconds" "[I"] ++ wsX20)
def wsX3_init : List Cond := .code yX3_init cX3_init 1 none :: ([.methodLink RX3 3 objectInit, .instanceMethod objectInit, .code objectInit ⟨#[0xb1]⟩ 1 none, .arrayClass .int, .fieldLink RX3 9 "TickFall$Rings" "lowest" "[I", .fieldLink RX3 15 "TickFall$Rings" "between" "[I", .fieldLink RX3 18 "TickFall$Rings" "highest" "[I", .fieldLink RX3 21 "TickFall$Rings" "betweenSigns" "[I", .fieldLink RX3 24 "TickFall$Rings" "highestSigns" "[I", .fieldLink RX3 27 "TickFall$Rings" "sums" "[I", .fieldLink RX3 30 "TickFall$Rings" "count" "I", .arrayClass .boolean, .fieldLink RX3 34 "TickFall$Rings" "isInRing" "[Z", .fieldLink RX3 38 "TickFall$Rings" "taken" "[I", .fieldLink RX3 41 "TickFall$Rings" "doubt" "I", .fieldLink RX3 44 "TickFall$Rings" "fewest" "I", .fieldLink RX3 47 "TickFall$Rings" "found" "I"] ++ wsX30)
def wsX3_add_r1 : List Cond := [Cond.fieldLink RX3 30 "TickFall$Rings" "count" "I", Cond.fieldLink RX3 9 "TickFall$Rings" "lowest" "[I", Cond.fieldLink RX3 15 "TickFall$Rings" "between" "[I", Cond.fieldLink RX3 18 "TickFall$Rings" "highest" "[I", Cond.fieldLink RX3 21 "TickFall$Rings" "betweenSigns" "[I", Cond.fieldLink RX3 24 "TickFall$Rings" "highestSigns" "[I", Cond.fieldLink RX3 27 "TickFall$Rings" "sums" "[I", Cond.fieldLink RX3 34 "TickFall$Rings" "isInRing" "[Z", Cond.methodLink RX3 71 yX2_signBehind, Cond.instanceMethod yX2_signBehind, Cond.selects RX2 yX2_signBehind yX2_signBehind, Cond.initialized RX2, Cond.code yX2_signBehind cX2_signBehind 3 (some .int), Cond.fieldLink RX2 9 "TickFall$Links" "firsts" "[I", Cond.fieldLink RX2 15 "TickFall$Links" "seconds" "[I", Cond.methodLink RX3 75 yX2_around, Cond.instanceMethod yX2_around, Cond.selects RX2 yX2_around yX2_around, Cond.code yX2_around cX2_around 5 (some .int), Cond.methodLink RX2 48 yX2_correctedOf, Cond.instanceMethod yX2_correctedOf, Cond.selects RX2 yX2_correctedOf yX2_correctedOf, Cond.code yX2_correctedOf cX2_correctedOf 3 (some .int), Cond.fieldLink RX2 32 "TickFall$Links" "raw" "[[I"]
def wsX3_add_r2 : List Cond := [Cond.fieldLink RX2 35 "TickFall$Links" "offsets" "[[I", Cond.methodLink RX2 55 yX2_signBehind]
def wsX3_add : List Cond := .code yX3_add cX3_add 6 none :: ((wsX3_add_r1 ++ wsX3_add_r2) ++ wsX30 ++ wsX20)
def wsX3_gatherFrom_r1 : List Cond := [Cond.methodLink RX3 50 yX2_count, Cond.instanceMethod yX2_count, Cond.selects RX2 yX2_count yX2_count, Cond.initialized RX2, Cond.code yX2_count cX2_count 1 (some .int), Cond.fieldLink RX2 38 "TickFall$Links" "count" "I", Cond.methodLink RX3 63 yX2_areRing, Cond.instanceMethod yX2_areRing, Cond.selects RX2 yX2_areRing yX2_areRing, Cond.code yX2_areRing cX2_areRing 4 (some .boolean), Cond.methodLink RX2 52 yX2_bothBits, Cond.instanceMethod yX2_bothBits, Cond.selects RX2 yX2_bothBits yX2_bothBits, Cond.code yX2_bothBits cX2_bothBits 2 (some .int), Cond.fieldLink RX2 9 "TickFall$Links" "firsts" "[I", Cond.fieldLink RX2 15 "TickFall$Links" "seconds" "[I", Cond.methodLink RX3 55 yX2_isLaidBefore, Cond.instanceMethod yX2_isLaidBefore, Cond.selects RX2 yX2_isLaidBefore yX2_isLaidBefore, Cond.code yX2_isLaidBefore cX2_isLaidBefore 3 (some .boolean), Cond.fieldLink RX2 24 "TickFall$Links" "laidOn" "[I", Cond.methodLink RX3 67 yX3_add, Cond.instanceMethod yX3_add, Cond.selects RX3 yX3_add yX3_add]
def wsX3_gatherFrom_r2 : List Cond := [Cond.initialized RX3, Cond.code yX3_add cX3_add 6 none, Cond.fieldLink RX3 30 "TickFall$Rings" "count" "I", Cond.fieldLink RX3 9 "TickFall$Rings" "lowest" "[I", Cond.fieldLink RX3 15 "TickFall$Rings" "between" "[I", Cond.fieldLink RX3 18 "TickFall$Rings" "highest" "[I", Cond.fieldLink RX3 21 "TickFall$Rings" "betweenSigns" "[I", Cond.fieldLink RX3 24 "TickFall$Rings" "highestSigns" "[I", Cond.fieldLink RX3 27 "TickFall$Rings" "sums" "[I", Cond.fieldLink RX3 34 "TickFall$Rings" "isInRing" "[Z", Cond.methodLink RX3 71 yX2_signBehind, Cond.instanceMethod yX2_signBehind, Cond.selects RX2 yX2_signBehind yX2_signBehind, Cond.code yX2_signBehind cX2_signBehind 3 (some .int), Cond.methodLink RX3 75 yX2_around, Cond.instanceMethod yX2_around, Cond.selects RX2 yX2_around yX2_around, Cond.code yX2_around cX2_around 5 (some .int), Cond.methodLink RX2 48 yX2_correctedOf, Cond.instanceMethod yX2_correctedOf, Cond.selects RX2 yX2_correctedOf yX2_correctedOf, Cond.code yX2_correctedOf cX2_correctedOf 3 (some .int), Cond.fieldLink RX2 32 "TickFall$Links" "raw" "[[I", Cond.fieldLink RX2 35 "TickFall$Links" "offsets" "[[I"]
def wsX3_gatherFrom_r3 : List Cond := [Cond.methodLink RX2 55 yX2_signBehind]
def wsX3_gatherFrom : List Cond := .code yX3_gatherFrom cX3_gatherFrom 6 none :: ((wsX3_gatherFrom_r1 ++ (wsX3_gatherFrom_r2 ++ wsX3_gatherFrom_r3)) ++ wsX20 ++ wsX30)
def wsX3_gather_r1 : List Cond := [Cond.fieldLink RX3 30 "TickFall$Rings" "count" "I", Cond.fieldLink RX3 34 "TickFall$Rings" "isInRing" "[Z", Cond.methodLink RX3 50 yX2_count, Cond.instanceMethod yX2_count, Cond.selects RX2 yX2_count yX2_count, Cond.initialized RX2, Cond.code yX2_count cX2_count 1 (some .int), Cond.fieldLink RX2 38 "TickFall$Links" "count" "I", Cond.methodLink RX3 55 yX2_isLaidBefore, Cond.instanceMethod yX2_isLaidBefore, Cond.selects RX2 yX2_isLaidBefore yX2_isLaidBefore, Cond.code yX2_isLaidBefore cX2_isLaidBefore 3 (some .boolean), Cond.fieldLink RX2 24 "TickFall$Links" "laidOn" "[I", Cond.methodLink RX3 59 yX3_gatherFrom, Cond.instanceMethod yX3_gatherFrom, Cond.selects RX3 yX3_gatherFrom yX3_gatherFrom, Cond.initialized RX3, Cond.code yX3_gatherFrom cX3_gatherFrom 6 none, Cond.methodLink RX3 63 yX2_areRing, Cond.instanceMethod yX2_areRing, Cond.selects RX2 yX2_areRing yX2_areRing, Cond.code yX2_areRing cX2_areRing 4 (some .boolean), Cond.methodLink RX2 52 yX2_bothBits, Cond.instanceMethod yX2_bothBits]
def wsX3_gather_r2 : List Cond := [Cond.selects RX2 yX2_bothBits yX2_bothBits, Cond.code yX2_bothBits cX2_bothBits 2 (some .int), Cond.fieldLink RX2 9 "TickFall$Links" "firsts" "[I", Cond.fieldLink RX2 15 "TickFall$Links" "seconds" "[I", Cond.methodLink RX3 67 yX3_add, Cond.instanceMethod yX3_add, Cond.selects RX3 yX3_add yX3_add, Cond.code yX3_add cX3_add 6 none, Cond.fieldLink RX3 9 "TickFall$Rings" "lowest" "[I", Cond.fieldLink RX3 15 "TickFall$Rings" "between" "[I", Cond.fieldLink RX3 18 "TickFall$Rings" "highest" "[I", Cond.fieldLink RX3 21 "TickFall$Rings" "betweenSigns" "[I", Cond.fieldLink RX3 24 "TickFall$Rings" "highestSigns" "[I", Cond.fieldLink RX3 27 "TickFall$Rings" "sums" "[I", Cond.methodLink RX3 71 yX2_signBehind, Cond.instanceMethod yX2_signBehind, Cond.selects RX2 yX2_signBehind yX2_signBehind, Cond.code yX2_signBehind cX2_signBehind 3 (some .int), Cond.methodLink RX3 75 yX2_around, Cond.instanceMethod yX2_around, Cond.selects RX2 yX2_around yX2_around, Cond.code yX2_around cX2_around 5 (some .int), Cond.methodLink RX2 48 yX2_correctedOf, Cond.instanceMethod yX2_correctedOf]
def wsX3_gather_r3 : List Cond := [Cond.selects RX2 yX2_correctedOf yX2_correctedOf, Cond.code yX2_correctedOf cX2_correctedOf 3 (some .int), Cond.fieldLink RX2 32 "TickFall$Links" "raw" "[[I", Cond.fieldLink RX2 35 "TickFall$Links" "offsets" "[[I", Cond.methodLink RX2 55 yX2_signBehind]
def wsX3_gather : List Cond := .code yX3_gather cX3_gather 4 none :: ((wsX3_gather_r1 ++ (wsX3_gather_r2 ++ wsX3_gather_r3)) ++ wsX30 ++ wsX20)
def wsX3_countOpen : List Cond := .code yX3_countOpen cX3_countOpen 4 (some .int) :: ([.fieldLink RX3 30 "TickFall$Rings" "count" "I", .fieldLink RX3 27 "TickFall$Rings" "sums" "[I", .methodLink RX3 79 Lib.Math.abs.name, .static Lib.Math.abs.name, .initialized "java/lang/Math", .code Lib.Math.abs.name Lib.Math.abs.code 1 (some .int)] ++ wsX30)
def wsX3_takenOff : List Cond := .code yX3_takenOff cX3_takenOff 2 (some .int) :: ([.fieldLink RX3 38 "TickFall$Rings" "taken" "[I", .fieldLink RX3 9 "TickFall$Rings" "lowest" "[I", .fieldLink RX3 21 "TickFall$Rings" "betweenSigns" "[I", .fieldLink RX3 15 "TickFall$Rings" "between" "[I", .fieldLink RX3 24 "TickFall$Rings" "highestSigns" "[I", .fieldLink RX3 18 "TickFall$Rings" "highest" "[I"] ++ wsX30)
def wsX3_areClosedAbove : List Cond := .code yX3_areClosedAbove cX3_areClosedAbove 3 (some .boolean) :: ([.fieldLink RX3 30 "TickFall$Rings" "count" "I", .fieldLink RX3 9 "TickFall$Rings" "lowest" "[I", .fieldLink RX3 27 "TickFall$Rings" "sums" "[I", .methodLink RX3 79 Lib.Math.abs.name, .static Lib.Math.abs.name, .initialized "java/lang/Math", .code Lib.Math.abs.name Lib.Math.abs.code 1 (some .int), .fieldLink RX3 41 "TickFall$Rings" "doubt" "I", .methodLink RX3 93 yX3_takenOff, .instanceMethod yX3_takenOff, .selects RX3 yX3_takenOff yX3_takenOff, .initialized RX3, .code yX3_takenOff cX3_takenOff 2 (some .int), .fieldLink RX3 38 "TickFall$Rings" "taken" "[I", .fieldLink RX3 21 "TickFall$Rings" "betweenSigns" "[I", .fieldLink RX3 15 "TickFall$Rings" "between" "[I", .fieldLink RX3 24 "TickFall$Rings" "highestSigns" "[I", .fieldLink RX3 18 "TickFall$Rings" "highest" "[I"] ++ wsX30)
def wsX3_tryFrom_r1 : List Cond := [Cond.fieldLink RX3 44 "TickFall$Rings" "fewest" "I", Cond.fieldLink RX3 47 "TickFall$Rings" "found" "I", Cond.fieldLink RX3 34 "TickFall$Rings" "isInRing" "[Z", Cond.fieldLink RX3 38 "TickFall$Rings" "taken" "[I", Cond.methodLink RX3 79 Lib.Math.abs.name, Cond.static Lib.Math.abs.name, Cond.initialized "java/lang/Math", Cond.code Lib.Math.abs.name Lib.Math.abs.code 1 (some .int), Cond.methodLink RX3 89 yX3_areClosedAbove, Cond.instanceMethod yX3_areClosedAbove, Cond.selects RX3 yX3_areClosedAbove yX3_areClosedAbove, Cond.initialized RX3, Cond.code yX3_areClosedAbove cX3_areClosedAbove 3 (some .boolean), Cond.fieldLink RX3 30 "TickFall$Rings" "count" "I", Cond.fieldLink RX3 9 "TickFall$Rings" "lowest" "[I", Cond.fieldLink RX3 27 "TickFall$Rings" "sums" "[I", Cond.fieldLink RX3 41 "TickFall$Rings" "doubt" "I", Cond.methodLink RX3 93 yX3_takenOff, Cond.instanceMethod yX3_takenOff, Cond.selects RX3 yX3_takenOff yX3_takenOff, Cond.code yX3_takenOff cX3_takenOff 2 (some .int), Cond.fieldLink RX3 21 "TickFall$Rings" "betweenSigns" "[I", Cond.fieldLink RX3 15 "TickFall$Rings" "between" "[I", Cond.fieldLink RX3 24 "TickFall$Rings" "highestSigns" "[I"]
def wsX3_tryFrom_r2 : List Cond := [Cond.fieldLink RX3 18 "TickFall$Rings" "highest" "[I", Cond.methodLink RX3 85 yX3_tryFrom, Cond.static yX3_tryFrom]
def wsX3_tryFrom : List Cond := .code yX3_tryFrom cX3_tryFrom 6 none :: ((wsX3_tryFrom_r1 ++ wsX3_tryFrom_r2) ++ wsX30)
def wsX3_findSlips_r1 : List Cond := [Cond.fieldLink RX3 41 "TickFall$Rings" "doubt" "I", Cond.fieldLink RX3 44 "TickFall$Rings" "fewest" "I", Cond.fieldLink RX3 47 "TickFall$Rings" "found" "I", Cond.methodLink RX3 85 yX3_tryFrom, Cond.static yX3_tryFrom, Cond.initialized RX3, Cond.code yX3_tryFrom cX3_tryFrom 6 none, Cond.fieldLink RX3 34 "TickFall$Rings" "isInRing" "[Z", Cond.fieldLink RX3 38 "TickFall$Rings" "taken" "[I", Cond.methodLink RX3 79 Lib.Math.abs.name, Cond.static Lib.Math.abs.name, Cond.initialized "java/lang/Math", Cond.code Lib.Math.abs.name Lib.Math.abs.code 1 (some .int), Cond.methodLink RX3 89 yX3_areClosedAbove, Cond.instanceMethod yX3_areClosedAbove, Cond.selects RX3 yX3_areClosedAbove yX3_areClosedAbove, Cond.code yX3_areClosedAbove cX3_areClosedAbove 3 (some .boolean), Cond.fieldLink RX3 30 "TickFall$Rings" "count" "I", Cond.fieldLink RX3 9 "TickFall$Rings" "lowest" "[I", Cond.fieldLink RX3 27 "TickFall$Rings" "sums" "[I", Cond.methodLink RX3 93 yX3_takenOff, Cond.instanceMethod yX3_takenOff, Cond.selects RX3 yX3_takenOff yX3_takenOff, Cond.code yX3_takenOff cX3_takenOff 2 (some .int)]
def wsX3_findSlips_r2 : List Cond := [Cond.fieldLink RX3 21 "TickFall$Rings" "betweenSigns" "[I", Cond.fieldLink RX3 15 "TickFall$Rings" "between" "[I", Cond.fieldLink RX3 24 "TickFall$Rings" "highestSigns" "[I", Cond.fieldLink RX3 18 "TickFall$Rings" "highest" "[I"]
def wsX3_findSlips : List Cond := .code yX3_findSlips cX3_findSlips 3 (some .int) :: ((wsX3_findSlips_r1 ++ wsX3_findSlips_r2) ++ wsX30)
def wsX4_init_r1 : List Cond := [Cond.methodLink RX4 1 objectInit, Cond.instanceMethod objectInit, Cond.code objectInit ⟨#[0xb1]⟩ 1 none, Cond.classLink RX4 7 RX1, Cond.instantiable RX1 6, Cond.initialized RX1, Cond.fieldLink RX4 10 "TickFall" "clocks" "LTickFall$Clocks;", Cond.classLink RX4 16 RX2, Cond.instantiable RX2 9, Cond.initialized RX2, Cond.fieldLink RX4 19 "TickFall" "links" "LTickFall$Links;", Cond.classLink RX4 23 RX0, Cond.instantiable RX0 2, Cond.initialized RX0, Cond.fieldLink RX4 26 "TickFall" "agenda" "LTickFall$Agenda;", Cond.classLink RX4 30 RX3, Cond.instantiable RX3 12, Cond.initialized RX3, Cond.fieldLink RX4 33 "TickFall" "rings" "LTickFall$Rings;", Cond.arrayClass .int, Cond.fieldLink RX4 37 "TickFall" "steeredTimes" "[I", Cond.arrayClass .boolean, Cond.fieldLink RX4 41 "TickFall" "votes" "[Z", Cond.fieldLink RX4 45 "TickFall" "today" "I"]
def wsX4_init_r2 : List Cond := [Cond.fieldLink RX4 49 "TickFall" "doubt" "I", Cond.fieldLink RX4 52 "TickFall" "step" "I", Cond.fieldLink RX4 55 "TickFall" "isAdopted" "Z", Cond.instanceMethod yX1_init, Cond.code yX1_init cX1_init 1 none, Cond.methodLink RX1 3 objectInit, Cond.fieldLink RX1 9 "TickFall$Clocks" "rates" "[I", Cond.fieldLink RX1 15 "TickFall$Clocks" "drifts" "[I", Cond.fieldLink RX1 18 "TickFall$Clocks" "weights" "[I", Cond.fieldLink RX1 21 "TickFall$Clocks" "heights" "[I", Cond.fieldLink RX1 24 "TickFall$Clocks" "phases" "[I", Cond.fieldLink RX1 27 "TickFall$Clocks" "count" "I", Cond.instanceMethod yX2_init, Cond.code yX2_init cX2_init 1 none, Cond.methodLink RX2 3 objectInit, Cond.fieldLink RX2 9 "TickFall$Links" "firsts" "[I", Cond.fieldLink RX2 15 "TickFall$Links" "seconds" "[I", Cond.fieldLink RX2 18 "TickFall$Links" "asymmetries" "[I", Cond.fieldLink RX2 21 "TickFall$Links" "cycles" "[I", Cond.fieldLink RX2 24 "TickFall$Links" "laidOn" "[I", Cond.fieldLink RX2 27 "TickFall$Links" "calibrations" "[I", Cond.classLink RX2 30 "[[I", Cond.fieldLink RX2 32 "TickFall$Links" "raw" "[[I", Cond.fieldLink RX2 35 "TickFall$Links" "offsets" "[[I"]
def wsX4_init_r3 : List Cond := [Cond.fieldLink RX2 38 "TickFall$Links" "count" "I", Cond.instanceMethod yX0_init, Cond.code yX0_init cX0_init 1 none, Cond.methodLink RX0 5 objectInit, Cond.fieldLink RX0 11 "TickFall$Agenda" "rows" "[I", Cond.fieldLink RX0 15 "TickFall$Agenda" "count" "I", Cond.instanceMethod yX3_init, Cond.code yX3_init cX3_init 1 none, Cond.methodLink RX3 3 objectInit, Cond.fieldLink RX3 9 "TickFall$Rings" "lowest" "[I", Cond.fieldLink RX3 15 "TickFall$Rings" "between" "[I", Cond.fieldLink RX3 18 "TickFall$Rings" "highest" "[I", Cond.fieldLink RX3 21 "TickFall$Rings" "betweenSigns" "[I", Cond.fieldLink RX3 24 "TickFall$Rings" "highestSigns" "[I", Cond.fieldLink RX3 27 "TickFall$Rings" "sums" "[I", Cond.fieldLink RX3 30 "TickFall$Rings" "count" "I", Cond.fieldLink RX3 34 "TickFall$Rings" "isInRing" "[Z", Cond.fieldLink RX3 38 "TickFall$Rings" "taken" "[I", Cond.fieldLink RX3 41 "TickFall$Rings" "doubt" "I", Cond.fieldLink RX3 44 "TickFall$Rings" "fewest" "I", Cond.fieldLink RX3 47 "TickFall$Rings" "found" "I"]
def wsX4_init : List Cond := .code yX4_init cX4_init 1 none :: ((wsX4_init_r1 ++ (wsX4_init_r2 ++ wsX4_init_r3)) ++ wsX10 ++ wsX40 ++ wsX20 ++ wsX00 ++ wsX30)
def wsX4_isWithin : List Cond := .code yX4_isWithin cX4_isWithin 3 (some .boolean) :: ([])
def wsX4_clock : List Cond := .code yX4_clock cX4_clock 3 (some .int) :: ([.classLink RX4 63 "java/lang/IllegalArgumentException", .initialized "java/lang/IllegalArgumentException", .classLink RX4 74 "java/lang/IllegalStateException", .initialized "java/lang/IllegalStateException", .fieldLink RX4 10 "TickFall" "clocks" "LTickFall$Clocks;", .methodLink RX4 59 yX4_isWithin, .static yX4_isWithin, .initialized RX4, .code yX4_isWithin cX4_isWithin 3 (some .boolean), .methodLink RX4 70 yX1_count, .instanceMethod yX1_count, .selects RX1 yX1_count yX1_count, .initialized RX1, .code yX1_count cX1_count 1 (some .int), .fieldLink RX1 27 "TickFall$Clocks" "count" "I", .methodLink RX4 79 yX1_add, .instanceMethod yX1_add, .selects RX1 yX1_add yX1_add, .code yX1_add cX1_add 4 (some .int), .fieldLink RX1 9 "TickFall$Clocks" "rates" "[I", .fieldLink RX1 21 "TickFall$Clocks" "heights" "[I", .fieldLink RX1 18 "TickFall$Clocks" "weights" "[I"] ++ wsX40 ++ wsX10 ++ (vx_atS RX4 67 "java/lang/IllegalArgumentException" ["java/lang/RuntimeException", "java/lang/Exception"]).filter goodWord ++ (vx_atS RX4 78 "java/lang/IllegalStateException" ["java/lang/RuntimeException", "java/lang/Exception"]).filter goodWord)
def wsX4_tell_r1 : List Cond := [Cond.classLink RX4 87 "java/lang/IndexOutOfBoundsException", Cond.initialized "java/lang/IndexOutOfBoundsException", Cond.classLink RX4 63 "java/lang/IllegalArgumentException", Cond.initialized "java/lang/IllegalArgumentException", Cond.fieldLink RX4 10 "TickFall" "clocks" "LTickFall$Clocks;", Cond.methodLink RX4 83 yX1_has, Cond.instanceMethod yX1_has, Cond.selects RX1 yX1_has yX1_has, Cond.initialized RX1, Cond.code yX1_has cX1_has 2 (some .boolean), Cond.fieldLink RX1 27 "TickFall$Clocks" "count" "I", Cond.methodLink RX4 59 yX4_isWithin, Cond.static yX4_isWithin, Cond.initialized RX4, Cond.code yX4_isWithin cX4_isWithin 3 (some .boolean), Cond.methodLink RX4 94 yX1_weightOf, Cond.instanceMethod yX1_weightOf, Cond.selects RX1 yX1_weightOf yX1_weightOf, Cond.code yX1_weightOf cX1_weightOf 2 (some .int), Cond.fieldLink RX1 18 "TickFall$Clocks" "weights" "[I", Cond.methodLink RX4 98 yX1_setDriftAndWeight, Cond.instanceMethod yX1_setDriftAndWeight, Cond.selects RX1 yX1_setDriftAndWeight yX1_setDriftAndWeight, Cond.code yX1_setDriftAndWeight cX1_setDriftAndWeight 4 none]
def wsX4_tell_r2 : List Cond := [Cond.fieldLink RX1 15 "TickFall$Clocks" "drifts" "[I"]
def wsX4_tell : List Cond := .code yX4_tell cX4_tell 5 (some .int) :: ((wsX4_tell_r1 ++ wsX4_tell_r2) ++ wsX40 ++ wsX10 ++ (vx_atS RX4 91 "java/lang/IndexOutOfBoundsException" ["java/lang/RuntimeException", "java/lang/Exception"]).filter goodWord ++ (vx_atS RX4 67 "java/lang/IllegalArgumentException" ["java/lang/RuntimeException", "java/lang/Exception"]).filter goodWord)
def wsX4_link_r1 : List Cond := [Cond.classLink RX4 87 "java/lang/IndexOutOfBoundsException", Cond.initialized "java/lang/IndexOutOfBoundsException", Cond.classLink RX4 63 "java/lang/IllegalArgumentException", Cond.initialized "java/lang/IllegalArgumentException", Cond.classLink RX4 74 "java/lang/IllegalStateException", Cond.initialized "java/lang/IllegalStateException", Cond.fieldLink RX4 10 "TickFall" "clocks" "LTickFall$Clocks;", Cond.fieldLink RX4 19 "TickFall" "links" "LTickFall$Links;", Cond.fieldLink RX4 45 "TickFall" "today" "I", Cond.methodLink RX4 83 yX1_has, Cond.instanceMethod yX1_has, Cond.selects RX1 yX1_has yX1_has, Cond.initialized RX1, Cond.code yX1_has cX1_has 2 (some .boolean), Cond.fieldLink RX1 27 "TickFall$Clocks" "count" "I", Cond.methodLink RX4 59 yX4_isWithin, Cond.static yX4_isWithin, Cond.initialized RX4, Cond.code yX4_isWithin cX4_isWithin 3 (some .boolean), Cond.methodLink RX4 104 yX2_count, Cond.instanceMethod yX2_count, Cond.selects RX2 yX2_count yX2_count, Cond.initialized RX2, Cond.code yX2_count cX2_count 1 (some .int)]
def wsX4_link_r2 : List Cond := [Cond.fieldLink RX2 38 "TickFall$Links" "count" "I", Cond.methodLink RX4 107 yX2_add, Cond.instanceMethod yX2_add, Cond.selects RX2 yX2_add yX2_add, Cond.code yX2_add cX2_add 6 (some .int), Cond.fieldLink RX2 9 "TickFall$Links" "firsts" "[I", Cond.fieldLink RX2 15 "TickFall$Links" "seconds" "[I", Cond.fieldLink RX2 18 "TickFall$Links" "asymmetries" "[I", Cond.fieldLink RX2 24 "TickFall$Links" "laidOn" "[I"]
def wsX4_link : List Cond := .code yX4_link cX4_link 4 (some .int) :: ((wsX4_link_r1 ++ wsX4_link_r2) ++ wsX40 ++ wsX10 ++ wsX20 ++ (vx_atS RX4 91 "java/lang/IndexOutOfBoundsException" ["java/lang/RuntimeException", "java/lang/Exception"]).filter goodWord ++ (vx_atS RX4 67 "java/lang/IllegalArgumentException" ["java/lang/RuntimeException", "java/lang/Exception"]).filter goodWord ++ (vx_atS RX4 78 "java/lang/IllegalStateException" ["java/lang/RuntimeException", "java/lang/Exception"]).filter goodWord)
def wsX4_isAmountOf : List Cond := .code yX4_isAmountOf cX4_isAmountOf 2 (some .boolean) :: ([.methodLink RX4 59 yX4_isWithin, .static yX4_isWithin, .initialized RX4, .code yX4_isWithin cX4_isWithin 3 (some .boolean)])
def wsX4_event_r1 : List Cond := [Cond.classLink RX4 63 "java/lang/IllegalArgumentException", Cond.initialized "java/lang/IllegalArgumentException", Cond.classLink RX4 87 "java/lang/IndexOutOfBoundsException", Cond.initialized "java/lang/IndexOutOfBoundsException", Cond.classLink RX4 74 "java/lang/IllegalStateException", Cond.initialized "java/lang/IllegalStateException", Cond.fieldLink RX4 45 "TickFall" "today" "I", Cond.fieldLink RX4 10 "TickFall" "clocks" "LTickFall$Clocks;", Cond.fieldLink RX4 19 "TickFall" "links" "LTickFall$Links;", Cond.fieldLink RX4 26 "TickFall" "agenda" "LTickFall$Agenda;", Cond.methodLink RX4 59 yX4_isWithin, Cond.static yX4_isWithin, Cond.initialized RX4, Cond.code yX4_isWithin cX4_isWithin 3 (some .boolean), Cond.methodLink RX4 83 yX1_has, Cond.instanceMethod yX1_has, Cond.selects RX1 yX1_has yX1_has, Cond.initialized RX1, Cond.code yX1_has cX1_has 2 (some .boolean), Cond.fieldLink RX1 27 "TickFall$Clocks" "count" "I", Cond.methodLink RX4 112 yX2_has, Cond.instanceMethod yX2_has, Cond.selects RX2 yX2_has yX2_has, Cond.initialized RX2]
def wsX4_event_r2 : List Cond := [Cond.code yX2_has cX2_has 2 (some .boolean), Cond.fieldLink RX2 38 "TickFall$Links" "count" "I", Cond.methodLink RX4 115 yX4_isAmountOf, Cond.static yX4_isAmountOf, Cond.code yX4_isAmountOf cX4_isAmountOf 2 (some .boolean), Cond.methodLink RX4 119 yX0_count, Cond.instanceMethod yX0_count, Cond.selects RX0 yX0_count yX0_count, Cond.initialized RX0, Cond.code yX0_count cX0_count 1 (some .int), Cond.fieldLink RX0 15 "TickFall$Agenda" "count" "I", Cond.methodLink RX4 122 yX0_add, Cond.instanceMethod yX0_add, Cond.selects RX0 yX0_add yX0_add, Cond.code yX0_add cX0_add 7 none, Cond.fieldLink RX0 11 "TickFall$Agenda" "rows" "[I"]
def wsX4_event : List Cond := .code yX4_event cX4_event 6 (some .int) :: ((wsX4_event_r1 ++ wsX4_event_r2) ++ wsX40 ++ wsX10 ++ wsX20 ++ wsX00 ++ (vx_atS RX4 67 "java/lang/IllegalArgumentException" ["java/lang/RuntimeException", "java/lang/Exception"]).filter goodWord ++ (vx_atS RX4 91 "java/lang/IndexOutOfBoundsException" ["java/lang/RuntimeException", "java/lang/Exception"]).filter goodWord ++ (vx_atS RX4 78 "java/lang/IllegalStateException" ["java/lang/RuntimeException", "java/lang/Exception"]).filter goodWord)
def wsX4_calibrate_r1 : List Cond := [Cond.classLink RX4 87 "java/lang/IndexOutOfBoundsException", Cond.initialized "java/lang/IndexOutOfBoundsException", Cond.classLink RX4 63 "java/lang/IllegalArgumentException", Cond.initialized "java/lang/IllegalArgumentException", Cond.classLink RX4 74 "java/lang/IllegalStateException", Cond.initialized "java/lang/IllegalStateException", Cond.fieldLink RX4 19 "TickFall" "links" "LTickFall$Links;", Cond.methodLink RX4 112 yX2_has, Cond.instanceMethod yX2_has, Cond.selects RX2 yX2_has yX2_has, Cond.initialized RX2, Cond.code yX2_has cX2_has 2 (some .boolean), Cond.fieldLink RX2 38 "TickFall$Links" "count" "I", Cond.methodLink RX4 59 yX4_isWithin, Cond.static yX4_isWithin, Cond.initialized RX4, Cond.code yX4_isWithin cX4_isWithin 3 (some .boolean), Cond.methodLink RX4 129 yX2_calibrationsOf, Cond.instanceMethod yX2_calibrationsOf, Cond.selects RX2 yX2_calibrationsOf yX2_calibrationsOf, Cond.code yX2_calibrationsOf cX2_calibrationsOf 2 (some .int), Cond.fieldLink RX2 27 "TickFall$Links" "calibrations" "[I", Cond.methodLink RX4 134 yX2_addCalibration, Cond.instanceMethod yX2_addCalibration]
def wsX4_calibrate_r2 : List Cond := [Cond.selects RX2 yX2_addCalibration yX2_addCalibration, Cond.code yX2_addCalibration cX2_addCalibration 6 (some .int), Cond.fieldLink RX2 35 "TickFall$Links" "offsets" "[[I"]
def wsX4_calibrate : List Cond := .code yX4_calibrate cX4_calibrate 5 (some .int) :: ((wsX4_calibrate_r1 ++ wsX4_calibrate_r2) ++ wsX40 ++ wsX20 ++ (vx_atS RX4 91 "java/lang/IndexOutOfBoundsException" ["java/lang/RuntimeException", "java/lang/Exception"]).filter goodWord ++ (vx_atS RX4 67 "java/lang/IllegalArgumentException" ["java/lang/RuntimeException", "java/lang/Exception"]).filter goodWord ++ (vx_atS RX4 78 "java/lang/IllegalStateException" ["java/lang/RuntimeException", "java/lang/Exception"]).filter goodWord)
def wsX4_bounds : List Cond := .code yX4_bounds cX4_bounds 3 none :: ([.classLink RX4 63 "java/lang/IllegalArgumentException", .initialized "java/lang/IllegalArgumentException", .fieldLink RX4 49 "TickFall" "doubt" "I", .fieldLink RX4 52 "TickFall" "step" "I", .methodLink RX4 59 yX4_isWithin, .static yX4_isWithin, .initialized RX4, .code yX4_isWithin cX4_isWithin 3 (some .boolean)] ++ wsX40 ++ (vx_atS RX4 67 "java/lang/IllegalArgumentException" ["java/lang/RuntimeException", "java/lang/Exception"]).filter goodWord)
def wsX4_happen_r1 : List Cond := [Cond.fieldLink RX4 10 "TickFall" "clocks" "LTickFall$Clocks;", Cond.fieldLink RX4 19 "TickFall" "links" "LTickFall$Links;", Cond.methodLink RX4 245 yX0_numberOf, Cond.static yX0_numberOf, Cond.initialized RX0, Cond.code yX0_numberOf cX0_numberOf 1 (some .int), Cond.methodLink RX4 248 yX0_amountOf, Cond.static yX0_amountOf, Cond.code yX0_amountOf cX0_amountOf 1 (some .int), Cond.methodLink RX4 251 yX0_kindOf, Cond.static yX0_kindOf, Cond.code yX0_kindOf cX0_kindOf 1 (some .int), Cond.methodLink RX4 254 yX1_addToRate, Cond.instanceMethod yX1_addToRate, Cond.selects RX1 yX1_addToRate yX1_addToRate, Cond.initialized RX1, Cond.code yX1_addToRate cX1_addToRate 3 none, Cond.fieldLink RX1 9 "TickFall$Clocks" "rates" "[I", Cond.static yX4_held, Cond.initialized RX4, Cond.code yX4_held cX4_held 2 (some .int), Cond.methodLink RX4 185 Lib.Math.min.name, Cond.static Lib.Math.min.name, Cond.initialized "java/lang/Math"]
def wsX4_happen_r2 : List Cond := [Cond.code Lib.Math.min.name Lib.Math.min.code 2 (some .int), Cond.methodLink RX4 190 Lib.Math.max.name, Cond.static Lib.Math.max.name, Cond.code Lib.Math.max.name Lib.Math.max.code 2 (some .int), Cond.methodLink RX4 258 yX1_setHeight, Cond.instanceMethod yX1_setHeight, Cond.selects RX1 yX1_setHeight yX1_setHeight, Cond.code yX1_setHeight cX1_setHeight 3 none, Cond.fieldLink RX1 21 "TickFall$Clocks" "heights" "[I", Cond.methodLink RX4 261 yX2_setAsymmetry, Cond.instanceMethod yX2_setAsymmetry, Cond.selects RX2 yX2_setAsymmetry yX2_setAsymmetry, Cond.initialized RX2, Cond.code yX2_setAsymmetry cX2_setAsymmetry 3 none, Cond.fieldLink RX2 18 "TickFall$Links" "asymmetries" "[I", Cond.methodLink RX4 264 yX2_addCycles, Cond.instanceMethod yX2_addCycles, Cond.selects RX2 yX2_addCycles yX2_addCycles, Cond.code yX2_addCycles cX2_addCycles 3 none, Cond.fieldLink RX2 21 "TickFall$Links" "cycles" "[I"]
def wsX4_happen : List Cond := .code yX4_happen cX4_happen 4 none :: ((wsX4_happen_r1 ++ wsX4_happen_r2) ++ wsX40 ++ wsX10 ++ wsX20)
def wsX4_meanOrZero_r1 : List Cond := [Cond.fieldLink RX4 10 "TickFall" "clocks" "LTickFall$Clocks;", Cond.fieldLink RX4 19 "TickFall" "links" "LTickFall$Links;", Cond.methodLink RX4 70 yX1_count, Cond.instanceMethod yX1_count, Cond.selects RX1 yX1_count yX1_count, Cond.initialized RX1, Cond.code yX1_count cX1_count 1 (some .int), Cond.fieldLink RX1 27 "TickFall$Clocks" "count" "I", Cond.methodLink RX4 94 yX1_weightOf, Cond.instanceMethod yX1_weightOf, Cond.selects RX1 yX1_weightOf yX1_weightOf, Cond.code yX1_weightOf cX1_weightOf 2 (some .int), Cond.fieldLink RX1 18 "TickFall$Clocks" "weights" "[I", Cond.methodLink RX4 104 yX2_count, Cond.instanceMethod yX2_count, Cond.selects RX2 yX2_count yX2_count, Cond.initialized RX2, Cond.code yX2_count cX2_count 1 (some .int), Cond.fieldLink RX2 38 "TickFall$Links" "count" "I", Cond.methodLink RX4 270 yX2_otherThanZero, Cond.instanceMethod yX2_otherThanZero, Cond.selects RX2 yX2_otherThanZero yX2_otherThanZero, Cond.code yX2_otherThanZero cX2_otherThanZero 2 (some .int), Cond.fieldLink RX2 9 "TickFall$Links" "firsts" "[I"]
def wsX4_meanOrZero_r2 : List Cond := [Cond.fieldLink RX2 15 "TickFall$Links" "seconds" "[I", Cond.methodLink RX4 222 yX2_isLaidBefore, Cond.instanceMethod yX2_isLaidBefore, Cond.selects RX2 yX2_isLaidBefore yX2_isLaidBefore, Cond.code yX2_isLaidBefore cX2_isLaidBefore 3 (some .boolean), Cond.fieldLink RX2 24 "TickFall$Links" "laidOn" "[I", Cond.methodLink RX4 273 yX2_aheadOfZero, Cond.instanceMethod yX2_aheadOfZero, Cond.selects RX2 yX2_aheadOfZero yX2_aheadOfZero, Cond.code yX2_aheadOfZero cX2_aheadOfZero 4 (some .int), Cond.methodLink RX2 48 yX2_correctedOf, Cond.instanceMethod yX2_correctedOf, Cond.selects RX2 yX2_correctedOf yX2_correctedOf, Cond.code yX2_correctedOf cX2_correctedOf 3 (some .int), Cond.fieldLink RX2 32 "TickFall$Links" "raw" "[[I", Cond.fieldLink RX2 35 "TickFall$Links" "offsets" "[[I"]
def wsX4_meanOrZero : List Cond := .code yX4_meanOrZero cX4_meanOrZero 9 (some .int) :: ((wsX4_meanOrZero_r1 ++ wsX4_meanOrZero_r2) ++ wsX40 ++ wsX10 ++ wsX20)
def wsX4_steered_r1 : List Cond := [Cond.fieldLink RX4 52 "TickFall" "step" "I", Cond.methodLink RX4 210 yX4_meanOrZero, Cond.instanceMethod yX4_meanOrZero, Cond.selects RX4 yX4_meanOrZero yX4_meanOrZero, Cond.initialized RX4, Cond.code yX4_meanOrZero cX4_meanOrZero 9 (some .int), Cond.fieldLink RX4 10 "TickFall" "clocks" "LTickFall$Clocks;", Cond.fieldLink RX4 19 "TickFall" "links" "LTickFall$Links;", Cond.methodLink RX4 70 yX1_count, Cond.instanceMethod yX1_count, Cond.selects RX1 yX1_count yX1_count, Cond.initialized RX1, Cond.code yX1_count cX1_count 1 (some .int), Cond.fieldLink RX1 27 "TickFall$Clocks" "count" "I", Cond.methodLink RX4 94 yX1_weightOf, Cond.instanceMethod yX1_weightOf, Cond.selects RX1 yX1_weightOf yX1_weightOf, Cond.code yX1_weightOf cX1_weightOf 2 (some .int), Cond.fieldLink RX1 18 "TickFall$Clocks" "weights" "[I", Cond.methodLink RX4 104 yX2_count, Cond.instanceMethod yX2_count, Cond.selects RX2 yX2_count yX2_count, Cond.initialized RX2, Cond.code yX2_count cX2_count 1 (some .int)]
def wsX4_steered_r2 : List Cond := [Cond.fieldLink RX2 38 "TickFall$Links" "count" "I", Cond.methodLink RX4 270 yX2_otherThanZero, Cond.instanceMethod yX2_otherThanZero, Cond.selects RX2 yX2_otherThanZero yX2_otherThanZero, Cond.code yX2_otherThanZero cX2_otherThanZero 2 (some .int), Cond.fieldLink RX2 9 "TickFall$Links" "firsts" "[I", Cond.fieldLink RX2 15 "TickFall$Links" "seconds" "[I", Cond.methodLink RX4 222 yX2_isLaidBefore, Cond.instanceMethod yX2_isLaidBefore, Cond.selects RX2 yX2_isLaidBefore yX2_isLaidBefore, Cond.code yX2_isLaidBefore cX2_isLaidBefore 3 (some .boolean), Cond.fieldLink RX2 24 "TickFall$Links" "laidOn" "[I", Cond.methodLink RX4 273 yX2_aheadOfZero, Cond.instanceMethod yX2_aheadOfZero, Cond.selects RX2 yX2_aheadOfZero yX2_aheadOfZero, Cond.code yX2_aheadOfZero cX2_aheadOfZero 4 (some .int), Cond.methodLink RX2 48 yX2_correctedOf, Cond.instanceMethod yX2_correctedOf, Cond.selects RX2 yX2_correctedOf yX2_correctedOf, Cond.code yX2_correctedOf cX2_correctedOf 3 (some .int), Cond.fieldLink RX2 32 "TickFall$Links" "raw" "[[I", Cond.fieldLink RX2 35 "TickFall$Links" "offsets" "[[I", Cond.methodLink RX4 276 yX4_held, Cond.static yX4_held]
def wsX4_steered_r3 : List Cond := [Cond.code yX4_held cX4_held 2 (some .int), Cond.methodLink RX4 185 Lib.Math.min.name, Cond.static Lib.Math.min.name, Cond.initialized "java/lang/Math", Cond.code Lib.Math.min.name Lib.Math.min.code 2 (some .int), Cond.methodLink RX4 190 Lib.Math.max.name, Cond.static Lib.Math.max.name, Cond.code Lib.Math.max.name Lib.Math.max.code 2 (some .int)]
def wsX4_steered : List Cond := .code yX4_steered cX4_steered 3 (some .int) :: ((wsX4_steered_r1 ++ (wsX4_steered_r2 ++ wsX4_steered_r3)) ++ wsX40 ++ wsX10 ++ wsX20)
def wsX4_passOneDay_r1 : List Cond := [Cond.fieldLink RX4 37 "TickFall" "steeredTimes" "[I", Cond.fieldLink RX4 45 "TickFall" "today" "I", Cond.fieldLink RX4 26 "TickFall" "agenda" "LTickFall$Agenda;", Cond.fieldLink RX4 10 "TickFall" "clocks" "LTickFall$Clocks;", Cond.fieldLink RX4 19 "TickFall" "links" "LTickFall$Links;", Cond.methodLink RX4 119 yX0_count, Cond.instanceMethod yX0_count, Cond.selects RX0 yX0_count yX0_count, Cond.initialized RX0, Cond.code yX0_count cX0_count 1 (some .int), Cond.fieldLink RX0 15 "TickFall$Agenda" "count" "I", Cond.methodLink RX4 225 yX0_isNextDue, Cond.instanceMethod yX0_isNextDue, Cond.selects RX0 yX0_isNextDue yX0_isNextDue, Cond.code yX0_isNextDue cX0_isNextDue 2 (some .boolean), Cond.fieldLink RX0 11 "TickFall$Agenda" "rows" "[I", Cond.methodLink RX4 228 yX0_takeNext, Cond.instanceMethod yX0_takeNext, Cond.selects RX0 yX0_takeNext yX0_takeNext, Cond.code yX0_takeNext cX0_takeNext 1 (some .int), Cond.methodLink RX4 231 yX4_happen, Cond.instanceMethod yX4_happen, Cond.selects RX4 yX4_happen yX4_happen, Cond.initialized RX4]
def wsX4_passOneDay_r2 : List Cond := [Cond.code yX4_happen cX4_happen 4 none, Cond.methodLink RX4 245 yX0_numberOf, Cond.static yX0_numberOf, Cond.code yX0_numberOf cX0_numberOf 1 (some .int), Cond.methodLink RX4 248 yX0_amountOf, Cond.static yX0_amountOf, Cond.code yX0_amountOf cX0_amountOf 1 (some .int), Cond.methodLink RX4 251 yX0_kindOf, Cond.static yX0_kindOf, Cond.code yX0_kindOf cX0_kindOf 1 (some .int), Cond.methodLink RX4 254 yX1_addToRate, Cond.instanceMethod yX1_addToRate, Cond.selects RX1 yX1_addToRate yX1_addToRate, Cond.initialized RX1, Cond.code yX1_addToRate cX1_addToRate 3 none, Cond.fieldLink RX1 9 "TickFall$Clocks" "rates" "[I", Cond.static yX4_held, Cond.code yX4_held cX4_held 2 (some .int), Cond.methodLink RX4 185 Lib.Math.min.name, Cond.static Lib.Math.min.name, Cond.initialized "java/lang/Math", Cond.code Lib.Math.min.name Lib.Math.min.code 2 (some .int), Cond.methodLink RX4 190 Lib.Math.max.name, Cond.static Lib.Math.max.name]
def wsX4_passOneDay_r3 : List Cond := [Cond.code Lib.Math.max.name Lib.Math.max.code 2 (some .int), Cond.methodLink RX4 258 yX1_setHeight, Cond.instanceMethod yX1_setHeight, Cond.selects RX1 yX1_setHeight yX1_setHeight, Cond.code yX1_setHeight cX1_setHeight 3 none, Cond.fieldLink RX1 21 "TickFall$Clocks" "heights" "[I", Cond.methodLink RX4 261 yX2_setAsymmetry, Cond.instanceMethod yX2_setAsymmetry, Cond.selects RX2 yX2_setAsymmetry yX2_setAsymmetry, Cond.initialized RX2, Cond.code yX2_setAsymmetry cX2_setAsymmetry 3 none, Cond.fieldLink RX2 18 "TickFall$Links" "asymmetries" "[I", Cond.methodLink RX4 264 yX2_addCycles, Cond.instanceMethod yX2_addCycles, Cond.selects RX2 yX2_addCycles yX2_addCycles, Cond.code yX2_addCycles cX2_addCycles 3 none, Cond.fieldLink RX2 21 "TickFall$Links" "cycles" "[I", Cond.methodLink RX4 235 yX1_run, Cond.instanceMethod yX1_run, Cond.selects RX1 yX1_run yX1_run, Cond.code yX1_run cX1_run 3 none, Cond.fieldLink RX1 27 "TickFall$Clocks" "count" "I", Cond.fieldLink RX1 24 "TickFall$Clocks" "phases" "[I", Cond.fieldLink RX1 15 "TickFall$Clocks" "drifts" "[I"]
def wsX4_passOneDay_r4 : List Cond := [Cond.methodLink RX1 35 yX1_addToRate, Cond.methodLink RX4 238 yX2_measureAll, Cond.instanceMethod yX2_measureAll, Cond.selects RX2 yX2_measureAll yX2_measureAll, Cond.code yX2_measureAll cX2_measureAll 5 none, Cond.fieldLink RX2 38 "TickFall$Links" "count" "I", Cond.fieldLink RX2 9 "TickFall$Links" "firsts" "[I", Cond.fieldLink RX2 15 "TickFall$Links" "seconds" "[I", Cond.fieldLink RX2 32 "TickFall$Links" "raw" "[[I", Cond.methodLink RX2 42 yX1_phaseOf, Cond.instanceMethod yX1_phaseOf, Cond.selects RX1 yX1_phaseOf yX1_phaseOf, Cond.code yX1_phaseOf cX1_phaseOf 2 (some .int), Cond.methodLink RX4 242 yX4_steered, Cond.instanceMethod yX4_steered, Cond.selects RX4 yX4_steered yX4_steered, Cond.code yX4_steered cX4_steered 3 (some .int), Cond.fieldLink RX4 52 "TickFall" "step" "I", Cond.methodLink RX4 210 yX4_meanOrZero, Cond.instanceMethod yX4_meanOrZero, Cond.selects RX4 yX4_meanOrZero yX4_meanOrZero, Cond.code yX4_meanOrZero cX4_meanOrZero 9 (some .int), Cond.methodLink RX4 70 yX1_count, Cond.instanceMethod yX1_count]
def wsX4_passOneDay_r5 : List Cond := [Cond.selects RX1 yX1_count yX1_count, Cond.code yX1_count cX1_count 1 (some .int), Cond.methodLink RX4 94 yX1_weightOf, Cond.instanceMethod yX1_weightOf, Cond.selects RX1 yX1_weightOf yX1_weightOf, Cond.code yX1_weightOf cX1_weightOf 2 (some .int), Cond.fieldLink RX1 18 "TickFall$Clocks" "weights" "[I", Cond.methodLink RX4 104 yX2_count, Cond.instanceMethod yX2_count, Cond.selects RX2 yX2_count yX2_count, Cond.code yX2_count cX2_count 1 (some .int), Cond.methodLink RX4 270 yX2_otherThanZero, Cond.instanceMethod yX2_otherThanZero, Cond.selects RX2 yX2_otherThanZero yX2_otherThanZero, Cond.code yX2_otherThanZero cX2_otherThanZero 2 (some .int), Cond.methodLink RX4 222 yX2_isLaidBefore, Cond.instanceMethod yX2_isLaidBefore, Cond.selects RX2 yX2_isLaidBefore yX2_isLaidBefore, Cond.code yX2_isLaidBefore cX2_isLaidBefore 3 (some .boolean), Cond.fieldLink RX2 24 "TickFall$Links" "laidOn" "[I", Cond.methodLink RX4 273 yX2_aheadOfZero, Cond.instanceMethod yX2_aheadOfZero, Cond.selects RX2 yX2_aheadOfZero yX2_aheadOfZero, Cond.code yX2_aheadOfZero cX2_aheadOfZero 4 (some .int)]
def wsX4_passOneDay_r6 : List Cond := [Cond.methodLink RX2 48 yX2_correctedOf, Cond.instanceMethod yX2_correctedOf, Cond.selects RX2 yX2_correctedOf yX2_correctedOf, Cond.code yX2_correctedOf cX2_correctedOf 3 (some .int), Cond.fieldLink RX2 35 "TickFall$Links" "offsets" "[[I", Cond.methodLink RX4 276 yX4_held]
def wsX4_passOneDay : List Cond := .code yX4_passOneDay cX4_passOneDay 3 none :: ((wsX4_passOneDay_r1 ++ (wsX4_passOneDay_r2 ++ (wsX4_passOneDay_r3 ++ (wsX4_passOneDay_r4 ++ (wsX4_passOneDay_r5 ++ wsX4_passOneDay_r6))))) ++ wsX40 ++ wsX00 ++ wsX10 ++ wsX20)
def wsX4_pass_r1 : List Cond := [Cond.classLink RX4 63 "java/lang/IllegalArgumentException", Cond.initialized "java/lang/IllegalArgumentException", Cond.classLink RX4 74 "java/lang/IllegalStateException", Cond.initialized "java/lang/IllegalStateException", Cond.fieldLink RX4 45 "TickFall" "today" "I", Cond.methodLink RX4 59 yX4_isWithin, Cond.static yX4_isWithin, Cond.initialized RX4, Cond.code yX4_isWithin cX4_isWithin 3 (some .boolean), Cond.methodLink RX4 143 yX4_passOneDay, Cond.instanceMethod yX4_passOneDay, Cond.selects RX4 yX4_passOneDay yX4_passOneDay, Cond.code yX4_passOneDay cX4_passOneDay 3 none, Cond.fieldLink RX4 37 "TickFall" "steeredTimes" "[I", Cond.fieldLink RX4 26 "TickFall" "agenda" "LTickFall$Agenda;", Cond.fieldLink RX4 10 "TickFall" "clocks" "LTickFall$Clocks;", Cond.fieldLink RX4 19 "TickFall" "links" "LTickFall$Links;", Cond.methodLink RX4 119 yX0_count, Cond.instanceMethod yX0_count, Cond.selects RX0 yX0_count yX0_count, Cond.initialized RX0, Cond.code yX0_count cX0_count 1 (some .int), Cond.fieldLink RX0 15 "TickFall$Agenda" "count" "I", Cond.methodLink RX4 225 yX0_isNextDue]
def wsX4_pass_r2 : List Cond := [Cond.instanceMethod yX0_isNextDue, Cond.selects RX0 yX0_isNextDue yX0_isNextDue, Cond.code yX0_isNextDue cX0_isNextDue 2 (some .boolean), Cond.fieldLink RX0 11 "TickFall$Agenda" "rows" "[I", Cond.methodLink RX4 228 yX0_takeNext, Cond.instanceMethod yX0_takeNext, Cond.selects RX0 yX0_takeNext yX0_takeNext, Cond.code yX0_takeNext cX0_takeNext 1 (some .int), Cond.methodLink RX4 231 yX4_happen, Cond.instanceMethod yX4_happen, Cond.selects RX4 yX4_happen yX4_happen, Cond.code yX4_happen cX4_happen 4 none, Cond.methodLink RX4 245 yX0_numberOf, Cond.static yX0_numberOf, Cond.code yX0_numberOf cX0_numberOf 1 (some .int), Cond.methodLink RX4 248 yX0_amountOf, Cond.static yX0_amountOf, Cond.code yX0_amountOf cX0_amountOf 1 (some .int), Cond.methodLink RX4 251 yX0_kindOf, Cond.static yX0_kindOf, Cond.code yX0_kindOf cX0_kindOf 1 (some .int), Cond.methodLink RX4 254 yX1_addToRate, Cond.instanceMethod yX1_addToRate, Cond.selects RX1 yX1_addToRate yX1_addToRate]
def wsX4_pass_r3 : List Cond := [Cond.initialized RX1, Cond.code yX1_addToRate cX1_addToRate 3 none, Cond.fieldLink RX1 9 "TickFall$Clocks" "rates" "[I", Cond.static yX4_held, Cond.code yX4_held cX4_held 2 (some .int), Cond.methodLink RX4 185 Lib.Math.min.name, Cond.static Lib.Math.min.name, Cond.initialized "java/lang/Math", Cond.code Lib.Math.min.name Lib.Math.min.code 2 (some .int), Cond.methodLink RX4 190 Lib.Math.max.name, Cond.static Lib.Math.max.name, Cond.code Lib.Math.max.name Lib.Math.max.code 2 (some .int), Cond.methodLink RX4 258 yX1_setHeight, Cond.instanceMethod yX1_setHeight, Cond.selects RX1 yX1_setHeight yX1_setHeight, Cond.code yX1_setHeight cX1_setHeight 3 none, Cond.fieldLink RX1 21 "TickFall$Clocks" "heights" "[I", Cond.methodLink RX4 261 yX2_setAsymmetry, Cond.instanceMethod yX2_setAsymmetry, Cond.selects RX2 yX2_setAsymmetry yX2_setAsymmetry, Cond.initialized RX2, Cond.code yX2_setAsymmetry cX2_setAsymmetry 3 none, Cond.fieldLink RX2 18 "TickFall$Links" "asymmetries" "[I", Cond.methodLink RX4 264 yX2_addCycles]
def wsX4_pass_r4 : List Cond := [Cond.instanceMethod yX2_addCycles, Cond.selects RX2 yX2_addCycles yX2_addCycles, Cond.code yX2_addCycles cX2_addCycles 3 none, Cond.fieldLink RX2 21 "TickFall$Links" "cycles" "[I", Cond.methodLink RX4 235 yX1_run, Cond.instanceMethod yX1_run, Cond.selects RX1 yX1_run yX1_run, Cond.code yX1_run cX1_run 3 none, Cond.fieldLink RX1 27 "TickFall$Clocks" "count" "I", Cond.fieldLink RX1 24 "TickFall$Clocks" "phases" "[I", Cond.fieldLink RX1 15 "TickFall$Clocks" "drifts" "[I", Cond.methodLink RX1 35 yX1_addToRate, Cond.methodLink RX4 238 yX2_measureAll, Cond.instanceMethod yX2_measureAll, Cond.selects RX2 yX2_measureAll yX2_measureAll, Cond.code yX2_measureAll cX2_measureAll 5 none, Cond.fieldLink RX2 38 "TickFall$Links" "count" "I", Cond.fieldLink RX2 9 "TickFall$Links" "firsts" "[I", Cond.fieldLink RX2 15 "TickFall$Links" "seconds" "[I", Cond.fieldLink RX2 32 "TickFall$Links" "raw" "[[I", Cond.methodLink RX2 42 yX1_phaseOf, Cond.instanceMethod yX1_phaseOf, Cond.selects RX1 yX1_phaseOf yX1_phaseOf, Cond.code yX1_phaseOf cX1_phaseOf 2 (some .int)]
def wsX4_pass_r5 : List Cond := [Cond.methodLink RX4 242 yX4_steered, Cond.instanceMethod yX4_steered, Cond.selects RX4 yX4_steered yX4_steered, Cond.code yX4_steered cX4_steered 3 (some .int), Cond.fieldLink RX4 52 "TickFall" "step" "I", Cond.methodLink RX4 210 yX4_meanOrZero, Cond.instanceMethod yX4_meanOrZero, Cond.selects RX4 yX4_meanOrZero yX4_meanOrZero, Cond.code yX4_meanOrZero cX4_meanOrZero 9 (some .int), Cond.methodLink RX4 70 yX1_count, Cond.instanceMethod yX1_count, Cond.selects RX1 yX1_count yX1_count, Cond.code yX1_count cX1_count 1 (some .int), Cond.methodLink RX4 94 yX1_weightOf, Cond.instanceMethod yX1_weightOf, Cond.selects RX1 yX1_weightOf yX1_weightOf, Cond.code yX1_weightOf cX1_weightOf 2 (some .int), Cond.fieldLink RX1 18 "TickFall$Clocks" "weights" "[I", Cond.methodLink RX4 104 yX2_count, Cond.instanceMethod yX2_count, Cond.selects RX2 yX2_count yX2_count, Cond.code yX2_count cX2_count 1 (some .int), Cond.methodLink RX4 270 yX2_otherThanZero, Cond.instanceMethod yX2_otherThanZero]
def wsX4_pass_r6 : List Cond := [Cond.selects RX2 yX2_otherThanZero yX2_otherThanZero, Cond.code yX2_otherThanZero cX2_otherThanZero 2 (some .int), Cond.methodLink RX4 222 yX2_isLaidBefore, Cond.instanceMethod yX2_isLaidBefore, Cond.selects RX2 yX2_isLaidBefore yX2_isLaidBefore, Cond.code yX2_isLaidBefore cX2_isLaidBefore 3 (some .boolean), Cond.fieldLink RX2 24 "TickFall$Links" "laidOn" "[I", Cond.methodLink RX4 273 yX2_aheadOfZero, Cond.instanceMethod yX2_aheadOfZero, Cond.selects RX2 yX2_aheadOfZero yX2_aheadOfZero, Cond.code yX2_aheadOfZero cX2_aheadOfZero 4 (some .int), Cond.methodLink RX2 48 yX2_correctedOf, Cond.instanceMethod yX2_correctedOf, Cond.selects RX2 yX2_correctedOf yX2_correctedOf, Cond.code yX2_correctedOf cX2_correctedOf 3 (some .int), Cond.fieldLink RX2 35 "TickFall$Links" "offsets" "[[I", Cond.methodLink RX4 276 yX4_held]
def wsX4_pass : List Cond := .code yX4_pass cX4_pass 3 (some .int) :: ((wsX4_pass_r1 ++ (wsX4_pass_r2 ++ (wsX4_pass_r3 ++ (wsX4_pass_r4 ++ (wsX4_pass_r5 ++ wsX4_pass_r6))))) ++ wsX40 ++ wsX00 ++ wsX10 ++ wsX20 ++ (vx_atS RX4 67 "java/lang/IllegalArgumentException" ["java/lang/RuntimeException", "java/lang/Exception"]).filter goodWord ++ (vx_atS RX4 78 "java/lang/IllegalStateException" ["java/lang/RuntimeException", "java/lang/Exception"]).filter goodWord)
def wsX4_housesFor : List Cond := .code yX4_housesFor cX4_housesFor 3 (some .int) :: ([.fieldLink RX4 41 "TickFall" "votes" "[Z"] ++ wsX40)
def wsX4_vote : List Cond := .code yX4_vote cX4_vote 3 (some .int) :: ([.classLink RX4 87 "java/lang/IndexOutOfBoundsException", .initialized "java/lang/IndexOutOfBoundsException", .fieldLink RX4 41 "TickFall" "votes" "[Z", .methodLink RX4 59 yX4_isWithin, .static yX4_isWithin, .initialized RX4, .code yX4_isWithin cX4_isWithin 3 (some .boolean), .methodLink RX4 148 yX4_housesFor, .instanceMethod yX4_housesFor, .selects RX4 yX4_housesFor yX4_housesFor, .code yX4_housesFor cX4_housesFor 3 (some .int)] ++ wsX40 ++ (vx_atS RX4 91 "java/lang/IndexOutOfBoundsException" ["java/lang/RuntimeException", "java/lang/Exception"]).filter goodWord)
def wsX4_openRings_r1 : List Cond := [Cond.fieldLink RX4 33 "TickFall" "rings" "LTickFall$Rings;", Cond.fieldLink RX4 19 "TickFall" "links" "LTickFall$Links;", Cond.fieldLink RX4 49 "TickFall" "doubt" "I", Cond.methodLink RX4 201 yX3_gather, Cond.instanceMethod yX3_gather, Cond.selects RX3 yX3_gather yX3_gather, Cond.initialized RX3, Cond.code yX3_gather cX3_gather 4 none, Cond.fieldLink RX3 30 "TickFall$Rings" "count" "I", Cond.fieldLink RX3 34 "TickFall$Rings" "isInRing" "[Z", Cond.methodLink RX3 50 yX2_count, Cond.instanceMethod yX2_count, Cond.selects RX2 yX2_count yX2_count, Cond.initialized RX2, Cond.code yX2_count cX2_count 1 (some .int), Cond.fieldLink RX2 38 "TickFall$Links" "count" "I", Cond.methodLink RX3 55 yX2_isLaidBefore, Cond.instanceMethod yX2_isLaidBefore, Cond.selects RX2 yX2_isLaidBefore yX2_isLaidBefore, Cond.code yX2_isLaidBefore cX2_isLaidBefore 3 (some .boolean), Cond.fieldLink RX2 24 "TickFall$Links" "laidOn" "[I", Cond.methodLink RX3 59 yX3_gatherFrom, Cond.instanceMethod yX3_gatherFrom, Cond.selects RX3 yX3_gatherFrom yX3_gatherFrom]
def wsX4_openRings_r2 : List Cond := [Cond.code yX3_gatherFrom cX3_gatherFrom 6 none, Cond.methodLink RX3 63 yX2_areRing, Cond.instanceMethod yX2_areRing, Cond.selects RX2 yX2_areRing yX2_areRing, Cond.code yX2_areRing cX2_areRing 4 (some .boolean), Cond.methodLink RX2 52 yX2_bothBits, Cond.instanceMethod yX2_bothBits, Cond.selects RX2 yX2_bothBits yX2_bothBits, Cond.code yX2_bothBits cX2_bothBits 2 (some .int), Cond.fieldLink RX2 9 "TickFall$Links" "firsts" "[I", Cond.fieldLink RX2 15 "TickFall$Links" "seconds" "[I", Cond.methodLink RX3 67 yX3_add, Cond.instanceMethod yX3_add, Cond.selects RX3 yX3_add yX3_add, Cond.code yX3_add cX3_add 6 none, Cond.fieldLink RX3 9 "TickFall$Rings" "lowest" "[I", Cond.fieldLink RX3 15 "TickFall$Rings" "between" "[I", Cond.fieldLink RX3 18 "TickFall$Rings" "highest" "[I", Cond.fieldLink RX3 21 "TickFall$Rings" "betweenSigns" "[I", Cond.fieldLink RX3 24 "TickFall$Rings" "highestSigns" "[I", Cond.fieldLink RX3 27 "TickFall$Rings" "sums" "[I", Cond.methodLink RX3 71 yX2_signBehind, Cond.instanceMethod yX2_signBehind, Cond.selects RX2 yX2_signBehind yX2_signBehind]
def wsX4_openRings_r3 : List Cond := [Cond.code yX2_signBehind cX2_signBehind 3 (some .int), Cond.methodLink RX3 75 yX2_around, Cond.instanceMethod yX2_around, Cond.selects RX2 yX2_around yX2_around, Cond.code yX2_around cX2_around 5 (some .int), Cond.methodLink RX2 48 yX2_correctedOf, Cond.instanceMethod yX2_correctedOf, Cond.selects RX2 yX2_correctedOf yX2_correctedOf, Cond.code yX2_correctedOf cX2_correctedOf 3 (some .int), Cond.fieldLink RX2 32 "TickFall$Links" "raw" "[[I", Cond.fieldLink RX2 35 "TickFall$Links" "offsets" "[[I", Cond.methodLink RX2 55 yX2_signBehind, Cond.methodLink RX4 267 yX3_countOpen, Cond.instanceMethod yX3_countOpen, Cond.selects RX3 yX3_countOpen yX3_countOpen, Cond.code yX3_countOpen cX3_countOpen 4 (some .int), Cond.methodLink RX3 79 Lib.Math.abs.name, Cond.static Lib.Math.abs.name, Cond.initialized "java/lang/Math", Cond.code Lib.Math.abs.name Lib.Math.abs.code 1 (some .int)]
def wsX4_openRings : List Cond := .code yX4_openRings cX4_openRings 2 (some .int) :: ((wsX4_openRings_r1 ++ (wsX4_openRings_r2 ++ wsX4_openRings_r3)) ++ wsX40 ++ wsX30 ++ wsX20)
def wsX4_adopt_r1 : List Cond := [Cond.classLink RX4 74 "java/lang/IllegalStateException", Cond.initialized "java/lang/IllegalStateException", Cond.fieldLink RX4 55 "TickFall" "isAdopted" "Z", Cond.fieldLink RX4 45 "TickFall" "today" "I", Cond.methodLink RX4 148 yX4_housesFor, Cond.instanceMethod yX4_housesFor, Cond.selects RX4 yX4_housesFor yX4_housesFor, Cond.initialized RX4, Cond.code yX4_housesFor cX4_housesFor 3 (some .int), Cond.fieldLink RX4 41 "TickFall" "votes" "[Z", Cond.methodLink RX4 153 yX4_openRings, Cond.instanceMethod yX4_openRings, Cond.selects RX4 yX4_openRings yX4_openRings, Cond.code yX4_openRings cX4_openRings 2 (some .int), Cond.fieldLink RX4 33 "TickFall" "rings" "LTickFall$Rings;", Cond.fieldLink RX4 19 "TickFall" "links" "LTickFall$Links;", Cond.fieldLink RX4 49 "TickFall" "doubt" "I", Cond.methodLink RX4 201 yX3_gather, Cond.instanceMethod yX3_gather, Cond.selects RX3 yX3_gather yX3_gather, Cond.initialized RX3, Cond.code yX3_gather cX3_gather 4 none, Cond.fieldLink RX3 30 "TickFall$Rings" "count" "I", Cond.fieldLink RX3 34 "TickFall$Rings" "isInRing" "[Z"]
def wsX4_adopt_r2 : List Cond := [Cond.methodLink RX3 50 yX2_count, Cond.instanceMethod yX2_count, Cond.selects RX2 yX2_count yX2_count, Cond.initialized RX2, Cond.code yX2_count cX2_count 1 (some .int), Cond.fieldLink RX2 38 "TickFall$Links" "count" "I", Cond.methodLink RX3 55 yX2_isLaidBefore, Cond.instanceMethod yX2_isLaidBefore, Cond.selects RX2 yX2_isLaidBefore yX2_isLaidBefore, Cond.code yX2_isLaidBefore cX2_isLaidBefore 3 (some .boolean), Cond.fieldLink RX2 24 "TickFall$Links" "laidOn" "[I", Cond.methodLink RX3 59 yX3_gatherFrom, Cond.instanceMethod yX3_gatherFrom, Cond.selects RX3 yX3_gatherFrom yX3_gatherFrom, Cond.code yX3_gatherFrom cX3_gatherFrom 6 none, Cond.methodLink RX3 63 yX2_areRing, Cond.instanceMethod yX2_areRing, Cond.selects RX2 yX2_areRing yX2_areRing, Cond.code yX2_areRing cX2_areRing 4 (some .boolean), Cond.methodLink RX2 52 yX2_bothBits, Cond.instanceMethod yX2_bothBits, Cond.selects RX2 yX2_bothBits yX2_bothBits, Cond.code yX2_bothBits cX2_bothBits 2 (some .int), Cond.fieldLink RX2 9 "TickFall$Links" "firsts" "[I"]
def wsX4_adopt_r3 : List Cond := [Cond.fieldLink RX2 15 "TickFall$Links" "seconds" "[I", Cond.methodLink RX3 67 yX3_add, Cond.instanceMethod yX3_add, Cond.selects RX3 yX3_add yX3_add, Cond.code yX3_add cX3_add 6 none, Cond.fieldLink RX3 9 "TickFall$Rings" "lowest" "[I", Cond.fieldLink RX3 15 "TickFall$Rings" "between" "[I", Cond.fieldLink RX3 18 "TickFall$Rings" "highest" "[I", Cond.fieldLink RX3 21 "TickFall$Rings" "betweenSigns" "[I", Cond.fieldLink RX3 24 "TickFall$Rings" "highestSigns" "[I", Cond.fieldLink RX3 27 "TickFall$Rings" "sums" "[I", Cond.methodLink RX3 71 yX2_signBehind, Cond.instanceMethod yX2_signBehind, Cond.selects RX2 yX2_signBehind yX2_signBehind, Cond.code yX2_signBehind cX2_signBehind 3 (some .int), Cond.methodLink RX3 75 yX2_around, Cond.instanceMethod yX2_around, Cond.selects RX2 yX2_around yX2_around, Cond.code yX2_around cX2_around 5 (some .int), Cond.methodLink RX2 48 yX2_correctedOf, Cond.instanceMethod yX2_correctedOf, Cond.selects RX2 yX2_correctedOf yX2_correctedOf, Cond.code yX2_correctedOf cX2_correctedOf 3 (some .int), Cond.fieldLink RX2 32 "TickFall$Links" "raw" "[[I"]
def wsX4_adopt_r4 : List Cond := [Cond.fieldLink RX2 35 "TickFall$Links" "offsets" "[[I", Cond.methodLink RX2 55 yX2_signBehind, Cond.methodLink RX4 267 yX3_countOpen, Cond.instanceMethod yX3_countOpen, Cond.selects RX3 yX3_countOpen yX3_countOpen, Cond.code yX3_countOpen cX3_countOpen 4 (some .int), Cond.methodLink RX3 79 Lib.Math.abs.name, Cond.static Lib.Math.abs.name, Cond.initialized "java/lang/Math", Cond.code Lib.Math.abs.name Lib.Math.abs.code 1 (some .int)]
def wsX4_adopt : List Cond := .code yX4_adopt cX4_adopt 1 (some .boolean) :: ((wsX4_adopt_r1 ++ (wsX4_adopt_r2 ++ (wsX4_adopt_r3 ++ wsX4_adopt_r4))) ++ wsX40 ++ wsX30 ++ wsX20 ++ (vx_atS RX4 78 "java/lang/IllegalStateException" ["java/lang/RuntimeException", "java/lang/Exception"]).filter goodWord)
def wsX4_day : List Cond := .code yX4_day cX4_day 1 (some .int) :: ([.fieldLink RX4 45 "TickFall" "today" "I"] ++ wsX40)
def wsX4_of_r1 : List Cond := [Cond.classLink RX4 87 "java/lang/IndexOutOfBoundsException", Cond.initialized "java/lang/IndexOutOfBoundsException", Cond.classLink RX4 63 "java/lang/IllegalArgumentException", Cond.initialized "java/lang/IllegalArgumentException", Cond.fieldLink RX4 10 "TickFall" "clocks" "LTickFall$Clocks;", Cond.methodLink RX4 83 yX1_has, Cond.instanceMethod yX1_has, Cond.selects RX1 yX1_has yX1_has, Cond.initialized RX1, Cond.code yX1_has cX1_has 2 (some .boolean), Cond.fieldLink RX1 27 "TickFall$Clocks" "count" "I", Cond.methodLink RX4 156 yX1_phaseOf, Cond.instanceMethod yX1_phaseOf, Cond.selects RX1 yX1_phaseOf yX1_phaseOf, Cond.code yX1_phaseOf cX1_phaseOf 2 (some .int), Cond.fieldLink RX1 24 "TickFall$Clocks" "phases" "[I", Cond.methodLink RX4 159 yX1_rateOf, Cond.instanceMethod yX1_rateOf, Cond.selects RX1 yX1_rateOf yX1_rateOf, Cond.code yX1_rateOf cX1_rateOf 2 (some .int), Cond.fieldLink RX1 9 "TickFall$Clocks" "rates" "[I", Cond.methodLink RX4 162 yX1_heightOf, Cond.instanceMethod yX1_heightOf, Cond.selects RX1 yX1_heightOf yX1_heightOf]
def wsX4_of_r2 : List Cond := [Cond.code yX1_heightOf cX1_heightOf 2 (some .int), Cond.fieldLink RX1 21 "TickFall$Clocks" "heights" "[I"]
def wsX4_of : List Cond := .code yX4_of cX4_of 3 (some .int) :: ((wsX4_of_r1 ++ wsX4_of_r2) ++ wsX40 ++ wsX10 ++ (vx_atS RX4 91 "java/lang/IndexOutOfBoundsException" ["java/lang/RuntimeException", "java/lang/Exception"]).filter goodWord ++ (vx_atS RX4 67 "java/lang/IllegalArgumentException" ["java/lang/RuntimeException", "java/lang/Exception"]).filter goodWord)
def wsX4_hasPassed : List Cond := .code yX4_hasPassed cX4_hasPassed 2 (some .boolean) :: ([.fieldLink RX4 45 "TickFall" "today" "I", .methodLink RX4 59 yX4_isWithin, .static yX4_isWithin, .initialized RX4, .code yX4_isWithin cX4_isWithin 3 (some .boolean)] ++ wsX40)
def wsX4_hasMeasured : List Cond := .code yX4_hasMeasured cX4_hasMeasured 3 (some .boolean) :: ([.fieldLink RX4 19 "TickFall" "links" "LTickFall$Links;", .methodLink RX4 196 yX4_hasPassed, .instanceMethod yX4_hasPassed, .selects RX4 yX4_hasPassed yX4_hasPassed, .initialized RX4, .code yX4_hasPassed cX4_hasPassed 2 (some .boolean), .fieldLink RX4 45 "TickFall" "today" "I", .methodLink RX4 59 yX4_isWithin, .static yX4_isWithin, .code yX4_isWithin cX4_isWithin 3 (some .boolean), .methodLink RX4 112 yX2_has, .instanceMethod yX2_has, .selects RX2 yX2_has yX2_has, .initialized RX2, .code yX2_has cX2_has 2 (some .boolean), .fieldLink RX2 38 "TickFall$Links" "count" "I", .methodLink RX4 222 yX2_isLaidBefore, .instanceMethod yX2_isLaidBefore, .selects RX2 yX2_isLaidBefore yX2_isLaidBefore, .code yX2_isLaidBefore cX2_isLaidBefore 3 (some .boolean), .fieldLink RX2 24 "TickFall$Links" "laidOn" "[I"] ++ wsX40 ++ wsX20)
def wsX4_measured_r1 : List Cond := [Cond.classLink RX4 87 "java/lang/IndexOutOfBoundsException", Cond.initialized "java/lang/IndexOutOfBoundsException", Cond.fieldLink RX4 19 "TickFall" "links" "LTickFall$Links;", Cond.methodLink RX4 167 yX4_hasMeasured, Cond.instanceMethod yX4_hasMeasured, Cond.selects RX4 yX4_hasMeasured yX4_hasMeasured, Cond.initialized RX4, Cond.code yX4_hasMeasured cX4_hasMeasured 3 (some .boolean), Cond.methodLink RX4 196 yX4_hasPassed, Cond.instanceMethod yX4_hasPassed, Cond.selects RX4 yX4_hasPassed yX4_hasPassed, Cond.code yX4_hasPassed cX4_hasPassed 2 (some .boolean), Cond.fieldLink RX4 45 "TickFall" "today" "I", Cond.methodLink RX4 59 yX4_isWithin, Cond.static yX4_isWithin, Cond.code yX4_isWithin cX4_isWithin 3 (some .boolean), Cond.methodLink RX4 112 yX2_has, Cond.instanceMethod yX2_has, Cond.selects RX2 yX2_has yX2_has, Cond.initialized RX2, Cond.code yX2_has cX2_has 2 (some .boolean), Cond.fieldLink RX2 38 "TickFall$Links" "count" "I", Cond.methodLink RX4 222 yX2_isLaidBefore, Cond.instanceMethod yX2_isLaidBefore]
def wsX4_measured_r2 : List Cond := [Cond.selects RX2 yX2_isLaidBefore yX2_isLaidBefore, Cond.code yX2_isLaidBefore cX2_isLaidBefore 3 (some .boolean), Cond.fieldLink RX2 24 "TickFall$Links" "laidOn" "[I", Cond.methodLink RX4 172 yX2_correctedOf, Cond.instanceMethod yX2_correctedOf, Cond.selects RX2 yX2_correctedOf yX2_correctedOf, Cond.code yX2_correctedOf cX2_correctedOf 3 (some .int), Cond.fieldLink RX2 32 "TickFall$Links" "raw" "[[I", Cond.fieldLink RX2 35 "TickFall$Links" "offsets" "[[I", Cond.methodLink RX4 175 yX2_rawOf, Cond.instanceMethod yX2_rawOf, Cond.selects RX2 yX2_rawOf yX2_rawOf, Cond.code yX2_rawOf cX2_rawOf 3 (some .int)]
def wsX4_measured : List Cond := .code yX4_measured cX4_measured 4 (some .int) :: ((wsX4_measured_r1 ++ wsX4_measured_r2) ++ wsX40 ++ wsX20 ++ (vx_atS RX4 91 "java/lang/IndexOutOfBoundsException" ["java/lang/RuntimeException", "java/lang/Exception"]).filter goodWord)
def wsX4_closes_r1 : List Cond := [Cond.classLink RX4 87 "java/lang/IndexOutOfBoundsException", Cond.initialized "java/lang/IndexOutOfBoundsException", Cond.classLink RX4 63 "java/lang/IllegalArgumentException", Cond.initialized "java/lang/IllegalArgumentException", Cond.fieldLink RX4 19 "TickFall" "links" "LTickFall$Links;", Cond.methodLink RX4 185 Lib.Math.min.name, Cond.static Lib.Math.min.name, Cond.initialized "java/lang/Math", Cond.code Lib.Math.min.name Lib.Math.min.code 2 (some .int), Cond.methodLink RX4 190 Lib.Math.max.name, Cond.static Lib.Math.max.name, Cond.code Lib.Math.max.name Lib.Math.max.code 2 (some .int), Cond.methodLink RX4 167 yX4_hasMeasured, Cond.instanceMethod yX4_hasMeasured, Cond.selects RX4 yX4_hasMeasured yX4_hasMeasured, Cond.initialized RX4, Cond.code yX4_hasMeasured cX4_hasMeasured 3 (some .boolean), Cond.methodLink RX4 196 yX4_hasPassed, Cond.instanceMethod yX4_hasPassed, Cond.selects RX4 yX4_hasPassed yX4_hasPassed, Cond.code yX4_hasPassed cX4_hasPassed 2 (some .boolean), Cond.fieldLink RX4 45 "TickFall" "today" "I", Cond.methodLink RX4 59 yX4_isWithin, Cond.static yX4_isWithin]
def wsX4_closes_r2 : List Cond := [Cond.code yX4_isWithin cX4_isWithin 3 (some .boolean), Cond.methodLink RX4 112 yX2_has, Cond.instanceMethod yX2_has, Cond.selects RX2 yX2_has yX2_has, Cond.initialized RX2, Cond.code yX2_has cX2_has 2 (some .boolean), Cond.fieldLink RX2 38 "TickFall$Links" "count" "I", Cond.methodLink RX4 222 yX2_isLaidBefore, Cond.instanceMethod yX2_isLaidBefore, Cond.selects RX2 yX2_isLaidBefore yX2_isLaidBefore, Cond.code yX2_isLaidBefore cX2_isLaidBefore 3 (some .boolean), Cond.fieldLink RX2 24 "TickFall$Links" "laidOn" "[I", Cond.methodLink RX4 180 yX2_areRing, Cond.instanceMethod yX2_areRing, Cond.selects RX2 yX2_areRing yX2_areRing, Cond.code yX2_areRing cX2_areRing 4 (some .boolean), Cond.methodLink RX2 52 yX2_bothBits, Cond.instanceMethod yX2_bothBits, Cond.selects RX2 yX2_bothBits yX2_bothBits, Cond.code yX2_bothBits cX2_bothBits 2 (some .int), Cond.fieldLink RX2 9 "TickFall$Links" "firsts" "[I", Cond.fieldLink RX2 15 "TickFall$Links" "seconds" "[I", Cond.methodLink RX4 193 yX2_around, Cond.instanceMethod yX2_around]
def wsX4_closes_r3 : List Cond := [Cond.selects RX2 yX2_around yX2_around, Cond.code yX2_around cX2_around 5 (some .int), Cond.methodLink RX2 48 yX2_correctedOf, Cond.instanceMethod yX2_correctedOf, Cond.selects RX2 yX2_correctedOf yX2_correctedOf, Cond.code yX2_correctedOf cX2_correctedOf 3 (some .int), Cond.fieldLink RX2 32 "TickFall$Links" "raw" "[[I", Cond.fieldLink RX2 35 "TickFall$Links" "offsets" "[[I", Cond.methodLink RX2 55 yX2_signBehind, Cond.instanceMethod yX2_signBehind, Cond.selects RX2 yX2_signBehind yX2_signBehind, Cond.code yX2_signBehind cX2_signBehind 3 (some .int)]
def wsX4_closes : List Cond := .code yX4_closes cX4_closes 8 (some .int) :: ((wsX4_closes_r1 ++ (wsX4_closes_r2 ++ wsX4_closes_r3)) ++ wsX40 ++ wsX20 ++ (vx_atS RX4 91 "java/lang/IndexOutOfBoundsException" ["java/lang/RuntimeException", "java/lang/Exception"]).filter goodWord ++ (vx_atS RX4 67 "java/lang/IllegalArgumentException" ["java/lang/RuntimeException", "java/lang/Exception"]).filter goodWord)
def wsX4_open_r1 : List Cond := [Cond.classLink RX4 87 "java/lang/IndexOutOfBoundsException", Cond.initialized "java/lang/IndexOutOfBoundsException", Cond.methodLink RX4 196 yX4_hasPassed, Cond.instanceMethod yX4_hasPassed, Cond.selects RX4 yX4_hasPassed yX4_hasPassed, Cond.initialized RX4, Cond.code yX4_hasPassed cX4_hasPassed 2 (some .boolean), Cond.fieldLink RX4 45 "TickFall" "today" "I", Cond.methodLink RX4 59 yX4_isWithin, Cond.static yX4_isWithin, Cond.code yX4_isWithin cX4_isWithin 3 (some .boolean), Cond.methodLink RX4 153 yX4_openRings, Cond.instanceMethod yX4_openRings, Cond.selects RX4 yX4_openRings yX4_openRings, Cond.code yX4_openRings cX4_openRings 2 (some .int), Cond.fieldLink RX4 33 "TickFall" "rings" "LTickFall$Rings;", Cond.fieldLink RX4 19 "TickFall" "links" "LTickFall$Links;", Cond.fieldLink RX4 49 "TickFall" "doubt" "I", Cond.methodLink RX4 201 yX3_gather, Cond.instanceMethod yX3_gather, Cond.selects RX3 yX3_gather yX3_gather, Cond.initialized RX3, Cond.code yX3_gather cX3_gather 4 none, Cond.fieldLink RX3 30 "TickFall$Rings" "count" "I"]
def wsX4_open_r2 : List Cond := [Cond.fieldLink RX3 34 "TickFall$Rings" "isInRing" "[Z", Cond.methodLink RX3 50 yX2_count, Cond.instanceMethod yX2_count, Cond.selects RX2 yX2_count yX2_count, Cond.initialized RX2, Cond.code yX2_count cX2_count 1 (some .int), Cond.fieldLink RX2 38 "TickFall$Links" "count" "I", Cond.methodLink RX3 55 yX2_isLaidBefore, Cond.instanceMethod yX2_isLaidBefore, Cond.selects RX2 yX2_isLaidBefore yX2_isLaidBefore, Cond.code yX2_isLaidBefore cX2_isLaidBefore 3 (some .boolean), Cond.fieldLink RX2 24 "TickFall$Links" "laidOn" "[I", Cond.methodLink RX3 59 yX3_gatherFrom, Cond.instanceMethod yX3_gatherFrom, Cond.selects RX3 yX3_gatherFrom yX3_gatherFrom, Cond.code yX3_gatherFrom cX3_gatherFrom 6 none, Cond.methodLink RX3 63 yX2_areRing, Cond.instanceMethod yX2_areRing, Cond.selects RX2 yX2_areRing yX2_areRing, Cond.code yX2_areRing cX2_areRing 4 (some .boolean), Cond.methodLink RX2 52 yX2_bothBits, Cond.instanceMethod yX2_bothBits, Cond.selects RX2 yX2_bothBits yX2_bothBits, Cond.code yX2_bothBits cX2_bothBits 2 (some .int)]
def wsX4_open_r3 : List Cond := [Cond.fieldLink RX2 9 "TickFall$Links" "firsts" "[I", Cond.fieldLink RX2 15 "TickFall$Links" "seconds" "[I", Cond.methodLink RX3 67 yX3_add, Cond.instanceMethod yX3_add, Cond.selects RX3 yX3_add yX3_add, Cond.code yX3_add cX3_add 6 none, Cond.fieldLink RX3 9 "TickFall$Rings" "lowest" "[I", Cond.fieldLink RX3 15 "TickFall$Rings" "between" "[I", Cond.fieldLink RX3 18 "TickFall$Rings" "highest" "[I", Cond.fieldLink RX3 21 "TickFall$Rings" "betweenSigns" "[I", Cond.fieldLink RX3 24 "TickFall$Rings" "highestSigns" "[I", Cond.fieldLink RX3 27 "TickFall$Rings" "sums" "[I", Cond.methodLink RX3 71 yX2_signBehind, Cond.instanceMethod yX2_signBehind, Cond.selects RX2 yX2_signBehind yX2_signBehind, Cond.code yX2_signBehind cX2_signBehind 3 (some .int), Cond.methodLink RX3 75 yX2_around, Cond.instanceMethod yX2_around, Cond.selects RX2 yX2_around yX2_around, Cond.code yX2_around cX2_around 5 (some .int), Cond.methodLink RX2 48 yX2_correctedOf, Cond.instanceMethod yX2_correctedOf, Cond.selects RX2 yX2_correctedOf yX2_correctedOf, Cond.code yX2_correctedOf cX2_correctedOf 3 (some .int)]
def wsX4_open_r4 : List Cond := [Cond.fieldLink RX2 32 "TickFall$Links" "raw" "[[I", Cond.fieldLink RX2 35 "TickFall$Links" "offsets" "[[I", Cond.methodLink RX2 55 yX2_signBehind, Cond.methodLink RX4 267 yX3_countOpen, Cond.instanceMethod yX3_countOpen, Cond.selects RX3 yX3_countOpen yX3_countOpen, Cond.code yX3_countOpen cX3_countOpen 4 (some .int), Cond.methodLink RX3 79 Lib.Math.abs.name, Cond.static Lib.Math.abs.name, Cond.initialized "java/lang/Math", Cond.code Lib.Math.abs.name Lib.Math.abs.code 1 (some .int)]
def wsX4_open : List Cond := .code yX4_open cX4_open 2 (some .int) :: ((wsX4_open_r1 ++ (wsX4_open_r2 ++ (wsX4_open_r3 ++ wsX4_open_r4))) ++ wsX40 ++ wsX30 ++ wsX20 ++ (vx_atS RX4 91 "java/lang/IndexOutOfBoundsException" ["java/lang/RuntimeException", "java/lang/Exception"]).filter goodWord)
def wsX4_slips_r1 : List Cond := [Cond.classLink RX4 87 "java/lang/IndexOutOfBoundsException", Cond.initialized "java/lang/IndexOutOfBoundsException", Cond.fieldLink RX4 33 "TickFall" "rings" "LTickFall$Rings;", Cond.fieldLink RX4 19 "TickFall" "links" "LTickFall$Links;", Cond.fieldLink RX4 49 "TickFall" "doubt" "I", Cond.methodLink RX4 196 yX4_hasPassed, Cond.instanceMethod yX4_hasPassed, Cond.selects RX4 yX4_hasPassed yX4_hasPassed, Cond.initialized RX4, Cond.code yX4_hasPassed cX4_hasPassed 2 (some .boolean), Cond.fieldLink RX4 45 "TickFall" "today" "I", Cond.methodLink RX4 59 yX4_isWithin, Cond.static yX4_isWithin, Cond.code yX4_isWithin cX4_isWithin 3 (some .boolean), Cond.methodLink RX4 201 yX3_gather, Cond.instanceMethod yX3_gather, Cond.selects RX3 yX3_gather yX3_gather, Cond.initialized RX3, Cond.code yX3_gather cX3_gather 4 none, Cond.fieldLink RX3 30 "TickFall$Rings" "count" "I", Cond.fieldLink RX3 34 "TickFall$Rings" "isInRing" "[Z", Cond.methodLink RX3 50 yX2_count, Cond.instanceMethod yX2_count, Cond.selects RX2 yX2_count yX2_count]
def wsX4_slips_r2 : List Cond := [Cond.initialized RX2, Cond.code yX2_count cX2_count 1 (some .int), Cond.fieldLink RX2 38 "TickFall$Links" "count" "I", Cond.methodLink RX3 55 yX2_isLaidBefore, Cond.instanceMethod yX2_isLaidBefore, Cond.selects RX2 yX2_isLaidBefore yX2_isLaidBefore, Cond.code yX2_isLaidBefore cX2_isLaidBefore 3 (some .boolean), Cond.fieldLink RX2 24 "TickFall$Links" "laidOn" "[I", Cond.methodLink RX3 59 yX3_gatherFrom, Cond.instanceMethod yX3_gatherFrom, Cond.selects RX3 yX3_gatherFrom yX3_gatherFrom, Cond.code yX3_gatherFrom cX3_gatherFrom 6 none, Cond.methodLink RX3 63 yX2_areRing, Cond.instanceMethod yX2_areRing, Cond.selects RX2 yX2_areRing yX2_areRing, Cond.code yX2_areRing cX2_areRing 4 (some .boolean), Cond.methodLink RX2 52 yX2_bothBits, Cond.instanceMethod yX2_bothBits, Cond.selects RX2 yX2_bothBits yX2_bothBits, Cond.code yX2_bothBits cX2_bothBits 2 (some .int), Cond.fieldLink RX2 9 "TickFall$Links" "firsts" "[I", Cond.fieldLink RX2 15 "TickFall$Links" "seconds" "[I", Cond.methodLink RX3 67 yX3_add, Cond.instanceMethod yX3_add]
def wsX4_slips_r3 : List Cond := [Cond.selects RX3 yX3_add yX3_add, Cond.code yX3_add cX3_add 6 none, Cond.fieldLink RX3 9 "TickFall$Rings" "lowest" "[I", Cond.fieldLink RX3 15 "TickFall$Rings" "between" "[I", Cond.fieldLink RX3 18 "TickFall$Rings" "highest" "[I", Cond.fieldLink RX3 21 "TickFall$Rings" "betweenSigns" "[I", Cond.fieldLink RX3 24 "TickFall$Rings" "highestSigns" "[I", Cond.fieldLink RX3 27 "TickFall$Rings" "sums" "[I", Cond.methodLink RX3 71 yX2_signBehind, Cond.instanceMethod yX2_signBehind, Cond.selects RX2 yX2_signBehind yX2_signBehind, Cond.code yX2_signBehind cX2_signBehind 3 (some .int), Cond.methodLink RX3 75 yX2_around, Cond.instanceMethod yX2_around, Cond.selects RX2 yX2_around yX2_around, Cond.code yX2_around cX2_around 5 (some .int), Cond.methodLink RX2 48 yX2_correctedOf, Cond.instanceMethod yX2_correctedOf, Cond.selects RX2 yX2_correctedOf yX2_correctedOf, Cond.code yX2_correctedOf cX2_correctedOf 3 (some .int), Cond.fieldLink RX2 32 "TickFall$Links" "raw" "[[I", Cond.fieldLink RX2 35 "TickFall$Links" "offsets" "[[I", Cond.methodLink RX2 55 yX2_signBehind, Cond.methodLink RX4 104 yX2_count]
def wsX4_slips_r4 : List Cond := [Cond.methodLink RX4 205 yX3_findSlips, Cond.instanceMethod yX3_findSlips, Cond.selects RX3 yX3_findSlips yX3_findSlips, Cond.code yX3_findSlips cX3_findSlips 3 (some .int), Cond.fieldLink RX3 41 "TickFall$Rings" "doubt" "I", Cond.fieldLink RX3 44 "TickFall$Rings" "fewest" "I", Cond.fieldLink RX3 47 "TickFall$Rings" "found" "I", Cond.methodLink RX3 85 yX3_tryFrom, Cond.static yX3_tryFrom, Cond.code yX3_tryFrom cX3_tryFrom 6 none, Cond.fieldLink RX3 38 "TickFall$Rings" "taken" "[I", Cond.methodLink RX3 79 Lib.Math.abs.name, Cond.static Lib.Math.abs.name, Cond.initialized "java/lang/Math", Cond.code Lib.Math.abs.name Lib.Math.abs.code 1 (some .int), Cond.methodLink RX3 89 yX3_areClosedAbove, Cond.instanceMethod yX3_areClosedAbove, Cond.selects RX3 yX3_areClosedAbove yX3_areClosedAbove, Cond.code yX3_areClosedAbove cX3_areClosedAbove 3 (some .boolean), Cond.methodLink RX3 93 yX3_takenOff, Cond.instanceMethod yX3_takenOff, Cond.selects RX3 yX3_takenOff yX3_takenOff, Cond.code yX3_takenOff cX3_takenOff 2 (some .int)]
def wsX4_slips : List Cond := .code yX4_slips cX4_slips 2 (some .int) :: ((wsX4_slips_r1 ++ (wsX4_slips_r2 ++ (wsX4_slips_r3 ++ wsX4_slips_r4))) ++ wsX40 ++ wsX30 ++ wsX20 ++ (vx_atS RX4 91 "java/lang/IndexOutOfBoundsException" ["java/lang/RuntimeException", "java/lang/Exception"]).filter goodWord)
def wsX4_mean_r1 : List Cond := [Cond.classLink RX4 87 "java/lang/IndexOutOfBoundsException", Cond.initialized "java/lang/IndexOutOfBoundsException", Cond.fieldLink RX4 10 "TickFall" "clocks" "LTickFall$Clocks;", Cond.methodLink RX4 196 yX4_hasPassed, Cond.instanceMethod yX4_hasPassed, Cond.selects RX4 yX4_hasPassed yX4_hasPassed, Cond.initialized RX4, Cond.code yX4_hasPassed cX4_hasPassed 2 (some .boolean), Cond.fieldLink RX4 45 "TickFall" "today" "I", Cond.methodLink RX4 59 yX4_isWithin, Cond.static yX4_isWithin, Cond.code yX4_isWithin cX4_isWithin 3 (some .boolean), Cond.methodLink RX4 70 yX1_count, Cond.instanceMethod yX1_count, Cond.selects RX1 yX1_count yX1_count, Cond.initialized RX1, Cond.code yX1_count cX1_count 1 (some .int), Cond.fieldLink RX1 27 "TickFall$Clocks" "count" "I", Cond.methodLink RX4 210 yX4_meanOrZero, Cond.instanceMethod yX4_meanOrZero, Cond.selects RX4 yX4_meanOrZero yX4_meanOrZero, Cond.code yX4_meanOrZero cX4_meanOrZero 9 (some .int), Cond.fieldLink RX4 19 "TickFall" "links" "LTickFall$Links;", Cond.methodLink RX4 94 yX1_weightOf]
def wsX4_mean_r2 : List Cond := [Cond.instanceMethod yX1_weightOf, Cond.selects RX1 yX1_weightOf yX1_weightOf, Cond.code yX1_weightOf cX1_weightOf 2 (some .int), Cond.fieldLink RX1 18 "TickFall$Clocks" "weights" "[I", Cond.methodLink RX4 104 yX2_count, Cond.instanceMethod yX2_count, Cond.selects RX2 yX2_count yX2_count, Cond.initialized RX2, Cond.code yX2_count cX2_count 1 (some .int), Cond.fieldLink RX2 38 "TickFall$Links" "count" "I", Cond.methodLink RX4 270 yX2_otherThanZero, Cond.instanceMethod yX2_otherThanZero, Cond.selects RX2 yX2_otherThanZero yX2_otherThanZero, Cond.code yX2_otherThanZero cX2_otherThanZero 2 (some .int), Cond.fieldLink RX2 9 "TickFall$Links" "firsts" "[I", Cond.fieldLink RX2 15 "TickFall$Links" "seconds" "[I", Cond.methodLink RX4 222 yX2_isLaidBefore, Cond.instanceMethod yX2_isLaidBefore, Cond.selects RX2 yX2_isLaidBefore yX2_isLaidBefore, Cond.code yX2_isLaidBefore cX2_isLaidBefore 3 (some .boolean), Cond.fieldLink RX2 24 "TickFall$Links" "laidOn" "[I", Cond.methodLink RX4 273 yX2_aheadOfZero, Cond.instanceMethod yX2_aheadOfZero, Cond.selects RX2 yX2_aheadOfZero yX2_aheadOfZero]
def wsX4_mean_r3 : List Cond := [Cond.code yX2_aheadOfZero cX2_aheadOfZero 4 (some .int), Cond.methodLink RX2 48 yX2_correctedOf, Cond.instanceMethod yX2_correctedOf, Cond.selects RX2 yX2_correctedOf yX2_correctedOf, Cond.code yX2_correctedOf cX2_correctedOf 3 (some .int), Cond.fieldLink RX2 32 "TickFall$Links" "raw" "[[I", Cond.fieldLink RX2 35 "TickFall$Links" "offsets" "[[I"]
def wsX4_mean : List Cond := .code yX4_mean cX4_mean 2 (some .int) :: ((wsX4_mean_r1 ++ (wsX4_mean_r2 ++ wsX4_mean_r3)) ++ wsX40 ++ wsX10 ++ wsX20 ++ (vx_atS RX4 91 "java/lang/IndexOutOfBoundsException" ["java/lang/RuntimeException", "java/lang/Exception"]).filter goodWord)
def wsX4_steeredAnew_r1 : List Cond := [Cond.methodLink RX4 242 yX4_steered, Cond.instanceMethod yX4_steered, Cond.selects RX4 yX4_steered yX4_steered, Cond.initialized RX4, Cond.code yX4_steered cX4_steered 3 (some .int), Cond.fieldLink RX4 52 "TickFall" "step" "I", Cond.methodLink RX4 210 yX4_meanOrZero, Cond.instanceMethod yX4_meanOrZero, Cond.selects RX4 yX4_meanOrZero yX4_meanOrZero, Cond.code yX4_meanOrZero cX4_meanOrZero 9 (some .int), Cond.fieldLink RX4 10 "TickFall" "clocks" "LTickFall$Clocks;", Cond.fieldLink RX4 19 "TickFall" "links" "LTickFall$Links;", Cond.methodLink RX4 70 yX1_count, Cond.instanceMethod yX1_count, Cond.selects RX1 yX1_count yX1_count, Cond.initialized RX1, Cond.code yX1_count cX1_count 1 (some .int), Cond.fieldLink RX1 27 "TickFall$Clocks" "count" "I", Cond.methodLink RX4 94 yX1_weightOf, Cond.instanceMethod yX1_weightOf, Cond.selects RX1 yX1_weightOf yX1_weightOf, Cond.code yX1_weightOf cX1_weightOf 2 (some .int), Cond.fieldLink RX1 18 "TickFall$Clocks" "weights" "[I", Cond.methodLink RX4 104 yX2_count]
def wsX4_steeredAnew_r2 : List Cond := [Cond.instanceMethod yX2_count, Cond.selects RX2 yX2_count yX2_count, Cond.initialized RX2, Cond.code yX2_count cX2_count 1 (some .int), Cond.fieldLink RX2 38 "TickFall$Links" "count" "I", Cond.methodLink RX4 270 yX2_otherThanZero, Cond.instanceMethod yX2_otherThanZero, Cond.selects RX2 yX2_otherThanZero yX2_otherThanZero, Cond.code yX2_otherThanZero cX2_otherThanZero 2 (some .int), Cond.fieldLink RX2 9 "TickFall$Links" "firsts" "[I", Cond.fieldLink RX2 15 "TickFall$Links" "seconds" "[I", Cond.methodLink RX4 222 yX2_isLaidBefore, Cond.instanceMethod yX2_isLaidBefore, Cond.selects RX2 yX2_isLaidBefore yX2_isLaidBefore, Cond.code yX2_isLaidBefore cX2_isLaidBefore 3 (some .boolean), Cond.fieldLink RX2 24 "TickFall$Links" "laidOn" "[I", Cond.methodLink RX4 273 yX2_aheadOfZero, Cond.instanceMethod yX2_aheadOfZero, Cond.selects RX2 yX2_aheadOfZero yX2_aheadOfZero, Cond.code yX2_aheadOfZero cX2_aheadOfZero 4 (some .int), Cond.methodLink RX2 48 yX2_correctedOf, Cond.instanceMethod yX2_correctedOf, Cond.selects RX2 yX2_correctedOf yX2_correctedOf, Cond.code yX2_correctedOf cX2_correctedOf 3 (some .int)]
def wsX4_steeredAnew_r3 : List Cond := [Cond.fieldLink RX2 32 "TickFall$Links" "raw" "[[I", Cond.fieldLink RX2 35 "TickFall$Links" "offsets" "[[I", Cond.methodLink RX4 276 yX4_held, Cond.static yX4_held, Cond.code yX4_held cX4_held 2 (some .int), Cond.methodLink RX4 185 Lib.Math.min.name, Cond.static Lib.Math.min.name, Cond.initialized "java/lang/Math", Cond.code Lib.Math.min.name Lib.Math.min.code 2 (some .int), Cond.methodLink RX4 190 Lib.Math.max.name, Cond.static Lib.Math.max.name, Cond.code Lib.Math.max.name Lib.Math.max.code 2 (some .int)]
def wsX4_steeredAnew : List Cond := .code yX4_steeredAnew cX4_steeredAnew 4 (some .int) :: ((wsX4_steeredAnew_r1 ++ (wsX4_steeredAnew_r2 ++ wsX4_steeredAnew_r3)) ++ wsX40 ++ wsX10 ++ wsX20)
def wsX4_published_r1 : List Cond := [Cond.classLink RX4 87 "java/lang/IndexOutOfBoundsException", Cond.initialized "java/lang/IndexOutOfBoundsException", Cond.fieldLink RX4 37 "TickFall" "steeredTimes" "[I", Cond.methodLink RX4 196 yX4_hasPassed, Cond.instanceMethod yX4_hasPassed, Cond.selects RX4 yX4_hasPassed yX4_hasPassed, Cond.initialized RX4, Cond.code yX4_hasPassed cX4_hasPassed 2 (some .boolean), Cond.fieldLink RX4 45 "TickFall" "today" "I", Cond.methodLink RX4 59 yX4_isWithin, Cond.static yX4_isWithin, Cond.code yX4_isWithin cX4_isWithin 3 (some .boolean), Cond.methodLink RX4 213 yX4_steeredAnew, Cond.instanceMethod yX4_steeredAnew, Cond.selects RX4 yX4_steeredAnew yX4_steeredAnew, Cond.code yX4_steeredAnew cX4_steeredAnew 4 (some .int), Cond.methodLink RX4 242 yX4_steered, Cond.instanceMethod yX4_steered, Cond.selects RX4 yX4_steered yX4_steered, Cond.code yX4_steered cX4_steered 3 (some .int), Cond.fieldLink RX4 52 "TickFall" "step" "I", Cond.methodLink RX4 210 yX4_meanOrZero, Cond.instanceMethod yX4_meanOrZero, Cond.selects RX4 yX4_meanOrZero yX4_meanOrZero]
def wsX4_published_r2 : List Cond := [Cond.code yX4_meanOrZero cX4_meanOrZero 9 (some .int), Cond.fieldLink RX4 10 "TickFall" "clocks" "LTickFall$Clocks;", Cond.fieldLink RX4 19 "TickFall" "links" "LTickFall$Links;", Cond.methodLink RX4 70 yX1_count, Cond.instanceMethod yX1_count, Cond.selects RX1 yX1_count yX1_count, Cond.initialized RX1, Cond.code yX1_count cX1_count 1 (some .int), Cond.fieldLink RX1 27 "TickFall$Clocks" "count" "I", Cond.methodLink RX4 94 yX1_weightOf, Cond.instanceMethod yX1_weightOf, Cond.selects RX1 yX1_weightOf yX1_weightOf, Cond.code yX1_weightOf cX1_weightOf 2 (some .int), Cond.fieldLink RX1 18 "TickFall$Clocks" "weights" "[I", Cond.methodLink RX4 104 yX2_count, Cond.instanceMethod yX2_count, Cond.selects RX2 yX2_count yX2_count, Cond.initialized RX2, Cond.code yX2_count cX2_count 1 (some .int), Cond.fieldLink RX2 38 "TickFall$Links" "count" "I", Cond.methodLink RX4 270 yX2_otherThanZero, Cond.instanceMethod yX2_otherThanZero, Cond.selects RX2 yX2_otherThanZero yX2_otherThanZero, Cond.code yX2_otherThanZero cX2_otherThanZero 2 (some .int)]
def wsX4_published_r3 : List Cond := [Cond.fieldLink RX2 9 "TickFall$Links" "firsts" "[I", Cond.fieldLink RX2 15 "TickFall$Links" "seconds" "[I", Cond.methodLink RX4 222 yX2_isLaidBefore, Cond.instanceMethod yX2_isLaidBefore, Cond.selects RX2 yX2_isLaidBefore yX2_isLaidBefore, Cond.code yX2_isLaidBefore cX2_isLaidBefore 3 (some .boolean), Cond.fieldLink RX2 24 "TickFall$Links" "laidOn" "[I", Cond.methodLink RX4 273 yX2_aheadOfZero, Cond.instanceMethod yX2_aheadOfZero, Cond.selects RX2 yX2_aheadOfZero yX2_aheadOfZero, Cond.code yX2_aheadOfZero cX2_aheadOfZero 4 (some .int), Cond.methodLink RX2 48 yX2_correctedOf, Cond.instanceMethod yX2_correctedOf, Cond.selects RX2 yX2_correctedOf yX2_correctedOf, Cond.code yX2_correctedOf cX2_correctedOf 3 (some .int), Cond.fieldLink RX2 32 "TickFall$Links" "raw" "[[I", Cond.fieldLink RX2 35 "TickFall$Links" "offsets" "[[I", Cond.methodLink RX4 276 yX4_held, Cond.static yX4_held, Cond.code yX4_held cX4_held 2 (some .int), Cond.methodLink RX4 185 Lib.Math.min.name, Cond.static Lib.Math.min.name, Cond.initialized "java/lang/Math", Cond.code Lib.Math.min.name Lib.Math.min.code 2 (some .int)]
def wsX4_published_r4 : List Cond := [Cond.methodLink RX4 190 Lib.Math.max.name, Cond.static Lib.Math.max.name, Cond.code Lib.Math.max.name Lib.Math.max.code 2 (some .int)]
def wsX4_published : List Cond := .code yX4_published cX4_published 3 (some .int) :: ((wsX4_published_r1 ++ (wsX4_published_r2 ++ (wsX4_published_r3 ++ wsX4_published_r4))) ++ wsX40 ++ wsX10 ++ wsX20 ++ (vx_atS RX4 91 "java/lang/IndexOutOfBoundsException" ["java/lang/RuntimeException", "java/lang/Exception"]).filter goodWord)
def wsX4_height_r1 : List Cond := [Cond.classLink RX4 87 "java/lang/IndexOutOfBoundsException", Cond.initialized "java/lang/IndexOutOfBoundsException", Cond.classLink RX4 63 "java/lang/IllegalArgumentException", Cond.initialized "java/lang/IllegalArgumentException", Cond.fieldLink RX4 19 "TickFall" "links" "LTickFall$Links;", Cond.constantLong RX4 220 (100), Cond.methodLink RX4 167 yX4_hasMeasured, Cond.instanceMethod yX4_hasMeasured, Cond.selects RX4 yX4_hasMeasured yX4_hasMeasured, Cond.initialized RX4, Cond.code yX4_hasMeasured cX4_hasMeasured 3 (some .boolean), Cond.methodLink RX4 196 yX4_hasPassed, Cond.instanceMethod yX4_hasPassed, Cond.selects RX4 yX4_hasPassed yX4_hasPassed, Cond.code yX4_hasPassed cX4_hasPassed 2 (some .boolean), Cond.fieldLink RX4 45 "TickFall" "today" "I", Cond.methodLink RX4 59 yX4_isWithin, Cond.static yX4_isWithin, Cond.code yX4_isWithin cX4_isWithin 3 (some .boolean), Cond.methodLink RX4 112 yX2_has, Cond.instanceMethod yX2_has, Cond.selects RX2 yX2_has yX2_has, Cond.initialized RX2, Cond.code yX2_has cX2_has 2 (some .boolean)]
def wsX4_height_r2 : List Cond := [Cond.fieldLink RX2 38 "TickFall$Links" "count" "I", Cond.methodLink RX4 222 yX2_isLaidBefore, Cond.instanceMethod yX2_isLaidBefore, Cond.selects RX2 yX2_isLaidBefore yX2_isLaidBefore, Cond.code yX2_isLaidBefore cX2_isLaidBefore 3 (some .boolean), Cond.fieldLink RX2 24 "TickFall$Links" "laidOn" "[I", Cond.methodLink RX4 172 yX2_correctedOf, Cond.instanceMethod yX2_correctedOf, Cond.selects RX2 yX2_correctedOf yX2_correctedOf, Cond.code yX2_correctedOf cX2_correctedOf 3 (some .int), Cond.fieldLink RX2 32 "TickFall$Links" "raw" "[[I", Cond.fieldLink RX2 35 "TickFall$Links" "offsets" "[[I"]
def wsX4_height : List Cond := .code yX4_height cX4_height 8 (some .int) :: ((wsX4_height_r1 ++ wsX4_height_r2) ++ wsX40 ++ wsX20 ++ (vx_atS RX4 91 "java/lang/IndexOutOfBoundsException" ["java/lang/RuntimeException", "java/lang/Exception"]).filter goodWord ++ (vx_atS RX4 67 "java/lang/IllegalArgumentException" ["java/lang/RuntimeException", "java/lang/Exception"]).filter goodWord)
def wsX4_events : List Cond := .code yX4_events cX4_events 1 (some .int) :: ([.fieldLink RX4 26 "TickFall" "agenda" "LTickFall$Agenda;", .methodLink RX4 119 yX0_count, .instanceMethod yX0_count, .selects RX0 yX0_count yX0_count, .initialized RX0, .code yX0_count cX0_count 1 (some .int), .fieldLink RX0 15 "TickFall$Agenda" "count" "I"] ++ wsX40 ++ wsX00)
def wsX5_init_r1 : List Cond := [Cond.methodLink RX5 1 objectInit, Cond.instanceMethod objectInit, Cond.code objectInit ⟨#[0xb1]⟩ 1 none, Cond.arrayClass .int, Cond.fieldLink RX5 7 "TickFallModel" "rate" "[I", Cond.fieldLink RX5 13 "TickFallModel" "drift" "[I", Cond.fieldLink RX5 16 "TickFallModel" "height" "[I", Cond.fieldLink RX5 19 "TickFallModel" "phase" "[I", Cond.fieldLink RX5 22 "TickFallModel" "weight" "[I", Cond.fieldLink RX5 25 "TickFallModel" "one" "[I", Cond.fieldLink RX5 28 "TickFallModel" "two" "[I", Cond.fieldLink RX5 31 "TickFallModel" "asymmetry" "[I", Cond.fieldLink RX5 34 "TickFallModel" "slipped" "[I", Cond.fieldLink RX5 37 "TickFallModel" "laid" "[I", Cond.fieldLink RX5 40 "TickFallModel" "counts" "[I", Cond.fieldLink RX5 43 "TickFallModel" "eventDay" "[I", Cond.fieldLink RX5 46 "TickFallModel" "eventKind" "[I", Cond.fieldLink RX5 49 "TickFallModel" "eventOf" "[I", Cond.fieldLink RX5 52 "TickFallModel" "amount" "[I", Cond.fieldLink RX5 55 "TickFallModel" "given" "[I", Cond.fieldLink RX5 58 "TickFallModel" "from" "[I", Cond.fieldLink RX5 61 "TickFallModel" "to" "[I", Cond.fieldLink RX5 64 "TickFallModel" "takes" "[I", Cond.fieldLink RX5 67 "TickFallModel" "told" "[I"]
def wsX5_init_r2 : List Cond := [Cond.arrayClass .boolean, Cond.fieldLink RX5 70 "TickFallModel" "isFor" "[Z", Cond.fieldLink RX5 74 "TickFallModel" "cycles" "[I", Cond.fieldLink RX5 77 "TickFallModel" "ringOf" "[I", Cond.fieldLink RX5 80 "TickFallModel" "sign" "[I", Cond.fieldLink RX5 83 "TickFallModel" "sum" "[I", Cond.fieldLink RX5 86 "TickFallModel" "doubt" "I", Cond.fieldLink RX5 90 "TickFallModel" "step" "I"]
def wsX5_init : List Cond := .code yX5_init cX5_init 1 none :: ((wsX5_init_r1 ++ wsX5_init_r2) ++ wsX50)
def wsX5_thrown : List Cond := .code yX5_thrown cX5_thrown 1 (some .int) :: ([.fieldLink RX5 93 "TickFallModel" "thrown" "I"] ++ wsX50)
def wsX5_in : List Cond := .code yX5_in cX5_in 3 (some .boolean) :: ([])
def wsX5_goes : List Cond := .code yX5_goes cX5_goes 4 (some .boolean) :: ([.fieldLink RX5 93 "TickFallModel" "thrown" "I"] ++ wsX50)
def wsX5_held : List Cond := .code yX5_held cX5_held 2 (some .int) :: ([])
def wsX5_isClock : List Cond := .code yX5_isClock cX5_isClock 2 (some .boolean) :: ([.fieldLink RX5 96 "TickFallModel" "clocks" "I", .methodLink RX5 99 yX5_in, .static yX5_in, .initialized RX5, .code yX5_in cX5_in 3 (some .boolean)] ++ wsX50)
def wsX5_isLink : List Cond := .code yX5_isLink cX5_isLink 2 (some .boolean) :: ([.fieldLink RX5 103 "TickFallModel" "links" "I", .methodLink RX5 99 yX5_in, .static yX5_in, .initialized RX5, .code yX5_in cX5_in 3 (some .boolean)] ++ wsX50)
def wsX5_isDay : List Cond := .code yX5_isDay cX5_isDay 2 (some .boolean) :: ([.fieldLink RX5 106 "TickFallModel" "day" "I", .methodLink RX5 99 yX5_in, .static yX5_in, .initialized RX5, .code yX5_in cX5_in 3 (some .boolean)] ++ wsX50)
def wsX5_clock : List Cond := .code yX5_clock cX5_clock 3 (some .int) :: ([.fieldLink RX5 96 "TickFallModel" "clocks" "I", .fieldLink RX5 7 "TickFallModel" "rate" "[I", .fieldLink RX5 16 "TickFallModel" "height" "[I", .fieldLink RX5 22 "TickFallModel" "weight" "[I", .methodLink RX5 99 yX5_in, .static yX5_in, .initialized RX5, .code yX5_in cX5_in 3 (some .boolean), .methodLink RX5 109 yX5_goes, .instanceMethod yX5_goes, .selects RX5 yX5_goes yX5_goes, .code yX5_goes cX5_goes 4 (some .boolean), .fieldLink RX5 93 "TickFallModel" "thrown" "I"] ++ wsX50)
def wsX5_tell : List Cond := .code yX5_tell cX5_tell 5 (some .int) :: ([.fieldLink RX5 22 "TickFallModel" "weight" "[I", .fieldLink RX5 13 "TickFallModel" "drift" "[I", .methodLink RX5 113 yX5_isClock, .instanceMethod yX5_isClock, .selects RX5 yX5_isClock yX5_isClock, .initialized RX5, .code yX5_isClock cX5_isClock 2 (some .boolean), .fieldLink RX5 96 "TickFallModel" "clocks" "I", .methodLink RX5 99 yX5_in, .static yX5_in, .code yX5_in cX5_in 3 (some .boolean), .methodLink RX5 109 yX5_goes, .instanceMethod yX5_goes, .selects RX5 yX5_goes yX5_goes, .code yX5_goes cX5_goes 4 (some .boolean), .fieldLink RX5 93 "TickFallModel" "thrown" "I"] ++ wsX50)
def wsX5_link : List Cond := .code yX5_link cX5_link 4 (some .int) :: ([.fieldLink RX5 103 "TickFallModel" "links" "I", .fieldLink RX5 25 "TickFallModel" "one" "[I", .fieldLink RX5 28 "TickFallModel" "two" "[I", .fieldLink RX5 31 "TickFallModel" "asymmetry" "[I", .fieldLink RX5 37 "TickFallModel" "laid" "[I", .fieldLink RX5 106 "TickFallModel" "day" "I", .methodLink RX5 113 yX5_isClock, .instanceMethod yX5_isClock, .selects RX5 yX5_isClock yX5_isClock, .initialized RX5, .code yX5_isClock cX5_isClock 2 (some .boolean), .fieldLink RX5 96 "TickFallModel" "clocks" "I", .methodLink RX5 99 yX5_in, .static yX5_in, .code yX5_in cX5_in 3 (some .boolean), .methodLink RX5 109 yX5_goes, .instanceMethod yX5_goes, .selects RX5 yX5_goes yX5_goes, .code yX5_goes cX5_goes 4 (some .boolean), .fieldLink RX5 93 "TickFallModel" "thrown" "I"] ++ wsX50)
def wsX5_isAmount : List Cond := .code yX5_isAmount cX5_isAmount 2 (some .boolean) :: ([.methodLink RX5 99 yX5_in, .static yX5_in, .initialized RX5, .code yX5_in cX5_in 3 (some .boolean)])
def wsX5_event_r1 : List Cond := [Cond.fieldLink RX5 106 "TickFallModel" "day" "I", Cond.fieldLink RX5 124 "TickFallModel" "events" "I", Cond.fieldLink RX5 43 "TickFallModel" "eventDay" "[I", Cond.fieldLink RX5 46 "TickFallModel" "eventKind" "[I", Cond.fieldLink RX5 49 "TickFallModel" "eventOf" "[I", Cond.fieldLink RX5 52 "TickFallModel" "amount" "[I", Cond.methodLink RX5 99 yX5_in, Cond.static yX5_in, Cond.initialized RX5, Cond.code yX5_in cX5_in 3 (some .boolean), Cond.methodLink RX5 113 yX5_isClock, Cond.instanceMethod yX5_isClock, Cond.selects RX5 yX5_isClock yX5_isClock, Cond.code yX5_isClock cX5_isClock 2 (some .boolean), Cond.fieldLink RX5 96 "TickFallModel" "clocks" "I", Cond.methodLink RX5 117 yX5_isLink, Cond.instanceMethod yX5_isLink, Cond.selects RX5 yX5_isLink yX5_isLink, Cond.code yX5_isLink cX5_isLink 2 (some .boolean), Cond.fieldLink RX5 103 "TickFallModel" "links" "I", Cond.methodLink RX5 120 yX5_isAmount, Cond.static yX5_isAmount, Cond.code yX5_isAmount cX5_isAmount 2 (some .boolean), Cond.methodLink RX5 109 yX5_goes]
def wsX5_event_r2 : List Cond := [Cond.instanceMethod yX5_goes, Cond.selects RX5 yX5_goes yX5_goes, Cond.code yX5_goes cX5_goes 4 (some .boolean), Cond.fieldLink RX5 93 "TickFallModel" "thrown" "I"]
def wsX5_event : List Cond := .code yX5_event cX5_event 7 (some .int) :: ((wsX5_event_r1 ++ wsX5_event_r2) ++ wsX50)
def wsX5_calibrate : List Cond := .code yX5_calibrate cX5_calibrate 7 (some .int) :: ([.fieldLink RX5 55 "TickFallModel" "given" "[I", .fieldLink RX5 58 "TickFallModel" "from" "[I", .fieldLink RX5 61 "TickFallModel" "to" "[I", .fieldLink RX5 64 "TickFallModel" "takes" "[I", .methodLink RX5 117 yX5_isLink, .instanceMethod yX5_isLink, .selects RX5 yX5_isLink yX5_isLink, .initialized RX5, .code yX5_isLink cX5_isLink 2 (some .boolean), .fieldLink RX5 103 "TickFallModel" "links" "I", .methodLink RX5 99 yX5_in, .static yX5_in, .code yX5_in cX5_in 3 (some .boolean), .methodLink RX5 109 yX5_goes, .instanceMethod yX5_goes, .selects RX5 yX5_goes yX5_goes, .code yX5_goes cX5_goes 4 (some .boolean), .fieldLink RX5 93 "TickFallModel" "thrown" "I"] ++ wsX50)
def wsX5_bounds : List Cond := .code yX5_bounds cX5_bounds 3 none :: ([.fieldLink RX5 86 "TickFallModel" "doubt" "I", .fieldLink RX5 90 "TickFallModel" "step" "I", .methodLink RX5 99 yX5_in, .static yX5_in, .initialized RX5, .code yX5_in cX5_in 3 (some .boolean), .methodLink RX5 109 yX5_goes, .instanceMethod yX5_goes, .selects RX5 yX5_goes yX5_goes, .code yX5_goes cX5_goes 4 (some .boolean), .fieldLink RX5 93 "TickFallModel" "thrown" "I"] ++ wsX50)
def wsX5_isAhead : List Cond := .code yX5_isAhead cX5_isAhead 3 (some .boolean) :: ([.fieldLink RX5 46 "TickFallModel" "eventKind" "[I", .fieldLink RX5 49 "TickFallModel" "eventOf" "[I", .fieldLink RX5 52 "TickFallModel" "amount" "[I"] ++ wsX50)
def wsX5_next : List Cond := .code yX5_next cX5_next 3 (some .int) :: ([.fieldLink RX5 124 "TickFallModel" "events" "I", .fieldLink RX5 43 "TickFallModel" "eventDay" "[I", .fieldLink RX5 106 "TickFallModel" "day" "I", .methodLink RX5 127 yX5_isAhead, .instanceMethod yX5_isAhead, .selects RX5 yX5_isAhead yX5_isAhead, .initialized RX5, .code yX5_isAhead cX5_isAhead 3 (some .boolean), .fieldLink RX5 46 "TickFallModel" "eventKind" "[I", .fieldLink RX5 49 "TickFallModel" "eventOf" "[I", .fieldLink RX5 52 "TickFallModel" "amount" "[I"] ++ wsX50)
def wsX5_comes : List Cond := .code yX5_comes cX5_comes 3 none :: ([.fieldLink RX5 49 "TickFallModel" "eventOf" "[I", .fieldLink RX5 46 "TickFallModel" "eventKind" "[I", .fieldLink RX5 7 "TickFallModel" "rate" "[I", .fieldLink RX5 52 "TickFallModel" "amount" "[I", .fieldLink RX5 16 "TickFallModel" "height" "[I", .fieldLink RX5 31 "TickFallModel" "asymmetry" "[I", .fieldLink RX5 34 "TickFallModel" "slipped" "[I", .fieldLink RX5 124 "TickFallModel" "events" "I", .fieldLink RX5 43 "TickFallModel" "eventDay" "[I", .methodLink RX5 130 yX5_held, .static yX5_held, .initialized RX5, .code yX5_held cX5_held 2 (some .int)] ++ wsX50)
def wsX5_hasMeasured : List Cond := .code yX5_hasMeasured cX5_hasMeasured 3 (some .boolean) :: ([.fieldLink RX5 37 "TickFallModel" "laid" "[I", .methodLink RX5 117 yX5_isLink, .instanceMethod yX5_isLink, .selects RX5 yX5_isLink yX5_isLink, .initialized RX5, .code yX5_isLink cX5_isLink 2 (some .boolean), .fieldLink RX5 103 "TickFallModel" "links" "I", .methodLink RX5 99 yX5_in, .static yX5_in, .code yX5_in cX5_in 3 (some .boolean), .methodLink RX5 149 yX5_isDay, .instanceMethod yX5_isDay, .selects RX5 yX5_isDay yX5_isDay, .code yX5_isDay cX5_isDay 2 (some .boolean), .fieldLink RX5 106 "TickFallModel" "day" "I"] ++ wsX50)
def wsX5_linkOf : List Cond := .code yX5_linkOf cX5_linkOf 6 (some .int) :: ([.fieldLink RX5 103 "TickFallModel" "links" "I", .fieldLink RX5 25 "TickFallModel" "one" "[I", .fieldLink RX5 28 "TickFallModel" "two" "[I", .methodLink RX5 152 yX5_hasMeasured, .instanceMethod yX5_hasMeasured, .selects RX5 yX5_hasMeasured yX5_hasMeasured, .initialized RX5, .code yX5_hasMeasured cX5_hasMeasured 3 (some .boolean), .fieldLink RX5 37 "TickFallModel" "laid" "[I", .methodLink RX5 117 yX5_isLink, .instanceMethod yX5_isLink, .selects RX5 yX5_isLink yX5_isLink, .code yX5_isLink cX5_isLink 2 (some .boolean), .methodLink RX5 99 yX5_in, .static yX5_in, .code yX5_in cX5_in 3 (some .boolean), .methodLink RX5 149 yX5_isDay, .instanceMethod yX5_isDay, .selects RX5 yX5_isDay yX5_isDay, .code yX5_isDay cX5_isDay 2 (some .boolean), .fieldLink RX5 106 "TickFallModel" "day" "I"] ++ wsX50)
def wsX5_corrected : List Cond := .code yX5_corrected cX5_corrected 5 (some .int) :: ([.fieldLink RX5 40 "TickFallModel" "counts" "[I", .fieldLink RX5 55 "TickFallModel" "given" "[I", .fieldLink RX5 58 "TickFallModel" "from" "[I", .fieldLink RX5 61 "TickFallModel" "to" "[I", .fieldLink RX5 64 "TickFallModel" "takes" "[I", .methodLink RX5 99 yX5_in, .static yX5_in, .initialized RX5, .code yX5_in cX5_in 3 (some .boolean)] ++ wsX50)
def wsX5_meanOf_r1 : List Cond := [Cond.fieldLink RX5 96 "TickFallModel" "clocks" "I", Cond.fieldLink RX5 22 "TickFallModel" "weight" "[I", Cond.fieldLink RX5 25 "TickFallModel" "one" "[I", Cond.methodLink RX5 190 yX5_linkOf, Cond.instanceMethod yX5_linkOf, Cond.selects RX5 yX5_linkOf yX5_linkOf, Cond.initialized RX5, Cond.code yX5_linkOf cX5_linkOf 6 (some .int), Cond.fieldLink RX5 103 "TickFallModel" "links" "I", Cond.fieldLink RX5 28 "TickFallModel" "two" "[I", Cond.methodLink RX5 152 yX5_hasMeasured, Cond.instanceMethod yX5_hasMeasured, Cond.selects RX5 yX5_hasMeasured yX5_hasMeasured, Cond.code yX5_hasMeasured cX5_hasMeasured 3 (some .boolean), Cond.fieldLink RX5 37 "TickFallModel" "laid" "[I", Cond.methodLink RX5 117 yX5_isLink, Cond.instanceMethod yX5_isLink, Cond.selects RX5 yX5_isLink yX5_isLink, Cond.code yX5_isLink cX5_isLink 2 (some .boolean), Cond.methodLink RX5 99 yX5_in, Cond.static yX5_in, Cond.code yX5_in cX5_in 3 (some .boolean), Cond.methodLink RX5 149 yX5_isDay, Cond.instanceMethod yX5_isDay]
def wsX5_meanOf_r2 : List Cond := [Cond.selects RX5 yX5_isDay yX5_isDay, Cond.code yX5_isDay cX5_isDay 2 (some .boolean), Cond.fieldLink RX5 106 "TickFallModel" "day" "I", Cond.methodLink RX5 155 yX5_corrected, Cond.instanceMethod yX5_corrected, Cond.selects RX5 yX5_corrected yX5_corrected, Cond.code yX5_corrected cX5_corrected 5 (some .int), Cond.fieldLink RX5 40 "TickFallModel" "counts" "[I", Cond.fieldLink RX5 55 "TickFallModel" "given" "[I", Cond.fieldLink RX5 58 "TickFallModel" "from" "[I", Cond.fieldLink RX5 61 "TickFallModel" "to" "[I", Cond.fieldLink RX5 64 "TickFallModel" "takes" "[I"]
def wsX5_meanOf : List Cond := .code yX5_meanOf cX5_meanOf 9 (some .int) :: ((wsX5_meanOf_r1 ++ wsX5_meanOf_r2) ++ wsX50)
def wsX5_passes_r1 : List Cond := [Cond.fieldLink RX5 106 "TickFallModel" "day" "I", Cond.fieldLink RX5 96 "TickFallModel" "clocks" "I", Cond.fieldLink RX5 19 "TickFallModel" "phase" "[I", Cond.fieldLink RX5 7 "TickFallModel" "rate" "[I", Cond.fieldLink RX5 16 "TickFallModel" "height" "[I", Cond.fieldLink RX5 13 "TickFallModel" "drift" "[I", Cond.fieldLink RX5 103 "TickFallModel" "links" "I", Cond.fieldLink RX5 40 "TickFallModel" "counts" "[I", Cond.fieldLink RX5 25 "TickFallModel" "one" "[I", Cond.fieldLink RX5 28 "TickFallModel" "two" "[I", Cond.fieldLink RX5 31 "TickFallModel" "asymmetry" "[I", Cond.fieldLink RX5 34 "TickFallModel" "slipped" "[I", Cond.fieldLink RX5 67 "TickFallModel" "told" "[I", Cond.fieldLink RX5 90 "TickFallModel" "step" "I", Cond.methodLink RX5 134 yX5_next, Cond.instanceMethod yX5_next, Cond.selects RX5 yX5_next yX5_next, Cond.initialized RX5, Cond.code yX5_next cX5_next 3 (some .int), Cond.fieldLink RX5 124 "TickFallModel" "events" "I", Cond.fieldLink RX5 43 "TickFallModel" "eventDay" "[I", Cond.methodLink RX5 127 yX5_isAhead, Cond.instanceMethod yX5_isAhead, Cond.selects RX5 yX5_isAhead yX5_isAhead]
def wsX5_passes_r2 : List Cond := [Cond.code yX5_isAhead cX5_isAhead 3 (some .boolean), Cond.fieldLink RX5 46 "TickFallModel" "eventKind" "[I", Cond.fieldLink RX5 49 "TickFallModel" "eventOf" "[I", Cond.fieldLink RX5 52 "TickFallModel" "amount" "[I", Cond.methodLink RX5 138 yX5_comes, Cond.instanceMethod yX5_comes, Cond.selects RX5 yX5_comes yX5_comes, Cond.code yX5_comes cX5_comes 3 none, Cond.methodLink RX5 130 yX5_held, Cond.static yX5_held, Cond.code yX5_held cX5_held 2 (some .int), Cond.methodLink RX5 142 yX5_meanOf, Cond.instanceMethod yX5_meanOf, Cond.selects RX5 yX5_meanOf yX5_meanOf, Cond.code yX5_meanOf cX5_meanOf 9 (some .int), Cond.fieldLink RX5 22 "TickFallModel" "weight" "[I", Cond.methodLink RX5 190 yX5_linkOf, Cond.instanceMethod yX5_linkOf, Cond.selects RX5 yX5_linkOf yX5_linkOf, Cond.code yX5_linkOf cX5_linkOf 6 (some .int), Cond.methodLink RX5 152 yX5_hasMeasured, Cond.instanceMethod yX5_hasMeasured, Cond.selects RX5 yX5_hasMeasured yX5_hasMeasured, Cond.code yX5_hasMeasured cX5_hasMeasured 3 (some .boolean)]
def wsX5_passes_r3 : List Cond := [Cond.fieldLink RX5 37 "TickFallModel" "laid" "[I", Cond.methodLink RX5 117 yX5_isLink, Cond.instanceMethod yX5_isLink, Cond.selects RX5 yX5_isLink yX5_isLink, Cond.code yX5_isLink cX5_isLink 2 (some .boolean), Cond.methodLink RX5 99 yX5_in, Cond.static yX5_in, Cond.code yX5_in cX5_in 3 (some .boolean), Cond.methodLink RX5 149 yX5_isDay, Cond.instanceMethod yX5_isDay, Cond.selects RX5 yX5_isDay yX5_isDay, Cond.code yX5_isDay cX5_isDay 2 (some .boolean), Cond.methodLink RX5 155 yX5_corrected, Cond.instanceMethod yX5_corrected, Cond.selects RX5 yX5_corrected yX5_corrected, Cond.code yX5_corrected cX5_corrected 5 (some .int), Cond.fieldLink RX5 55 "TickFallModel" "given" "[I", Cond.fieldLink RX5 58 "TickFallModel" "from" "[I", Cond.fieldLink RX5 61 "TickFallModel" "to" "[I", Cond.fieldLink RX5 64 "TickFallModel" "takes" "[I"]
def wsX5_passes : List Cond := .code yX5_passes cX5_passes 2 none :: ((wsX5_passes_r1 ++ (wsX5_passes_r2 ++ wsX5_passes_r3)) ++ wsX50)
def wsX5_pass_r1 : List Cond := [Cond.fieldLink RX5 106 "TickFallModel" "day" "I", Cond.methodLink RX5 99 yX5_in, Cond.static yX5_in, Cond.initialized RX5, Cond.code yX5_in cX5_in 3 (some .boolean), Cond.methodLink RX5 109 yX5_goes, Cond.instanceMethod yX5_goes, Cond.selects RX5 yX5_goes yX5_goes, Cond.code yX5_goes cX5_goes 4 (some .boolean), Cond.fieldLink RX5 93 "TickFallModel" "thrown" "I", Cond.methodLink RX5 146 yX5_passes, Cond.instanceMethod yX5_passes, Cond.selects RX5 yX5_passes yX5_passes, Cond.code yX5_passes cX5_passes 2 none, Cond.fieldLink RX5 96 "TickFallModel" "clocks" "I", Cond.fieldLink RX5 19 "TickFallModel" "phase" "[I", Cond.fieldLink RX5 7 "TickFallModel" "rate" "[I", Cond.fieldLink RX5 16 "TickFallModel" "height" "[I", Cond.fieldLink RX5 13 "TickFallModel" "drift" "[I", Cond.fieldLink RX5 103 "TickFallModel" "links" "I", Cond.fieldLink RX5 40 "TickFallModel" "counts" "[I", Cond.fieldLink RX5 25 "TickFallModel" "one" "[I", Cond.fieldLink RX5 28 "TickFallModel" "two" "[I", Cond.fieldLink RX5 31 "TickFallModel" "asymmetry" "[I"]
def wsX5_pass_r2 : List Cond := [Cond.fieldLink RX5 34 "TickFallModel" "slipped" "[I", Cond.fieldLink RX5 67 "TickFallModel" "told" "[I", Cond.fieldLink RX5 90 "TickFallModel" "step" "I", Cond.methodLink RX5 134 yX5_next, Cond.instanceMethod yX5_next, Cond.selects RX5 yX5_next yX5_next, Cond.code yX5_next cX5_next 3 (some .int), Cond.fieldLink RX5 124 "TickFallModel" "events" "I", Cond.fieldLink RX5 43 "TickFallModel" "eventDay" "[I", Cond.methodLink RX5 127 yX5_isAhead, Cond.instanceMethod yX5_isAhead, Cond.selects RX5 yX5_isAhead yX5_isAhead, Cond.code yX5_isAhead cX5_isAhead 3 (some .boolean), Cond.fieldLink RX5 46 "TickFallModel" "eventKind" "[I", Cond.fieldLink RX5 49 "TickFallModel" "eventOf" "[I", Cond.fieldLink RX5 52 "TickFallModel" "amount" "[I", Cond.methodLink RX5 138 yX5_comes, Cond.instanceMethod yX5_comes, Cond.selects RX5 yX5_comes yX5_comes, Cond.code yX5_comes cX5_comes 3 none, Cond.methodLink RX5 130 yX5_held, Cond.static yX5_held, Cond.code yX5_held cX5_held 2 (some .int), Cond.methodLink RX5 142 yX5_meanOf]
def wsX5_pass_r3 : List Cond := [Cond.instanceMethod yX5_meanOf, Cond.selects RX5 yX5_meanOf yX5_meanOf, Cond.code yX5_meanOf cX5_meanOf 9 (some .int), Cond.fieldLink RX5 22 "TickFallModel" "weight" "[I", Cond.methodLink RX5 190 yX5_linkOf, Cond.instanceMethod yX5_linkOf, Cond.selects RX5 yX5_linkOf yX5_linkOf, Cond.code yX5_linkOf cX5_linkOf 6 (some .int), Cond.methodLink RX5 152 yX5_hasMeasured, Cond.instanceMethod yX5_hasMeasured, Cond.selects RX5 yX5_hasMeasured yX5_hasMeasured, Cond.code yX5_hasMeasured cX5_hasMeasured 3 (some .boolean), Cond.fieldLink RX5 37 "TickFallModel" "laid" "[I", Cond.methodLink RX5 117 yX5_isLink, Cond.instanceMethod yX5_isLink, Cond.selects RX5 yX5_isLink yX5_isLink, Cond.code yX5_isLink cX5_isLink 2 (some .boolean), Cond.methodLink RX5 149 yX5_isDay, Cond.instanceMethod yX5_isDay, Cond.selects RX5 yX5_isDay yX5_isDay, Cond.code yX5_isDay cX5_isDay 2 (some .boolean), Cond.methodLink RX5 155 yX5_corrected, Cond.instanceMethod yX5_corrected, Cond.selects RX5 yX5_corrected yX5_corrected]
def wsX5_pass_r4 : List Cond := [Cond.code yX5_corrected cX5_corrected 5 (some .int), Cond.fieldLink RX5 55 "TickFallModel" "given" "[I", Cond.fieldLink RX5 58 "TickFallModel" "from" "[I", Cond.fieldLink RX5 61 "TickFallModel" "to" "[I", Cond.fieldLink RX5 64 "TickFallModel" "takes" "[I"]
def wsX5_pass : List Cond := .code yX5_pass cX5_pass 3 (some .int) :: ((wsX5_pass_r1 ++ (wsX5_pass_r2 ++ (wsX5_pass_r3 ++ wsX5_pass_r4))) ++ wsX50)
def wsX5_measured_r1 : List Cond := [Cond.fieldLink RX5 40 "TickFallModel" "counts" "[I", Cond.methodLink RX5 152 yX5_hasMeasured, Cond.instanceMethod yX5_hasMeasured, Cond.selects RX5 yX5_hasMeasured yX5_hasMeasured, Cond.initialized RX5, Cond.code yX5_hasMeasured cX5_hasMeasured 3 (some .boolean), Cond.fieldLink RX5 37 "TickFallModel" "laid" "[I", Cond.methodLink RX5 117 yX5_isLink, Cond.instanceMethod yX5_isLink, Cond.selects RX5 yX5_isLink yX5_isLink, Cond.code yX5_isLink cX5_isLink 2 (some .boolean), Cond.fieldLink RX5 103 "TickFallModel" "links" "I", Cond.methodLink RX5 99 yX5_in, Cond.static yX5_in, Cond.code yX5_in cX5_in 3 (some .boolean), Cond.methodLink RX5 149 yX5_isDay, Cond.instanceMethod yX5_isDay, Cond.selects RX5 yX5_isDay yX5_isDay, Cond.code yX5_isDay cX5_isDay 2 (some .boolean), Cond.fieldLink RX5 106 "TickFallModel" "day" "I", Cond.methodLink RX5 109 yX5_goes, Cond.instanceMethod yX5_goes, Cond.selects RX5 yX5_goes yX5_goes, Cond.code yX5_goes cX5_goes 4 (some .boolean)]
def wsX5_measured_r2 : List Cond := [Cond.fieldLink RX5 93 "TickFallModel" "thrown" "I", Cond.methodLink RX5 155 yX5_corrected, Cond.instanceMethod yX5_corrected, Cond.selects RX5 yX5_corrected yX5_corrected, Cond.code yX5_corrected cX5_corrected 5 (some .int), Cond.fieldLink RX5 55 "TickFallModel" "given" "[I", Cond.fieldLink RX5 58 "TickFallModel" "from" "[I", Cond.fieldLink RX5 61 "TickFallModel" "to" "[I", Cond.fieldLink RX5 64 "TickFallModel" "takes" "[I"]
def wsX5_measured : List Cond := .code yX5_measured cX5_measured 4 (some .int) :: ((wsX5_measured_r1 ++ wsX5_measured_r2) ++ wsX50)
def wsX5_otherEnd : List Cond := .code yX5_otherEnd cX5_otherEnd 3 (some .int) :: ([.fieldLink RX5 25 "TickFallModel" "one" "[I", .fieldLink RX5 28 "TickFallModel" "two" "[I"] ++ wsX50)
def wsX5_isRing : List Cond := .code yX5_isRing cX5_isRing 7 (some .boolean) :: ([.fieldLink RX5 28 "TickFallModel" "two" "[I", .fieldLink RX5 25 "TickFallModel" "one" "[I", .methodLink RX5 158 yX5_otherEnd, .instanceMethod yX5_otherEnd, .selects RX5 yX5_otherEnd yX5_otherEnd, .initialized RX5, .code yX5_otherEnd cX5_otherEnd 3 (some .int)] ++ wsX50)
def wsX5_goesBy : List Cond := .code yX5_goesBy cX5_goesBy 6 none :: ([.fieldLink RX5 161 "TickFallModel" "rings" "I", .fieldLink RX5 77 "TickFallModel" "ringOf" "[I", .fieldLink RX5 80 "TickFallModel" "sign" "[I", .fieldLink RX5 25 "TickFallModel" "one" "[I", .fieldLink RX5 83 "TickFallModel" "sum" "[I", .methodLink RX5 155 yX5_corrected, .instanceMethod yX5_corrected, .selects RX5 yX5_corrected yX5_corrected, .initialized RX5, .code yX5_corrected cX5_corrected 5 (some .int), .fieldLink RX5 40 "TickFallModel" "counts" "[I", .fieldLink RX5 55 "TickFallModel" "given" "[I", .fieldLink RX5 58 "TickFallModel" "from" "[I", .fieldLink RX5 61 "TickFallModel" "to" "[I", .fieldLink RX5 64 "TickFallModel" "takes" "[I", .methodLink RX5 99 yX5_in, .static yX5_in, .code yX5_in cX5_in 3 (some .boolean)] ++ wsX50)
def wsX5_laysRing_r1 : List Cond := [Cond.fieldLink RX5 28 "TickFallModel" "two" "[I", Cond.fieldLink RX5 25 "TickFallModel" "one" "[I", Cond.fieldLink RX5 161 "TickFallModel" "rings" "I", Cond.methodLink RX5 158 yX5_otherEnd, Cond.instanceMethod yX5_otherEnd, Cond.selects RX5 yX5_otherEnd yX5_otherEnd, Cond.initialized RX5, Cond.code yX5_otherEnd cX5_otherEnd 3 (some .int), Cond.methodLink RX5 164 yX5_goesBy, Cond.instanceMethod yX5_goesBy, Cond.selects RX5 yX5_goesBy yX5_goesBy, Cond.code yX5_goesBy cX5_goesBy 6 none, Cond.fieldLink RX5 77 "TickFallModel" "ringOf" "[I", Cond.fieldLink RX5 80 "TickFallModel" "sign" "[I", Cond.fieldLink RX5 83 "TickFallModel" "sum" "[I", Cond.methodLink RX5 155 yX5_corrected, Cond.instanceMethod yX5_corrected, Cond.selects RX5 yX5_corrected yX5_corrected, Cond.code yX5_corrected cX5_corrected 5 (some .int), Cond.fieldLink RX5 40 "TickFallModel" "counts" "[I", Cond.fieldLink RX5 55 "TickFallModel" "given" "[I", Cond.fieldLink RX5 58 "TickFallModel" "from" "[I", Cond.fieldLink RX5 61 "TickFallModel" "to" "[I", Cond.fieldLink RX5 64 "TickFallModel" "takes" "[I"]
def wsX5_laysRing_r2 : List Cond := [Cond.methodLink RX5 99 yX5_in, Cond.static yX5_in, Cond.code yX5_in cX5_in 3 (some .boolean)]
def wsX5_laysRing : List Cond := .code yX5_laysRing cX5_laysRing 6 none :: ((wsX5_laysRing_r1 ++ wsX5_laysRing_r2) ++ wsX50)
def wsX5_laysRings_r1 : List Cond := [Cond.fieldLink RX5 161 "TickFallModel" "rings" "I", Cond.fieldLink RX5 74 "TickFallModel" "cycles" "[I", Cond.fieldLink RX5 103 "TickFallModel" "links" "I", Cond.methodLink RX5 152 yX5_hasMeasured, Cond.instanceMethod yX5_hasMeasured, Cond.selects RX5 yX5_hasMeasured yX5_hasMeasured, Cond.initialized RX5, Cond.code yX5_hasMeasured cX5_hasMeasured 3 (some .boolean), Cond.fieldLink RX5 37 "TickFallModel" "laid" "[I", Cond.methodLink RX5 117 yX5_isLink, Cond.instanceMethod yX5_isLink, Cond.selects RX5 yX5_isLink yX5_isLink, Cond.code yX5_isLink cX5_isLink 2 (some .boolean), Cond.methodLink RX5 99 yX5_in, Cond.static yX5_in, Cond.code yX5_in cX5_in 3 (some .boolean), Cond.methodLink RX5 149 yX5_isDay, Cond.instanceMethod yX5_isDay, Cond.selects RX5 yX5_isDay yX5_isDay, Cond.code yX5_isDay cX5_isDay 2 (some .boolean), Cond.fieldLink RX5 106 "TickFallModel" "day" "I", Cond.methodLink RX5 168 yX5_isRing, Cond.instanceMethod yX5_isRing, Cond.selects RX5 yX5_isRing yX5_isRing]
def wsX5_laysRings_r2 : List Cond := [Cond.code yX5_isRing cX5_isRing 7 (some .boolean), Cond.fieldLink RX5 28 "TickFallModel" "two" "[I", Cond.fieldLink RX5 25 "TickFallModel" "one" "[I", Cond.methodLink RX5 158 yX5_otherEnd, Cond.instanceMethod yX5_otherEnd, Cond.selects RX5 yX5_otherEnd yX5_otherEnd, Cond.code yX5_otherEnd cX5_otherEnd 3 (some .int), Cond.methodLink RX5 171 yX5_laysRing, Cond.instanceMethod yX5_laysRing, Cond.selects RX5 yX5_laysRing yX5_laysRing, Cond.code yX5_laysRing cX5_laysRing 6 none, Cond.methodLink RX5 164 yX5_goesBy, Cond.instanceMethod yX5_goesBy, Cond.selects RX5 yX5_goesBy yX5_goesBy, Cond.code yX5_goesBy cX5_goesBy 6 none, Cond.fieldLink RX5 77 "TickFallModel" "ringOf" "[I", Cond.fieldLink RX5 80 "TickFallModel" "sign" "[I", Cond.fieldLink RX5 83 "TickFallModel" "sum" "[I", Cond.methodLink RX5 155 yX5_corrected, Cond.instanceMethod yX5_corrected, Cond.selects RX5 yX5_corrected yX5_corrected, Cond.code yX5_corrected cX5_corrected 5 (some .int), Cond.fieldLink RX5 40 "TickFallModel" "counts" "[I", Cond.fieldLink RX5 55 "TickFallModel" "given" "[I"]
def wsX5_laysRings_r3 : List Cond := [Cond.fieldLink RX5 58 "TickFallModel" "from" "[I", Cond.fieldLink RX5 61 "TickFallModel" "to" "[I", Cond.fieldLink RX5 64 "TickFallModel" "takes" "[I"]
def wsX5_laysRings : List Cond := .code yX5_laysRings cX5_laysRings 6 none :: ((wsX5_laysRings_r1 ++ (wsX5_laysRings_r2 ++ wsX5_laysRings_r3)) ++ wsX50)
def wsX5_openRings : List Cond := .code yX5_openRings cX5_openRings 5 (some .int) :: ([.fieldLink RX5 161 "TickFallModel" "rings" "I", .fieldLink RX5 83 "TickFallModel" "sum" "[I", .fieldLink RX5 80 "TickFallModel" "sign" "[I", .fieldLink RX5 74 "TickFallModel" "cycles" "[I", .fieldLink RX5 77 "TickFallModel" "ringOf" "[I", .fieldLink RX5 86 "TickFallModel" "doubt" "I"] ++ wsX50)
def wsX5_least : List Cond := .code yX5_least cX5_least 3 (some .int) :: ([])
def wsX5_most : List Cond := .code yX5_most cX5_most 3 (some .int) :: ([.methodLink RX5 174 yX5_least, .static yX5_least, .initialized RX5, .code yX5_least cX5_least 3 (some .int)])
def wsX5_closes_r1 : List Cond := [Cond.fieldLink RX5 161 "TickFallModel" "rings" "I", Cond.fieldLink RX5 83 "TickFallModel" "sum" "[I", Cond.methodLink RX5 174 yX5_least, Cond.static yX5_least, Cond.initialized RX5, Cond.code yX5_least cX5_least 3 (some .int), Cond.methodLink RX5 178 yX5_most, Cond.static yX5_most, Cond.code yX5_most cX5_most 3 (some .int), Cond.methodLink RX5 152 yX5_hasMeasured, Cond.instanceMethod yX5_hasMeasured, Cond.selects RX5 yX5_hasMeasured yX5_hasMeasured, Cond.code yX5_hasMeasured cX5_hasMeasured 3 (some .boolean), Cond.fieldLink RX5 37 "TickFallModel" "laid" "[I", Cond.methodLink RX5 117 yX5_isLink, Cond.instanceMethod yX5_isLink, Cond.selects RX5 yX5_isLink yX5_isLink, Cond.code yX5_isLink cX5_isLink 2 (some .boolean), Cond.fieldLink RX5 103 "TickFallModel" "links" "I", Cond.methodLink RX5 99 yX5_in, Cond.static yX5_in, Cond.code yX5_in cX5_in 3 (some .boolean), Cond.methodLink RX5 149 yX5_isDay, Cond.instanceMethod yX5_isDay]
def wsX5_closes_r2 : List Cond := [Cond.selects RX5 yX5_isDay yX5_isDay, Cond.code yX5_isDay cX5_isDay 2 (some .boolean), Cond.fieldLink RX5 106 "TickFallModel" "day" "I", Cond.methodLink RX5 168 yX5_isRing, Cond.instanceMethod yX5_isRing, Cond.selects RX5 yX5_isRing yX5_isRing, Cond.code yX5_isRing cX5_isRing 7 (some .boolean), Cond.fieldLink RX5 28 "TickFallModel" "two" "[I", Cond.fieldLink RX5 25 "TickFallModel" "one" "[I", Cond.methodLink RX5 158 yX5_otherEnd, Cond.instanceMethod yX5_otherEnd, Cond.selects RX5 yX5_otherEnd yX5_otherEnd, Cond.code yX5_otherEnd cX5_otherEnd 3 (some .int), Cond.methodLink RX5 109 yX5_goes, Cond.instanceMethod yX5_goes, Cond.selects RX5 yX5_goes yX5_goes, Cond.code yX5_goes cX5_goes 4 (some .boolean), Cond.fieldLink RX5 93 "TickFallModel" "thrown" "I", Cond.methodLink RX5 171 yX5_laysRing, Cond.instanceMethod yX5_laysRing, Cond.selects RX5 yX5_laysRing yX5_laysRing, Cond.code yX5_laysRing cX5_laysRing 6 none, Cond.methodLink RX5 164 yX5_goesBy, Cond.instanceMethod yX5_goesBy]
def wsX5_closes_r3 : List Cond := [Cond.selects RX5 yX5_goesBy yX5_goesBy, Cond.code yX5_goesBy cX5_goesBy 6 none, Cond.fieldLink RX5 77 "TickFallModel" "ringOf" "[I", Cond.fieldLink RX5 80 "TickFallModel" "sign" "[I", Cond.methodLink RX5 155 yX5_corrected, Cond.instanceMethod yX5_corrected, Cond.selects RX5 yX5_corrected yX5_corrected, Cond.code yX5_corrected cX5_corrected 5 (some .int), Cond.fieldLink RX5 40 "TickFallModel" "counts" "[I", Cond.fieldLink RX5 55 "TickFallModel" "given" "[I", Cond.fieldLink RX5 58 "TickFallModel" "from" "[I", Cond.fieldLink RX5 61 "TickFallModel" "to" "[I", Cond.fieldLink RX5 64 "TickFallModel" "takes" "[I"]
def wsX5_closes : List Cond := .code yX5_closes cX5_closes 9 (some .int) :: ((wsX5_closes_r1 ++ (wsX5_closes_r2 ++ wsX5_closes_r3)) ++ wsX50)
def wsX5_open_r1 : List Cond := [Cond.methodLink RX5 149 yX5_isDay, Cond.instanceMethod yX5_isDay, Cond.selects RX5 yX5_isDay yX5_isDay, Cond.initialized RX5, Cond.code yX5_isDay cX5_isDay 2 (some .boolean), Cond.fieldLink RX5 106 "TickFallModel" "day" "I", Cond.methodLink RX5 99 yX5_in, Cond.static yX5_in, Cond.code yX5_in cX5_in 3 (some .boolean), Cond.methodLink RX5 109 yX5_goes, Cond.instanceMethod yX5_goes, Cond.selects RX5 yX5_goes yX5_goes, Cond.code yX5_goes cX5_goes 4 (some .boolean), Cond.fieldLink RX5 93 "TickFallModel" "thrown" "I", Cond.methodLink RX5 181 yX5_laysRings, Cond.instanceMethod yX5_laysRings, Cond.selects RX5 yX5_laysRings yX5_laysRings, Cond.code yX5_laysRings cX5_laysRings 6 none, Cond.fieldLink RX5 161 "TickFallModel" "rings" "I", Cond.fieldLink RX5 74 "TickFallModel" "cycles" "[I", Cond.fieldLink RX5 103 "TickFallModel" "links" "I", Cond.methodLink RX5 152 yX5_hasMeasured, Cond.instanceMethod yX5_hasMeasured, Cond.selects RX5 yX5_hasMeasured yX5_hasMeasured]
def wsX5_open_r2 : List Cond := [Cond.code yX5_hasMeasured cX5_hasMeasured 3 (some .boolean), Cond.fieldLink RX5 37 "TickFallModel" "laid" "[I", Cond.methodLink RX5 117 yX5_isLink, Cond.instanceMethod yX5_isLink, Cond.selects RX5 yX5_isLink yX5_isLink, Cond.code yX5_isLink cX5_isLink 2 (some .boolean), Cond.methodLink RX5 168 yX5_isRing, Cond.instanceMethod yX5_isRing, Cond.selects RX5 yX5_isRing yX5_isRing, Cond.code yX5_isRing cX5_isRing 7 (some .boolean), Cond.fieldLink RX5 28 "TickFallModel" "two" "[I", Cond.fieldLink RX5 25 "TickFallModel" "one" "[I", Cond.methodLink RX5 158 yX5_otherEnd, Cond.instanceMethod yX5_otherEnd, Cond.selects RX5 yX5_otherEnd yX5_otherEnd, Cond.code yX5_otherEnd cX5_otherEnd 3 (some .int), Cond.methodLink RX5 171 yX5_laysRing, Cond.instanceMethod yX5_laysRing, Cond.selects RX5 yX5_laysRing yX5_laysRing, Cond.code yX5_laysRing cX5_laysRing 6 none, Cond.methodLink RX5 164 yX5_goesBy, Cond.instanceMethod yX5_goesBy, Cond.selects RX5 yX5_goesBy yX5_goesBy, Cond.code yX5_goesBy cX5_goesBy 6 none]
def wsX5_open_r3 : List Cond := [Cond.fieldLink RX5 77 "TickFallModel" "ringOf" "[I", Cond.fieldLink RX5 80 "TickFallModel" "sign" "[I", Cond.fieldLink RX5 83 "TickFallModel" "sum" "[I", Cond.methodLink RX5 155 yX5_corrected, Cond.instanceMethod yX5_corrected, Cond.selects RX5 yX5_corrected yX5_corrected, Cond.code yX5_corrected cX5_corrected 5 (some .int), Cond.fieldLink RX5 40 "TickFallModel" "counts" "[I", Cond.fieldLink RX5 55 "TickFallModel" "given" "[I", Cond.fieldLink RX5 58 "TickFallModel" "from" "[I", Cond.fieldLink RX5 61 "TickFallModel" "to" "[I", Cond.fieldLink RX5 64 "TickFallModel" "takes" "[I", Cond.methodLink RX5 184 yX5_openRings, Cond.instanceMethod yX5_openRings, Cond.selects RX5 yX5_openRings yX5_openRings, Cond.code yX5_openRings cX5_openRings 5 (some .int), Cond.fieldLink RX5 86 "TickFallModel" "doubt" "I"]
def wsX5_open : List Cond := .code yX5_open cX5_open 2 (some .int) :: ((wsX5_open_r1 ++ (wsX5_open_r2 ++ wsX5_open_r3)) ++ wsX50)
def wsX5_laysOut : List Cond := .code yX5_laysOut cX5_laysOut 6 (some .int) :: ([.fieldLink RX5 103 "TickFallModel" "links" "I", .fieldLink RX5 74 "TickFallModel" "cycles" "[I", .methodLink RX5 152 yX5_hasMeasured, .instanceMethod yX5_hasMeasured, .selects RX5 yX5_hasMeasured yX5_hasMeasured, .initialized RX5, .code yX5_hasMeasured cX5_hasMeasured 3 (some .boolean), .fieldLink RX5 37 "TickFallModel" "laid" "[I", .methodLink RX5 117 yX5_isLink, .instanceMethod yX5_isLink, .selects RX5 yX5_isLink yX5_isLink, .code yX5_isLink cX5_isLink 2 (some .boolean), .methodLink RX5 99 yX5_in, .static yX5_in, .code yX5_in cX5_in 3 (some .boolean), .methodLink RX5 149 yX5_isDay, .instanceMethod yX5_isDay, .selects RX5 yX5_isDay yX5_isDay, .code yX5_isDay cX5_isDay 2 (some .boolean), .fieldLink RX5 106 "TickFallModel" "day" "I"] ++ wsX50)
def wsX5_slips_r1 : List Cond := [Cond.fieldLink RX5 103 "TickFallModel" "links" "I", Cond.methodLink RX5 149 yX5_isDay, Cond.instanceMethod yX5_isDay, Cond.selects RX5 yX5_isDay yX5_isDay, Cond.initialized RX5, Cond.code yX5_isDay cX5_isDay 2 (some .boolean), Cond.fieldLink RX5 106 "TickFallModel" "day" "I", Cond.methodLink RX5 99 yX5_in, Cond.static yX5_in, Cond.code yX5_in cX5_in 3 (some .boolean), Cond.methodLink RX5 109 yX5_goes, Cond.instanceMethod yX5_goes, Cond.selects RX5 yX5_goes yX5_goes, Cond.code yX5_goes cX5_goes 4 (some .boolean), Cond.fieldLink RX5 93 "TickFallModel" "thrown" "I", Cond.methodLink RX5 181 yX5_laysRings, Cond.instanceMethod yX5_laysRings, Cond.selects RX5 yX5_laysRings yX5_laysRings, Cond.code yX5_laysRings cX5_laysRings 6 none, Cond.fieldLink RX5 161 "TickFallModel" "rings" "I", Cond.fieldLink RX5 74 "TickFallModel" "cycles" "[I", Cond.methodLink RX5 152 yX5_hasMeasured, Cond.instanceMethod yX5_hasMeasured, Cond.selects RX5 yX5_hasMeasured yX5_hasMeasured]
def wsX5_slips_r2 : List Cond := [Cond.code yX5_hasMeasured cX5_hasMeasured 3 (some .boolean), Cond.fieldLink RX5 37 "TickFallModel" "laid" "[I", Cond.methodLink RX5 117 yX5_isLink, Cond.instanceMethod yX5_isLink, Cond.selects RX5 yX5_isLink yX5_isLink, Cond.code yX5_isLink cX5_isLink 2 (some .boolean), Cond.methodLink RX5 168 yX5_isRing, Cond.instanceMethod yX5_isRing, Cond.selects RX5 yX5_isRing yX5_isRing, Cond.code yX5_isRing cX5_isRing 7 (some .boolean), Cond.fieldLink RX5 28 "TickFallModel" "two" "[I", Cond.fieldLink RX5 25 "TickFallModel" "one" "[I", Cond.methodLink RX5 158 yX5_otherEnd, Cond.instanceMethod yX5_otherEnd, Cond.selects RX5 yX5_otherEnd yX5_otherEnd, Cond.code yX5_otherEnd cX5_otherEnd 3 (some .int), Cond.methodLink RX5 171 yX5_laysRing, Cond.instanceMethod yX5_laysRing, Cond.selects RX5 yX5_laysRing yX5_laysRing, Cond.code yX5_laysRing cX5_laysRing 6 none, Cond.methodLink RX5 164 yX5_goesBy, Cond.instanceMethod yX5_goesBy, Cond.selects RX5 yX5_goesBy yX5_goesBy, Cond.code yX5_goesBy cX5_goesBy 6 none]
def wsX5_slips_r3 : List Cond := [Cond.fieldLink RX5 77 "TickFallModel" "ringOf" "[I", Cond.fieldLink RX5 80 "TickFallModel" "sign" "[I", Cond.fieldLink RX5 83 "TickFallModel" "sum" "[I", Cond.methodLink RX5 155 yX5_corrected, Cond.instanceMethod yX5_corrected, Cond.selects RX5 yX5_corrected yX5_corrected, Cond.code yX5_corrected cX5_corrected 5 (some .int), Cond.fieldLink RX5 40 "TickFallModel" "counts" "[I", Cond.fieldLink RX5 55 "TickFallModel" "given" "[I", Cond.fieldLink RX5 58 "TickFallModel" "from" "[I", Cond.fieldLink RX5 61 "TickFallModel" "to" "[I", Cond.fieldLink RX5 64 "TickFallModel" "takes" "[I", Cond.methodLink RX5 187 yX5_laysOut, Cond.instanceMethod yX5_laysOut, Cond.selects RX5 yX5_laysOut yX5_laysOut, Cond.code yX5_laysOut cX5_laysOut 6 (some .int), Cond.methodLink RX5 184 yX5_openRings, Cond.instanceMethod yX5_openRings, Cond.selects RX5 yX5_openRings yX5_openRings, Cond.code yX5_openRings cX5_openRings 5 (some .int), Cond.fieldLink RX5 86 "TickFallModel" "doubt" "I"]
def wsX5_slips : List Cond := .code yX5_slips cX5_slips 7 (some .int) :: ((wsX5_slips_r1 ++ (wsX5_slips_r2 ++ wsX5_slips_r3)) ++ wsX50)
def wsX5_mean_r1 : List Cond := [Cond.fieldLink RX5 96 "TickFallModel" "clocks" "I", Cond.methodLink RX5 149 yX5_isDay, Cond.instanceMethod yX5_isDay, Cond.selects RX5 yX5_isDay yX5_isDay, Cond.initialized RX5, Cond.code yX5_isDay cX5_isDay 2 (some .boolean), Cond.fieldLink RX5 106 "TickFallModel" "day" "I", Cond.methodLink RX5 99 yX5_in, Cond.static yX5_in, Cond.code yX5_in cX5_in 3 (some .boolean), Cond.methodLink RX5 109 yX5_goes, Cond.instanceMethod yX5_goes, Cond.selects RX5 yX5_goes yX5_goes, Cond.code yX5_goes cX5_goes 4 (some .boolean), Cond.fieldLink RX5 93 "TickFallModel" "thrown" "I", Cond.methodLink RX5 142 yX5_meanOf, Cond.instanceMethod yX5_meanOf, Cond.selects RX5 yX5_meanOf yX5_meanOf, Cond.code yX5_meanOf cX5_meanOf 9 (some .int), Cond.fieldLink RX5 22 "TickFallModel" "weight" "[I", Cond.fieldLink RX5 25 "TickFallModel" "one" "[I", Cond.methodLink RX5 190 yX5_linkOf, Cond.instanceMethod yX5_linkOf, Cond.selects RX5 yX5_linkOf yX5_linkOf]
def wsX5_mean_r2 : List Cond := [Cond.code yX5_linkOf cX5_linkOf 6 (some .int), Cond.fieldLink RX5 103 "TickFallModel" "links" "I", Cond.fieldLink RX5 28 "TickFallModel" "two" "[I", Cond.methodLink RX5 152 yX5_hasMeasured, Cond.instanceMethod yX5_hasMeasured, Cond.selects RX5 yX5_hasMeasured yX5_hasMeasured, Cond.code yX5_hasMeasured cX5_hasMeasured 3 (some .boolean), Cond.fieldLink RX5 37 "TickFallModel" "laid" "[I", Cond.methodLink RX5 117 yX5_isLink, Cond.instanceMethod yX5_isLink, Cond.selects RX5 yX5_isLink yX5_isLink, Cond.code yX5_isLink cX5_isLink 2 (some .boolean), Cond.methodLink RX5 155 yX5_corrected, Cond.instanceMethod yX5_corrected, Cond.selects RX5 yX5_corrected yX5_corrected, Cond.code yX5_corrected cX5_corrected 5 (some .int), Cond.fieldLink RX5 40 "TickFallModel" "counts" "[I", Cond.fieldLink RX5 55 "TickFallModel" "given" "[I", Cond.fieldLink RX5 58 "TickFallModel" "from" "[I", Cond.fieldLink RX5 61 "TickFallModel" "to" "[I", Cond.fieldLink RX5 64 "TickFallModel" "takes" "[I"]
def wsX5_mean : List Cond := .code yX5_mean cX5_mean 2 (some .int) :: ((wsX5_mean_r1 ++ wsX5_mean_r2) ++ wsX50)
def wsX5_published_r1 : List Cond := [Cond.fieldLink RX5 67 "TickFallModel" "told" "[I", Cond.fieldLink RX5 90 "TickFallModel" "step" "I", Cond.methodLink RX5 149 yX5_isDay, Cond.instanceMethod yX5_isDay, Cond.selects RX5 yX5_isDay yX5_isDay, Cond.initialized RX5, Cond.code yX5_isDay cX5_isDay 2 (some .boolean), Cond.fieldLink RX5 106 "TickFallModel" "day" "I", Cond.methodLink RX5 99 yX5_in, Cond.static yX5_in, Cond.code yX5_in cX5_in 3 (some .boolean), Cond.methodLink RX5 109 yX5_goes, Cond.instanceMethod yX5_goes, Cond.selects RX5 yX5_goes yX5_goes, Cond.code yX5_goes cX5_goes 4 (some .boolean), Cond.fieldLink RX5 93 "TickFallModel" "thrown" "I", Cond.methodLink RX5 142 yX5_meanOf, Cond.instanceMethod yX5_meanOf, Cond.selects RX5 yX5_meanOf yX5_meanOf, Cond.code yX5_meanOf cX5_meanOf 9 (some .int), Cond.fieldLink RX5 96 "TickFallModel" "clocks" "I", Cond.fieldLink RX5 22 "TickFallModel" "weight" "[I", Cond.fieldLink RX5 25 "TickFallModel" "one" "[I", Cond.methodLink RX5 190 yX5_linkOf]
def wsX5_published_r2 : List Cond := [Cond.instanceMethod yX5_linkOf, Cond.selects RX5 yX5_linkOf yX5_linkOf, Cond.code yX5_linkOf cX5_linkOf 6 (some .int), Cond.fieldLink RX5 103 "TickFallModel" "links" "I", Cond.fieldLink RX5 28 "TickFallModel" "two" "[I", Cond.methodLink RX5 152 yX5_hasMeasured, Cond.instanceMethod yX5_hasMeasured, Cond.selects RX5 yX5_hasMeasured yX5_hasMeasured, Cond.code yX5_hasMeasured cX5_hasMeasured 3 (some .boolean), Cond.fieldLink RX5 37 "TickFallModel" "laid" "[I", Cond.methodLink RX5 117 yX5_isLink, Cond.instanceMethod yX5_isLink, Cond.selects RX5 yX5_isLink yX5_isLink, Cond.code yX5_isLink cX5_isLink 2 (some .boolean), Cond.methodLink RX5 155 yX5_corrected, Cond.instanceMethod yX5_corrected, Cond.selects RX5 yX5_corrected yX5_corrected, Cond.code yX5_corrected cX5_corrected 5 (some .int), Cond.fieldLink RX5 40 "TickFallModel" "counts" "[I", Cond.fieldLink RX5 55 "TickFallModel" "given" "[I", Cond.fieldLink RX5 58 "TickFallModel" "from" "[I", Cond.fieldLink RX5 61 "TickFallModel" "to" "[I", Cond.fieldLink RX5 64 "TickFallModel" "takes" "[I", Cond.methodLink RX5 130 yX5_held]
def wsX5_published_r3 : List Cond := [Cond.static yX5_held, Cond.code yX5_held cX5_held 2 (some .int)]
def wsX5_published : List Cond := .code yX5_published cX5_published 5 (some .int) :: ((wsX5_published_r1 ++ (wsX5_published_r2 ++ wsX5_published_r3)) ++ wsX50)
def wsX5_height_r1 : List Cond := [Cond.constantLong RX5 193 (100), Cond.methodLink RX5 152 yX5_hasMeasured, Cond.instanceMethod yX5_hasMeasured, Cond.selects RX5 yX5_hasMeasured yX5_hasMeasured, Cond.initialized RX5, Cond.code yX5_hasMeasured cX5_hasMeasured 3 (some .boolean), Cond.fieldLink RX5 37 "TickFallModel" "laid" "[I", Cond.methodLink RX5 117 yX5_isLink, Cond.instanceMethod yX5_isLink, Cond.selects RX5 yX5_isLink yX5_isLink, Cond.code yX5_isLink cX5_isLink 2 (some .boolean), Cond.fieldLink RX5 103 "TickFallModel" "links" "I", Cond.methodLink RX5 99 yX5_in, Cond.static yX5_in, Cond.code yX5_in cX5_in 3 (some .boolean), Cond.methodLink RX5 149 yX5_isDay, Cond.instanceMethod yX5_isDay, Cond.selects RX5 yX5_isDay yX5_isDay, Cond.code yX5_isDay cX5_isDay 2 (some .boolean), Cond.fieldLink RX5 106 "TickFallModel" "day" "I", Cond.methodLink RX5 109 yX5_goes, Cond.instanceMethod yX5_goes, Cond.selects RX5 yX5_goes yX5_goes, Cond.code yX5_goes cX5_goes 4 (some .boolean)]
def wsX5_height_r2 : List Cond := [Cond.fieldLink RX5 93 "TickFallModel" "thrown" "I", Cond.methodLink RX5 155 yX5_corrected, Cond.instanceMethod yX5_corrected, Cond.selects RX5 yX5_corrected yX5_corrected, Cond.code yX5_corrected cX5_corrected 5 (some .int), Cond.fieldLink RX5 40 "TickFallModel" "counts" "[I", Cond.fieldLink RX5 55 "TickFallModel" "given" "[I", Cond.fieldLink RX5 58 "TickFallModel" "from" "[I", Cond.fieldLink RX5 61 "TickFallModel" "to" "[I", Cond.fieldLink RX5 64 "TickFallModel" "takes" "[I"]
def wsX5_height : List Cond := .code yX5_height cX5_height 9 (some .int) :: ((wsX5_height_r1 ++ wsX5_height_r2) ++ wsX50)
def wsX5_forIt : List Cond := .code yX5_forIt cX5_forIt 3 (some .int) :: ([.fieldLink RX5 70 "TickFallModel" "isFor" "[Z"] ++ wsX50)
def wsX5_vote : List Cond := .code yX5_vote cX5_vote 3 (some .int) :: ([.fieldLink RX5 70 "TickFallModel" "isFor" "[Z", .methodLink RX5 99 yX5_in, .static yX5_in, .initialized RX5, .code yX5_in cX5_in 3 (some .boolean), .methodLink RX5 109 yX5_goes, .instanceMethod yX5_goes, .selects RX5 yX5_goes yX5_goes, .code yX5_goes cX5_goes 4 (some .boolean), .fieldLink RX5 93 "TickFallModel" "thrown" "I", .methodLink RX5 195 yX5_forIt, .instanceMethod yX5_forIt, .selects RX5 yX5_forIt yX5_forIt, .code yX5_forIt cX5_forIt 3 (some .int)] ++ wsX50)
def wsX5_adopt_r1 : List Cond := [Cond.fieldLink RX5 198 "TickFallModel" "isAdopted" "Z", Cond.fieldLink RX5 106 "TickFallModel" "day" "I", Cond.methodLink RX5 109 yX5_goes, Cond.instanceMethod yX5_goes, Cond.selects RX5 yX5_goes yX5_goes, Cond.initialized RX5, Cond.code yX5_goes cX5_goes 4 (some .boolean), Cond.fieldLink RX5 93 "TickFallModel" "thrown" "I", Cond.methodLink RX5 181 yX5_laysRings, Cond.instanceMethod yX5_laysRings, Cond.selects RX5 yX5_laysRings yX5_laysRings, Cond.code yX5_laysRings cX5_laysRings 6 none, Cond.fieldLink RX5 161 "TickFallModel" "rings" "I", Cond.fieldLink RX5 74 "TickFallModel" "cycles" "[I", Cond.fieldLink RX5 103 "TickFallModel" "links" "I", Cond.methodLink RX5 152 yX5_hasMeasured, Cond.instanceMethod yX5_hasMeasured, Cond.selects RX5 yX5_hasMeasured yX5_hasMeasured, Cond.code yX5_hasMeasured cX5_hasMeasured 3 (some .boolean), Cond.fieldLink RX5 37 "TickFallModel" "laid" "[I", Cond.methodLink RX5 117 yX5_isLink, Cond.instanceMethod yX5_isLink, Cond.selects RX5 yX5_isLink yX5_isLink, Cond.code yX5_isLink cX5_isLink 2 (some .boolean)]
def wsX5_adopt_r2 : List Cond := [Cond.methodLink RX5 99 yX5_in, Cond.static yX5_in, Cond.code yX5_in cX5_in 3 (some .boolean), Cond.methodLink RX5 149 yX5_isDay, Cond.instanceMethod yX5_isDay, Cond.selects RX5 yX5_isDay yX5_isDay, Cond.code yX5_isDay cX5_isDay 2 (some .boolean), Cond.methodLink RX5 168 yX5_isRing, Cond.instanceMethod yX5_isRing, Cond.selects RX5 yX5_isRing yX5_isRing, Cond.code yX5_isRing cX5_isRing 7 (some .boolean), Cond.fieldLink RX5 28 "TickFallModel" "two" "[I", Cond.fieldLink RX5 25 "TickFallModel" "one" "[I", Cond.methodLink RX5 158 yX5_otherEnd, Cond.instanceMethod yX5_otherEnd, Cond.selects RX5 yX5_otherEnd yX5_otherEnd, Cond.code yX5_otherEnd cX5_otherEnd 3 (some .int), Cond.methodLink RX5 171 yX5_laysRing, Cond.instanceMethod yX5_laysRing, Cond.selects RX5 yX5_laysRing yX5_laysRing, Cond.code yX5_laysRing cX5_laysRing 6 none, Cond.methodLink RX5 164 yX5_goesBy, Cond.instanceMethod yX5_goesBy, Cond.selects RX5 yX5_goesBy yX5_goesBy]
def wsX5_adopt_r3 : List Cond := [Cond.code yX5_goesBy cX5_goesBy 6 none, Cond.fieldLink RX5 77 "TickFallModel" "ringOf" "[I", Cond.fieldLink RX5 80 "TickFallModel" "sign" "[I", Cond.fieldLink RX5 83 "TickFallModel" "sum" "[I", Cond.methodLink RX5 155 yX5_corrected, Cond.instanceMethod yX5_corrected, Cond.selects RX5 yX5_corrected yX5_corrected, Cond.code yX5_corrected cX5_corrected 5 (some .int), Cond.fieldLink RX5 40 "TickFallModel" "counts" "[I", Cond.fieldLink RX5 55 "TickFallModel" "given" "[I", Cond.fieldLink RX5 58 "TickFallModel" "from" "[I", Cond.fieldLink RX5 61 "TickFallModel" "to" "[I", Cond.fieldLink RX5 64 "TickFallModel" "takes" "[I", Cond.methodLink RX5 195 yX5_forIt, Cond.instanceMethod yX5_forIt, Cond.selects RX5 yX5_forIt yX5_forIt, Cond.code yX5_forIt cX5_forIt 3 (some .int), Cond.fieldLink RX5 70 "TickFallModel" "isFor" "[Z", Cond.methodLink RX5 184 yX5_openRings, Cond.instanceMethod yX5_openRings, Cond.selects RX5 yX5_openRings yX5_openRings, Cond.code yX5_openRings cX5_openRings 5 (some .int), Cond.fieldLink RX5 86 "TickFallModel" "doubt" "I"]
def wsX5_adopt : List Cond := .code yX5_adopt cX5_adopt 1 (some .boolean) :: ((wsX5_adopt_r1 ++ (wsX5_adopt_r2 ++ wsX5_adopt_r3)) ++ wsX50)
def wsX5_day : List Cond := .code yX5_day cX5_day 1 (some .int) :: ([.fieldLink RX5 93 "TickFallModel" "thrown" "I", .fieldLink RX5 106 "TickFallModel" "day" "I"] ++ wsX50)
def wsX5_of : List Cond := .code yX5_of cX5_of 3 (some .int) :: ([.fieldLink RX5 19 "TickFallModel" "phase" "[I", .fieldLink RX5 7 "TickFallModel" "rate" "[I", .fieldLink RX5 16 "TickFallModel" "height" "[I", .methodLink RX5 113 yX5_isClock, .instanceMethod yX5_isClock, .selects RX5 yX5_isClock yX5_isClock, .initialized RX5, .code yX5_isClock cX5_isClock 2 (some .boolean), .fieldLink RX5 96 "TickFallModel" "clocks" "I", .methodLink RX5 99 yX5_in, .static yX5_in, .code yX5_in cX5_in 3 (some .boolean), .methodLink RX5 109 yX5_goes, .instanceMethod yX5_goes, .selects RX5 yX5_goes yX5_goes, .code yX5_goes cX5_goes 4 (some .boolean), .fieldLink RX5 93 "TickFallModel" "thrown" "I"] ++ wsX50)
def wsX5_events : List Cond := .code yX5_events cX5_events 1 (some .int) :: ([.fieldLink RX5 93 "TickFallModel" "thrown" "I", .fieldLink RX5 124 "TickFallModel" "events" "I"] ++ wsX50)
def wsJ9_abs_0f7a4 : List Cond := .code yJ9_abs_0f7a4 cJ9_abs_0f7a4 1 (some .int) :: ([])
def wsJ9_max_7cf53 : List Cond := .code yJ9_max_7cf53 cJ9_max_7cf53 2 (some .int) :: ([])
def wsJ9_min_7cf53 : List Cond := .code yJ9_min_7cf53 cJ9_min_7cf53 2 (some .int) :: ([])
def wsL_clock_r1 : List Cond := [Cond.classLink RL 13 "java/lang/IllegalArgumentException", Cond.methodLink RL 7 yX4_clock, Cond.instanceMethod yX4_clock, Cond.selects RX4 yX4_clock yX4_clock, Cond.initialized RX4, Cond.code yX4_clock cX4_clock 3 (some .int), Cond.classLink RX4 63 "java/lang/IllegalArgumentException", Cond.initialized "java/lang/IllegalArgumentException", Cond.classLink RX4 74 "java/lang/IllegalStateException", Cond.initialized "java/lang/IllegalStateException", Cond.fieldLink RX4 10 "TickFall" "clocks" "LTickFall$Clocks;", Cond.methodLink RX4 59 yX4_isWithin, Cond.static yX4_isWithin, Cond.code yX4_isWithin cX4_isWithin 3 (some .boolean), Cond.methodLink RX4 70 yX1_count, Cond.instanceMethod yX1_count, Cond.selects RX1 yX1_count yX1_count, Cond.initialized RX1, Cond.code yX1_count cX1_count 1 (some .int), Cond.fieldLink RX1 27 "TickFall$Clocks" "count" "I", Cond.methodLink RX4 79 yX1_add, Cond.instanceMethod yX1_add, Cond.selects RX1 yX1_add yX1_add, Cond.code yX1_add cX1_add 4 (some .int)]
def wsL_clock_r2 : List Cond := [Cond.fieldLink RX1 9 "TickFall$Clocks" "rates" "[I", Cond.fieldLink RX1 21 "TickFall$Clocks" "heights" "[I", Cond.fieldLink RX1 18 "TickFall$Clocks" "weights" "[I"]
def wsL_clock : List Cond := .codeWith yL_clock cL_clock 5 (some .int) [(0, 10, 13, 13), (0, 10, 17, 15)] :: ((wsL_clock_r1 ++ wsL_clock_r2) ++ wsX40 ++ wsX10 ++ (vx_atS RX4 67 "java/lang/IllegalArgumentException" ["java/lang/RuntimeException", "java/lang/Exception"]).filter goodWord ++ (vx_atS RX4 78 "java/lang/IllegalStateException" ["java/lang/RuntimeException", "java/lang/Exception"]).filter goodWord)
def wsL_tell_r1 : List Cond := [Cond.classLink RL 21 "java/lang/IndexOutOfBoundsException", Cond.methodLink RL 17 yX4_tell, Cond.instanceMethod yX4_tell, Cond.selects RX4 yX4_tell yX4_tell, Cond.initialized RX4, Cond.code yX4_tell cX4_tell 5 (some .int), Cond.classLink RX4 87 "java/lang/IndexOutOfBoundsException", Cond.initialized "java/lang/IndexOutOfBoundsException", Cond.classLink RX4 63 "java/lang/IllegalArgumentException", Cond.initialized "java/lang/IllegalArgumentException", Cond.fieldLink RX4 10 "TickFall" "clocks" "LTickFall$Clocks;", Cond.methodLink RX4 83 yX1_has, Cond.instanceMethod yX1_has, Cond.selects RX1 yX1_has yX1_has, Cond.initialized RX1, Cond.code yX1_has cX1_has 2 (some .boolean), Cond.fieldLink RX1 27 "TickFall$Clocks" "count" "I", Cond.methodLink RX4 59 yX4_isWithin, Cond.static yX4_isWithin, Cond.code yX4_isWithin cX4_isWithin 3 (some .boolean), Cond.methodLink RX4 94 yX1_weightOf, Cond.instanceMethod yX1_weightOf, Cond.selects RX1 yX1_weightOf yX1_weightOf, Cond.code yX1_weightOf cX1_weightOf 2 (some .int)]
def wsL_tell_r2 : List Cond := [Cond.fieldLink RX1 18 "TickFall$Clocks" "weights" "[I", Cond.methodLink RX4 98 yX1_setDriftAndWeight, Cond.instanceMethod yX1_setDriftAndWeight, Cond.selects RX1 yX1_setDriftAndWeight yX1_setDriftAndWeight, Cond.code yX1_setDriftAndWeight cX1_setDriftAndWeight 4 none, Cond.fieldLink RX1 15 "TickFall$Clocks" "drifts" "[I"]
def wsL_tell : List Cond := .codeWith yL_tell cL_tell 6 (some .int) [(0, 12, 15, 21), (0, 12, 19, 13)] :: ((wsL_tell_r1 ++ wsL_tell_r2) ++ wsX40 ++ wsX10 ++ (vx_atS RX4 91 "java/lang/IndexOutOfBoundsException" ["java/lang/RuntimeException", "java/lang/Exception"]).filter goodWord ++ (vx_atS RX4 67 "java/lang/IllegalArgumentException" ["java/lang/RuntimeException", "java/lang/Exception"]).filter goodWord)
def wsL_link_r1 : List Cond := [Cond.classLink RL 21 "java/lang/IndexOutOfBoundsException", Cond.methodLink RL 23 yX4_link, Cond.instanceMethod yX4_link, Cond.selects RX4 yX4_link yX4_link, Cond.initialized RX4, Cond.code yX4_link cX4_link 4 (some .int), Cond.classLink RX4 87 "java/lang/IndexOutOfBoundsException", Cond.initialized "java/lang/IndexOutOfBoundsException", Cond.classLink RX4 63 "java/lang/IllegalArgumentException", Cond.initialized "java/lang/IllegalArgumentException", Cond.classLink RX4 74 "java/lang/IllegalStateException", Cond.initialized "java/lang/IllegalStateException", Cond.fieldLink RX4 10 "TickFall" "clocks" "LTickFall$Clocks;", Cond.fieldLink RX4 19 "TickFall" "links" "LTickFall$Links;", Cond.fieldLink RX4 45 "TickFall" "today" "I", Cond.methodLink RX4 83 yX1_has, Cond.instanceMethod yX1_has, Cond.selects RX1 yX1_has yX1_has, Cond.initialized RX1, Cond.code yX1_has cX1_has 2 (some .boolean), Cond.fieldLink RX1 27 "TickFall$Clocks" "count" "I", Cond.methodLink RX4 59 yX4_isWithin, Cond.static yX4_isWithin, Cond.code yX4_isWithin cX4_isWithin 3 (some .boolean)]
def wsL_link_r2 : List Cond := [Cond.methodLink RX4 104 yX2_count, Cond.instanceMethod yX2_count, Cond.selects RX2 yX2_count yX2_count, Cond.initialized RX2, Cond.code yX2_count cX2_count 1 (some .int), Cond.fieldLink RX2 38 "TickFall$Links" "count" "I", Cond.methodLink RX4 107 yX2_add, Cond.instanceMethod yX2_add, Cond.selects RX2 yX2_add yX2_add, Cond.code yX2_add cX2_add 6 (some .int), Cond.fieldLink RX2 9 "TickFall$Links" "firsts" "[I", Cond.fieldLink RX2 15 "TickFall$Links" "seconds" "[I", Cond.fieldLink RX2 18 "TickFall$Links" "asymmetries" "[I", Cond.fieldLink RX2 24 "TickFall$Links" "laidOn" "[I"]
def wsL_link : List Cond := .codeWith yL_link cL_link 6 (some .int) [(0, 12, 15, 21), (0, 12, 19, 13), (0, 12, 23, 15)] :: ((wsL_link_r1 ++ wsL_link_r2) ++ wsX40 ++ wsX10 ++ wsX20 ++ (vx_atS RX4 91 "java/lang/IndexOutOfBoundsException" ["java/lang/RuntimeException", "java/lang/Exception"]).filter goodWord ++ (vx_atS RX4 67 "java/lang/IllegalArgumentException" ["java/lang/RuntimeException", "java/lang/Exception"]).filter goodWord ++ (vx_atS RX4 78 "java/lang/IllegalStateException" ["java/lang/RuntimeException", "java/lang/Exception"]).filter goodWord)
def wsL_event_r1 : List Cond := [Cond.classLink RL 13 "java/lang/IllegalArgumentException", Cond.methodLink RL 26 yX4_event, Cond.instanceMethod yX4_event, Cond.selects RX4 yX4_event yX4_event, Cond.initialized RX4, Cond.code yX4_event cX4_event 6 (some .int), Cond.classLink RX4 63 "java/lang/IllegalArgumentException", Cond.initialized "java/lang/IllegalArgumentException", Cond.classLink RX4 87 "java/lang/IndexOutOfBoundsException", Cond.initialized "java/lang/IndexOutOfBoundsException", Cond.classLink RX4 74 "java/lang/IllegalStateException", Cond.initialized "java/lang/IllegalStateException", Cond.fieldLink RX4 45 "TickFall" "today" "I", Cond.fieldLink RX4 10 "TickFall" "clocks" "LTickFall$Clocks;", Cond.fieldLink RX4 19 "TickFall" "links" "LTickFall$Links;", Cond.fieldLink RX4 26 "TickFall" "agenda" "LTickFall$Agenda;", Cond.methodLink RX4 59 yX4_isWithin, Cond.static yX4_isWithin, Cond.code yX4_isWithin cX4_isWithin 3 (some .boolean), Cond.methodLink RX4 83 yX1_has, Cond.instanceMethod yX1_has, Cond.selects RX1 yX1_has yX1_has, Cond.initialized RX1, Cond.code yX1_has cX1_has 2 (some .boolean)]
def wsL_event_r2 : List Cond := [Cond.fieldLink RX1 27 "TickFall$Clocks" "count" "I", Cond.methodLink RX4 112 yX2_has, Cond.instanceMethod yX2_has, Cond.selects RX2 yX2_has yX2_has, Cond.initialized RX2, Cond.code yX2_has cX2_has 2 (some .boolean), Cond.fieldLink RX2 38 "TickFall$Links" "count" "I", Cond.methodLink RX4 115 yX4_isAmountOf, Cond.static yX4_isAmountOf, Cond.code yX4_isAmountOf cX4_isAmountOf 2 (some .boolean), Cond.methodLink RX4 119 yX0_count, Cond.instanceMethod yX0_count, Cond.selects RX0 yX0_count yX0_count, Cond.initialized RX0, Cond.code yX0_count cX0_count 1 (some .int), Cond.fieldLink RX0 15 "TickFall$Agenda" "count" "I", Cond.methodLink RX4 122 yX0_add, Cond.instanceMethod yX0_add, Cond.selects RX0 yX0_add yX0_add, Cond.code yX0_add cX0_add 7 none, Cond.fieldLink RX0 11 "TickFall$Agenda" "rows" "[I"]
def wsL_event : List Cond := .codeWith yL_event cL_event 7 (some .int) [(0, 14, 17, 13), (0, 14, 21, 21), (0, 14, 25, 15)] :: ((wsL_event_r1 ++ wsL_event_r2) ++ wsX40 ++ wsX10 ++ wsX20 ++ wsX00 ++ (vx_atS RX4 67 "java/lang/IllegalArgumentException" ["java/lang/RuntimeException", "java/lang/Exception"]).filter goodWord ++ (vx_atS RX4 91 "java/lang/IndexOutOfBoundsException" ["java/lang/RuntimeException", "java/lang/Exception"]).filter goodWord ++ (vx_atS RX4 78 "java/lang/IllegalStateException" ["java/lang/RuntimeException", "java/lang/Exception"]).filter goodWord)
def wsL_calibrate_r1 : List Cond := [Cond.classLink RL 21 "java/lang/IndexOutOfBoundsException", Cond.methodLink RL 30 yX4_calibrate, Cond.instanceMethod yX4_calibrate, Cond.selects RX4 yX4_calibrate yX4_calibrate, Cond.initialized RX4, Cond.code yX4_calibrate cX4_calibrate 5 (some .int), Cond.classLink RX4 87 "java/lang/IndexOutOfBoundsException", Cond.initialized "java/lang/IndexOutOfBoundsException", Cond.classLink RX4 63 "java/lang/IllegalArgumentException", Cond.initialized "java/lang/IllegalArgumentException", Cond.classLink RX4 74 "java/lang/IllegalStateException", Cond.initialized "java/lang/IllegalStateException", Cond.fieldLink RX4 19 "TickFall" "links" "LTickFall$Links;", Cond.methodLink RX4 112 yX2_has, Cond.instanceMethod yX2_has, Cond.selects RX2 yX2_has yX2_has, Cond.initialized RX2, Cond.code yX2_has cX2_has 2 (some .boolean), Cond.fieldLink RX2 38 "TickFall$Links" "count" "I", Cond.methodLink RX4 59 yX4_isWithin, Cond.static yX4_isWithin, Cond.code yX4_isWithin cX4_isWithin 3 (some .boolean), Cond.methodLink RX4 129 yX2_calibrationsOf, Cond.instanceMethod yX2_calibrationsOf]
def wsL_calibrate_r2 : List Cond := [Cond.selects RX2 yX2_calibrationsOf yX2_calibrationsOf, Cond.code yX2_calibrationsOf cX2_calibrationsOf 2 (some .int), Cond.fieldLink RX2 27 "TickFall$Links" "calibrations" "[I", Cond.methodLink RX4 134 yX2_addCalibration, Cond.instanceMethod yX2_addCalibration, Cond.selects RX2 yX2_addCalibration yX2_addCalibration, Cond.code yX2_addCalibration cX2_addCalibration 6 (some .int), Cond.fieldLink RX2 35 "TickFall$Links" "offsets" "[[I"]
def wsL_calibrate : List Cond := .codeWith yL_calibrate cL_calibrate 7 (some .int) [(0, 14, 17, 21), (0, 14, 21, 13), (0, 14, 25, 15)] :: ((wsL_calibrate_r1 ++ wsL_calibrate_r2) ++ wsX40 ++ wsX20 ++ (vx_atS RX4 91 "java/lang/IndexOutOfBoundsException" ["java/lang/RuntimeException", "java/lang/Exception"]).filter goodWord ++ (vx_atS RX4 67 "java/lang/IllegalArgumentException" ["java/lang/RuntimeException", "java/lang/Exception"]).filter goodWord ++ (vx_atS RX4 78 "java/lang/IllegalStateException" ["java/lang/RuntimeException", "java/lang/Exception"]).filter goodWord)
def wsL_bounds : List Cond := .codeWith yL_bounds cL_bounds 4 (some .int) [(0, 6, 9, 13)] :: ([.classLink RL 13 "java/lang/IllegalArgumentException", .methodLink RL 33 yX4_bounds, .instanceMethod yX4_bounds, .selects RX4 yX4_bounds yX4_bounds, .initialized RX4, .code yX4_bounds cX4_bounds 3 none, .classLink RX4 63 "java/lang/IllegalArgumentException", .initialized "java/lang/IllegalArgumentException", .fieldLink RX4 49 "TickFall" "doubt" "I", .fieldLink RX4 52 "TickFall" "step" "I", .methodLink RX4 59 yX4_isWithin, .static yX4_isWithin, .code yX4_isWithin cX4_isWithin 3 (some .boolean)] ++ wsX40 ++ (vx_atS RX4 67 "java/lang/IllegalArgumentException" ["java/lang/RuntimeException", "java/lang/Exception"]).filter goodWord)
def wsL_pass_r1 : List Cond := [Cond.classLink RL 13 "java/lang/IllegalArgumentException", Cond.methodLink RL 37 yX4_pass, Cond.instanceMethod yX4_pass, Cond.selects RX4 yX4_pass yX4_pass, Cond.initialized RX4, Cond.code yX4_pass cX4_pass 3 (some .int), Cond.classLink RX4 63 "java/lang/IllegalArgumentException", Cond.initialized "java/lang/IllegalArgumentException", Cond.classLink RX4 74 "java/lang/IllegalStateException", Cond.initialized "java/lang/IllegalStateException", Cond.fieldLink RX4 45 "TickFall" "today" "I", Cond.methodLink RX4 59 yX4_isWithin, Cond.static yX4_isWithin, Cond.code yX4_isWithin cX4_isWithin 3 (some .boolean), Cond.methodLink RX4 143 yX4_passOneDay, Cond.instanceMethod yX4_passOneDay, Cond.selects RX4 yX4_passOneDay yX4_passOneDay, Cond.code yX4_passOneDay cX4_passOneDay 3 none, Cond.fieldLink RX4 37 "TickFall" "steeredTimes" "[I", Cond.fieldLink RX4 26 "TickFall" "agenda" "LTickFall$Agenda;", Cond.fieldLink RX4 10 "TickFall" "clocks" "LTickFall$Clocks;", Cond.fieldLink RX4 19 "TickFall" "links" "LTickFall$Links;", Cond.methodLink RX4 119 yX0_count, Cond.instanceMethod yX0_count]
def wsL_pass_r2 : List Cond := [Cond.selects RX0 yX0_count yX0_count, Cond.initialized RX0, Cond.code yX0_count cX0_count 1 (some .int), Cond.fieldLink RX0 15 "TickFall$Agenda" "count" "I", Cond.methodLink RX4 225 yX0_isNextDue, Cond.instanceMethod yX0_isNextDue, Cond.selects RX0 yX0_isNextDue yX0_isNextDue, Cond.code yX0_isNextDue cX0_isNextDue 2 (some .boolean), Cond.fieldLink RX0 11 "TickFall$Agenda" "rows" "[I", Cond.methodLink RX4 228 yX0_takeNext, Cond.instanceMethod yX0_takeNext, Cond.selects RX0 yX0_takeNext yX0_takeNext, Cond.code yX0_takeNext cX0_takeNext 1 (some .int), Cond.methodLink RX4 231 yX4_happen, Cond.instanceMethod yX4_happen, Cond.selects RX4 yX4_happen yX4_happen, Cond.code yX4_happen cX4_happen 4 none, Cond.methodLink RX4 245 yX0_numberOf, Cond.static yX0_numberOf, Cond.code yX0_numberOf cX0_numberOf 1 (some .int), Cond.methodLink RX4 248 yX0_amountOf, Cond.static yX0_amountOf, Cond.code yX0_amountOf cX0_amountOf 1 (some .int), Cond.methodLink RX4 251 yX0_kindOf]
def wsL_pass_r3 : List Cond := [Cond.static yX0_kindOf, Cond.code yX0_kindOf cX0_kindOf 1 (some .int), Cond.methodLink RX4 254 yX1_addToRate, Cond.instanceMethod yX1_addToRate, Cond.selects RX1 yX1_addToRate yX1_addToRate, Cond.initialized RX1, Cond.code yX1_addToRate cX1_addToRate 3 none, Cond.fieldLink RX1 9 "TickFall$Clocks" "rates" "[I", Cond.static yX4_held, Cond.code yX4_held cX4_held 2 (some .int), Cond.methodLink RX4 185 Lib.Math.min.name, Cond.static Lib.Math.min.name, Cond.initialized "java/lang/Math", Cond.code Lib.Math.min.name Lib.Math.min.code 2 (some .int), Cond.methodLink RX4 190 Lib.Math.max.name, Cond.static Lib.Math.max.name, Cond.code Lib.Math.max.name Lib.Math.max.code 2 (some .int), Cond.methodLink RX4 258 yX1_setHeight, Cond.instanceMethod yX1_setHeight, Cond.selects RX1 yX1_setHeight yX1_setHeight, Cond.code yX1_setHeight cX1_setHeight 3 none, Cond.fieldLink RX1 21 "TickFall$Clocks" "heights" "[I", Cond.methodLink RX4 261 yX2_setAsymmetry, Cond.instanceMethod yX2_setAsymmetry]
def wsL_pass_r4 : List Cond := [Cond.selects RX2 yX2_setAsymmetry yX2_setAsymmetry, Cond.initialized RX2, Cond.code yX2_setAsymmetry cX2_setAsymmetry 3 none, Cond.fieldLink RX2 18 "TickFall$Links" "asymmetries" "[I", Cond.methodLink RX4 264 yX2_addCycles, Cond.instanceMethod yX2_addCycles, Cond.selects RX2 yX2_addCycles yX2_addCycles, Cond.code yX2_addCycles cX2_addCycles 3 none, Cond.fieldLink RX2 21 "TickFall$Links" "cycles" "[I", Cond.methodLink RX4 235 yX1_run, Cond.instanceMethod yX1_run, Cond.selects RX1 yX1_run yX1_run, Cond.code yX1_run cX1_run 3 none, Cond.fieldLink RX1 27 "TickFall$Clocks" "count" "I", Cond.fieldLink RX1 24 "TickFall$Clocks" "phases" "[I", Cond.fieldLink RX1 15 "TickFall$Clocks" "drifts" "[I", Cond.methodLink RX1 35 yX1_addToRate, Cond.methodLink RX4 238 yX2_measureAll, Cond.instanceMethod yX2_measureAll, Cond.selects RX2 yX2_measureAll yX2_measureAll, Cond.code yX2_measureAll cX2_measureAll 5 none, Cond.fieldLink RX2 38 "TickFall$Links" "count" "I", Cond.fieldLink RX2 9 "TickFall$Links" "firsts" "[I", Cond.fieldLink RX2 15 "TickFall$Links" "seconds" "[I"]
def wsL_pass_r5 : List Cond := [Cond.fieldLink RX2 32 "TickFall$Links" "raw" "[[I", Cond.methodLink RX2 42 yX1_phaseOf, Cond.instanceMethod yX1_phaseOf, Cond.selects RX1 yX1_phaseOf yX1_phaseOf, Cond.code yX1_phaseOf cX1_phaseOf 2 (some .int), Cond.methodLink RX4 242 yX4_steered, Cond.instanceMethod yX4_steered, Cond.selects RX4 yX4_steered yX4_steered, Cond.code yX4_steered cX4_steered 3 (some .int), Cond.fieldLink RX4 52 "TickFall" "step" "I", Cond.methodLink RX4 210 yX4_meanOrZero, Cond.instanceMethod yX4_meanOrZero, Cond.selects RX4 yX4_meanOrZero yX4_meanOrZero, Cond.code yX4_meanOrZero cX4_meanOrZero 9 (some .int), Cond.methodLink RX4 70 yX1_count, Cond.instanceMethod yX1_count, Cond.selects RX1 yX1_count yX1_count, Cond.code yX1_count cX1_count 1 (some .int), Cond.methodLink RX4 94 yX1_weightOf, Cond.instanceMethod yX1_weightOf, Cond.selects RX1 yX1_weightOf yX1_weightOf, Cond.code yX1_weightOf cX1_weightOf 2 (some .int), Cond.fieldLink RX1 18 "TickFall$Clocks" "weights" "[I", Cond.methodLink RX4 104 yX2_count]
def wsL_pass_r6 : List Cond := [Cond.instanceMethod yX2_count, Cond.selects RX2 yX2_count yX2_count, Cond.code yX2_count cX2_count 1 (some .int), Cond.methodLink RX4 270 yX2_otherThanZero, Cond.instanceMethod yX2_otherThanZero, Cond.selects RX2 yX2_otherThanZero yX2_otherThanZero, Cond.code yX2_otherThanZero cX2_otherThanZero 2 (some .int), Cond.methodLink RX4 222 yX2_isLaidBefore, Cond.instanceMethod yX2_isLaidBefore, Cond.selects RX2 yX2_isLaidBefore yX2_isLaidBefore, Cond.code yX2_isLaidBefore cX2_isLaidBefore 3 (some .boolean), Cond.fieldLink RX2 24 "TickFall$Links" "laidOn" "[I", Cond.methodLink RX4 273 yX2_aheadOfZero, Cond.instanceMethod yX2_aheadOfZero, Cond.selects RX2 yX2_aheadOfZero yX2_aheadOfZero, Cond.code yX2_aheadOfZero cX2_aheadOfZero 4 (some .int), Cond.methodLink RX2 48 yX2_correctedOf, Cond.instanceMethod yX2_correctedOf, Cond.selects RX2 yX2_correctedOf yX2_correctedOf, Cond.code yX2_correctedOf cX2_correctedOf 3 (some .int), Cond.fieldLink RX2 35 "TickFall$Links" "offsets" "[[I", Cond.methodLink RX4 276 yX4_held]
def wsL_pass : List Cond := .codeWith yL_pass cL_pass 4 (some .int) [(0, 9, 12, 13), (0, 9, 15, 15)] :: ((wsL_pass_r1 ++ (wsL_pass_r2 ++ (wsL_pass_r3 ++ (wsL_pass_r4 ++ (wsL_pass_r5 ++ wsL_pass_r6))))) ++ wsX40 ++ wsX00 ++ wsX10 ++ wsX20 ++ (vx_atS RX4 67 "java/lang/IllegalArgumentException" ["java/lang/RuntimeException", "java/lang/Exception"]).filter goodWord ++ (vx_atS RX4 78 "java/lang/IllegalStateException" ["java/lang/RuntimeException", "java/lang/Exception"]).filter goodWord)
def wsL_vote : List Cond := .codeWith yL_vote cL_vote 5 (some .int) [(0, 10, 13, 21)] :: ([.classLink RL 21 "java/lang/IndexOutOfBoundsException", .methodLink RL 41 yX4_vote, .instanceMethod yX4_vote, .selects RX4 yX4_vote yX4_vote, .initialized RX4, .code yX4_vote cX4_vote 3 (some .int), .classLink RX4 87 "java/lang/IndexOutOfBoundsException", .initialized "java/lang/IndexOutOfBoundsException", .fieldLink RX4 41 "TickFall" "votes" "[Z", .methodLink RX4 59 yX4_isWithin, .static yX4_isWithin, .code yX4_isWithin cX4_isWithin 3 (some .boolean), .methodLink RX4 148 yX4_housesFor, .instanceMethod yX4_housesFor, .selects RX4 yX4_housesFor yX4_housesFor, .code yX4_housesFor cX4_housesFor 3 (some .int)] ++ wsX40 ++ (vx_atS RX4 91 "java/lang/IndexOutOfBoundsException" ["java/lang/RuntimeException", "java/lang/Exception"]).filter goodWord)
def wsL_adopt_r1 : List Cond := [Cond.classLink RL 15 "java/lang/IllegalStateException", Cond.methodLink RL 45 yX4_adopt, Cond.instanceMethod yX4_adopt, Cond.selects RX4 yX4_adopt yX4_adopt, Cond.initialized RX4, Cond.code yX4_adopt cX4_adopt 1 (some .boolean), Cond.classLink RX4 74 "java/lang/IllegalStateException", Cond.initialized "java/lang/IllegalStateException", Cond.fieldLink RX4 55 "TickFall" "isAdopted" "Z", Cond.fieldLink RX4 45 "TickFall" "today" "I", Cond.methodLink RX4 148 yX4_housesFor, Cond.instanceMethod yX4_housesFor, Cond.selects RX4 yX4_housesFor yX4_housesFor, Cond.code yX4_housesFor cX4_housesFor 3 (some .int), Cond.fieldLink RX4 41 "TickFall" "votes" "[Z", Cond.methodLink RX4 153 yX4_openRings, Cond.instanceMethod yX4_openRings, Cond.selects RX4 yX4_openRings yX4_openRings, Cond.code yX4_openRings cX4_openRings 2 (some .int), Cond.fieldLink RX4 33 "TickFall" "rings" "LTickFall$Rings;", Cond.fieldLink RX4 19 "TickFall" "links" "LTickFall$Links;", Cond.fieldLink RX4 49 "TickFall" "doubt" "I", Cond.methodLink RX4 201 yX3_gather, Cond.instanceMethod yX3_gather]
def wsL_adopt_r2 : List Cond := [Cond.selects RX3 yX3_gather yX3_gather, Cond.initialized RX3, Cond.code yX3_gather cX3_gather 4 none, Cond.fieldLink RX3 30 "TickFall$Rings" "count" "I", Cond.fieldLink RX3 34 "TickFall$Rings" "isInRing" "[Z", Cond.methodLink RX3 50 yX2_count, Cond.instanceMethod yX2_count, Cond.selects RX2 yX2_count yX2_count, Cond.initialized RX2, Cond.code yX2_count cX2_count 1 (some .int), Cond.fieldLink RX2 38 "TickFall$Links" "count" "I", Cond.methodLink RX3 55 yX2_isLaidBefore, Cond.instanceMethod yX2_isLaidBefore, Cond.selects RX2 yX2_isLaidBefore yX2_isLaidBefore, Cond.code yX2_isLaidBefore cX2_isLaidBefore 3 (some .boolean), Cond.fieldLink RX2 24 "TickFall$Links" "laidOn" "[I", Cond.methodLink RX3 59 yX3_gatherFrom, Cond.instanceMethod yX3_gatherFrom, Cond.selects RX3 yX3_gatherFrom yX3_gatherFrom, Cond.code yX3_gatherFrom cX3_gatherFrom 6 none, Cond.methodLink RX3 63 yX2_areRing, Cond.instanceMethod yX2_areRing, Cond.selects RX2 yX2_areRing yX2_areRing, Cond.code yX2_areRing cX2_areRing 4 (some .boolean)]
def wsL_adopt_r3 : List Cond := [Cond.methodLink RX2 52 yX2_bothBits, Cond.instanceMethod yX2_bothBits, Cond.selects RX2 yX2_bothBits yX2_bothBits, Cond.code yX2_bothBits cX2_bothBits 2 (some .int), Cond.fieldLink RX2 9 "TickFall$Links" "firsts" "[I", Cond.fieldLink RX2 15 "TickFall$Links" "seconds" "[I", Cond.methodLink RX3 67 yX3_add, Cond.instanceMethod yX3_add, Cond.selects RX3 yX3_add yX3_add, Cond.code yX3_add cX3_add 6 none, Cond.fieldLink RX3 9 "TickFall$Rings" "lowest" "[I", Cond.fieldLink RX3 15 "TickFall$Rings" "between" "[I", Cond.fieldLink RX3 18 "TickFall$Rings" "highest" "[I", Cond.fieldLink RX3 21 "TickFall$Rings" "betweenSigns" "[I", Cond.fieldLink RX3 24 "TickFall$Rings" "highestSigns" "[I", Cond.fieldLink RX3 27 "TickFall$Rings" "sums" "[I", Cond.methodLink RX3 71 yX2_signBehind, Cond.instanceMethod yX2_signBehind, Cond.selects RX2 yX2_signBehind yX2_signBehind, Cond.code yX2_signBehind cX2_signBehind 3 (some .int), Cond.methodLink RX3 75 yX2_around, Cond.instanceMethod yX2_around, Cond.selects RX2 yX2_around yX2_around, Cond.code yX2_around cX2_around 5 (some .int)]
def wsL_adopt_r4 : List Cond := [Cond.methodLink RX2 48 yX2_correctedOf, Cond.instanceMethod yX2_correctedOf, Cond.selects RX2 yX2_correctedOf yX2_correctedOf, Cond.code yX2_correctedOf cX2_correctedOf 3 (some .int), Cond.fieldLink RX2 32 "TickFall$Links" "raw" "[[I", Cond.fieldLink RX2 35 "TickFall$Links" "offsets" "[[I", Cond.methodLink RX2 55 yX2_signBehind, Cond.methodLink RX4 267 yX3_countOpen, Cond.instanceMethod yX3_countOpen, Cond.selects RX3 yX3_countOpen yX3_countOpen, Cond.code yX3_countOpen cX3_countOpen 4 (some .int), Cond.methodLink RX3 79 Lib.Math.abs.name, Cond.static Lib.Math.abs.name, Cond.initialized "java/lang/Math", Cond.code Lib.Math.abs.name Lib.Math.abs.code 1 (some .int)]
def wsL_adopt : List Cond := .codeWith yL_adopt cL_adopt 3 (some .int) [(0, 15, 18, 15)] :: ((wsL_adopt_r1 ++ (wsL_adopt_r2 ++ (wsL_adopt_r3 ++ wsL_adopt_r4))) ++ wsX40 ++ wsX30 ++ wsX20 ++ (vx_atS RX4 78 "java/lang/IllegalStateException" ["java/lang/RuntimeException", "java/lang/Exception"]).filter goodWord)
def wsL_of_r1 : List Cond := [Cond.classLink RL 21 "java/lang/IndexOutOfBoundsException", Cond.methodLink RL 49 yX4_of, Cond.instanceMethod yX4_of, Cond.selects RX4 yX4_of yX4_of, Cond.initialized RX4, Cond.code yX4_of cX4_of 3 (some .int), Cond.classLink RX4 87 "java/lang/IndexOutOfBoundsException", Cond.initialized "java/lang/IndexOutOfBoundsException", Cond.classLink RX4 63 "java/lang/IllegalArgumentException", Cond.initialized "java/lang/IllegalArgumentException", Cond.fieldLink RX4 10 "TickFall" "clocks" "LTickFall$Clocks;", Cond.methodLink RX4 83 yX1_has, Cond.instanceMethod yX1_has, Cond.selects RX1 yX1_has yX1_has, Cond.initialized RX1, Cond.code yX1_has cX1_has 2 (some .boolean), Cond.fieldLink RX1 27 "TickFall$Clocks" "count" "I", Cond.methodLink RX4 156 yX1_phaseOf, Cond.instanceMethod yX1_phaseOf, Cond.selects RX1 yX1_phaseOf yX1_phaseOf, Cond.code yX1_phaseOf cX1_phaseOf 2 (some .int), Cond.fieldLink RX1 24 "TickFall$Clocks" "phases" "[I", Cond.methodLink RX4 159 yX1_rateOf, Cond.instanceMethod yX1_rateOf]
def wsL_of_r2 : List Cond := [Cond.selects RX1 yX1_rateOf yX1_rateOf, Cond.code yX1_rateOf cX1_rateOf 2 (some .int), Cond.fieldLink RX1 9 "TickFall$Clocks" "rates" "[I", Cond.methodLink RX4 162 yX1_heightOf, Cond.instanceMethod yX1_heightOf, Cond.selects RX1 yX1_heightOf yX1_heightOf, Cond.code yX1_heightOf cX1_heightOf 2 (some .int), Cond.fieldLink RX1 21 "TickFall$Clocks" "heights" "[I"]
def wsL_of : List Cond := .codeWith yL_of cL_of 5 (some .int) [(0, 10, 13, 21), (0, 10, 17, 13)] :: ((wsL_of_r1 ++ wsL_of_r2) ++ wsX40 ++ wsX10 ++ (vx_atS RX4 91 "java/lang/IndexOutOfBoundsException" ["java/lang/RuntimeException", "java/lang/Exception"]).filter goodWord ++ (vx_atS RX4 67 "java/lang/IllegalArgumentException" ["java/lang/RuntimeException", "java/lang/Exception"]).filter goodWord)
def wsL_measured_r1 : List Cond := [Cond.classLink RL 21 "java/lang/IndexOutOfBoundsException", Cond.methodLink RL 52 yX4_measured, Cond.instanceMethod yX4_measured, Cond.selects RX4 yX4_measured yX4_measured, Cond.initialized RX4, Cond.code yX4_measured cX4_measured 4 (some .int), Cond.classLink RX4 87 "java/lang/IndexOutOfBoundsException", Cond.initialized "java/lang/IndexOutOfBoundsException", Cond.fieldLink RX4 19 "TickFall" "links" "LTickFall$Links;", Cond.methodLink RX4 167 yX4_hasMeasured, Cond.instanceMethod yX4_hasMeasured, Cond.selects RX4 yX4_hasMeasured yX4_hasMeasured, Cond.code yX4_hasMeasured cX4_hasMeasured 3 (some .boolean), Cond.methodLink RX4 196 yX4_hasPassed, Cond.instanceMethod yX4_hasPassed, Cond.selects RX4 yX4_hasPassed yX4_hasPassed, Cond.code yX4_hasPassed cX4_hasPassed 2 (some .boolean), Cond.fieldLink RX4 45 "TickFall" "today" "I", Cond.methodLink RX4 59 yX4_isWithin, Cond.static yX4_isWithin, Cond.code yX4_isWithin cX4_isWithin 3 (some .boolean), Cond.methodLink RX4 112 yX2_has, Cond.instanceMethod yX2_has, Cond.selects RX2 yX2_has yX2_has]
def wsL_measured_r2 : List Cond := [Cond.initialized RX2, Cond.code yX2_has cX2_has 2 (some .boolean), Cond.fieldLink RX2 38 "TickFall$Links" "count" "I", Cond.methodLink RX4 222 yX2_isLaidBefore, Cond.instanceMethod yX2_isLaidBefore, Cond.selects RX2 yX2_isLaidBefore yX2_isLaidBefore, Cond.code yX2_isLaidBefore cX2_isLaidBefore 3 (some .boolean), Cond.fieldLink RX2 24 "TickFall$Links" "laidOn" "[I", Cond.methodLink RX4 172 yX2_correctedOf, Cond.instanceMethod yX2_correctedOf, Cond.selects RX2 yX2_correctedOf yX2_correctedOf, Cond.code yX2_correctedOf cX2_correctedOf 3 (some .int), Cond.fieldLink RX2 32 "TickFall$Links" "raw" "[[I", Cond.fieldLink RX2 35 "TickFall$Links" "offsets" "[[I", Cond.methodLink RX4 175 yX2_rawOf, Cond.instanceMethod yX2_rawOf, Cond.selects RX2 yX2_rawOf yX2_rawOf, Cond.code yX2_rawOf cX2_rawOf 3 (some .int)]
def wsL_measured : List Cond := .codeWith yL_measured cL_measured 6 (some .int) [(0, 12, 15, 21)] :: ((wsL_measured_r1 ++ wsL_measured_r2) ++ wsX40 ++ wsX20 ++ (vx_atS RX4 91 "java/lang/IndexOutOfBoundsException" ["java/lang/RuntimeException", "java/lang/Exception"]).filter goodWord)
def wsL_closes_r1 : List Cond := [Cond.classLink RL 21 "java/lang/IndexOutOfBoundsException", Cond.methodLink RL 56 yX4_closes, Cond.instanceMethod yX4_closes, Cond.selects RX4 yX4_closes yX4_closes, Cond.initialized RX4, Cond.code yX4_closes cX4_closes 8 (some .int), Cond.classLink RX4 87 "java/lang/IndexOutOfBoundsException", Cond.initialized "java/lang/IndexOutOfBoundsException", Cond.classLink RX4 63 "java/lang/IllegalArgumentException", Cond.initialized "java/lang/IllegalArgumentException", Cond.fieldLink RX4 19 "TickFall" "links" "LTickFall$Links;", Cond.methodLink RX4 185 Lib.Math.min.name, Cond.static Lib.Math.min.name, Cond.initialized "java/lang/Math", Cond.code Lib.Math.min.name Lib.Math.min.code 2 (some .int), Cond.methodLink RX4 190 Lib.Math.max.name, Cond.static Lib.Math.max.name, Cond.code Lib.Math.max.name Lib.Math.max.code 2 (some .int), Cond.methodLink RX4 167 yX4_hasMeasured, Cond.instanceMethod yX4_hasMeasured, Cond.selects RX4 yX4_hasMeasured yX4_hasMeasured, Cond.code yX4_hasMeasured cX4_hasMeasured 3 (some .boolean), Cond.methodLink RX4 196 yX4_hasPassed, Cond.instanceMethod yX4_hasPassed]
def wsL_closes_r2 : List Cond := [Cond.selects RX4 yX4_hasPassed yX4_hasPassed, Cond.code yX4_hasPassed cX4_hasPassed 2 (some .boolean), Cond.fieldLink RX4 45 "TickFall" "today" "I", Cond.methodLink RX4 59 yX4_isWithin, Cond.static yX4_isWithin, Cond.code yX4_isWithin cX4_isWithin 3 (some .boolean), Cond.methodLink RX4 112 yX2_has, Cond.instanceMethod yX2_has, Cond.selects RX2 yX2_has yX2_has, Cond.initialized RX2, Cond.code yX2_has cX2_has 2 (some .boolean), Cond.fieldLink RX2 38 "TickFall$Links" "count" "I", Cond.methodLink RX4 222 yX2_isLaidBefore, Cond.instanceMethod yX2_isLaidBefore, Cond.selects RX2 yX2_isLaidBefore yX2_isLaidBefore, Cond.code yX2_isLaidBefore cX2_isLaidBefore 3 (some .boolean), Cond.fieldLink RX2 24 "TickFall$Links" "laidOn" "[I", Cond.methodLink RX4 180 yX2_areRing, Cond.instanceMethod yX2_areRing, Cond.selects RX2 yX2_areRing yX2_areRing, Cond.code yX2_areRing cX2_areRing 4 (some .boolean), Cond.methodLink RX2 52 yX2_bothBits, Cond.instanceMethod yX2_bothBits, Cond.selects RX2 yX2_bothBits yX2_bothBits]
def wsL_closes_r3 : List Cond := [Cond.code yX2_bothBits cX2_bothBits 2 (some .int), Cond.fieldLink RX2 9 "TickFall$Links" "firsts" "[I", Cond.fieldLink RX2 15 "TickFall$Links" "seconds" "[I", Cond.methodLink RX4 193 yX2_around, Cond.instanceMethod yX2_around, Cond.selects RX2 yX2_around yX2_around, Cond.code yX2_around cX2_around 5 (some .int), Cond.methodLink RX2 48 yX2_correctedOf, Cond.instanceMethod yX2_correctedOf, Cond.selects RX2 yX2_correctedOf yX2_correctedOf, Cond.code yX2_correctedOf cX2_correctedOf 3 (some .int), Cond.fieldLink RX2 32 "TickFall$Links" "raw" "[[I", Cond.fieldLink RX2 35 "TickFall$Links" "offsets" "[[I", Cond.methodLink RX2 55 yX2_signBehind, Cond.instanceMethod yX2_signBehind, Cond.selects RX2 yX2_signBehind yX2_signBehind, Cond.code yX2_signBehind cX2_signBehind 3 (some .int)]
def wsL_closes : List Cond := .codeWith yL_closes cL_closes 7 (some .int) [(0, 14, 17, 21), (0, 14, 21, 13)] :: ((wsL_closes_r1 ++ (wsL_closes_r2 ++ wsL_closes_r3)) ++ wsX40 ++ wsX20 ++ (vx_atS RX4 91 "java/lang/IndexOutOfBoundsException" ["java/lang/RuntimeException", "java/lang/Exception"]).filter goodWord ++ (vx_atS RX4 67 "java/lang/IllegalArgumentException" ["java/lang/RuntimeException", "java/lang/Exception"]).filter goodWord)
def wsL_open_r1 : List Cond := [Cond.classLink RL 21 "java/lang/IndexOutOfBoundsException", Cond.methodLink RL 59 yX4_open, Cond.instanceMethod yX4_open, Cond.selects RX4 yX4_open yX4_open, Cond.initialized RX4, Cond.code yX4_open cX4_open 2 (some .int), Cond.classLink RX4 87 "java/lang/IndexOutOfBoundsException", Cond.initialized "java/lang/IndexOutOfBoundsException", Cond.methodLink RX4 196 yX4_hasPassed, Cond.instanceMethod yX4_hasPassed, Cond.selects RX4 yX4_hasPassed yX4_hasPassed, Cond.code yX4_hasPassed cX4_hasPassed 2 (some .boolean), Cond.fieldLink RX4 45 "TickFall" "today" "I", Cond.methodLink RX4 59 yX4_isWithin, Cond.static yX4_isWithin, Cond.code yX4_isWithin cX4_isWithin 3 (some .boolean), Cond.methodLink RX4 153 yX4_openRings, Cond.instanceMethod yX4_openRings, Cond.selects RX4 yX4_openRings yX4_openRings, Cond.code yX4_openRings cX4_openRings 2 (some .int), Cond.fieldLink RX4 33 "TickFall" "rings" "LTickFall$Rings;", Cond.fieldLink RX4 19 "TickFall" "links" "LTickFall$Links;", Cond.fieldLink RX4 49 "TickFall" "doubt" "I", Cond.methodLink RX4 201 yX3_gather]
def wsL_open_r2 : List Cond := [Cond.instanceMethod yX3_gather, Cond.selects RX3 yX3_gather yX3_gather, Cond.initialized RX3, Cond.code yX3_gather cX3_gather 4 none, Cond.fieldLink RX3 30 "TickFall$Rings" "count" "I", Cond.fieldLink RX3 34 "TickFall$Rings" "isInRing" "[Z", Cond.methodLink RX3 50 yX2_count, Cond.instanceMethod yX2_count, Cond.selects RX2 yX2_count yX2_count, Cond.initialized RX2, Cond.code yX2_count cX2_count 1 (some .int), Cond.fieldLink RX2 38 "TickFall$Links" "count" "I", Cond.methodLink RX3 55 yX2_isLaidBefore, Cond.instanceMethod yX2_isLaidBefore, Cond.selects RX2 yX2_isLaidBefore yX2_isLaidBefore, Cond.code yX2_isLaidBefore cX2_isLaidBefore 3 (some .boolean), Cond.fieldLink RX2 24 "TickFall$Links" "laidOn" "[I", Cond.methodLink RX3 59 yX3_gatherFrom, Cond.instanceMethod yX3_gatherFrom, Cond.selects RX3 yX3_gatherFrom yX3_gatherFrom, Cond.code yX3_gatherFrom cX3_gatherFrom 6 none, Cond.methodLink RX3 63 yX2_areRing, Cond.instanceMethod yX2_areRing, Cond.selects RX2 yX2_areRing yX2_areRing]
def wsL_open_r3 : List Cond := [Cond.code yX2_areRing cX2_areRing 4 (some .boolean), Cond.methodLink RX2 52 yX2_bothBits, Cond.instanceMethod yX2_bothBits, Cond.selects RX2 yX2_bothBits yX2_bothBits, Cond.code yX2_bothBits cX2_bothBits 2 (some .int), Cond.fieldLink RX2 9 "TickFall$Links" "firsts" "[I", Cond.fieldLink RX2 15 "TickFall$Links" "seconds" "[I", Cond.methodLink RX3 67 yX3_add, Cond.instanceMethod yX3_add, Cond.selects RX3 yX3_add yX3_add, Cond.code yX3_add cX3_add 6 none, Cond.fieldLink RX3 9 "TickFall$Rings" "lowest" "[I", Cond.fieldLink RX3 15 "TickFall$Rings" "between" "[I", Cond.fieldLink RX3 18 "TickFall$Rings" "highest" "[I", Cond.fieldLink RX3 21 "TickFall$Rings" "betweenSigns" "[I", Cond.fieldLink RX3 24 "TickFall$Rings" "highestSigns" "[I", Cond.fieldLink RX3 27 "TickFall$Rings" "sums" "[I", Cond.methodLink RX3 71 yX2_signBehind, Cond.instanceMethod yX2_signBehind, Cond.selects RX2 yX2_signBehind yX2_signBehind, Cond.code yX2_signBehind cX2_signBehind 3 (some .int), Cond.methodLink RX3 75 yX2_around, Cond.instanceMethod yX2_around, Cond.selects RX2 yX2_around yX2_around]
def wsL_open_r4 : List Cond := [Cond.code yX2_around cX2_around 5 (some .int), Cond.methodLink RX2 48 yX2_correctedOf, Cond.instanceMethod yX2_correctedOf, Cond.selects RX2 yX2_correctedOf yX2_correctedOf, Cond.code yX2_correctedOf cX2_correctedOf 3 (some .int), Cond.fieldLink RX2 32 "TickFall$Links" "raw" "[[I", Cond.fieldLink RX2 35 "TickFall$Links" "offsets" "[[I", Cond.methodLink RX2 55 yX2_signBehind, Cond.methodLink RX4 267 yX3_countOpen, Cond.instanceMethod yX3_countOpen, Cond.selects RX3 yX3_countOpen yX3_countOpen, Cond.code yX3_countOpen cX3_countOpen 4 (some .int), Cond.methodLink RX3 79 Lib.Math.abs.name, Cond.static Lib.Math.abs.name, Cond.initialized "java/lang/Math", Cond.code Lib.Math.abs.name Lib.Math.abs.code 1 (some .int)]
def wsL_open : List Cond := .codeWith yL_open cL_open 4 (some .int) [(0, 9, 12, 21)] :: ((wsL_open_r1 ++ (wsL_open_r2 ++ (wsL_open_r3 ++ wsL_open_r4))) ++ wsX40 ++ wsX30 ++ wsX20 ++ (vx_atS RX4 91 "java/lang/IndexOutOfBoundsException" ["java/lang/RuntimeException", "java/lang/Exception"]).filter goodWord)
def wsL_slips_r1 : List Cond := [Cond.classLink RL 21 "java/lang/IndexOutOfBoundsException", Cond.methodLink RL 62 yX4_slips, Cond.instanceMethod yX4_slips, Cond.selects RX4 yX4_slips yX4_slips, Cond.initialized RX4, Cond.code yX4_slips cX4_slips 2 (some .int), Cond.classLink RX4 87 "java/lang/IndexOutOfBoundsException", Cond.initialized "java/lang/IndexOutOfBoundsException", Cond.fieldLink RX4 33 "TickFall" "rings" "LTickFall$Rings;", Cond.fieldLink RX4 19 "TickFall" "links" "LTickFall$Links;", Cond.fieldLink RX4 49 "TickFall" "doubt" "I", Cond.methodLink RX4 196 yX4_hasPassed, Cond.instanceMethod yX4_hasPassed, Cond.selects RX4 yX4_hasPassed yX4_hasPassed, Cond.code yX4_hasPassed cX4_hasPassed 2 (some .boolean), Cond.fieldLink RX4 45 "TickFall" "today" "I", Cond.methodLink RX4 59 yX4_isWithin, Cond.static yX4_isWithin, Cond.code yX4_isWithin cX4_isWithin 3 (some .boolean), Cond.methodLink RX4 201 yX3_gather, Cond.instanceMethod yX3_gather, Cond.selects RX3 yX3_gather yX3_gather, Cond.initialized RX3, Cond.code yX3_gather cX3_gather 4 none]
def wsL_slips_r2 : List Cond := [Cond.fieldLink RX3 30 "TickFall$Rings" "count" "I", Cond.fieldLink RX3 34 "TickFall$Rings" "isInRing" "[Z", Cond.methodLink RX3 50 yX2_count, Cond.instanceMethod yX2_count, Cond.selects RX2 yX2_count yX2_count, Cond.initialized RX2, Cond.code yX2_count cX2_count 1 (some .int), Cond.fieldLink RX2 38 "TickFall$Links" "count" "I", Cond.methodLink RX3 55 yX2_isLaidBefore, Cond.instanceMethod yX2_isLaidBefore, Cond.selects RX2 yX2_isLaidBefore yX2_isLaidBefore, Cond.code yX2_isLaidBefore cX2_isLaidBefore 3 (some .boolean), Cond.fieldLink RX2 24 "TickFall$Links" "laidOn" "[I", Cond.methodLink RX3 59 yX3_gatherFrom, Cond.instanceMethod yX3_gatherFrom, Cond.selects RX3 yX3_gatherFrom yX3_gatherFrom, Cond.code yX3_gatherFrom cX3_gatherFrom 6 none, Cond.methodLink RX3 63 yX2_areRing, Cond.instanceMethod yX2_areRing, Cond.selects RX2 yX2_areRing yX2_areRing, Cond.code yX2_areRing cX2_areRing 4 (some .boolean), Cond.methodLink RX2 52 yX2_bothBits, Cond.instanceMethod yX2_bothBits, Cond.selects RX2 yX2_bothBits yX2_bothBits]
def wsL_slips_r3 : List Cond := [Cond.code yX2_bothBits cX2_bothBits 2 (some .int), Cond.fieldLink RX2 9 "TickFall$Links" "firsts" "[I", Cond.fieldLink RX2 15 "TickFall$Links" "seconds" "[I", Cond.methodLink RX3 67 yX3_add, Cond.instanceMethod yX3_add, Cond.selects RX3 yX3_add yX3_add, Cond.code yX3_add cX3_add 6 none, Cond.fieldLink RX3 9 "TickFall$Rings" "lowest" "[I", Cond.fieldLink RX3 15 "TickFall$Rings" "between" "[I", Cond.fieldLink RX3 18 "TickFall$Rings" "highest" "[I", Cond.fieldLink RX3 21 "TickFall$Rings" "betweenSigns" "[I", Cond.fieldLink RX3 24 "TickFall$Rings" "highestSigns" "[I", Cond.fieldLink RX3 27 "TickFall$Rings" "sums" "[I", Cond.methodLink RX3 71 yX2_signBehind, Cond.instanceMethod yX2_signBehind, Cond.selects RX2 yX2_signBehind yX2_signBehind, Cond.code yX2_signBehind cX2_signBehind 3 (some .int), Cond.methodLink RX3 75 yX2_around, Cond.instanceMethod yX2_around, Cond.selects RX2 yX2_around yX2_around, Cond.code yX2_around cX2_around 5 (some .int), Cond.methodLink RX2 48 yX2_correctedOf, Cond.instanceMethod yX2_correctedOf, Cond.selects RX2 yX2_correctedOf yX2_correctedOf]
def wsL_slips_r4 : List Cond := [Cond.code yX2_correctedOf cX2_correctedOf 3 (some .int), Cond.fieldLink RX2 32 "TickFall$Links" "raw" "[[I", Cond.fieldLink RX2 35 "TickFall$Links" "offsets" "[[I", Cond.methodLink RX2 55 yX2_signBehind, Cond.methodLink RX4 104 yX2_count, Cond.methodLink RX4 205 yX3_findSlips, Cond.instanceMethod yX3_findSlips, Cond.selects RX3 yX3_findSlips yX3_findSlips, Cond.code yX3_findSlips cX3_findSlips 3 (some .int), Cond.fieldLink RX3 41 "TickFall$Rings" "doubt" "I", Cond.fieldLink RX3 44 "TickFall$Rings" "fewest" "I", Cond.fieldLink RX3 47 "TickFall$Rings" "found" "I", Cond.methodLink RX3 85 yX3_tryFrom, Cond.static yX3_tryFrom, Cond.code yX3_tryFrom cX3_tryFrom 6 none, Cond.fieldLink RX3 38 "TickFall$Rings" "taken" "[I", Cond.methodLink RX3 79 Lib.Math.abs.name, Cond.static Lib.Math.abs.name, Cond.initialized "java/lang/Math", Cond.code Lib.Math.abs.name Lib.Math.abs.code 1 (some .int), Cond.methodLink RX3 89 yX3_areClosedAbove, Cond.instanceMethod yX3_areClosedAbove, Cond.selects RX3 yX3_areClosedAbove yX3_areClosedAbove, Cond.code yX3_areClosedAbove cX3_areClosedAbove 3 (some .boolean)]
def wsL_slips_r5 : List Cond := [Cond.methodLink RX3 93 yX3_takenOff, Cond.instanceMethod yX3_takenOff, Cond.selects RX3 yX3_takenOff yX3_takenOff, Cond.code yX3_takenOff cX3_takenOff 2 (some .int)]
def wsL_slips : List Cond := .codeWith yL_slips cL_slips 4 (some .int) [(0, 9, 12, 21)] :: ((wsL_slips_r1 ++ (wsL_slips_r2 ++ (wsL_slips_r3 ++ (wsL_slips_r4 ++ wsL_slips_r5)))) ++ wsX40 ++ wsX30 ++ wsX20 ++ (vx_atS RX4 91 "java/lang/IndexOutOfBoundsException" ["java/lang/RuntimeException", "java/lang/Exception"]).filter goodWord)
def wsL_mean_r1 : List Cond := [Cond.classLink RL 21 "java/lang/IndexOutOfBoundsException", Cond.methodLink RL 65 yX4_mean, Cond.instanceMethod yX4_mean, Cond.selects RX4 yX4_mean yX4_mean, Cond.initialized RX4, Cond.code yX4_mean cX4_mean 2 (some .int), Cond.classLink RX4 87 "java/lang/IndexOutOfBoundsException", Cond.initialized "java/lang/IndexOutOfBoundsException", Cond.fieldLink RX4 10 "TickFall" "clocks" "LTickFall$Clocks;", Cond.methodLink RX4 196 yX4_hasPassed, Cond.instanceMethod yX4_hasPassed, Cond.selects RX4 yX4_hasPassed yX4_hasPassed, Cond.code yX4_hasPassed cX4_hasPassed 2 (some .boolean), Cond.fieldLink RX4 45 "TickFall" "today" "I", Cond.methodLink RX4 59 yX4_isWithin, Cond.static yX4_isWithin, Cond.code yX4_isWithin cX4_isWithin 3 (some .boolean), Cond.methodLink RX4 70 yX1_count, Cond.instanceMethod yX1_count, Cond.selects RX1 yX1_count yX1_count, Cond.initialized RX1, Cond.code yX1_count cX1_count 1 (some .int), Cond.fieldLink RX1 27 "TickFall$Clocks" "count" "I", Cond.methodLink RX4 210 yX4_meanOrZero]
def wsL_mean_r2 : List Cond := [Cond.instanceMethod yX4_meanOrZero, Cond.selects RX4 yX4_meanOrZero yX4_meanOrZero, Cond.code yX4_meanOrZero cX4_meanOrZero 9 (some .int), Cond.fieldLink RX4 19 "TickFall" "links" "LTickFall$Links;", Cond.methodLink RX4 94 yX1_weightOf, Cond.instanceMethod yX1_weightOf, Cond.selects RX1 yX1_weightOf yX1_weightOf, Cond.code yX1_weightOf cX1_weightOf 2 (some .int), Cond.fieldLink RX1 18 "TickFall$Clocks" "weights" "[I", Cond.methodLink RX4 104 yX2_count, Cond.instanceMethod yX2_count, Cond.selects RX2 yX2_count yX2_count, Cond.initialized RX2, Cond.code yX2_count cX2_count 1 (some .int), Cond.fieldLink RX2 38 "TickFall$Links" "count" "I", Cond.methodLink RX4 270 yX2_otherThanZero, Cond.instanceMethod yX2_otherThanZero, Cond.selects RX2 yX2_otherThanZero yX2_otherThanZero, Cond.code yX2_otherThanZero cX2_otherThanZero 2 (some .int), Cond.fieldLink RX2 9 "TickFall$Links" "firsts" "[I", Cond.fieldLink RX2 15 "TickFall$Links" "seconds" "[I", Cond.methodLink RX4 222 yX2_isLaidBefore, Cond.instanceMethod yX2_isLaidBefore, Cond.selects RX2 yX2_isLaidBefore yX2_isLaidBefore]
def wsL_mean_r3 : List Cond := [Cond.code yX2_isLaidBefore cX2_isLaidBefore 3 (some .boolean), Cond.fieldLink RX2 24 "TickFall$Links" "laidOn" "[I", Cond.methodLink RX4 273 yX2_aheadOfZero, Cond.instanceMethod yX2_aheadOfZero, Cond.selects RX2 yX2_aheadOfZero yX2_aheadOfZero, Cond.code yX2_aheadOfZero cX2_aheadOfZero 4 (some .int), Cond.methodLink RX2 48 yX2_correctedOf, Cond.instanceMethod yX2_correctedOf, Cond.selects RX2 yX2_correctedOf yX2_correctedOf, Cond.code yX2_correctedOf cX2_correctedOf 3 (some .int), Cond.fieldLink RX2 32 "TickFall$Links" "raw" "[[I", Cond.fieldLink RX2 35 "TickFall$Links" "offsets" "[[I"]
def wsL_mean : List Cond := .codeWith yL_mean cL_mean 4 (some .int) [(0, 9, 12, 21)] :: ((wsL_mean_r1 ++ (wsL_mean_r2 ++ wsL_mean_r3)) ++ wsX40 ++ wsX10 ++ wsX20 ++ (vx_atS RX4 91 "java/lang/IndexOutOfBoundsException" ["java/lang/RuntimeException", "java/lang/Exception"]).filter goodWord)
def wsL_published_r1 : List Cond := [Cond.classLink RL 21 "java/lang/IndexOutOfBoundsException", Cond.methodLink RL 68 yX4_published, Cond.instanceMethod yX4_published, Cond.selects RX4 yX4_published yX4_published, Cond.initialized RX4, Cond.code yX4_published cX4_published 3 (some .int), Cond.classLink RX4 87 "java/lang/IndexOutOfBoundsException", Cond.initialized "java/lang/IndexOutOfBoundsException", Cond.fieldLink RX4 37 "TickFall" "steeredTimes" "[I", Cond.methodLink RX4 196 yX4_hasPassed, Cond.instanceMethod yX4_hasPassed, Cond.selects RX4 yX4_hasPassed yX4_hasPassed, Cond.code yX4_hasPassed cX4_hasPassed 2 (some .boolean), Cond.fieldLink RX4 45 "TickFall" "today" "I", Cond.methodLink RX4 59 yX4_isWithin, Cond.static yX4_isWithin, Cond.code yX4_isWithin cX4_isWithin 3 (some .boolean), Cond.methodLink RX4 213 yX4_steeredAnew, Cond.instanceMethod yX4_steeredAnew, Cond.selects RX4 yX4_steeredAnew yX4_steeredAnew, Cond.code yX4_steeredAnew cX4_steeredAnew 4 (some .int), Cond.methodLink RX4 242 yX4_steered, Cond.instanceMethod yX4_steered, Cond.selects RX4 yX4_steered yX4_steered]
def wsL_published_r2 : List Cond := [Cond.code yX4_steered cX4_steered 3 (some .int), Cond.fieldLink RX4 52 "TickFall" "step" "I", Cond.methodLink RX4 210 yX4_meanOrZero, Cond.instanceMethod yX4_meanOrZero, Cond.selects RX4 yX4_meanOrZero yX4_meanOrZero, Cond.code yX4_meanOrZero cX4_meanOrZero 9 (some .int), Cond.fieldLink RX4 10 "TickFall" "clocks" "LTickFall$Clocks;", Cond.fieldLink RX4 19 "TickFall" "links" "LTickFall$Links;", Cond.methodLink RX4 70 yX1_count, Cond.instanceMethod yX1_count, Cond.selects RX1 yX1_count yX1_count, Cond.initialized RX1, Cond.code yX1_count cX1_count 1 (some .int), Cond.fieldLink RX1 27 "TickFall$Clocks" "count" "I", Cond.methodLink RX4 94 yX1_weightOf, Cond.instanceMethod yX1_weightOf, Cond.selects RX1 yX1_weightOf yX1_weightOf, Cond.code yX1_weightOf cX1_weightOf 2 (some .int), Cond.fieldLink RX1 18 "TickFall$Clocks" "weights" "[I", Cond.methodLink RX4 104 yX2_count, Cond.instanceMethod yX2_count, Cond.selects RX2 yX2_count yX2_count, Cond.initialized RX2, Cond.code yX2_count cX2_count 1 (some .int)]
def wsL_published_r3 : List Cond := [Cond.fieldLink RX2 38 "TickFall$Links" "count" "I", Cond.methodLink RX4 270 yX2_otherThanZero, Cond.instanceMethod yX2_otherThanZero, Cond.selects RX2 yX2_otherThanZero yX2_otherThanZero, Cond.code yX2_otherThanZero cX2_otherThanZero 2 (some .int), Cond.fieldLink RX2 9 "TickFall$Links" "firsts" "[I", Cond.fieldLink RX2 15 "TickFall$Links" "seconds" "[I", Cond.methodLink RX4 222 yX2_isLaidBefore, Cond.instanceMethod yX2_isLaidBefore, Cond.selects RX2 yX2_isLaidBefore yX2_isLaidBefore, Cond.code yX2_isLaidBefore cX2_isLaidBefore 3 (some .boolean), Cond.fieldLink RX2 24 "TickFall$Links" "laidOn" "[I", Cond.methodLink RX4 273 yX2_aheadOfZero, Cond.instanceMethod yX2_aheadOfZero, Cond.selects RX2 yX2_aheadOfZero yX2_aheadOfZero, Cond.code yX2_aheadOfZero cX2_aheadOfZero 4 (some .int), Cond.methodLink RX2 48 yX2_correctedOf, Cond.instanceMethod yX2_correctedOf, Cond.selects RX2 yX2_correctedOf yX2_correctedOf, Cond.code yX2_correctedOf cX2_correctedOf 3 (some .int), Cond.fieldLink RX2 32 "TickFall$Links" "raw" "[[I", Cond.fieldLink RX2 35 "TickFall$Links" "offsets" "[[I", Cond.methodLink RX4 276 yX4_held, Cond.static yX4_held]
def wsL_published_r4 : List Cond := [Cond.code yX4_held cX4_held 2 (some .int), Cond.methodLink RX4 185 Lib.Math.min.name, Cond.static Lib.Math.min.name, Cond.initialized "java/lang/Math", Cond.code Lib.Math.min.name Lib.Math.min.code 2 (some .int), Cond.methodLink RX4 190 Lib.Math.max.name, Cond.static Lib.Math.max.name, Cond.code Lib.Math.max.name Lib.Math.max.code 2 (some .int)]
def wsL_published : List Cond := .codeWith yL_published cL_published 5 (some .int) [(0, 10, 13, 21)] :: ((wsL_published_r1 ++ (wsL_published_r2 ++ (wsL_published_r3 ++ wsL_published_r4))) ++ wsX40 ++ wsX10 ++ wsX20 ++ (vx_atS RX4 91 "java/lang/IndexOutOfBoundsException" ["java/lang/RuntimeException", "java/lang/Exception"]).filter goodWord)
def wsL_height_r1 : List Cond := [Cond.classLink RL 21 "java/lang/IndexOutOfBoundsException", Cond.methodLink RL 71 yX4_height, Cond.instanceMethod yX4_height, Cond.selects RX4 yX4_height yX4_height, Cond.initialized RX4, Cond.code yX4_height cX4_height 8 (some .int), Cond.classLink RX4 87 "java/lang/IndexOutOfBoundsException", Cond.initialized "java/lang/IndexOutOfBoundsException", Cond.classLink RX4 63 "java/lang/IllegalArgumentException", Cond.initialized "java/lang/IllegalArgumentException", Cond.fieldLink RX4 19 "TickFall" "links" "LTickFall$Links;", Cond.constantLong RX4 220 (100), Cond.methodLink RX4 167 yX4_hasMeasured, Cond.instanceMethod yX4_hasMeasured, Cond.selects RX4 yX4_hasMeasured yX4_hasMeasured, Cond.code yX4_hasMeasured cX4_hasMeasured 3 (some .boolean), Cond.methodLink RX4 196 yX4_hasPassed, Cond.instanceMethod yX4_hasPassed, Cond.selects RX4 yX4_hasPassed yX4_hasPassed, Cond.code yX4_hasPassed cX4_hasPassed 2 (some .boolean), Cond.fieldLink RX4 45 "TickFall" "today" "I", Cond.methodLink RX4 59 yX4_isWithin, Cond.static yX4_isWithin, Cond.code yX4_isWithin cX4_isWithin 3 (some .boolean)]
def wsL_height_r2 : List Cond := [Cond.methodLink RX4 112 yX2_has, Cond.instanceMethod yX2_has, Cond.selects RX2 yX2_has yX2_has, Cond.initialized RX2, Cond.code yX2_has cX2_has 2 (some .boolean), Cond.fieldLink RX2 38 "TickFall$Links" "count" "I", Cond.methodLink RX4 222 yX2_isLaidBefore, Cond.instanceMethod yX2_isLaidBefore, Cond.selects RX2 yX2_isLaidBefore yX2_isLaidBefore, Cond.code yX2_isLaidBefore cX2_isLaidBefore 3 (some .boolean), Cond.fieldLink RX2 24 "TickFall$Links" "laidOn" "[I", Cond.methodLink RX4 172 yX2_correctedOf, Cond.instanceMethod yX2_correctedOf, Cond.selects RX2 yX2_correctedOf yX2_correctedOf, Cond.code yX2_correctedOf cX2_correctedOf 3 (some .int), Cond.fieldLink RX2 32 "TickFall$Links" "raw" "[[I", Cond.fieldLink RX2 35 "TickFall$Links" "offsets" "[[I"]
def wsL_height : List Cond := .codeWith yL_height cL_height 7 (some .int) [(0, 14, 17, 21), (0, 14, 21, 13)] :: ((wsL_height_r1 ++ wsL_height_r2) ++ wsX40 ++ wsX20 ++ (vx_atS RX4 91 "java/lang/IndexOutOfBoundsException" ["java/lang/RuntimeException", "java/lang/Exception"]).filter goodWord ++ (vx_atS RX4 67 "java/lang/IllegalArgumentException" ["java/lang/RuntimeException", "java/lang/Exception"]).filter goodWord)
def wsL_law0_r1 : List Cond := [Cond.classLink RL 8 RX4, Cond.instantiable RX4 10, Cond.initialized RX4, Cond.classLink RL 75 RX5, Cond.instantiable RX5 34, Cond.initialized RX5, Cond.arrayClass .long, Cond.methodLink RL 74 yX4_init, Cond.instanceMethod yX4_init, Cond.code yX4_init cX4_init 1 none, Cond.methodLink RX4 1 objectInit, Cond.instanceMethod objectInit, Cond.code objectInit ⟨#[0xb1]⟩ 1 none, Cond.classLink RX4 7 RX1, Cond.instantiable RX1 6, Cond.initialized RX1, Cond.fieldLink RX4 10 "TickFall" "clocks" "LTickFall$Clocks;", Cond.classLink RX4 16 RX2, Cond.instantiable RX2 9, Cond.initialized RX2, Cond.fieldLink RX4 19 "TickFall" "links" "LTickFall$Links;", Cond.classLink RX4 23 RX0, Cond.instantiable RX0 2, Cond.initialized RX0]
def wsL_law0_r2 : List Cond := [Cond.fieldLink RX4 26 "TickFall" "agenda" "LTickFall$Agenda;", Cond.classLink RX4 30 RX3, Cond.instantiable RX3 12, Cond.initialized RX3, Cond.fieldLink RX4 33 "TickFall" "rings" "LTickFall$Rings;", Cond.arrayClass .int, Cond.fieldLink RX4 37 "TickFall" "steeredTimes" "[I", Cond.arrayClass .boolean, Cond.fieldLink RX4 41 "TickFall" "votes" "[Z", Cond.fieldLink RX4 45 "TickFall" "today" "I", Cond.fieldLink RX4 49 "TickFall" "doubt" "I", Cond.fieldLink RX4 52 "TickFall" "step" "I", Cond.fieldLink RX4 55 "TickFall" "isAdopted" "Z", Cond.instanceMethod yX1_init, Cond.code yX1_init cX1_init 1 none, Cond.methodLink RX1 3 objectInit, Cond.fieldLink RX1 9 "TickFall$Clocks" "rates" "[I", Cond.fieldLink RX1 15 "TickFall$Clocks" "drifts" "[I", Cond.fieldLink RX1 18 "TickFall$Clocks" "weights" "[I", Cond.fieldLink RX1 21 "TickFall$Clocks" "heights" "[I", Cond.fieldLink RX1 24 "TickFall$Clocks" "phases" "[I", Cond.fieldLink RX1 27 "TickFall$Clocks" "count" "I", Cond.instanceMethod yX2_init, Cond.code yX2_init cX2_init 1 none]
def wsL_law0_r3 : List Cond := [Cond.methodLink RX2 3 objectInit, Cond.fieldLink RX2 9 "TickFall$Links" "firsts" "[I", Cond.fieldLink RX2 15 "TickFall$Links" "seconds" "[I", Cond.fieldLink RX2 18 "TickFall$Links" "asymmetries" "[I", Cond.fieldLink RX2 21 "TickFall$Links" "cycles" "[I", Cond.fieldLink RX2 24 "TickFall$Links" "laidOn" "[I", Cond.fieldLink RX2 27 "TickFall$Links" "calibrations" "[I", Cond.classLink RX2 30 "[[I", Cond.fieldLink RX2 32 "TickFall$Links" "raw" "[[I", Cond.fieldLink RX2 35 "TickFall$Links" "offsets" "[[I", Cond.fieldLink RX2 38 "TickFall$Links" "count" "I", Cond.instanceMethod yX0_init, Cond.code yX0_init cX0_init 1 none, Cond.methodLink RX0 5 objectInit, Cond.fieldLink RX0 11 "TickFall$Agenda" "rows" "[I", Cond.fieldLink RX0 15 "TickFall$Agenda" "count" "I", Cond.instanceMethod yX3_init, Cond.code yX3_init cX3_init 1 none, Cond.methodLink RX3 3 objectInit, Cond.fieldLink RX3 9 "TickFall$Rings" "lowest" "[I", Cond.fieldLink RX3 15 "TickFall$Rings" "between" "[I", Cond.fieldLink RX3 18 "TickFall$Rings" "highest" "[I", Cond.fieldLink RX3 21 "TickFall$Rings" "betweenSigns" "[I", Cond.fieldLink RX3 24 "TickFall$Rings" "highestSigns" "[I"]
def wsL_law0_r4 : List Cond := [Cond.fieldLink RX3 27 "TickFall$Rings" "sums" "[I", Cond.fieldLink RX3 30 "TickFall$Rings" "count" "I", Cond.fieldLink RX3 34 "TickFall$Rings" "isInRing" "[Z", Cond.fieldLink RX3 38 "TickFall$Rings" "taken" "[I", Cond.fieldLink RX3 41 "TickFall$Rings" "doubt" "I", Cond.fieldLink RX3 44 "TickFall$Rings" "fewest" "I", Cond.fieldLink RX3 47 "TickFall$Rings" "found" "I", Cond.methodLink RL 77 yX5_init, Cond.instanceMethod yX5_init, Cond.code yX5_init cX5_init 1 none, Cond.methodLink RX5 1 objectInit, Cond.fieldLink RX5 7 "TickFallModel" "rate" "[I", Cond.fieldLink RX5 13 "TickFallModel" "drift" "[I", Cond.fieldLink RX5 16 "TickFallModel" "height" "[I", Cond.fieldLink RX5 19 "TickFallModel" "phase" "[I", Cond.fieldLink RX5 22 "TickFallModel" "weight" "[I", Cond.fieldLink RX5 25 "TickFallModel" "one" "[I", Cond.fieldLink RX5 28 "TickFallModel" "two" "[I", Cond.fieldLink RX5 31 "TickFallModel" "asymmetry" "[I", Cond.fieldLink RX5 34 "TickFallModel" "slipped" "[I", Cond.fieldLink RX5 37 "TickFallModel" "laid" "[I", Cond.fieldLink RX5 40 "TickFallModel" "counts" "[I", Cond.fieldLink RX5 43 "TickFallModel" "eventDay" "[I", Cond.fieldLink RX5 46 "TickFallModel" "eventKind" "[I"]
def wsL_law0_r5 : List Cond := [Cond.fieldLink RX5 49 "TickFallModel" "eventOf" "[I", Cond.fieldLink RX5 52 "TickFallModel" "amount" "[I", Cond.fieldLink RX5 55 "TickFallModel" "given" "[I", Cond.fieldLink RX5 58 "TickFallModel" "from" "[I", Cond.fieldLink RX5 61 "TickFallModel" "to" "[I", Cond.fieldLink RX5 64 "TickFallModel" "takes" "[I", Cond.fieldLink RX5 67 "TickFallModel" "told" "[I", Cond.fieldLink RX5 70 "TickFallModel" "isFor" "[Z", Cond.fieldLink RX5 74 "TickFallModel" "cycles" "[I", Cond.fieldLink RX5 77 "TickFallModel" "ringOf" "[I", Cond.fieldLink RX5 80 "TickFallModel" "sign" "[I", Cond.fieldLink RX5 83 "TickFallModel" "sum" "[I", Cond.fieldLink RX5 86 "TickFallModel" "doubt" "I", Cond.fieldLink RX5 90 "TickFallModel" "step" "I", Cond.methodLink RL 78 yL_clock, Cond.static yL_clock, Cond.initialized RL, Cond.codeWith yL_clock cL_clock 5 (some .int) [(0, 10, 13, 13), (0, 10, 17, 15)], Cond.classLink RL 13 "java/lang/IllegalArgumentException", Cond.methodLink RL 7 yX4_clock, Cond.instanceMethod yX4_clock, Cond.selects RX4 yX4_clock yX4_clock, Cond.code yX4_clock cX4_clock 3 (some .int), Cond.classLink RX4 63 "java/lang/IllegalArgumentException"]
def wsL_law0_r6 : List Cond := [Cond.initialized "java/lang/IllegalArgumentException", Cond.classLink RX4 74 "java/lang/IllegalStateException", Cond.initialized "java/lang/IllegalStateException", Cond.methodLink RX4 59 yX4_isWithin, Cond.static yX4_isWithin, Cond.code yX4_isWithin cX4_isWithin 3 (some .boolean), Cond.methodLink RX4 70 yX1_count, Cond.instanceMethod yX1_count, Cond.selects RX1 yX1_count yX1_count, Cond.code yX1_count cX1_count 1 (some .int), Cond.methodLink RX4 79 yX1_add, Cond.instanceMethod yX1_add, Cond.selects RX1 yX1_add yX1_add, Cond.code yX1_add cX1_add 4 (some .int), Cond.methodLink RL 83 yX5_clock, Cond.instanceMethod yX5_clock, Cond.selects RX5 yX5_clock yX5_clock, Cond.code yX5_clock cX5_clock 3 (some .int), Cond.fieldLink RX5 96 "TickFallModel" "clocks" "I", Cond.methodLink RX5 99 yX5_in, Cond.static yX5_in, Cond.code yX5_in cX5_in 3 (some .boolean), Cond.methodLink RX5 109 yX5_goes, Cond.instanceMethod yX5_goes]
def wsL_law0_r7 : List Cond := [Cond.selects RX5 yX5_goes yX5_goes, Cond.code yX5_goes cX5_goes 4 (some .boolean), Cond.fieldLink RX5 93 "TickFallModel" "thrown" "I", Cond.methodLink RL 84 yX5_thrown, Cond.instanceMethod yX5_thrown, Cond.selects RX5 yX5_thrown yX5_thrown, Cond.code yX5_thrown cX5_thrown 1 (some .int), Cond.methodLink RL 88 yL_tell, Cond.static yL_tell, Cond.codeWith yL_tell cL_tell 6 (some .int) [(0, 12, 15, 21), (0, 12, 19, 13)], Cond.classLink RL 21 "java/lang/IndexOutOfBoundsException", Cond.methodLink RL 17 yX4_tell, Cond.instanceMethod yX4_tell, Cond.selects RX4 yX4_tell yX4_tell, Cond.code yX4_tell cX4_tell 5 (some .int), Cond.classLink RX4 87 "java/lang/IndexOutOfBoundsException", Cond.initialized "java/lang/IndexOutOfBoundsException", Cond.methodLink RX4 83 yX1_has, Cond.instanceMethod yX1_has, Cond.selects RX1 yX1_has yX1_has, Cond.code yX1_has cX1_has 2 (some .boolean), Cond.methodLink RX4 94 yX1_weightOf, Cond.instanceMethod yX1_weightOf, Cond.selects RX1 yX1_weightOf yX1_weightOf]
def wsL_law0_r8 : List Cond := [Cond.code yX1_weightOf cX1_weightOf 2 (some .int), Cond.methodLink RX4 98 yX1_setDriftAndWeight, Cond.instanceMethod yX1_setDriftAndWeight, Cond.selects RX1 yX1_setDriftAndWeight yX1_setDriftAndWeight, Cond.code yX1_setDriftAndWeight cX1_setDriftAndWeight 4 none, Cond.methodLink RL 91 yX5_tell, Cond.instanceMethod yX5_tell, Cond.selects RX5 yX5_tell yX5_tell, Cond.code yX5_tell cX5_tell 5 (some .int), Cond.methodLink RX5 113 yX5_isClock, Cond.instanceMethod yX5_isClock, Cond.selects RX5 yX5_isClock yX5_isClock, Cond.code yX5_isClock cX5_isClock 2 (some .boolean), Cond.methodLink RL 92 yL_link, Cond.static yL_link, Cond.codeWith yL_link cL_link 6 (some .int) [(0, 12, 15, 21), (0, 12, 19, 13), (0, 12, 23, 15)], Cond.methodLink RL 23 yX4_link, Cond.instanceMethod yX4_link, Cond.selects RX4 yX4_link yX4_link, Cond.code yX4_link cX4_link 4 (some .int), Cond.methodLink RX4 104 yX2_count, Cond.instanceMethod yX2_count, Cond.selects RX2 yX2_count yX2_count, Cond.code yX2_count cX2_count 1 (some .int)]
def wsL_law0_r9 : List Cond := [Cond.methodLink RX4 107 yX2_add, Cond.instanceMethod yX2_add, Cond.selects RX2 yX2_add yX2_add, Cond.code yX2_add cX2_add 6 (some .int), Cond.methodLink RL 94 yX5_link, Cond.instanceMethod yX5_link, Cond.selects RX5 yX5_link yX5_link, Cond.code yX5_link cX5_link 4 (some .int), Cond.fieldLink RX5 103 "TickFallModel" "links" "I", Cond.fieldLink RX5 106 "TickFallModel" "day" "I", Cond.methodLink RL 95 yL_event, Cond.static yL_event, Cond.codeWith yL_event cL_event 7 (some .int) [(0, 14, 17, 13), (0, 14, 21, 21), (0, 14, 25, 15)], Cond.methodLink RL 26 yX4_event, Cond.instanceMethod yX4_event, Cond.selects RX4 yX4_event yX4_event, Cond.code yX4_event cX4_event 6 (some .int), Cond.methodLink RX4 112 yX2_has, Cond.instanceMethod yX2_has, Cond.selects RX2 yX2_has yX2_has, Cond.code yX2_has cX2_has 2 (some .boolean), Cond.methodLink RX4 115 yX4_isAmountOf, Cond.static yX4_isAmountOf, Cond.code yX4_isAmountOf cX4_isAmountOf 2 (some .boolean)]
def wsL_law0_r10 : List Cond := [Cond.methodLink RX4 119 yX0_count, Cond.instanceMethod yX0_count, Cond.selects RX0 yX0_count yX0_count, Cond.code yX0_count cX0_count 1 (some .int), Cond.methodLink RX4 122 yX0_add, Cond.instanceMethod yX0_add, Cond.selects RX0 yX0_add yX0_add, Cond.code yX0_add cX0_add 7 none, Cond.methodLink RL 98 yX5_event, Cond.instanceMethod yX5_event, Cond.selects RX5 yX5_event yX5_event, Cond.code yX5_event cX5_event 7 (some .int), Cond.fieldLink RX5 124 "TickFallModel" "events" "I", Cond.methodLink RX5 117 yX5_isLink, Cond.instanceMethod yX5_isLink, Cond.selects RX5 yX5_isLink yX5_isLink, Cond.code yX5_isLink cX5_isLink 2 (some .boolean), Cond.methodLink RX5 120 yX5_isAmount, Cond.static yX5_isAmount, Cond.code yX5_isAmount cX5_isAmount 2 (some .boolean), Cond.methodLink RL 99 yL_calibrate, Cond.static yL_calibrate, Cond.codeWith yL_calibrate cL_calibrate 7 (some .int) [(0, 14, 17, 21), (0, 14, 21, 13), (0, 14, 25, 15)], Cond.methodLink RL 30 yX4_calibrate]
def wsL_law0_r11 : List Cond := [Cond.instanceMethod yX4_calibrate, Cond.selects RX4 yX4_calibrate yX4_calibrate, Cond.code yX4_calibrate cX4_calibrate 5 (some .int), Cond.methodLink RX4 129 yX2_calibrationsOf, Cond.instanceMethod yX2_calibrationsOf, Cond.selects RX2 yX2_calibrationsOf yX2_calibrationsOf, Cond.code yX2_calibrationsOf cX2_calibrationsOf 2 (some .int), Cond.methodLink RX4 134 yX2_addCalibration, Cond.instanceMethod yX2_addCalibration, Cond.selects RX2 yX2_addCalibration yX2_addCalibration, Cond.code yX2_addCalibration cX2_addCalibration 6 (some .int), Cond.methodLink RL 101 yX5_calibrate, Cond.instanceMethod yX5_calibrate, Cond.selects RX5 yX5_calibrate yX5_calibrate, Cond.code yX5_calibrate cX5_calibrate 7 (some .int), Cond.methodLink RL 102 yL_bounds, Cond.static yL_bounds, Cond.codeWith yL_bounds cL_bounds 4 (some .int) [(0, 6, 9, 13)], Cond.methodLink RL 33 yX4_bounds, Cond.instanceMethod yX4_bounds, Cond.selects RX4 yX4_bounds yX4_bounds, Cond.code yX4_bounds cX4_bounds 3 none, Cond.methodLink RL 105 yX5_bounds, Cond.instanceMethod yX5_bounds]
def wsL_law0_r12 : List Cond := [Cond.selects RX5 yX5_bounds yX5_bounds, Cond.code yX5_bounds cX5_bounds 3 none, Cond.methodLink RL 106 yL_pass, Cond.static yL_pass, Cond.codeWith yL_pass cL_pass 4 (some .int) [(0, 9, 12, 13), (0, 9, 15, 15)], Cond.methodLink RL 37 yX4_pass, Cond.instanceMethod yX4_pass, Cond.selects RX4 yX4_pass yX4_pass, Cond.code yX4_pass cX4_pass 3 (some .int), Cond.methodLink RX4 143 yX4_passOneDay, Cond.instanceMethod yX4_passOneDay, Cond.selects RX4 yX4_passOneDay yX4_passOneDay, Cond.code yX4_passOneDay cX4_passOneDay 3 none, Cond.methodLink RX4 225 yX0_isNextDue, Cond.instanceMethod yX0_isNextDue, Cond.selects RX0 yX0_isNextDue yX0_isNextDue, Cond.code yX0_isNextDue cX0_isNextDue 2 (some .boolean), Cond.methodLink RX4 228 yX0_takeNext, Cond.instanceMethod yX0_takeNext, Cond.selects RX0 yX0_takeNext yX0_takeNext, Cond.code yX0_takeNext cX0_takeNext 1 (some .int), Cond.methodLink RX4 231 yX4_happen, Cond.instanceMethod yX4_happen, Cond.selects RX4 yX4_happen yX4_happen]
def wsL_law0_r13 : List Cond := [Cond.code yX4_happen cX4_happen 4 none, Cond.methodLink RX4 245 yX0_numberOf, Cond.static yX0_numberOf, Cond.code yX0_numberOf cX0_numberOf 1 (some .int), Cond.methodLink RX4 248 yX0_amountOf, Cond.static yX0_amountOf, Cond.code yX0_amountOf cX0_amountOf 1 (some .int), Cond.methodLink RX4 251 yX0_kindOf, Cond.static yX0_kindOf, Cond.code yX0_kindOf cX0_kindOf 1 (some .int), Cond.methodLink RX4 254 yX1_addToRate, Cond.instanceMethod yX1_addToRate, Cond.selects RX1 yX1_addToRate yX1_addToRate, Cond.code yX1_addToRate cX1_addToRate 3 none, Cond.static yX4_held, Cond.code yX4_held cX4_held 2 (some .int), Cond.methodLink RX4 185 Lib.Math.min.name, Cond.static Lib.Math.min.name, Cond.initialized "java/lang/Math", Cond.code Lib.Math.min.name Lib.Math.min.code 2 (some .int), Cond.methodLink RX4 190 Lib.Math.max.name, Cond.static Lib.Math.max.name, Cond.code Lib.Math.max.name Lib.Math.max.code 2 (some .int), Cond.methodLink RX4 258 yX1_setHeight]
def wsL_law0_r14 : List Cond := [Cond.instanceMethod yX1_setHeight, Cond.selects RX1 yX1_setHeight yX1_setHeight, Cond.code yX1_setHeight cX1_setHeight 3 none, Cond.methodLink RX4 261 yX2_setAsymmetry, Cond.instanceMethod yX2_setAsymmetry, Cond.selects RX2 yX2_setAsymmetry yX2_setAsymmetry, Cond.code yX2_setAsymmetry cX2_setAsymmetry 3 none, Cond.methodLink RX4 264 yX2_addCycles, Cond.instanceMethod yX2_addCycles, Cond.selects RX2 yX2_addCycles yX2_addCycles, Cond.code yX2_addCycles cX2_addCycles 3 none, Cond.methodLink RX4 235 yX1_run, Cond.instanceMethod yX1_run, Cond.selects RX1 yX1_run yX1_run, Cond.code yX1_run cX1_run 3 none, Cond.methodLink RX1 35 yX1_addToRate, Cond.methodLink RX4 238 yX2_measureAll, Cond.instanceMethod yX2_measureAll, Cond.selects RX2 yX2_measureAll yX2_measureAll, Cond.code yX2_measureAll cX2_measureAll 5 none, Cond.methodLink RX2 42 yX1_phaseOf, Cond.instanceMethod yX1_phaseOf, Cond.selects RX1 yX1_phaseOf yX1_phaseOf, Cond.code yX1_phaseOf cX1_phaseOf 2 (some .int)]
def wsL_law0_r15 : List Cond := [Cond.methodLink RX4 242 yX4_steered, Cond.instanceMethod yX4_steered, Cond.selects RX4 yX4_steered yX4_steered, Cond.code yX4_steered cX4_steered 3 (some .int), Cond.methodLink RX4 210 yX4_meanOrZero, Cond.instanceMethod yX4_meanOrZero, Cond.selects RX4 yX4_meanOrZero yX4_meanOrZero, Cond.code yX4_meanOrZero cX4_meanOrZero 9 (some .int), Cond.methodLink RX4 270 yX2_otherThanZero, Cond.instanceMethod yX2_otherThanZero, Cond.selects RX2 yX2_otherThanZero yX2_otherThanZero, Cond.code yX2_otherThanZero cX2_otherThanZero 2 (some .int), Cond.methodLink RX4 222 yX2_isLaidBefore, Cond.instanceMethod yX2_isLaidBefore, Cond.selects RX2 yX2_isLaidBefore yX2_isLaidBefore, Cond.code yX2_isLaidBefore cX2_isLaidBefore 3 (some .boolean), Cond.methodLink RX4 273 yX2_aheadOfZero, Cond.instanceMethod yX2_aheadOfZero, Cond.selects RX2 yX2_aheadOfZero yX2_aheadOfZero, Cond.code yX2_aheadOfZero cX2_aheadOfZero 4 (some .int), Cond.methodLink RX2 48 yX2_correctedOf, Cond.instanceMethod yX2_correctedOf, Cond.selects RX2 yX2_correctedOf yX2_correctedOf, Cond.code yX2_correctedOf cX2_correctedOf 3 (some .int)]
def wsL_law0_r16 : List Cond := [Cond.methodLink RX4 276 yX4_held, Cond.methodLink RL 109 yX5_pass, Cond.instanceMethod yX5_pass, Cond.selects RX5 yX5_pass yX5_pass, Cond.code yX5_pass cX5_pass 3 (some .int), Cond.methodLink RX5 146 yX5_passes, Cond.instanceMethod yX5_passes, Cond.selects RX5 yX5_passes yX5_passes, Cond.code yX5_passes cX5_passes 2 none, Cond.methodLink RX5 134 yX5_next, Cond.instanceMethod yX5_next, Cond.selects RX5 yX5_next yX5_next, Cond.code yX5_next cX5_next 3 (some .int), Cond.methodLink RX5 127 yX5_isAhead, Cond.instanceMethod yX5_isAhead, Cond.selects RX5 yX5_isAhead yX5_isAhead, Cond.code yX5_isAhead cX5_isAhead 3 (some .boolean), Cond.methodLink RX5 138 yX5_comes, Cond.instanceMethod yX5_comes, Cond.selects RX5 yX5_comes yX5_comes, Cond.code yX5_comes cX5_comes 3 none, Cond.methodLink RX5 130 yX5_held, Cond.static yX5_held, Cond.code yX5_held cX5_held 2 (some .int)]
def wsL_law0_r17 : List Cond := [Cond.methodLink RX5 142 yX5_meanOf, Cond.instanceMethod yX5_meanOf, Cond.selects RX5 yX5_meanOf yX5_meanOf, Cond.code yX5_meanOf cX5_meanOf 9 (some .int), Cond.methodLink RX5 190 yX5_linkOf, Cond.instanceMethod yX5_linkOf, Cond.selects RX5 yX5_linkOf yX5_linkOf, Cond.code yX5_linkOf cX5_linkOf 6 (some .int), Cond.methodLink RX5 152 yX5_hasMeasured, Cond.instanceMethod yX5_hasMeasured, Cond.selects RX5 yX5_hasMeasured yX5_hasMeasured, Cond.code yX5_hasMeasured cX5_hasMeasured 3 (some .boolean), Cond.methodLink RX5 149 yX5_isDay, Cond.instanceMethod yX5_isDay, Cond.selects RX5 yX5_isDay yX5_isDay, Cond.code yX5_isDay cX5_isDay 2 (some .boolean), Cond.methodLink RX5 155 yX5_corrected, Cond.instanceMethod yX5_corrected, Cond.selects RX5 yX5_corrected yX5_corrected, Cond.code yX5_corrected cX5_corrected 5 (some .int), Cond.methodLink RL 110 yL_vote, Cond.static yL_vote, Cond.codeWith yL_vote cL_vote 5 (some .int) [(0, 10, 13, 21)], Cond.methodLink RL 41 yX4_vote]
def wsL_law0_r18 : List Cond := [Cond.instanceMethod yX4_vote, Cond.selects RX4 yX4_vote yX4_vote, Cond.code yX4_vote cX4_vote 3 (some .int), Cond.methodLink RX4 148 yX4_housesFor, Cond.instanceMethod yX4_housesFor, Cond.selects RX4 yX4_housesFor yX4_housesFor, Cond.code yX4_housesFor cX4_housesFor 3 (some .int), Cond.methodLink RL 113 yX5_vote, Cond.instanceMethod yX5_vote, Cond.selects RX5 yX5_vote yX5_vote, Cond.code yX5_vote cX5_vote 3 (some .int), Cond.methodLink RX5 195 yX5_forIt, Cond.instanceMethod yX5_forIt, Cond.selects RX5 yX5_forIt yX5_forIt, Cond.code yX5_forIt cX5_forIt 3 (some .int), Cond.methodLink RL 114 yL_adopt, Cond.static yL_adopt, Cond.codeWith yL_adopt cL_adopt 3 (some .int) [(0, 15, 18, 15)], Cond.classLink RL 15 "java/lang/IllegalStateException", Cond.methodLink RL 45 yX4_adopt, Cond.instanceMethod yX4_adopt, Cond.selects RX4 yX4_adopt yX4_adopt, Cond.code yX4_adopt cX4_adopt 1 (some .boolean), Cond.methodLink RX4 153 yX4_openRings]
def wsL_law0_r19 : List Cond := [Cond.instanceMethod yX4_openRings, Cond.selects RX4 yX4_openRings yX4_openRings, Cond.code yX4_openRings cX4_openRings 2 (some .int), Cond.methodLink RX4 201 yX3_gather, Cond.instanceMethod yX3_gather, Cond.selects RX3 yX3_gather yX3_gather, Cond.code yX3_gather cX3_gather 4 none, Cond.methodLink RX3 50 yX2_count, Cond.methodLink RX3 55 yX2_isLaidBefore, Cond.methodLink RX3 59 yX3_gatherFrom, Cond.instanceMethod yX3_gatherFrom, Cond.selects RX3 yX3_gatherFrom yX3_gatherFrom, Cond.code yX3_gatherFrom cX3_gatherFrom 6 none, Cond.methodLink RX3 63 yX2_areRing, Cond.instanceMethod yX2_areRing, Cond.selects RX2 yX2_areRing yX2_areRing, Cond.code yX2_areRing cX2_areRing 4 (some .boolean), Cond.methodLink RX2 52 yX2_bothBits, Cond.instanceMethod yX2_bothBits, Cond.selects RX2 yX2_bothBits yX2_bothBits, Cond.code yX2_bothBits cX2_bothBits 2 (some .int), Cond.methodLink RX3 67 yX3_add, Cond.instanceMethod yX3_add, Cond.selects RX3 yX3_add yX3_add]
def wsL_law0_r20 : List Cond := [Cond.code yX3_add cX3_add 6 none, Cond.methodLink RX3 71 yX2_signBehind, Cond.instanceMethod yX2_signBehind, Cond.selects RX2 yX2_signBehind yX2_signBehind, Cond.code yX2_signBehind cX2_signBehind 3 (some .int), Cond.methodLink RX3 75 yX2_around, Cond.instanceMethod yX2_around, Cond.selects RX2 yX2_around yX2_around, Cond.code yX2_around cX2_around 5 (some .int), Cond.methodLink RX2 55 yX2_signBehind, Cond.methodLink RX4 267 yX3_countOpen, Cond.instanceMethod yX3_countOpen, Cond.selects RX3 yX3_countOpen yX3_countOpen, Cond.code yX3_countOpen cX3_countOpen 4 (some .int), Cond.methodLink RX3 79 Lib.Math.abs.name, Cond.static Lib.Math.abs.name, Cond.code Lib.Math.abs.name Lib.Math.abs.code 1 (some .int), Cond.methodLink RL 117 yX5_adopt, Cond.instanceMethod yX5_adopt, Cond.selects RX5 yX5_adopt yX5_adopt, Cond.code yX5_adopt cX5_adopt 1 (some .boolean), Cond.fieldLink RX5 198 "TickFallModel" "isAdopted" "Z", Cond.methodLink RX5 181 yX5_laysRings, Cond.instanceMethod yX5_laysRings]
def wsL_law0_r21 : List Cond := [Cond.selects RX5 yX5_laysRings yX5_laysRings, Cond.code yX5_laysRings cX5_laysRings 6 none, Cond.fieldLink RX5 161 "TickFallModel" "rings" "I", Cond.methodLink RX5 168 yX5_isRing, Cond.instanceMethod yX5_isRing, Cond.selects RX5 yX5_isRing yX5_isRing, Cond.code yX5_isRing cX5_isRing 7 (some .boolean), Cond.methodLink RX5 158 yX5_otherEnd, Cond.instanceMethod yX5_otherEnd, Cond.selects RX5 yX5_otherEnd yX5_otherEnd, Cond.code yX5_otherEnd cX5_otherEnd 3 (some .int), Cond.methodLink RX5 171 yX5_laysRing, Cond.instanceMethod yX5_laysRing, Cond.selects RX5 yX5_laysRing yX5_laysRing, Cond.code yX5_laysRing cX5_laysRing 6 none, Cond.methodLink RX5 164 yX5_goesBy, Cond.instanceMethod yX5_goesBy, Cond.selects RX5 yX5_goesBy yX5_goesBy, Cond.code yX5_goesBy cX5_goesBy 6 none, Cond.methodLink RX5 184 yX5_openRings, Cond.instanceMethod yX5_openRings, Cond.selects RX5 yX5_openRings yX5_openRings, Cond.code yX5_openRings cX5_openRings 5 (some .int), Cond.methodLink RL 118 yX4_day]
def wsL_law0_r22 : List Cond := [Cond.instanceMethod yX4_day, Cond.selects RX4 yX4_day yX4_day, Cond.code yX4_day cX4_day 1 (some .int), Cond.methodLink RL 121 yX5_day, Cond.instanceMethod yX5_day, Cond.selects RX5 yX5_day yX5_day, Cond.code yX5_day cX5_day 1 (some .int), Cond.methodLink RL 122 yL_of, Cond.static yL_of, Cond.codeWith yL_of cL_of 5 (some .int) [(0, 10, 13, 21), (0, 10, 17, 13)], Cond.methodLink RL 49 yX4_of, Cond.instanceMethod yX4_of, Cond.selects RX4 yX4_of yX4_of, Cond.code yX4_of cX4_of 3 (some .int), Cond.methodLink RX4 156 yX1_phaseOf, Cond.methodLink RX4 159 yX1_rateOf, Cond.instanceMethod yX1_rateOf, Cond.selects RX1 yX1_rateOf yX1_rateOf, Cond.code yX1_rateOf cX1_rateOf 2 (some .int), Cond.methodLink RX4 162 yX1_heightOf, Cond.instanceMethod yX1_heightOf, Cond.selects RX1 yX1_heightOf yX1_heightOf, Cond.code yX1_heightOf cX1_heightOf 2 (some .int), Cond.methodLink RL 124 yX5_of]
def wsL_law0_r23 : List Cond := [Cond.instanceMethod yX5_of, Cond.selects RX5 yX5_of yX5_of, Cond.code yX5_of cX5_of 3 (some .int), Cond.methodLink RL 125 yL_measured, Cond.static yL_measured, Cond.codeWith yL_measured cL_measured 6 (some .int) [(0, 12, 15, 21)], Cond.methodLink RL 52 yX4_measured, Cond.instanceMethod yX4_measured, Cond.selects RX4 yX4_measured yX4_measured, Cond.code yX4_measured cX4_measured 4 (some .int), Cond.methodLink RX4 167 yX4_hasMeasured, Cond.instanceMethod yX4_hasMeasured, Cond.selects RX4 yX4_hasMeasured yX4_hasMeasured, Cond.code yX4_hasMeasured cX4_hasMeasured 3 (some .boolean), Cond.methodLink RX4 196 yX4_hasPassed, Cond.instanceMethod yX4_hasPassed, Cond.selects RX4 yX4_hasPassed yX4_hasPassed, Cond.code yX4_hasPassed cX4_hasPassed 2 (some .boolean), Cond.methodLink RX4 172 yX2_correctedOf, Cond.methodLink RX4 175 yX2_rawOf, Cond.instanceMethod yX2_rawOf, Cond.selects RX2 yX2_rawOf yX2_rawOf, Cond.code yX2_rawOf cX2_rawOf 3 (some .int), Cond.methodLink RL 128 yX5_measured]
def wsL_law0_r24 : List Cond := [Cond.instanceMethod yX5_measured, Cond.selects RX5 yX5_measured yX5_measured, Cond.code yX5_measured cX5_measured 4 (some .int), Cond.methodLink RL 129 yL_closes, Cond.static yL_closes, Cond.codeWith yL_closes cL_closes 7 (some .int) [(0, 14, 17, 21), (0, 14, 21, 13)], Cond.methodLink RL 56 yX4_closes, Cond.instanceMethod yX4_closes, Cond.selects RX4 yX4_closes yX4_closes, Cond.code yX4_closes cX4_closes 8 (some .int), Cond.methodLink RX4 180 yX2_areRing, Cond.methodLink RX4 193 yX2_around, Cond.methodLink RL 131 yX5_closes, Cond.instanceMethod yX5_closes, Cond.selects RX5 yX5_closes yX5_closes, Cond.code yX5_closes cX5_closes 9 (some .int), Cond.methodLink RX5 174 yX5_least, Cond.static yX5_least, Cond.code yX5_least cX5_least 3 (some .int), Cond.methodLink RX5 178 yX5_most, Cond.static yX5_most, Cond.code yX5_most cX5_most 3 (some .int), Cond.methodLink RL 132 yL_open, Cond.static yL_open]
def wsL_law0_r25 : List Cond := [Cond.codeWith yL_open cL_open 4 (some .int) [(0, 9, 12, 21)], Cond.methodLink RL 59 yX4_open, Cond.instanceMethod yX4_open, Cond.selects RX4 yX4_open yX4_open, Cond.code yX4_open cX4_open 2 (some .int), Cond.methodLink RL 134 yX5_open, Cond.instanceMethod yX5_open, Cond.selects RX5 yX5_open yX5_open, Cond.code yX5_open cX5_open 2 (some .int), Cond.methodLink RL 135 yL_slips, Cond.static yL_slips, Cond.codeWith yL_slips cL_slips 4 (some .int) [(0, 9, 12, 21)], Cond.methodLink RL 62 yX4_slips, Cond.instanceMethod yX4_slips, Cond.selects RX4 yX4_slips yX4_slips, Cond.code yX4_slips cX4_slips 2 (some .int), Cond.methodLink RX4 205 yX3_findSlips, Cond.instanceMethod yX3_findSlips, Cond.selects RX3 yX3_findSlips yX3_findSlips, Cond.code yX3_findSlips cX3_findSlips 3 (some .int), Cond.methodLink RX3 85 yX3_tryFrom, Cond.static yX3_tryFrom, Cond.code yX3_tryFrom cX3_tryFrom 6 none, Cond.methodLink RX3 89 yX3_areClosedAbove]
def wsL_law0_r26 : List Cond := [Cond.instanceMethod yX3_areClosedAbove, Cond.selects RX3 yX3_areClosedAbove yX3_areClosedAbove, Cond.code yX3_areClosedAbove cX3_areClosedAbove 3 (some .boolean), Cond.methodLink RX3 93 yX3_takenOff, Cond.instanceMethod yX3_takenOff, Cond.selects RX3 yX3_takenOff yX3_takenOff, Cond.code yX3_takenOff cX3_takenOff 2 (some .int), Cond.methodLink RL 137 yX5_slips, Cond.instanceMethod yX5_slips, Cond.selects RX5 yX5_slips yX5_slips, Cond.code yX5_slips cX5_slips 7 (some .int), Cond.methodLink RX5 187 yX5_laysOut, Cond.instanceMethod yX5_laysOut, Cond.selects RX5 yX5_laysOut yX5_laysOut, Cond.code yX5_laysOut cX5_laysOut 6 (some .int), Cond.methodLink RL 138 yL_mean, Cond.static yL_mean, Cond.codeWith yL_mean cL_mean 4 (some .int) [(0, 9, 12, 21)], Cond.methodLink RL 65 yX4_mean, Cond.instanceMethod yX4_mean, Cond.selects RX4 yX4_mean yX4_mean, Cond.code yX4_mean cX4_mean 2 (some .int), Cond.methodLink RL 140 yX5_mean, Cond.instanceMethod yX5_mean]
def wsL_law0_r27 : List Cond := [Cond.selects RX5 yX5_mean yX5_mean, Cond.code yX5_mean cX5_mean 2 (some .int), Cond.methodLink RL 141 yL_published, Cond.static yL_published, Cond.codeWith yL_published cL_published 5 (some .int) [(0, 10, 13, 21)], Cond.methodLink RL 68 yX4_published, Cond.instanceMethod yX4_published, Cond.selects RX4 yX4_published yX4_published, Cond.code yX4_published cX4_published 3 (some .int), Cond.methodLink RX4 213 yX4_steeredAnew, Cond.instanceMethod yX4_steeredAnew, Cond.selects RX4 yX4_steeredAnew yX4_steeredAnew, Cond.code yX4_steeredAnew cX4_steeredAnew 4 (some .int), Cond.methodLink RL 143 yX5_published, Cond.instanceMethod yX5_published, Cond.selects RX5 yX5_published yX5_published, Cond.code yX5_published cX5_published 5 (some .int), Cond.methodLink RL 144 yL_height, Cond.static yL_height, Cond.codeWith yL_height cL_height 7 (some .int) [(0, 14, 17, 21), (0, 14, 21, 13)], Cond.methodLink RL 71 yX4_height, Cond.instanceMethod yX4_height, Cond.selects RX4 yX4_height yX4_height, Cond.code yX4_height cX4_height 8 (some .int)]
def wsL_law0_r28 : List Cond := [Cond.constantLong RX4 220 (100), Cond.methodLink RL 146 yX5_height, Cond.instanceMethod yX5_height, Cond.selects RX5 yX5_height yX5_height, Cond.code yX5_height cX5_height 9 (some .int), Cond.constantLong RX5 193 (100), Cond.methodLink RL 147 yX4_events, Cond.instanceMethod yX4_events, Cond.selects RX4 yX4_events yX4_events, Cond.code yX4_events cX4_events 1 (some .int), Cond.methodLink RL 150 yX5_events, Cond.instanceMethod yX5_events, Cond.selects RX5 yX5_events yX5_events, Cond.code yX5_events cX5_events 1 (some .int)]
def wsL_law0 : List Cond := (wsL_law0_r1 ++ (wsL_law0_r2 ++ (wsL_law0_r3 ++ (wsL_law0_r4 ++ (wsL_law0_r5 ++ (wsL_law0_r6 ++ (wsL_law0_r7 ++ (wsL_law0_r8 ++ (wsL_law0_r9 ++ (wsL_law0_r10 ++ (wsL_law0_r11 ++ (wsL_law0_r12 ++ (wsL_law0_r13 ++ (wsL_law0_r14 ++ (wsL_law0_r15 ++ (wsL_law0_r16 ++ (wsL_law0_r17 ++ (wsL_law0_r18 ++ (wsL_law0_r19 ++ (wsL_law0_r20 ++ (wsL_law0_r21 ++ (wsL_law0_r22 ++ (wsL_law0_r23 ++ (wsL_law0_r24 ++ (wsL_law0_r25 ++ (wsL_law0_r26 ++ (wsL_law0_r27 ++ wsL_law0_r28))))))))))))))))))))))))))) ++ wsX40 ++ wsX50 ++ wsX10 ++ wsX20 ++ wsX00 ++ wsX30 ++ ([] : List Cond)
def wsL_law : List Cond := wsL_law0 ++ (vx_atS RX4 67 "java/lang/IllegalArgumentException" ["java/lang/RuntimeException", "java/lang/Exception"]).filter goodWord ++ (vx_atS RX4 78 "java/lang/IllegalStateException" ["java/lang/RuntimeException", "java/lang/Exception"]).filter goodWord ++ (vx_atS RX4 91 "java/lang/IndexOutOfBoundsException" ["java/lang/RuntimeException", "java/lang/Exception"]).filter goodWord
end
section
set_option maxRecDepth 20000 in
theorem wsL_in_r1 : ∀ w ∈ wsL_law0_r1, w ∈ lw_tbl := fun w h => (goodIn_p wsL_law0_r1 [53, 56] (by decide +kernel) (by decide +kernel) w h).1
set_option maxRecDepth 20000 in
theorem wsL_in_r2 : ∀ w ∈ wsL_law0_r2, w ∈ lw_tbl := fun w h => (goodIn_p wsL_law0_r2 [61, 87] (by decide +kernel) (by decide +kernel) w h).1
set_option maxRecDepth 20000 in
theorem wsL_in_r3 : ∀ w ∈ wsL_law0_r3, w ∈ lw_tbl := fun w h => (goodIn_p wsL_law0_r3 [123, 136] (by decide +kernel) (by decide +kernel) w h).1
set_option maxRecDepth 20000 in
theorem wsL_in_r4 : ∀ w ∈ wsL_law0_r4, w ∈ lw_tbl := fun w h => (goodIn_p wsL_law0_r4 [695] (by decide +kernel) (by decide +kernel) w h).1
set_option maxRecDepth 20000 in
theorem wsL_in_r5 : ∀ w ∈ wsL_law0_r5, w ∈ lw_tbl := fun w h => (goodIn_p wsL_law0_r5 [227] (by decide +kernel) (by decide +kernel) w h).1
set_option maxRecDepth 20000 in
theorem wsL_in_r6 : ∀ w ∈ wsL_law0_r6, w ∈ lw_tbl := fun w h => (goodIn_p wsL_law0_r6 [230, 302, 322, 807, 810] (by decide +kernel) (by decide +kernel) w h).1
set_option maxRecDepth 20000 in
theorem wsL_in_r7 : ∀ w ∈ wsL_law0_r7, w ∈ lw_tbl := fun w h => (goodIn_p wsL_law0_r7 [814, 803, 330, 334] (by decide +kernel) (by decide +kernel) w h).1
set_option maxRecDepth 20000 in
theorem wsL_in_r8 : ∀ w ∈ wsL_law0_r8, w ∈ lw_tbl := fun w h => (goodIn_p wsL_law0_r8 [355, 359, 818, 822, 366, 371] (by decide +kernel) (by decide +kernel) w h).1
set_option maxRecDepth 20000 in
theorem wsL_in_r9 : ∀ w ∈ wsL_law0_r9, w ∈ lw_tbl := fun w h => (goodIn_p wsL_law0_r9 [376, 826, 383, 388, 392] (by decide +kernel) (by decide +kernel) w h).1
set_option maxRecDepth 20000 in
theorem wsL_in_r10 : ∀ w ∈ wsL_law0_r10, w ∈ lw_tbl := fun w h => (goodIn_p wsL_law0_r10 [218, 397, 830, 834, 837] (by decide +kernel) (by decide +kernel) w h).1
set_option maxRecDepth 20000 in
theorem wsL_in_r11 : ∀ w ∈ wsL_law0_r11, w ∈ lw_tbl := fun w h => (goodIn_p wsL_law0_r11 [404, 410, 415, 841, 422] (by decide +kernel) (by decide +kernel) w h).1
set_option maxRecDepth 20000 in
theorem wsL_in_r12 : ∀ w ∈ wsL_law0_r12, w ∈ lw_tbl := fun w h => (goodIn_p wsL_law0_r12 [845, 430, 436, 440, 444] (by decide +kernel) (by decide +kernel) w h).1
set_option maxRecDepth 20000 in
theorem wsL_in_r13 : ∀ w ∈ wsL_law0_r13, w ∈ lw_tbl := fun w h => (goodIn_p wsL_law0_r13 [448, 451, 454, 457, 461, 464, 467, 470] (by decide +kernel) (by decide +kernel) w h).1
set_option maxRecDepth 20000 in
theorem wsL_in_r14 : ∀ w ∈ wsL_law0_r14, w ∈ lw_tbl := fun w h => (goodIn_p wsL_law0_r14 [474, 478, 482, 486, 491, 495] (by decide +kernel) (by decide +kernel) w h).1
set_option maxRecDepth 20000 in
theorem wsL_in_r15 : ∀ w ∈ wsL_law0_r15, w ∈ lw_tbl := fun w h => (goodIn_p wsL_law0_r15 [499, 503, 507, 511, 515, 519] (by decide +kernel) (by decide +kernel) w h).1
set_option maxRecDepth 20000 in
theorem wsL_in_r16 : ∀ w ∈ wsL_law0_r16, w ∈ lw_tbl := fun w h => (goodIn_p wsL_law0_r16 [849, 853, 857, 861, 865, 868] (by decide +kernel) (by decide +kernel) w h).1
set_option maxRecDepth 20000 in
theorem wsL_in_r17 : ∀ w ∈ wsL_law0_r17, w ∈ lw_tbl := fun w h => (goodIn_p wsL_law0_r17 [872, 876, 880, 884, 888] (by decide +kernel) (by decide +kernel) w h).1
set_option maxRecDepth 20000 in
theorem wsL_in_r18 : ∀ w ∈ wsL_law0_r18, w ∈ lw_tbl := fun w h => (goodIn_p wsL_law0_r18 [527, 532, 955, 959, 539] (by decide +kernel) (by decide +kernel) w h).1
set_option maxRecDepth 20000 in
theorem wsL_in_r19 : ∀ w ∈ wsL_law0_r19, w ∈ lw_tbl := fun w h => (goodIn_p wsL_law0_r19 [544, 548, 554, 558, 562] (by decide +kernel) (by decide +kernel) w h).1
set_option maxRecDepth 20000 in
theorem wsL_in_r20 : ∀ w ∈ wsL_law0_r20, w ∈ lw_tbl := fun w h => (goodIn_p wsL_law0_r20 [566, 570, 574, 579, 582, 963] (by decide +kernel) (by decide +kernel) w h).1
set_option maxRecDepth 20000 in
theorem wsL_in_r21 : ∀ w ∈ wsL_law0_r21, w ∈ lw_tbl := fun w h => (goodIn_p wsL_law0_r21 [926, 906, 910, 914, 918, 930] (by decide +kernel) (by decide +kernel) w h).1
set_option maxRecDepth 20000 in
theorem wsL_in_r22 : ∀ w ∈ wsL_law0_r22, w ∈ lw_tbl := fun w h => (goodIn_p wsL_law0_r22 [210, 967, 589, 594, 598] (by decide +kernel) (by decide +kernel) w h).1
set_option maxRecDepth 20000 in
theorem wsL_in_r23 : ∀ w ∈ wsL_law0_r23, w ∈ lw_tbl := fun w h => (goodIn_p wsL_law0_r23 [971, 606, 610, 614, 620] (by decide +kernel) (by decide +kernel) w h).1
set_option maxRecDepth 20000 in
theorem wsL_in_r24 : ∀ w ∈ wsL_law0_r24, w ∈ lw_tbl := fun w h => (goodIn_p wsL_law0_r24 [892, 627, 896, 899, 902] (by decide +kernel) (by decide +kernel) w h).1
set_option maxRecDepth 20000 in
theorem wsL_in_r25 : ∀ w ∈ wsL_law0_r25, w ∈ lw_tbl := fun w h => (goodIn_p wsL_law0_r25 [638, 922, 646, 650, 653] (by decide +kernel) (by decide +kernel) w h).1
set_option maxRecDepth 20000 in
theorem wsL_in_r26 : ∀ w ∈ wsL_law0_r26, w ∈ lw_tbl := fun w h => (goodIn_p wsL_law0_r26 [657, 661, 934, 938, 668] (by decide +kernel) (by decide +kernel) w h).1
set_option maxRecDepth 20000 in
theorem wsL_in_r27 : ∀ w ∈ wsL_law0_r27, w ∈ lw_tbl := fun w h => (goodIn_p wsL_law0_r27 [942, 676, 680, 946, 687] (by decide +kernel) (by decide +kernel) w h).1
set_option maxRecDepth 20000 in
theorem wsL_in_r28 : ∀ w ∈ wsL_law0_r28, w ∈ lw_tbl := fun w h => (goodIn_p wsL_law0_r28 [950, 214, 975] (by decide +kernel) (by decide +kernel) w h).1
set_option maxRecDepth 20000 in
theorem wsL_in_wsX40 : ∀ w ∈ wsX40, w ∈ lw_tbl := by decide +kernel
set_option maxRecDepth 20000 in
theorem wsL_in_wsX50 : ∀ w ∈ wsX50, w ∈ lw_tbl := by decide +kernel
set_option maxRecDepth 20000 in
theorem wsL_in_wsX10 : ∀ w ∈ wsX10, w ∈ lw_tbl := by decide +kernel
set_option maxRecDepth 20000 in
theorem wsL_in_wsX20 : ∀ w ∈ wsX20, w ∈ lw_tbl := by decide +kernel
set_option maxRecDepth 20000 in
theorem wsL_in_wsX00 : ∀ w ∈ wsX00, w ∈ lw_tbl := by decide +kernel
set_option maxRecDepth 20000 in
theorem wsL_in_wsX30 : ∀ w ∈ wsX30, w ∈ lw_tbl := by decide +kernel
theorem wsL_ap {a b t : List Cond} (ha : ∀ w ∈ a, w ∈ t) (hb : ∀ w ∈ b, w ∈ t) : ∀ w ∈ a ++ b, w ∈ t := fun w h => (List.mem_append.mp h).elim (ha w) (hb w)
theorem wsL_law_in0 : ∀ w ∈ wsL_law0, w ∈ lw_tbl := wsL_ap (wsL_ap (wsL_ap (wsL_ap (wsL_ap (wsL_ap (wsL_ap ((wsL_ap wsL_in_r1 (wsL_ap wsL_in_r2 (wsL_ap wsL_in_r3 (wsL_ap wsL_in_r4 (wsL_ap wsL_in_r5 (wsL_ap wsL_in_r6 (wsL_ap wsL_in_r7 (wsL_ap wsL_in_r8 (wsL_ap wsL_in_r9 (wsL_ap wsL_in_r10 (wsL_ap wsL_in_r11 (wsL_ap wsL_in_r12 (wsL_ap wsL_in_r13 (wsL_ap wsL_in_r14 (wsL_ap wsL_in_r15 (wsL_ap wsL_in_r16 (wsL_ap wsL_in_r17 (wsL_ap wsL_in_r18 (wsL_ap wsL_in_r19 (wsL_ap wsL_in_r20 (wsL_ap wsL_in_r21 (wsL_ap wsL_in_r22 (wsL_ap wsL_in_r23 (wsL_ap wsL_in_r24 (wsL_ap wsL_in_r25 (wsL_ap wsL_in_r26 (wsL_ap wsL_in_r27 (wsL_in_r28))))))))))))))))))))))))))))) wsL_in_wsX40) wsL_in_wsX50) wsL_in_wsX10) wsL_in_wsX20) wsL_in_wsX00) wsL_in_wsX30) (fun _ h => nomatch h)
theorem wsL_law_x0 : ∀ w ∈ (vx_atS RX4 67 "java/lang/IllegalArgumentException" ["java/lang/RuntimeException", "java/lang/Exception"]).filter goodWord, w ∈ lw_tbl := by decide +kernel
theorem wsL_law_x1 : ∀ w ∈ (vx_atS RX4 78 "java/lang/IllegalStateException" ["java/lang/RuntimeException", "java/lang/Exception"]).filter goodWord, w ∈ lw_tbl := by decide +kernel
theorem wsL_law_x2 : ∀ w ∈ (vx_atS RX4 91 "java/lang/IndexOutOfBoundsException" ["java/lang/RuntimeException", "java/lang/Exception"]).filter goodWord, w ∈ lw_tbl := by decide +kernel
theorem wsL_law_in : ∀ w ∈ wsL_law, w ∈ lw_tbl := fun w h => (List.mem_append.mp h).elim (fun h => (List.mem_append.mp h).elim (fun h => (List.mem_append.mp h).elim (fun h => wsL_law_in0 w h) (fun h => wsL_law_x0 w h)) (fun h => wsL_law_x1 w h)) (fun h => wsL_law_x2 w h)
theorem inlX0 : ∀ w ∈ wsX00, w ∈ wsL_law := fun _ h => List.mem_append_left _ (List.mem_append_left _ (List.mem_append_left _ (List.mem_append_left _ (List.mem_append_left _ (List.mem_append_right _ h)))))
theorem inX0 : ∀ w ∈ wsX00, w ∈ lw_tbl := fun w h => wsL_law_in w (inlX0 w h)
theorem inlX1 : ∀ w ∈ wsX10, w ∈ wsL_law := fun _ h => List.mem_append_left _ (List.mem_append_left _ (List.mem_append_left _ (List.mem_append_left _ (List.mem_append_left _ (List.mem_append_left _ (List.mem_append_left _ (List.mem_append_right _ h)))))))
theorem inX1 : ∀ w ∈ wsX10, w ∈ lw_tbl := fun w h => wsL_law_in w (inlX1 w h)
theorem inlX2 : ∀ w ∈ wsX20, w ∈ wsL_law := fun _ h => List.mem_append_left _ (List.mem_append_left _ (List.mem_append_left _ (List.mem_append_left _ (List.mem_append_left _ (List.mem_append_left _ (List.mem_append_right _ h))))))
theorem inX2 : ∀ w ∈ wsX20, w ∈ lw_tbl := fun w h => wsL_law_in w (inlX2 w h)
theorem inlX3 : ∀ w ∈ wsX30, w ∈ wsL_law := fun _ h => List.mem_append_left _ (List.mem_append_left _ (List.mem_append_left _ (List.mem_append_left _ (List.mem_append_right _ h))))
theorem inX3 : ∀ w ∈ wsX30, w ∈ lw_tbl := fun w h => wsL_law_in w (inlX3 w h)
theorem inlX4 : ∀ w ∈ wsX40, w ∈ wsL_law := fun _ h => List.mem_append_left _ (List.mem_append_left _ (List.mem_append_left _ (List.mem_append_left _ (List.mem_append_left _ (List.mem_append_left _ (List.mem_append_left _ (List.mem_append_left _ (List.mem_append_left _ (List.mem_append_right _ h)))))))))
theorem inX4 : ∀ w ∈ wsX40, w ∈ lw_tbl := fun w h => wsL_law_in w (inlX4 w h)
theorem inlX5 : ∀ w ∈ wsX50, w ∈ wsL_law := fun _ h => List.mem_append_left _ (List.mem_append_left _ (List.mem_append_left _ (List.mem_append_left _ (List.mem_append_left _ (List.mem_append_left _ (List.mem_append_left _ (List.mem_append_left _ (List.mem_append_right _ h))))))))
theorem inX5 : ∀ w ∈ wsX50, w ∈ lw_tbl := fun w h => wsL_law_in w (inlX5 w h)
theorem inJ9 : ∀ w ∈ wsJ90, w ∈ lw_tbl := by decide +kernel
theorem inJ0 : ∀ w ∈ wsJ00, w ∈ lw_tbl := by decide +kernel
end
section
theorem dX0_init_0 : decode cX0_init 0 = .ok (.aload_n 0, 1) := by decide +kernel
theorem dX0_init_1 : decode cX0_init 1 = .ok (.invokespecial 5, 3) := by decide +kernel
theorem dX0_init_4 : decode cX0_init 4 = .ok (.aload_n 0, 1) := by decide +kernel
theorem dX0_init_5 : decode cX0_init 5 = .ok (.bipush 40, 2) := by decide +kernel
theorem dX0_init_7 : decode cX0_init 7 = .ok (.newarray .int, 2) := by decide +kernel
theorem dX0_init_9 : decode cX0_init 9 = .ok (.putfield 11, 3) := by decide +kernel
theorem dX0_init_12 : decode cX0_init 12 = .ok (.aload_n 0, 1) := by decide +kernel
theorem dX0_init_13 : decode cX0_init 13 = .ok (.iconst 0, 1) := by decide +kernel
theorem dX0_init_14 : decode cX0_init 14 = .ok (.putfield 15, 3) := by decide +kernel
theorem dX0_init_17 : decode cX0_init 17 = .ok (.return_, 1) := by decide +kernel
theorem dX0_kindOf_0 : decode cX0_kindOf 0 = .ok (.iload_n 0, 1) := by decide +kernel
theorem dX0_kindOf_1 : decode cX0_kindOf 1 = .ok (.bipush 16, 2) := by decide +kernel
theorem dX0_kindOf_3 : decode cX0_kindOf 3 = .ok (.ishr, 1) := by decide +kernel
theorem dX0_kindOf_4 : decode cX0_kindOf 4 = .ok (.iconst 3, 1) := by decide +kernel
theorem dX0_kindOf_5 : decode cX0_kindOf 5 = .ok (.iand, 1) := by decide +kernel
theorem dX0_kindOf_6 : decode cX0_kindOf 6 = .ok (.ireturn, 1) := by decide +kernel
theorem dX0_numberOf_0 : decode cX0_numberOf 0 = .ok (.iload_n 0, 1) := by decide +kernel
theorem dX0_numberOf_1 : decode cX0_numberOf 1 = .ok (.bipush 13, 2) := by decide +kernel
theorem dX0_numberOf_3 : decode cX0_numberOf 3 = .ok (.ishr, 1) := by decide +kernel
theorem dX0_numberOf_4 : decode cX0_numberOf 4 = .ok (.bipush 7, 2) := by decide +kernel
theorem dX0_numberOf_6 : decode cX0_numberOf 6 = .ok (.iand, 1) := by decide +kernel
theorem dX0_numberOf_7 : decode cX0_numberOf 7 = .ok (.ireturn, 1) := by decide +kernel
theorem dX0_amountOf_0 : decode cX0_amountOf 0 = .ok (.iload_n 0, 1) := by decide +kernel
theorem dX0_amountOf_1 : decode cX0_amountOf 1 = .ok (.sipush 8191, 3) := by decide +kernel
theorem dX0_amountOf_4 : decode cX0_amountOf 4 = .ok (.iand, 1) := by decide +kernel
theorem dX0_amountOf_5 : decode cX0_amountOf 5 = .ok (.sipush 500, 3) := by decide +kernel
theorem dX0_amountOf_8 : decode cX0_amountOf 8 = .ok (.isub, 1) := by decide +kernel
theorem dX0_amountOf_9 : decode cX0_amountOf 9 = .ok (.ireturn, 1) := by decide +kernel
theorem dX0_count_0 : decode cX0_count 0 = .ok (.aload_n 0, 1) := by decide +kernel
theorem dX0_count_1 : decode cX0_count 1 = .ok (.getfield 15, 3) := by decide +kernel
theorem dX0_count_4 : decode cX0_count 4 = .ok (.ireturn, 1) := by decide +kernel
theorem dX0_add_0 : decode cX0_add 0 = .ok (.iload_n 1, 1) := by decide +kernel
theorem dX0_add_1 : decode cX0_add 1 = .ok (.bipush 18, 2) := by decide +kernel
theorem dX0_add_3 : decode cX0_add 3 = .ok (.ishl, 1) := by decide +kernel
theorem dX0_add_4 : decode cX0_add 4 = .ok (.iload_n 2, 1) := by decide +kernel
theorem dX0_add_5 : decode cX0_add 5 = .ok (.bipush 16, 2) := by decide +kernel
theorem dX0_add_7 : decode cX0_add 7 = .ok (.ishl, 1) := by decide +kernel
theorem dX0_add_8 : decode cX0_add 8 = .ok (.ior, 1) := by decide +kernel
theorem dX0_add_9 : decode cX0_add 9 = .ok (.iload_n 3, 1) := by decide +kernel
theorem dX0_add_10 : decode cX0_add 10 = .ok (.bipush 13, 2) := by decide +kernel
theorem dX0_add_12 : decode cX0_add 12 = .ok (.ishl, 1) := by decide +kernel
theorem dX0_add_13 : decode cX0_add 13 = .ok (.ior, 1) := by decide +kernel
theorem dX0_add_14 : decode cX0_add 14 = .ok (.iload 4, 2) := by decide +kernel
theorem dX0_add_16 : decode cX0_add 16 = .ok (.sipush 500, 3) := by decide +kernel
theorem dX0_add_19 : decode cX0_add 19 = .ok (.iadd, 1) := by decide +kernel
theorem dX0_add_20 : decode cX0_add 20 = .ok (.ior, 1) := by decide +kernel
theorem dX0_add_21 : decode cX0_add 21 = .ok (.istore 5, 2) := by decide +kernel
theorem dX0_add_23 : decode cX0_add 23 = .ok (.aload_n 0, 1) := by decide +kernel
theorem dX0_add_24 : decode cX0_add 24 = .ok (.getfield 15, 3) := by decide +kernel
theorem dX0_add_27 : decode cX0_add 27 = .ok (.istore 6, 2) := by decide +kernel
theorem dX0_add_29 : decode cX0_add 29 = .ok (.iload 6, 2) := by decide +kernel
theorem dX0_add_31 : decode cX0_add 31 = .ok (.ifCond .le 39, 3) := by decide +kernel
theorem dX0_add_34 : decode cX0_add 34 = .ok (.aload_n 0, 1) := by decide +kernel
theorem dX0_add_35 : decode cX0_add 35 = .ok (.getfield 11, 3) := by decide +kernel
theorem dX0_add_38 : decode cX0_add 38 = .ok (.iload 6, 2) := by decide +kernel
theorem dX0_add_40 : decode cX0_add 40 = .ok (.iconst 1, 1) := by decide +kernel
theorem dX0_add_41 : decode cX0_add 41 = .ok (.isub, 1) := by decide +kernel
theorem dX0_add_42 : decode cX0_add 42 = .ok (.iaload, 1) := by decide +kernel
theorem dX0_add_43 : decode cX0_add 43 = .ok (.iload 5, 2) := by decide +kernel
theorem dX0_add_45 : decode cX0_add 45 = .ok (.if_icmp .ge 25, 3) := by decide +kernel
theorem dX0_add_48 : decode cX0_add 48 = .ok (.aload_n 0, 1) := by decide +kernel
theorem dX0_add_49 : decode cX0_add 49 = .ok (.getfield 11, 3) := by decide +kernel
theorem dX0_add_52 : decode cX0_add 52 = .ok (.iload 6, 2) := by decide +kernel
theorem dX0_add_54 : decode cX0_add 54 = .ok (.aload_n 0, 1) := by decide +kernel
theorem dX0_add_55 : decode cX0_add 55 = .ok (.getfield 11, 3) := by decide +kernel
theorem dX0_add_58 : decode cX0_add 58 = .ok (.iload 6, 2) := by decide +kernel
theorem dX0_add_60 : decode cX0_add 60 = .ok (.iconst 1, 1) := by decide +kernel
theorem dX0_add_61 : decode cX0_add 61 = .ok (.isub, 1) := by decide +kernel
theorem dX0_add_62 : decode cX0_add 62 = .ok (.iaload, 1) := by decide +kernel
theorem dX0_add_63 : decode cX0_add 63 = .ok (.iastore, 1) := by decide +kernel
theorem dX0_add_64 : decode cX0_add 64 = .ok (.iinc 6 (-1), 3) := by decide +kernel
theorem dX0_add_67 : decode cX0_add 67 = .ok (.goto (-38), 3) := by decide +kernel
theorem dX0_add_70 : decode cX0_add 70 = .ok (.aload_n 0, 1) := by decide +kernel
theorem dX0_add_71 : decode cX0_add 71 = .ok (.getfield 11, 3) := by decide +kernel
theorem dX0_add_74 : decode cX0_add 74 = .ok (.iload 6, 2) := by decide +kernel
theorem dX0_add_76 : decode cX0_add 76 = .ok (.iload 5, 2) := by decide +kernel
theorem dX0_add_78 : decode cX0_add 78 = .ok (.iastore, 1) := by decide +kernel
theorem dX0_add_79 : decode cX0_add 79 = .ok (.aload_n 0, 1) := by decide +kernel
theorem dX0_add_80 : decode cX0_add 80 = .ok (.dup, 1) := by decide +kernel
theorem dX0_add_81 : decode cX0_add 81 = .ok (.getfield 15, 3) := by decide +kernel
theorem dX0_add_84 : decode cX0_add 84 = .ok (.iconst 1, 1) := by decide +kernel
theorem dX0_add_85 : decode cX0_add 85 = .ok (.iadd, 1) := by decide +kernel
theorem dX0_add_86 : decode cX0_add 86 = .ok (.putfield 15, 3) := by decide +kernel
theorem dX0_add_89 : decode cX0_add 89 = .ok (.return_, 1) := by decide +kernel
theorem dX0_isNextDue_0 : decode cX0_isNextDue 0 = .ok (.aload_n 0, 1) := by decide +kernel
theorem dX0_isNextDue_1 : decode cX0_isNextDue 1 = .ok (.getfield 15, 3) := by decide +kernel
theorem dX0_isNextDue_4 : decode cX0_isNextDue 4 = .ok (.ifCond .le 25, 3) := by decide +kernel
theorem dX0_isNextDue_7 : decode cX0_isNextDue 7 = .ok (.aload_n 0, 1) := by decide +kernel
theorem dX0_isNextDue_8 : decode cX0_isNextDue 8 = .ok (.getfield 11, 3) := by decide +kernel
theorem dX0_isNextDue_11 : decode cX0_isNextDue 11 = .ok (.aload_n 0, 1) := by decide +kernel
theorem dX0_isNextDue_12 : decode cX0_isNextDue 12 = .ok (.getfield 15, 3) := by decide +kernel
theorem dX0_isNextDue_15 : decode cX0_isNextDue 15 = .ok (.iconst 1, 1) := by decide +kernel
theorem dX0_isNextDue_16 : decode cX0_isNextDue 16 = .ok (.isub, 1) := by decide +kernel
theorem dX0_isNextDue_17 : decode cX0_isNextDue 17 = .ok (.iaload, 1) := by decide +kernel
theorem dX0_isNextDue_18 : decode cX0_isNextDue 18 = .ok (.bipush 18, 2) := by decide +kernel
theorem dX0_isNextDue_20 : decode cX0_isNextDue 20 = .ok (.ishr, 1) := by decide +kernel
theorem dX0_isNextDue_21 : decode cX0_isNextDue 21 = .ok (.iload_n 1, 1) := by decide +kernel
theorem dX0_isNextDue_22 : decode cX0_isNextDue 22 = .ok (.if_icmp .gt 7, 3) := by decide +kernel
theorem dX0_isNextDue_25 : decode cX0_isNextDue 25 = .ok (.iconst 1, 1) := by decide +kernel
theorem dX0_isNextDue_26 : decode cX0_isNextDue 26 = .ok (.goto 4, 3) := by decide +kernel
theorem dX0_isNextDue_29 : decode cX0_isNextDue 29 = .ok (.iconst 0, 1) := by decide +kernel
theorem dX0_isNextDue_30 : decode cX0_isNextDue 30 = .ok (.ireturn, 1) := by decide +kernel
theorem dX0_takeNext_0 : decode cX0_takeNext 0 = .ok (.aload_n 0, 1) := by decide +kernel
theorem dX0_takeNext_1 : decode cX0_takeNext 1 = .ok (.dup, 1) := by decide +kernel
theorem dX0_takeNext_2 : decode cX0_takeNext 2 = .ok (.getfield 15, 3) := by decide +kernel
theorem dX0_takeNext_5 : decode cX0_takeNext 5 = .ok (.iconst 1, 1) := by decide +kernel
theorem dX0_takeNext_6 : decode cX0_takeNext 6 = .ok (.isub, 1) := by decide +kernel
theorem dX0_takeNext_7 : decode cX0_takeNext 7 = .ok (.putfield 15, 3) := by decide +kernel
theorem dX0_takeNext_10 : decode cX0_takeNext 10 = .ok (.aload_n 0, 1) := by decide +kernel
theorem dX0_takeNext_11 : decode cX0_takeNext 11 = .ok (.getfield 11, 3) := by decide +kernel
theorem dX0_takeNext_14 : decode cX0_takeNext 14 = .ok (.aload_n 0, 1) := by decide +kernel
theorem dX0_takeNext_15 : decode cX0_takeNext 15 = .ok (.getfield 15, 3) := by decide +kernel
theorem dX0_takeNext_18 : decode cX0_takeNext 18 = .ok (.iaload, 1) := by decide +kernel
theorem dX0_takeNext_19 : decode cX0_takeNext 19 = .ok (.ireturn, 1) := by decide +kernel
theorem dX1_init_0 : decode cX1_init 0 = .ok (.aload_n 0, 1) := by decide +kernel
theorem dX1_init_1 : decode cX1_init 1 = .ok (.invokespecial 3, 3) := by decide +kernel
theorem dX1_init_4 : decode cX1_init 4 = .ok (.aload_n 0, 1) := by decide +kernel
theorem dX1_init_5 : decode cX1_init 5 = .ok (.bipush 6, 2) := by decide +kernel
theorem dX1_init_7 : decode cX1_init 7 = .ok (.newarray .int, 2) := by decide +kernel
theorem dX1_init_9 : decode cX1_init 9 = .ok (.putfield 9, 3) := by decide +kernel
theorem dX1_init_12 : decode cX1_init 12 = .ok (.aload_n 0, 1) := by decide +kernel
theorem dX1_init_13 : decode cX1_init 13 = .ok (.bipush 6, 2) := by decide +kernel
theorem dX1_init_15 : decode cX1_init 15 = .ok (.newarray .int, 2) := by decide +kernel
theorem dX1_init_17 : decode cX1_init 17 = .ok (.putfield 15, 3) := by decide +kernel
theorem dX1_init_20 : decode cX1_init 20 = .ok (.aload_n 0, 1) := by decide +kernel
theorem dX1_init_21 : decode cX1_init 21 = .ok (.bipush 6, 2) := by decide +kernel
theorem dX1_init_23 : decode cX1_init 23 = .ok (.newarray .int, 2) := by decide +kernel
theorem dX1_init_25 : decode cX1_init 25 = .ok (.putfield 18, 3) := by decide +kernel
theorem dX1_init_28 : decode cX1_init 28 = .ok (.aload_n 0, 1) := by decide +kernel
theorem dX1_init_29 : decode cX1_init 29 = .ok (.bipush 6, 2) := by decide +kernel
theorem dX1_init_31 : decode cX1_init 31 = .ok (.newarray .int, 2) := by decide +kernel
theorem dX1_init_33 : decode cX1_init 33 = .ok (.putfield 21, 3) := by decide +kernel
theorem dX1_init_36 : decode cX1_init 36 = .ok (.aload_n 0, 1) := by decide +kernel
theorem dX1_init_37 : decode cX1_init 37 = .ok (.bipush 6, 2) := by decide +kernel
theorem dX1_init_39 : decode cX1_init 39 = .ok (.newarray .int, 2) := by decide +kernel
theorem dX1_init_41 : decode cX1_init 41 = .ok (.putfield 24, 3) := by decide +kernel
theorem dX1_init_44 : decode cX1_init 44 = .ok (.aload_n 0, 1) := by decide +kernel
theorem dX1_init_45 : decode cX1_init 45 = .ok (.iconst 0, 1) := by decide +kernel
theorem dX1_init_46 : decode cX1_init 46 = .ok (.putfield 27, 3) := by decide +kernel
theorem dX1_init_49 : decode cX1_init 49 = .ok (.return_, 1) := by decide +kernel
theorem dX1_count_0 : decode cX1_count 0 = .ok (.aload_n 0, 1) := by decide +kernel
theorem dX1_count_1 : decode cX1_count 1 = .ok (.getfield 27, 3) := by decide +kernel
theorem dX1_count_4 : decode cX1_count 4 = .ok (.ireturn, 1) := by decide +kernel
theorem dX1_has_0 : decode cX1_has 0 = .ok (.iload_n 1, 1) := by decide +kernel
theorem dX1_has_1 : decode cX1_has 1 = .ok (.ifCond .lt 15, 3) := by decide +kernel
theorem dX1_has_4 : decode cX1_has 4 = .ok (.iload_n 1, 1) := by decide +kernel
theorem dX1_has_5 : decode cX1_has 5 = .ok (.aload_n 0, 1) := by decide +kernel
theorem dX1_has_6 : decode cX1_has 6 = .ok (.getfield 27, 3) := by decide +kernel
theorem dX1_has_9 : decode cX1_has 9 = .ok (.if_icmp .ge 7, 3) := by decide +kernel
theorem dX1_has_12 : decode cX1_has 12 = .ok (.iconst 1, 1) := by decide +kernel
theorem dX1_has_13 : decode cX1_has 13 = .ok (.goto 4, 3) := by decide +kernel
theorem dX1_has_16 : decode cX1_has 16 = .ok (.iconst 0, 1) := by decide +kernel
theorem dX1_has_17 : decode cX1_has 17 = .ok (.ireturn, 1) := by decide +kernel
theorem dX1_add_0 : decode cX1_add 0 = .ok (.aload_n 0, 1) := by decide +kernel
theorem dX1_add_1 : decode cX1_add 1 = .ok (.getfield 27, 3) := by decide +kernel
theorem dX1_add_4 : decode cX1_add 4 = .ok (.istore_n 3, 1) := by decide +kernel
theorem dX1_add_5 : decode cX1_add 5 = .ok (.aload_n 0, 1) := by decide +kernel
theorem dX1_add_6 : decode cX1_add 6 = .ok (.getfield 9, 3) := by decide +kernel
theorem dX1_add_9 : decode cX1_add 9 = .ok (.iload_n 3, 1) := by decide +kernel
theorem dX1_add_10 : decode cX1_add 10 = .ok (.iload_n 1, 1) := by decide +kernel
theorem dX1_add_11 : decode cX1_add 11 = .ok (.iastore, 1) := by decide +kernel
theorem dX1_add_12 : decode cX1_add 12 = .ok (.aload_n 0, 1) := by decide +kernel
theorem dX1_add_13 : decode cX1_add 13 = .ok (.getfield 21, 3) := by decide +kernel
theorem dX1_add_16 : decode cX1_add 16 = .ok (.iload_n 3, 1) := by decide +kernel
theorem dX1_add_17 : decode cX1_add 17 = .ok (.iload_n 2, 1) := by decide +kernel
theorem dX1_add_18 : decode cX1_add 18 = .ok (.iastore, 1) := by decide +kernel
theorem dX1_add_19 : decode cX1_add 19 = .ok (.aload_n 0, 1) := by decide +kernel
theorem dX1_add_20 : decode cX1_add 20 = .ok (.getfield 18, 3) := by decide +kernel
theorem dX1_add_23 : decode cX1_add 23 = .ok (.iload_n 3, 1) := by decide +kernel
theorem dX1_add_24 : decode cX1_add 24 = .ok (.iconst 1, 1) := by decide +kernel
theorem dX1_add_25 : decode cX1_add 25 = .ok (.iastore, 1) := by decide +kernel
theorem dX1_add_26 : decode cX1_add 26 = .ok (.aload_n 0, 1) := by decide +kernel
theorem dX1_add_27 : decode cX1_add 27 = .ok (.dup, 1) := by decide +kernel
theorem dX1_add_28 : decode cX1_add 28 = .ok (.getfield 27, 3) := by decide +kernel
theorem dX1_add_31 : decode cX1_add 31 = .ok (.iconst 1, 1) := by decide +kernel
theorem dX1_add_32 : decode cX1_add 32 = .ok (.iadd, 1) := by decide +kernel
theorem dX1_add_33 : decode cX1_add 33 = .ok (.putfield 27, 3) := by decide +kernel
theorem dX1_add_36 : decode cX1_add 36 = .ok (.iload_n 3, 1) := by decide +kernel
theorem dX1_add_37 : decode cX1_add 37 = .ok (.ireturn, 1) := by decide +kernel
theorem dX1_phaseOf_0 : decode cX1_phaseOf 0 = .ok (.aload_n 0, 1) := by decide +kernel
theorem dX1_phaseOf_1 : decode cX1_phaseOf 1 = .ok (.getfield 24, 3) := by decide +kernel
theorem dX1_phaseOf_4 : decode cX1_phaseOf 4 = .ok (.iload_n 1, 1) := by decide +kernel
theorem dX1_phaseOf_5 : decode cX1_phaseOf 5 = .ok (.iaload, 1) := by decide +kernel
theorem dX1_phaseOf_6 : decode cX1_phaseOf 6 = .ok (.ireturn, 1) := by decide +kernel
theorem dX1_rateOf_0 : decode cX1_rateOf 0 = .ok (.aload_n 0, 1) := by decide +kernel
theorem dX1_rateOf_1 : decode cX1_rateOf 1 = .ok (.getfield 9, 3) := by decide +kernel
theorem dX1_rateOf_4 : decode cX1_rateOf 4 = .ok (.iload_n 1, 1) := by decide +kernel
theorem dX1_rateOf_5 : decode cX1_rateOf 5 = .ok (.iaload, 1) := by decide +kernel
theorem dX1_rateOf_6 : decode cX1_rateOf 6 = .ok (.ireturn, 1) := by decide +kernel
theorem dX1_heightOf_0 : decode cX1_heightOf 0 = .ok (.aload_n 0, 1) := by decide +kernel
theorem dX1_heightOf_1 : decode cX1_heightOf 1 = .ok (.getfield 21, 3) := by decide +kernel
theorem dX1_heightOf_4 : decode cX1_heightOf 4 = .ok (.iload_n 1, 1) := by decide +kernel
theorem dX1_heightOf_5 : decode cX1_heightOf 5 = .ok (.iaload, 1) := by decide +kernel
theorem dX1_heightOf_6 : decode cX1_heightOf 6 = .ok (.ireturn, 1) := by decide +kernel
theorem dX1_weightOf_0 : decode cX1_weightOf 0 = .ok (.aload_n 0, 1) := by decide +kernel
theorem dX1_weightOf_1 : decode cX1_weightOf 1 = .ok (.getfield 18, 3) := by decide +kernel
theorem dX1_weightOf_4 : decode cX1_weightOf 4 = .ok (.iload_n 1, 1) := by decide +kernel
theorem dX1_weightOf_5 : decode cX1_weightOf 5 = .ok (.iaload, 1) := by decide +kernel
theorem dX1_weightOf_6 : decode cX1_weightOf 6 = .ok (.ireturn, 1) := by decide +kernel
theorem dX1_setDriftAndWeight_0 : decode cX1_setDriftAndWeight 0 = .ok (.aload_n 0, 1) := by decide +kernel
theorem dX1_setDriftAndWeight_1 : decode cX1_setDriftAndWeight 1 = .ok (.getfield 15, 3) := by decide +kernel
theorem dX1_setDriftAndWeight_4 : decode cX1_setDriftAndWeight 4 = .ok (.iload_n 1, 1) := by decide +kernel
theorem dX1_setDriftAndWeight_5 : decode cX1_setDriftAndWeight 5 = .ok (.iload_n 2, 1) := by decide +kernel
theorem dX1_setDriftAndWeight_6 : decode cX1_setDriftAndWeight 6 = .ok (.iastore, 1) := by decide +kernel
theorem dX1_setDriftAndWeight_7 : decode cX1_setDriftAndWeight 7 = .ok (.aload_n 0, 1) := by decide +kernel
theorem dX1_setDriftAndWeight_8 : decode cX1_setDriftAndWeight 8 = .ok (.getfield 18, 3) := by decide +kernel
theorem dX1_setDriftAndWeight_11 : decode cX1_setDriftAndWeight 11 = .ok (.iload_n 1, 1) := by decide +kernel
theorem dX1_setDriftAndWeight_12 : decode cX1_setDriftAndWeight 12 = .ok (.iload_n 3, 1) := by decide +kernel
theorem dX1_setDriftAndWeight_13 : decode cX1_setDriftAndWeight 13 = .ok (.iastore, 1) := by decide +kernel
theorem dX1_setDriftAndWeight_14 : decode cX1_setDriftAndWeight 14 = .ok (.return_, 1) := by decide +kernel
theorem dX1_setHeight_0 : decode cX1_setHeight 0 = .ok (.aload_n 0, 1) := by decide +kernel
theorem dX1_setHeight_1 : decode cX1_setHeight 1 = .ok (.getfield 21, 3) := by decide +kernel
theorem dX1_setHeight_4 : decode cX1_setHeight 4 = .ok (.iload_n 1, 1) := by decide +kernel
theorem dX1_setHeight_5 : decode cX1_setHeight 5 = .ok (.iload_n 2, 1) := by decide +kernel
theorem dX1_setHeight_6 : decode cX1_setHeight 6 = .ok (.iastore, 1) := by decide +kernel
theorem dX1_setHeight_7 : decode cX1_setHeight 7 = .ok (.return_, 1) := by decide +kernel
set_option maxRecDepth 20000 in
theorem ggX1_addToRate_X4_held : GoodIn wsX1_addToRate wsX4_held := goodIn_r _ [4, 5, 6, 7, 8, 9, 10, 11] (by decide +kernel) (by decide +kernel)
set_option maxRecDepth 20000 in
theorem gX1_addToRate_X4_held_n31 : GoodIn wsX1_addToRate (wsX4_held) := ggX1_addToRate_X4_held
theorem dX1_addToRate_0 : decode cX1_addToRate 0 = .ok (.aload_n 0, 1) := by decide +kernel
theorem dX1_addToRate_1 : decode cX1_addToRate 1 = .ok (.getfield 9, 3) := by decide +kernel
theorem dX1_addToRate_4 : decode cX1_addToRate 4 = .ok (.iload_n 1, 1) := by decide +kernel
theorem dX1_addToRate_5 : decode cX1_addToRate 5 = .ok (.aload_n 0, 1) := by decide +kernel
theorem dX1_addToRate_6 : decode cX1_addToRate 6 = .ok (.getfield 9, 3) := by decide +kernel
theorem dX1_addToRate_9 : decode cX1_addToRate 9 = .ok (.iload_n 1, 1) := by decide +kernel
theorem dX1_addToRate_10 : decode cX1_addToRate 10 = .ok (.iaload, 1) := by decide +kernel
theorem dX1_addToRate_11 : decode cX1_addToRate 11 = .ok (.iload_n 2, 1) := by decide +kernel
theorem dX1_addToRate_12 : decode cX1_addToRate 12 = .ok (.iadd, 1) := by decide +kernel
theorem dX1_addToRate_13 : decode cX1_addToRate 13 = .ok (.sipush 5000, 3) := by decide +kernel
theorem dX1_addToRate_16 : decode cX1_addToRate 16 = .ok (.invokestatic 31, 3) := by decide +kernel
theorem dX1_addToRate_19 : decode cX1_addToRate 19 = .ok (.iastore, 1) := by decide +kernel
theorem dX1_addToRate_20 : decode cX1_addToRate 20 = .ok (.return_, 1) := by decide +kernel
set_option maxRecDepth 20000 in
theorem ggX1_run_X1_addToRate : GoodIn wsX1_run wsX1_addToRate := goodIn_r _ [10, 3, 11, 12, 13, 14, 15, 16, 17, 18, 19, 20, 21, 22, 23, 24, 25, 26] (by decide +kernel) (by decide +kernel)
set_option maxRecDepth 20000 in
theorem gX1_run_X1_addToRate : GoodIn wsX1_run (wsV RX1 35 RX1 yX1_addToRate wsX1_addToRate) := goodIn_app (goodIn_of _ (by decide +kernel)) ggX1_run_X1_addToRate
theorem dX1_run_0 : decode cX1_run 0 = .ok (.iconst 0, 1) := by decide +kernel
theorem dX1_run_1 : decode cX1_run 1 = .ok (.istore_n 2, 1) := by decide +kernel
theorem dX1_run_2 : decode cX1_run 2 = .ok (.iload_n 2, 1) := by decide +kernel
theorem dX1_run_3 : decode cX1_run 3 = .ok (.aload_n 0, 1) := by decide +kernel
theorem dX1_run_4 : decode cX1_run 4 = .ok (.getfield 27, 3) := by decide +kernel
theorem dX1_run_7 : decode cX1_run 7 = .ok (.if_icmp .ge 52, 3) := by decide +kernel
theorem dX1_run_10 : decode cX1_run 10 = .ok (.aload_n 0, 1) := by decide +kernel
theorem dX1_run_11 : decode cX1_run 11 = .ok (.getfield 24, 3) := by decide +kernel
theorem dX1_run_14 : decode cX1_run 14 = .ok (.iload_n 2, 1) := by decide +kernel
theorem dX1_run_15 : decode cX1_run 15 = .ok (.dup2, 1) := by decide +kernel
theorem dX1_run_16 : decode cX1_run 16 = .ok (.iaload, 1) := by decide +kernel
theorem dX1_run_17 : decode cX1_run 17 = .ok (.aload_n 0, 1) := by decide +kernel
theorem dX1_run_18 : decode cX1_run 18 = .ok (.getfield 9, 3) := by decide +kernel
theorem dX1_run_21 : decode cX1_run 21 = .ok (.iload_n 2, 1) := by decide +kernel
theorem dX1_run_22 : decode cX1_run 22 = .ok (.iaload, 1) := by decide +kernel
theorem dX1_run_23 : decode cX1_run 23 = .ok (.aload_n 0, 1) := by decide +kernel
theorem dX1_run_24 : decode cX1_run 24 = .ok (.getfield 21, 3) := by decide +kernel
theorem dX1_run_27 : decode cX1_run 27 = .ok (.iload_n 2, 1) := by decide +kernel
theorem dX1_run_28 : decode cX1_run 28 = .ok (.iaload, 1) := by decide +kernel
theorem dX1_run_29 : decode cX1_run 29 = .ok (.bipush 100, 2) := by decide +kernel
theorem dX1_run_31 : decode cX1_run 31 = .ok (.idiv, 1) := by decide +kernel
theorem dX1_run_32 : decode cX1_run 32 = .ok (.iadd, 1) := by decide +kernel
theorem dX1_run_33 : decode cX1_run 33 = .ok (.iadd, 1) := by decide +kernel
theorem dX1_run_34 : decode cX1_run 34 = .ok (.iastore, 1) := by decide +kernel
theorem dX1_run_35 : decode cX1_run 35 = .ok (.iload_n 1, 1) := by decide +kernel
theorem dX1_run_36 : decode cX1_run 36 = .ok (.bipush 10, 2) := by decide +kernel
theorem dX1_run_38 : decode cX1_run 38 = .ok (.irem, 1) := by decide +kernel
theorem dX1_run_39 : decode cX1_run 39 = .ok (.ifCond .ne 14, 3) := by decide +kernel
theorem dX1_run_42 : decode cX1_run 42 = .ok (.aload_n 0, 1) := by decide +kernel
theorem dX1_run_43 : decode cX1_run 43 = .ok (.iload_n 2, 1) := by decide +kernel
theorem dX1_run_44 : decode cX1_run 44 = .ok (.aload_n 0, 1) := by decide +kernel
theorem dX1_run_45 : decode cX1_run 45 = .ok (.getfield 15, 3) := by decide +kernel
theorem dX1_run_48 : decode cX1_run 48 = .ok (.iload_n 2, 1) := by decide +kernel
theorem dX1_run_49 : decode cX1_run 49 = .ok (.iaload, 1) := by decide +kernel
theorem dX1_run_50 : decode cX1_run 50 = .ok (.invokevirtual 35, 3) := by decide +kernel
theorem dX1_run_53 : decode cX1_run 53 = .ok (.iinc 2 1, 3) := by decide +kernel
theorem dX1_run_56 : decode cX1_run 56 = .ok (.goto (-54), 3) := by decide +kernel
theorem dX1_run_59 : decode cX1_run 59 = .ok (.return_, 1) := by decide +kernel
theorem dX2_init_0 : decode cX2_init 0 = .ok (.aload_n 0, 1) := by decide +kernel
theorem dX2_init_1 : decode cX2_init 1 = .ok (.invokespecial 3, 3) := by decide +kernel
theorem dX2_init_4 : decode cX2_init 4 = .ok (.aload_n 0, 1) := by decide +kernel
theorem dX2_init_5 : decode cX2_init 5 = .ok (.bipush 8, 2) := by decide +kernel
theorem dX2_init_7 : decode cX2_init 7 = .ok (.newarray .int, 2) := by decide +kernel
theorem dX2_init_9 : decode cX2_init 9 = .ok (.putfield 9, 3) := by decide +kernel
theorem dX2_init_12 : decode cX2_init 12 = .ok (.aload_n 0, 1) := by decide +kernel
theorem dX2_init_13 : decode cX2_init 13 = .ok (.bipush 8, 2) := by decide +kernel
theorem dX2_init_15 : decode cX2_init 15 = .ok (.newarray .int, 2) := by decide +kernel
theorem dX2_init_17 : decode cX2_init 17 = .ok (.putfield 15, 3) := by decide +kernel
theorem dX2_init_20 : decode cX2_init 20 = .ok (.aload_n 0, 1) := by decide +kernel
theorem dX2_init_21 : decode cX2_init 21 = .ok (.bipush 8, 2) := by decide +kernel
theorem dX2_init_23 : decode cX2_init 23 = .ok (.newarray .int, 2) := by decide +kernel
theorem dX2_init_25 : decode cX2_init 25 = .ok (.putfield 18, 3) := by decide +kernel
theorem dX2_init_28 : decode cX2_init 28 = .ok (.aload_n 0, 1) := by decide +kernel
theorem dX2_init_29 : decode cX2_init 29 = .ok (.bipush 8, 2) := by decide +kernel
theorem dX2_init_31 : decode cX2_init 31 = .ok (.newarray .int, 2) := by decide +kernel
theorem dX2_init_33 : decode cX2_init 33 = .ok (.putfield 21, 3) := by decide +kernel
theorem dX2_init_36 : decode cX2_init 36 = .ok (.aload_n 0, 1) := by decide +kernel
theorem dX2_init_37 : decode cX2_init 37 = .ok (.bipush 8, 2) := by decide +kernel
theorem dX2_init_39 : decode cX2_init 39 = .ok (.newarray .int, 2) := by decide +kernel
theorem dX2_init_41 : decode cX2_init 41 = .ok (.putfield 24, 3) := by decide +kernel
theorem dX2_init_44 : decode cX2_init 44 = .ok (.aload_n 0, 1) := by decide +kernel
theorem dX2_init_45 : decode cX2_init 45 = .ok (.bipush 8, 2) := by decide +kernel
theorem dX2_init_47 : decode cX2_init 47 = .ok (.newarray .int, 2) := by decide +kernel
theorem dX2_init_49 : decode cX2_init 49 = .ok (.putfield 27, 3) := by decide +kernel
theorem dX2_init_52 : decode cX2_init 52 = .ok (.aload_n 0, 1) := by decide +kernel
theorem dX2_init_53 : decode cX2_init 53 = .ok (.bipush 8, 2) := by decide +kernel
theorem dX2_init_55 : decode cX2_init 55 = .ok (.sipush 501, 3) := by decide +kernel
theorem dX2_init_58 : decode cX2_init 58 = .ok (.multianewarray 30 2, 4) := by decide +kernel
theorem dX2_init_62 : decode cX2_init 62 = .ok (.putfield 32, 3) := by decide +kernel
theorem dX2_init_65 : decode cX2_init 65 = .ok (.aload_n 0, 1) := by decide +kernel
theorem dX2_init_66 : decode cX2_init 66 = .ok (.bipush 8, 2) := by decide +kernel
theorem dX2_init_68 : decode cX2_init 68 = .ok (.sipush 501, 3) := by decide +kernel
theorem dX2_init_71 : decode cX2_init 71 = .ok (.multianewarray 30 2, 4) := by decide +kernel
theorem dX2_init_75 : decode cX2_init 75 = .ok (.putfield 35, 3) := by decide +kernel
theorem dX2_init_78 : decode cX2_init 78 = .ok (.aload_n 0, 1) := by decide +kernel
theorem dX2_init_79 : decode cX2_init 79 = .ok (.iconst 0, 1) := by decide +kernel
theorem dX2_init_80 : decode cX2_init 80 = .ok (.putfield 38, 3) := by decide +kernel
theorem dX2_init_83 : decode cX2_init 83 = .ok (.return_, 1) := by decide +kernel
theorem dX2_count_0 : decode cX2_count 0 = .ok (.aload_n 0, 1) := by decide +kernel
theorem dX2_count_1 : decode cX2_count 1 = .ok (.getfield 38, 3) := by decide +kernel
theorem dX2_count_4 : decode cX2_count 4 = .ok (.ireturn, 1) := by decide +kernel
theorem dX2_has_0 : decode cX2_has 0 = .ok (.iload_n 1, 1) := by decide +kernel
theorem dX2_has_1 : decode cX2_has 1 = .ok (.ifCond .lt 15, 3) := by decide +kernel
theorem dX2_has_4 : decode cX2_has 4 = .ok (.iload_n 1, 1) := by decide +kernel
theorem dX2_has_5 : decode cX2_has 5 = .ok (.aload_n 0, 1) := by decide +kernel
theorem dX2_has_6 : decode cX2_has 6 = .ok (.getfield 38, 3) := by decide +kernel
theorem dX2_has_9 : decode cX2_has 9 = .ok (.if_icmp .ge 7, 3) := by decide +kernel
theorem dX2_has_12 : decode cX2_has 12 = .ok (.iconst 1, 1) := by decide +kernel
theorem dX2_has_13 : decode cX2_has 13 = .ok (.goto 4, 3) := by decide +kernel
theorem dX2_has_16 : decode cX2_has 16 = .ok (.iconst 0, 1) := by decide +kernel
theorem dX2_has_17 : decode cX2_has 17 = .ok (.ireturn, 1) := by decide +kernel
theorem dX2_isLaidBefore_0 : decode cX2_isLaidBefore 0 = .ok (.aload_n 0, 1) := by decide +kernel
theorem dX2_isLaidBefore_1 : decode cX2_isLaidBefore 1 = .ok (.getfield 24, 3) := by decide +kernel
theorem dX2_isLaidBefore_4 : decode cX2_isLaidBefore 4 = .ok (.iload_n 1, 1) := by decide +kernel
theorem dX2_isLaidBefore_5 : decode cX2_isLaidBefore 5 = .ok (.iaload, 1) := by decide +kernel
theorem dX2_isLaidBefore_6 : decode cX2_isLaidBefore 6 = .ok (.iload_n 2, 1) := by decide +kernel
theorem dX2_isLaidBefore_7 : decode cX2_isLaidBefore 7 = .ok (.if_icmp .ge 7, 3) := by decide +kernel
theorem dX2_isLaidBefore_10 : decode cX2_isLaidBefore 10 = .ok (.iconst 1, 1) := by decide +kernel
theorem dX2_isLaidBefore_11 : decode cX2_isLaidBefore 11 = .ok (.goto 4, 3) := by decide +kernel
theorem dX2_isLaidBefore_14 : decode cX2_isLaidBefore 14 = .ok (.iconst 0, 1) := by decide +kernel
theorem dX2_isLaidBefore_15 : decode cX2_isLaidBefore 15 = .ok (.ireturn, 1) := by decide +kernel
theorem dX2_add_0 : decode cX2_add 0 = .ok (.aload_n 0, 1) := by decide +kernel
theorem dX2_add_1 : decode cX2_add 1 = .ok (.getfield 38, 3) := by decide +kernel
theorem dX2_add_4 : decode cX2_add 4 = .ok (.istore 5, 2) := by decide +kernel
theorem dX2_add_6 : decode cX2_add 6 = .ok (.aload_n 0, 1) := by decide +kernel
theorem dX2_add_7 : decode cX2_add 7 = .ok (.getfield 9, 3) := by decide +kernel
theorem dX2_add_10 : decode cX2_add 10 = .ok (.iload 5, 2) := by decide +kernel
theorem dX2_add_12 : decode cX2_add 12 = .ok (.iload_n 1, 1) := by decide +kernel
theorem dX2_add_13 : decode cX2_add 13 = .ok (.iastore, 1) := by decide +kernel
theorem dX2_add_14 : decode cX2_add 14 = .ok (.aload_n 0, 1) := by decide +kernel
theorem dX2_add_15 : decode cX2_add 15 = .ok (.getfield 15, 3) := by decide +kernel
theorem dX2_add_18 : decode cX2_add 18 = .ok (.iload 5, 2) := by decide +kernel
theorem dX2_add_20 : decode cX2_add 20 = .ok (.iload_n 2, 1) := by decide +kernel
theorem dX2_add_21 : decode cX2_add 21 = .ok (.iastore, 1) := by decide +kernel
theorem dX2_add_22 : decode cX2_add 22 = .ok (.aload_n 0, 1) := by decide +kernel
theorem dX2_add_23 : decode cX2_add 23 = .ok (.getfield 18, 3) := by decide +kernel
theorem dX2_add_26 : decode cX2_add 26 = .ok (.iload 5, 2) := by decide +kernel
theorem dX2_add_28 : decode cX2_add 28 = .ok (.iload_n 3, 1) := by decide +kernel
theorem dX2_add_29 : decode cX2_add 29 = .ok (.iastore, 1) := by decide +kernel
theorem dX2_add_30 : decode cX2_add 30 = .ok (.aload_n 0, 1) := by decide +kernel
theorem dX2_add_31 : decode cX2_add 31 = .ok (.getfield 24, 3) := by decide +kernel
theorem dX2_add_34 : decode cX2_add 34 = .ok (.iload 5, 2) := by decide +kernel
theorem dX2_add_36 : decode cX2_add 36 = .ok (.iload 4, 2) := by decide +kernel
theorem dX2_add_38 : decode cX2_add 38 = .ok (.iastore, 1) := by decide +kernel
theorem dX2_add_39 : decode cX2_add 39 = .ok (.aload_n 0, 1) := by decide +kernel
theorem dX2_add_40 : decode cX2_add 40 = .ok (.dup, 1) := by decide +kernel
theorem dX2_add_41 : decode cX2_add 41 = .ok (.getfield 38, 3) := by decide +kernel
theorem dX2_add_44 : decode cX2_add 44 = .ok (.iconst 1, 1) := by decide +kernel
theorem dX2_add_45 : decode cX2_add 45 = .ok (.iadd, 1) := by decide +kernel
theorem dX2_add_46 : decode cX2_add 46 = .ok (.putfield 38, 3) := by decide +kernel
theorem dX2_add_49 : decode cX2_add 49 = .ok (.iload 5, 2) := by decide +kernel
theorem dX2_add_51 : decode cX2_add 51 = .ok (.ireturn, 1) := by decide +kernel
theorem dX2_setAsymmetry_0 : decode cX2_setAsymmetry 0 = .ok (.aload_n 0, 1) := by decide +kernel
theorem dX2_setAsymmetry_1 : decode cX2_setAsymmetry 1 = .ok (.getfield 18, 3) := by decide +kernel
theorem dX2_setAsymmetry_4 : decode cX2_setAsymmetry 4 = .ok (.iload_n 1, 1) := by decide +kernel
theorem dX2_setAsymmetry_5 : decode cX2_setAsymmetry 5 = .ok (.iload_n 2, 1) := by decide +kernel
theorem dX2_setAsymmetry_6 : decode cX2_setAsymmetry 6 = .ok (.iastore, 1) := by decide +kernel
theorem dX2_setAsymmetry_7 : decode cX2_setAsymmetry 7 = .ok (.return_, 1) := by decide +kernel
theorem dX2_addCycles_0 : decode cX2_addCycles 0 = .ok (.aload_n 0, 1) := by decide +kernel
theorem dX2_addCycles_1 : decode cX2_addCycles 1 = .ok (.getfield 21, 3) := by decide +kernel
theorem dX2_addCycles_4 : decode cX2_addCycles 4 = .ok (.iload_n 1, 1) := by decide +kernel
theorem dX2_addCycles_5 : decode cX2_addCycles 5 = .ok (.dup2, 1) := by decide +kernel
theorem dX2_addCycles_6 : decode cX2_addCycles 6 = .ok (.iaload, 1) := by decide +kernel
theorem dX2_addCycles_7 : decode cX2_addCycles 7 = .ok (.iload_n 2, 1) := by decide +kernel
theorem dX2_addCycles_8 : decode cX2_addCycles 8 = .ok (.iadd, 1) := by decide +kernel
theorem dX2_addCycles_9 : decode cX2_addCycles 9 = .ok (.iastore, 1) := by decide +kernel
theorem dX2_addCycles_10 : decode cX2_addCycles 10 = .ok (.return_, 1) := by decide +kernel
theorem dX2_calibrationsOf_0 : decode cX2_calibrationsOf 0 = .ok (.aload_n 0, 1) := by decide +kernel
theorem dX2_calibrationsOf_1 : decode cX2_calibrationsOf 1 = .ok (.getfield 27, 3) := by decide +kernel
theorem dX2_calibrationsOf_4 : decode cX2_calibrationsOf 4 = .ok (.iload_n 1, 1) := by decide +kernel
theorem dX2_calibrationsOf_5 : decode cX2_calibrationsOf 5 = .ok (.iaload, 1) := by decide +kernel
theorem dX2_calibrationsOf_6 : decode cX2_calibrationsOf 6 = .ok (.ireturn, 1) := by decide +kernel
theorem dX2_addCalibration_0 : decode cX2_addCalibration 0 = .ok (.iload_n 2, 1) := by decide +kernel
theorem dX2_addCalibration_1 : decode cX2_addCalibration 1 = .ok (.istore 5, 2) := by decide +kernel
theorem dX2_addCalibration_3 : decode cX2_addCalibration 3 = .ok (.iload 5, 2) := by decide +kernel
theorem dX2_addCalibration_5 : decode cX2_addCalibration 5 = .ok (.iload_n 3, 1) := by decide +kernel
theorem dX2_addCalibration_6 : decode cX2_addCalibration 6 = .ok (.if_icmp .gt 23, 3) := by decide +kernel
theorem dX2_addCalibration_9 : decode cX2_addCalibration 9 = .ok (.aload_n 0, 1) := by decide +kernel
theorem dX2_addCalibration_10 : decode cX2_addCalibration 10 = .ok (.getfield 35, 3) := by decide +kernel
theorem dX2_addCalibration_13 : decode cX2_addCalibration 13 = .ok (.iload_n 1, 1) := by decide +kernel
theorem dX2_addCalibration_14 : decode cX2_addCalibration 14 = .ok (.aaload, 1) := by decide +kernel
theorem dX2_addCalibration_15 : decode cX2_addCalibration 15 = .ok (.iload 5, 2) := by decide +kernel
theorem dX2_addCalibration_17 : decode cX2_addCalibration 17 = .ok (.dup2, 1) := by decide +kernel
theorem dX2_addCalibration_18 : decode cX2_addCalibration 18 = .ok (.iaload, 1) := by decide +kernel
theorem dX2_addCalibration_19 : decode cX2_addCalibration 19 = .ok (.iload 4, 2) := by decide +kernel
theorem dX2_addCalibration_21 : decode cX2_addCalibration 21 = .ok (.iadd, 1) := by decide +kernel
theorem dX2_addCalibration_22 : decode cX2_addCalibration 22 = .ok (.iastore, 1) := by decide +kernel
theorem dX2_addCalibration_23 : decode cX2_addCalibration 23 = .ok (.iinc 5 1, 3) := by decide +kernel
theorem dX2_addCalibration_26 : decode cX2_addCalibration 26 = .ok (.goto (-23), 3) := by decide +kernel
theorem dX2_addCalibration_29 : decode cX2_addCalibration 29 = .ok (.aload_n 0, 1) := by decide +kernel
theorem dX2_addCalibration_30 : decode cX2_addCalibration 30 = .ok (.getfield 27, 3) := by decide +kernel
theorem dX2_addCalibration_33 : decode cX2_addCalibration 33 = .ok (.iload_n 1, 1) := by decide +kernel
theorem dX2_addCalibration_34 : decode cX2_addCalibration 34 = .ok (.dup2, 1) := by decide +kernel
theorem dX2_addCalibration_35 : decode cX2_addCalibration 35 = .ok (.iaload, 1) := by decide +kernel
theorem dX2_addCalibration_36 : decode cX2_addCalibration 36 = .ok (.iconst 1, 1) := by decide +kernel
theorem dX2_addCalibration_37 : decode cX2_addCalibration 37 = .ok (.iadd, 1) := by decide +kernel
theorem dX2_addCalibration_38 : decode cX2_addCalibration 38 = .ok (.iastore, 1) := by decide +kernel
theorem dX2_addCalibration_39 : decode cX2_addCalibration 39 = .ok (.aload_n 0, 1) := by decide +kernel
theorem dX2_addCalibration_40 : decode cX2_addCalibration 40 = .ok (.getfield 27, 3) := by decide +kernel
theorem dX2_addCalibration_43 : decode cX2_addCalibration 43 = .ok (.iload_n 1, 1) := by decide +kernel
theorem dX2_addCalibration_44 : decode cX2_addCalibration 44 = .ok (.iaload, 1) := by decide +kernel
theorem dX2_addCalibration_45 : decode cX2_addCalibration 45 = .ok (.ireturn, 1) := by decide +kernel
set_option maxRecDepth 20000 in
theorem ggX2_measureAll_X1_phaseOf : GoodIn wsX2_measureAll wsX1_phaseOf := goodIn_r _ [11, 12, 22, 23, 24, 25, 26, 27] (by decide +kernel) (by decide +kernel)
set_option maxRecDepth 20000 in
theorem gX2_measureAll_X1_phaseOf : GoodIn wsX2_measureAll (wsV RX2 42 RX1 yX1_phaseOf wsX1_phaseOf) := goodIn_app (goodIn_of _ (by decide +kernel)) ggX2_measureAll_X1_phaseOf
theorem dX2_measureAll_0 : decode cX2_measureAll 0 = .ok (.iconst 0, 1) := by decide +kernel
theorem dX2_measureAll_1 : decode cX2_measureAll 1 = .ok (.istore_n 3, 1) := by decide +kernel
theorem dX2_measureAll_2 : decode cX2_measureAll 2 = .ok (.iload_n 3, 1) := by decide +kernel
theorem dX2_measureAll_3 : decode cX2_measureAll 3 = .ok (.aload_n 0, 1) := by decide +kernel
theorem dX2_measureAll_4 : decode cX2_measureAll 4 = .ok (.getfield 38, 3) := by decide +kernel
theorem dX2_measureAll_7 : decode cX2_measureAll 7 = .ok (.if_icmp .ge 60, 3) := by decide +kernel
theorem dX2_measureAll_10 : decode cX2_measureAll 10 = .ok (.aload_n 1, 1) := by decide +kernel
theorem dX2_measureAll_11 : decode cX2_measureAll 11 = .ok (.aload_n 0, 1) := by decide +kernel
theorem dX2_measureAll_12 : decode cX2_measureAll 12 = .ok (.getfield 9, 3) := by decide +kernel
theorem dX2_measureAll_15 : decode cX2_measureAll 15 = .ok (.iload_n 3, 1) := by decide +kernel
theorem dX2_measureAll_16 : decode cX2_measureAll 16 = .ok (.iaload, 1) := by decide +kernel
theorem dX2_measureAll_17 : decode cX2_measureAll 17 = .ok (.invokevirtual 42, 3) := by decide +kernel
theorem dX2_measureAll_20 : decode cX2_measureAll 20 = .ok (.aload_n 1, 1) := by decide +kernel
theorem dX2_measureAll_21 : decode cX2_measureAll 21 = .ok (.aload_n 0, 1) := by decide +kernel
theorem dX2_measureAll_22 : decode cX2_measureAll 22 = .ok (.getfield 15, 3) := by decide +kernel
theorem dX2_measureAll_25 : decode cX2_measureAll 25 = .ok (.iload_n 3, 1) := by decide +kernel
theorem dX2_measureAll_26 : decode cX2_measureAll 26 = .ok (.iaload, 1) := by decide +kernel
theorem dX2_measureAll_27 : decode cX2_measureAll 27 = .ok (.invokevirtual 42, 3) := by decide +kernel
theorem dX2_measureAll_30 : decode cX2_measureAll 30 = .ok (.isub, 1) := by decide +kernel
theorem dX2_measureAll_31 : decode cX2_measureAll 31 = .ok (.istore 4, 2) := by decide +kernel
theorem dX2_measureAll_33 : decode cX2_measureAll 33 = .ok (.aload_n 0, 1) := by decide +kernel
theorem dX2_measureAll_34 : decode cX2_measureAll 34 = .ok (.getfield 32, 3) := by decide +kernel
theorem dX2_measureAll_37 : decode cX2_measureAll 37 = .ok (.iload_n 3, 1) := by decide +kernel
theorem dX2_measureAll_38 : decode cX2_measureAll 38 = .ok (.aaload, 1) := by decide +kernel
theorem dX2_measureAll_39 : decode cX2_measureAll 39 = .ok (.iload_n 2, 1) := by decide +kernel
theorem dX2_measureAll_40 : decode cX2_measureAll 40 = .ok (.iload 4, 2) := by decide +kernel
theorem dX2_measureAll_42 : decode cX2_measureAll 42 = .ok (.aload_n 0, 1) := by decide +kernel
theorem dX2_measureAll_43 : decode cX2_measureAll 43 = .ok (.getfield 18, 3) := by decide +kernel
theorem dX2_measureAll_46 : decode cX2_measureAll 46 = .ok (.iload_n 3, 1) := by decide +kernel
theorem dX2_measureAll_47 : decode cX2_measureAll 47 = .ok (.iaload, 1) := by decide +kernel
theorem dX2_measureAll_48 : decode cX2_measureAll 48 = .ok (.iadd, 1) := by decide +kernel
theorem dX2_measureAll_49 : decode cX2_measureAll 49 = .ok (.sipush 1000, 3) := by decide +kernel
theorem dX2_measureAll_52 : decode cX2_measureAll 52 = .ok (.aload_n 0, 1) := by decide +kernel
theorem dX2_measureAll_53 : decode cX2_measureAll 53 = .ok (.getfield 21, 3) := by decide +kernel
theorem dX2_measureAll_56 : decode cX2_measureAll 56 = .ok (.iload_n 3, 1) := by decide +kernel
theorem dX2_measureAll_57 : decode cX2_measureAll 57 = .ok (.iaload, 1) := by decide +kernel
theorem dX2_measureAll_58 : decode cX2_measureAll 58 = .ok (.imul, 1) := by decide +kernel
theorem dX2_measureAll_59 : decode cX2_measureAll 59 = .ok (.iadd, 1) := by decide +kernel
theorem dX2_measureAll_60 : decode cX2_measureAll 60 = .ok (.iastore, 1) := by decide +kernel
theorem dX2_measureAll_61 : decode cX2_measureAll 61 = .ok (.iinc 3 1, 3) := by decide +kernel
theorem dX2_measureAll_64 : decode cX2_measureAll 64 = .ok (.goto (-62), 3) := by decide +kernel
theorem dX2_measureAll_67 : decode cX2_measureAll 67 = .ok (.return_, 1) := by decide +kernel
theorem dX2_rawOf_0 : decode cX2_rawOf 0 = .ok (.aload_n 0, 1) := by decide +kernel
theorem dX2_rawOf_1 : decode cX2_rawOf 1 = .ok (.getfield 32, 3) := by decide +kernel
theorem dX2_rawOf_4 : decode cX2_rawOf 4 = .ok (.iload_n 1, 1) := by decide +kernel
theorem dX2_rawOf_5 : decode cX2_rawOf 5 = .ok (.aaload, 1) := by decide +kernel
theorem dX2_rawOf_6 : decode cX2_rawOf 6 = .ok (.iload_n 2, 1) := by decide +kernel
theorem dX2_rawOf_7 : decode cX2_rawOf 7 = .ok (.iaload, 1) := by decide +kernel
theorem dX2_rawOf_8 : decode cX2_rawOf 8 = .ok (.ireturn, 1) := by decide +kernel
theorem dX2_correctedOf_0 : decode cX2_correctedOf 0 = .ok (.aload_n 0, 1) := by decide +kernel
theorem dX2_correctedOf_1 : decode cX2_correctedOf 1 = .ok (.getfield 32, 3) := by decide +kernel
theorem dX2_correctedOf_4 : decode cX2_correctedOf 4 = .ok (.iload_n 1, 1) := by decide +kernel
theorem dX2_correctedOf_5 : decode cX2_correctedOf 5 = .ok (.aaload, 1) := by decide +kernel
theorem dX2_correctedOf_6 : decode cX2_correctedOf 6 = .ok (.iload_n 2, 1) := by decide +kernel
theorem dX2_correctedOf_7 : decode cX2_correctedOf 7 = .ok (.iaload, 1) := by decide +kernel
theorem dX2_correctedOf_8 : decode cX2_correctedOf 8 = .ok (.aload_n 0, 1) := by decide +kernel
theorem dX2_correctedOf_9 : decode cX2_correctedOf 9 = .ok (.getfield 35, 3) := by decide +kernel
theorem dX2_correctedOf_12 : decode cX2_correctedOf 12 = .ok (.iload_n 1, 1) := by decide +kernel
theorem dX2_correctedOf_13 : decode cX2_correctedOf 13 = .ok (.aaload, 1) := by decide +kernel
theorem dX2_correctedOf_14 : decode cX2_correctedOf 14 = .ok (.iload_n 2, 1) := by decide +kernel
theorem dX2_correctedOf_15 : decode cX2_correctedOf 15 = .ok (.iaload, 1) := by decide +kernel
theorem dX2_correctedOf_16 : decode cX2_correctedOf 16 = .ok (.isub, 1) := by decide +kernel
theorem dX2_correctedOf_17 : decode cX2_correctedOf 17 = .ok (.ireturn, 1) := by decide +kernel
theorem dX2_otherThanZero_0 : decode cX2_otherThanZero 0 = .ok (.aload_n 0, 1) := by decide +kernel
theorem dX2_otherThanZero_1 : decode cX2_otherThanZero 1 = .ok (.getfield 9, 3) := by decide +kernel
theorem dX2_otherThanZero_4 : decode cX2_otherThanZero 4 = .ok (.iload_n 1, 1) := by decide +kernel
theorem dX2_otherThanZero_5 : decode cX2_otherThanZero 5 = .ok (.iaload, 1) := by decide +kernel
theorem dX2_otherThanZero_6 : decode cX2_otherThanZero 6 = .ok (.ifCond .ne 10, 3) := by decide +kernel
theorem dX2_otherThanZero_9 : decode cX2_otherThanZero 9 = .ok (.aload_n 0, 1) := by decide +kernel
theorem dX2_otherThanZero_10 : decode cX2_otherThanZero 10 = .ok (.getfield 15, 3) := by decide +kernel
theorem dX2_otherThanZero_13 : decode cX2_otherThanZero 13 = .ok (.iload_n 1, 1) := by decide +kernel
theorem dX2_otherThanZero_14 : decode cX2_otherThanZero 14 = .ok (.iaload, 1) := by decide +kernel
theorem dX2_otherThanZero_15 : decode cX2_otherThanZero 15 = .ok (.ireturn, 1) := by decide +kernel
theorem dX2_otherThanZero_16 : decode cX2_otherThanZero 16 = .ok (.aload_n 0, 1) := by decide +kernel
theorem dX2_otherThanZero_17 : decode cX2_otherThanZero 17 = .ok (.getfield 15, 3) := by decide +kernel
theorem dX2_otherThanZero_20 : decode cX2_otherThanZero 20 = .ok (.iload_n 1, 1) := by decide +kernel
theorem dX2_otherThanZero_21 : decode cX2_otherThanZero 21 = .ok (.iaload, 1) := by decide +kernel
theorem dX2_otherThanZero_22 : decode cX2_otherThanZero 22 = .ok (.ifCond .ne 12, 3) := by decide +kernel
theorem dX2_otherThanZero_25 : decode cX2_otherThanZero 25 = .ok (.aload_n 0, 1) := by decide +kernel
theorem dX2_otherThanZero_26 : decode cX2_otherThanZero 26 = .ok (.getfield 9, 3) := by decide +kernel
theorem dX2_otherThanZero_29 : decode cX2_otherThanZero 29 = .ok (.iload_n 1, 1) := by decide +kernel
theorem dX2_otherThanZero_30 : decode cX2_otherThanZero 30 = .ok (.iaload, 1) := by decide +kernel
theorem dX2_otherThanZero_31 : decode cX2_otherThanZero 31 = .ok (.goto 4, 3) := by decide +kernel
theorem dX2_otherThanZero_34 : decode cX2_otherThanZero 34 = .ok (.iconst (-1), 1) := by decide +kernel
theorem dX2_otherThanZero_35 : decode cX2_otherThanZero 35 = .ok (.ireturn, 1) := by decide +kernel
set_option maxRecDepth 20000 in
theorem ggX2_aheadOfZero_X2_correctedOf : GoodIn wsX2_aheadOfZero wsX2_correctedOf := goodIn_r _ [6, 7, 8, 9, 10, 11, 12, 13, 14, 15, 16, 17] (by decide +kernel) (by decide +kernel)
set_option maxRecDepth 20000 in
theorem gX2_aheadOfZero_X2_correctedOf : GoodIn wsX2_aheadOfZero (wsV RX2 48 RX2 yX2_correctedOf wsX2_correctedOf) := goodIn_app (goodIn_of _ (by decide +kernel)) ggX2_aheadOfZero_X2_correctedOf
theorem dX2_aheadOfZero_0 : decode cX2_aheadOfZero 0 = .ok (.aload_n 0, 1) := by decide +kernel
theorem dX2_aheadOfZero_1 : decode cX2_aheadOfZero 1 = .ok (.iload_n 1, 1) := by decide +kernel
theorem dX2_aheadOfZero_2 : decode cX2_aheadOfZero 2 = .ok (.iload_n 2, 1) := by decide +kernel
theorem dX2_aheadOfZero_3 : decode cX2_aheadOfZero 3 = .ok (.invokevirtual 48, 3) := by decide +kernel
theorem dX2_aheadOfZero_6 : decode cX2_aheadOfZero 6 = .ok (.istore_n 3, 1) := by decide +kernel
theorem dX2_aheadOfZero_7 : decode cX2_aheadOfZero 7 = .ok (.aload_n 0, 1) := by decide +kernel
theorem dX2_aheadOfZero_8 : decode cX2_aheadOfZero 8 = .ok (.getfield 9, 3) := by decide +kernel
theorem dX2_aheadOfZero_11 : decode cX2_aheadOfZero 11 = .ok (.iload_n 1, 1) := by decide +kernel
theorem dX2_aheadOfZero_12 : decode cX2_aheadOfZero 12 = .ok (.iaload, 1) := by decide +kernel
theorem dX2_aheadOfZero_13 : decode cX2_aheadOfZero 13 = .ok (.ifCond .ne 8, 3) := by decide +kernel
theorem dX2_aheadOfZero_16 : decode cX2_aheadOfZero 16 = .ok (.iload_n 3, 1) := by decide +kernel
theorem dX2_aheadOfZero_17 : decode cX2_aheadOfZero 17 = .ok (.ineg, 1) := by decide +kernel
theorem dX2_aheadOfZero_18 : decode cX2_aheadOfZero 18 = .ok (.goto 4, 3) := by decide +kernel
theorem dX2_aheadOfZero_21 : decode cX2_aheadOfZero 21 = .ok (.iload_n 3, 1) := by decide +kernel
theorem dX2_aheadOfZero_22 : decode cX2_aheadOfZero 22 = .ok (.ireturn, 1) := by decide +kernel
set_option maxRecDepth 20000 in
theorem ggX2_areRing_X2_bothBits : GoodIn wsX2_areRing wsX2_bothBits := goodIn_r _ [5, 6, 7, 8, 9, 10, 11, 12, 13, 14, 15, 16] (by decide +kernel) (by decide +kernel)
set_option maxRecDepth 20000 in
theorem gX2_areRing_X2_bothBits : GoodIn wsX2_areRing (wsV RX2 52 RX2 yX2_bothBits wsX2_bothBits) := goodIn_app (goodIn_of _ (by decide +kernel)) ggX2_areRing_X2_bothBits
theorem dX2_areRing_0 : decode cX2_areRing 0 = .ok (.aload_n 0, 1) := by decide +kernel
theorem dX2_areRing_1 : decode cX2_areRing 1 = .ok (.iload_n 1, 1) := by decide +kernel
theorem dX2_areRing_2 : decode cX2_areRing 2 = .ok (.invokevirtual 52, 3) := by decide +kernel
theorem dX2_areRing_5 : decode cX2_areRing 5 = .ok (.aload_n 0, 1) := by decide +kernel
theorem dX2_areRing_6 : decode cX2_areRing 6 = .ok (.iload_n 2, 1) := by decide +kernel
theorem dX2_areRing_7 : decode cX2_areRing 7 = .ok (.invokevirtual 52, 3) := by decide +kernel
theorem dX2_areRing_10 : decode cX2_areRing 10 = .ok (.ixor, 1) := by decide +kernel
theorem dX2_areRing_11 : decode cX2_areRing 11 = .ok (.aload_n 0, 1) := by decide +kernel
theorem dX2_areRing_12 : decode cX2_areRing 12 = .ok (.iload_n 3, 1) := by decide +kernel
theorem dX2_areRing_13 : decode cX2_areRing 13 = .ok (.invokevirtual 52, 3) := by decide +kernel
theorem dX2_areRing_16 : decode cX2_areRing 16 = .ok (.ixor, 1) := by decide +kernel
theorem dX2_areRing_17 : decode cX2_areRing 17 = .ok (.ifCond .ne 7, 3) := by decide +kernel
theorem dX2_areRing_20 : decode cX2_areRing 20 = .ok (.iconst 1, 1) := by decide +kernel
theorem dX2_areRing_21 : decode cX2_areRing 21 = .ok (.goto 4, 3) := by decide +kernel
theorem dX2_areRing_24 : decode cX2_areRing 24 = .ok (.iconst 0, 1) := by decide +kernel
theorem dX2_areRing_25 : decode cX2_areRing 25 = .ok (.ireturn, 1) := by decide +kernel
theorem dX2_bothBits_0 : decode cX2_bothBits 0 = .ok (.iconst 1, 1) := by decide +kernel
theorem dX2_bothBits_1 : decode cX2_bothBits 1 = .ok (.aload_n 0, 1) := by decide +kernel
theorem dX2_bothBits_2 : decode cX2_bothBits 2 = .ok (.getfield 9, 3) := by decide +kernel
theorem dX2_bothBits_5 : decode cX2_bothBits 5 = .ok (.iload_n 1, 1) := by decide +kernel
theorem dX2_bothBits_6 : decode cX2_bothBits 6 = .ok (.iaload, 1) := by decide +kernel
theorem dX2_bothBits_7 : decode cX2_bothBits 7 = .ok (.ishl, 1) := by decide +kernel
theorem dX2_bothBits_8 : decode cX2_bothBits 8 = .ok (.iconst 1, 1) := by decide +kernel
theorem dX2_bothBits_9 : decode cX2_bothBits 9 = .ok (.aload_n 0, 1) := by decide +kernel
theorem dX2_bothBits_10 : decode cX2_bothBits 10 = .ok (.getfield 15, 3) := by decide +kernel
theorem dX2_bothBits_13 : decode cX2_bothBits 13 = .ok (.iload_n 1, 1) := by decide +kernel
theorem dX2_bothBits_14 : decode cX2_bothBits 14 = .ok (.iaload, 1) := by decide +kernel
theorem dX2_bothBits_15 : decode cX2_bothBits 15 = .ok (.ishl, 1) := by decide +kernel
theorem dX2_bothBits_16 : decode cX2_bothBits 16 = .ok (.ior, 1) := by decide +kernel
theorem dX2_bothBits_17 : decode cX2_bothBits 17 = .ok (.ireturn, 1) := by decide +kernel
theorem dX2_signBehind_0 : decode cX2_signBehind 0 = .ok (.aload_n 0, 1) := by decide +kernel
theorem dX2_signBehind_1 : decode cX2_signBehind 1 = .ok (.getfield 9, 3) := by decide +kernel
theorem dX2_signBehind_4 : decode cX2_signBehind 4 = .ok (.iload_n 2, 1) := by decide +kernel
theorem dX2_signBehind_5 : decode cX2_signBehind 5 = .ok (.iaload, 1) := by decide +kernel
theorem dX2_signBehind_6 : decode cX2_signBehind 6 = .ok (.aload_n 0, 1) := by decide +kernel
theorem dX2_signBehind_7 : decode cX2_signBehind 7 = .ok (.getfield 15, 3) := by decide +kernel
theorem dX2_signBehind_10 : decode cX2_signBehind 10 = .ok (.iload_n 1, 1) := by decide +kernel
theorem dX2_signBehind_11 : decode cX2_signBehind 11 = .ok (.iaload, 1) := by decide +kernel
theorem dX2_signBehind_12 : decode cX2_signBehind 12 = .ok (.if_icmp .eq 18, 3) := by decide +kernel
theorem dX2_signBehind_15 : decode cX2_signBehind 15 = .ok (.aload_n 0, 1) := by decide +kernel
theorem dX2_signBehind_16 : decode cX2_signBehind 16 = .ok (.getfield 15, 3) := by decide +kernel
theorem dX2_signBehind_19 : decode cX2_signBehind 19 = .ok (.iload_n 2, 1) := by decide +kernel
theorem dX2_signBehind_20 : decode cX2_signBehind 20 = .ok (.iaload, 1) := by decide +kernel
theorem dX2_signBehind_21 : decode cX2_signBehind 21 = .ok (.aload_n 0, 1) := by decide +kernel
theorem dX2_signBehind_22 : decode cX2_signBehind 22 = .ok (.getfield 9, 3) := by decide +kernel
theorem dX2_signBehind_25 : decode cX2_signBehind 25 = .ok (.iload_n 1, 1) := by decide +kernel
theorem dX2_signBehind_26 : decode cX2_signBehind 26 = .ok (.iaload, 1) := by decide +kernel
theorem dX2_signBehind_27 : decode cX2_signBehind 27 = .ok (.if_icmp .ne 7, 3) := by decide +kernel
theorem dX2_signBehind_30 : decode cX2_signBehind 30 = .ok (.iconst 1, 1) := by decide +kernel
theorem dX2_signBehind_31 : decode cX2_signBehind 31 = .ok (.goto 4, 3) := by decide +kernel
theorem dX2_signBehind_34 : decode cX2_signBehind 34 = .ok (.iconst (-1), 1) := by decide +kernel
theorem dX2_signBehind_35 : decode cX2_signBehind 35 = .ok (.ireturn, 1) := by decide +kernel
set_option maxRecDepth 20000 in
theorem ggX2_around_X2_correctedOf : GoodIn wsX2_around wsX2_correctedOf := goodIn_r _ [5, 6, 7, 14, 15, 16, 17, 18, 19, 20, 21, 22] (by decide +kernel) (by decide +kernel)
set_option maxRecDepth 20000 in
theorem gX2_around_X2_correctedOf : GoodIn wsX2_around (wsV RX2 48 RX2 yX2_correctedOf wsX2_correctedOf) := goodIn_app (goodIn_of _ (by decide +kernel)) ggX2_around_X2_correctedOf
set_option maxRecDepth 20000 in
theorem ggX2_around_X2_signBehind : GoodIn wsX2_around wsX2_signBehind := goodIn_r _ [11, 12, 13, 14, 15, 16, 17, 18, 19, 20, 21, 22] (by decide +kernel) (by decide +kernel)
set_option maxRecDepth 20000 in
theorem gX2_around_X2_signBehind : GoodIn wsX2_around (wsV RX2 55 RX2 yX2_signBehind wsX2_signBehind) := goodIn_app (goodIn_of _ (by decide +kernel)) ggX2_around_X2_signBehind
theorem dX2_around_0 : decode cX2_around 0 = .ok (.aload_n 0, 1) := by decide +kernel
theorem dX2_around_1 : decode cX2_around 1 = .ok (.iload_n 1, 1) := by decide +kernel
theorem dX2_around_2 : decode cX2_around 2 = .ok (.iload 4, 2) := by decide +kernel
theorem dX2_around_4 : decode cX2_around 4 = .ok (.invokevirtual 48, 3) := by decide +kernel
theorem dX2_around_7 : decode cX2_around 7 = .ok (.aload_n 0, 1) := by decide +kernel
theorem dX2_around_8 : decode cX2_around 8 = .ok (.iload_n 1, 1) := by decide +kernel
theorem dX2_around_9 : decode cX2_around 9 = .ok (.iload_n 2, 1) := by decide +kernel
theorem dX2_around_10 : decode cX2_around 10 = .ok (.invokevirtual 55, 3) := by decide +kernel
theorem dX2_around_13 : decode cX2_around 13 = .ok (.aload_n 0, 1) := by decide +kernel
theorem dX2_around_14 : decode cX2_around 14 = .ok (.iload_n 2, 1) := by decide +kernel
theorem dX2_around_15 : decode cX2_around 15 = .ok (.iload 4, 2) := by decide +kernel
theorem dX2_around_17 : decode cX2_around 17 = .ok (.invokevirtual 48, 3) := by decide +kernel
theorem dX2_around_20 : decode cX2_around 20 = .ok (.imul, 1) := by decide +kernel
theorem dX2_around_21 : decode cX2_around 21 = .ok (.iadd, 1) := by decide +kernel
theorem dX2_around_22 : decode cX2_around 22 = .ok (.aload_n 0, 1) := by decide +kernel
theorem dX2_around_23 : decode cX2_around 23 = .ok (.iload_n 1, 1) := by decide +kernel
theorem dX2_around_24 : decode cX2_around 24 = .ok (.iload_n 3, 1) := by decide +kernel
theorem dX2_around_25 : decode cX2_around 25 = .ok (.invokevirtual 55, 3) := by decide +kernel
theorem dX2_around_28 : decode cX2_around 28 = .ok (.aload_n 0, 1) := by decide +kernel
theorem dX2_around_29 : decode cX2_around 29 = .ok (.iload_n 3, 1) := by decide +kernel
theorem dX2_around_30 : decode cX2_around 30 = .ok (.iload 4, 2) := by decide +kernel
theorem dX2_around_32 : decode cX2_around 32 = .ok (.invokevirtual 48, 3) := by decide +kernel
theorem dX2_around_35 : decode cX2_around 35 = .ok (.imul, 1) := by decide +kernel
theorem dX2_around_36 : decode cX2_around 36 = .ok (.iadd, 1) := by decide +kernel
theorem dX2_around_37 : decode cX2_around 37 = .ok (.ireturn, 1) := by decide +kernel
theorem dX3_init_0 : decode cX3_init 0 = .ok (.aload_n 0, 1) := by decide +kernel
theorem dX3_init_1 : decode cX3_init 1 = .ok (.invokespecial 3, 3) := by decide +kernel
theorem dX3_init_4 : decode cX3_init 4 = .ok (.aload_n 0, 1) := by decide +kernel
theorem dX3_init_5 : decode cX3_init 5 = .ok (.bipush 56, 2) := by decide +kernel
theorem dX3_init_7 : decode cX3_init 7 = .ok (.newarray .int, 2) := by decide +kernel
theorem dX3_init_9 : decode cX3_init 9 = .ok (.putfield 9, 3) := by decide +kernel
theorem dX3_init_12 : decode cX3_init 12 = .ok (.aload_n 0, 1) := by decide +kernel
theorem dX3_init_13 : decode cX3_init 13 = .ok (.bipush 56, 2) := by decide +kernel
theorem dX3_init_15 : decode cX3_init 15 = .ok (.newarray .int, 2) := by decide +kernel
theorem dX3_init_17 : decode cX3_init 17 = .ok (.putfield 15, 3) := by decide +kernel
theorem dX3_init_20 : decode cX3_init 20 = .ok (.aload_n 0, 1) := by decide +kernel
theorem dX3_init_21 : decode cX3_init 21 = .ok (.bipush 56, 2) := by decide +kernel
theorem dX3_init_23 : decode cX3_init 23 = .ok (.newarray .int, 2) := by decide +kernel
theorem dX3_init_25 : decode cX3_init 25 = .ok (.putfield 18, 3) := by decide +kernel
theorem dX3_init_28 : decode cX3_init 28 = .ok (.aload_n 0, 1) := by decide +kernel
theorem dX3_init_29 : decode cX3_init 29 = .ok (.bipush 56, 2) := by decide +kernel
theorem dX3_init_31 : decode cX3_init 31 = .ok (.newarray .int, 2) := by decide +kernel
theorem dX3_init_33 : decode cX3_init 33 = .ok (.putfield 21, 3) := by decide +kernel
theorem dX3_init_36 : decode cX3_init 36 = .ok (.aload_n 0, 1) := by decide +kernel
theorem dX3_init_37 : decode cX3_init 37 = .ok (.bipush 56, 2) := by decide +kernel
theorem dX3_init_39 : decode cX3_init 39 = .ok (.newarray .int, 2) := by decide +kernel
theorem dX3_init_41 : decode cX3_init 41 = .ok (.putfield 24, 3) := by decide +kernel
theorem dX3_init_44 : decode cX3_init 44 = .ok (.aload_n 0, 1) := by decide +kernel
theorem dX3_init_45 : decode cX3_init 45 = .ok (.bipush 56, 2) := by decide +kernel
theorem dX3_init_47 : decode cX3_init 47 = .ok (.newarray .int, 2) := by decide +kernel
theorem dX3_init_49 : decode cX3_init 49 = .ok (.putfield 27, 3) := by decide +kernel
theorem dX3_init_52 : decode cX3_init 52 = .ok (.aload_n 0, 1) := by decide +kernel
theorem dX3_init_53 : decode cX3_init 53 = .ok (.iconst 0, 1) := by decide +kernel
theorem dX3_init_54 : decode cX3_init 54 = .ok (.putfield 30, 3) := by decide +kernel
theorem dX3_init_57 : decode cX3_init 57 = .ok (.aload_n 0, 1) := by decide +kernel
theorem dX3_init_58 : decode cX3_init 58 = .ok (.bipush 8, 2) := by decide +kernel
theorem dX3_init_60 : decode cX3_init 60 = .ok (.newarray .boolean, 2) := by decide +kernel
theorem dX3_init_62 : decode cX3_init 62 = .ok (.putfield 34, 3) := by decide +kernel
theorem dX3_init_65 : decode cX3_init 65 = .ok (.aload_n 0, 1) := by decide +kernel
theorem dX3_init_66 : decode cX3_init 66 = .ok (.bipush 8, 2) := by decide +kernel
theorem dX3_init_68 : decode cX3_init 68 = .ok (.newarray .int, 2) := by decide +kernel
theorem dX3_init_70 : decode cX3_init 70 = .ok (.putfield 38, 3) := by decide +kernel
theorem dX3_init_73 : decode cX3_init 73 = .ok (.aload_n 0, 1) := by decide +kernel
theorem dX3_init_74 : decode cX3_init 74 = .ok (.iconst 0, 1) := by decide +kernel
theorem dX3_init_75 : decode cX3_init 75 = .ok (.putfield 41, 3) := by decide +kernel
theorem dX3_init_78 : decode cX3_init 78 = .ok (.aload_n 0, 1) := by decide +kernel
theorem dX3_init_79 : decode cX3_init 79 = .ok (.iconst 0, 1) := by decide +kernel
theorem dX3_init_80 : decode cX3_init 80 = .ok (.putfield 44, 3) := by decide +kernel
theorem dX3_init_83 : decode cX3_init 83 = .ok (.aload_n 0, 1) := by decide +kernel
theorem dX3_init_84 : decode cX3_init 84 = .ok (.iconst (-1), 1) := by decide +kernel
theorem dX3_init_85 : decode cX3_init 85 = .ok (.putfield 47, 3) := by decide +kernel
theorem dX3_init_88 : decode cX3_init 88 = .ok (.return_, 1) := by decide +kernel
set_option maxRecDepth 20000 in
theorem ggX3_gather_X2_count : GoodIn wsX3_gather wsX2_count := goodIn_r _ [7, 8, 66, 67, 68, 69, 70, 71, 72, 73, 74] (by decide +kernel) (by decide +kernel)
set_option maxRecDepth 20000 in
theorem gX3_gather_X2_count : GoodIn wsX3_gather (wsV RX3 50 RX2 yX2_count wsX2_count) := goodIn_app (goodIn_of _ (by decide +kernel)) ggX3_gather_X2_count
set_option maxRecDepth 20000 in
theorem ggX3_gather_X2_isLaidBefore : GoodIn wsX3_gather wsX2_isLaidBefore := goodIn_r _ [12, 13, 66, 67, 68, 69, 70, 71, 72, 73, 74] (by decide +kernel) (by decide +kernel)
set_option maxRecDepth 20000 in
theorem gX3_gather_X2_isLaidBefore : GoodIn wsX3_gather (wsV RX3 55 RX2 yX2_isLaidBefore wsX2_isLaidBefore) := goodIn_app (goodIn_of _ (by decide +kernel)) ggX3_gather_X2_isLaidBefore
set_option maxRecDepth 20000 in
theorem ggX3_gather_X3_gatherFrom : GoodIn wsX3_gather wsX3_gatherFrom := goodIn_r _ [18, 3, 4, 5, 6, 7, 8, 19, 20, 21, 22, 23, 24, 25, 26, 27, 28, 9, 10, 11, 12, 13, 29, 30, 31, 17, 32, 1, 33, 34, 35, 36, 37, 38, 2, 39, 40, 41, 42, 43, 44, 45, 46, 47, 48, 49, 50, 51, 52, 53, 66, 67, 68, 69, 70, 71, 72, 73, 74, 54, 55, 56, 57, 58, 59, 60, 61, 62, 63, 64, 65] (by decide +kernel) (by decide +kernel)
set_option maxRecDepth 20000 in
theorem gX3_gather_X3_gatherFrom : GoodIn wsX3_gather (wsV RX3 59 RX3 yX3_gatherFrom wsX3_gatherFrom) := goodIn_app (goodIn_of _ (by decide +kernel)) ggX3_gather_X3_gatherFrom
theorem dX3_gather_0 : decode cX3_gather 0 = .ok (.aload_n 0, 1) := by decide +kernel
theorem dX3_gather_1 : decode cX3_gather 1 = .ok (.iconst 0, 1) := by decide +kernel
theorem dX3_gather_2 : decode cX3_gather 2 = .ok (.putfield 30, 3) := by decide +kernel
theorem dX3_gather_5 : decode cX3_gather 5 = .ok (.iconst 0, 1) := by decide +kernel
theorem dX3_gather_6 : decode cX3_gather 6 = .ok (.istore_n 3, 1) := by decide +kernel
theorem dX3_gather_7 : decode cX3_gather 7 = .ok (.iload_n 3, 1) := by decide +kernel
theorem dX3_gather_8 : decode cX3_gather 8 = .ok (.bipush 8, 2) := by decide +kernel
theorem dX3_gather_10 : decode cX3_gather 10 = .ok (.if_icmp .ge 16, 3) := by decide +kernel
theorem dX3_gather_13 : decode cX3_gather 13 = .ok (.aload_n 0, 1) := by decide +kernel
theorem dX3_gather_14 : decode cX3_gather 14 = .ok (.getfield 34, 3) := by decide +kernel
theorem dX3_gather_17 : decode cX3_gather 17 = .ok (.iload_n 3, 1) := by decide +kernel
theorem dX3_gather_18 : decode cX3_gather 18 = .ok (.iconst 0, 1) := by decide +kernel
theorem dX3_gather_19 : decode cX3_gather 19 = .ok (.bastore, 1) := by decide +kernel
theorem dX3_gather_20 : decode cX3_gather 20 = .ok (.iinc 3 1, 3) := by decide +kernel
theorem dX3_gather_23 : decode cX3_gather 23 = .ok (.goto (-16), 3) := by decide +kernel
theorem dX3_gather_26 : decode cX3_gather 26 = .ok (.iconst 0, 1) := by decide +kernel
theorem dX3_gather_27 : decode cX3_gather 27 = .ok (.istore_n 3, 1) := by decide +kernel
theorem dX3_gather_28 : decode cX3_gather 28 = .ok (.iload_n 3, 1) := by decide +kernel
theorem dX3_gather_29 : decode cX3_gather 29 = .ok (.aload_n 1, 1) := by decide +kernel
theorem dX3_gather_30 : decode cX3_gather 30 = .ok (.invokevirtual 50, 3) := by decide +kernel
theorem dX3_gather_33 : decode cX3_gather 33 = .ok (.if_icmp .ge 25, 3) := by decide +kernel
theorem dX3_gather_36 : decode cX3_gather 36 = .ok (.aload_n 1, 1) := by decide +kernel
theorem dX3_gather_37 : decode cX3_gather 37 = .ok (.iload_n 3, 1) := by decide +kernel
theorem dX3_gather_38 : decode cX3_gather 38 = .ok (.iload_n 2, 1) := by decide +kernel
theorem dX3_gather_39 : decode cX3_gather 39 = .ok (.invokevirtual 55, 3) := by decide +kernel
theorem dX3_gather_42 : decode cX3_gather 42 = .ok (.ifCond .eq 10, 3) := by decide +kernel
theorem dX3_gather_45 : decode cX3_gather 45 = .ok (.aload_n 0, 1) := by decide +kernel
theorem dX3_gather_46 : decode cX3_gather 46 = .ok (.iload_n 3, 1) := by decide +kernel
theorem dX3_gather_47 : decode cX3_gather 47 = .ok (.aload_n 1, 1) := by decide +kernel
theorem dX3_gather_48 : decode cX3_gather 48 = .ok (.iload_n 2, 1) := by decide +kernel
theorem dX3_gather_49 : decode cX3_gather 49 = .ok (.invokevirtual 59, 3) := by decide +kernel
theorem dX3_gather_52 : decode cX3_gather 52 = .ok (.iinc 3 1, 3) := by decide +kernel
theorem dX3_gather_55 : decode cX3_gather 55 = .ok (.goto (-27), 3) := by decide +kernel
theorem dX3_gather_58 : decode cX3_gather 58 = .ok (.return_, 1) := by decide +kernel
set_option maxRecDepth 20000 in
theorem ggX3_gatherFrom_X2_count : GoodIn wsX3_gatherFrom wsX2_count := goodIn_r _ [5, 6, 50, 51, 52, 53, 54, 55, 56, 57, 58] (by decide +kernel) (by decide +kernel)
set_option maxRecDepth 20000 in
theorem gX3_gatherFrom_X2_count : GoodIn wsX3_gatherFrom (wsV RX3 50 RX2 yX2_count wsX2_count) := goodIn_app (goodIn_of _ (by decide +kernel)) ggX3_gatherFrom_X2_count
set_option maxRecDepth 20000 in
theorem ggX3_gatherFrom_X2_areRing : GoodIn wsX3_gatherFrom wsX2_areRing := goodIn_r _ [10, 11, 12, 13, 4, 14, 15, 16, 50, 51, 52, 53, 54, 55, 56, 57, 58] (by decide +kernel) (by decide +kernel)
set_option maxRecDepth 20000 in
theorem gX3_gatherFrom_X2_areRing : GoodIn wsX3_gatherFrom (wsV RX3 63 RX2 yX2_areRing wsX2_areRing) := goodIn_app (goodIn_of _ (by decide +kernel)) ggX3_gatherFrom_X2_areRing
set_option maxRecDepth 20000 in
theorem ggX3_gatherFrom_X2_isLaidBefore : GoodIn wsX3_gatherFrom wsX2_isLaidBefore := goodIn_r _ [20, 21, 50, 51, 52, 53, 54, 55, 56, 57, 58] (by decide +kernel) (by decide +kernel)
set_option maxRecDepth 20000 in
theorem gX3_gatherFrom_X2_isLaidBefore : GoodIn wsX3_gatherFrom (wsV RX3 55 RX2 yX2_isLaidBefore wsX2_isLaidBefore) := goodIn_app (goodIn_of _ (by decide +kernel)) ggX3_gatherFrom_X2_isLaidBefore
set_option maxRecDepth 20000 in
theorem ggX3_gatherFrom_X3_add : GoodIn wsX3_gatherFrom wsX3_add := goodIn_r _ [26, 27, 28, 29, 30, 31, 32, 33, 34, 35, 36, 37, 4, 38, 15, 16, 39, 40, 41, 42, 43, 44, 45, 46, 47, 48, 49, 59, 60, 61, 62, 63, 64, 65, 66, 67, 68, 69, 70, 50, 51, 52, 53, 54, 55, 56, 57, 58] (by decide +kernel) (by decide +kernel)
set_option maxRecDepth 20000 in
theorem gX3_gatherFrom_X3_add : GoodIn wsX3_gatherFrom (wsV RX3 67 RX3 yX3_add wsX3_add) := goodIn_app (goodIn_of _ (by decide +kernel)) ggX3_gatherFrom_X3_add
theorem dX3_gatherFrom_0 : decode cX3_gatherFrom 0 = .ok (.iload_n 1, 1) := by decide +kernel
theorem dX3_gatherFrom_1 : decode cX3_gatherFrom 1 = .ok (.iconst 1, 1) := by decide +kernel
theorem dX3_gatherFrom_2 : decode cX3_gatherFrom 2 = .ok (.iadd, 1) := by decide +kernel
theorem dX3_gatherFrom_3 : decode cX3_gatherFrom 3 = .ok (.istore 4, 2) := by decide +kernel
theorem dX3_gatherFrom_5 : decode cX3_gatherFrom 5 = .ok (.iload 4, 2) := by decide +kernel
theorem dX3_gatherFrom_7 : decode cX3_gatherFrom 7 = .ok (.aload_n 2, 1) := by decide +kernel
theorem dX3_gatherFrom_8 : decode cX3_gatherFrom 8 = .ok (.invokevirtual 50, 3) := by decide +kernel
theorem dX3_gatherFrom_11 : decode cX3_gatherFrom 11 = .ok (.if_icmp .ge 73, 3) := by decide +kernel
theorem dX3_gatherFrom_14 : decode cX3_gatherFrom 14 = .ok (.iload 4, 2) := by decide +kernel
theorem dX3_gatherFrom_16 : decode cX3_gatherFrom 16 = .ok (.iconst 1, 1) := by decide +kernel
theorem dX3_gatherFrom_17 : decode cX3_gatherFrom 17 = .ok (.iadd, 1) := by decide +kernel
theorem dX3_gatherFrom_18 : decode cX3_gatherFrom 18 = .ok (.istore 5, 2) := by decide +kernel
theorem dX3_gatherFrom_20 : decode cX3_gatherFrom 20 = .ok (.iload 5, 2) := by decide +kernel
theorem dX3_gatherFrom_22 : decode cX3_gatherFrom 22 = .ok (.aload_n 2, 1) := by decide +kernel
theorem dX3_gatherFrom_23 : decode cX3_gatherFrom 23 = .ok (.invokevirtual 50, 3) := by decide +kernel
theorem dX3_gatherFrom_26 : decode cX3_gatherFrom 26 = .ok (.if_icmp .ge 52, 3) := by decide +kernel
theorem dX3_gatherFrom_29 : decode cX3_gatherFrom 29 = .ok (.aload_n 2, 1) := by decide +kernel
theorem dX3_gatherFrom_30 : decode cX3_gatherFrom 30 = .ok (.iload_n 1, 1) := by decide +kernel
theorem dX3_gatherFrom_31 : decode cX3_gatherFrom 31 = .ok (.iload 4, 2) := by decide +kernel
theorem dX3_gatherFrom_33 : decode cX3_gatherFrom 33 = .ok (.iload 5, 2) := by decide +kernel
theorem dX3_gatherFrom_35 : decode cX3_gatherFrom 35 = .ok (.invokevirtual 63, 3) := by decide +kernel
theorem dX3_gatherFrom_38 : decode cX3_gatherFrom 38 = .ok (.ifCond .eq 34, 3) := by decide +kernel
theorem dX3_gatherFrom_41 : decode cX3_gatherFrom 41 = .ok (.aload_n 2, 1) := by decide +kernel
theorem dX3_gatherFrom_42 : decode cX3_gatherFrom 42 = .ok (.iload 4, 2) := by decide +kernel
theorem dX3_gatherFrom_44 : decode cX3_gatherFrom 44 = .ok (.iload_n 3, 1) := by decide +kernel
theorem dX3_gatherFrom_45 : decode cX3_gatherFrom 45 = .ok (.invokevirtual 55, 3) := by decide +kernel
theorem dX3_gatherFrom_48 : decode cX3_gatherFrom 48 = .ok (.ifCond .eq 24, 3) := by decide +kernel
theorem dX3_gatherFrom_51 : decode cX3_gatherFrom 51 = .ok (.aload_n 2, 1) := by decide +kernel
theorem dX3_gatherFrom_52 : decode cX3_gatherFrom 52 = .ok (.iload 5, 2) := by decide +kernel
theorem dX3_gatherFrom_54 : decode cX3_gatherFrom 54 = .ok (.iload_n 3, 1) := by decide +kernel
theorem dX3_gatherFrom_55 : decode cX3_gatherFrom 55 = .ok (.invokevirtual 55, 3) := by decide +kernel
theorem dX3_gatherFrom_58 : decode cX3_gatherFrom 58 = .ok (.ifCond .eq 14, 3) := by decide +kernel
theorem dX3_gatherFrom_61 : decode cX3_gatherFrom 61 = .ok (.aload_n 0, 1) := by decide +kernel
theorem dX3_gatherFrom_62 : decode cX3_gatherFrom 62 = .ok (.iload_n 1, 1) := by decide +kernel
theorem dX3_gatherFrom_63 : decode cX3_gatherFrom 63 = .ok (.iload 4, 2) := by decide +kernel
theorem dX3_gatherFrom_65 : decode cX3_gatherFrom 65 = .ok (.iload 5, 2) := by decide +kernel
theorem dX3_gatherFrom_67 : decode cX3_gatherFrom 67 = .ok (.aload_n 2, 1) := by decide +kernel
theorem dX3_gatherFrom_68 : decode cX3_gatherFrom 68 = .ok (.iload_n 3, 1) := by decide +kernel
theorem dX3_gatherFrom_69 : decode cX3_gatherFrom 69 = .ok (.invokevirtual 67, 3) := by decide +kernel
theorem dX3_gatherFrom_72 : decode cX3_gatherFrom 72 = .ok (.iinc 5 1, 3) := by decide +kernel
theorem dX3_gatherFrom_75 : decode cX3_gatherFrom 75 = .ok (.goto (-55), 3) := by decide +kernel
theorem dX3_gatherFrom_78 : decode cX3_gatherFrom 78 = .ok (.iinc 4 1, 3) := by decide +kernel
theorem dX3_gatherFrom_81 : decode cX3_gatherFrom 81 = .ok (.goto (-76), 3) := by decide +kernel
theorem dX3_gatherFrom_84 : decode cX3_gatherFrom 84 = .ok (.return_, 1) := by decide +kernel
set_option maxRecDepth 20000 in
theorem ggX3_add_X2_signBehind : GoodIn wsX3_add wsX2_signBehind := goodIn_r _ [13, 14, 15, 39, 40, 41, 42, 43, 44, 45, 46, 47] (by decide +kernel) (by decide +kernel)
set_option maxRecDepth 20000 in
theorem gX3_add_X2_signBehind : GoodIn wsX3_add (wsV RX3 71 RX2 yX2_signBehind wsX2_signBehind) := goodIn_app (goodIn_of _ (by decide +kernel)) ggX3_add_X2_signBehind
set_option maxRecDepth 20000 in
theorem ggX3_add_X2_around : GoodIn wsX3_add wsX2_around := goodIn_r _ [19, 20, 21, 22, 12, 23, 24, 25, 26, 10, 11, 13, 14, 15, 39, 40, 41, 42, 43, 44, 45, 46, 47] (by decide +kernel) (by decide +kernel)
set_option maxRecDepth 20000 in
theorem gX3_add_X2_around : GoodIn wsX3_add (wsV RX3 75 RX2 yX2_around wsX2_around) := goodIn_app (goodIn_of _ (by decide +kernel)) ggX3_add_X2_around
theorem dX3_add_0 : decode cX3_add 0 = .ok (.aload_n 0, 1) := by decide +kernel
theorem dX3_add_1 : decode cX3_add 1 = .ok (.getfield 30, 3) := by decide +kernel
theorem dX3_add_4 : decode cX3_add 4 = .ok (.bipush 56, 2) := by decide +kernel
theorem dX3_add_6 : decode cX3_add 6 = .ok (.if_icmp .lt 4, 3) := by decide +kernel
theorem dX3_add_9 : decode cX3_add 9 = .ok (.return_, 1) := by decide +kernel
theorem dX3_add_10 : decode cX3_add 10 = .ok (.aload_n 0, 1) := by decide +kernel
theorem dX3_add_11 : decode cX3_add 11 = .ok (.getfield 9, 3) := by decide +kernel
theorem dX3_add_14 : decode cX3_add 14 = .ok (.aload_n 0, 1) := by decide +kernel
theorem dX3_add_15 : decode cX3_add 15 = .ok (.getfield 30, 3) := by decide +kernel
theorem dX3_add_18 : decode cX3_add 18 = .ok (.iload_n 1, 1) := by decide +kernel
theorem dX3_add_19 : decode cX3_add 19 = .ok (.iastore, 1) := by decide +kernel
theorem dX3_add_20 : decode cX3_add 20 = .ok (.aload_n 0, 1) := by decide +kernel
theorem dX3_add_21 : decode cX3_add 21 = .ok (.getfield 15, 3) := by decide +kernel
theorem dX3_add_24 : decode cX3_add 24 = .ok (.aload_n 0, 1) := by decide +kernel
theorem dX3_add_25 : decode cX3_add 25 = .ok (.getfield 30, 3) := by decide +kernel
theorem dX3_add_28 : decode cX3_add 28 = .ok (.iload_n 2, 1) := by decide +kernel
theorem dX3_add_29 : decode cX3_add 29 = .ok (.iastore, 1) := by decide +kernel
theorem dX3_add_30 : decode cX3_add 30 = .ok (.aload_n 0, 1) := by decide +kernel
theorem dX3_add_31 : decode cX3_add 31 = .ok (.getfield 18, 3) := by decide +kernel
theorem dX3_add_34 : decode cX3_add 34 = .ok (.aload_n 0, 1) := by decide +kernel
theorem dX3_add_35 : decode cX3_add 35 = .ok (.getfield 30, 3) := by decide +kernel
theorem dX3_add_38 : decode cX3_add 38 = .ok (.iload_n 3, 1) := by decide +kernel
theorem dX3_add_39 : decode cX3_add 39 = .ok (.iastore, 1) := by decide +kernel
theorem dX3_add_40 : decode cX3_add 40 = .ok (.aload_n 0, 1) := by decide +kernel
theorem dX3_add_41 : decode cX3_add 41 = .ok (.getfield 21, 3) := by decide +kernel
theorem dX3_add_44 : decode cX3_add 44 = .ok (.aload_n 0, 1) := by decide +kernel
theorem dX3_add_45 : decode cX3_add 45 = .ok (.getfield 30, 3) := by decide +kernel
theorem dX3_add_48 : decode cX3_add 48 = .ok (.aload 4, 2) := by decide +kernel
theorem dX3_add_50 : decode cX3_add 50 = .ok (.iload_n 1, 1) := by decide +kernel
theorem dX3_add_51 : decode cX3_add 51 = .ok (.iload_n 2, 1) := by decide +kernel
theorem dX3_add_52 : decode cX3_add 52 = .ok (.invokevirtual 71, 3) := by decide +kernel
theorem dX3_add_55 : decode cX3_add 55 = .ok (.iastore, 1) := by decide +kernel
theorem dX3_add_56 : decode cX3_add 56 = .ok (.aload_n 0, 1) := by decide +kernel
theorem dX3_add_57 : decode cX3_add 57 = .ok (.getfield 24, 3) := by decide +kernel
theorem dX3_add_60 : decode cX3_add 60 = .ok (.aload_n 0, 1) := by decide +kernel
theorem dX3_add_61 : decode cX3_add 61 = .ok (.getfield 30, 3) := by decide +kernel
theorem dX3_add_64 : decode cX3_add 64 = .ok (.aload 4, 2) := by decide +kernel
theorem dX3_add_66 : decode cX3_add 66 = .ok (.iload_n 1, 1) := by decide +kernel
theorem dX3_add_67 : decode cX3_add 67 = .ok (.iload_n 3, 1) := by decide +kernel
theorem dX3_add_68 : decode cX3_add 68 = .ok (.invokevirtual 71, 3) := by decide +kernel
theorem dX3_add_71 : decode cX3_add 71 = .ok (.iastore, 1) := by decide +kernel
theorem dX3_add_72 : decode cX3_add 72 = .ok (.aload_n 0, 1) := by decide +kernel
theorem dX3_add_73 : decode cX3_add 73 = .ok (.getfield 27, 3) := by decide +kernel
theorem dX3_add_76 : decode cX3_add 76 = .ok (.aload_n 0, 1) := by decide +kernel
theorem dX3_add_77 : decode cX3_add 77 = .ok (.getfield 30, 3) := by decide +kernel
theorem dX3_add_80 : decode cX3_add 80 = .ok (.aload 4, 2) := by decide +kernel
theorem dX3_add_82 : decode cX3_add 82 = .ok (.iload_n 1, 1) := by decide +kernel
theorem dX3_add_83 : decode cX3_add 83 = .ok (.iload_n 2, 1) := by decide +kernel
theorem dX3_add_84 : decode cX3_add 84 = .ok (.iload_n 3, 1) := by decide +kernel
theorem dX3_add_85 : decode cX3_add 85 = .ok (.iload 5, 2) := by decide +kernel
theorem dX3_add_87 : decode cX3_add 87 = .ok (.invokevirtual 75, 3) := by decide +kernel
theorem dX3_add_90 : decode cX3_add 90 = .ok (.iastore, 1) := by decide +kernel
theorem dX3_add_91 : decode cX3_add 91 = .ok (.aload_n 0, 1) := by decide +kernel
theorem dX3_add_92 : decode cX3_add 92 = .ok (.getfield 34, 3) := by decide +kernel
theorem dX3_add_95 : decode cX3_add 95 = .ok (.iload_n 1, 1) := by decide +kernel
theorem dX3_add_96 : decode cX3_add 96 = .ok (.iconst 1, 1) := by decide +kernel
theorem dX3_add_97 : decode cX3_add 97 = .ok (.bastore, 1) := by decide +kernel
theorem dX3_add_98 : decode cX3_add 98 = .ok (.aload_n 0, 1) := by decide +kernel
theorem dX3_add_99 : decode cX3_add 99 = .ok (.getfield 34, 3) := by decide +kernel
theorem dX3_add_102 : decode cX3_add 102 = .ok (.iload_n 2, 1) := by decide +kernel
theorem dX3_add_103 : decode cX3_add 103 = .ok (.iconst 1, 1) := by decide +kernel
theorem dX3_add_104 : decode cX3_add 104 = .ok (.bastore, 1) := by decide +kernel
theorem dX3_add_105 : decode cX3_add 105 = .ok (.aload_n 0, 1) := by decide +kernel
theorem dX3_add_106 : decode cX3_add 106 = .ok (.getfield 34, 3) := by decide +kernel
theorem dX3_add_109 : decode cX3_add 109 = .ok (.iload_n 3, 1) := by decide +kernel
theorem dX3_add_110 : decode cX3_add 110 = .ok (.iconst 1, 1) := by decide +kernel
theorem dX3_add_111 : decode cX3_add 111 = .ok (.bastore, 1) := by decide +kernel
theorem dX3_add_112 : decode cX3_add 112 = .ok (.aload_n 0, 1) := by decide +kernel
theorem dX3_add_113 : decode cX3_add 113 = .ok (.dup, 1) := by decide +kernel
theorem dX3_add_114 : decode cX3_add 114 = .ok (.getfield 30, 3) := by decide +kernel
theorem dX3_add_117 : decode cX3_add 117 = .ok (.iconst 1, 1) := by decide +kernel
theorem dX3_add_118 : decode cX3_add 118 = .ok (.iadd, 1) := by decide +kernel
theorem dX3_add_119 : decode cX3_add 119 = .ok (.putfield 30, 3) := by decide +kernel
theorem dX3_add_122 : decode cX3_add 122 = .ok (.return_, 1) := by decide +kernel
theorem dX3_countOpen_0 : decode cX3_countOpen 0 = .ok (.iconst 0, 1) := by decide +kernel
theorem dX3_countOpen_1 : decode cX3_countOpen 1 = .ok (.istore_n 2, 1) := by decide +kernel
theorem dX3_countOpen_2 : decode cX3_countOpen 2 = .ok (.iconst 0, 1) := by decide +kernel
theorem dX3_countOpen_3 : decode cX3_countOpen 3 = .ok (.istore_n 3, 1) := by decide +kernel
theorem dX3_countOpen_4 : decode cX3_countOpen 4 = .ok (.iload_n 3, 1) := by decide +kernel
theorem dX3_countOpen_5 : decode cX3_countOpen 5 = .ok (.aload_n 0, 1) := by decide +kernel
theorem dX3_countOpen_6 : decode cX3_countOpen 6 = .ok (.getfield 30, 3) := by decide +kernel
theorem dX3_countOpen_9 : decode cX3_countOpen 9 = .ok (.if_icmp .ge 25, 3) := by decide +kernel
theorem dX3_countOpen_12 : decode cX3_countOpen 12 = .ok (.aload_n 0, 1) := by decide +kernel
theorem dX3_countOpen_13 : decode cX3_countOpen 13 = .ok (.getfield 27, 3) := by decide +kernel
theorem dX3_countOpen_16 : decode cX3_countOpen 16 = .ok (.iload_n 3, 1) := by decide +kernel
theorem dX3_countOpen_17 : decode cX3_countOpen 17 = .ok (.iaload, 1) := by decide +kernel
theorem dX3_countOpen_18 : decode cX3_countOpen 18 = .ok (.invokestatic 79, 3) := by decide +kernel
theorem dX3_countOpen_21 : decode cX3_countOpen 21 = .ok (.iload_n 1, 1) := by decide +kernel
theorem dX3_countOpen_22 : decode cX3_countOpen 22 = .ok (.if_icmp .le 6, 3) := by decide +kernel
theorem dX3_countOpen_25 : decode cX3_countOpen 25 = .ok (.iinc 2 1, 3) := by decide +kernel
theorem dX3_countOpen_28 : decode cX3_countOpen 28 = .ok (.iinc 3 1, 3) := by decide +kernel
theorem dX3_countOpen_31 : decode cX3_countOpen 31 = .ok (.goto (-27), 3) := by decide +kernel
theorem dX3_countOpen_34 : decode cX3_countOpen 34 = .ok (.iload_n 2, 1) := by decide +kernel
theorem dX3_countOpen_35 : decode cX3_countOpen 35 = .ok (.ireturn, 1) := by decide +kernel
set_option maxRecDepth 20000 in
theorem ggX3_findSlips_X3_tryFrom : GoodIn wsX3_findSlips wsX3_tryFrom := goodIn_r _ [7, 2, 3, 8, 9, 10, 11, 12, 13, 14, 15, 16, 6, 17, 18, 19, 20, 1, 21, 22, 23, 24, 25, 26, 27, 28, 4, 5, 29, 30, 31, 32, 33, 34, 35, 36, 37, 38, 39, 40] (by decide +kernel) (by decide +kernel)
set_option maxRecDepth 20000 in
theorem gX3_findSlips_X3_tryFrom : GoodIn wsX3_findSlips (va_wsS RX3 85 yX3_tryFrom wsX3_tryFrom) := goodIn_app (goodIn_of _ (by decide +kernel)) ggX3_findSlips_X3_tryFrom
theorem dX3_findSlips_0 : decode cX3_findSlips 0 = .ok (.aload_n 0, 1) := by decide +kernel
theorem dX3_findSlips_1 : decode cX3_findSlips 1 = .ok (.iload_n 2, 1) := by decide +kernel
theorem dX3_findSlips_2 : decode cX3_findSlips 2 = .ok (.putfield 41, 3) := by decide +kernel
theorem dX3_findSlips_5 : decode cX3_findSlips 5 = .ok (.aload_n 0, 1) := by decide +kernel
theorem dX3_findSlips_6 : decode cX3_findSlips 6 = .ok (.iload_n 1, 1) := by decide +kernel
theorem dX3_findSlips_7 : decode cX3_findSlips 7 = .ok (.iconst 1, 1) := by decide +kernel
theorem dX3_findSlips_8 : decode cX3_findSlips 8 = .ok (.iadd, 1) := by decide +kernel
theorem dX3_findSlips_9 : decode cX3_findSlips 9 = .ok (.putfield 44, 3) := by decide +kernel
theorem dX3_findSlips_12 : decode cX3_findSlips 12 = .ok (.aload_n 0, 1) := by decide +kernel
theorem dX3_findSlips_13 : decode cX3_findSlips 13 = .ok (.iconst (-1), 1) := by decide +kernel
theorem dX3_findSlips_14 : decode cX3_findSlips 14 = .ok (.putfield 47, 3) := by decide +kernel
theorem dX3_findSlips_17 : decode cX3_findSlips 17 = .ok (.aload_n 0, 1) := by decide +kernel
theorem dX3_findSlips_18 : decode cX3_findSlips 18 = .ok (.iload_n 1, 1) := by decide +kernel
theorem dX3_findSlips_19 : decode cX3_findSlips 19 = .ok (.iconst 1, 1) := by decide +kernel
theorem dX3_findSlips_20 : decode cX3_findSlips 20 = .ok (.isub, 1) := by decide +kernel
theorem dX3_findSlips_21 : decode cX3_findSlips 21 = .ok (.iconst 0, 1) := by decide +kernel
theorem dX3_findSlips_22 : decode cX3_findSlips 22 = .ok (.iconst 0, 1) := by decide +kernel
theorem dX3_findSlips_23 : decode cX3_findSlips 23 = .ok (.invokestatic 85, 3) := by decide +kernel
theorem dX3_findSlips_26 : decode cX3_findSlips 26 = .ok (.aload_n 0, 1) := by decide +kernel
theorem dX3_findSlips_27 : decode cX3_findSlips 27 = .ok (.getfield 47, 3) := by decide +kernel
theorem dX3_findSlips_30 : decode cX3_findSlips 30 = .ok (.ireturn, 1) := by decide +kernel
set_option maxRecDepth 20000 in
theorem ggX3_tryFrom_X3_areClosedAbove : GoodIn wsX3_tryFrom wsX3_areClosedAbove := goodIn_r _ [13, 14, 15, 16, 5, 6, 7, 8, 17, 18, 19, 20, 12, 21, 4, 22, 23, 24, 25, 28, 29, 30, 31, 32, 33, 34, 35, 36, 37, 38, 39] (by decide +kernel) (by decide +kernel)
set_option maxRecDepth 20000 in
theorem gX3_tryFrom_X3_areClosedAbove : GoodIn wsX3_tryFrom (wsV RX3 89 RX3 yX3_areClosedAbove wsX3_areClosedAbove) := goodIn_app (goodIn_of _ (by decide +kernel)) ggX3_tryFrom_X3_areClosedAbove
set_option maxRecDepth 20000 in
theorem ggX3_tryFrom_X3_tryFrom : GoodIn wsX3_tryFrom wsX3_tryFrom := goodIn_r _ [0, 1, 2, 3, 4, 5, 6, 7, 8, 9, 10, 11, 12, 13, 14, 15, 16, 17, 18, 19, 20, 21, 22, 23, 24, 25, 26, 27, 28, 29, 30, 31, 32, 33, 34, 35, 36, 37, 38, 39] (by decide +kernel) (by decide +kernel)
set_option maxRecDepth 20000 in
theorem gX3_tryFrom_X3_tryFrom : GoodIn wsX3_tryFrom (va_wsS RX3 85 yX3_tryFrom wsX3_tryFrom) := goodIn_app (goodIn_of _ (by decide +kernel)) ggX3_tryFrom_X3_tryFrom
theorem dX3_tryFrom_0 : decode cX3_tryFrom 0 = .ok (.iload_n 3, 1) := by decide +kernel
theorem dX3_tryFrom_1 : decode cX3_tryFrom 1 = .ok (.aload_n 0, 1) := by decide +kernel
theorem dX3_tryFrom_2 : decode cX3_tryFrom 2 = .ok (.getfield 44, 3) := by decide +kernel
theorem dX3_tryFrom_5 : decode cX3_tryFrom 5 = .ok (.if_icmp .lt 4, 3) := by decide +kernel
theorem dX3_tryFrom_8 : decode cX3_tryFrom 8 = .ok (.return_, 1) := by decide +kernel
theorem dX3_tryFrom_9 : decode cX3_tryFrom 9 = .ok (.iload_n 1, 1) := by decide +kernel
theorem dX3_tryFrom_10 : decode cX3_tryFrom 10 = .ok (.ifCond .ge 14, 3) := by decide +kernel
theorem dX3_tryFrom_13 : decode cX3_tryFrom 13 = .ok (.aload_n 0, 1) := by decide +kernel
theorem dX3_tryFrom_14 : decode cX3_tryFrom 14 = .ok (.iload_n 3, 1) := by decide +kernel
theorem dX3_tryFrom_15 : decode cX3_tryFrom 15 = .ok (.putfield 44, 3) := by decide +kernel
theorem dX3_tryFrom_18 : decode cX3_tryFrom 18 = .ok (.aload_n 0, 1) := by decide +kernel
theorem dX3_tryFrom_19 : decode cX3_tryFrom 19 = .ok (.iload_n 2, 1) := by decide +kernel
theorem dX3_tryFrom_20 : decode cX3_tryFrom 20 = .ok (.putfield 47, 3) := by decide +kernel
theorem dX3_tryFrom_23 : decode cX3_tryFrom 23 = .ok (.return_, 1) := by decide +kernel
theorem dX3_tryFrom_24 : decode cX3_tryFrom 24 = .ok (.aload_n 0, 1) := by decide +kernel
theorem dX3_tryFrom_25 : decode cX3_tryFrom 25 = .ok (.getfield 34, 3) := by decide +kernel
theorem dX3_tryFrom_28 : decode cX3_tryFrom 28 = .ok (.iload_n 1, 1) := by decide +kernel
theorem dX3_tryFrom_29 : decode cX3_tryFrom 29 = .ok (.baload, 1) := by decide +kernel
theorem dX3_tryFrom_30 : decode cX3_tryFrom 30 = .ok (.ifCond .eq 7, 3) := by decide +kernel
theorem dX3_tryFrom_33 : decode cX3_tryFrom 33 = .ok (.iconst 1, 1) := by decide +kernel
theorem dX3_tryFrom_34 : decode cX3_tryFrom 34 = .ok (.goto 4, 3) := by decide +kernel
theorem dX3_tryFrom_37 : decode cX3_tryFrom 37 = .ok (.iconst 0, 1) := by decide +kernel
theorem dX3_tryFrom_38 : decode cX3_tryFrom 38 = .ok (.istore 4, 2) := by decide +kernel
theorem dX3_tryFrom_40 : decode cX3_tryFrom 40 = .ok (.iload 4, 2) := by decide +kernel
theorem dX3_tryFrom_42 : decode cX3_tryFrom 42 = .ok (.ineg, 1) := by decide +kernel
theorem dX3_tryFrom_43 : decode cX3_tryFrom 43 = .ok (.istore 5, 2) := by decide +kernel
theorem dX3_tryFrom_45 : decode cX3_tryFrom 45 = .ok (.iload 5, 2) := by decide +kernel
theorem dX3_tryFrom_47 : decode cX3_tryFrom 47 = .ok (.iload 4, 2) := by decide +kernel
theorem dX3_tryFrom_49 : decode cX3_tryFrom 49 = .ok (.if_icmp .gt 47, 3) := by decide +kernel
theorem dX3_tryFrom_52 : decode cX3_tryFrom 52 = .ok (.aload_n 0, 1) := by decide +kernel
theorem dX3_tryFrom_53 : decode cX3_tryFrom 53 = .ok (.getfield 38, 3) := by decide +kernel
theorem dX3_tryFrom_56 : decode cX3_tryFrom 56 = .ok (.iload_n 1, 1) := by decide +kernel
theorem dX3_tryFrom_57 : decode cX3_tryFrom 57 = .ok (.iload 5, 2) := by decide +kernel
theorem dX3_tryFrom_59 : decode cX3_tryFrom 59 = .ok (.iastore, 1) := by decide +kernel
theorem dX3_tryFrom_60 : decode cX3_tryFrom 60 = .ok (.aload_n 0, 1) := by decide +kernel
theorem dX3_tryFrom_61 : decode cX3_tryFrom 61 = .ok (.iload_n 1, 1) := by decide +kernel
theorem dX3_tryFrom_62 : decode cX3_tryFrom 62 = .ok (.invokevirtual 89, 3) := by decide +kernel
theorem dX3_tryFrom_65 : decode cX3_tryFrom 65 = .ok (.ifCond .eq 25, 3) := by decide +kernel
theorem dX3_tryFrom_68 : decode cX3_tryFrom 68 = .ok (.aload_n 0, 1) := by decide +kernel
theorem dX3_tryFrom_69 : decode cX3_tryFrom 69 = .ok (.iload_n 1, 1) := by decide +kernel
theorem dX3_tryFrom_70 : decode cX3_tryFrom 70 = .ok (.iconst 1, 1) := by decide +kernel
theorem dX3_tryFrom_71 : decode cX3_tryFrom 71 = .ok (.isub, 1) := by decide +kernel
theorem dX3_tryFrom_72 : decode cX3_tryFrom 72 = .ok (.iload_n 2, 1) := by decide +kernel
theorem dX3_tryFrom_73 : decode cX3_tryFrom 73 = .ok (.iconst 3, 1) := by decide +kernel
theorem dX3_tryFrom_74 : decode cX3_tryFrom 74 = .ok (.imul, 1) := by decide +kernel
theorem dX3_tryFrom_75 : decode cX3_tryFrom 75 = .ok (.iconst 1, 1) := by decide +kernel
theorem dX3_tryFrom_76 : decode cX3_tryFrom 76 = .ok (.iadd, 1) := by decide +kernel
theorem dX3_tryFrom_77 : decode cX3_tryFrom 77 = .ok (.iload 5, 2) := by decide +kernel
theorem dX3_tryFrom_79 : decode cX3_tryFrom 79 = .ok (.iadd, 1) := by decide +kernel
theorem dX3_tryFrom_80 : decode cX3_tryFrom 80 = .ok (.iload_n 3, 1) := by decide +kernel
theorem dX3_tryFrom_81 : decode cX3_tryFrom 81 = .ok (.iload 5, 2) := by decide +kernel
theorem dX3_tryFrom_83 : decode cX3_tryFrom 83 = .ok (.invokestatic 79, 3) := by decide +kernel
theorem dX3_tryFrom_86 : decode cX3_tryFrom 86 = .ok (.iadd, 1) := by decide +kernel
theorem dX3_tryFrom_87 : decode cX3_tryFrom 87 = .ok (.invokestatic 85, 3) := by decide +kernel
theorem dX3_tryFrom_90 : decode cX3_tryFrom 90 = .ok (.iinc 5 1, 3) := by decide +kernel
theorem dX3_tryFrom_93 : decode cX3_tryFrom 93 = .ok (.goto (-48), 3) := by decide +kernel
theorem dX3_tryFrom_96 : decode cX3_tryFrom 96 = .ok (.return_, 1) := by decide +kernel
set_option maxRecDepth 20000 in
theorem ggX3_areClosedAbove_X3_takenOff : GoodIn wsX3_areClosedAbove wsX3_takenOff := goodIn_r _ [13, 14, 2, 15, 16, 17, 18, 19, 20, 21, 22, 23, 24, 25, 26, 27, 28, 29, 30] (by decide +kernel) (by decide +kernel)
set_option maxRecDepth 20000 in
theorem gX3_areClosedAbove_X3_takenOff : GoodIn wsX3_areClosedAbove (wsV RX3 93 RX3 yX3_takenOff wsX3_takenOff) := goodIn_app (goodIn_of _ (by decide +kernel)) ggX3_areClosedAbove_X3_takenOff
theorem dX3_areClosedAbove_0 : decode cX3_areClosedAbove 0 = .ok (.iconst 0, 1) := by decide +kernel
theorem dX3_areClosedAbove_1 : decode cX3_areClosedAbove 1 = .ok (.istore_n 2, 1) := by decide +kernel
theorem dX3_areClosedAbove_2 : decode cX3_areClosedAbove 2 = .ok (.iload_n 2, 1) := by decide +kernel
theorem dX3_areClosedAbove_3 : decode cX3_areClosedAbove 3 = .ok (.aload_n 0, 1) := by decide +kernel
theorem dX3_areClosedAbove_4 : decode cX3_areClosedAbove 4 = .ok (.getfield 30, 3) := by decide +kernel
theorem dX3_areClosedAbove_7 : decode cX3_areClosedAbove 7 = .ok (.if_icmp .ge 47, 3) := by decide +kernel
theorem dX3_areClosedAbove_10 : decode cX3_areClosedAbove 10 = .ok (.aload_n 0, 1) := by decide +kernel
theorem dX3_areClosedAbove_11 : decode cX3_areClosedAbove 11 = .ok (.getfield 9, 3) := by decide +kernel
theorem dX3_areClosedAbove_14 : decode cX3_areClosedAbove 14 = .ok (.iload_n 2, 1) := by decide +kernel
theorem dX3_areClosedAbove_15 : decode cX3_areClosedAbove 15 = .ok (.iaload, 1) := by decide +kernel
theorem dX3_areClosedAbove_16 : decode cX3_areClosedAbove 16 = .ok (.iload_n 1, 1) := by decide +kernel
theorem dX3_areClosedAbove_17 : decode cX3_areClosedAbove 17 = .ok (.if_icmp .ne 31, 3) := by decide +kernel
theorem dX3_areClosedAbove_20 : decode cX3_areClosedAbove 20 = .ok (.aload_n 0, 1) := by decide +kernel
theorem dX3_areClosedAbove_21 : decode cX3_areClosedAbove 21 = .ok (.getfield 27, 3) := by decide +kernel
theorem dX3_areClosedAbove_24 : decode cX3_areClosedAbove 24 = .ok (.iload_n 2, 1) := by decide +kernel
theorem dX3_areClosedAbove_25 : decode cX3_areClosedAbove 25 = .ok (.iaload, 1) := by decide +kernel
theorem dX3_areClosedAbove_26 : decode cX3_areClosedAbove 26 = .ok (.sipush 1000, 3) := by decide +kernel
theorem dX3_areClosedAbove_29 : decode cX3_areClosedAbove 29 = .ok (.aload_n 0, 1) := by decide +kernel
theorem dX3_areClosedAbove_30 : decode cX3_areClosedAbove 30 = .ok (.iload_n 2, 1) := by decide +kernel
theorem dX3_areClosedAbove_31 : decode cX3_areClosedAbove 31 = .ok (.invokevirtual 93, 3) := by decide +kernel
theorem dX3_areClosedAbove_34 : decode cX3_areClosedAbove 34 = .ok (.imul, 1) := by decide +kernel
theorem dX3_areClosedAbove_35 : decode cX3_areClosedAbove 35 = .ok (.isub, 1) := by decide +kernel
theorem dX3_areClosedAbove_36 : decode cX3_areClosedAbove 36 = .ok (.invokestatic 79, 3) := by decide +kernel
theorem dX3_areClosedAbove_39 : decode cX3_areClosedAbove 39 = .ok (.aload_n 0, 1) := by decide +kernel
theorem dX3_areClosedAbove_40 : decode cX3_areClosedAbove 40 = .ok (.getfield 41, 3) := by decide +kernel
theorem dX3_areClosedAbove_43 : decode cX3_areClosedAbove 43 = .ok (.if_icmp .le 5, 3) := by decide +kernel
theorem dX3_areClosedAbove_46 : decode cX3_areClosedAbove 46 = .ok (.iconst 0, 1) := by decide +kernel
theorem dX3_areClosedAbove_47 : decode cX3_areClosedAbove 47 = .ok (.ireturn, 1) := by decide +kernel
theorem dX3_areClosedAbove_48 : decode cX3_areClosedAbove 48 = .ok (.iinc 2 1, 3) := by decide +kernel
theorem dX3_areClosedAbove_51 : decode cX3_areClosedAbove 51 = .ok (.goto (-49), 3) := by decide +kernel
theorem dX3_areClosedAbove_54 : decode cX3_areClosedAbove 54 = .ok (.iconst 1, 1) := by decide +kernel
theorem dX3_areClosedAbove_55 : decode cX3_areClosedAbove 55 = .ok (.ireturn, 1) := by decide +kernel
theorem dX3_takenOff_0 : decode cX3_takenOff 0 = .ok (.aload_n 0, 1) := by decide +kernel
theorem dX3_takenOff_1 : decode cX3_takenOff 1 = .ok (.getfield 38, 3) := by decide +kernel
theorem dX3_takenOff_4 : decode cX3_takenOff 4 = .ok (.aload_n 0, 1) := by decide +kernel
theorem dX3_takenOff_5 : decode cX3_takenOff 5 = .ok (.getfield 9, 3) := by decide +kernel
theorem dX3_takenOff_8 : decode cX3_takenOff 8 = .ok (.iload_n 1, 1) := by decide +kernel
theorem dX3_takenOff_9 : decode cX3_takenOff 9 = .ok (.iaload, 1) := by decide +kernel
theorem dX3_takenOff_10 : decode cX3_takenOff 10 = .ok (.iaload, 1) := by decide +kernel
theorem dX3_takenOff_11 : decode cX3_takenOff 11 = .ok (.aload_n 0, 1) := by decide +kernel
theorem dX3_takenOff_12 : decode cX3_takenOff 12 = .ok (.getfield 21, 3) := by decide +kernel
theorem dX3_takenOff_15 : decode cX3_takenOff 15 = .ok (.iload_n 1, 1) := by decide +kernel
theorem dX3_takenOff_16 : decode cX3_takenOff 16 = .ok (.iaload, 1) := by decide +kernel
theorem dX3_takenOff_17 : decode cX3_takenOff 17 = .ok (.aload_n 0, 1) := by decide +kernel
theorem dX3_takenOff_18 : decode cX3_takenOff 18 = .ok (.getfield 38, 3) := by decide +kernel
theorem dX3_takenOff_21 : decode cX3_takenOff 21 = .ok (.aload_n 0, 1) := by decide +kernel
theorem dX3_takenOff_22 : decode cX3_takenOff 22 = .ok (.getfield 15, 3) := by decide +kernel
theorem dX3_takenOff_25 : decode cX3_takenOff 25 = .ok (.iload_n 1, 1) := by decide +kernel
theorem dX3_takenOff_26 : decode cX3_takenOff 26 = .ok (.iaload, 1) := by decide +kernel
theorem dX3_takenOff_27 : decode cX3_takenOff 27 = .ok (.iaload, 1) := by decide +kernel
theorem dX3_takenOff_28 : decode cX3_takenOff 28 = .ok (.imul, 1) := by decide +kernel
theorem dX3_takenOff_29 : decode cX3_takenOff 29 = .ok (.iadd, 1) := by decide +kernel
theorem dX3_takenOff_30 : decode cX3_takenOff 30 = .ok (.aload_n 0, 1) := by decide +kernel
theorem dX3_takenOff_31 : decode cX3_takenOff 31 = .ok (.getfield 24, 3) := by decide +kernel
theorem dX3_takenOff_34 : decode cX3_takenOff 34 = .ok (.iload_n 1, 1) := by decide +kernel
theorem dX3_takenOff_35 : decode cX3_takenOff 35 = .ok (.iaload, 1) := by decide +kernel
theorem dX3_takenOff_36 : decode cX3_takenOff 36 = .ok (.aload_n 0, 1) := by decide +kernel
theorem dX3_takenOff_37 : decode cX3_takenOff 37 = .ok (.getfield 38, 3) := by decide +kernel
theorem dX3_takenOff_40 : decode cX3_takenOff 40 = .ok (.aload_n 0, 1) := by decide +kernel
theorem dX3_takenOff_41 : decode cX3_takenOff 41 = .ok (.getfield 18, 3) := by decide +kernel
theorem dX3_takenOff_44 : decode cX3_takenOff 44 = .ok (.iload_n 1, 1) := by decide +kernel
theorem dX3_takenOff_45 : decode cX3_takenOff 45 = .ok (.iaload, 1) := by decide +kernel
theorem dX3_takenOff_46 : decode cX3_takenOff 46 = .ok (.iaload, 1) := by decide +kernel
theorem dX3_takenOff_47 : decode cX3_takenOff 47 = .ok (.imul, 1) := by decide +kernel
theorem dX3_takenOff_48 : decode cX3_takenOff 48 = .ok (.iadd, 1) := by decide +kernel
theorem dX3_takenOff_49 : decode cX3_takenOff 49 = .ok (.ireturn, 1) := by decide +kernel
set_option maxRecDepth 20000 in
theorem ggX4_init_X1_init : GoodIn wsX4_init wsX1_init := goodIn_r _ [29, 30, 2, 3, 20, 31, 32, 33, 34, 35, 36, 70, 71, 72, 73, 74, 75] (by decide +kernel) (by decide +kernel)
set_option maxRecDepth 20000 in
theorem gX4_init_X1_init_n9 : GoodIn wsX4_init (wsX1_init) := ggX4_init_X1_init
set_option maxRecDepth 20000 in
theorem ggX4_init_X2_init : GoodIn wsX4_init wsX2_init := goodIn_r _ [38, 39, 2, 3, 20, 40, 41, 42, 43, 44, 45, 46, 47, 48, 49, 86, 87, 88, 89, 90, 91, 92, 93, 94] (by decide +kernel) (by decide +kernel)
set_option maxRecDepth 20000 in
theorem gX4_init_X2_init_n18 : GoodIn wsX4_init (wsX2_init) := ggX4_init_X2_init
set_option maxRecDepth 20000 in
theorem ggX4_init_X0_init : GoodIn wsX4_init wsX0_init := goodIn_r _ [51, 52, 2, 3, 20, 53, 54, 95, 96] (by decide +kernel) (by decide +kernel)
set_option maxRecDepth 20000 in
theorem gX4_init_X0_init_n25 : GoodIn wsX4_init (wsX0_init) := ggX4_init_X0_init
set_option maxRecDepth 20000 in
theorem ggX4_init_X3_init : GoodIn wsX4_init wsX3_init := goodIn_r _ [56, 57, 2, 3, 20, 58, 59, 60, 61, 62, 63, 64, 22, 65, 66, 67, 68, 69, 97, 98, 99, 100, 101, 102, 103, 104, 105, 106, 107, 108] (by decide +kernel) (by decide +kernel)
set_option maxRecDepth 20000 in
theorem gX4_init_X3_init_n32 : GoodIn wsX4_init (wsX3_init) := ggX4_init_X3_init
theorem dX4_init_0 : decode cX4_init 0 = .ok (.aload_n 0, 1) := by decide +kernel
theorem dX4_init_1 : decode cX4_init 1 = .ok (.invokespecial 1, 3) := by decide +kernel
theorem dX4_init_4 : decode cX4_init 4 = .ok (.aload_n 0, 1) := by decide +kernel
theorem dX4_init_5 : decode cX4_init 5 = .ok (.new 7, 3) := by decide +kernel
theorem dX4_init_8 : decode cX4_init 8 = .ok (.dup, 1) := by decide +kernel
theorem dX4_init_9 : decode cX4_init 9 = .ok (.invokespecial 9, 3) := by decide +kernel
theorem dX4_init_12 : decode cX4_init 12 = .ok (.putfield 10, 3) := by decide +kernel
theorem dX4_init_15 : decode cX4_init 15 = .ok (.aload_n 0, 1) := by decide +kernel
theorem dX4_init_16 : decode cX4_init 16 = .ok (.new 16, 3) := by decide +kernel
theorem dX4_init_19 : decode cX4_init 19 = .ok (.dup, 1) := by decide +kernel
theorem dX4_init_20 : decode cX4_init 20 = .ok (.invokespecial 18, 3) := by decide +kernel
theorem dX4_init_23 : decode cX4_init 23 = .ok (.putfield 19, 3) := by decide +kernel
theorem dX4_init_26 : decode cX4_init 26 = .ok (.aload_n 0, 1) := by decide +kernel
theorem dX4_init_27 : decode cX4_init 27 = .ok (.new 23, 3) := by decide +kernel
theorem dX4_init_30 : decode cX4_init 30 = .ok (.dup, 1) := by decide +kernel
theorem dX4_init_31 : decode cX4_init 31 = .ok (.invokespecial 25, 3) := by decide +kernel
theorem dX4_init_34 : decode cX4_init 34 = .ok (.putfield 26, 3) := by decide +kernel
theorem dX4_init_37 : decode cX4_init 37 = .ok (.aload_n 0, 1) := by decide +kernel
theorem dX4_init_38 : decode cX4_init 38 = .ok (.new 30, 3) := by decide +kernel
theorem dX4_init_41 : decode cX4_init 41 = .ok (.dup, 1) := by decide +kernel
theorem dX4_init_42 : decode cX4_init 42 = .ok (.invokespecial 32, 3) := by decide +kernel
theorem dX4_init_45 : decode cX4_init 45 = .ok (.putfield 33, 3) := by decide +kernel
theorem dX4_init_48 : decode cX4_init 48 = .ok (.aload_n 0, 1) := by decide +kernel
theorem dX4_init_49 : decode cX4_init 49 = .ok (.sipush 501, 3) := by decide +kernel
theorem dX4_init_52 : decode cX4_init 52 = .ok (.newarray .int, 2) := by decide +kernel
theorem dX4_init_54 : decode cX4_init 54 = .ok (.putfield 37, 3) := by decide +kernel
theorem dX4_init_57 : decode cX4_init 57 = .ok (.aload_n 0, 1) := by decide +kernel
theorem dX4_init_58 : decode cX4_init 58 = .ok (.bipush 7, 2) := by decide +kernel
theorem dX4_init_60 : decode cX4_init 60 = .ok (.newarray .boolean, 2) := by decide +kernel
theorem dX4_init_62 : decode cX4_init 62 = .ok (.putfield 41, 3) := by decide +kernel
theorem dX4_init_65 : decode cX4_init 65 = .ok (.aload_n 0, 1) := by decide +kernel
theorem dX4_init_66 : decode cX4_init 66 = .ok (.iconst 0, 1) := by decide +kernel
theorem dX4_init_67 : decode cX4_init 67 = .ok (.putfield 45, 3) := by decide +kernel
theorem dX4_init_70 : decode cX4_init 70 = .ok (.aload_n 0, 1) := by decide +kernel
theorem dX4_init_71 : decode cX4_init 71 = .ok (.bipush 100, 2) := by decide +kernel
theorem dX4_init_73 : decode cX4_init 73 = .ok (.putfield 49, 3) := by decide +kernel
theorem dX4_init_76 : decode cX4_init 76 = .ok (.aload_n 0, 1) := by decide +kernel
theorem dX4_init_77 : decode cX4_init 77 = .ok (.bipush 20, 2) := by decide +kernel
theorem dX4_init_79 : decode cX4_init 79 = .ok (.putfield 52, 3) := by decide +kernel
theorem dX4_init_82 : decode cX4_init 82 = .ok (.aload_n 0, 1) := by decide +kernel
theorem dX4_init_83 : decode cX4_init 83 = .ok (.iconst 0, 1) := by decide +kernel
theorem dX4_init_84 : decode cX4_init 84 = .ok (.putfield 55, 3) := by decide +kernel
theorem dX4_init_87 : decode cX4_init 87 = .ok (.return_, 1) := by decide +kernel
set_option maxRecDepth 20000 in
theorem ggX4_clock_X4_isWithin : GoodIn wsX4_clock wsX4_isWithin := goodIn_r _ [9] (by decide +kernel) (by decide +kernel)
set_option maxRecDepth 20000 in
theorem gX4_clock_X4_isWithin : GoodIn wsX4_clock (va_wsS RX4 59 yX4_isWithin wsX4_isWithin) := goodIn_app (goodIn_of _ (by decide +kernel)) ggX4_clock_X4_isWithin
set_option maxRecDepth 20000 in
theorem ggX4_clock_X1_count : GoodIn wsX4_clock wsX1_count := goodIn_r _ [14, 15, 33, 34, 35, 36, 37, 38] (by decide +kernel) (by decide +kernel)
set_option maxRecDepth 20000 in
theorem gX4_clock_X1_count : GoodIn wsX4_clock (wsV RX4 70 RX1 yX1_count wsX1_count) := goodIn_app (goodIn_of _ (by decide +kernel)) ggX4_clock_X1_count
set_option maxRecDepth 20000 in
theorem ggX4_clock_X1_add : GoodIn wsX4_clock wsX1_add := goodIn_r _ [19, 15, 20, 21, 22, 33, 34, 35, 36, 37, 38] (by decide +kernel) (by decide +kernel)
set_option maxRecDepth 20000 in
theorem gX4_clock_X1_add : GoodIn wsX4_clock (wsV RX4 79 RX1 yX1_add wsX1_add) := goodIn_app (goodIn_of _ (by decide +kernel)) ggX4_clock_X1_add
end
section
theorem dX4_clock_0 : decode cX4_clock 0 = .ok (.iload_n 1, 1) := by decide +kernel
theorem dX4_clock_1 : decode cX4_clock 1 = .ok (.sipush (-500), 3) := by decide +kernel
theorem dX4_clock_4 : decode cX4_clock 4 = .ok (.sipush 500, 3) := by decide +kernel
theorem dX4_clock_7 : decode cX4_clock 7 = .ok (.invokestatic 59, 3) := by decide +kernel
theorem dX4_clock_10 : decode cX4_clock 10 = .ok (.ifCond .eq 14, 3) := by decide +kernel
theorem dX4_clock_13 : decode cX4_clock 13 = .ok (.iload_n 2, 1) := by decide +kernel
theorem dX4_clock_14 : decode cX4_clock 14 = .ok (.iconst 0, 1) := by decide +kernel
theorem dX4_clock_15 : decode cX4_clock 15 = .ok (.sipush 5000, 3) := by decide +kernel
theorem dX4_clock_18 : decode cX4_clock 18 = .ok (.invokestatic 59, 3) := by decide +kernel
theorem dX4_clock_21 : decode cX4_clock 21 = .ok (.ifCond .ne 13, 3) := by decide +kernel
theorem dX4_clock_24 : decode cX4_clock 24 = .ok (.new 63, 3) := by decide +kernel
theorem dX4_clock_27 : decode cX4_clock 27 = .ok (.dup, 1) := by decide +kernel
theorem dX4_clock_28 : decode cX4_clock 28 = .ok (.ldc 65, 2) := by decide +kernel
theorem dX4_clock_30 : decode cX4_clock 30 = .ok (.invokespecial 67, 3) := by decide +kernel
theorem dX4_clock_33 : decode cX4_clock 33 = .ok (.athrow, 1) := by decide +kernel
theorem dX4_clock_34 : decode cX4_clock 34 = .ok (.aload_n 0, 1) := by decide +kernel
theorem dX4_clock_35 : decode cX4_clock 35 = .ok (.getfield 10, 3) := by decide +kernel
theorem dX4_clock_38 : decode cX4_clock 38 = .ok (.invokevirtual 70, 3) := by decide +kernel
theorem dX4_clock_41 : decode cX4_clock 41 = .ok (.bipush 6, 2) := by decide +kernel
theorem dX4_clock_43 : decode cX4_clock 43 = .ok (.if_icmp .lt 13, 3) := by decide +kernel
theorem dX4_clock_46 : decode cX4_clock 46 = .ok (.new 74, 3) := by decide +kernel
theorem dX4_clock_49 : decode cX4_clock 49 = .ok (.dup, 1) := by decide +kernel
theorem dX4_clock_50 : decode cX4_clock 50 = .ok (.ldc 76, 2) := by decide +kernel
theorem dX4_clock_52 : decode cX4_clock 52 = .ok (.invokespecial 78, 3) := by decide +kernel
theorem dX4_clock_55 : decode cX4_clock 55 = .ok (.athrow, 1) := by decide +kernel
theorem dX4_clock_56 : decode cX4_clock 56 = .ok (.aload_n 0, 1) := by decide +kernel
theorem dX4_clock_57 : decode cX4_clock 57 = .ok (.getfield 10, 3) := by decide +kernel
theorem dX4_clock_60 : decode cX4_clock 60 = .ok (.iload_n 1, 1) := by decide +kernel
theorem dX4_clock_61 : decode cX4_clock 61 = .ok (.iload_n 2, 1) := by decide +kernel
theorem dX4_clock_62 : decode cX4_clock 62 = .ok (.invokevirtual 79, 3) := by decide +kernel
theorem dX4_clock_65 : decode cX4_clock 65 = .ok (.ireturn, 1) := by decide +kernel
set_option maxRecDepth 20000 in
theorem ggX4_tell_X1_has : GoodIn wsX4_tell wsX1_has := goodIn_r _ [10, 11, 36, 37, 38, 39, 40, 41] (by decide +kernel) (by decide +kernel)
set_option maxRecDepth 20000 in
theorem gX4_tell_X1_has : GoodIn wsX4_tell (wsV RX4 83 RX1 yX1_has wsX1_has) := goodIn_app (goodIn_of _ (by decide +kernel)) ggX4_tell_X1_has
set_option maxRecDepth 20000 in
theorem ggX4_tell_X4_isWithin : GoodIn wsX4_tell wsX4_isWithin := goodIn_r _ [15] (by decide +kernel) (by decide +kernel)
set_option maxRecDepth 20000 in
theorem gX4_tell_X4_isWithin : GoodIn wsX4_tell (va_wsS RX4 59 yX4_isWithin wsX4_isWithin) := goodIn_app (goodIn_of _ (by decide +kernel)) ggX4_tell_X4_isWithin
set_option maxRecDepth 20000 in
theorem ggX4_tell_X1_weightOf : GoodIn wsX4_tell wsX1_weightOf := goodIn_r _ [19, 20, 36, 37, 38, 39, 40, 41] (by decide +kernel) (by decide +kernel)
set_option maxRecDepth 20000 in
theorem gX4_tell_X1_weightOf : GoodIn wsX4_tell (wsV RX4 94 RX1 yX1_weightOf wsX1_weightOf) := goodIn_app (goodIn_of _ (by decide +kernel)) ggX4_tell_X1_weightOf
set_option maxRecDepth 20000 in
theorem ggX4_tell_X1_setDriftAndWeight : GoodIn wsX4_tell wsX1_setDriftAndWeight := goodIn_r _ [24, 25, 20, 36, 37, 38, 39, 40, 41] (by decide +kernel) (by decide +kernel)
set_option maxRecDepth 20000 in
theorem gX4_tell_X1_setDriftAndWeight : GoodIn wsX4_tell (wsV RX4 98 RX1 yX1_setDriftAndWeight wsX1_setDriftAndWeight) := goodIn_app (goodIn_of _ (by decide +kernel)) ggX4_tell_X1_setDriftAndWeight
theorem dX4_tell_0 : decode cX4_tell 0 = .ok (.aload_n 0, 1) := by decide +kernel
theorem dX4_tell_1 : decode cX4_tell 1 = .ok (.getfield 10, 3) := by decide +kernel
theorem dX4_tell_4 : decode cX4_tell 4 = .ok (.iload_n 1, 1) := by decide +kernel
theorem dX4_tell_5 : decode cX4_tell 5 = .ok (.invokevirtual 83, 3) := by decide +kernel
theorem dX4_tell_8 : decode cX4_tell 8 = .ok (.ifCond .ne 13, 3) := by decide +kernel
theorem dX4_tell_11 : decode cX4_tell 11 = .ok (.new 87, 3) := by decide +kernel
theorem dX4_tell_14 : decode cX4_tell 14 = .ok (.dup, 1) := by decide +kernel
theorem dX4_tell_15 : decode cX4_tell 15 = .ok (.ldc 89, 2) := by decide +kernel
theorem dX4_tell_17 : decode cX4_tell 17 = .ok (.invokespecial 91, 3) := by decide +kernel
theorem dX4_tell_20 : decode cX4_tell 20 = .ok (.athrow, 1) := by decide +kernel
theorem dX4_tell_21 : decode cX4_tell 21 = .ok (.iload_n 2, 1) := by decide +kernel
theorem dX4_tell_22 : decode cX4_tell 22 = .ok (.bipush (-20), 2) := by decide +kernel
theorem dX4_tell_24 : decode cX4_tell 24 = .ok (.bipush 20, 2) := by decide +kernel
theorem dX4_tell_26 : decode cX4_tell 26 = .ok (.invokestatic 59, 3) := by decide +kernel
theorem dX4_tell_29 : decode cX4_tell 29 = .ok (.ifCond .eq 13, 3) := by decide +kernel
theorem dX4_tell_32 : decode cX4_tell 32 = .ok (.iload_n 3, 1) := by decide +kernel
theorem dX4_tell_33 : decode cX4_tell 33 = .ok (.iconst 0, 1) := by decide +kernel
theorem dX4_tell_34 : decode cX4_tell 34 = .ok (.bipush 100, 2) := by decide +kernel
theorem dX4_tell_36 : decode cX4_tell 36 = .ok (.invokestatic 59, 3) := by decide +kernel
theorem dX4_tell_39 : decode cX4_tell 39 = .ok (.ifCond .ne 13, 3) := by decide +kernel
theorem dX4_tell_42 : decode cX4_tell 42 = .ok (.new 63, 3) := by decide +kernel
theorem dX4_tell_45 : decode cX4_tell 45 = .ok (.dup, 1) := by decide +kernel
theorem dX4_tell_46 : decode cX4_tell 46 = .ok (.ldc 92, 2) := by decide +kernel
theorem dX4_tell_48 : decode cX4_tell 48 = .ok (.invokespecial 67, 3) := by decide +kernel
theorem dX4_tell_51 : decode cX4_tell 51 = .ok (.athrow, 1) := by decide +kernel
theorem dX4_tell_52 : decode cX4_tell 52 = .ok (.aload_n 0, 1) := by decide +kernel
theorem dX4_tell_53 : decode cX4_tell 53 = .ok (.getfield 10, 3) := by decide +kernel
theorem dX4_tell_56 : decode cX4_tell 56 = .ok (.iload_n 1, 1) := by decide +kernel
theorem dX4_tell_57 : decode cX4_tell 57 = .ok (.invokevirtual 94, 3) := by decide +kernel
theorem dX4_tell_60 : decode cX4_tell 60 = .ok (.istore 4, 2) := by decide +kernel
theorem dX4_tell_62 : decode cX4_tell 62 = .ok (.aload_n 0, 1) := by decide +kernel
theorem dX4_tell_63 : decode cX4_tell 63 = .ok (.getfield 10, 3) := by decide +kernel
theorem dX4_tell_66 : decode cX4_tell 66 = .ok (.iload_n 1, 1) := by decide +kernel
theorem dX4_tell_67 : decode cX4_tell 67 = .ok (.iload_n 2, 1) := by decide +kernel
theorem dX4_tell_68 : decode cX4_tell 68 = .ok (.iload_n 3, 1) := by decide +kernel
theorem dX4_tell_69 : decode cX4_tell 69 = .ok (.invokevirtual 98, 3) := by decide +kernel
theorem dX4_tell_72 : decode cX4_tell 72 = .ok (.iload 4, 2) := by decide +kernel
theorem dX4_tell_74 : decode cX4_tell 74 = .ok (.ireturn, 1) := by decide +kernel
set_option maxRecDepth 20000 in
theorem ggX4_link_X1_has : GoodIn wsX4_link wsX1_has := goodIn_r _ [14, 15, 44, 45, 46, 47, 48, 49] (by decide +kernel) (by decide +kernel)
set_option maxRecDepth 20000 in
theorem gX4_link_X1_has : GoodIn wsX4_link (wsV RX4 83 RX1 yX1_has wsX1_has) := goodIn_app (goodIn_of _ (by decide +kernel)) ggX4_link_X1_has
set_option maxRecDepth 20000 in
theorem ggX4_link_X4_isWithin : GoodIn wsX4_link wsX4_isWithin := goodIn_r _ [19] (by decide +kernel) (by decide +kernel)
set_option maxRecDepth 20000 in
theorem gX4_link_X4_isWithin : GoodIn wsX4_link (va_wsS RX4 59 yX4_isWithin wsX4_isWithin) := goodIn_app (goodIn_of _ (by decide +kernel)) ggX4_link_X4_isWithin
set_option maxRecDepth 20000 in
theorem ggX4_link_X2_count : GoodIn wsX4_link wsX2_count := goodIn_r _ [24, 25, 50, 51, 52, 53, 54, 55, 56, 57, 58] (by decide +kernel) (by decide +kernel)
set_option maxRecDepth 20000 in
theorem gX4_link_X2_count : GoodIn wsX4_link (wsV RX4 104 RX2 yX2_count wsX2_count) := goodIn_app (goodIn_of _ (by decide +kernel)) ggX4_link_X2_count
set_option maxRecDepth 20000 in
theorem ggX4_link_X2_add : GoodIn wsX4_link wsX2_add := goodIn_r _ [29, 25, 30, 31, 32, 33, 50, 51, 52, 53, 54, 55, 56, 57, 58] (by decide +kernel) (by decide +kernel)
set_option maxRecDepth 20000 in
theorem gX4_link_X2_add : GoodIn wsX4_link (wsV RX4 107 RX2 yX2_add wsX2_add) := goodIn_app (goodIn_of _ (by decide +kernel)) ggX4_link_X2_add
theorem dX4_link_0 : decode cX4_link 0 = .ok (.aload_n 0, 1) := by decide +kernel
theorem dX4_link_1 : decode cX4_link 1 = .ok (.getfield 10, 3) := by decide +kernel
theorem dX4_link_4 : decode cX4_link 4 = .ok (.iload_n 1, 1) := by decide +kernel
theorem dX4_link_5 : decode cX4_link 5 = .ok (.invokevirtual 83, 3) := by decide +kernel
theorem dX4_link_8 : decode cX4_link 8 = .ok (.ifCond .eq 14, 3) := by decide +kernel
theorem dX4_link_11 : decode cX4_link 11 = .ok (.aload_n 0, 1) := by decide +kernel
theorem dX4_link_12 : decode cX4_link 12 = .ok (.getfield 10, 3) := by decide +kernel
theorem dX4_link_15 : decode cX4_link 15 = .ok (.iload_n 2, 1) := by decide +kernel
theorem dX4_link_16 : decode cX4_link 16 = .ok (.invokevirtual 83, 3) := by decide +kernel
theorem dX4_link_19 : decode cX4_link 19 = .ok (.ifCond .ne 13, 3) := by decide +kernel
theorem dX4_link_22 : decode cX4_link 22 = .ok (.new 87, 3) := by decide +kernel
theorem dX4_link_25 : decode cX4_link 25 = .ok (.dup, 1) := by decide +kernel
theorem dX4_link_26 : decode cX4_link 26 = .ok (.ldc 89, 2) := by decide +kernel
theorem dX4_link_28 : decode cX4_link 28 = .ok (.invokespecial 91, 3) := by decide +kernel
theorem dX4_link_31 : decode cX4_link 31 = .ok (.athrow, 1) := by decide +kernel
theorem dX4_link_32 : decode cX4_link 32 = .ok (.iload_n 1, 1) := by decide +kernel
theorem dX4_link_33 : decode cX4_link 33 = .ok (.iload_n 2, 1) := by decide +kernel
theorem dX4_link_34 : decode cX4_link 34 = .ok (.if_icmp .eq 14, 3) := by decide +kernel
theorem dX4_link_37 : decode cX4_link 37 = .ok (.iload_n 3, 1) := by decide +kernel
theorem dX4_link_38 : decode cX4_link 38 = .ok (.bipush (-50), 2) := by decide +kernel
theorem dX4_link_40 : decode cX4_link 40 = .ok (.bipush 50, 2) := by decide +kernel
theorem dX4_link_42 : decode cX4_link 42 = .ok (.invokestatic 59, 3) := by decide +kernel
theorem dX4_link_45 : decode cX4_link 45 = .ok (.ifCond .ne 13, 3) := by decide +kernel
theorem dX4_link_48 : decode cX4_link 48 = .ok (.new 63, 3) := by decide +kernel
theorem dX4_link_51 : decode cX4_link 51 = .ok (.dup, 1) := by decide +kernel
theorem dX4_link_52 : decode cX4_link 52 = .ok (.ldc 102, 2) := by decide +kernel
theorem dX4_link_54 : decode cX4_link 54 = .ok (.invokespecial 67, 3) := by decide +kernel
theorem dX4_link_57 : decode cX4_link 57 = .ok (.athrow, 1) := by decide +kernel
theorem dX4_link_58 : decode cX4_link 58 = .ok (.aload_n 0, 1) := by decide +kernel
theorem dX4_link_59 : decode cX4_link 59 = .ok (.getfield 19, 3) := by decide +kernel
theorem dX4_link_62 : decode cX4_link 62 = .ok (.invokevirtual 104, 3) := by decide +kernel
theorem dX4_link_65 : decode cX4_link 65 = .ok (.bipush 8, 2) := by decide +kernel
theorem dX4_link_67 : decode cX4_link 67 = .ok (.if_icmp .lt 13, 3) := by decide +kernel
theorem dX4_link_70 : decode cX4_link 70 = .ok (.new 74, 3) := by decide +kernel
theorem dX4_link_73 : decode cX4_link 73 = .ok (.dup, 1) := by decide +kernel
theorem dX4_link_74 : decode cX4_link 74 = .ok (.ldc 105, 2) := by decide +kernel
theorem dX4_link_76 : decode cX4_link 76 = .ok (.invokespecial 78, 3) := by decide +kernel
theorem dX4_link_79 : decode cX4_link 79 = .ok (.athrow, 1) := by decide +kernel
theorem dX4_link_80 : decode cX4_link 80 = .ok (.aload_n 0, 1) := by decide +kernel
theorem dX4_link_81 : decode cX4_link 81 = .ok (.getfield 19, 3) := by decide +kernel
theorem dX4_link_84 : decode cX4_link 84 = .ok (.iload_n 1, 1) := by decide +kernel
theorem dX4_link_85 : decode cX4_link 85 = .ok (.iload_n 2, 1) := by decide +kernel
theorem dX4_link_86 : decode cX4_link 86 = .ok (.iload_n 3, 1) := by decide +kernel
theorem dX4_link_87 : decode cX4_link 87 = .ok (.aload_n 0, 1) := by decide +kernel
theorem dX4_link_88 : decode cX4_link 88 = .ok (.getfield 45, 3) := by decide +kernel
theorem dX4_link_91 : decode cX4_link 91 = .ok (.invokevirtual 107, 3) := by decide +kernel
theorem dX4_link_94 : decode cX4_link 94 = .ok (.ireturn, 1) := by decide +kernel
set_option maxRecDepth 20000 in
theorem ggX4_event_X4_isWithin : GoodIn wsX4_event wsX4_isWithin := goodIn_r _ [14] (by decide +kernel) (by decide +kernel)
set_option maxRecDepth 20000 in
theorem gX4_event_X4_isWithin : GoodIn wsX4_event (va_wsS RX4 59 yX4_isWithin wsX4_isWithin) := goodIn_app (goodIn_of _ (by decide +kernel)) ggX4_event_X4_isWithin
set_option maxRecDepth 20000 in
theorem ggX4_event_X1_has : GoodIn wsX4_event wsX1_has := goodIn_r _ [19, 20, 51, 52, 53, 54, 55, 56] (by decide +kernel) (by decide +kernel)
set_option maxRecDepth 20000 in
theorem gX4_event_X1_has : GoodIn wsX4_event (wsV RX4 83 RX1 yX1_has wsX1_has) := goodIn_app (goodIn_of _ (by decide +kernel)) ggX4_event_X1_has
set_option maxRecDepth 20000 in
theorem ggX4_event_X2_has : GoodIn wsX4_event wsX2_has := goodIn_r _ [25, 26, 57, 58, 59, 60, 61, 62, 63, 64, 65] (by decide +kernel) (by decide +kernel)
set_option maxRecDepth 20000 in
theorem gX4_event_X2_has : GoodIn wsX4_event (wsV RX4 112 RX2 yX2_has wsX2_has) := goodIn_app (goodIn_of _ (by decide +kernel)) ggX4_event_X2_has
set_option maxRecDepth 20000 in
theorem ggX4_event_X4_isAmountOf : GoodIn wsX4_event wsX4_isAmountOf := goodIn_r _ [29, 11, 12, 13, 14] (by decide +kernel) (by decide +kernel)
set_option maxRecDepth 20000 in
theorem gX4_event_X4_isAmountOf : GoodIn wsX4_event (va_wsS RX4 115 yX4_isAmountOf wsX4_isAmountOf) := goodIn_app (goodIn_of _ (by decide +kernel)) ggX4_event_X4_isAmountOf
set_option maxRecDepth 20000 in
theorem ggX4_event_X0_count : GoodIn wsX4_event wsX0_count := goodIn_r _ [34, 35, 66, 67] (by decide +kernel) (by decide +kernel)
set_option maxRecDepth 20000 in
theorem gX4_event_X0_count : GoodIn wsX4_event (wsV RX4 119 RX0 yX0_count wsX0_count) := goodIn_app (goodIn_of _ (by decide +kernel)) ggX4_event_X0_count
set_option maxRecDepth 20000 in
theorem ggX4_event_X0_add : GoodIn wsX4_event wsX0_add := goodIn_r _ [39, 35, 40, 66, 67] (by decide +kernel) (by decide +kernel)
set_option maxRecDepth 20000 in
theorem gX4_event_X0_add : GoodIn wsX4_event (wsV RX4 122 RX0 yX0_add wsX0_add) := goodIn_app (goodIn_of _ (by decide +kernel)) ggX4_event_X0_add
theorem dX4_event_0 : decode cX4_event 0 = .ok (.iload_n 1, 1) := by decide +kernel
theorem dX4_event_1 : decode cX4_event 1 = .ok (.aload_n 0, 1) := by decide +kernel
theorem dX4_event_2 : decode cX4_event 2 = .ok (.getfield 45, 3) := by decide +kernel
theorem dX4_event_5 : decode cX4_event 5 = .ok (.if_icmp .le 19, 3) := by decide +kernel
theorem dX4_event_8 : decode cX4_event 8 = .ok (.iload_n 1, 1) := by decide +kernel
theorem dX4_event_9 : decode cX4_event 9 = .ok (.sipush 500, 3) := by decide +kernel
theorem dX4_event_12 : decode cX4_event 12 = .ok (.if_icmp .gt 12, 3) := by decide +kernel
theorem dX4_event_15 : decode cX4_event 15 = .ok (.iload_n 2, 1) := by decide +kernel
theorem dX4_event_16 : decode cX4_event 16 = .ok (.iconst 0, 1) := by decide +kernel
theorem dX4_event_17 : decode cX4_event 17 = .ok (.iconst 3, 1) := by decide +kernel
theorem dX4_event_18 : decode cX4_event 18 = .ok (.invokestatic 59, 3) := by decide +kernel
theorem dX4_event_21 : decode cX4_event 21 = .ok (.ifCond .ne 13, 3) := by decide +kernel
theorem dX4_event_24 : decode cX4_event 24 = .ok (.new 63, 3) := by decide +kernel
theorem dX4_event_27 : decode cX4_event 27 = .ok (.dup, 1) := by decide +kernel
theorem dX4_event_28 : decode cX4_event 28 = .ok (.ldc 110, 2) := by decide +kernel
theorem dX4_event_30 : decode cX4_event 30 = .ok (.invokespecial 67, 3) := by decide +kernel
theorem dX4_event_33 : decode cX4_event 33 = .ok (.athrow, 1) := by decide +kernel
theorem dX4_event_34 : decode cX4_event 34 = .ok (.iload_n 2, 1) := by decide +kernel
theorem dX4_event_35 : decode cX4_event 35 = .ok (.ifCond .eq 8, 3) := by decide +kernel
theorem dX4_event_38 : decode cX4_event 38 = .ok (.iload_n 2, 1) := by decide +kernel
theorem dX4_event_39 : decode cX4_event 39 = .ok (.iconst 1, 1) := by decide +kernel
theorem dX4_event_40 : decode cX4_event 40 = .ok (.if_icmp .ne 7, 3) := by decide +kernel
theorem dX4_event_43 : decode cX4_event 43 = .ok (.iconst 1, 1) := by decide +kernel
theorem dX4_event_44 : decode cX4_event 44 = .ok (.goto 4, 3) := by decide +kernel
theorem dX4_event_47 : decode cX4_event 47 = .ok (.iconst 0, 1) := by decide +kernel
theorem dX4_event_48 : decode cX4_event 48 = .ok (.istore 5, 2) := by decide +kernel
theorem dX4_event_50 : decode cX4_event 50 = .ok (.iload 5, 2) := by decide +kernel
theorem dX4_event_52 : decode cX4_event 52 = .ok (.ifCond .eq 17, 3) := by decide +kernel
theorem dX4_event_55 : decode cX4_event 55 = .ok (.aload_n 0, 1) := by decide +kernel
theorem dX4_event_56 : decode cX4_event 56 = .ok (.getfield 10, 3) := by decide +kernel
theorem dX4_event_59 : decode cX4_event 59 = .ok (.iload_n 3, 1) := by decide +kernel
theorem dX4_event_60 : decode cX4_event 60 = .ok (.invokevirtual 83, 3) := by decide +kernel
theorem dX4_event_63 : decode cX4_event 63 = .ok (.ifCond .ne 27, 3) := by decide +kernel
theorem dX4_event_66 : decode cX4_event 66 = .ok (.goto 14, 3) := by decide +kernel
theorem dX4_event_69 : decode cX4_event 69 = .ok (.aload_n 0, 1) := by decide +kernel
theorem dX4_event_70 : decode cX4_event 70 = .ok (.getfield 19, 3) := by decide +kernel
theorem dX4_event_73 : decode cX4_event 73 = .ok (.iload_n 3, 1) := by decide +kernel
theorem dX4_event_74 : decode cX4_event 74 = .ok (.invokevirtual 112, 3) := by decide +kernel
theorem dX4_event_77 : decode cX4_event 77 = .ok (.ifCond .ne 13, 3) := by decide +kernel
theorem dX4_event_80 : decode cX4_event 80 = .ok (.new 87, 3) := by decide +kernel
theorem dX4_event_83 : decode cX4_event 83 = .ok (.dup, 1) := by decide +kernel
theorem dX4_event_84 : decode cX4_event 84 = .ok (.ldc 113, 2) := by decide +kernel
theorem dX4_event_86 : decode cX4_event 86 = .ok (.invokespecial 91, 3) := by decide +kernel
theorem dX4_event_89 : decode cX4_event 89 = .ok (.athrow, 1) := by decide +kernel
theorem dX4_event_90 : decode cX4_event 90 = .ok (.iload_n 2, 1) := by decide +kernel
theorem dX4_event_91 : decode cX4_event 91 = .ok (.iload 4, 2) := by decide +kernel
theorem dX4_event_93 : decode cX4_event 93 = .ok (.invokestatic 115, 3) := by decide +kernel
theorem dX4_event_96 : decode cX4_event 96 = .ok (.ifCond .eq 15, 3) := by decide +kernel
theorem dX4_event_99 : decode cX4_event 99 = .ok (.aload_n 0, 1) := by decide +kernel
theorem dX4_event_100 : decode cX4_event 100 = .ok (.getfield 26, 3) := by decide +kernel
theorem dX4_event_103 : decode cX4_event 103 = .ok (.invokevirtual 119, 3) := by decide +kernel
theorem dX4_event_106 : decode cX4_event 106 = .ok (.bipush 40, 2) := by decide +kernel
theorem dX4_event_108 : decode cX4_event 108 = .ok (.if_icmp .lt 13, 3) := by decide +kernel
theorem dX4_event_111 : decode cX4_event 111 = .ok (.new 74, 3) := by decide +kernel
theorem dX4_event_114 : decode cX4_event 114 = .ok (.dup, 1) := by decide +kernel
theorem dX4_event_115 : decode cX4_event 115 = .ok (.ldc 120, 2) := by decide +kernel
theorem dX4_event_117 : decode cX4_event 117 = .ok (.invokespecial 78, 3) := by decide +kernel
theorem dX4_event_120 : decode cX4_event 120 = .ok (.athrow, 1) := by decide +kernel
theorem dX4_event_121 : decode cX4_event 121 = .ok (.aload_n 0, 1) := by decide +kernel
theorem dX4_event_122 : decode cX4_event 122 = .ok (.getfield 26, 3) := by decide +kernel
theorem dX4_event_125 : decode cX4_event 125 = .ok (.iload_n 1, 1) := by decide +kernel
theorem dX4_event_126 : decode cX4_event 126 = .ok (.iload_n 2, 1) := by decide +kernel
theorem dX4_event_127 : decode cX4_event 127 = .ok (.iload_n 3, 1) := by decide +kernel
theorem dX4_event_128 : decode cX4_event 128 = .ok (.iload 4, 2) := by decide +kernel
theorem dX4_event_130 : decode cX4_event 130 = .ok (.invokevirtual 122, 3) := by decide +kernel
theorem dX4_event_133 : decode cX4_event 133 = .ok (.aload_n 0, 1) := by decide +kernel
theorem dX4_event_134 : decode cX4_event 134 = .ok (.getfield 26, 3) := by decide +kernel
theorem dX4_event_137 : decode cX4_event 137 = .ok (.invokevirtual 119, 3) := by decide +kernel
theorem dX4_event_140 : decode cX4_event 140 = .ok (.ireturn, 1) := by decide +kernel
set_option maxRecDepth 20000 in
theorem ggX4_calibrate_X2_has : GoodIn wsX4_calibrate wsX2_has := goodIn_r _ [12, 13, 38, 39, 40, 41, 42, 43, 44, 45, 46] (by decide +kernel) (by decide +kernel)
set_option maxRecDepth 20000 in
theorem gX4_calibrate_X2_has : GoodIn wsX4_calibrate (wsV RX4 112 RX2 yX2_has wsX2_has) := goodIn_app (goodIn_of _ (by decide +kernel)) ggX4_calibrate_X2_has
set_option maxRecDepth 20000 in
theorem ggX4_calibrate_X4_isWithin : GoodIn wsX4_calibrate wsX4_isWithin := goodIn_r _ [17] (by decide +kernel) (by decide +kernel)
set_option maxRecDepth 20000 in
theorem gX4_calibrate_X4_isWithin : GoodIn wsX4_calibrate (va_wsS RX4 59 yX4_isWithin wsX4_isWithin) := goodIn_app (goodIn_of _ (by decide +kernel)) ggX4_calibrate_X4_isWithin
set_option maxRecDepth 20000 in
theorem ggX4_calibrate_X2_calibrationsOf : GoodIn wsX4_calibrate wsX2_calibrationsOf := goodIn_r _ [21, 22, 38, 39, 40, 41, 42, 43, 44, 45, 46] (by decide +kernel) (by decide +kernel)
set_option maxRecDepth 20000 in
theorem gX4_calibrate_X2_calibrationsOf : GoodIn wsX4_calibrate (wsV RX4 129 RX2 yX2_calibrationsOf wsX2_calibrationsOf) := goodIn_app (goodIn_of _ (by decide +kernel)) ggX4_calibrate_X2_calibrationsOf
set_option maxRecDepth 20000 in
theorem ggX4_calibrate_X2_addCalibration : GoodIn wsX4_calibrate wsX2_addCalibration := goodIn_r _ [26, 27, 22, 38, 39, 40, 41, 42, 43, 44, 45, 46] (by decide +kernel) (by decide +kernel)
set_option maxRecDepth 20000 in
theorem gX4_calibrate_X2_addCalibration : GoodIn wsX4_calibrate (wsV RX4 134 RX2 yX2_addCalibration wsX2_addCalibration) := goodIn_app (goodIn_of _ (by decide +kernel)) ggX4_calibrate_X2_addCalibration
theorem dX4_calibrate_0 : decode cX4_calibrate 0 = .ok (.aload_n 0, 1) := by decide +kernel
theorem dX4_calibrate_1 : decode cX4_calibrate 1 = .ok (.getfield 19, 3) := by decide +kernel
theorem dX4_calibrate_4 : decode cX4_calibrate 4 = .ok (.iload_n 1, 1) := by decide +kernel
theorem dX4_calibrate_5 : decode cX4_calibrate 5 = .ok (.invokevirtual 112, 3) := by decide +kernel
theorem dX4_calibrate_8 : decode cX4_calibrate 8 = .ok (.ifCond .ne 13, 3) := by decide +kernel
theorem dX4_calibrate_11 : decode cX4_calibrate 11 = .ok (.new 87, 3) := by decide +kernel
theorem dX4_calibrate_14 : decode cX4_calibrate 14 = .ok (.dup, 1) := by decide +kernel
theorem dX4_calibrate_15 : decode cX4_calibrate 15 = .ok (.ldc 125, 2) := by decide +kernel
theorem dX4_calibrate_17 : decode cX4_calibrate 17 = .ok (.invokespecial 91, 3) := by decide +kernel
theorem dX4_calibrate_20 : decode cX4_calibrate 20 = .ok (.athrow, 1) := by decide +kernel
theorem dX4_calibrate_21 : decode cX4_calibrate 21 = .ok (.iload_n 2, 1) := by decide +kernel
theorem dX4_calibrate_22 : decode cX4_calibrate 22 = .ok (.iconst 0, 1) := by decide +kernel
theorem dX4_calibrate_23 : decode cX4_calibrate 23 = .ok (.sipush 500, 3) := by decide +kernel
theorem dX4_calibrate_26 : decode cX4_calibrate 26 = .ok (.invokestatic 59, 3) := by decide +kernel
theorem dX4_calibrate_29 : decode cX4_calibrate 29 = .ok (.ifCond .eq 28, 3) := by decide +kernel
theorem dX4_calibrate_32 : decode cX4_calibrate 32 = .ok (.iload_n 3, 1) := by decide +kernel
theorem dX4_calibrate_33 : decode cX4_calibrate 33 = .ok (.iload_n 2, 1) := by decide +kernel
theorem dX4_calibrate_34 : decode cX4_calibrate 34 = .ok (.sipush 500, 3) := by decide +kernel
theorem dX4_calibrate_37 : decode cX4_calibrate 37 = .ok (.invokestatic 59, 3) := by decide +kernel
theorem dX4_calibrate_40 : decode cX4_calibrate 40 = .ok (.ifCond .eq 17, 3) := by decide +kernel
theorem dX4_calibrate_43 : decode cX4_calibrate 43 = .ok (.iload 4, 2) := by decide +kernel
theorem dX4_calibrate_45 : decode cX4_calibrate 45 = .ok (.sipush (-10000), 3) := by decide +kernel
theorem dX4_calibrate_48 : decode cX4_calibrate 48 = .ok (.sipush 10000, 3) := by decide +kernel
theorem dX4_calibrate_51 : decode cX4_calibrate 51 = .ok (.invokestatic 59, 3) := by decide +kernel
theorem dX4_calibrate_54 : decode cX4_calibrate 54 = .ok (.ifCond .ne 13, 3) := by decide +kernel
theorem dX4_calibrate_57 : decode cX4_calibrate 57 = .ok (.new 63, 3) := by decide +kernel
theorem dX4_calibrate_60 : decode cX4_calibrate 60 = .ok (.dup, 1) := by decide +kernel
theorem dX4_calibrate_61 : decode cX4_calibrate 61 = .ok (.ldc 127, 2) := by decide +kernel
theorem dX4_calibrate_63 : decode cX4_calibrate 63 = .ok (.invokespecial 67, 3) := by decide +kernel
theorem dX4_calibrate_66 : decode cX4_calibrate 66 = .ok (.athrow, 1) := by decide +kernel
theorem dX4_calibrate_67 : decode cX4_calibrate 67 = .ok (.aload_n 0, 1) := by decide +kernel
theorem dX4_calibrate_68 : decode cX4_calibrate 68 = .ok (.getfield 19, 3) := by decide +kernel
theorem dX4_calibrate_71 : decode cX4_calibrate 71 = .ok (.iload_n 1, 1) := by decide +kernel
theorem dX4_calibrate_72 : decode cX4_calibrate 72 = .ok (.invokevirtual 129, 3) := by decide +kernel
theorem dX4_calibrate_75 : decode cX4_calibrate 75 = .ok (.bipush 10, 2) := by decide +kernel
theorem dX4_calibrate_77 : decode cX4_calibrate 77 = .ok (.if_icmp .lt 13, 3) := by decide +kernel
theorem dX4_calibrate_80 : decode cX4_calibrate 80 = .ok (.new 74, 3) := by decide +kernel
theorem dX4_calibrate_83 : decode cX4_calibrate 83 = .ok (.dup, 1) := by decide +kernel
theorem dX4_calibrate_84 : decode cX4_calibrate 84 = .ok (.ldc 132, 2) := by decide +kernel
theorem dX4_calibrate_86 : decode cX4_calibrate 86 = .ok (.invokespecial 78, 3) := by decide +kernel
theorem dX4_calibrate_89 : decode cX4_calibrate 89 = .ok (.athrow, 1) := by decide +kernel
theorem dX4_calibrate_90 : decode cX4_calibrate 90 = .ok (.aload_n 0, 1) := by decide +kernel
theorem dX4_calibrate_91 : decode cX4_calibrate 91 = .ok (.getfield 19, 3) := by decide +kernel
theorem dX4_calibrate_94 : decode cX4_calibrate 94 = .ok (.iload_n 1, 1) := by decide +kernel
theorem dX4_calibrate_95 : decode cX4_calibrate 95 = .ok (.iload_n 2, 1) := by decide +kernel
theorem dX4_calibrate_96 : decode cX4_calibrate 96 = .ok (.iload_n 3, 1) := by decide +kernel
theorem dX4_calibrate_97 : decode cX4_calibrate 97 = .ok (.iload 4, 2) := by decide +kernel
theorem dX4_calibrate_99 : decode cX4_calibrate 99 = .ok (.invokevirtual 134, 3) := by decide +kernel
theorem dX4_calibrate_102 : decode cX4_calibrate 102 = .ok (.ireturn, 1) := by decide +kernel
set_option maxRecDepth 20000 in
theorem ggX4_bounds_X4_isWithin : GoodIn wsX4_bounds wsX4_isWithin := goodIn_r _ [8] (by decide +kernel) (by decide +kernel)
set_option maxRecDepth 20000 in
theorem gX4_bounds_X4_isWithin : GoodIn wsX4_bounds (va_wsS RX4 59 yX4_isWithin wsX4_isWithin) := goodIn_app (goodIn_of _ (by decide +kernel)) ggX4_bounds_X4_isWithin
theorem dX4_bounds_0 : decode cX4_bounds 0 = .ok (.iload_n 1, 1) := by decide +kernel
theorem dX4_bounds_1 : decode cX4_bounds 1 = .ok (.iconst 0, 1) := by decide +kernel
theorem dX4_bounds_2 : decode cX4_bounds 2 = .ok (.sipush 499, 3) := by decide +kernel
theorem dX4_bounds_5 : decode cX4_bounds 5 = .ok (.invokestatic 59, 3) := by decide +kernel
theorem dX4_bounds_8 : decode cX4_bounds 8 = .ok (.ifCond .eq 14, 3) := by decide +kernel
theorem dX4_bounds_11 : decode cX4_bounds 11 = .ok (.iload_n 2, 1) := by decide +kernel
theorem dX4_bounds_12 : decode cX4_bounds 12 = .ok (.iconst 1, 1) := by decide +kernel
theorem dX4_bounds_13 : decode cX4_bounds 13 = .ok (.sipush 1000, 3) := by decide +kernel
theorem dX4_bounds_16 : decode cX4_bounds 16 = .ok (.invokestatic 59, 3) := by decide +kernel
theorem dX4_bounds_19 : decode cX4_bounds 19 = .ok (.ifCond .ne 13, 3) := by decide +kernel
theorem dX4_bounds_22 : decode cX4_bounds 22 = .ok (.new 63, 3) := by decide +kernel
theorem dX4_bounds_25 : decode cX4_bounds 25 = .ok (.dup, 1) := by decide +kernel
theorem dX4_bounds_26 : decode cX4_bounds 26 = .ok (.ldc 137, 2) := by decide +kernel
theorem dX4_bounds_28 : decode cX4_bounds 28 = .ok (.invokespecial 67, 3) := by decide +kernel
theorem dX4_bounds_31 : decode cX4_bounds 31 = .ok (.athrow, 1) := by decide +kernel
theorem dX4_bounds_32 : decode cX4_bounds 32 = .ok (.aload_n 0, 1) := by decide +kernel
theorem dX4_bounds_33 : decode cX4_bounds 33 = .ok (.iload_n 1, 1) := by decide +kernel
theorem dX4_bounds_34 : decode cX4_bounds 34 = .ok (.putfield 49, 3) := by decide +kernel
theorem dX4_bounds_37 : decode cX4_bounds 37 = .ok (.aload_n 0, 1) := by decide +kernel
theorem dX4_bounds_38 : decode cX4_bounds 38 = .ok (.iload_n 2, 1) := by decide +kernel
theorem dX4_bounds_39 : decode cX4_bounds 39 = .ok (.putfield 52, 3) := by decide +kernel
theorem dX4_bounds_42 : decode cX4_bounds 42 = .ok (.return_, 1) := by decide +kernel
set_option maxRecDepth 20000 in
theorem ggX4_pass_X4_isWithin : GoodIn wsX4_pass wsX4_isWithin := goodIn_r _ [9] (by decide +kernel) (by decide +kernel)
set_option maxRecDepth 20000 in
theorem gX4_pass_X4_isWithin : GoodIn wsX4_pass (va_wsS RX4 59 yX4_isWithin wsX4_isWithin) := goodIn_app (goodIn_of _ (by decide +kernel)) ggX4_pass_X4_isWithin
set_option maxRecDepth 20000 in
theorem ggX4_pass_X4_passOneDay : GoodIn wsX4_pass wsX4_passOneDay := goodIn_r _ [13, 14, 5, 15, 16, 17, 18, 19, 20, 21, 22, 23, 24, 25, 26, 27, 28, 29, 30, 31, 32, 33, 34, 35, 8, 36, 37, 38, 39, 40, 41, 42, 43, 44, 45, 46, 47, 48, 49, 50, 51, 52, 53, 54, 55, 56, 57, 58, 59, 60, 61, 62, 63, 64, 65, 66, 67, 68, 69, 70, 71, 72, 73, 74, 75, 76, 77, 78, 79, 80, 81, 82, 83, 84, 85, 86, 87, 88, 89, 90, 91, 92, 93, 94, 95, 96, 97, 98, 99, 100, 101, 102, 103, 104, 105, 106, 107, 108, 109, 110, 111, 112, 113, 114, 115, 116, 117, 118, 119, 120, 121, 122, 123, 124, 125, 126, 127, 128, 129, 130, 131, 132, 133, 134, 135, 136, 137, 138, 139, 140, 141, 142, 143, 144, 145, 146, 147, 148, 149, 150, 151, 152, 153, 154, 155, 156, 157, 158, 159, 160, 161, 162, 163, 164] (by decide +kernel) (by decide +kernel)
set_option maxRecDepth 20000 in
theorem gX4_pass_X4_passOneDay : GoodIn wsX4_pass (wsV RX4 143 RX4 yX4_passOneDay wsX4_passOneDay) := goodIn_app (goodIn_of _ (by decide +kernel)) ggX4_pass_X4_passOneDay
theorem dX4_pass_0 : decode cX4_pass 0 = .ok (.iload_n 1, 1) := by decide +kernel
theorem dX4_pass_1 : decode cX4_pass 1 = .ok (.iconst 1, 1) := by decide +kernel
theorem dX4_pass_2 : decode cX4_pass 2 = .ok (.bipush 50, 2) := by decide +kernel
theorem dX4_pass_4 : decode cX4_pass 4 = .ok (.invokestatic 59, 3) := by decide +kernel
theorem dX4_pass_7 : decode cX4_pass 7 = .ok (.ifCond .ne 13, 3) := by decide +kernel
theorem dX4_pass_10 : decode cX4_pass 10 = .ok (.new 63, 3) := by decide +kernel
theorem dX4_pass_13 : decode cX4_pass 13 = .ok (.dup, 1) := by decide +kernel
theorem dX4_pass_14 : decode cX4_pass 14 = .ok (.ldc 139, 2) := by decide +kernel
theorem dX4_pass_16 : decode cX4_pass 16 = .ok (.invokespecial 67, 3) := by decide +kernel
theorem dX4_pass_19 : decode cX4_pass 19 = .ok (.athrow, 1) := by decide +kernel
theorem dX4_pass_20 : decode cX4_pass 20 = .ok (.iload_n 1, 1) := by decide +kernel
theorem dX4_pass_21 : decode cX4_pass 21 = .ok (.sipush 500, 3) := by decide +kernel
theorem dX4_pass_24 : decode cX4_pass 24 = .ok (.aload_n 0, 1) := by decide +kernel
theorem dX4_pass_25 : decode cX4_pass 25 = .ok (.getfield 45, 3) := by decide +kernel
theorem dX4_pass_28 : decode cX4_pass 28 = .ok (.isub, 1) := by decide +kernel
theorem dX4_pass_29 : decode cX4_pass 29 = .ok (.if_icmp .le 13, 3) := by decide +kernel
theorem dX4_pass_32 : decode cX4_pass 32 = .ok (.new 74, 3) := by decide +kernel
theorem dX4_pass_35 : decode cX4_pass 35 = .ok (.dup, 1) := by decide +kernel
theorem dX4_pass_36 : decode cX4_pass 36 = .ok (.ldc 141, 2) := by decide +kernel
theorem dX4_pass_38 : decode cX4_pass 38 = .ok (.invokespecial 78, 3) := by decide +kernel
theorem dX4_pass_41 : decode cX4_pass 41 = .ok (.athrow, 1) := by decide +kernel
theorem dX4_pass_42 : decode cX4_pass 42 = .ok (.iconst 0, 1) := by decide +kernel
theorem dX4_pass_43 : decode cX4_pass 43 = .ok (.istore_n 2, 1) := by decide +kernel
theorem dX4_pass_44 : decode cX4_pass 44 = .ok (.iload_n 2, 1) := by decide +kernel
theorem dX4_pass_45 : decode cX4_pass 45 = .ok (.iload_n 1, 1) := by decide +kernel
theorem dX4_pass_46 : decode cX4_pass 46 = .ok (.if_icmp .ge 13, 3) := by decide +kernel
theorem dX4_pass_49 : decode cX4_pass 49 = .ok (.aload_n 0, 1) := by decide +kernel
theorem dX4_pass_50 : decode cX4_pass 50 = .ok (.invokevirtual 143, 3) := by decide +kernel
theorem dX4_pass_53 : decode cX4_pass 53 = .ok (.iinc 2 1, 3) := by decide +kernel
theorem dX4_pass_56 : decode cX4_pass 56 = .ok (.goto (-12), 3) := by decide +kernel
theorem dX4_pass_59 : decode cX4_pass 59 = .ok (.aload_n 0, 1) := by decide +kernel
theorem dX4_pass_60 : decode cX4_pass 60 = .ok (.getfield 45, 3) := by decide +kernel
theorem dX4_pass_63 : decode cX4_pass 63 = .ok (.ireturn, 1) := by decide +kernel
set_option maxRecDepth 20000 in
theorem ggX4_vote_X4_isWithin : GoodIn wsX4_vote wsX4_isWithin := goodIn_r _ [7] (by decide +kernel) (by decide +kernel)
set_option maxRecDepth 20000 in
theorem gX4_vote_X4_isWithin : GoodIn wsX4_vote (va_wsS RX4 59 yX4_isWithin wsX4_isWithin) := goodIn_app (goodIn_of _ (by decide +kernel)) ggX4_vote_X4_isWithin
set_option maxRecDepth 20000 in
theorem ggX4_vote_X4_housesFor : GoodIn wsX4_vote wsX4_housesFor := goodIn_r _ [11, 3, 12, 13, 14, 15, 16, 17, 18, 19, 20, 21] (by decide +kernel) (by decide +kernel)
set_option maxRecDepth 20000 in
theorem gX4_vote_X4_housesFor : GoodIn wsX4_vote (wsV RX4 148 RX4 yX4_housesFor wsX4_housesFor) := goodIn_app (goodIn_of _ (by decide +kernel)) ggX4_vote_X4_housesFor
theorem dX4_vote_0 : decode cX4_vote 0 = .ok (.iload_n 1, 1) := by decide +kernel
theorem dX4_vote_1 : decode cX4_vote 1 = .ok (.iconst 0, 1) := by decide +kernel
theorem dX4_vote_2 : decode cX4_vote 2 = .ok (.bipush 6, 2) := by decide +kernel
theorem dX4_vote_4 : decode cX4_vote 4 = .ok (.invokestatic 59, 3) := by decide +kernel
theorem dX4_vote_7 : decode cX4_vote 7 = .ok (.ifCond .ne 13, 3) := by decide +kernel
theorem dX4_vote_10 : decode cX4_vote 10 = .ok (.new 87, 3) := by decide +kernel
theorem dX4_vote_13 : decode cX4_vote 13 = .ok (.dup, 1) := by decide +kernel
theorem dX4_vote_14 : decode cX4_vote 14 = .ok (.ldc 146, 2) := by decide +kernel
theorem dX4_vote_16 : decode cX4_vote 16 = .ok (.invokespecial 91, 3) := by decide +kernel
theorem dX4_vote_19 : decode cX4_vote 19 = .ok (.athrow, 1) := by decide +kernel
theorem dX4_vote_20 : decode cX4_vote 20 = .ok (.aload_n 0, 1) := by decide +kernel
theorem dX4_vote_21 : decode cX4_vote 21 = .ok (.getfield 41, 3) := by decide +kernel
theorem dX4_vote_24 : decode cX4_vote 24 = .ok (.iload_n 1, 1) := by decide +kernel
theorem dX4_vote_25 : decode cX4_vote 25 = .ok (.iload_n 2, 1) := by decide +kernel
theorem dX4_vote_26 : decode cX4_vote 26 = .ok (.bastore, 1) := by decide +kernel
theorem dX4_vote_27 : decode cX4_vote 27 = .ok (.aload_n 0, 1) := by decide +kernel
theorem dX4_vote_28 : decode cX4_vote 28 = .ok (.invokevirtual 148, 3) := by decide +kernel
theorem dX4_vote_31 : decode cX4_vote 31 = .ok (.ireturn, 1) := by decide +kernel
set_option maxRecDepth 20000 in
theorem ggX4_adopt_X4_housesFor : GoodIn wsX4_adopt wsX4_housesFor := goodIn_r _ [9, 10, 83, 84, 85, 86, 87, 88, 89, 90, 91, 92] (by decide +kernel) (by decide +kernel)
set_option maxRecDepth 20000 in
theorem gX4_adopt_X4_housesFor : GoodIn wsX4_adopt (wsV RX4 148 RX4 yX4_housesFor wsX4_housesFor) := goodIn_app (goodIn_of _ (by decide +kernel)) ggX4_adopt_X4_housesFor
set_option maxRecDepth 20000 in
theorem ggX4_adopt_X4_openRings : GoodIn wsX4_adopt wsX4_openRings := goodIn_r _ [14, 15, 16, 17, 18, 19, 20, 21, 22, 23, 24, 25, 26, 27, 28, 29, 30, 31, 32, 33, 34, 35, 36, 37, 38, 39, 40, 41, 42, 43, 44, 45, 46, 47, 48, 49, 50, 51, 52, 53, 54, 55, 56, 57, 58, 59, 60, 61, 62, 63, 64, 65, 66, 67, 68, 69, 70, 71, 72, 73, 74, 75, 76, 77, 78, 79, 80, 81, 82, 83, 84, 85, 86, 87, 88, 89, 90, 91, 92, 93, 94, 95, 96, 97, 98, 99, 100, 101, 102, 103, 104, 105, 106, 107, 108, 109, 110, 111, 112, 113] (by decide +kernel) (by decide +kernel)
set_option maxRecDepth 20000 in
theorem gX4_adopt_X4_openRings : GoodIn wsX4_adopt (wsV RX4 153 RX4 yX4_openRings wsX4_openRings) := goodIn_app (goodIn_of _ (by decide +kernel)) ggX4_adopt_X4_openRings
theorem dX4_adopt_0 : decode cX4_adopt 0 = .ok (.aload_n 0, 1) := by decide +kernel
theorem dX4_adopt_1 : decode cX4_adopt 1 = .ok (.getfield 55, 3) := by decide +kernel
theorem dX4_adopt_4 : decode cX4_adopt 4 = .ok (.ifCond .ne 10, 3) := by decide +kernel
theorem dX4_adopt_7 : decode cX4_adopt 7 = .ok (.aload_n 0, 1) := by decide +kernel
theorem dX4_adopt_8 : decode cX4_adopt 8 = .ok (.getfield 45, 3) := by decide +kernel
theorem dX4_adopt_11 : decode cX4_adopt 11 = .ok (.ifCond .ne 13, 3) := by decide +kernel
theorem dX4_adopt_14 : decode cX4_adopt 14 = .ok (.new 74, 3) := by decide +kernel
theorem dX4_adopt_17 : decode cX4_adopt 17 = .ok (.dup, 1) := by decide +kernel
theorem dX4_adopt_18 : decode cX4_adopt 18 = .ok (.ldc 151, 2) := by decide +kernel
theorem dX4_adopt_20 : decode cX4_adopt 20 = .ok (.invokespecial 78, 3) := by decide +kernel
theorem dX4_adopt_23 : decode cX4_adopt 23 = .ok (.athrow, 1) := by decide +kernel
theorem dX4_adopt_24 : decode cX4_adopt 24 = .ok (.aload_n 0, 1) := by decide +kernel
theorem dX4_adopt_25 : decode cX4_adopt 25 = .ok (.aload_n 0, 1) := by decide +kernel
theorem dX4_adopt_26 : decode cX4_adopt 26 = .ok (.invokevirtual 148, 3) := by decide +kernel
theorem dX4_adopt_29 : decode cX4_adopt 29 = .ok (.iconst 5, 1) := by decide +kernel
theorem dX4_adopt_30 : decode cX4_adopt 30 = .ok (.if_icmp .lt 18, 3) := by decide +kernel
theorem dX4_adopt_33 : decode cX4_adopt 33 = .ok (.aload_n 0, 1) := by decide +kernel
theorem dX4_adopt_34 : decode cX4_adopt 34 = .ok (.aload_n 0, 1) := by decide +kernel
theorem dX4_adopt_35 : decode cX4_adopt 35 = .ok (.getfield 45, 3) := by decide +kernel
theorem dX4_adopt_38 : decode cX4_adopt 38 = .ok (.invokevirtual 153, 3) := by decide +kernel
theorem dX4_adopt_41 : decode cX4_adopt 41 = .ok (.ifCond .ne 7, 3) := by decide +kernel
theorem dX4_adopt_44 : decode cX4_adopt 44 = .ok (.iconst 1, 1) := by decide +kernel
theorem dX4_adopt_45 : decode cX4_adopt 45 = .ok (.goto 4, 3) := by decide +kernel
theorem dX4_adopt_48 : decode cX4_adopt 48 = .ok (.iconst 0, 1) := by decide +kernel
theorem dX4_adopt_49 : decode cX4_adopt 49 = .ok (.putfield 55, 3) := by decide +kernel
theorem dX4_adopt_52 : decode cX4_adopt 52 = .ok (.aload_n 0, 1) := by decide +kernel
theorem dX4_adopt_53 : decode cX4_adopt 53 = .ok (.getfield 55, 3) := by decide +kernel
theorem dX4_adopt_56 : decode cX4_adopt 56 = .ok (.ireturn, 1) := by decide +kernel
theorem dX4_day_0 : decode cX4_day 0 = .ok (.aload_n 0, 1) := by decide +kernel
theorem dX4_day_1 : decode cX4_day 1 = .ok (.getfield 45, 3) := by decide +kernel
theorem dX4_day_4 : decode cX4_day 4 = .ok (.ireturn, 1) := by decide +kernel
set_option maxRecDepth 20000 in
theorem ggX4_of_X1_has : GoodIn wsX4_of wsX1_has := goodIn_r _ [10, 11, 37, 38, 39, 40, 41, 42] (by decide +kernel) (by decide +kernel)
set_option maxRecDepth 20000 in
theorem gX4_of_X1_has : GoodIn wsX4_of (wsV RX4 83 RX1 yX1_has wsX1_has) := goodIn_app (goodIn_of _ (by decide +kernel)) ggX4_of_X1_has
set_option maxRecDepth 20000 in
theorem ggX4_of_X1_phaseOf : GoodIn wsX4_of wsX1_phaseOf := goodIn_r _ [15, 16, 37, 38, 39, 40, 41, 42] (by decide +kernel) (by decide +kernel)
set_option maxRecDepth 20000 in
theorem gX4_of_X1_phaseOf : GoodIn wsX4_of (wsV RX4 156 RX1 yX1_phaseOf wsX1_phaseOf) := goodIn_app (goodIn_of _ (by decide +kernel)) ggX4_of_X1_phaseOf
set_option maxRecDepth 20000 in
theorem ggX4_of_X1_rateOf : GoodIn wsX4_of wsX1_rateOf := goodIn_r _ [20, 21, 37, 38, 39, 40, 41, 42] (by decide +kernel) (by decide +kernel)
set_option maxRecDepth 20000 in
theorem gX4_of_X1_rateOf : GoodIn wsX4_of (wsV RX4 159 RX1 yX1_rateOf wsX1_rateOf) := goodIn_app (goodIn_of _ (by decide +kernel)) ggX4_of_X1_rateOf
set_option maxRecDepth 20000 in
theorem ggX4_of_X1_heightOf : GoodIn wsX4_of wsX1_heightOf := goodIn_r _ [25, 26, 37, 38, 39, 40, 41, 42] (by decide +kernel) (by decide +kernel)
set_option maxRecDepth 20000 in
theorem gX4_of_X1_heightOf : GoodIn wsX4_of (wsV RX4 162 RX1 yX1_heightOf wsX1_heightOf) := goodIn_app (goodIn_of _ (by decide +kernel)) ggX4_of_X1_heightOf
theorem dX4_of_0 : decode cX4_of 0 = .ok (.aload_n 0, 1) := by decide +kernel
theorem dX4_of_1 : decode cX4_of 1 = .ok (.getfield 10, 3) := by decide +kernel
theorem dX4_of_4 : decode cX4_of 4 = .ok (.iload_n 1, 1) := by decide +kernel
theorem dX4_of_5 : decode cX4_of 5 = .ok (.invokevirtual 83, 3) := by decide +kernel
theorem dX4_of_8 : decode cX4_of 8 = .ok (.ifCond .ne 13, 3) := by decide +kernel
theorem dX4_of_11 : decode cX4_of 11 = .ok (.new 87, 3) := by decide +kernel
theorem dX4_of_14 : decode cX4_of 14 = .ok (.dup, 1) := by decide +kernel
theorem dX4_of_15 : decode cX4_of 15 = .ok (.ldc 89, 2) := by decide +kernel
theorem dX4_of_17 : decode cX4_of 17 = .ok (.invokespecial 91, 3) := by decide +kernel
theorem dX4_of_20 : decode cX4_of 20 = .ok (.athrow, 1) := by decide +kernel
theorem dX4_of_21 : decode cX4_of 21 = .ok (.iload_n 2, 1) := by decide +kernel
theorem dX4_of_22 : decode cX4_of 22 = .ok (.tableswitch 53 0 2 #[26, 35, 44], 26) := by decide +kernel
theorem dX4_of_48 : decode cX4_of 48 = .ok (.aload_n 0, 1) := by decide +kernel
theorem dX4_of_49 : decode cX4_of 49 = .ok (.getfield 10, 3) := by decide +kernel
theorem dX4_of_52 : decode cX4_of 52 = .ok (.iload_n 1, 1) := by decide +kernel
theorem dX4_of_53 : decode cX4_of 53 = .ok (.invokevirtual 156, 3) := by decide +kernel
theorem dX4_of_56 : decode cX4_of 56 = .ok (.ireturn, 1) := by decide +kernel
theorem dX4_of_57 : decode cX4_of 57 = .ok (.aload_n 0, 1) := by decide +kernel
theorem dX4_of_58 : decode cX4_of 58 = .ok (.getfield 10, 3) := by decide +kernel
theorem dX4_of_61 : decode cX4_of 61 = .ok (.iload_n 1, 1) := by decide +kernel
theorem dX4_of_62 : decode cX4_of 62 = .ok (.invokevirtual 159, 3) := by decide +kernel
theorem dX4_of_65 : decode cX4_of 65 = .ok (.ireturn, 1) := by decide +kernel
theorem dX4_of_66 : decode cX4_of 66 = .ok (.aload_n 0, 1) := by decide +kernel
theorem dX4_of_67 : decode cX4_of 67 = .ok (.getfield 10, 3) := by decide +kernel
theorem dX4_of_70 : decode cX4_of 70 = .ok (.iload_n 1, 1) := by decide +kernel
theorem dX4_of_71 : decode cX4_of 71 = .ok (.invokevirtual 162, 3) := by decide +kernel
theorem dX4_of_74 : decode cX4_of 74 = .ok (.ireturn, 1) := by decide +kernel
theorem dX4_of_75 : decode cX4_of 75 = .ok (.new 63, 3) := by decide +kernel
theorem dX4_of_78 : decode cX4_of 78 = .ok (.dup, 1) := by decide +kernel
theorem dX4_of_79 : decode cX4_of 79 = .ok (.ldc 165, 2) := by decide +kernel
theorem dX4_of_81 : decode cX4_of 81 = .ok (.invokespecial 67, 3) := by decide +kernel
theorem dX4_of_84 : decode cX4_of 84 = .ok (.athrow, 1) := by decide +kernel
set_option maxRecDepth 20000 in
theorem ggX4_measured_X4_hasMeasured : GoodIn wsX4_measured wsX4_hasMeasured := goodIn_r _ [8, 3, 9, 10, 11, 7, 12, 13, 14, 15, 16, 17, 18, 19, 20, 21, 22, 23, 24, 25, 26, 27, 38, 39, 40, 41, 42, 43, 44, 45, 46, 47, 48, 49, 50, 51, 52, 53, 54, 55, 56] (by decide +kernel) (by decide +kernel)
set_option maxRecDepth 20000 in
theorem gX4_measured_X4_hasMeasured : GoodIn wsX4_measured (wsV RX4 167 RX4 yX4_hasMeasured wsX4_hasMeasured) := goodIn_app (goodIn_of _ (by decide +kernel)) ggX4_measured_X4_hasMeasured
set_option maxRecDepth 20000 in
theorem ggX4_measured_X2_correctedOf : GoodIn wsX4_measured wsX2_correctedOf := goodIn_r _ [31, 32, 33, 48, 49, 50, 51, 52, 53, 54, 55, 56] (by decide +kernel) (by decide +kernel)
set_option maxRecDepth 20000 in
theorem gX4_measured_X2_correctedOf : GoodIn wsX4_measured (wsV RX4 172 RX2 yX2_correctedOf wsX2_correctedOf) := goodIn_app (goodIn_of _ (by decide +kernel)) ggX4_measured_X2_correctedOf
set_option maxRecDepth 20000 in
theorem ggX4_measured_X2_rawOf : GoodIn wsX4_measured wsX2_rawOf := goodIn_r _ [37, 32, 48, 49, 50, 51, 52, 53, 54, 55, 56] (by decide +kernel) (by decide +kernel)
set_option maxRecDepth 20000 in
theorem gX4_measured_X2_rawOf : GoodIn wsX4_measured (wsV RX4 175 RX2 yX2_rawOf wsX2_rawOf) := goodIn_app (goodIn_of _ (by decide +kernel)) ggX4_measured_X2_rawOf
theorem dX4_measured_0 : decode cX4_measured 0 = .ok (.aload_n 0, 1) := by decide +kernel
theorem dX4_measured_1 : decode cX4_measured 1 = .ok (.iload_n 1, 1) := by decide +kernel
theorem dX4_measured_2 : decode cX4_measured 2 = .ok (.iload_n 2, 1) := by decide +kernel
theorem dX4_measured_3 : decode cX4_measured 3 = .ok (.invokevirtual 167, 3) := by decide +kernel
theorem dX4_measured_6 : decode cX4_measured 6 = .ok (.ifCond .ne 13, 3) := by decide +kernel
theorem dX4_measured_9 : decode cX4_measured 9 = .ok (.new 87, 3) := by decide +kernel
theorem dX4_measured_12 : decode cX4_measured 12 = .ok (.dup, 1) := by decide +kernel
theorem dX4_measured_13 : decode cX4_measured 13 = .ok (.ldc 170, 2) := by decide +kernel
theorem dX4_measured_15 : decode cX4_measured 15 = .ok (.invokespecial 91, 3) := by decide +kernel
theorem dX4_measured_18 : decode cX4_measured 18 = .ok (.athrow, 1) := by decide +kernel
theorem dX4_measured_19 : decode cX4_measured 19 = .ok (.iload_n 3, 1) := by decide +kernel
theorem dX4_measured_20 : decode cX4_measured 20 = .ok (.ifCond .eq 15, 3) := by decide +kernel
theorem dX4_measured_23 : decode cX4_measured 23 = .ok (.aload_n 0, 1) := by decide +kernel
theorem dX4_measured_24 : decode cX4_measured 24 = .ok (.getfield 19, 3) := by decide +kernel
theorem dX4_measured_27 : decode cX4_measured 27 = .ok (.iload_n 1, 1) := by decide +kernel
theorem dX4_measured_28 : decode cX4_measured 28 = .ok (.iload_n 2, 1) := by decide +kernel
theorem dX4_measured_29 : decode cX4_measured 29 = .ok (.invokevirtual 172, 3) := by decide +kernel
theorem dX4_measured_32 : decode cX4_measured 32 = .ok (.goto 12, 3) := by decide +kernel
theorem dX4_measured_35 : decode cX4_measured 35 = .ok (.aload_n 0, 1) := by decide +kernel
theorem dX4_measured_36 : decode cX4_measured 36 = .ok (.getfield 19, 3) := by decide +kernel
theorem dX4_measured_39 : decode cX4_measured 39 = .ok (.iload_n 1, 1) := by decide +kernel
theorem dX4_measured_40 : decode cX4_measured 40 = .ok (.iload_n 2, 1) := by decide +kernel
theorem dX4_measured_41 : decode cX4_measured 41 = .ok (.invokevirtual 175, 3) := by decide +kernel
theorem dX4_measured_44 : decode cX4_measured 44 = .ok (.ireturn, 1) := by decide +kernel
set_option maxRecDepth 20000 in
theorem ggX4_closes_X4_hasMeasured : GoodIn wsX4_closes wsX4_hasMeasured := goodIn_r _ [17, 5, 18, 19, 20, 16, 21, 22, 23, 24, 25, 26, 27, 28, 29, 30, 31, 32, 33, 34, 35, 36, 61, 62, 63, 64, 65, 66, 67, 68, 69, 70, 71, 72, 73, 74, 75, 76, 77, 78, 79] (by decide +kernel) (by decide +kernel)
set_option maxRecDepth 20000 in
theorem gX4_closes_X4_hasMeasured : GoodIn wsX4_closes (wsV RX4 167 RX4 yX4_hasMeasured wsX4_hasMeasured) := goodIn_app (goodIn_of _ (by decide +kernel)) ggX4_closes_X4_hasMeasured
set_option maxRecDepth 20000 in
theorem ggX4_closes_X2_areRing : GoodIn wsX4_closes wsX2_areRing := goodIn_r _ [40, 41, 42, 43, 29, 44, 45, 46, 71, 72, 73, 74, 75, 76, 77, 78, 79] (by decide +kernel) (by decide +kernel)
set_option maxRecDepth 20000 in
theorem gX4_closes_X2_areRing : GoodIn wsX4_closes (wsV RX4 180 RX2 yX2_areRing wsX2_areRing) := goodIn_app (goodIn_of _ (by decide +kernel)) ggX4_closes_X2_areRing
set_option maxRecDepth 20000 in
theorem ggX4_closes_X2_around : GoodIn wsX4_closes wsX2_around := goodIn_r _ [50, 51, 52, 53, 29, 54, 55, 56, 57, 58, 59, 60, 45, 46, 71, 72, 73, 74, 75, 76, 77, 78, 79] (by decide +kernel) (by decide +kernel)
set_option maxRecDepth 20000 in
theorem gX4_closes_X2_around : GoodIn wsX4_closes (wsV RX4 193 RX2 yX2_around wsX2_around) := goodIn_app (goodIn_of _ (by decide +kernel)) ggX4_closes_X2_around
theorem dX4_closes_0 : decode cX4_closes 0 = .ok (.aload_n 0, 1) := by decide +kernel
theorem dX4_closes_1 : decode cX4_closes 1 = .ok (.iload_n 1, 1) := by decide +kernel
theorem dX4_closes_2 : decode cX4_closes 2 = .ok (.iload 4, 2) := by decide +kernel
theorem dX4_closes_4 : decode cX4_closes 4 = .ok (.invokevirtual 167, 3) := by decide +kernel
theorem dX4_closes_7 : decode cX4_closes 7 = .ok (.ifCond .eq 23, 3) := by decide +kernel
theorem dX4_closes_10 : decode cX4_closes 10 = .ok (.aload_n 0, 1) := by decide +kernel
theorem dX4_closes_11 : decode cX4_closes 11 = .ok (.iload_n 2, 1) := by decide +kernel
theorem dX4_closes_12 : decode cX4_closes 12 = .ok (.iload 4, 2) := by decide +kernel
theorem dX4_closes_14 : decode cX4_closes 14 = .ok (.invokevirtual 167, 3) := by decide +kernel
theorem dX4_closes_17 : decode cX4_closes 17 = .ok (.ifCond .eq 13, 3) := by decide +kernel
theorem dX4_closes_20 : decode cX4_closes 20 = .ok (.aload_n 0, 1) := by decide +kernel
theorem dX4_closes_21 : decode cX4_closes 21 = .ok (.iload_n 3, 1) := by decide +kernel
theorem dX4_closes_22 : decode cX4_closes 22 = .ok (.iload 4, 2) := by decide +kernel
theorem dX4_closes_24 : decode cX4_closes 24 = .ok (.invokevirtual 167, 3) := by decide +kernel
theorem dX4_closes_27 : decode cX4_closes 27 = .ok (.ifCond .ne 13, 3) := by decide +kernel
theorem dX4_closes_30 : decode cX4_closes 30 = .ok (.new 87, 3) := by decide +kernel
theorem dX4_closes_33 : decode cX4_closes 33 = .ok (.dup, 1) := by decide +kernel
theorem dX4_closes_34 : decode cX4_closes 34 = .ok (.ldc 178, 2) := by decide +kernel
theorem dX4_closes_36 : decode cX4_closes 36 = .ok (.invokespecial 91, 3) := by decide +kernel
theorem dX4_closes_39 : decode cX4_closes 39 = .ok (.athrow, 1) := by decide +kernel
theorem dX4_closes_40 : decode cX4_closes 40 = .ok (.aload_n 0, 1) := by decide +kernel
theorem dX4_closes_41 : decode cX4_closes 41 = .ok (.getfield 19, 3) := by decide +kernel
theorem dX4_closes_44 : decode cX4_closes 44 = .ok (.iload_n 1, 1) := by decide +kernel
theorem dX4_closes_45 : decode cX4_closes 45 = .ok (.iload_n 2, 1) := by decide +kernel
theorem dX4_closes_46 : decode cX4_closes 46 = .ok (.iload_n 3, 1) := by decide +kernel
theorem dX4_closes_47 : decode cX4_closes 47 = .ok (.invokevirtual 180, 3) := by decide +kernel
theorem dX4_closes_50 : decode cX4_closes 50 = .ok (.ifCond .ne 13, 3) := by decide +kernel
theorem dX4_closes_53 : decode cX4_closes 53 = .ok (.new 63, 3) := by decide +kernel
theorem dX4_closes_56 : decode cX4_closes 56 = .ok (.dup, 1) := by decide +kernel
theorem dX4_closes_57 : decode cX4_closes 57 = .ok (.ldc 183, 2) := by decide +kernel
theorem dX4_closes_59 : decode cX4_closes 59 = .ok (.invokespecial 67, 3) := by decide +kernel
theorem dX4_closes_62 : decode cX4_closes 62 = .ok (.athrow, 1) := by decide +kernel
theorem dX4_closes_63 : decode cX4_closes 63 = .ok (.iload_n 1, 1) := by decide +kernel
theorem dX4_closes_64 : decode cX4_closes 64 = .ok (.iload_n 2, 1) := by decide +kernel
theorem dX4_closes_65 : decode cX4_closes 65 = .ok (.iload_n 3, 1) := by decide +kernel
theorem dX4_closes_66 : decode cX4_closes 66 = .ok (.invokestatic 185, 3) := by decide +kernel
theorem dX4_closes_69 : decode cX4_closes 69 = .ok (.invokestatic 185, 3) := by decide +kernel
theorem dX4_closes_72 : decode cX4_closes 72 = .ok (.istore 5, 2) := by decide +kernel
theorem dX4_closes_74 : decode cX4_closes 74 = .ok (.iload_n 1, 1) := by decide +kernel
theorem dX4_closes_75 : decode cX4_closes 75 = .ok (.iload_n 2, 1) := by decide +kernel
theorem dX4_closes_76 : decode cX4_closes 76 = .ok (.iload_n 3, 1) := by decide +kernel
theorem dX4_closes_77 : decode cX4_closes 77 = .ok (.invokestatic 190, 3) := by decide +kernel
theorem dX4_closes_80 : decode cX4_closes 80 = .ok (.invokestatic 190, 3) := by decide +kernel
theorem dX4_closes_83 : decode cX4_closes 83 = .ok (.istore 6, 2) := by decide +kernel
theorem dX4_closes_85 : decode cX4_closes 85 = .ok (.iload_n 1, 1) := by decide +kernel
theorem dX4_closes_86 : decode cX4_closes 86 = .ok (.iload_n 2, 1) := by decide +kernel
theorem dX4_closes_87 : decode cX4_closes 87 = .ok (.iadd, 1) := by decide +kernel
theorem dX4_closes_88 : decode cX4_closes 88 = .ok (.iload_n 3, 1) := by decide +kernel
theorem dX4_closes_89 : decode cX4_closes 89 = .ok (.iadd, 1) := by decide +kernel
theorem dX4_closes_90 : decode cX4_closes 90 = .ok (.iload 5, 2) := by decide +kernel
theorem dX4_closes_92 : decode cX4_closes 92 = .ok (.isub, 1) := by decide +kernel
theorem dX4_closes_93 : decode cX4_closes 93 = .ok (.iload 6, 2) := by decide +kernel
theorem dX4_closes_95 : decode cX4_closes 95 = .ok (.isub, 1) := by decide +kernel
theorem dX4_closes_96 : decode cX4_closes 96 = .ok (.istore 7, 2) := by decide +kernel
theorem dX4_closes_98 : decode cX4_closes 98 = .ok (.aload_n 0, 1) := by decide +kernel
theorem dX4_closes_99 : decode cX4_closes 99 = .ok (.getfield 19, 3) := by decide +kernel
theorem dX4_closes_102 : decode cX4_closes 102 = .ok (.iload 5, 2) := by decide +kernel
theorem dX4_closes_104 : decode cX4_closes 104 = .ok (.iload 7, 2) := by decide +kernel
theorem dX4_closes_106 : decode cX4_closes 106 = .ok (.iload 6, 2) := by decide +kernel
theorem dX4_closes_108 : decode cX4_closes 108 = .ok (.iload 4, 2) := by decide +kernel
theorem dX4_closes_110 : decode cX4_closes 110 = .ok (.invokevirtual 193, 3) := by decide +kernel
theorem dX4_closes_113 : decode cX4_closes 113 = .ok (.ireturn, 1) := by decide +kernel
set_option maxRecDepth 20000 in
theorem ggX4_open_X4_hasPassed : GoodIn wsX4_open wsX4_hasPassed := goodIn_r _ [7, 8, 9, 10, 6, 11, 84, 85, 86, 87, 88, 89, 90, 91, 92, 93] (by decide +kernel) (by decide +kernel)
set_option maxRecDepth 20000 in
theorem gX4_open_X4_hasPassed : GoodIn wsX4_open (wsV RX4 196 RX4 yX4_hasPassed wsX4_hasPassed) := goodIn_app (goodIn_of _ (by decide +kernel)) ggX4_open_X4_hasPassed
set_option maxRecDepth 20000 in
theorem ggX4_open_X4_openRings : GoodIn wsX4_open wsX4_openRings := goodIn_r _ [15, 16, 17, 18, 19, 20, 21, 22, 23, 24, 25, 26, 27, 28, 29, 30, 31, 32, 33, 34, 35, 36, 37, 38, 39, 40, 41, 42, 43, 44, 45, 46, 47, 48, 49, 50, 51, 52, 53, 54, 55, 56, 57, 58, 59, 60, 61, 62, 63, 64, 65, 66, 67, 68, 69, 70, 71, 72, 73, 74, 75, 76, 77, 78, 79, 80, 81, 82, 83, 84, 85, 86, 87, 88, 89, 90, 91, 92, 93, 94, 95, 96, 97, 98, 99, 100, 101, 102, 103, 104, 105, 106, 107, 108, 109, 110, 111, 112, 113, 114] (by decide +kernel) (by decide +kernel)
set_option maxRecDepth 20000 in
theorem gX4_open_X4_openRings : GoodIn wsX4_open (wsV RX4 153 RX4 yX4_openRings wsX4_openRings) := goodIn_app (goodIn_of _ (by decide +kernel)) ggX4_open_X4_openRings
theorem dX4_open_0 : decode cX4_open 0 = .ok (.aload_n 0, 1) := by decide +kernel
theorem dX4_open_1 : decode cX4_open 1 = .ok (.iload_n 1, 1) := by decide +kernel
theorem dX4_open_2 : decode cX4_open 2 = .ok (.invokevirtual 196, 3) := by decide +kernel
theorem dX4_open_5 : decode cX4_open 5 = .ok (.ifCond .ne 13, 3) := by decide +kernel
theorem dX4_open_8 : decode cX4_open 8 = .ok (.new 87, 3) := by decide +kernel
theorem dX4_open_11 : decode cX4_open 11 = .ok (.dup, 1) := by decide +kernel
theorem dX4_open_12 : decode cX4_open 12 = .ok (.ldc 199, 2) := by decide +kernel
theorem dX4_open_14 : decode cX4_open 14 = .ok (.invokespecial 91, 3) := by decide +kernel
theorem dX4_open_17 : decode cX4_open 17 = .ok (.athrow, 1) := by decide +kernel
theorem dX4_open_18 : decode cX4_open 18 = .ok (.aload_n 0, 1) := by decide +kernel
theorem dX4_open_19 : decode cX4_open 19 = .ok (.iload_n 1, 1) := by decide +kernel
theorem dX4_open_20 : decode cX4_open 20 = .ok (.invokevirtual 153, 3) := by decide +kernel
theorem dX4_open_23 : decode cX4_open 23 = .ok (.ireturn, 1) := by decide +kernel
set_option maxRecDepth 20000 in
theorem ggX4_slips_X4_hasPassed : GoodIn wsX4_slips wsX4_hasPassed := goodIn_r _ [10, 11, 12, 13, 9, 14, 96, 97, 98, 99, 100, 101, 102, 103, 104, 105] (by decide +kernel) (by decide +kernel)
set_option maxRecDepth 20000 in
theorem gX4_slips_X4_hasPassed : GoodIn wsX4_slips (wsV RX4 196 RX4 yX4_hasPassed wsX4_hasPassed) := goodIn_app (goodIn_of _ (by decide +kernel)) ggX4_slips_X4_hasPassed
set_option maxRecDepth 20000 in
theorem ggX4_slips_X3_gather : GoodIn wsX4_slips wsX3_gather := goodIn_r _ [19, 20, 21, 22, 23, 24, 25, 26, 27, 28, 29, 30, 31, 32, 33, 34, 35, 18, 36, 37, 38, 39, 40, 41, 42, 43, 44, 45, 46, 47, 48, 49, 50, 51, 52, 53, 54, 55, 56, 57, 58, 59, 60, 61, 62, 63, 64, 65, 66, 67, 68, 69, 70, 71, 106, 107, 108, 109, 110, 111, 112, 113, 114, 115, 116, 117, 118, 119, 120, 121, 122, 123, 124, 125, 126] (by decide +kernel) (by decide +kernel)
set_option maxRecDepth 20000 in
theorem gX4_slips_X3_gather : GoodIn wsX4_slips (wsV RX4 201 RX3 yX3_gather wsX3_gather) := goodIn_app (goodIn_of _ (by decide +kernel)) ggX4_slips_X3_gather
set_option maxRecDepth 20000 in
theorem ggX4_slips_X2_count : GoodIn wsX4_slips wsX2_count := goodIn_r _ [26, 27, 118, 119, 120, 121, 122, 123, 124, 125, 126] (by decide +kernel) (by decide +kernel)
set_option maxRecDepth 20000 in
theorem gX4_slips_X2_count : GoodIn wsX4_slips (wsV RX4 104 RX2 yX2_count wsX2_count) := goodIn_app (goodIn_of _ (by decide +kernel)) ggX4_slips_X2_count
set_option maxRecDepth 20000 in
theorem ggX4_slips_X3_findSlips : GoodIn wsX4_slips wsX3_findSlips := goodIn_r _ [76, 77, 78, 79, 80, 81, 18, 82, 21, 83, 84, 85, 86, 87, 88, 89, 90, 91, 20, 51, 56, 92, 93, 94, 95, 54, 52, 55, 53, 106, 107, 108, 109, 110, 111, 112, 113, 114, 115, 116, 117] (by decide +kernel) (by decide +kernel)
set_option maxRecDepth 20000 in
theorem gX4_slips_X3_findSlips : GoodIn wsX4_slips (wsV RX4 205 RX3 yX3_findSlips wsX3_findSlips) := goodIn_app (goodIn_of _ (by decide +kernel)) ggX4_slips_X3_findSlips
theorem dX4_slips_0 : decode cX4_slips 0 = .ok (.aload_n 0, 1) := by decide +kernel
theorem dX4_slips_1 : decode cX4_slips 1 = .ok (.iload_n 1, 1) := by decide +kernel
theorem dX4_slips_2 : decode cX4_slips 2 = .ok (.invokevirtual 196, 3) := by decide +kernel
theorem dX4_slips_5 : decode cX4_slips 5 = .ok (.ifCond .ne 13, 3) := by decide +kernel
theorem dX4_slips_8 : decode cX4_slips 8 = .ok (.new 87, 3) := by decide +kernel
theorem dX4_slips_11 : decode cX4_slips 11 = .ok (.dup, 1) := by decide +kernel
theorem dX4_slips_12 : decode cX4_slips 12 = .ok (.ldc 199, 2) := by decide +kernel
theorem dX4_slips_14 : decode cX4_slips 14 = .ok (.invokespecial 91, 3) := by decide +kernel
theorem dX4_slips_17 : decode cX4_slips 17 = .ok (.athrow, 1) := by decide +kernel
theorem dX4_slips_18 : decode cX4_slips 18 = .ok (.aload_n 0, 1) := by decide +kernel
theorem dX4_slips_19 : decode cX4_slips 19 = .ok (.getfield 33, 3) := by decide +kernel
theorem dX4_slips_22 : decode cX4_slips 22 = .ok (.aload_n 0, 1) := by decide +kernel
theorem dX4_slips_23 : decode cX4_slips 23 = .ok (.getfield 19, 3) := by decide +kernel
theorem dX4_slips_26 : decode cX4_slips 26 = .ok (.iload_n 1, 1) := by decide +kernel
theorem dX4_slips_27 : decode cX4_slips 27 = .ok (.invokevirtual 201, 3) := by decide +kernel
theorem dX4_slips_30 : decode cX4_slips 30 = .ok (.aload_n 0, 1) := by decide +kernel
theorem dX4_slips_31 : decode cX4_slips 31 = .ok (.getfield 33, 3) := by decide +kernel
theorem dX4_slips_34 : decode cX4_slips 34 = .ok (.aload_n 0, 1) := by decide +kernel
theorem dX4_slips_35 : decode cX4_slips 35 = .ok (.getfield 19, 3) := by decide +kernel
theorem dX4_slips_38 : decode cX4_slips 38 = .ok (.invokevirtual 104, 3) := by decide +kernel
theorem dX4_slips_41 : decode cX4_slips 41 = .ok (.aload_n 0, 1) := by decide +kernel
theorem dX4_slips_42 : decode cX4_slips 42 = .ok (.getfield 49, 3) := by decide +kernel
theorem dX4_slips_45 : decode cX4_slips 45 = .ok (.invokevirtual 205, 3) := by decide +kernel
theorem dX4_slips_48 : decode cX4_slips 48 = .ok (.ireturn, 1) := by decide +kernel
set_option maxRecDepth 20000 in
theorem ggX4_mean_X4_hasPassed : GoodIn wsX4_mean wsX4_hasPassed := goodIn_r _ [8, 9, 10, 11, 7, 12, 56, 57, 58, 59, 60, 61, 62, 63, 64, 65] (by decide +kernel) (by decide +kernel)
set_option maxRecDepth 20000 in
theorem gX4_mean_X4_hasPassed : GoodIn wsX4_mean (wsV RX4 196 RX4 yX4_hasPassed wsX4_hasPassed) := goodIn_app (goodIn_of _ (by decide +kernel)) ggX4_mean_X4_hasPassed
set_option maxRecDepth 20000 in
theorem ggX4_mean_X1_count : GoodIn wsX4_mean wsX1_count := goodIn_r _ [17, 18, 66, 67, 68, 69, 70, 71] (by decide +kernel) (by decide +kernel)
set_option maxRecDepth 20000 in
theorem gX4_mean_X1_count : GoodIn wsX4_mean (wsV RX4 70 RX1 yX1_count wsX1_count) := goodIn_app (goodIn_of _ (by decide +kernel)) ggX4_mean_X1_count
set_option maxRecDepth 20000 in
theorem ggX4_mean_X4_meanOrZero : GoodIn wsX4_mean wsX4_meanOrZero := goodIn_r _ [22, 3, 23, 13, 14, 15, 16, 17, 18, 24, 25, 26, 27, 28, 29, 30, 31, 32, 33, 34, 35, 36, 37, 38, 39, 40, 41, 42, 43, 44, 45, 46, 47, 48, 49, 50, 51, 52, 53, 54, 55, 56, 57, 58, 59, 60, 61, 62, 63, 64, 65, 66, 67, 68, 69, 70, 71, 72, 73, 74, 75, 76, 77, 78, 79, 80] (by decide +kernel) (by decide +kernel)
set_option maxRecDepth 20000 in
theorem gX4_mean_X4_meanOrZero : GoodIn wsX4_mean (wsV RX4 210 RX4 yX4_meanOrZero wsX4_meanOrZero) := goodIn_app (goodIn_of _ (by decide +kernel)) ggX4_mean_X4_meanOrZero
theorem dX4_mean_0 : decode cX4_mean 0 = .ok (.aload_n 0, 1) := by decide +kernel
theorem dX4_mean_1 : decode cX4_mean 1 = .ok (.iload_n 1, 1) := by decide +kernel
theorem dX4_mean_2 : decode cX4_mean 2 = .ok (.invokevirtual 196, 3) := by decide +kernel
theorem dX4_mean_5 : decode cX4_mean 5 = .ok (.ifCond .eq 13, 3) := by decide +kernel
theorem dX4_mean_8 : decode cX4_mean 8 = .ok (.aload_n 0, 1) := by decide +kernel
theorem dX4_mean_9 : decode cX4_mean 9 = .ok (.getfield 10, 3) := by decide +kernel
theorem dX4_mean_12 : decode cX4_mean 12 = .ok (.invokevirtual 70, 3) := by decide +kernel
theorem dX4_mean_15 : decode cX4_mean 15 = .ok (.ifCond .ne 13, 3) := by decide +kernel
theorem dX4_mean_18 : decode cX4_mean 18 = .ok (.new 87, 3) := by decide +kernel
theorem dX4_mean_21 : decode cX4_mean 21 = .ok (.dup, 1) := by decide +kernel
theorem dX4_mean_22 : decode cX4_mean 22 = .ok (.ldc 208, 2) := by decide +kernel
theorem dX4_mean_24 : decode cX4_mean 24 = .ok (.invokespecial 91, 3) := by decide +kernel
theorem dX4_mean_27 : decode cX4_mean 27 = .ok (.athrow, 1) := by decide +kernel
theorem dX4_mean_28 : decode cX4_mean 28 = .ok (.aload_n 0, 1) := by decide +kernel
theorem dX4_mean_29 : decode cX4_mean 29 = .ok (.iload_n 1, 1) := by decide +kernel
theorem dX4_mean_30 : decode cX4_mean 30 = .ok (.invokevirtual 210, 3) := by decide +kernel
theorem dX4_mean_33 : decode cX4_mean 33 = .ok (.ireturn, 1) := by decide +kernel
set_option maxRecDepth 20000 in
theorem ggX4_published_X4_hasPassed : GoodIn wsX4_published wsX4_hasPassed := goodIn_r _ [8, 9, 10, 11, 7, 12, 76, 77, 78, 79, 80, 81, 82, 83, 84, 85] (by decide +kernel) (by decide +kernel)
set_option maxRecDepth 20000 in
theorem gX4_published_X4_hasPassed : GoodIn wsX4_published (wsV RX4 196 RX4 yX4_hasPassed wsX4_hasPassed) := goodIn_app (goodIn_of _ (by decide +kernel)) ggX4_published_X4_hasPassed
set_option maxRecDepth 20000 in
theorem ggX4_published_X4_steeredAnew : GoodIn wsX4_published wsX4_steeredAnew := goodIn_r _ [16, 17, 18, 19, 7, 20, 21, 22, 23, 24, 25, 26, 27, 28, 29, 30, 31, 32, 33, 34, 35, 36, 37, 38, 39, 40, 41, 42, 43, 44, 45, 46, 47, 48, 49, 50, 51, 52, 53, 54, 55, 56, 57, 58, 59, 60, 61, 62, 63, 64, 65, 66, 67, 68, 69, 70, 71, 72, 73, 74, 75, 76, 77, 78, 79, 80, 81, 82, 83, 84, 85, 86, 87, 88, 89, 90, 91, 92, 93, 94, 95, 96, 97, 98, 99, 100] (by decide +kernel) (by decide +kernel)
set_option maxRecDepth 20000 in
theorem gX4_published_X4_steeredAnew : GoodIn wsX4_published (wsV RX4 213 RX4 yX4_steeredAnew wsX4_steeredAnew) := goodIn_app (goodIn_of _ (by decide +kernel)) ggX4_published_X4_steeredAnew
theorem dX4_published_0 : decode cX4_published 0 = .ok (.aload_n 0, 1) := by decide +kernel
theorem dX4_published_1 : decode cX4_published 1 = .ok (.iload_n 1, 1) := by decide +kernel
theorem dX4_published_2 : decode cX4_published 2 = .ok (.invokevirtual 196, 3) := by decide +kernel
theorem dX4_published_5 : decode cX4_published 5 = .ok (.ifCond .ne 13, 3) := by decide +kernel
theorem dX4_published_8 : decode cX4_published 8 = .ok (.new 87, 3) := by decide +kernel
theorem dX4_published_11 : decode cX4_published 11 = .ok (.dup, 1) := by decide +kernel
theorem dX4_published_12 : decode cX4_published 12 = .ok (.ldc 199, 2) := by decide +kernel
theorem dX4_published_14 : decode cX4_published 14 = .ok (.invokespecial 91, 3) := by decide +kernel
theorem dX4_published_17 : decode cX4_published 17 = .ok (.athrow, 1) := by decide +kernel
theorem dX4_published_18 : decode cX4_published 18 = .ok (.iload_n 2, 1) := by decide +kernel
theorem dX4_published_19 : decode cX4_published 19 = .ok (.ifCond .eq 11, 3) := by decide +kernel
theorem dX4_published_22 : decode cX4_published 22 = .ok (.aload_n 0, 1) := by decide +kernel
theorem dX4_published_23 : decode cX4_published 23 = .ok (.iload_n 1, 1) := by decide +kernel
theorem dX4_published_24 : decode cX4_published 24 = .ok (.invokevirtual 213, 3) := by decide +kernel
theorem dX4_published_27 : decode cX4_published 27 = .ok (.goto 9, 3) := by decide +kernel
theorem dX4_published_30 : decode cX4_published 30 = .ok (.aload_n 0, 1) := by decide +kernel
theorem dX4_published_31 : decode cX4_published 31 = .ok (.getfield 37, 3) := by decide +kernel
theorem dX4_published_34 : decode cX4_published 34 = .ok (.iload_n 1, 1) := by decide +kernel
theorem dX4_published_35 : decode cX4_published 35 = .ok (.iaload, 1) := by decide +kernel
theorem dX4_published_36 : decode cX4_published 36 = .ok (.ireturn, 1) := by decide +kernel
set_option maxRecDepth 20000 in
theorem ggX4_height_X4_hasMeasured : GoodIn wsX4_height wsX4_hasMeasured := goodIn_r _ [11, 5, 12, 13, 14, 10, 15, 16, 17, 18, 19, 20, 21, 22, 23, 24, 25, 26, 27, 28, 29, 30, 37, 38, 39, 40, 41, 42, 43, 44, 45, 46, 47, 48, 49, 50, 51, 52, 53, 54, 55] (by decide +kernel) (by decide +kernel)
set_option maxRecDepth 20000 in
theorem gX4_height_X4_hasMeasured : GoodIn wsX4_height (wsV RX4 167 RX4 yX4_hasMeasured wsX4_hasMeasured) := goodIn_app (goodIn_of _ (by decide +kernel)) ggX4_height_X4_hasMeasured
set_option maxRecDepth 20000 in
theorem ggX4_height_X4_isWithin : GoodIn wsX4_height wsX4_isWithin := goodIn_r _ [19] (by decide +kernel) (by decide +kernel)
set_option maxRecDepth 20000 in
theorem gX4_height_X4_isWithin : GoodIn wsX4_height (va_wsS RX4 59 yX4_isWithin wsX4_isWithin) := goodIn_app (goodIn_of _ (by decide +kernel)) ggX4_height_X4_isWithin
set_option maxRecDepth 20000 in
theorem ggX4_height_X2_correctedOf : GoodIn wsX4_height wsX2_correctedOf := goodIn_r _ [34, 35, 36, 47, 48, 49, 50, 51, 52, 53, 54, 55] (by decide +kernel) (by decide +kernel)
set_option maxRecDepth 20000 in
theorem gX4_height_X2_correctedOf : GoodIn wsX4_height (wsV RX4 172 RX2 yX2_correctedOf wsX2_correctedOf) := goodIn_app (goodIn_of _ (by decide +kernel)) ggX4_height_X2_correctedOf
theorem dX4_height_0 : decode cX4_height 0 = .ok (.aload_n 0, 1) := by decide +kernel
theorem dX4_height_1 : decode cX4_height 1 = .ok (.iload_n 1, 1) := by decide +kernel
theorem dX4_height_2 : decode cX4_height 2 = .ok (.iload_n 2, 1) := by decide +kernel
theorem dX4_height_3 : decode cX4_height 3 = .ok (.invokevirtual 167, 3) := by decide +kernel
theorem dX4_height_6 : decode cX4_height 6 = .ok (.ifCond .eq 12, 3) := by decide +kernel
theorem dX4_height_9 : decode cX4_height 9 = .ok (.aload_n 0, 1) := by decide +kernel
theorem dX4_height_10 : decode cX4_height 10 = .ok (.iload_n 1, 1) := by decide +kernel
theorem dX4_height_11 : decode cX4_height 11 = .ok (.iload_n 3, 1) := by decide +kernel
theorem dX4_height_12 : decode cX4_height 12 = .ok (.invokevirtual 167, 3) := by decide +kernel
theorem dX4_height_15 : decode cX4_height 15 = .ok (.ifCond .ne 13, 3) := by decide +kernel
theorem dX4_height_18 : decode cX4_height 18 = .ok (.new 87, 3) := by decide +kernel
theorem dX4_height_21 : decode cX4_height 21 = .ok (.dup, 1) := by decide +kernel
theorem dX4_height_22 : decode cX4_height 22 = .ok (.ldc 216, 2) := by decide +kernel
theorem dX4_height_24 : decode cX4_height 24 = .ok (.invokespecial 91, 3) := by decide +kernel
theorem dX4_height_27 : decode cX4_height 27 = .ok (.athrow, 1) := by decide +kernel
theorem dX4_height_28 : decode cX4_height 28 = .ok (.iload_n 3, 1) := by decide +kernel
theorem dX4_height_29 : decode cX4_height 29 = .ok (.iload_n 2, 1) := by decide +kernel
theorem dX4_height_30 : decode cX4_height 30 = .ok (.if_icmp .le 17, 3) := by decide +kernel
theorem dX4_height_33 : decode cX4_height 33 = .ok (.iload 4, 2) := by decide +kernel
theorem dX4_height_35 : decode cX4_height 35 = .ok (.sipush (-1000), 3) := by decide +kernel
theorem dX4_height_38 : decode cX4_height 38 = .ok (.sipush 1000, 3) := by decide +kernel
theorem dX4_height_41 : decode cX4_height 41 = .ok (.invokestatic 59, 3) := by decide +kernel
theorem dX4_height_44 : decode cX4_height 44 = .ok (.ifCond .ne 13, 3) := by decide +kernel
theorem dX4_height_47 : decode cX4_height 47 = .ok (.new 63, 3) := by decide +kernel
theorem dX4_height_50 : decode cX4_height 50 = .ok (.dup, 1) := by decide +kernel
theorem dX4_height_51 : decode cX4_height 51 = .ok (.ldc 218, 2) := by decide +kernel
theorem dX4_height_53 : decode cX4_height 53 = .ok (.invokespecial 67, 3) := by decide +kernel
theorem dX4_height_56 : decode cX4_height 56 = .ok (.athrow, 1) := by decide +kernel
theorem dX4_height_57 : decode cX4_height 57 = .ok (.iload_n 3, 1) := by decide +kernel
theorem dX4_height_58 : decode cX4_height 58 = .ok (.iload_n 2, 1) := by decide +kernel
theorem dX4_height_59 : decode cX4_height 59 = .ok (.isub, 1) := by decide +kernel
theorem dX4_height_60 : decode cX4_height 60 = .ok (.istore 5, 2) := by decide +kernel
theorem dX4_height_62 : decode cX4_height 62 = .ok (.aload_n 0, 1) := by decide +kernel
theorem dX4_height_63 : decode cX4_height 63 = .ok (.getfield 19, 3) := by decide +kernel
theorem dX4_height_66 : decode cX4_height 66 = .ok (.iload_n 1, 1) := by decide +kernel
theorem dX4_height_67 : decode cX4_height 67 = .ok (.iload_n 3, 1) := by decide +kernel
theorem dX4_height_68 : decode cX4_height 68 = .ok (.invokevirtual 172, 3) := by decide +kernel
theorem dX4_height_71 : decode cX4_height 71 = .ok (.i2l, 1) := by decide +kernel
theorem dX4_height_72 : decode cX4_height 72 = .ok (.aload_n 0, 1) := by decide +kernel
theorem dX4_height_73 : decode cX4_height 73 = .ok (.getfield 19, 3) := by decide +kernel
theorem dX4_height_76 : decode cX4_height 76 = .ok (.iload_n 1, 1) := by decide +kernel
theorem dX4_height_77 : decode cX4_height 77 = .ok (.iload_n 2, 1) := by decide +kernel
theorem dX4_height_78 : decode cX4_height 78 = .ok (.invokevirtual 172, 3) := by decide +kernel
theorem dX4_height_81 : decode cX4_height 81 = .ok (.i2l, 1) := by decide +kernel
theorem dX4_height_82 : decode cX4_height 82 = .ok (.lsub, 1) := by decide +kernel
theorem dX4_height_83 : decode cX4_height 83 = .ok (.iload 4, 2) := by decide +kernel
theorem dX4_height_85 : decode cX4_height 85 = .ok (.i2l, 1) := by decide +kernel
theorem dX4_height_86 : decode cX4_height 86 = .ok (.iload 5, 2) := by decide +kernel
theorem dX4_height_88 : decode cX4_height 88 = .ok (.i2l, 1) := by decide +kernel
theorem dX4_height_89 : decode cX4_height 89 = .ok (.lmul, 1) := by decide +kernel
theorem dX4_height_90 : decode cX4_height 90 = .ok (.lsub, 1) := by decide +kernel
theorem dX4_height_91 : decode cX4_height 91 = .ok (.lstore 6, 2) := by decide +kernel
theorem dX4_height_93 : decode cX4_height 93 = .ok (.ldc2_w 220, 3) := by decide +kernel
theorem dX4_height_96 : decode cX4_height 96 = .ok (.lload 6, 2) := by decide +kernel
theorem dX4_height_98 : decode cX4_height 98 = .ok (.lmul, 1) := by decide +kernel
theorem dX4_height_99 : decode cX4_height 99 = .ok (.iload 5, 2) := by decide +kernel
theorem dX4_height_101 : decode cX4_height 101 = .ok (.i2l, 1) := by decide +kernel
theorem dX4_height_102 : decode cX4_height 102 = .ok (.ldiv, 1) := by decide +kernel
theorem dX4_height_103 : decode cX4_height 103 = .ok (.l2i, 1) := by decide +kernel
theorem dX4_height_104 : decode cX4_height 104 = .ok (.ireturn, 1) := by decide +kernel
set_option maxRecDepth 20000 in
theorem ggX4_events_X0_count : GoodIn wsX4_events wsX0_count := goodIn_r _ [6, 7, 18, 19] (by decide +kernel) (by decide +kernel)
set_option maxRecDepth 20000 in
theorem gX4_events_X0_count : GoodIn wsX4_events (wsV RX4 119 RX0 yX0_count wsX0_count) := goodIn_app (goodIn_of _ (by decide +kernel)) ggX4_events_X0_count
theorem dX4_events_0 : decode cX4_events 0 = .ok (.aload_n 0, 1) := by decide +kernel
theorem dX4_events_1 : decode cX4_events 1 = .ok (.getfield 26, 3) := by decide +kernel
theorem dX4_events_4 : decode cX4_events 4 = .ok (.invokevirtual 119, 3) := by decide +kernel
theorem dX4_events_7 : decode cX4_events 7 = .ok (.ireturn, 1) := by decide +kernel
theorem dX4_isWithin_0 : decode cX4_isWithin 0 = .ok (.iload_n 0, 1) := by decide +kernel
theorem dX4_isWithin_1 : decode cX4_isWithin 1 = .ok (.iload_n 1, 1) := by decide +kernel
theorem dX4_isWithin_2 : decode cX4_isWithin 2 = .ok (.if_icmp .lt 12, 3) := by decide +kernel
theorem dX4_isWithin_5 : decode cX4_isWithin 5 = .ok (.iload_n 0, 1) := by decide +kernel
theorem dX4_isWithin_6 : decode cX4_isWithin 6 = .ok (.iload_n 2, 1) := by decide +kernel
theorem dX4_isWithin_7 : decode cX4_isWithin 7 = .ok (.if_icmp .gt 7, 3) := by decide +kernel
theorem dX4_isWithin_10 : decode cX4_isWithin 10 = .ok (.iconst 1, 1) := by decide +kernel
theorem dX4_isWithin_11 : decode cX4_isWithin 11 = .ok (.goto 4, 3) := by decide +kernel
theorem dX4_isWithin_14 : decode cX4_isWithin 14 = .ok (.iconst 0, 1) := by decide +kernel
theorem dX4_isWithin_15 : decode cX4_isWithin 15 = .ok (.ireturn, 1) := by decide +kernel
theorem dX4_held_0 : decode cX4_held 0 = .ok (.iload_n 1, 1) := by decide +kernel
theorem dX4_held_1 : decode cX4_held 1 = .ok (.ineg, 1) := by decide +kernel
theorem dX4_held_2 : decode cX4_held 2 = .ok (.iload_n 1, 1) := by decide +kernel
theorem dX4_held_3 : decode cX4_held 3 = .ok (.iload_n 0, 1) := by decide +kernel
theorem dX4_held_4 : decode cX4_held 4 = .ok (.invokestatic 185, 3) := by decide +kernel
theorem dX4_held_7 : decode cX4_held 7 = .ok (.invokestatic 190, 3) := by decide +kernel
theorem dX4_held_10 : decode cX4_held 10 = .ok (.ireturn, 1) := by decide +kernel
set_option maxRecDepth 20000 in
theorem ggX4_isAmountOf_X4_isWithin : GoodIn wsX4_isAmountOf wsX4_isWithin := goodIn_r _ [4] (by decide +kernel) (by decide +kernel)
set_option maxRecDepth 20000 in
theorem gX4_isAmountOf_X4_isWithin : GoodIn wsX4_isAmountOf (va_wsS RX4 59 yX4_isWithin wsX4_isWithin) := goodIn_app (goodIn_of _ (by decide +kernel)) ggX4_isAmountOf_X4_isWithin
theorem dX4_isAmountOf_0 : decode cX4_isAmountOf 0 = .ok (.iload_n 0, 1) := by decide +kernel
theorem dX4_isAmountOf_1 : decode cX4_isAmountOf 1 = .ok (.tableswitch 68 0 3 #[31, 42, 51, 60], 31) := by decide +kernel
theorem dX4_isAmountOf_32 : decode cX4_isAmountOf 32 = .ok (.iload_n 1, 1) := by decide +kernel
theorem dX4_isAmountOf_33 : decode cX4_isAmountOf 33 = .ok (.sipush (-500), 3) := by decide +kernel
theorem dX4_isAmountOf_36 : decode cX4_isAmountOf 36 = .ok (.sipush 500, 3) := by decide +kernel
theorem dX4_isAmountOf_39 : decode cX4_isAmountOf 39 = .ok (.invokestatic 59, 3) := by decide +kernel
theorem dX4_isAmountOf_42 : decode cX4_isAmountOf 42 = .ok (.ireturn, 1) := by decide +kernel
theorem dX4_isAmountOf_43 : decode cX4_isAmountOf 43 = .ok (.iload_n 1, 1) := by decide +kernel
theorem dX4_isAmountOf_44 : decode cX4_isAmountOf 44 = .ok (.iconst 0, 1) := by decide +kernel
theorem dX4_isAmountOf_45 : decode cX4_isAmountOf 45 = .ok (.sipush 5000, 3) := by decide +kernel
theorem dX4_isAmountOf_48 : decode cX4_isAmountOf 48 = .ok (.invokestatic 59, 3) := by decide +kernel
theorem dX4_isAmountOf_51 : decode cX4_isAmountOf 51 = .ok (.ireturn, 1) := by decide +kernel
theorem dX4_isAmountOf_52 : decode cX4_isAmountOf 52 = .ok (.iload_n 1, 1) := by decide +kernel
theorem dX4_isAmountOf_53 : decode cX4_isAmountOf 53 = .ok (.bipush (-50), 2) := by decide +kernel
theorem dX4_isAmountOf_55 : decode cX4_isAmountOf 55 = .ok (.bipush 50, 2) := by decide +kernel
theorem dX4_isAmountOf_57 : decode cX4_isAmountOf 57 = .ok (.invokestatic 59, 3) := by decide +kernel
theorem dX4_isAmountOf_60 : decode cX4_isAmountOf 60 = .ok (.ireturn, 1) := by decide +kernel
theorem dX4_isAmountOf_61 : decode cX4_isAmountOf 61 = .ok (.iload_n 1, 1) := by decide +kernel
theorem dX4_isAmountOf_62 : decode cX4_isAmountOf 62 = .ok (.bipush (-3), 2) := by decide +kernel
theorem dX4_isAmountOf_64 : decode cX4_isAmountOf 64 = .ok (.iconst 3, 1) := by decide +kernel
theorem dX4_isAmountOf_65 : decode cX4_isAmountOf 65 = .ok (.invokestatic 59, 3) := by decide +kernel
theorem dX4_isAmountOf_68 : decode cX4_isAmountOf 68 = .ok (.ireturn, 1) := by decide +kernel
theorem dX4_isAmountOf_69 : decode cX4_isAmountOf 69 = .ok (.iconst 0, 1) := by decide +kernel
theorem dX4_isAmountOf_70 : decode cX4_isAmountOf 70 = .ok (.ireturn, 1) := by decide +kernel
set_option maxRecDepth 20000 in
theorem ggX4_hasPassed_X4_isWithin : GoodIn wsX4_hasPassed wsX4_isWithin := goodIn_r _ [5] (by decide +kernel) (by decide +kernel)
set_option maxRecDepth 20000 in
theorem gX4_hasPassed_X4_isWithin : GoodIn wsX4_hasPassed (va_wsS RX4 59 yX4_isWithin wsX4_isWithin) := goodIn_app (goodIn_of _ (by decide +kernel)) ggX4_hasPassed_X4_isWithin
theorem dX4_hasPassed_0 : decode cX4_hasPassed 0 = .ok (.iload_n 1, 1) := by decide +kernel
theorem dX4_hasPassed_1 : decode cX4_hasPassed 1 = .ok (.iconst 1, 1) := by decide +kernel
theorem dX4_hasPassed_2 : decode cX4_hasPassed 2 = .ok (.aload_n 0, 1) := by decide +kernel
theorem dX4_hasPassed_3 : decode cX4_hasPassed 3 = .ok (.getfield 45, 3) := by decide +kernel
theorem dX4_hasPassed_6 : decode cX4_hasPassed 6 = .ok (.invokestatic 59, 3) := by decide +kernel
theorem dX4_hasPassed_9 : decode cX4_hasPassed 9 = .ok (.ireturn, 1) := by decide +kernel
set_option maxRecDepth 20000 in
theorem ggX4_hasMeasured_X4_hasPassed : GoodIn wsX4_hasMeasured wsX4_hasPassed := goodIn_r _ [6, 7, 8, 9, 5, 10, 22, 23, 24, 25, 26, 27, 28, 29, 30, 31] (by decide +kernel) (by decide +kernel)
set_option maxRecDepth 20000 in
theorem gX4_hasMeasured_X4_hasPassed : GoodIn wsX4_hasMeasured (wsV RX4 196 RX4 yX4_hasPassed wsX4_hasPassed) := goodIn_app (goodIn_of _ (by decide +kernel)) ggX4_hasMeasured_X4_hasPassed
set_option maxRecDepth 20000 in
theorem ggX4_hasMeasured_X2_has : GoodIn wsX4_hasMeasured wsX2_has := goodIn_r _ [15, 16, 32, 33, 34, 35, 36, 37, 38, 39, 40] (by decide +kernel) (by decide +kernel)
set_option maxRecDepth 20000 in
theorem gX4_hasMeasured_X2_has : GoodIn wsX4_hasMeasured (wsV RX4 112 RX2 yX2_has wsX2_has) := goodIn_app (goodIn_of _ (by decide +kernel)) ggX4_hasMeasured_X2_has
set_option maxRecDepth 20000 in
theorem ggX4_hasMeasured_X2_isLaidBefore : GoodIn wsX4_hasMeasured wsX2_isLaidBefore := goodIn_r _ [20, 21, 32, 33, 34, 35, 36, 37, 38, 39, 40] (by decide +kernel) (by decide +kernel)
set_option maxRecDepth 20000 in
theorem gX4_hasMeasured_X2_isLaidBefore : GoodIn wsX4_hasMeasured (wsV RX4 222 RX2 yX2_isLaidBefore wsX2_isLaidBefore) := goodIn_app (goodIn_of _ (by decide +kernel)) ggX4_hasMeasured_X2_isLaidBefore
theorem dX4_hasMeasured_0 : decode cX4_hasMeasured 0 = .ok (.aload_n 0, 1) := by decide +kernel
theorem dX4_hasMeasured_1 : decode cX4_hasMeasured 1 = .ok (.iload_n 2, 1) := by decide +kernel
theorem dX4_hasMeasured_2 : decode cX4_hasMeasured 2 = .ok (.invokevirtual 196, 3) := by decide +kernel
theorem dX4_hasMeasured_5 : decode cX4_hasMeasured 5 = .ok (.ifCond .eq 30, 3) := by decide +kernel
theorem dX4_hasMeasured_8 : decode cX4_hasMeasured 8 = .ok (.aload_n 0, 1) := by decide +kernel
theorem dX4_hasMeasured_9 : decode cX4_hasMeasured 9 = .ok (.getfield 19, 3) := by decide +kernel
theorem dX4_hasMeasured_12 : decode cX4_hasMeasured 12 = .ok (.iload_n 1, 1) := by decide +kernel
theorem dX4_hasMeasured_13 : decode cX4_hasMeasured 13 = .ok (.invokevirtual 112, 3) := by decide +kernel
theorem dX4_hasMeasured_16 : decode cX4_hasMeasured 16 = .ok (.ifCond .eq 19, 3) := by decide +kernel
theorem dX4_hasMeasured_19 : decode cX4_hasMeasured 19 = .ok (.aload_n 0, 1) := by decide +kernel
theorem dX4_hasMeasured_20 : decode cX4_hasMeasured 20 = .ok (.getfield 19, 3) := by decide +kernel
theorem dX4_hasMeasured_23 : decode cX4_hasMeasured 23 = .ok (.iload_n 1, 1) := by decide +kernel
theorem dX4_hasMeasured_24 : decode cX4_hasMeasured 24 = .ok (.iload_n 2, 1) := by decide +kernel
theorem dX4_hasMeasured_25 : decode cX4_hasMeasured 25 = .ok (.invokevirtual 222, 3) := by decide +kernel
theorem dX4_hasMeasured_28 : decode cX4_hasMeasured 28 = .ok (.ifCond .eq 7, 3) := by decide +kernel
theorem dX4_hasMeasured_31 : decode cX4_hasMeasured 31 = .ok (.iconst 1, 1) := by decide +kernel
theorem dX4_hasMeasured_32 : decode cX4_hasMeasured 32 = .ok (.goto 4, 3) := by decide +kernel
theorem dX4_hasMeasured_35 : decode cX4_hasMeasured 35 = .ok (.iconst 0, 1) := by decide +kernel
theorem dX4_hasMeasured_36 : decode cX4_hasMeasured 36 = .ok (.ireturn, 1) := by decide +kernel
set_option maxRecDepth 20000 in
theorem ggX4_passOneDay_X0_count : GoodIn wsX4_passOneDay wsX0_count := goodIn_r _ [10, 11, 137, 138] (by decide +kernel) (by decide +kernel)
set_option maxRecDepth 20000 in
theorem gX4_passOneDay_X0_count : GoodIn wsX4_passOneDay (wsV RX4 119 RX0 yX0_count wsX0_count) := goodIn_app (goodIn_of _ (by decide +kernel)) ggX4_passOneDay_X0_count
set_option maxRecDepth 20000 in
theorem ggX4_passOneDay_X0_isNextDue : GoodIn wsX4_passOneDay wsX0_isNextDue := goodIn_r _ [15, 11, 16, 137, 138] (by decide +kernel) (by decide +kernel)
set_option maxRecDepth 20000 in
theorem gX4_passOneDay_X0_isNextDue : GoodIn wsX4_passOneDay (wsV RX4 225 RX0 yX0_isNextDue wsX0_isNextDue) := goodIn_app (goodIn_of _ (by decide +kernel)) ggX4_passOneDay_X0_isNextDue
set_option maxRecDepth 20000 in
theorem ggX4_passOneDay_X0_takeNext : GoodIn wsX4_passOneDay wsX0_takeNext := goodIn_r _ [20, 11, 16, 137, 138] (by decide +kernel) (by decide +kernel)
set_option maxRecDepth 20000 in
theorem gX4_passOneDay_X0_takeNext : GoodIn wsX4_passOneDay (wsV RX4 228 RX0 yX0_takeNext wsX0_takeNext) := goodIn_app (goodIn_of _ (by decide +kernel)) ggX4_passOneDay_X0_takeNext
set_option maxRecDepth 20000 in
theorem ggX4_passOneDay_X4_happen : GoodIn wsX4_passOneDay wsX4_happen := goodIn_r _ [25, 4, 5, 26, 27, 9, 28, 29, 30, 31, 32, 33, 34, 35, 36, 37, 38, 39, 40, 41, 24, 42, 43, 44, 45, 46, 47, 48, 49, 50, 51, 52, 53, 54, 55, 56, 57, 58, 59, 60, 61, 62, 63, 64, 65, 127, 128, 129, 130, 131, 132, 133, 134, 135, 136, 139, 140, 141, 142, 143, 144, 145, 146, 147, 148, 149, 150, 151, 152, 153] (by decide +kernel) (by decide +kernel)
set_option maxRecDepth 20000 in
theorem gX4_passOneDay_X4_happen : GoodIn wsX4_passOneDay (wsV RX4 231 RX4 yX4_happen wsX4_happen) := goodIn_app (goodIn_of _ (by decide +kernel)) ggX4_passOneDay_X4_happen
set_option maxRecDepth 20000 in
theorem ggX4_passOneDay_X1_run : GoodIn wsX4_passOneDay wsX1_run := goodIn_r _ [69, 70, 71, 40, 54, 72, 73, 36, 37, 38, 39, 41, 24, 42, 43, 44, 45, 46, 47, 48, 49, 139, 140, 141, 142, 143, 144] (by decide +kernel) (by decide +kernel)
set_option maxRecDepth 20000 in
theorem gX4_passOneDay_X1_run : GoodIn wsX4_passOneDay (wsV RX4 235 RX1 yX1_run wsX1_run) := goodIn_app (goodIn_of _ (by decide +kernel)) ggX4_passOneDay_X1_run
set_option maxRecDepth 20000 in
theorem ggX4_passOneDay_X2_measureAll : GoodIn wsX4_passOneDay wsX2_measureAll := goodIn_r _ [77, 78, 79, 80, 81, 60, 65, 82, 83, 84, 38, 85, 71, 145, 146, 147, 148, 149, 150, 151, 152, 153, 139, 140, 141, 142, 143, 144] (by decide +kernel) (by decide +kernel)
set_option maxRecDepth 20000 in
theorem gX4_passOneDay_X2_measureAll : GoodIn wsX4_passOneDay (wsV RX4 238 RX2 yX2_measureAll wsX2_measureAll) := goodIn_app (goodIn_of _ (by decide +kernel)) ggX4_passOneDay_X2_measureAll
set_option maxRecDepth 20000 in
theorem ggX4_passOneDay_X4_steered : GoodIn wsX4_passOneDay wsX4_steered := goodIn_r _ [89, 90, 91, 92, 93, 24, 94, 4, 5, 95, 96, 97, 38, 98, 70, 99, 100, 101, 102, 103, 104, 105, 106, 58, 107, 78, 108, 109, 110, 111, 79, 80, 112, 113, 114, 115, 116, 117, 118, 119, 120, 121, 122, 123, 124, 81, 125, 126, 41, 42, 43, 44, 45, 46, 47, 48, 49, 127, 128, 129, 130, 131, 132, 133, 134, 135, 136, 139, 140, 141, 142, 143, 144, 145, 146, 147, 148, 149, 150, 151, 152, 153] (by decide +kernel) (by decide +kernel)
set_option maxRecDepth 20000 in
theorem gX4_passOneDay_X4_steered : GoodIn wsX4_passOneDay (wsV RX4 242 RX4 yX4_steered wsX4_steered) := goodIn_app (goodIn_of _ (by decide +kernel)) ggX4_passOneDay_X4_steered
theorem dX4_passOneDay_0 : decode cX4_passOneDay 0 = .ok (.aload_n 0, 1) := by decide +kernel
theorem dX4_passOneDay_1 : decode cX4_passOneDay 1 = .ok (.getfield 37, 3) := by decide +kernel
theorem dX4_passOneDay_4 : decode cX4_passOneDay 4 = .ok (.aload_n 0, 1) := by decide +kernel
theorem dX4_passOneDay_5 : decode cX4_passOneDay 5 = .ok (.getfield 45, 3) := by decide +kernel
theorem dX4_passOneDay_8 : decode cX4_passOneDay 8 = .ok (.iaload, 1) := by decide +kernel
theorem dX4_passOneDay_9 : decode cX4_passOneDay 9 = .ok (.istore_n 1, 1) := by decide +kernel
theorem dX4_passOneDay_10 : decode cX4_passOneDay 10 = .ok (.aload_n 0, 1) := by decide +kernel
theorem dX4_passOneDay_11 : decode cX4_passOneDay 11 = .ok (.dup, 1) := by decide +kernel
theorem dX4_passOneDay_12 : decode cX4_passOneDay 12 = .ok (.getfield 45, 3) := by decide +kernel
theorem dX4_passOneDay_15 : decode cX4_passOneDay 15 = .ok (.iconst 1, 1) := by decide +kernel
theorem dX4_passOneDay_16 : decode cX4_passOneDay 16 = .ok (.iadd, 1) := by decide +kernel
theorem dX4_passOneDay_17 : decode cX4_passOneDay 17 = .ok (.putfield 45, 3) := by decide +kernel
theorem dX4_passOneDay_20 : decode cX4_passOneDay 20 = .ok (.aload_n 0, 1) := by decide +kernel
theorem dX4_passOneDay_21 : decode cX4_passOneDay 21 = .ok (.getfield 26, 3) := by decide +kernel
theorem dX4_passOneDay_24 : decode cX4_passOneDay 24 = .ok (.invokevirtual 119, 3) := by decide +kernel
theorem dX4_passOneDay_27 : decode cX4_passOneDay 27 = .ok (.istore_n 2, 1) := by decide +kernel
theorem dX4_passOneDay_28 : decode cX4_passOneDay 28 = .ok (.iload_n 2, 1) := by decide +kernel
theorem dX4_passOneDay_29 : decode cX4_passOneDay 29 = .ok (.ifCond .le 34, 3) := by decide +kernel
theorem dX4_passOneDay_32 : decode cX4_passOneDay 32 = .ok (.aload_n 0, 1) := by decide +kernel
theorem dX4_passOneDay_33 : decode cX4_passOneDay 33 = .ok (.getfield 26, 3) := by decide +kernel
theorem dX4_passOneDay_36 : decode cX4_passOneDay 36 = .ok (.aload_n 0, 1) := by decide +kernel
theorem dX4_passOneDay_37 : decode cX4_passOneDay 37 = .ok (.getfield 45, 3) := by decide +kernel
theorem dX4_passOneDay_40 : decode cX4_passOneDay 40 = .ok (.invokevirtual 225, 3) := by decide +kernel
theorem dX4_passOneDay_43 : decode cX4_passOneDay 43 = .ok (.ifCond .eq 20, 3) := by decide +kernel
theorem dX4_passOneDay_46 : decode cX4_passOneDay 46 = .ok (.aload_n 0, 1) := by decide +kernel
theorem dX4_passOneDay_47 : decode cX4_passOneDay 47 = .ok (.aload_n 0, 1) := by decide +kernel
theorem dX4_passOneDay_48 : decode cX4_passOneDay 48 = .ok (.getfield 26, 3) := by decide +kernel
theorem dX4_passOneDay_51 : decode cX4_passOneDay 51 = .ok (.invokevirtual 228, 3) := by decide +kernel
theorem dX4_passOneDay_54 : decode cX4_passOneDay 54 = .ok (.invokevirtual 231, 3) := by decide +kernel
theorem dX4_passOneDay_57 : decode cX4_passOneDay 57 = .ok (.iinc 2 (-1), 3) := by decide +kernel
theorem dX4_passOneDay_60 : decode cX4_passOneDay 60 = .ok (.goto (-32), 3) := by decide +kernel
theorem dX4_passOneDay_63 : decode cX4_passOneDay 63 = .ok (.aload_n 0, 1) := by decide +kernel
theorem dX4_passOneDay_64 : decode cX4_passOneDay 64 = .ok (.getfield 10, 3) := by decide +kernel
theorem dX4_passOneDay_67 : decode cX4_passOneDay 67 = .ok (.aload_n 0, 1) := by decide +kernel
theorem dX4_passOneDay_68 : decode cX4_passOneDay 68 = .ok (.getfield 45, 3) := by decide +kernel
theorem dX4_passOneDay_71 : decode cX4_passOneDay 71 = .ok (.invokevirtual 235, 3) := by decide +kernel
theorem dX4_passOneDay_74 : decode cX4_passOneDay 74 = .ok (.aload_n 0, 1) := by decide +kernel
theorem dX4_passOneDay_75 : decode cX4_passOneDay 75 = .ok (.getfield 19, 3) := by decide +kernel
theorem dX4_passOneDay_78 : decode cX4_passOneDay 78 = .ok (.aload_n 0, 1) := by decide +kernel
theorem dX4_passOneDay_79 : decode cX4_passOneDay 79 = .ok (.getfield 10, 3) := by decide +kernel
theorem dX4_passOneDay_82 : decode cX4_passOneDay 82 = .ok (.aload_n 0, 1) := by decide +kernel
theorem dX4_passOneDay_83 : decode cX4_passOneDay 83 = .ok (.getfield 45, 3) := by decide +kernel
theorem dX4_passOneDay_86 : decode cX4_passOneDay 86 = .ok (.invokevirtual 238, 3) := by decide +kernel
theorem dX4_passOneDay_89 : decode cX4_passOneDay 89 = .ok (.aload_n 0, 1) := by decide +kernel
theorem dX4_passOneDay_90 : decode cX4_passOneDay 90 = .ok (.getfield 37, 3) := by decide +kernel
theorem dX4_passOneDay_93 : decode cX4_passOneDay 93 = .ok (.aload_n 0, 1) := by decide +kernel
theorem dX4_passOneDay_94 : decode cX4_passOneDay 94 = .ok (.getfield 45, 3) := by decide +kernel
theorem dX4_passOneDay_97 : decode cX4_passOneDay 97 = .ok (.aload_n 0, 1) := by decide +kernel
theorem dX4_passOneDay_98 : decode cX4_passOneDay 98 = .ok (.iload_n 1, 1) := by decide +kernel
theorem dX4_passOneDay_99 : decode cX4_passOneDay 99 = .ok (.aload_n 0, 1) := by decide +kernel
theorem dX4_passOneDay_100 : decode cX4_passOneDay 100 = .ok (.getfield 45, 3) := by decide +kernel
theorem dX4_passOneDay_103 : decode cX4_passOneDay 103 = .ok (.invokevirtual 242, 3) := by decide +kernel
theorem dX4_passOneDay_106 : decode cX4_passOneDay 106 = .ok (.iastore, 1) := by decide +kernel
theorem dX4_passOneDay_107 : decode cX4_passOneDay 107 = .ok (.return_, 1) := by decide +kernel
set_option maxRecDepth 20000 in
theorem ggX4_happen_X0_numberOf : GoodIn wsX4_happen wsX0_numberOf := goodIn_r _ [6] (by decide +kernel) (by decide +kernel)
set_option maxRecDepth 20000 in
theorem gX4_happen_X0_numberOf : GoodIn wsX4_happen (va_wsS RX4 245 yX0_numberOf wsX0_numberOf) := goodIn_app (goodIn_of _ (by decide +kernel)) ggX4_happen_X0_numberOf
set_option maxRecDepth 20000 in
theorem ggX4_happen_X0_amountOf : GoodIn wsX4_happen wsX0_amountOf := goodIn_r _ [9] (by decide +kernel) (by decide +kernel)
set_option maxRecDepth 20000 in
theorem gX4_happen_X0_amountOf : GoodIn wsX4_happen (va_wsS RX4 248 yX0_amountOf wsX0_amountOf) := goodIn_app (goodIn_of _ (by decide +kernel)) ggX4_happen_X0_amountOf
set_option maxRecDepth 20000 in
theorem ggX4_happen_X0_kindOf : GoodIn wsX4_happen wsX0_kindOf := goodIn_r _ [12] (by decide +kernel) (by decide +kernel)
set_option maxRecDepth 20000 in
theorem gX4_happen_X0_kindOf : GoodIn wsX4_happen (va_wsS RX4 251 yX0_kindOf wsX0_kindOf) := goodIn_app (goodIn_of _ (by decide +kernel)) ggX4_happen_X0_kindOf
set_option maxRecDepth 20000 in
theorem ggX4_happen_X1_addToRate : GoodIn wsX4_happen wsX1_addToRate := goodIn_r _ [17, 18, 19, 20, 21, 22, 23, 24, 25, 26, 27, 28, 55, 56, 57, 58, 59, 60] (by decide +kernel) (by decide +kernel)
set_option maxRecDepth 20000 in
theorem gX4_happen_X1_addToRate : GoodIn wsX4_happen (wsV RX4 254 RX1 yX1_addToRate wsX1_addToRate) := goodIn_app (goodIn_of _ (by decide +kernel)) ggX4_happen_X1_addToRate
set_option maxRecDepth 20000 in
theorem ggX4_happen_X1_setHeight : GoodIn wsX4_happen wsX1_setHeight := goodIn_r _ [32, 33, 55, 56, 57, 58, 59, 60] (by decide +kernel) (by decide +kernel)
set_option maxRecDepth 20000 in
theorem gX4_happen_X1_setHeight : GoodIn wsX4_happen (wsV RX4 258 RX1 yX1_setHeight wsX1_setHeight) := goodIn_app (goodIn_of _ (by decide +kernel)) ggX4_happen_X1_setHeight
set_option maxRecDepth 20000 in
theorem ggX4_happen_X2_setAsymmetry : GoodIn wsX4_happen wsX2_setAsymmetry := goodIn_r _ [38, 39, 61, 62, 63, 64, 65, 66, 67, 68, 69] (by decide +kernel) (by decide +kernel)
set_option maxRecDepth 20000 in
theorem gX4_happen_X2_setAsymmetry : GoodIn wsX4_happen (wsV RX4 261 RX2 yX2_setAsymmetry wsX2_setAsymmetry) := goodIn_app (goodIn_of _ (by decide +kernel)) ggX4_happen_X2_setAsymmetry
set_option maxRecDepth 20000 in
theorem ggX4_happen_X2_addCycles : GoodIn wsX4_happen wsX2_addCycles := goodIn_r _ [43, 44, 61, 62, 63, 64, 65, 66, 67, 68, 69] (by decide +kernel) (by decide +kernel)
set_option maxRecDepth 20000 in
theorem gX4_happen_X2_addCycles : GoodIn wsX4_happen (wsV RX4 264 RX2 yX2_addCycles wsX2_addCycles) := goodIn_app (goodIn_of _ (by decide +kernel)) ggX4_happen_X2_addCycles
theorem dX4_happen_0 : decode cX4_happen 0 = .ok (.iload_n 1, 1) := by decide +kernel
theorem dX4_happen_1 : decode cX4_happen 1 = .ok (.invokestatic 245, 3) := by decide +kernel
theorem dX4_happen_4 : decode cX4_happen 4 = .ok (.istore_n 2, 1) := by decide +kernel
theorem dX4_happen_5 : decode cX4_happen 5 = .ok (.iload_n 1, 1) := by decide +kernel
theorem dX4_happen_6 : decode cX4_happen 6 = .ok (.invokestatic 248, 3) := by decide +kernel
theorem dX4_happen_9 : decode cX4_happen 9 = .ok (.istore_n 3, 1) := by decide +kernel
theorem dX4_happen_10 : decode cX4_happen 10 = .ok (.iload_n 1, 1) := by decide +kernel
theorem dX4_happen_11 : decode cX4_happen 11 = .ok (.invokestatic 251, 3) := by decide +kernel
theorem dX4_happen_14 : decode cX4_happen 14 = .ok (.tableswitch 62 0 2 #[26, 38, 50], 26) := by decide +kernel
theorem dX4_happen_40 : decode cX4_happen 40 = .ok (.aload_n 0, 1) := by decide +kernel
theorem dX4_happen_41 : decode cX4_happen 41 = .ok (.getfield 10, 3) := by decide +kernel
theorem dX4_happen_44 : decode cX4_happen 44 = .ok (.iload_n 2, 1) := by decide +kernel
theorem dX4_happen_45 : decode cX4_happen 45 = .ok (.iload_n 3, 1) := by decide +kernel
theorem dX4_happen_46 : decode cX4_happen 46 = .ok (.invokevirtual 254, 3) := by decide +kernel
theorem dX4_happen_49 : decode cX4_happen 49 = .ok (.goto 36, 3) := by decide +kernel
theorem dX4_happen_52 : decode cX4_happen 52 = .ok (.aload_n 0, 1) := by decide +kernel
theorem dX4_happen_53 : decode cX4_happen 53 = .ok (.getfield 10, 3) := by decide +kernel
theorem dX4_happen_56 : decode cX4_happen 56 = .ok (.iload_n 2, 1) := by decide +kernel
theorem dX4_happen_57 : decode cX4_happen 57 = .ok (.iload_n 3, 1) := by decide +kernel
theorem dX4_happen_58 : decode cX4_happen 58 = .ok (.invokevirtual 258, 3) := by decide +kernel
theorem dX4_happen_61 : decode cX4_happen 61 = .ok (.goto 24, 3) := by decide +kernel
theorem dX4_happen_64 : decode cX4_happen 64 = .ok (.aload_n 0, 1) := by decide +kernel
theorem dX4_happen_65 : decode cX4_happen 65 = .ok (.getfield 19, 3) := by decide +kernel
theorem dX4_happen_68 : decode cX4_happen 68 = .ok (.iload_n 2, 1) := by decide +kernel
theorem dX4_happen_69 : decode cX4_happen 69 = .ok (.iload_n 3, 1) := by decide +kernel
theorem dX4_happen_70 : decode cX4_happen 70 = .ok (.invokevirtual 261, 3) := by decide +kernel
theorem dX4_happen_73 : decode cX4_happen 73 = .ok (.goto 12, 3) := by decide +kernel
theorem dX4_happen_76 : decode cX4_happen 76 = .ok (.aload_n 0, 1) := by decide +kernel
theorem dX4_happen_77 : decode cX4_happen 77 = .ok (.getfield 19, 3) := by decide +kernel
theorem dX4_happen_80 : decode cX4_happen 80 = .ok (.iload_n 2, 1) := by decide +kernel
theorem dX4_happen_81 : decode cX4_happen 81 = .ok (.iload_n 3, 1) := by decide +kernel
theorem dX4_happen_82 : decode cX4_happen 82 = .ok (.invokevirtual 264, 3) := by decide +kernel
theorem dX4_happen_85 : decode cX4_happen 85 = .ok (.return_, 1) := by decide +kernel
theorem dX4_housesFor_0 : decode cX4_housesFor 0 = .ok (.iconst 0, 1) := by decide +kernel
theorem dX4_housesFor_1 : decode cX4_housesFor 1 = .ok (.istore_n 1, 1) := by decide +kernel
theorem dX4_housesFor_2 : decode cX4_housesFor 2 = .ok (.iconst 0, 1) := by decide +kernel
theorem dX4_housesFor_3 : decode cX4_housesFor 3 = .ok (.istore_n 2, 1) := by decide +kernel
theorem dX4_housesFor_4 : decode cX4_housesFor 4 = .ok (.iload_n 2, 1) := by decide +kernel
theorem dX4_housesFor_5 : decode cX4_housesFor 5 = .ok (.bipush 7, 2) := by decide +kernel
theorem dX4_housesFor_7 : decode cX4_housesFor 7 = .ok (.if_icmp .ge 21, 3) := by decide +kernel
theorem dX4_housesFor_10 : decode cX4_housesFor 10 = .ok (.aload_n 0, 1) := by decide +kernel
theorem dX4_housesFor_11 : decode cX4_housesFor 11 = .ok (.getfield 41, 3) := by decide +kernel
theorem dX4_housesFor_14 : decode cX4_housesFor 14 = .ok (.iload_n 2, 1) := by decide +kernel
theorem dX4_housesFor_15 : decode cX4_housesFor 15 = .ok (.baload, 1) := by decide +kernel
theorem dX4_housesFor_16 : decode cX4_housesFor 16 = .ok (.ifCond .eq 6, 3) := by decide +kernel
theorem dX4_housesFor_19 : decode cX4_housesFor 19 = .ok (.iinc 1 1, 3) := by decide +kernel
theorem dX4_housesFor_22 : decode cX4_housesFor 22 = .ok (.iinc 2 1, 3) := by decide +kernel
theorem dX4_housesFor_25 : decode cX4_housesFor 25 = .ok (.goto (-21), 3) := by decide +kernel
theorem dX4_housesFor_28 : decode cX4_housesFor 28 = .ok (.iload_n 1, 1) := by decide +kernel
theorem dX4_housesFor_29 : decode cX4_housesFor 29 = .ok (.ireturn, 1) := by decide +kernel
set_option maxRecDepth 20000 in
theorem ggX4_openRings_X3_gather : GoodIn wsX4_openRings wsX3_gather := goodIn_r _ [8, 9, 10, 11, 12, 13, 14, 15, 16, 17, 18, 19, 20, 21, 22, 23, 24, 7, 25, 26, 27, 28, 29, 30, 31, 32, 33, 34, 35, 36, 37, 38, 39, 40, 41, 42, 43, 44, 45, 46, 47, 48, 49, 50, 51, 52, 53, 54, 55, 56, 57, 58, 59, 60, 79, 80, 81, 82, 83, 84, 85, 86, 87, 88, 89, 90, 91, 92, 93, 94, 95, 96, 97, 98, 99] (by decide +kernel) (by decide +kernel)
set_option maxRecDepth 20000 in
theorem gX4_openRings_X3_gather : GoodIn wsX4_openRings (wsV RX4 201 RX3 yX3_gather wsX3_gather) := goodIn_app (goodIn_of _ (by decide +kernel)) ggX4_openRings_X3_gather
set_option maxRecDepth 20000 in
theorem ggX4_openRings_X3_countOpen : GoodIn wsX4_openRings wsX3_countOpen := goodIn_r _ [64, 9, 45, 65, 66, 67, 68, 79, 80, 81, 82, 83, 84, 85, 86, 87, 88, 89, 90] (by decide +kernel) (by decide +kernel)
set_option maxRecDepth 20000 in
theorem gX4_openRings_X3_countOpen : GoodIn wsX4_openRings (wsV RX4 267 RX3 yX3_countOpen wsX3_countOpen) := goodIn_app (goodIn_of _ (by decide +kernel)) ggX4_openRings_X3_countOpen
theorem dX4_openRings_0 : decode cX4_openRings 0 = .ok (.aload_n 0, 1) := by decide +kernel
theorem dX4_openRings_1 : decode cX4_openRings 1 = .ok (.getfield 33, 3) := by decide +kernel
theorem dX4_openRings_4 : decode cX4_openRings 4 = .ok (.aload_n 0, 1) := by decide +kernel
theorem dX4_openRings_5 : decode cX4_openRings 5 = .ok (.getfield 19, 3) := by decide +kernel
theorem dX4_openRings_8 : decode cX4_openRings 8 = .ok (.iload_n 1, 1) := by decide +kernel
theorem dX4_openRings_9 : decode cX4_openRings 9 = .ok (.invokevirtual 201, 3) := by decide +kernel
theorem dX4_openRings_12 : decode cX4_openRings 12 = .ok (.aload_n 0, 1) := by decide +kernel
theorem dX4_openRings_13 : decode cX4_openRings 13 = .ok (.getfield 33, 3) := by decide +kernel
theorem dX4_openRings_16 : decode cX4_openRings 16 = .ok (.aload_n 0, 1) := by decide +kernel
theorem dX4_openRings_17 : decode cX4_openRings 17 = .ok (.getfield 49, 3) := by decide +kernel
theorem dX4_openRings_20 : decode cX4_openRings 20 = .ok (.invokevirtual 267, 3) := by decide +kernel
theorem dX4_openRings_23 : decode cX4_openRings 23 = .ok (.ireturn, 1) := by decide +kernel
set_option maxRecDepth 20000 in
theorem ggX4_meanOrZero_X1_count : GoodIn wsX4_meanOrZero wsX1_count := goodIn_r _ [7, 8, 51, 52, 53, 54, 55, 56] (by decide +kernel) (by decide +kernel)
set_option maxRecDepth 20000 in
theorem gX4_meanOrZero_X1_count : GoodIn wsX4_meanOrZero (wsV RX4 70 RX1 yX1_count wsX1_count) := goodIn_app (goodIn_of _ (by decide +kernel)) ggX4_meanOrZero_X1_count
set_option maxRecDepth 20000 in
theorem ggX4_meanOrZero_X1_weightOf : GoodIn wsX4_meanOrZero wsX1_weightOf := goodIn_r _ [12, 13, 51, 52, 53, 54, 55, 56] (by decide +kernel) (by decide +kernel)
set_option maxRecDepth 20000 in
theorem gX4_meanOrZero_X1_weightOf : GoodIn wsX4_meanOrZero (wsV RX4 94 RX1 yX1_weightOf wsX1_weightOf) := goodIn_app (goodIn_of _ (by decide +kernel)) ggX4_meanOrZero_X1_weightOf
set_option maxRecDepth 20000 in
theorem ggX4_meanOrZero_X2_count : GoodIn wsX4_meanOrZero wsX2_count := goodIn_r _ [18, 19, 57, 58, 59, 60, 61, 62, 63, 64, 65] (by decide +kernel) (by decide +kernel)
set_option maxRecDepth 20000 in
theorem gX4_meanOrZero_X2_count : GoodIn wsX4_meanOrZero (wsV RX4 104 RX2 yX2_count wsX2_count) := goodIn_app (goodIn_of _ (by decide +kernel)) ggX4_meanOrZero_X2_count
set_option maxRecDepth 20000 in
theorem ggX4_meanOrZero_X2_otherThanZero : GoodIn wsX4_meanOrZero wsX2_otherThanZero := goodIn_r _ [23, 24, 25, 57, 58, 59, 60, 61, 62, 63, 64, 65] (by decide +kernel) (by decide +kernel)
set_option maxRecDepth 20000 in
theorem gX4_meanOrZero_X2_otherThanZero : GoodIn wsX4_meanOrZero (wsV RX4 270 RX2 yX2_otherThanZero wsX2_otherThanZero) := goodIn_app (goodIn_of _ (by decide +kernel)) ggX4_meanOrZero_X2_otherThanZero
set_option maxRecDepth 20000 in
theorem ggX4_meanOrZero_X2_isLaidBefore : GoodIn wsX4_meanOrZero wsX2_isLaidBefore := goodIn_r _ [29, 30, 57, 58, 59, 60, 61, 62, 63, 64, 65] (by decide +kernel) (by decide +kernel)
set_option maxRecDepth 20000 in
theorem gX4_meanOrZero_X2_isLaidBefore : GoodIn wsX4_meanOrZero (wsV RX4 222 RX2 yX2_isLaidBefore wsX2_isLaidBefore) := goodIn_app (goodIn_of _ (by decide +kernel)) ggX4_meanOrZero_X2_isLaidBefore
set_option maxRecDepth 20000 in
theorem ggX4_meanOrZero_X2_aheadOfZero : GoodIn wsX4_meanOrZero wsX2_aheadOfZero := goodIn_r _ [34, 24, 35, 36, 37, 17, 38, 39, 40, 57, 58, 59, 60, 61, 62, 63, 64, 65] (by decide +kernel) (by decide +kernel)
set_option maxRecDepth 20000 in
theorem gX4_meanOrZero_X2_aheadOfZero : GoodIn wsX4_meanOrZero (wsV RX4 273 RX2 yX2_aheadOfZero wsX2_aheadOfZero) := goodIn_app (goodIn_of _ (by decide +kernel)) ggX4_meanOrZero_X2_aheadOfZero
theorem dX4_meanOrZero_0 : decode cX4_meanOrZero 0 = .ok (.aload_n 0, 1) := by decide +kernel
theorem dX4_meanOrZero_1 : decode cX4_meanOrZero 1 = .ok (.getfield 10, 3) := by decide +kernel
theorem dX4_meanOrZero_4 : decode cX4_meanOrZero 4 = .ok (.invokevirtual 70, 3) := by decide +kernel
theorem dX4_meanOrZero_7 : decode cX4_meanOrZero 7 = .ok (.ifCond .ne 5, 3) := by decide +kernel
theorem dX4_meanOrZero_10 : decode cX4_meanOrZero 10 = .ok (.iconst 0, 1) := by decide +kernel
theorem dX4_meanOrZero_11 : decode cX4_meanOrZero 11 = .ok (.ireturn, 1) := by decide +kernel
theorem dX4_meanOrZero_12 : decode cX4_meanOrZero 12 = .ok (.aload_n 0, 1) := by decide +kernel
theorem dX4_meanOrZero_13 : decode cX4_meanOrZero 13 = .ok (.getfield 10, 3) := by decide +kernel
theorem dX4_meanOrZero_16 : decode cX4_meanOrZero 16 = .ok (.iconst 0, 1) := by decide +kernel
theorem dX4_meanOrZero_17 : decode cX4_meanOrZero 17 = .ok (.invokevirtual 94, 3) := by decide +kernel
theorem dX4_meanOrZero_20 : decode cX4_meanOrZero 20 = .ok (.i2l, 1) := by decide +kernel
theorem dX4_meanOrZero_21 : decode cX4_meanOrZero 21 = .ok (.lstore_n 2, 1) := by decide +kernel
theorem dX4_meanOrZero_22 : decode cX4_meanOrZero 22 = .ok (.lconst 0, 1) := by decide +kernel
theorem dX4_meanOrZero_23 : decode cX4_meanOrZero 23 = .ok (.lstore 4, 2) := by decide +kernel
theorem dX4_meanOrZero_25 : decode cX4_meanOrZero 25 = .ok (.iconst 1, 1) := by decide +kernel
theorem dX4_meanOrZero_26 : decode cX4_meanOrZero 26 = .ok (.istore 6, 2) := by decide +kernel
theorem dX4_meanOrZero_28 : decode cX4_meanOrZero 28 = .ok (.iconst 0, 1) := by decide +kernel
theorem dX4_meanOrZero_29 : decode cX4_meanOrZero 29 = .ok (.istore 7, 2) := by decide +kernel
theorem dX4_meanOrZero_31 : decode cX4_meanOrZero 31 = .ok (.iload 7, 2) := by decide +kernel
theorem dX4_meanOrZero_33 : decode cX4_meanOrZero 33 = .ok (.aload_n 0, 1) := by decide +kernel
theorem dX4_meanOrZero_34 : decode cX4_meanOrZero 34 = .ok (.getfield 19, 3) := by decide +kernel
theorem dX4_meanOrZero_37 : decode cX4_meanOrZero 37 = .ok (.invokevirtual 104, 3) := by decide +kernel
theorem dX4_meanOrZero_40 : decode cX4_meanOrZero 40 = .ok (.if_icmp .ge 98, 3) := by decide +kernel
theorem dX4_meanOrZero_43 : decode cX4_meanOrZero 43 = .ok (.aload_n 0, 1) := by decide +kernel
theorem dX4_meanOrZero_44 : decode cX4_meanOrZero 44 = .ok (.getfield 19, 3) := by decide +kernel
theorem dX4_meanOrZero_47 : decode cX4_meanOrZero 47 = .ok (.iload 7, 2) := by decide +kernel
theorem dX4_meanOrZero_49 : decode cX4_meanOrZero 49 = .ok (.invokevirtual 270, 3) := by decide +kernel
theorem dX4_meanOrZero_52 : decode cX4_meanOrZero 52 = .ok (.istore 8, 2) := by decide +kernel
theorem dX4_meanOrZero_54 : decode cX4_meanOrZero 54 = .ok (.iload 8, 2) := by decide +kernel
theorem dX4_meanOrZero_56 : decode cX4_meanOrZero 56 = .ok (.iconst (-1), 1) := by decide +kernel
theorem dX4_meanOrZero_57 : decode cX4_meanOrZero 57 = .ok (.if_icmp .eq 75, 3) := by decide +kernel
theorem dX4_meanOrZero_60 : decode cX4_meanOrZero 60 = .ok (.iload 6, 2) := by decide +kernel
theorem dX4_meanOrZero_62 : decode cX4_meanOrZero 62 = .ok (.iload 8, 2) := by decide +kernel
theorem dX4_meanOrZero_64 : decode cX4_meanOrZero 64 = .ok (.ishr, 1) := by decide +kernel
theorem dX4_meanOrZero_65 : decode cX4_meanOrZero 65 = .ok (.iconst 1, 1) := by decide +kernel
theorem dX4_meanOrZero_66 : decode cX4_meanOrZero 66 = .ok (.iand, 1) := by decide +kernel
theorem dX4_meanOrZero_67 : decode cX4_meanOrZero 67 = .ok (.ifCond .ne 65, 3) := by decide +kernel
theorem dX4_meanOrZero_70 : decode cX4_meanOrZero 70 = .ok (.aload_n 0, 1) := by decide +kernel
theorem dX4_meanOrZero_71 : decode cX4_meanOrZero 71 = .ok (.getfield 19, 3) := by decide +kernel
theorem dX4_meanOrZero_74 : decode cX4_meanOrZero 74 = .ok (.iload 7, 2) := by decide +kernel
theorem dX4_meanOrZero_76 : decode cX4_meanOrZero 76 = .ok (.iload_n 1, 1) := by decide +kernel
theorem dX4_meanOrZero_77 : decode cX4_meanOrZero 77 = .ok (.invokevirtual 222, 3) := by decide +kernel
theorem dX4_meanOrZero_80 : decode cX4_meanOrZero 80 = .ok (.ifCond .eq 52, 3) := by decide +kernel
theorem dX4_meanOrZero_83 : decode cX4_meanOrZero 83 = .ok (.iload 6, 2) := by decide +kernel
theorem dX4_meanOrZero_85 : decode cX4_meanOrZero 85 = .ok (.iconst 1, 1) := by decide +kernel
theorem dX4_meanOrZero_86 : decode cX4_meanOrZero 86 = .ok (.iload 8, 2) := by decide +kernel
theorem dX4_meanOrZero_88 : decode cX4_meanOrZero 88 = .ok (.ishl, 1) := by decide +kernel
theorem dX4_meanOrZero_89 : decode cX4_meanOrZero 89 = .ok (.ior, 1) := by decide +kernel
theorem dX4_meanOrZero_90 : decode cX4_meanOrZero 90 = .ok (.istore 6, 2) := by decide +kernel
theorem dX4_meanOrZero_92 : decode cX4_meanOrZero 92 = .ok (.lload_n 2, 1) := by decide +kernel
theorem dX4_meanOrZero_93 : decode cX4_meanOrZero 93 = .ok (.aload_n 0, 1) := by decide +kernel
theorem dX4_meanOrZero_94 : decode cX4_meanOrZero 94 = .ok (.getfield 10, 3) := by decide +kernel
theorem dX4_meanOrZero_97 : decode cX4_meanOrZero 97 = .ok (.iload 8, 2) := by decide +kernel
theorem dX4_meanOrZero_99 : decode cX4_meanOrZero 99 = .ok (.invokevirtual 94, 3) := by decide +kernel
theorem dX4_meanOrZero_102 : decode cX4_meanOrZero 102 = .ok (.i2l, 1) := by decide +kernel
theorem dX4_meanOrZero_103 : decode cX4_meanOrZero 103 = .ok (.ladd, 1) := by decide +kernel
theorem dX4_meanOrZero_104 : decode cX4_meanOrZero 104 = .ok (.lstore_n 2, 1) := by decide +kernel
theorem dX4_meanOrZero_105 : decode cX4_meanOrZero 105 = .ok (.lload 4, 2) := by decide +kernel
theorem dX4_meanOrZero_107 : decode cX4_meanOrZero 107 = .ok (.aload_n 0, 1) := by decide +kernel
theorem dX4_meanOrZero_108 : decode cX4_meanOrZero 108 = .ok (.getfield 10, 3) := by decide +kernel
theorem dX4_meanOrZero_111 : decode cX4_meanOrZero 111 = .ok (.iload 8, 2) := by decide +kernel
theorem dX4_meanOrZero_113 : decode cX4_meanOrZero 113 = .ok (.invokevirtual 94, 3) := by decide +kernel
theorem dX4_meanOrZero_116 : decode cX4_meanOrZero 116 = .ok (.i2l, 1) := by decide +kernel
theorem dX4_meanOrZero_117 : decode cX4_meanOrZero 117 = .ok (.aload_n 0, 1) := by decide +kernel
theorem dX4_meanOrZero_118 : decode cX4_meanOrZero 118 = .ok (.getfield 19, 3) := by decide +kernel
theorem dX4_meanOrZero_121 : decode cX4_meanOrZero 121 = .ok (.iload 7, 2) := by decide +kernel
theorem dX4_meanOrZero_123 : decode cX4_meanOrZero 123 = .ok (.iload_n 1, 1) := by decide +kernel
theorem dX4_meanOrZero_124 : decode cX4_meanOrZero 124 = .ok (.invokevirtual 273, 3) := by decide +kernel
theorem dX4_meanOrZero_127 : decode cX4_meanOrZero 127 = .ok (.i2l, 1) := by decide +kernel
theorem dX4_meanOrZero_128 : decode cX4_meanOrZero 128 = .ok (.lmul, 1) := by decide +kernel
theorem dX4_meanOrZero_129 : decode cX4_meanOrZero 129 = .ok (.ladd, 1) := by decide +kernel
theorem dX4_meanOrZero_130 : decode cX4_meanOrZero 130 = .ok (.lstore 4, 2) := by decide +kernel
theorem dX4_meanOrZero_132 : decode cX4_meanOrZero 132 = .ok (.iinc 7 1, 3) := by decide +kernel
theorem dX4_meanOrZero_135 : decode cX4_meanOrZero 135 = .ok (.goto (-104), 3) := by decide +kernel
theorem dX4_meanOrZero_138 : decode cX4_meanOrZero 138 = .ok (.lload_n 2, 1) := by decide +kernel
theorem dX4_meanOrZero_139 : decode cX4_meanOrZero 139 = .ok (.lconst 0, 1) := by decide +kernel
theorem dX4_meanOrZero_140 : decode cX4_meanOrZero 140 = .ok (.lcmp, 1) := by decide +kernel
theorem dX4_meanOrZero_141 : decode cX4_meanOrZero 141 = .ok (.ifCond .ne 7, 3) := by decide +kernel
theorem dX4_meanOrZero_144 : decode cX4_meanOrZero 144 = .ok (.iconst 0, 1) := by decide +kernel
theorem dX4_meanOrZero_145 : decode cX4_meanOrZero 145 = .ok (.goto 8, 3) := by decide +kernel
theorem dX4_meanOrZero_148 : decode cX4_meanOrZero 148 = .ok (.lload 4, 2) := by decide +kernel
theorem dX4_meanOrZero_150 : decode cX4_meanOrZero 150 = .ok (.lload_n 2, 1) := by decide +kernel
theorem dX4_meanOrZero_151 : decode cX4_meanOrZero 151 = .ok (.ldiv, 1) := by decide +kernel
theorem dX4_meanOrZero_152 : decode cX4_meanOrZero 152 = .ok (.l2i, 1) := by decide +kernel
theorem dX4_meanOrZero_153 : decode cX4_meanOrZero 153 = .ok (.ireturn, 1) := by decide +kernel
set_option maxRecDepth 20000 in
theorem ggX4_steered_X4_meanOrZero : GoodIn wsX4_steered wsX4_meanOrZero := goodIn_r _ [6, 7, 8, 9, 10, 11, 12, 13, 14, 15, 16, 17, 18, 19, 20, 21, 22, 23, 24, 25, 26, 27, 28, 29, 30, 31, 32, 33, 34, 35, 36, 37, 38, 39, 40, 41, 42, 43, 44, 45, 46, 57, 58, 59, 60, 61, 62, 63, 64, 65, 66, 67, 68, 69, 70, 71, 72, 73, 74, 75, 76, 77, 78, 79, 80, 81] (by decide +kernel) (by decide +kernel)
set_option maxRecDepth 20000 in
theorem gX4_steered_X4_meanOrZero : GoodIn wsX4_steered (wsV RX4 210 RX4 yX4_meanOrZero wsX4_meanOrZero) := goodIn_app (goodIn_of _ (by decide +kernel)) ggX4_steered_X4_meanOrZero
set_option maxRecDepth 20000 in
theorem ggX4_steered_X4_held : GoodIn wsX4_steered wsX4_held := goodIn_r _ [49, 50, 51, 52, 53, 54, 55, 56] (by decide +kernel) (by decide +kernel)
set_option maxRecDepth 20000 in
theorem gX4_steered_X4_held : GoodIn wsX4_steered (va_wsS RX4 276 yX4_held wsX4_held) := goodIn_app (goodIn_of _ (by decide +kernel)) ggX4_steered_X4_held
end
section
theorem dX4_steered_0 : decode cX4_steered 0 = .ok (.iload_n 1, 1) := by decide +kernel
theorem dX4_steered_1 : decode cX4_steered 1 = .ok (.aload_n 0, 1) := by decide +kernel
theorem dX4_steered_2 : decode cX4_steered 2 = .ok (.iload_n 2, 1) := by decide +kernel
theorem dX4_steered_3 : decode cX4_steered 3 = .ok (.invokevirtual 210, 3) := by decide +kernel
theorem dX4_steered_6 : decode cX4_steered 6 = .ok (.iload_n 1, 1) := by decide +kernel
theorem dX4_steered_7 : decode cX4_steered 7 = .ok (.isub, 1) := by decide +kernel
theorem dX4_steered_8 : decode cX4_steered 8 = .ok (.aload_n 0, 1) := by decide +kernel
theorem dX4_steered_9 : decode cX4_steered 9 = .ok (.getfield 52, 3) := by decide +kernel
theorem dX4_steered_12 : decode cX4_steered 12 = .ok (.invokestatic 276, 3) := by decide +kernel
theorem dX4_steered_15 : decode cX4_steered 15 = .ok (.iadd, 1) := by decide +kernel
theorem dX4_steered_16 : decode cX4_steered 16 = .ok (.ireturn, 1) := by decide +kernel
set_option maxRecDepth 20000 in
theorem ggX4_steeredAnew_X4_steered : GoodIn wsX4_steeredAnew wsX4_steered := goodIn_r _ [5, 6, 7, 8, 9, 4, 10, 11, 12, 13, 14, 15, 16, 17, 18, 19, 20, 21, 22, 23, 24, 25, 26, 27, 28, 29, 30, 31, 32, 33, 34, 35, 36, 37, 38, 39, 40, 41, 42, 43, 44, 45, 46, 47, 48, 49, 50, 51, 52, 53, 54, 55, 56, 57, 58, 59, 60, 61, 62, 63, 64, 65, 66, 67, 68, 69, 70, 71, 72, 73, 74, 75, 76, 77, 78, 79, 80, 81, 82, 83, 84, 85] (by decide +kernel) (by decide +kernel)
set_option maxRecDepth 20000 in
theorem gX4_steeredAnew_X4_steered : GoodIn wsX4_steeredAnew (wsV RX4 242 RX4 yX4_steered wsX4_steered) := goodIn_app (goodIn_of _ (by decide +kernel)) ggX4_steeredAnew_X4_steered
theorem dX4_steeredAnew_0 : decode cX4_steeredAnew 0 = .ok (.iconst 0, 1) := by decide +kernel
theorem dX4_steeredAnew_1 : decode cX4_steeredAnew 1 = .ok (.istore_n 2, 1) := by decide +kernel
theorem dX4_steeredAnew_2 : decode cX4_steeredAnew 2 = .ok (.iconst 1, 1) := by decide +kernel
theorem dX4_steeredAnew_3 : decode cX4_steeredAnew 3 = .ok (.istore_n 3, 1) := by decide +kernel
theorem dX4_steeredAnew_4 : decode cX4_steeredAnew 4 = .ok (.iload_n 3, 1) := by decide +kernel
theorem dX4_steeredAnew_5 : decode cX4_steeredAnew 5 = .ok (.iload_n 1, 1) := by decide +kernel
theorem dX4_steeredAnew_6 : decode cX4_steeredAnew 6 = .ok (.if_icmp .gt 16, 3) := by decide +kernel
theorem dX4_steeredAnew_9 : decode cX4_steeredAnew 9 = .ok (.aload_n 0, 1) := by decide +kernel
theorem dX4_steeredAnew_10 : decode cX4_steeredAnew 10 = .ok (.iload_n 2, 1) := by decide +kernel
theorem dX4_steeredAnew_11 : decode cX4_steeredAnew 11 = .ok (.iload_n 3, 1) := by decide +kernel
theorem dX4_steeredAnew_12 : decode cX4_steeredAnew 12 = .ok (.invokevirtual 242, 3) := by decide +kernel
theorem dX4_steeredAnew_15 : decode cX4_steeredAnew 15 = .ok (.istore_n 2, 1) := by decide +kernel
theorem dX4_steeredAnew_16 : decode cX4_steeredAnew 16 = .ok (.iinc 3 1, 3) := by decide +kernel
theorem dX4_steeredAnew_19 : decode cX4_steeredAnew 19 = .ok (.goto (-15), 3) := by decide +kernel
theorem dX4_steeredAnew_22 : decode cX4_steeredAnew 22 = .ok (.iload_n 2, 1) := by decide +kernel
theorem dX4_steeredAnew_23 : decode cX4_steeredAnew 23 = .ok (.ireturn, 1) := by decide +kernel
theorem dX5_init_0 : decode cX5_init 0 = .ok (.aload_n 0, 1) := by decide +kernel
theorem dX5_init_1 : decode cX5_init 1 = .ok (.invokespecial 1, 3) := by decide +kernel
theorem dX5_init_4 : decode cX5_init 4 = .ok (.aload_n 0, 1) := by decide +kernel
theorem dX5_init_5 : decode cX5_init 5 = .ok (.bipush 6, 2) := by decide +kernel
theorem dX5_init_7 : decode cX5_init 7 = .ok (.newarray .int, 2) := by decide +kernel
theorem dX5_init_9 : decode cX5_init 9 = .ok (.putfield 7, 3) := by decide +kernel
theorem dX5_init_12 : decode cX5_init 12 = .ok (.aload_n 0, 1) := by decide +kernel
theorem dX5_init_13 : decode cX5_init 13 = .ok (.bipush 6, 2) := by decide +kernel
theorem dX5_init_15 : decode cX5_init 15 = .ok (.newarray .int, 2) := by decide +kernel
theorem dX5_init_17 : decode cX5_init 17 = .ok (.putfield 13, 3) := by decide +kernel
theorem dX5_init_20 : decode cX5_init 20 = .ok (.aload_n 0, 1) := by decide +kernel
theorem dX5_init_21 : decode cX5_init 21 = .ok (.bipush 6, 2) := by decide +kernel
theorem dX5_init_23 : decode cX5_init 23 = .ok (.newarray .int, 2) := by decide +kernel
theorem dX5_init_25 : decode cX5_init 25 = .ok (.putfield 16, 3) := by decide +kernel
theorem dX5_init_28 : decode cX5_init 28 = .ok (.aload_n 0, 1) := by decide +kernel
theorem dX5_init_29 : decode cX5_init 29 = .ok (.bipush 6, 2) := by decide +kernel
theorem dX5_init_31 : decode cX5_init 31 = .ok (.newarray .int, 2) := by decide +kernel
theorem dX5_init_33 : decode cX5_init 33 = .ok (.putfield 19, 3) := by decide +kernel
theorem dX5_init_36 : decode cX5_init 36 = .ok (.aload_n 0, 1) := by decide +kernel
theorem dX5_init_37 : decode cX5_init 37 = .ok (.bipush 6, 2) := by decide +kernel
theorem dX5_init_39 : decode cX5_init 39 = .ok (.newarray .int, 2) := by decide +kernel
theorem dX5_init_41 : decode cX5_init 41 = .ok (.putfield 22, 3) := by decide +kernel
theorem dX5_init_44 : decode cX5_init 44 = .ok (.aload_n 0, 1) := by decide +kernel
theorem dX5_init_45 : decode cX5_init 45 = .ok (.bipush 8, 2) := by decide +kernel
theorem dX5_init_47 : decode cX5_init 47 = .ok (.newarray .int, 2) := by decide +kernel
theorem dX5_init_49 : decode cX5_init 49 = .ok (.putfield 25, 3) := by decide +kernel
theorem dX5_init_52 : decode cX5_init 52 = .ok (.aload_n 0, 1) := by decide +kernel
theorem dX5_init_53 : decode cX5_init 53 = .ok (.bipush 8, 2) := by decide +kernel
theorem dX5_init_55 : decode cX5_init 55 = .ok (.newarray .int, 2) := by decide +kernel
theorem dX5_init_57 : decode cX5_init 57 = .ok (.putfield 28, 3) := by decide +kernel
theorem dX5_init_60 : decode cX5_init 60 = .ok (.aload_n 0, 1) := by decide +kernel
theorem dX5_init_61 : decode cX5_init 61 = .ok (.bipush 8, 2) := by decide +kernel
theorem dX5_init_63 : decode cX5_init 63 = .ok (.newarray .int, 2) := by decide +kernel
theorem dX5_init_65 : decode cX5_init 65 = .ok (.putfield 31, 3) := by decide +kernel
theorem dX5_init_68 : decode cX5_init 68 = .ok (.aload_n 0, 1) := by decide +kernel
theorem dX5_init_69 : decode cX5_init 69 = .ok (.bipush 8, 2) := by decide +kernel
theorem dX5_init_71 : decode cX5_init 71 = .ok (.newarray .int, 2) := by decide +kernel
theorem dX5_init_73 : decode cX5_init 73 = .ok (.putfield 34, 3) := by decide +kernel
theorem dX5_init_76 : decode cX5_init 76 = .ok (.aload_n 0, 1) := by decide +kernel
theorem dX5_init_77 : decode cX5_init 77 = .ok (.bipush 8, 2) := by decide +kernel
theorem dX5_init_79 : decode cX5_init 79 = .ok (.newarray .int, 2) := by decide +kernel
theorem dX5_init_81 : decode cX5_init 81 = .ok (.putfield 37, 3) := by decide +kernel
theorem dX5_init_84 : decode cX5_init 84 = .ok (.aload_n 0, 1) := by decide +kernel
theorem dX5_init_85 : decode cX5_init 85 = .ok (.sipush 4008, 3) := by decide +kernel
theorem dX5_init_88 : decode cX5_init 88 = .ok (.newarray .int, 2) := by decide +kernel
theorem dX5_init_90 : decode cX5_init 90 = .ok (.putfield 40, 3) := by decide +kernel
theorem dX5_init_93 : decode cX5_init 93 = .ok (.aload_n 0, 1) := by decide +kernel
theorem dX5_init_94 : decode cX5_init 94 = .ok (.bipush 40, 2) := by decide +kernel
theorem dX5_init_96 : decode cX5_init 96 = .ok (.newarray .int, 2) := by decide +kernel
theorem dX5_init_98 : decode cX5_init 98 = .ok (.putfield 43, 3) := by decide +kernel
theorem dX5_init_101 : decode cX5_init 101 = .ok (.aload_n 0, 1) := by decide +kernel
theorem dX5_init_102 : decode cX5_init 102 = .ok (.bipush 40, 2) := by decide +kernel
theorem dX5_init_104 : decode cX5_init 104 = .ok (.newarray .int, 2) := by decide +kernel
theorem dX5_init_106 : decode cX5_init 106 = .ok (.putfield 46, 3) := by decide +kernel
theorem dX5_init_109 : decode cX5_init 109 = .ok (.aload_n 0, 1) := by decide +kernel
theorem dX5_init_110 : decode cX5_init 110 = .ok (.bipush 40, 2) := by decide +kernel
theorem dX5_init_112 : decode cX5_init 112 = .ok (.newarray .int, 2) := by decide +kernel
theorem dX5_init_114 : decode cX5_init 114 = .ok (.putfield 49, 3) := by decide +kernel
theorem dX5_init_117 : decode cX5_init 117 = .ok (.aload_n 0, 1) := by decide +kernel
theorem dX5_init_118 : decode cX5_init 118 = .ok (.bipush 40, 2) := by decide +kernel
theorem dX5_init_120 : decode cX5_init 120 = .ok (.newarray .int, 2) := by decide +kernel
theorem dX5_init_122 : decode cX5_init 122 = .ok (.putfield 52, 3) := by decide +kernel
theorem dX5_init_125 : decode cX5_init 125 = .ok (.aload_n 0, 1) := by decide +kernel
theorem dX5_init_126 : decode cX5_init 126 = .ok (.bipush 8, 2) := by decide +kernel
theorem dX5_init_128 : decode cX5_init 128 = .ok (.newarray .int, 2) := by decide +kernel
theorem dX5_init_130 : decode cX5_init 130 = .ok (.putfield 55, 3) := by decide +kernel
theorem dX5_init_133 : decode cX5_init 133 = .ok (.aload_n 0, 1) := by decide +kernel
theorem dX5_init_134 : decode cX5_init 134 = .ok (.bipush 80, 2) := by decide +kernel
theorem dX5_init_136 : decode cX5_init 136 = .ok (.newarray .int, 2) := by decide +kernel
theorem dX5_init_138 : decode cX5_init 138 = .ok (.putfield 58, 3) := by decide +kernel
theorem dX5_init_141 : decode cX5_init 141 = .ok (.aload_n 0, 1) := by decide +kernel
theorem dX5_init_142 : decode cX5_init 142 = .ok (.bipush 80, 2) := by decide +kernel
theorem dX5_init_144 : decode cX5_init 144 = .ok (.newarray .int, 2) := by decide +kernel
theorem dX5_init_146 : decode cX5_init 146 = .ok (.putfield 61, 3) := by decide +kernel
theorem dX5_init_149 : decode cX5_init 149 = .ok (.aload_n 0, 1) := by decide +kernel
theorem dX5_init_150 : decode cX5_init 150 = .ok (.bipush 80, 2) := by decide +kernel
theorem dX5_init_152 : decode cX5_init 152 = .ok (.newarray .int, 2) := by decide +kernel
theorem dX5_init_154 : decode cX5_init 154 = .ok (.putfield 64, 3) := by decide +kernel
theorem dX5_init_157 : decode cX5_init 157 = .ok (.aload_n 0, 1) := by decide +kernel
theorem dX5_init_158 : decode cX5_init 158 = .ok (.sipush 501, 3) := by decide +kernel
theorem dX5_init_161 : decode cX5_init 161 = .ok (.newarray .int, 2) := by decide +kernel
theorem dX5_init_163 : decode cX5_init 163 = .ok (.putfield 67, 3) := by decide +kernel
theorem dX5_init_166 : decode cX5_init 166 = .ok (.aload_n 0, 1) := by decide +kernel
theorem dX5_init_167 : decode cX5_init 167 = .ok (.bipush 7, 2) := by decide +kernel
theorem dX5_init_169 : decode cX5_init 169 = .ok (.newarray .boolean, 2) := by decide +kernel
theorem dX5_init_171 : decode cX5_init 171 = .ok (.putfield 70, 3) := by decide +kernel
theorem dX5_init_174 : decode cX5_init 174 = .ok (.aload_n 0, 1) := by decide +kernel
theorem dX5_init_175 : decode cX5_init 175 = .ok (.bipush 8, 2) := by decide +kernel
theorem dX5_init_177 : decode cX5_init 177 = .ok (.newarray .int, 2) := by decide +kernel
theorem dX5_init_179 : decode cX5_init 179 = .ok (.putfield 74, 3) := by decide +kernel
theorem dX5_init_182 : decode cX5_init 182 = .ok (.aload_n 0, 1) := by decide +kernel
theorem dX5_init_183 : decode cX5_init 183 = .ok (.sipush 168, 3) := by decide +kernel
theorem dX5_init_186 : decode cX5_init 186 = .ok (.newarray .int, 2) := by decide +kernel
theorem dX5_init_188 : decode cX5_init 188 = .ok (.putfield 77, 3) := by decide +kernel
theorem dX5_init_191 : decode cX5_init 191 = .ok (.aload_n 0, 1) := by decide +kernel
theorem dX5_init_192 : decode cX5_init 192 = .ok (.sipush 168, 3) := by decide +kernel
theorem dX5_init_195 : decode cX5_init 195 = .ok (.newarray .int, 2) := by decide +kernel
theorem dX5_init_197 : decode cX5_init 197 = .ok (.putfield 80, 3) := by decide +kernel
theorem dX5_init_200 : decode cX5_init 200 = .ok (.aload_n 0, 1) := by decide +kernel
theorem dX5_init_201 : decode cX5_init 201 = .ok (.bipush 56, 2) := by decide +kernel
theorem dX5_init_203 : decode cX5_init 203 = .ok (.newarray .int, 2) := by decide +kernel
theorem dX5_init_205 : decode cX5_init 205 = .ok (.putfield 83, 3) := by decide +kernel
theorem dX5_init_208 : decode cX5_init 208 = .ok (.aload_n 0, 1) := by decide +kernel
theorem dX5_init_209 : decode cX5_init 209 = .ok (.bipush 100, 2) := by decide +kernel
theorem dX5_init_211 : decode cX5_init 211 = .ok (.putfield 86, 3) := by decide +kernel
theorem dX5_init_214 : decode cX5_init 214 = .ok (.aload_n 0, 1) := by decide +kernel
theorem dX5_init_215 : decode cX5_init 215 = .ok (.bipush 20, 2) := by decide +kernel
theorem dX5_init_217 : decode cX5_init 217 = .ok (.putfield 90, 3) := by decide +kernel
theorem dX5_init_220 : decode cX5_init 220 = .ok (.return_, 1) := by decide +kernel
theorem dX5_thrown_0 : decode cX5_thrown 0 = .ok (.aload_n 0, 1) := by decide +kernel
theorem dX5_thrown_1 : decode cX5_thrown 1 = .ok (.getfield 93, 3) := by decide +kernel
theorem dX5_thrown_4 : decode cX5_thrown 4 = .ok (.ireturn, 1) := by decide +kernel
theorem dX5_in_0 : decode cX5_in 0 = .ok (.iload_n 0, 1) := by decide +kernel
theorem dX5_in_1 : decode cX5_in 1 = .ok (.iload_n 1, 1) := by decide +kernel
theorem dX5_in_2 : decode cX5_in 2 = .ok (.if_icmp .lt 12, 3) := by decide +kernel
theorem dX5_in_5 : decode cX5_in 5 = .ok (.iload_n 0, 1) := by decide +kernel
theorem dX5_in_6 : decode cX5_in 6 = .ok (.iload_n 2, 1) := by decide +kernel
theorem dX5_in_7 : decode cX5_in 7 = .ok (.if_icmp .gt 7, 3) := by decide +kernel
theorem dX5_in_10 : decode cX5_in 10 = .ok (.iconst 1, 1) := by decide +kernel
theorem dX5_in_11 : decode cX5_in 11 = .ok (.goto 4, 3) := by decide +kernel
theorem dX5_in_14 : decode cX5_in 14 = .ok (.iconst 0, 1) := by decide +kernel
theorem dX5_in_15 : decode cX5_in 15 = .ok (.ireturn, 1) := by decide +kernel
theorem dX5_goes_0 : decode cX5_goes 0 = .ok (.aload_n 0, 1) := by decide +kernel
theorem dX5_goes_1 : decode cX5_goes 1 = .ok (.iload_n 1, 1) := by decide +kernel
theorem dX5_goes_2 : decode cX5_goes 2 = .ok (.ifCond .ne 7, 3) := by decide +kernel
theorem dX5_goes_5 : decode cX5_goes 5 = .ok (.iconst 1, 1) := by decide +kernel
theorem dX5_goes_6 : decode cX5_goes 6 = .ok (.goto 20, 3) := by decide +kernel
theorem dX5_goes_9 : decode cX5_goes 9 = .ok (.iload_n 2, 1) := by decide +kernel
theorem dX5_goes_10 : decode cX5_goes 10 = .ok (.ifCond .ne 7, 3) := by decide +kernel
theorem dX5_goes_13 : decode cX5_goes 13 = .ok (.iconst 2, 1) := by decide +kernel
theorem dX5_goes_14 : decode cX5_goes 14 = .ok (.goto 12, 3) := by decide +kernel
theorem dX5_goes_17 : decode cX5_goes 17 = .ok (.iload_n 3, 1) := by decide +kernel
theorem dX5_goes_18 : decode cX5_goes 18 = .ok (.ifCond .ne 7, 3) := by decide +kernel
theorem dX5_goes_21 : decode cX5_goes 21 = .ok (.iconst 3, 1) := by decide +kernel
theorem dX5_goes_22 : decode cX5_goes 22 = .ok (.goto 4, 3) := by decide +kernel
theorem dX5_goes_25 : decode cX5_goes 25 = .ok (.iconst 0, 1) := by decide +kernel
theorem dX5_goes_26 : decode cX5_goes 26 = .ok (.putfield 93, 3) := by decide +kernel
theorem dX5_goes_29 : decode cX5_goes 29 = .ok (.aload_n 0, 1) := by decide +kernel
theorem dX5_goes_30 : decode cX5_goes 30 = .ok (.getfield 93, 3) := by decide +kernel
theorem dX5_goes_33 : decode cX5_goes 33 = .ok (.ifCond .ne 7, 3) := by decide +kernel
theorem dX5_goes_36 : decode cX5_goes 36 = .ok (.iconst 1, 1) := by decide +kernel
theorem dX5_goes_37 : decode cX5_goes 37 = .ok (.goto 4, 3) := by decide +kernel
theorem dX5_goes_40 : decode cX5_goes 40 = .ok (.iconst 0, 1) := by decide +kernel
theorem dX5_goes_41 : decode cX5_goes 41 = .ok (.ireturn, 1) := by decide +kernel
theorem dX5_held_0 : decode cX5_held 0 = .ok (.iload_n 0, 1) := by decide +kernel
theorem dX5_held_1 : decode cX5_held 1 = .ok (.iload_n 1, 1) := by decide +kernel
theorem dX5_held_2 : decode cX5_held 2 = .ok (.if_icmp .le 7, 3) := by decide +kernel
theorem dX5_held_5 : decode cX5_held 5 = .ok (.iload_n 1, 1) := by decide +kernel
theorem dX5_held_6 : decode cX5_held 6 = .ok (.goto 15, 3) := by decide +kernel
theorem dX5_held_9 : decode cX5_held 9 = .ok (.iload_n 0, 1) := by decide +kernel
theorem dX5_held_10 : decode cX5_held 10 = .ok (.iload_n 1, 1) := by decide +kernel
theorem dX5_held_11 : decode cX5_held 11 = .ok (.ineg, 1) := by decide +kernel
theorem dX5_held_12 : decode cX5_held 12 = .ok (.if_icmp .ge 8, 3) := by decide +kernel
theorem dX5_held_15 : decode cX5_held 15 = .ok (.iload_n 1, 1) := by decide +kernel
theorem dX5_held_16 : decode cX5_held 16 = .ok (.ineg, 1) := by decide +kernel
theorem dX5_held_17 : decode cX5_held 17 = .ok (.goto 4, 3) := by decide +kernel
theorem dX5_held_20 : decode cX5_held 20 = .ok (.iload_n 0, 1) := by decide +kernel
theorem dX5_held_21 : decode cX5_held 21 = .ok (.ireturn, 1) := by decide +kernel
set_option maxRecDepth 20000 in
theorem ggX5_isClock_X5_in : GoodIn wsX5_isClock wsX5_in := goodIn_r _ [5] (by decide +kernel) (by decide +kernel)
set_option maxRecDepth 20000 in
theorem gX5_isClock_X5_in : GoodIn wsX5_isClock (va_wsS RX5 99 yX5_in wsX5_in) := goodIn_app (goodIn_of _ (by decide +kernel)) ggX5_isClock_X5_in
theorem dX5_isClock_0 : decode cX5_isClock 0 = .ok (.iload_n 1, 1) := by decide +kernel
theorem dX5_isClock_1 : decode cX5_isClock 1 = .ok (.iconst 0, 1) := by decide +kernel
theorem dX5_isClock_2 : decode cX5_isClock 2 = .ok (.aload_n 0, 1) := by decide +kernel
theorem dX5_isClock_3 : decode cX5_isClock 3 = .ok (.getfield 96, 3) := by decide +kernel
theorem dX5_isClock_6 : decode cX5_isClock 6 = .ok (.iconst 1, 1) := by decide +kernel
theorem dX5_isClock_7 : decode cX5_isClock 7 = .ok (.isub, 1) := by decide +kernel
theorem dX5_isClock_8 : decode cX5_isClock 8 = .ok (.invokestatic 99, 3) := by decide +kernel
theorem dX5_isClock_11 : decode cX5_isClock 11 = .ok (.ireturn, 1) := by decide +kernel
set_option maxRecDepth 20000 in
theorem ggX5_isLink_X5_in : GoodIn wsX5_isLink wsX5_in := goodIn_r _ [5] (by decide +kernel) (by decide +kernel)
set_option maxRecDepth 20000 in
theorem gX5_isLink_X5_in : GoodIn wsX5_isLink (va_wsS RX5 99 yX5_in wsX5_in) := goodIn_app (goodIn_of _ (by decide +kernel)) ggX5_isLink_X5_in
theorem dX5_isLink_0 : decode cX5_isLink 0 = .ok (.iload_n 1, 1) := by decide +kernel
theorem dX5_isLink_1 : decode cX5_isLink 1 = .ok (.iconst 0, 1) := by decide +kernel
theorem dX5_isLink_2 : decode cX5_isLink 2 = .ok (.aload_n 0, 1) := by decide +kernel
theorem dX5_isLink_3 : decode cX5_isLink 3 = .ok (.getfield 103, 3) := by decide +kernel
theorem dX5_isLink_6 : decode cX5_isLink 6 = .ok (.iconst 1, 1) := by decide +kernel
theorem dX5_isLink_7 : decode cX5_isLink 7 = .ok (.isub, 1) := by decide +kernel
theorem dX5_isLink_8 : decode cX5_isLink 8 = .ok (.invokestatic 99, 3) := by decide +kernel
theorem dX5_isLink_11 : decode cX5_isLink 11 = .ok (.ireturn, 1) := by decide +kernel
set_option maxRecDepth 20000 in
theorem ggX5_isDay_X5_in : GoodIn wsX5_isDay wsX5_in := goodIn_r _ [5] (by decide +kernel) (by decide +kernel)
set_option maxRecDepth 20000 in
theorem gX5_isDay_X5_in : GoodIn wsX5_isDay (va_wsS RX5 99 yX5_in wsX5_in) := goodIn_app (goodIn_of _ (by decide +kernel)) ggX5_isDay_X5_in
theorem dX5_isDay_0 : decode cX5_isDay 0 = .ok (.iload_n 1, 1) := by decide +kernel
theorem dX5_isDay_1 : decode cX5_isDay 1 = .ok (.iconst 1, 1) := by decide +kernel
theorem dX5_isDay_2 : decode cX5_isDay 2 = .ok (.aload_n 0, 1) := by decide +kernel
theorem dX5_isDay_3 : decode cX5_isDay 3 = .ok (.getfield 106, 3) := by decide +kernel
theorem dX5_isDay_6 : decode cX5_isDay 6 = .ok (.invokestatic 99, 3) := by decide +kernel
theorem dX5_isDay_9 : decode cX5_isDay 9 = .ok (.ireturn, 1) := by decide +kernel
set_option maxRecDepth 20000 in
theorem ggX5_clock_X5_in : GoodIn wsX5_clock wsX5_in := goodIn_r _ [8] (by decide +kernel) (by decide +kernel)
set_option maxRecDepth 20000 in
theorem gX5_clock_X5_in : GoodIn wsX5_clock (va_wsS RX5 99 yX5_in wsX5_in) := goodIn_app (goodIn_of _ (by decide +kernel)) ggX5_clock_X5_in
set_option maxRecDepth 20000 in
theorem ggX5_clock_X5_goes : GoodIn wsX5_clock wsX5_goes := goodIn_r _ [12, 13, 14, 15, 16, 17, 18, 19, 20, 21, 22, 23, 24, 25, 26, 27, 28, 29, 30, 31, 32, 33, 34, 35, 36, 37, 38, 39, 40, 41, 42, 43, 44, 45, 46, 47] (by decide +kernel) (by decide +kernel)
set_option maxRecDepth 20000 in
theorem gX5_clock_X5_goes : GoodIn wsX5_clock (wsV RX5 109 RX5 yX5_goes wsX5_goes) := goodIn_app (goodIn_of _ (by decide +kernel)) ggX5_clock_X5_goes
theorem dX5_clock_0 : decode cX5_clock 0 = .ok (.aload_n 0, 1) := by decide +kernel
theorem dX5_clock_1 : decode cX5_clock 1 = .ok (.iload_n 1, 1) := by decide +kernel
theorem dX5_clock_2 : decode cX5_clock 2 = .ok (.sipush (-500), 3) := by decide +kernel
theorem dX5_clock_5 : decode cX5_clock 5 = .ok (.sipush 500, 3) := by decide +kernel
theorem dX5_clock_8 : decode cX5_clock 8 = .ok (.invokestatic 99, 3) := by decide +kernel
theorem dX5_clock_11 : decode cX5_clock 11 = .ok (.ifCond .eq 18, 3) := by decide +kernel
theorem dX5_clock_14 : decode cX5_clock 14 = .ok (.iload_n 2, 1) := by decide +kernel
theorem dX5_clock_15 : decode cX5_clock 15 = .ok (.iconst 0, 1) := by decide +kernel
theorem dX5_clock_16 : decode cX5_clock 16 = .ok (.sipush 5000, 3) := by decide +kernel
theorem dX5_clock_19 : decode cX5_clock 19 = .ok (.invokestatic 99, 3) := by decide +kernel
theorem dX5_clock_22 : decode cX5_clock 22 = .ok (.ifCond .eq 7, 3) := by decide +kernel
theorem dX5_clock_25 : decode cX5_clock 25 = .ok (.iconst 1, 1) := by decide +kernel
theorem dX5_clock_26 : decode cX5_clock 26 = .ok (.goto 4, 3) := by decide +kernel
theorem dX5_clock_29 : decode cX5_clock 29 = .ok (.iconst 0, 1) := by decide +kernel
theorem dX5_clock_30 : decode cX5_clock 30 = .ok (.aload_n 0, 1) := by decide +kernel
theorem dX5_clock_31 : decode cX5_clock 31 = .ok (.getfield 96, 3) := by decide +kernel
theorem dX5_clock_34 : decode cX5_clock 34 = .ok (.bipush 6, 2) := by decide +kernel
theorem dX5_clock_36 : decode cX5_clock 36 = .ok (.if_icmp .ge 7, 3) := by decide +kernel
theorem dX5_clock_39 : decode cX5_clock 39 = .ok (.iconst 1, 1) := by decide +kernel
theorem dX5_clock_40 : decode cX5_clock 40 = .ok (.goto 4, 3) := by decide +kernel
theorem dX5_clock_43 : decode cX5_clock 43 = .ok (.iconst 0, 1) := by decide +kernel
theorem dX5_clock_44 : decode cX5_clock 44 = .ok (.iconst 1, 1) := by decide +kernel
theorem dX5_clock_45 : decode cX5_clock 45 = .ok (.invokevirtual 109, 3) := by decide +kernel
theorem dX5_clock_48 : decode cX5_clock 48 = .ok (.ifCond .ne 5, 3) := by decide +kernel
theorem dX5_clock_51 : decode cX5_clock 51 = .ok (.iconst 0, 1) := by decide +kernel
theorem dX5_clock_52 : decode cX5_clock 52 = .ok (.ireturn, 1) := by decide +kernel
theorem dX5_clock_53 : decode cX5_clock 53 = .ok (.aload_n 0, 1) := by decide +kernel
theorem dX5_clock_54 : decode cX5_clock 54 = .ok (.getfield 7, 3) := by decide +kernel
theorem dX5_clock_57 : decode cX5_clock 57 = .ok (.aload_n 0, 1) := by decide +kernel
theorem dX5_clock_58 : decode cX5_clock 58 = .ok (.getfield 96, 3) := by decide +kernel
theorem dX5_clock_61 : decode cX5_clock 61 = .ok (.iload_n 1, 1) := by decide +kernel
theorem dX5_clock_62 : decode cX5_clock 62 = .ok (.iastore, 1) := by decide +kernel
theorem dX5_clock_63 : decode cX5_clock 63 = .ok (.aload_n 0, 1) := by decide +kernel
theorem dX5_clock_64 : decode cX5_clock 64 = .ok (.getfield 16, 3) := by decide +kernel
theorem dX5_clock_67 : decode cX5_clock 67 = .ok (.aload_n 0, 1) := by decide +kernel
theorem dX5_clock_68 : decode cX5_clock 68 = .ok (.getfield 96, 3) := by decide +kernel
theorem dX5_clock_71 : decode cX5_clock 71 = .ok (.iload_n 2, 1) := by decide +kernel
theorem dX5_clock_72 : decode cX5_clock 72 = .ok (.iastore, 1) := by decide +kernel
theorem dX5_clock_73 : decode cX5_clock 73 = .ok (.aload_n 0, 1) := by decide +kernel
theorem dX5_clock_74 : decode cX5_clock 74 = .ok (.getfield 22, 3) := by decide +kernel
theorem dX5_clock_77 : decode cX5_clock 77 = .ok (.aload_n 0, 1) := by decide +kernel
theorem dX5_clock_78 : decode cX5_clock 78 = .ok (.getfield 96, 3) := by decide +kernel
theorem dX5_clock_81 : decode cX5_clock 81 = .ok (.iconst 1, 1) := by decide +kernel
theorem dX5_clock_82 : decode cX5_clock 82 = .ok (.iastore, 1) := by decide +kernel
theorem dX5_clock_83 : decode cX5_clock 83 = .ok (.aload_n 0, 1) := by decide +kernel
theorem dX5_clock_84 : decode cX5_clock 84 = .ok (.dup, 1) := by decide +kernel
theorem dX5_clock_85 : decode cX5_clock 85 = .ok (.getfield 96, 3) := by decide +kernel
theorem dX5_clock_88 : decode cX5_clock 88 = .ok (.iconst 1, 1) := by decide +kernel
theorem dX5_clock_89 : decode cX5_clock 89 = .ok (.iadd, 1) := by decide +kernel
theorem dX5_clock_90 : decode cX5_clock 90 = .ok (.putfield 96, 3) := by decide +kernel
theorem dX5_clock_93 : decode cX5_clock 93 = .ok (.aload_n 0, 1) := by decide +kernel
theorem dX5_clock_94 : decode cX5_clock 94 = .ok (.getfield 96, 3) := by decide +kernel
theorem dX5_clock_97 : decode cX5_clock 97 = .ok (.iconst 1, 1) := by decide +kernel
theorem dX5_clock_98 : decode cX5_clock 98 = .ok (.isub, 1) := by decide +kernel
theorem dX5_clock_99 : decode cX5_clock 99 = .ok (.ireturn, 1) := by decide +kernel
set_option maxRecDepth 20000 in
theorem ggX5_tell_X5_isClock : GoodIn wsX5_tell wsX5_isClock := goodIn_r _ [7, 8, 9, 10, 6, 11, 17, 18, 19, 20, 21, 22, 23, 24, 25, 26, 27, 28, 29, 30, 31, 32, 33, 34, 35, 36, 37, 38, 39, 40, 41, 42, 43, 44, 45, 46, 47, 48, 49, 50] (by decide +kernel) (by decide +kernel)
set_option maxRecDepth 20000 in
theorem gX5_tell_X5_isClock : GoodIn wsX5_tell (wsV RX5 113 RX5 yX5_isClock wsX5_isClock) := goodIn_app (goodIn_of _ (by decide +kernel)) ggX5_tell_X5_isClock
set_option maxRecDepth 20000 in
theorem ggX5_tell_X5_in : GoodIn wsX5_tell wsX5_in := goodIn_r _ [11] (by decide +kernel) (by decide +kernel)
set_option maxRecDepth 20000 in
theorem gX5_tell_X5_in : GoodIn wsX5_tell (va_wsS RX5 99 yX5_in wsX5_in) := goodIn_app (goodIn_of _ (by decide +kernel)) ggX5_tell_X5_in
set_option maxRecDepth 20000 in
theorem ggX5_tell_X5_goes : GoodIn wsX5_tell wsX5_goes := goodIn_r _ [15, 16, 17, 18, 19, 20, 21, 22, 23, 24, 25, 26, 27, 28, 29, 30, 31, 32, 33, 34, 35, 36, 37, 38, 39, 40, 41, 42, 43, 44, 45, 46, 47, 48, 49, 50] (by decide +kernel) (by decide +kernel)
set_option maxRecDepth 20000 in
theorem gX5_tell_X5_goes : GoodIn wsX5_tell (wsV RX5 109 RX5 yX5_goes wsX5_goes) := goodIn_app (goodIn_of _ (by decide +kernel)) ggX5_tell_X5_goes
theorem dX5_tell_0 : decode cX5_tell 0 = .ok (.aload_n 0, 1) := by decide +kernel
theorem dX5_tell_1 : decode cX5_tell 1 = .ok (.aload_n 0, 1) := by decide +kernel
theorem dX5_tell_2 : decode cX5_tell 2 = .ok (.iload_n 1, 1) := by decide +kernel
theorem dX5_tell_3 : decode cX5_tell 3 = .ok (.invokevirtual 113, 3) := by decide +kernel
theorem dX5_tell_6 : decode cX5_tell 6 = .ok (.iload_n 2, 1) := by decide +kernel
theorem dX5_tell_7 : decode cX5_tell 7 = .ok (.bipush (-20), 2) := by decide +kernel
theorem dX5_tell_9 : decode cX5_tell 9 = .ok (.bipush 20, 2) := by decide +kernel
theorem dX5_tell_11 : decode cX5_tell 11 = .ok (.invokestatic 99, 3) := by decide +kernel
theorem dX5_tell_14 : decode cX5_tell 14 = .ok (.ifCond .eq 17, 3) := by decide +kernel
theorem dX5_tell_17 : decode cX5_tell 17 = .ok (.iload_n 3, 1) := by decide +kernel
theorem dX5_tell_18 : decode cX5_tell 18 = .ok (.iconst 0, 1) := by decide +kernel
theorem dX5_tell_19 : decode cX5_tell 19 = .ok (.bipush 100, 2) := by decide +kernel
theorem dX5_tell_21 : decode cX5_tell 21 = .ok (.invokestatic 99, 3) := by decide +kernel
theorem dX5_tell_24 : decode cX5_tell 24 = .ok (.ifCond .eq 7, 3) := by decide +kernel
theorem dX5_tell_27 : decode cX5_tell 27 = .ok (.iconst 1, 1) := by decide +kernel
theorem dX5_tell_28 : decode cX5_tell 28 = .ok (.goto 4, 3) := by decide +kernel
theorem dX5_tell_31 : decode cX5_tell 31 = .ok (.iconst 0, 1) := by decide +kernel
theorem dX5_tell_32 : decode cX5_tell 32 = .ok (.iconst 1, 1) := by decide +kernel
theorem dX5_tell_33 : decode cX5_tell 33 = .ok (.invokevirtual 109, 3) := by decide +kernel
theorem dX5_tell_36 : decode cX5_tell 36 = .ok (.ifCond .ne 5, 3) := by decide +kernel
theorem dX5_tell_39 : decode cX5_tell 39 = .ok (.iconst 0, 1) := by decide +kernel
theorem dX5_tell_40 : decode cX5_tell 40 = .ok (.ireturn, 1) := by decide +kernel
theorem dX5_tell_41 : decode cX5_tell 41 = .ok (.aload_n 0, 1) := by decide +kernel
theorem dX5_tell_42 : decode cX5_tell 42 = .ok (.getfield 22, 3) := by decide +kernel
theorem dX5_tell_45 : decode cX5_tell 45 = .ok (.iload_n 1, 1) := by decide +kernel
theorem dX5_tell_46 : decode cX5_tell 46 = .ok (.iaload, 1) := by decide +kernel
theorem dX5_tell_47 : decode cX5_tell 47 = .ok (.istore 4, 2) := by decide +kernel
theorem dX5_tell_49 : decode cX5_tell 49 = .ok (.aload_n 0, 1) := by decide +kernel
theorem dX5_tell_50 : decode cX5_tell 50 = .ok (.getfield 13, 3) := by decide +kernel
theorem dX5_tell_53 : decode cX5_tell 53 = .ok (.iload_n 1, 1) := by decide +kernel
theorem dX5_tell_54 : decode cX5_tell 54 = .ok (.iload_n 2, 1) := by decide +kernel
theorem dX5_tell_55 : decode cX5_tell 55 = .ok (.iastore, 1) := by decide +kernel
theorem dX5_tell_56 : decode cX5_tell 56 = .ok (.aload_n 0, 1) := by decide +kernel
theorem dX5_tell_57 : decode cX5_tell 57 = .ok (.getfield 22, 3) := by decide +kernel
theorem dX5_tell_60 : decode cX5_tell 60 = .ok (.iload_n 1, 1) := by decide +kernel
theorem dX5_tell_61 : decode cX5_tell 61 = .ok (.iload_n 3, 1) := by decide +kernel
theorem dX5_tell_62 : decode cX5_tell 62 = .ok (.iastore, 1) := by decide +kernel
theorem dX5_tell_63 : decode cX5_tell 63 = .ok (.iload 4, 2) := by decide +kernel
theorem dX5_tell_65 : decode cX5_tell 65 = .ok (.ireturn, 1) := by decide +kernel
set_option maxRecDepth 20000 in
theorem ggX5_link_X5_isClock : GoodIn wsX5_link wsX5_isClock := goodIn_r _ [11, 12, 13, 14, 10, 15, 21, 22, 23, 24, 25, 26, 27, 28, 29, 30, 31, 32, 33, 34, 35, 36, 37, 38, 39, 40, 41, 42, 43, 44, 45, 46, 47, 48, 49, 50, 51, 52, 53, 54] (by decide +kernel) (by decide +kernel)
set_option maxRecDepth 20000 in
theorem gX5_link_X5_isClock : GoodIn wsX5_link (wsV RX5 113 RX5 yX5_isClock wsX5_isClock) := goodIn_app (goodIn_of _ (by decide +kernel)) ggX5_link_X5_isClock
set_option maxRecDepth 20000 in
theorem ggX5_link_X5_in : GoodIn wsX5_link wsX5_in := goodIn_r _ [15] (by decide +kernel) (by decide +kernel)
set_option maxRecDepth 20000 in
theorem gX5_link_X5_in : GoodIn wsX5_link (va_wsS RX5 99 yX5_in wsX5_in) := goodIn_app (goodIn_of _ (by decide +kernel)) ggX5_link_X5_in
set_option maxRecDepth 20000 in
theorem ggX5_link_X5_goes : GoodIn wsX5_link wsX5_goes := goodIn_r _ [19, 20, 21, 22, 23, 24, 25, 26, 27, 28, 29, 30, 31, 32, 33, 34, 35, 36, 37, 38, 39, 40, 41, 42, 43, 44, 45, 46, 47, 48, 49, 50, 51, 52, 53, 54] (by decide +kernel) (by decide +kernel)
set_option maxRecDepth 20000 in
theorem gX5_link_X5_goes : GoodIn wsX5_link (wsV RX5 109 RX5 yX5_goes wsX5_goes) := goodIn_app (goodIn_of _ (by decide +kernel)) ggX5_link_X5_goes
theorem dX5_link_0 : decode cX5_link 0 = .ok (.aload_n 0, 1) := by decide +kernel
theorem dX5_link_1 : decode cX5_link 1 = .ok (.aload_n 0, 1) := by decide +kernel
theorem dX5_link_2 : decode cX5_link 2 = .ok (.iload_n 1, 1) := by decide +kernel
theorem dX5_link_3 : decode cX5_link 3 = .ok (.invokevirtual 113, 3) := by decide +kernel
theorem dX5_link_6 : decode cX5_link 6 = .ok (.ifCond .eq 15, 3) := by decide +kernel
theorem dX5_link_9 : decode cX5_link 9 = .ok (.aload_n 0, 1) := by decide +kernel
theorem dX5_link_10 : decode cX5_link 10 = .ok (.iload_n 2, 1) := by decide +kernel
theorem dX5_link_11 : decode cX5_link 11 = .ok (.invokevirtual 113, 3) := by decide +kernel
theorem dX5_link_14 : decode cX5_link 14 = .ok (.ifCond .eq 7, 3) := by decide +kernel
theorem dX5_link_17 : decode cX5_link 17 = .ok (.iconst 1, 1) := by decide +kernel
theorem dX5_link_18 : decode cX5_link 18 = .ok (.goto 4, 3) := by decide +kernel
theorem dX5_link_21 : decode cX5_link 21 = .ok (.iconst 0, 1) := by decide +kernel
theorem dX5_link_22 : decode cX5_link 22 = .ok (.iload_n 1, 1) := by decide +kernel
theorem dX5_link_23 : decode cX5_link 23 = .ok (.iload_n 2, 1) := by decide +kernel
theorem dX5_link_24 : decode cX5_link 24 = .ok (.if_icmp .eq 18, 3) := by decide +kernel
theorem dX5_link_27 : decode cX5_link 27 = .ok (.iload_n 3, 1) := by decide +kernel
theorem dX5_link_28 : decode cX5_link 28 = .ok (.bipush (-50), 2) := by decide +kernel
theorem dX5_link_30 : decode cX5_link 30 = .ok (.bipush 50, 2) := by decide +kernel
theorem dX5_link_32 : decode cX5_link 32 = .ok (.invokestatic 99, 3) := by decide +kernel
theorem dX5_link_35 : decode cX5_link 35 = .ok (.ifCond .eq 7, 3) := by decide +kernel
theorem dX5_link_38 : decode cX5_link 38 = .ok (.iconst 1, 1) := by decide +kernel
theorem dX5_link_39 : decode cX5_link 39 = .ok (.goto 4, 3) := by decide +kernel
theorem dX5_link_42 : decode cX5_link 42 = .ok (.iconst 0, 1) := by decide +kernel
theorem dX5_link_43 : decode cX5_link 43 = .ok (.aload_n 0, 1) := by decide +kernel
theorem dX5_link_44 : decode cX5_link 44 = .ok (.getfield 103, 3) := by decide +kernel
theorem dX5_link_47 : decode cX5_link 47 = .ok (.bipush 8, 2) := by decide +kernel
theorem dX5_link_49 : decode cX5_link 49 = .ok (.if_icmp .ge 7, 3) := by decide +kernel
theorem dX5_link_52 : decode cX5_link 52 = .ok (.iconst 1, 1) := by decide +kernel
theorem dX5_link_53 : decode cX5_link 53 = .ok (.goto 4, 3) := by decide +kernel
theorem dX5_link_56 : decode cX5_link 56 = .ok (.iconst 0, 1) := by decide +kernel
theorem dX5_link_57 : decode cX5_link 57 = .ok (.invokevirtual 109, 3) := by decide +kernel
theorem dX5_link_60 : decode cX5_link 60 = .ok (.ifCond .ne 5, 3) := by decide +kernel
theorem dX5_link_63 : decode cX5_link 63 = .ok (.iconst 0, 1) := by decide +kernel
theorem dX5_link_64 : decode cX5_link 64 = .ok (.ireturn, 1) := by decide +kernel
theorem dX5_link_65 : decode cX5_link 65 = .ok (.aload_n 0, 1) := by decide +kernel
theorem dX5_link_66 : decode cX5_link 66 = .ok (.getfield 25, 3) := by decide +kernel
theorem dX5_link_69 : decode cX5_link 69 = .ok (.aload_n 0, 1) := by decide +kernel
theorem dX5_link_70 : decode cX5_link 70 = .ok (.getfield 103, 3) := by decide +kernel
theorem dX5_link_73 : decode cX5_link 73 = .ok (.iload_n 1, 1) := by decide +kernel
theorem dX5_link_74 : decode cX5_link 74 = .ok (.iastore, 1) := by decide +kernel
theorem dX5_link_75 : decode cX5_link 75 = .ok (.aload_n 0, 1) := by decide +kernel
theorem dX5_link_76 : decode cX5_link 76 = .ok (.getfield 28, 3) := by decide +kernel
theorem dX5_link_79 : decode cX5_link 79 = .ok (.aload_n 0, 1) := by decide +kernel
theorem dX5_link_80 : decode cX5_link 80 = .ok (.getfield 103, 3) := by decide +kernel
theorem dX5_link_83 : decode cX5_link 83 = .ok (.iload_n 2, 1) := by decide +kernel
theorem dX5_link_84 : decode cX5_link 84 = .ok (.iastore, 1) := by decide +kernel
theorem dX5_link_85 : decode cX5_link 85 = .ok (.aload_n 0, 1) := by decide +kernel
theorem dX5_link_86 : decode cX5_link 86 = .ok (.getfield 31, 3) := by decide +kernel
theorem dX5_link_89 : decode cX5_link 89 = .ok (.aload_n 0, 1) := by decide +kernel
theorem dX5_link_90 : decode cX5_link 90 = .ok (.getfield 103, 3) := by decide +kernel
theorem dX5_link_93 : decode cX5_link 93 = .ok (.iload_n 3, 1) := by decide +kernel
theorem dX5_link_94 : decode cX5_link 94 = .ok (.iastore, 1) := by decide +kernel
theorem dX5_link_95 : decode cX5_link 95 = .ok (.aload_n 0, 1) := by decide +kernel
theorem dX5_link_96 : decode cX5_link 96 = .ok (.getfield 37, 3) := by decide +kernel
theorem dX5_link_99 : decode cX5_link 99 = .ok (.aload_n 0, 1) := by decide +kernel
theorem dX5_link_100 : decode cX5_link 100 = .ok (.getfield 103, 3) := by decide +kernel
theorem dX5_link_103 : decode cX5_link 103 = .ok (.aload_n 0, 1) := by decide +kernel
theorem dX5_link_104 : decode cX5_link 104 = .ok (.getfield 106, 3) := by decide +kernel
theorem dX5_link_107 : decode cX5_link 107 = .ok (.iastore, 1) := by decide +kernel
theorem dX5_link_108 : decode cX5_link 108 = .ok (.aload_n 0, 1) := by decide +kernel
theorem dX5_link_109 : decode cX5_link 109 = .ok (.dup, 1) := by decide +kernel
theorem dX5_link_110 : decode cX5_link 110 = .ok (.getfield 103, 3) := by decide +kernel
theorem dX5_link_113 : decode cX5_link 113 = .ok (.iconst 1, 1) := by decide +kernel
theorem dX5_link_114 : decode cX5_link 114 = .ok (.iadd, 1) := by decide +kernel
theorem dX5_link_115 : decode cX5_link 115 = .ok (.putfield 103, 3) := by decide +kernel
theorem dX5_link_118 : decode cX5_link 118 = .ok (.aload_n 0, 1) := by decide +kernel
theorem dX5_link_119 : decode cX5_link 119 = .ok (.getfield 103, 3) := by decide +kernel
theorem dX5_link_122 : decode cX5_link 122 = .ok (.iconst 1, 1) := by decide +kernel
theorem dX5_link_123 : decode cX5_link 123 = .ok (.isub, 1) := by decide +kernel
theorem dX5_link_124 : decode cX5_link 124 = .ok (.ireturn, 1) := by decide +kernel
set_option maxRecDepth 20000 in
theorem ggX5_isAmount_X5_in : GoodIn wsX5_isAmount wsX5_in := goodIn_r _ [4] (by decide +kernel) (by decide +kernel)
set_option maxRecDepth 20000 in
theorem gX5_isAmount_X5_in : GoodIn wsX5_isAmount (va_wsS RX5 99 yX5_in wsX5_in) := goodIn_app (goodIn_of _ (by decide +kernel)) ggX5_isAmount_X5_in
theorem dX5_isAmount_0 : decode cX5_isAmount 0 = .ok (.iload_n 0, 1) := by decide +kernel
theorem dX5_isAmount_1 : decode cX5_isAmount 1 = .ok (.ifCond .ne 16, 3) := by decide +kernel
theorem dX5_isAmount_4 : decode cX5_isAmount 4 = .ok (.iload_n 1, 1) := by decide +kernel
theorem dX5_isAmount_5 : decode cX5_isAmount 5 = .ok (.sipush (-500), 3) := by decide +kernel
theorem dX5_isAmount_8 : decode cX5_isAmount 8 = .ok (.sipush 500, 3) := by decide +kernel
theorem dX5_isAmount_11 : decode cX5_isAmount 11 = .ok (.invokestatic 99, 3) := by decide +kernel
theorem dX5_isAmount_14 : decode cX5_isAmount 14 = .ok (.goto 42, 3) := by decide +kernel
theorem dX5_isAmount_17 : decode cX5_isAmount 17 = .ok (.iload_n 0, 1) := by decide +kernel
theorem dX5_isAmount_18 : decode cX5_isAmount 18 = .ok (.iconst 1, 1) := by decide +kernel
theorem dX5_isAmount_19 : decode cX5_isAmount 19 = .ok (.if_icmp .ne 14, 3) := by decide +kernel
theorem dX5_isAmount_22 : decode cX5_isAmount 22 = .ok (.iload_n 1, 1) := by decide +kernel
theorem dX5_isAmount_23 : decode cX5_isAmount 23 = .ok (.iconst 0, 1) := by decide +kernel
theorem dX5_isAmount_24 : decode cX5_isAmount 24 = .ok (.sipush 5000, 3) := by decide +kernel
theorem dX5_isAmount_27 : decode cX5_isAmount 27 = .ok (.invokestatic 99, 3) := by decide +kernel
theorem dX5_isAmount_30 : decode cX5_isAmount 30 = .ok (.goto 26, 3) := by decide +kernel
theorem dX5_isAmount_33 : decode cX5_isAmount 33 = .ok (.iload_n 0, 1) := by decide +kernel
theorem dX5_isAmount_34 : decode cX5_isAmount 34 = .ok (.iconst 2, 1) := by decide +kernel
theorem dX5_isAmount_35 : decode cX5_isAmount 35 = .ok (.if_icmp .ne 14, 3) := by decide +kernel
theorem dX5_isAmount_38 : decode cX5_isAmount 38 = .ok (.iload_n 1, 1) := by decide +kernel
theorem dX5_isAmount_39 : decode cX5_isAmount 39 = .ok (.bipush (-50), 2) := by decide +kernel
theorem dX5_isAmount_41 : decode cX5_isAmount 41 = .ok (.bipush 50, 2) := by decide +kernel
theorem dX5_isAmount_43 : decode cX5_isAmount 43 = .ok (.invokestatic 99, 3) := by decide +kernel
theorem dX5_isAmount_46 : decode cX5_isAmount 46 = .ok (.goto 10, 3) := by decide +kernel
theorem dX5_isAmount_49 : decode cX5_isAmount 49 = .ok (.iload_n 1, 1) := by decide +kernel
theorem dX5_isAmount_50 : decode cX5_isAmount 50 = .ok (.bipush (-3), 2) := by decide +kernel
theorem dX5_isAmount_52 : decode cX5_isAmount 52 = .ok (.iconst 3, 1) := by decide +kernel
theorem dX5_isAmount_53 : decode cX5_isAmount 53 = .ok (.invokestatic 99, 3) := by decide +kernel
theorem dX5_isAmount_56 : decode cX5_isAmount 56 = .ok (.ireturn, 1) := by decide +kernel
set_option maxRecDepth 20000 in
theorem ggX5_event_X5_in : GoodIn wsX5_event wsX5_in := goodIn_r _ [10] (by decide +kernel) (by decide +kernel)
set_option maxRecDepth 20000 in
theorem gX5_event_X5_in : GoodIn wsX5_event (va_wsS RX5 99 yX5_in wsX5_in) := goodIn_app (goodIn_of _ (by decide +kernel)) ggX5_event_X5_in
set_option maxRecDepth 20000 in
theorem ggX5_event_X5_isClock : GoodIn wsX5_event wsX5_isClock := goodIn_r _ [14, 15, 7, 8, 9, 10, 29, 30, 31, 32, 33, 34, 35, 36, 37, 38, 39, 40, 41, 42, 43, 44, 45, 46, 47, 48, 49, 50, 51, 52, 53, 54, 55, 56, 57, 58, 59, 60, 61, 62] (by decide +kernel) (by decide +kernel)
set_option maxRecDepth 20000 in
theorem gX5_event_X5_isClock : GoodIn wsX5_event (wsV RX5 113 RX5 yX5_isClock wsX5_isClock) := goodIn_app (goodIn_of _ (by decide +kernel)) ggX5_event_X5_isClock
set_option maxRecDepth 20000 in
theorem ggX5_event_X5_isLink : GoodIn wsX5_event wsX5_isLink := goodIn_r _ [19, 20, 7, 8, 9, 10, 29, 30, 31, 32, 33, 34, 35, 36, 37, 38, 39, 40, 41, 42, 43, 44, 45, 46, 47, 48, 49, 50, 51, 52, 53, 54, 55, 56, 57, 58, 59, 60, 61, 62] (by decide +kernel) (by decide +kernel)
set_option maxRecDepth 20000 in
theorem gX5_event_X5_isLink : GoodIn wsX5_event (wsV RX5 117 RX5 yX5_isLink wsX5_isLink) := goodIn_app (goodIn_of _ (by decide +kernel)) ggX5_event_X5_isLink
set_option maxRecDepth 20000 in
theorem ggX5_event_X5_isAmount : GoodIn wsX5_event wsX5_isAmount := goodIn_r _ [23, 7, 8, 9, 10] (by decide +kernel) (by decide +kernel)
set_option maxRecDepth 20000 in
theorem gX5_event_X5_isAmount : GoodIn wsX5_event (va_wsS RX5 120 yX5_isAmount wsX5_isAmount) := goodIn_app (goodIn_of _ (by decide +kernel)) ggX5_event_X5_isAmount
set_option maxRecDepth 20000 in
theorem ggX5_event_X5_goes : GoodIn wsX5_event wsX5_goes := goodIn_r _ [27, 28, 29, 30, 31, 32, 33, 34, 35, 36, 37, 38, 39, 40, 41, 42, 43, 44, 45, 46, 47, 48, 49, 50, 51, 52, 53, 54, 55, 56, 57, 58, 59, 60, 61, 62] (by decide +kernel) (by decide +kernel)
set_option maxRecDepth 20000 in
theorem gX5_event_X5_goes : GoodIn wsX5_event (wsV RX5 109 RX5 yX5_goes wsX5_goes) := goodIn_app (goodIn_of _ (by decide +kernel)) ggX5_event_X5_goes
theorem dX5_event_0 : decode cX5_event 0 = .ok (.iload_n 1, 1) := by decide +kernel
theorem dX5_event_1 : decode cX5_event 1 = .ok (.aload_n 0, 1) := by decide +kernel
theorem dX5_event_2 : decode cX5_event 2 = .ok (.getfield 106, 3) := by decide +kernel
theorem dX5_event_5 : decode cX5_event 5 = .ok (.if_icmp .le 23, 3) := by decide +kernel
theorem dX5_event_8 : decode cX5_event 8 = .ok (.iload_n 1, 1) := by decide +kernel
theorem dX5_event_9 : decode cX5_event 9 = .ok (.sipush 500, 3) := by decide +kernel
theorem dX5_event_12 : decode cX5_event 12 = .ok (.if_icmp .gt 16, 3) := by decide +kernel
theorem dX5_event_15 : decode cX5_event 15 = .ok (.iload_n 2, 1) := by decide +kernel
theorem dX5_event_16 : decode cX5_event 16 = .ok (.iconst 0, 1) := by decide +kernel
theorem dX5_event_17 : decode cX5_event 17 = .ok (.iconst 3, 1) := by decide +kernel
theorem dX5_event_18 : decode cX5_event 18 = .ok (.invokestatic 99, 3) := by decide +kernel
theorem dX5_event_21 : decode cX5_event 21 = .ok (.ifCond .eq 7, 3) := by decide +kernel
theorem dX5_event_24 : decode cX5_event 24 = .ok (.iconst 1, 1) := by decide +kernel
theorem dX5_event_25 : decode cX5_event 25 = .ok (.goto 4, 3) := by decide +kernel
theorem dX5_event_28 : decode cX5_event 28 = .ok (.iconst 0, 1) := by decide +kernel
theorem dX5_event_29 : decode cX5_event 29 = .ok (.istore 5, 2) := by decide +kernel
theorem dX5_event_31 : decode cX5_event 31 = .ok (.iload_n 2, 1) := by decide +kernel
theorem dX5_event_32 : decode cX5_event 32 = .ok (.iconst 2, 1) := by decide +kernel
theorem dX5_event_33 : decode cX5_event 33 = .ok (.if_icmp .ge 11, 3) := by decide +kernel
theorem dX5_event_36 : decode cX5_event 36 = .ok (.aload_n 0, 1) := by decide +kernel
theorem dX5_event_37 : decode cX5_event 37 = .ok (.iload_n 3, 1) := by decide +kernel
theorem dX5_event_38 : decode cX5_event 38 = .ok (.invokevirtual 113, 3) := by decide +kernel
theorem dX5_event_41 : decode cX5_event 41 = .ok (.goto 8, 3) := by decide +kernel
theorem dX5_event_44 : decode cX5_event 44 = .ok (.aload_n 0, 1) := by decide +kernel
theorem dX5_event_45 : decode cX5_event 45 = .ok (.iload_n 3, 1) := by decide +kernel
theorem dX5_event_46 : decode cX5_event 46 = .ok (.invokevirtual 117, 3) := by decide +kernel
theorem dX5_event_49 : decode cX5_event 49 = .ok (.istore 6, 2) := by decide +kernel
theorem dX5_event_51 : decode cX5_event 51 = .ok (.aload_n 0, 1) := by decide +kernel
theorem dX5_event_52 : decode cX5_event 52 = .ok (.iload 5, 2) := by decide +kernel
theorem dX5_event_54 : decode cX5_event 54 = .ok (.iload 6, 2) := by decide +kernel
theorem dX5_event_56 : decode cX5_event 56 = .ok (.iload_n 2, 1) := by decide +kernel
theorem dX5_event_57 : decode cX5_event 57 = .ok (.iload 4, 2) := by decide +kernel
theorem dX5_event_59 : decode cX5_event 59 = .ok (.invokestatic 120, 3) := by decide +kernel
theorem dX5_event_62 : decode cX5_event 62 = .ok (.ifCond .eq 16, 3) := by decide +kernel
theorem dX5_event_65 : decode cX5_event 65 = .ok (.aload_n 0, 1) := by decide +kernel
theorem dX5_event_66 : decode cX5_event 66 = .ok (.getfield 124, 3) := by decide +kernel
theorem dX5_event_69 : decode cX5_event 69 = .ok (.bipush 40, 2) := by decide +kernel
theorem dX5_event_71 : decode cX5_event 71 = .ok (.if_icmp .ge 7, 3) := by decide +kernel
theorem dX5_event_74 : decode cX5_event 74 = .ok (.iconst 1, 1) := by decide +kernel
theorem dX5_event_75 : decode cX5_event 75 = .ok (.goto 4, 3) := by decide +kernel
theorem dX5_event_78 : decode cX5_event 78 = .ok (.iconst 0, 1) := by decide +kernel
theorem dX5_event_79 : decode cX5_event 79 = .ok (.invokevirtual 109, 3) := by decide +kernel
theorem dX5_event_82 : decode cX5_event 82 = .ok (.ifCond .ne 5, 3) := by decide +kernel
theorem dX5_event_85 : decode cX5_event 85 = .ok (.iconst 0, 1) := by decide +kernel
theorem dX5_event_86 : decode cX5_event 86 = .ok (.ireturn, 1) := by decide +kernel
theorem dX5_event_87 : decode cX5_event 87 = .ok (.aload_n 0, 1) := by decide +kernel
theorem dX5_event_88 : decode cX5_event 88 = .ok (.getfield 43, 3) := by decide +kernel
theorem dX5_event_91 : decode cX5_event 91 = .ok (.aload_n 0, 1) := by decide +kernel
theorem dX5_event_92 : decode cX5_event 92 = .ok (.getfield 124, 3) := by decide +kernel
theorem dX5_event_95 : decode cX5_event 95 = .ok (.iload_n 1, 1) := by decide +kernel
theorem dX5_event_96 : decode cX5_event 96 = .ok (.iastore, 1) := by decide +kernel
theorem dX5_event_97 : decode cX5_event 97 = .ok (.aload_n 0, 1) := by decide +kernel
theorem dX5_event_98 : decode cX5_event 98 = .ok (.getfield 46, 3) := by decide +kernel
theorem dX5_event_101 : decode cX5_event 101 = .ok (.aload_n 0, 1) := by decide +kernel
theorem dX5_event_102 : decode cX5_event 102 = .ok (.getfield 124, 3) := by decide +kernel
theorem dX5_event_105 : decode cX5_event 105 = .ok (.iload_n 2, 1) := by decide +kernel
theorem dX5_event_106 : decode cX5_event 106 = .ok (.iastore, 1) := by decide +kernel
theorem dX5_event_107 : decode cX5_event 107 = .ok (.aload_n 0, 1) := by decide +kernel
theorem dX5_event_108 : decode cX5_event 108 = .ok (.getfield 49, 3) := by decide +kernel
theorem dX5_event_111 : decode cX5_event 111 = .ok (.aload_n 0, 1) := by decide +kernel
theorem dX5_event_112 : decode cX5_event 112 = .ok (.getfield 124, 3) := by decide +kernel
theorem dX5_event_115 : decode cX5_event 115 = .ok (.iload_n 3, 1) := by decide +kernel
theorem dX5_event_116 : decode cX5_event 116 = .ok (.iastore, 1) := by decide +kernel
theorem dX5_event_117 : decode cX5_event 117 = .ok (.aload_n 0, 1) := by decide +kernel
theorem dX5_event_118 : decode cX5_event 118 = .ok (.getfield 52, 3) := by decide +kernel
theorem dX5_event_121 : decode cX5_event 121 = .ok (.aload_n 0, 1) := by decide +kernel
theorem dX5_event_122 : decode cX5_event 122 = .ok (.getfield 124, 3) := by decide +kernel
theorem dX5_event_125 : decode cX5_event 125 = .ok (.iload 4, 2) := by decide +kernel
theorem dX5_event_127 : decode cX5_event 127 = .ok (.iastore, 1) := by decide +kernel
theorem dX5_event_128 : decode cX5_event 128 = .ok (.aload_n 0, 1) := by decide +kernel
theorem dX5_event_129 : decode cX5_event 129 = .ok (.dup, 1) := by decide +kernel
theorem dX5_event_130 : decode cX5_event 130 = .ok (.getfield 124, 3) := by decide +kernel
theorem dX5_event_133 : decode cX5_event 133 = .ok (.iconst 1, 1) := by decide +kernel
theorem dX5_event_134 : decode cX5_event 134 = .ok (.iadd, 1) := by decide +kernel
theorem dX5_event_135 : decode cX5_event 135 = .ok (.putfield 124, 3) := by decide +kernel
theorem dX5_event_138 : decode cX5_event 138 = .ok (.aload_n 0, 1) := by decide +kernel
theorem dX5_event_139 : decode cX5_event 139 = .ok (.getfield 124, 3) := by decide +kernel
theorem dX5_event_142 : decode cX5_event 142 = .ok (.ireturn, 1) := by decide +kernel
set_option maxRecDepth 20000 in
theorem ggX5_calibrate_X5_isLink : GoodIn wsX5_calibrate wsX5_isLink := goodIn_r _ [9, 10, 11, 12, 8, 13, 19, 20, 21, 22, 23, 24, 25, 26, 27, 28, 29, 30, 31, 32, 33, 34, 35, 36, 37, 38, 39, 40, 41, 42, 43, 44, 45, 46, 47, 48, 49, 50, 51, 52] (by decide +kernel) (by decide +kernel)
set_option maxRecDepth 20000 in
theorem gX5_calibrate_X5_isLink : GoodIn wsX5_calibrate (wsV RX5 117 RX5 yX5_isLink wsX5_isLink) := goodIn_app (goodIn_of _ (by decide +kernel)) ggX5_calibrate_X5_isLink
set_option maxRecDepth 20000 in
theorem ggX5_calibrate_X5_in : GoodIn wsX5_calibrate wsX5_in := goodIn_r _ [13] (by decide +kernel) (by decide +kernel)
set_option maxRecDepth 20000 in
theorem gX5_calibrate_X5_in : GoodIn wsX5_calibrate (va_wsS RX5 99 yX5_in wsX5_in) := goodIn_app (goodIn_of _ (by decide +kernel)) ggX5_calibrate_X5_in
set_option maxRecDepth 20000 in
theorem ggX5_calibrate_X5_goes : GoodIn wsX5_calibrate wsX5_goes := goodIn_r _ [17, 18, 19, 20, 21, 22, 23, 24, 25, 26, 27, 28, 29, 30, 31, 32, 33, 34, 35, 36, 37, 38, 39, 40, 41, 42, 43, 44, 45, 46, 47, 48, 49, 50, 51, 52] (by decide +kernel) (by decide +kernel)
set_option maxRecDepth 20000 in
theorem gX5_calibrate_X5_goes : GoodIn wsX5_calibrate (wsV RX5 109 RX5 yX5_goes wsX5_goes) := goodIn_app (goodIn_of _ (by decide +kernel)) ggX5_calibrate_X5_goes
theorem dX5_calibrate_0 : decode cX5_calibrate 0 = .ok (.aload_n 0, 1) := by decide +kernel
theorem dX5_calibrate_1 : decode cX5_calibrate 1 = .ok (.iload_n 1, 1) := by decide +kernel
theorem dX5_calibrate_2 : decode cX5_calibrate 2 = .ok (.invokevirtual 117, 3) := by decide +kernel
theorem dX5_calibrate_5 : decode cX5_calibrate 5 = .ok (.istore 5, 2) := by decide +kernel
theorem dX5_calibrate_7 : decode cX5_calibrate 7 = .ok (.aload_n 0, 1) := by decide +kernel
theorem dX5_calibrate_8 : decode cX5_calibrate 8 = .ok (.iload 5, 2) := by decide +kernel
theorem dX5_calibrate_10 : decode cX5_calibrate 10 = .ok (.iload_n 2, 1) := by decide +kernel
theorem dX5_calibrate_11 : decode cX5_calibrate 11 = .ok (.iconst 0, 1) := by decide +kernel
theorem dX5_calibrate_12 : decode cX5_calibrate 12 = .ok (.sipush 500, 3) := by decide +kernel
theorem dX5_calibrate_15 : decode cX5_calibrate 15 = .ok (.invokestatic 99, 3) := by decide +kernel
theorem dX5_calibrate_18 : decode cX5_calibrate 18 = .ok (.ifCond .eq 32, 3) := by decide +kernel
theorem dX5_calibrate_21 : decode cX5_calibrate 21 = .ok (.iload_n 3, 1) := by decide +kernel
theorem dX5_calibrate_22 : decode cX5_calibrate 22 = .ok (.iload_n 2, 1) := by decide +kernel
theorem dX5_calibrate_23 : decode cX5_calibrate 23 = .ok (.sipush 500, 3) := by decide +kernel
theorem dX5_calibrate_26 : decode cX5_calibrate 26 = .ok (.invokestatic 99, 3) := by decide +kernel
theorem dX5_calibrate_29 : decode cX5_calibrate 29 = .ok (.ifCond .eq 21, 3) := by decide +kernel
theorem dX5_calibrate_32 : decode cX5_calibrate 32 = .ok (.iload 4, 2) := by decide +kernel
theorem dX5_calibrate_34 : decode cX5_calibrate 34 = .ok (.sipush (-10000), 3) := by decide +kernel
theorem dX5_calibrate_37 : decode cX5_calibrate 37 = .ok (.sipush 10000, 3) := by decide +kernel
theorem dX5_calibrate_40 : decode cX5_calibrate 40 = .ok (.invokestatic 99, 3) := by decide +kernel
theorem dX5_calibrate_43 : decode cX5_calibrate 43 = .ok (.ifCond .eq 7, 3) := by decide +kernel
theorem dX5_calibrate_46 : decode cX5_calibrate 46 = .ok (.iconst 1, 1) := by decide +kernel
theorem dX5_calibrate_47 : decode cX5_calibrate 47 = .ok (.goto 4, 3) := by decide +kernel
theorem dX5_calibrate_50 : decode cX5_calibrate 50 = .ok (.iconst 0, 1) := by decide +kernel
theorem dX5_calibrate_51 : decode cX5_calibrate 51 = .ok (.iload 5, 2) := by decide +kernel
theorem dX5_calibrate_53 : decode cX5_calibrate 53 = .ok (.ifCond .eq 27, 3) := by decide +kernel
theorem dX5_calibrate_56 : decode cX5_calibrate 56 = .ok (.aload_n 0, 1) := by decide +kernel
theorem dX5_calibrate_57 : decode cX5_calibrate 57 = .ok (.getfield 55, 3) := by decide +kernel
theorem dX5_calibrate_60 : decode cX5_calibrate 60 = .ok (.iload 5, 2) := by decide +kernel
theorem dX5_calibrate_62 : decode cX5_calibrate 62 = .ok (.ifCond .eq 7, 3) := by decide +kernel
theorem dX5_calibrate_65 : decode cX5_calibrate 65 = .ok (.iload_n 1, 1) := by decide +kernel
theorem dX5_calibrate_66 : decode cX5_calibrate 66 = .ok (.goto 4, 3) := by decide +kernel
theorem dX5_calibrate_69 : decode cX5_calibrate 69 = .ok (.iconst 0, 1) := by decide +kernel
theorem dX5_calibrate_70 : decode cX5_calibrate 70 = .ok (.iaload, 1) := by decide +kernel
theorem dX5_calibrate_71 : decode cX5_calibrate 71 = .ok (.bipush 10, 2) := by decide +kernel
theorem dX5_calibrate_73 : decode cX5_calibrate 73 = .ok (.if_icmp .ge 7, 3) := by decide +kernel
theorem dX5_calibrate_76 : decode cX5_calibrate 76 = .ok (.iconst 1, 1) := by decide +kernel
theorem dX5_calibrate_77 : decode cX5_calibrate 77 = .ok (.goto 4, 3) := by decide +kernel
theorem dX5_calibrate_80 : decode cX5_calibrate 80 = .ok (.iconst 0, 1) := by decide +kernel
theorem dX5_calibrate_81 : decode cX5_calibrate 81 = .ok (.invokevirtual 109, 3) := by decide +kernel
theorem dX5_calibrate_84 : decode cX5_calibrate 84 = .ok (.ifCond .ne 5, 3) := by decide +kernel
theorem dX5_calibrate_87 : decode cX5_calibrate 87 = .ok (.iconst 0, 1) := by decide +kernel
theorem dX5_calibrate_88 : decode cX5_calibrate 88 = .ok (.ireturn, 1) := by decide +kernel
theorem dX5_calibrate_89 : decode cX5_calibrate 89 = .ok (.bipush 10, 2) := by decide +kernel
theorem dX5_calibrate_91 : decode cX5_calibrate 91 = .ok (.iload_n 1, 1) := by decide +kernel
theorem dX5_calibrate_92 : decode cX5_calibrate 92 = .ok (.imul, 1) := by decide +kernel
theorem dX5_calibrate_93 : decode cX5_calibrate 93 = .ok (.aload_n 0, 1) := by decide +kernel
theorem dX5_calibrate_94 : decode cX5_calibrate 94 = .ok (.getfield 55, 3) := by decide +kernel
theorem dX5_calibrate_97 : decode cX5_calibrate 97 = .ok (.iload_n 1, 1) := by decide +kernel
theorem dX5_calibrate_98 : decode cX5_calibrate 98 = .ok (.iaload, 1) := by decide +kernel
theorem dX5_calibrate_99 : decode cX5_calibrate 99 = .ok (.iadd, 1) := by decide +kernel
theorem dX5_calibrate_100 : decode cX5_calibrate 100 = .ok (.istore 6, 2) := by decide +kernel
theorem dX5_calibrate_102 : decode cX5_calibrate 102 = .ok (.aload_n 0, 1) := by decide +kernel
theorem dX5_calibrate_103 : decode cX5_calibrate 103 = .ok (.getfield 58, 3) := by decide +kernel
theorem dX5_calibrate_106 : decode cX5_calibrate 106 = .ok (.iload 6, 2) := by decide +kernel
theorem dX5_calibrate_108 : decode cX5_calibrate 108 = .ok (.iload_n 2, 1) := by decide +kernel
theorem dX5_calibrate_109 : decode cX5_calibrate 109 = .ok (.iastore, 1) := by decide +kernel
theorem dX5_calibrate_110 : decode cX5_calibrate 110 = .ok (.aload_n 0, 1) := by decide +kernel
theorem dX5_calibrate_111 : decode cX5_calibrate 111 = .ok (.getfield 61, 3) := by decide +kernel
theorem dX5_calibrate_114 : decode cX5_calibrate 114 = .ok (.iload 6, 2) := by decide +kernel
theorem dX5_calibrate_116 : decode cX5_calibrate 116 = .ok (.iload_n 3, 1) := by decide +kernel
theorem dX5_calibrate_117 : decode cX5_calibrate 117 = .ok (.iastore, 1) := by decide +kernel
theorem dX5_calibrate_118 : decode cX5_calibrate 118 = .ok (.aload_n 0, 1) := by decide +kernel
theorem dX5_calibrate_119 : decode cX5_calibrate 119 = .ok (.getfield 64, 3) := by decide +kernel
theorem dX5_calibrate_122 : decode cX5_calibrate 122 = .ok (.iload 6, 2) := by decide +kernel
theorem dX5_calibrate_124 : decode cX5_calibrate 124 = .ok (.iload 4, 2) := by decide +kernel
theorem dX5_calibrate_126 : decode cX5_calibrate 126 = .ok (.iastore, 1) := by decide +kernel
theorem dX5_calibrate_127 : decode cX5_calibrate 127 = .ok (.aload_n 0, 1) := by decide +kernel
theorem dX5_calibrate_128 : decode cX5_calibrate 128 = .ok (.getfield 55, 3) := by decide +kernel
theorem dX5_calibrate_131 : decode cX5_calibrate 131 = .ok (.iload_n 1, 1) := by decide +kernel
theorem dX5_calibrate_132 : decode cX5_calibrate 132 = .ok (.dup2, 1) := by decide +kernel
theorem dX5_calibrate_133 : decode cX5_calibrate 133 = .ok (.iaload, 1) := by decide +kernel
theorem dX5_calibrate_134 : decode cX5_calibrate 134 = .ok (.iconst 1, 1) := by decide +kernel
theorem dX5_calibrate_135 : decode cX5_calibrate 135 = .ok (.iadd, 1) := by decide +kernel
theorem dX5_calibrate_136 : decode cX5_calibrate 136 = .ok (.iastore, 1) := by decide +kernel
theorem dX5_calibrate_137 : decode cX5_calibrate 137 = .ok (.aload_n 0, 1) := by decide +kernel
theorem dX5_calibrate_138 : decode cX5_calibrate 138 = .ok (.getfield 55, 3) := by decide +kernel
theorem dX5_calibrate_141 : decode cX5_calibrate 141 = .ok (.iload_n 1, 1) := by decide +kernel
theorem dX5_calibrate_142 : decode cX5_calibrate 142 = .ok (.iaload, 1) := by decide +kernel
theorem dX5_calibrate_143 : decode cX5_calibrate 143 = .ok (.ireturn, 1) := by decide +kernel
set_option maxRecDepth 20000 in
theorem ggX5_bounds_X5_in : GoodIn wsX5_bounds wsX5_in := goodIn_r _ [6] (by decide +kernel) (by decide +kernel)
set_option maxRecDepth 20000 in
theorem gX5_bounds_X5_in : GoodIn wsX5_bounds (va_wsS RX5 99 yX5_in wsX5_in) := goodIn_app (goodIn_of _ (by decide +kernel)) ggX5_bounds_X5_in
set_option maxRecDepth 20000 in
theorem ggX5_bounds_X5_goes : GoodIn wsX5_bounds wsX5_goes := goodIn_r _ [10, 11, 12, 13, 14, 15, 16, 17, 18, 19, 20, 21, 22, 23, 24, 25, 26, 27, 28, 29, 30, 31, 32, 33, 34, 35, 36, 37, 38, 39, 40, 41, 42, 43, 44, 45] (by decide +kernel) (by decide +kernel)
set_option maxRecDepth 20000 in
theorem gX5_bounds_X5_goes : GoodIn wsX5_bounds (wsV RX5 109 RX5 yX5_goes wsX5_goes) := goodIn_app (goodIn_of _ (by decide +kernel)) ggX5_bounds_X5_goes
theorem dX5_bounds_0 : decode cX5_bounds 0 = .ok (.aload_n 0, 1) := by decide +kernel
theorem dX5_bounds_1 : decode cX5_bounds 1 = .ok (.iload_n 1, 1) := by decide +kernel
theorem dX5_bounds_2 : decode cX5_bounds 2 = .ok (.iconst 0, 1) := by decide +kernel
theorem dX5_bounds_3 : decode cX5_bounds 3 = .ok (.sipush 499, 3) := by decide +kernel
theorem dX5_bounds_6 : decode cX5_bounds 6 = .ok (.invokestatic 99, 3) := by decide +kernel
theorem dX5_bounds_9 : decode cX5_bounds 9 = .ok (.ifCond .eq 18, 3) := by decide +kernel
theorem dX5_bounds_12 : decode cX5_bounds 12 = .ok (.iload_n 2, 1) := by decide +kernel
theorem dX5_bounds_13 : decode cX5_bounds 13 = .ok (.iconst 1, 1) := by decide +kernel
theorem dX5_bounds_14 : decode cX5_bounds 14 = .ok (.sipush 1000, 3) := by decide +kernel
theorem dX5_bounds_17 : decode cX5_bounds 17 = .ok (.invokestatic 99, 3) := by decide +kernel
theorem dX5_bounds_20 : decode cX5_bounds 20 = .ok (.ifCond .eq 7, 3) := by decide +kernel
theorem dX5_bounds_23 : decode cX5_bounds 23 = .ok (.iconst 1, 1) := by decide +kernel
theorem dX5_bounds_24 : decode cX5_bounds 24 = .ok (.goto 4, 3) := by decide +kernel
theorem dX5_bounds_27 : decode cX5_bounds 27 = .ok (.iconst 0, 1) := by decide +kernel
theorem dX5_bounds_28 : decode cX5_bounds 28 = .ok (.iconst 1, 1) := by decide +kernel
theorem dX5_bounds_29 : decode cX5_bounds 29 = .ok (.iconst 1, 1) := by decide +kernel
theorem dX5_bounds_30 : decode cX5_bounds 30 = .ok (.invokevirtual 109, 3) := by decide +kernel
theorem dX5_bounds_33 : decode cX5_bounds 33 = .ok (.ifCond .eq 13, 3) := by decide +kernel
theorem dX5_bounds_36 : decode cX5_bounds 36 = .ok (.aload_n 0, 1) := by decide +kernel
theorem dX5_bounds_37 : decode cX5_bounds 37 = .ok (.iload_n 1, 1) := by decide +kernel
theorem dX5_bounds_38 : decode cX5_bounds 38 = .ok (.putfield 86, 3) := by decide +kernel
theorem dX5_bounds_41 : decode cX5_bounds 41 = .ok (.aload_n 0, 1) := by decide +kernel
theorem dX5_bounds_42 : decode cX5_bounds 42 = .ok (.iload_n 2, 1) := by decide +kernel
theorem dX5_bounds_43 : decode cX5_bounds 43 = .ok (.putfield 90, 3) := by decide +kernel
theorem dX5_bounds_46 : decode cX5_bounds 46 = .ok (.return_, 1) := by decide +kernel
theorem dX5_isAhead_0 : decode cX5_isAhead 0 = .ok (.aload_n 0, 1) := by decide +kernel
theorem dX5_isAhead_1 : decode cX5_isAhead 1 = .ok (.getfield 46, 3) := by decide +kernel
theorem dX5_isAhead_4 : decode cX5_isAhead 4 = .ok (.iload_n 1, 1) := by decide +kernel
theorem dX5_isAhead_5 : decode cX5_isAhead 5 = .ok (.iaload, 1) := by decide +kernel
theorem dX5_isAhead_6 : decode cX5_isAhead 6 = .ok (.aload_n 0, 1) := by decide +kernel
theorem dX5_isAhead_7 : decode cX5_isAhead 7 = .ok (.getfield 46, 3) := by decide +kernel
theorem dX5_isAhead_10 : decode cX5_isAhead 10 = .ok (.iload_n 2, 1) := by decide +kernel
theorem dX5_isAhead_11 : decode cX5_isAhead 11 = .ok (.iaload, 1) := by decide +kernel
theorem dX5_isAhead_12 : decode cX5_isAhead 12 = .ok (.if_icmp .eq 26, 3) := by decide +kernel
theorem dX5_isAhead_15 : decode cX5_isAhead 15 = .ok (.aload_n 0, 1) := by decide +kernel
theorem dX5_isAhead_16 : decode cX5_isAhead 16 = .ok (.getfield 46, 3) := by decide +kernel
theorem dX5_isAhead_19 : decode cX5_isAhead 19 = .ok (.iload_n 1, 1) := by decide +kernel
theorem dX5_isAhead_20 : decode cX5_isAhead 20 = .ok (.iaload, 1) := by decide +kernel
theorem dX5_isAhead_21 : decode cX5_isAhead 21 = .ok (.aload_n 0, 1) := by decide +kernel
theorem dX5_isAhead_22 : decode cX5_isAhead 22 = .ok (.getfield 46, 3) := by decide +kernel
theorem dX5_isAhead_25 : decode cX5_isAhead 25 = .ok (.iload_n 2, 1) := by decide +kernel
theorem dX5_isAhead_26 : decode cX5_isAhead 26 = .ok (.iaload, 1) := by decide +kernel
theorem dX5_isAhead_27 : decode cX5_isAhead 27 = .ok (.if_icmp .ge 7, 3) := by decide +kernel
theorem dX5_isAhead_30 : decode cX5_isAhead 30 = .ok (.iconst 1, 1) := by decide +kernel
theorem dX5_isAhead_31 : decode cX5_isAhead 31 = .ok (.goto 65, 3) := by decide +kernel
theorem dX5_isAhead_34 : decode cX5_isAhead 34 = .ok (.iconst 0, 1) := by decide +kernel
theorem dX5_isAhead_35 : decode cX5_isAhead 35 = .ok (.goto 61, 3) := by decide +kernel
theorem dX5_isAhead_38 : decode cX5_isAhead 38 = .ok (.aload_n 0, 1) := by decide +kernel
theorem dX5_isAhead_39 : decode cX5_isAhead 39 = .ok (.getfield 49, 3) := by decide +kernel
theorem dX5_isAhead_42 : decode cX5_isAhead 42 = .ok (.iload_n 1, 1) := by decide +kernel
theorem dX5_isAhead_43 : decode cX5_isAhead 43 = .ok (.iaload, 1) := by decide +kernel
theorem dX5_isAhead_44 : decode cX5_isAhead 44 = .ok (.aload_n 0, 1) := by decide +kernel
theorem dX5_isAhead_45 : decode cX5_isAhead 45 = .ok (.getfield 49, 3) := by decide +kernel
theorem dX5_isAhead_48 : decode cX5_isAhead 48 = .ok (.iload_n 2, 1) := by decide +kernel
theorem dX5_isAhead_49 : decode cX5_isAhead 49 = .ok (.iaload, 1) := by decide +kernel
theorem dX5_isAhead_50 : decode cX5_isAhead 50 = .ok (.if_icmp .eq 26, 3) := by decide +kernel
theorem dX5_isAhead_53 : decode cX5_isAhead 53 = .ok (.aload_n 0, 1) := by decide +kernel
theorem dX5_isAhead_54 : decode cX5_isAhead 54 = .ok (.getfield 49, 3) := by decide +kernel
theorem dX5_isAhead_57 : decode cX5_isAhead 57 = .ok (.iload_n 1, 1) := by decide +kernel
theorem dX5_isAhead_58 : decode cX5_isAhead 58 = .ok (.iaload, 1) := by decide +kernel
theorem dX5_isAhead_59 : decode cX5_isAhead 59 = .ok (.aload_n 0, 1) := by decide +kernel
theorem dX5_isAhead_60 : decode cX5_isAhead 60 = .ok (.getfield 49, 3) := by decide +kernel
theorem dX5_isAhead_63 : decode cX5_isAhead 63 = .ok (.iload_n 2, 1) := by decide +kernel
theorem dX5_isAhead_64 : decode cX5_isAhead 64 = .ok (.iaload, 1) := by decide +kernel
theorem dX5_isAhead_65 : decode cX5_isAhead 65 = .ok (.if_icmp .ge 7, 3) := by decide +kernel
theorem dX5_isAhead_68 : decode cX5_isAhead 68 = .ok (.iconst 1, 1) := by decide +kernel
theorem dX5_isAhead_69 : decode cX5_isAhead 69 = .ok (.goto 27, 3) := by decide +kernel
theorem dX5_isAhead_72 : decode cX5_isAhead 72 = .ok (.iconst 0, 1) := by decide +kernel
theorem dX5_isAhead_73 : decode cX5_isAhead 73 = .ok (.goto 23, 3) := by decide +kernel
theorem dX5_isAhead_76 : decode cX5_isAhead 76 = .ok (.aload_n 0, 1) := by decide +kernel
theorem dX5_isAhead_77 : decode cX5_isAhead 77 = .ok (.getfield 52, 3) := by decide +kernel
theorem dX5_isAhead_80 : decode cX5_isAhead 80 = .ok (.iload_n 1, 1) := by decide +kernel
theorem dX5_isAhead_81 : decode cX5_isAhead 81 = .ok (.iaload, 1) := by decide +kernel
theorem dX5_isAhead_82 : decode cX5_isAhead 82 = .ok (.aload_n 0, 1) := by decide +kernel
theorem dX5_isAhead_83 : decode cX5_isAhead 83 = .ok (.getfield 52, 3) := by decide +kernel
theorem dX5_isAhead_86 : decode cX5_isAhead 86 = .ok (.iload_n 2, 1) := by decide +kernel
theorem dX5_isAhead_87 : decode cX5_isAhead 87 = .ok (.iaload, 1) := by decide +kernel
theorem dX5_isAhead_88 : decode cX5_isAhead 88 = .ok (.if_icmp .ge 7, 3) := by decide +kernel
theorem dX5_isAhead_91 : decode cX5_isAhead 91 = .ok (.iconst 1, 1) := by decide +kernel
theorem dX5_isAhead_92 : decode cX5_isAhead 92 = .ok (.goto 4, 3) := by decide +kernel
theorem dX5_isAhead_95 : decode cX5_isAhead 95 = .ok (.iconst 0, 1) := by decide +kernel
theorem dX5_isAhead_96 : decode cX5_isAhead 96 = .ok (.ireturn, 1) := by decide +kernel
set_option maxRecDepth 20000 in
theorem ggX5_next_X5_isAhead : GoodIn wsX5_next wsX5_isAhead := goodIn_r _ [8, 9, 10, 11, 12, 13, 14, 15, 16, 17, 18, 19, 20, 21, 22, 23, 24, 25, 26, 27, 28, 29, 30, 31, 32, 33, 34, 35, 36, 37, 38, 39, 40, 41, 42, 43, 44, 45] (by decide +kernel) (by decide +kernel)
set_option maxRecDepth 20000 in
theorem gX5_next_X5_isAhead : GoodIn wsX5_next (wsV RX5 127 RX5 yX5_isAhead wsX5_isAhead) := goodIn_app (goodIn_of _ (by decide +kernel)) ggX5_next_X5_isAhead
theorem dX5_next_0 : decode cX5_next 0 = .ok (.iconst (-1), 1) := by decide +kernel
theorem dX5_next_1 : decode cX5_next 1 = .ok (.istore_n 1, 1) := by decide +kernel
theorem dX5_next_2 : decode cX5_next 2 = .ok (.iconst 0, 1) := by decide +kernel
theorem dX5_next_3 : decode cX5_next 3 = .ok (.istore_n 2, 1) := by decide +kernel
theorem dX5_next_4 : decode cX5_next 4 = .ok (.iload_n 2, 1) := by decide +kernel
theorem dX5_next_5 : decode cX5_next 5 = .ok (.aload_n 0, 1) := by decide +kernel
theorem dX5_next_6 : decode cX5_next 6 = .ok (.getfield 124, 3) := by decide +kernel
theorem dX5_next_9 : decode cX5_next 9 = .ok (.if_icmp .ge 42, 3) := by decide +kernel
theorem dX5_next_12 : decode cX5_next 12 = .ok (.aload_n 0, 1) := by decide +kernel
theorem dX5_next_13 : decode cX5_next 13 = .ok (.getfield 43, 3) := by decide +kernel
theorem dX5_next_16 : decode cX5_next 16 = .ok (.iload_n 2, 1) := by decide +kernel
theorem dX5_next_17 : decode cX5_next 17 = .ok (.iaload, 1) := by decide +kernel
theorem dX5_next_18 : decode cX5_next 18 = .ok (.aload_n 0, 1) := by decide +kernel
theorem dX5_next_19 : decode cX5_next 19 = .ok (.getfield 106, 3) := by decide +kernel
theorem dX5_next_22 : decode cX5_next 22 = .ok (.if_icmp .ne 21, 3) := by decide +kernel
theorem dX5_next_25 : decode cX5_next 25 = .ok (.iload_n 1, 1) := by decide +kernel
theorem dX5_next_26 : decode cX5_next 26 = .ok (.iconst (-1), 1) := by decide +kernel
theorem dX5_next_27 : decode cX5_next 27 = .ok (.if_icmp .eq 12, 3) := by decide +kernel
theorem dX5_next_30 : decode cX5_next 30 = .ok (.aload_n 0, 1) := by decide +kernel
theorem dX5_next_31 : decode cX5_next 31 = .ok (.iload_n 2, 1) := by decide +kernel
theorem dX5_next_32 : decode cX5_next 32 = .ok (.iload_n 1, 1) := by decide +kernel
theorem dX5_next_33 : decode cX5_next 33 = .ok (.invokevirtual 127, 3) := by decide +kernel
theorem dX5_next_36 : decode cX5_next 36 = .ok (.ifCond .eq 7, 3) := by decide +kernel
theorem dX5_next_39 : decode cX5_next 39 = .ok (.iload_n 2, 1) := by decide +kernel
theorem dX5_next_40 : decode cX5_next 40 = .ok (.goto 4, 3) := by decide +kernel
theorem dX5_next_43 : decode cX5_next 43 = .ok (.iload_n 1, 1) := by decide +kernel
theorem dX5_next_44 : decode cX5_next 44 = .ok (.istore_n 1, 1) := by decide +kernel
theorem dX5_next_45 : decode cX5_next 45 = .ok (.iinc 2 1, 3) := by decide +kernel
theorem dX5_next_48 : decode cX5_next 48 = .ok (.goto (-44), 3) := by decide +kernel
theorem dX5_next_51 : decode cX5_next 51 = .ok (.iload_n 1, 1) := by decide +kernel
theorem dX5_next_52 : decode cX5_next 52 = .ok (.ireturn, 1) := by decide +kernel
set_option maxRecDepth 20000 in
theorem ggX5_comes_X5_held : GoodIn wsX5_comes wsX5_held := goodIn_r _ [13] (by decide +kernel) (by decide +kernel)
set_option maxRecDepth 20000 in
theorem gX5_comes_X5_held : GoodIn wsX5_comes (va_wsS RX5 130 yX5_held wsX5_held) := goodIn_app (goodIn_of _ (by decide +kernel)) ggX5_comes_X5_held
theorem dX5_comes_0 : decode cX5_comes 0 = .ok (.aload_n 0, 1) := by decide +kernel
theorem dX5_comes_1 : decode cX5_comes 1 = .ok (.getfield 49, 3) := by decide +kernel
theorem dX5_comes_4 : decode cX5_comes 4 = .ok (.iload_n 1, 1) := by decide +kernel
theorem dX5_comes_5 : decode cX5_comes 5 = .ok (.iaload, 1) := by decide +kernel
theorem dX5_comes_6 : decode cX5_comes 6 = .ok (.istore_n 2, 1) := by decide +kernel
theorem dX5_comes_7 : decode cX5_comes 7 = .ok (.aload_n 0, 1) := by decide +kernel
theorem dX5_comes_8 : decode cX5_comes 8 = .ok (.getfield 46, 3) := by decide +kernel
theorem dX5_comes_11 : decode cX5_comes 11 = .ok (.iload_n 1, 1) := by decide +kernel
theorem dX5_comes_12 : decode cX5_comes 12 = .ok (.iaload, 1) := by decide +kernel
theorem dX5_comes_13 : decode cX5_comes 13 = .ok (.ifCond .ne 31, 3) := by decide +kernel
theorem dX5_comes_16 : decode cX5_comes 16 = .ok (.aload_n 0, 1) := by decide +kernel
theorem dX5_comes_17 : decode cX5_comes 17 = .ok (.getfield 7, 3) := by decide +kernel
theorem dX5_comes_20 : decode cX5_comes 20 = .ok (.iload_n 2, 1) := by decide +kernel
theorem dX5_comes_21 : decode cX5_comes 21 = .ok (.aload_n 0, 1) := by decide +kernel
theorem dX5_comes_22 : decode cX5_comes 22 = .ok (.getfield 7, 3) := by decide +kernel
theorem dX5_comes_25 : decode cX5_comes 25 = .ok (.iload_n 2, 1) := by decide +kernel
theorem dX5_comes_26 : decode cX5_comes 26 = .ok (.iaload, 1) := by decide +kernel
theorem dX5_comes_27 : decode cX5_comes 27 = .ok (.aload_n 0, 1) := by decide +kernel
theorem dX5_comes_28 : decode cX5_comes 28 = .ok (.getfield 52, 3) := by decide +kernel
theorem dX5_comes_31 : decode cX5_comes 31 = .ok (.iload_n 1, 1) := by decide +kernel
theorem dX5_comes_32 : decode cX5_comes 32 = .ok (.iaload, 1) := by decide +kernel
theorem dX5_comes_33 : decode cX5_comes 33 = .ok (.iadd, 1) := by decide +kernel
theorem dX5_comes_34 : decode cX5_comes 34 = .ok (.sipush 5000, 3) := by decide +kernel
theorem dX5_comes_37 : decode cX5_comes 37 = .ok (.invokestatic 130, 3) := by decide +kernel
theorem dX5_comes_40 : decode cX5_comes 40 = .ok (.iastore, 1) := by decide +kernel
theorem dX5_comes_41 : decode cX5_comes 41 = .ok (.goto 68, 3) := by decide +kernel
theorem dX5_comes_44 : decode cX5_comes 44 = .ok (.aload_n 0, 1) := by decide +kernel
theorem dX5_comes_45 : decode cX5_comes 45 = .ok (.getfield 46, 3) := by decide +kernel
theorem dX5_comes_48 : decode cX5_comes 48 = .ok (.iload_n 1, 1) := by decide +kernel
theorem dX5_comes_49 : decode cX5_comes 49 = .ok (.iaload, 1) := by decide +kernel
theorem dX5_comes_50 : decode cX5_comes 50 = .ok (.iconst 1, 1) := by decide +kernel
theorem dX5_comes_51 : decode cX5_comes 51 = .ok (.if_icmp .ne 18, 3) := by decide +kernel
theorem dX5_comes_54 : decode cX5_comes 54 = .ok (.aload_n 0, 1) := by decide +kernel
theorem dX5_comes_55 : decode cX5_comes 55 = .ok (.getfield 16, 3) := by decide +kernel
theorem dX5_comes_58 : decode cX5_comes 58 = .ok (.iload_n 2, 1) := by decide +kernel
theorem dX5_comes_59 : decode cX5_comes 59 = .ok (.aload_n 0, 1) := by decide +kernel
theorem dX5_comes_60 : decode cX5_comes 60 = .ok (.getfield 52, 3) := by decide +kernel
theorem dX5_comes_63 : decode cX5_comes 63 = .ok (.iload_n 1, 1) := by decide +kernel
theorem dX5_comes_64 : decode cX5_comes 64 = .ok (.iaload, 1) := by decide +kernel
theorem dX5_comes_65 : decode cX5_comes 65 = .ok (.iastore, 1) := by decide +kernel
theorem dX5_comes_66 : decode cX5_comes 66 = .ok (.goto 43, 3) := by decide +kernel
theorem dX5_comes_69 : decode cX5_comes 69 = .ok (.aload_n 0, 1) := by decide +kernel
theorem dX5_comes_70 : decode cX5_comes 70 = .ok (.getfield 46, 3) := by decide +kernel
theorem dX5_comes_73 : decode cX5_comes 73 = .ok (.iload_n 1, 1) := by decide +kernel
theorem dX5_comes_74 : decode cX5_comes 74 = .ok (.iaload, 1) := by decide +kernel
theorem dX5_comes_75 : decode cX5_comes 75 = .ok (.iconst 2, 1) := by decide +kernel
theorem dX5_comes_76 : decode cX5_comes 76 = .ok (.if_icmp .ne 18, 3) := by decide +kernel
theorem dX5_comes_79 : decode cX5_comes 79 = .ok (.aload_n 0, 1) := by decide +kernel
theorem dX5_comes_80 : decode cX5_comes 80 = .ok (.getfield 31, 3) := by decide +kernel
theorem dX5_comes_83 : decode cX5_comes 83 = .ok (.iload_n 2, 1) := by decide +kernel
theorem dX5_comes_84 : decode cX5_comes 84 = .ok (.aload_n 0, 1) := by decide +kernel
theorem dX5_comes_85 : decode cX5_comes 85 = .ok (.getfield 52, 3) := by decide +kernel
theorem dX5_comes_88 : decode cX5_comes 88 = .ok (.iload_n 1, 1) := by decide +kernel
theorem dX5_comes_89 : decode cX5_comes 89 = .ok (.iaload, 1) := by decide +kernel
theorem dX5_comes_90 : decode cX5_comes 90 = .ok (.iastore, 1) := by decide +kernel
theorem dX5_comes_91 : decode cX5_comes 91 = .ok (.goto 18, 3) := by decide +kernel
theorem dX5_comes_94 : decode cX5_comes 94 = .ok (.aload_n 0, 1) := by decide +kernel
theorem dX5_comes_95 : decode cX5_comes 95 = .ok (.getfield 34, 3) := by decide +kernel
theorem dX5_comes_98 : decode cX5_comes 98 = .ok (.iload_n 2, 1) := by decide +kernel
theorem dX5_comes_99 : decode cX5_comes 99 = .ok (.dup2, 1) := by decide +kernel
theorem dX5_comes_100 : decode cX5_comes 100 = .ok (.iaload, 1) := by decide +kernel
theorem dX5_comes_101 : decode cX5_comes 101 = .ok (.aload_n 0, 1) := by decide +kernel
theorem dX5_comes_102 : decode cX5_comes 102 = .ok (.getfield 52, 3) := by decide +kernel
theorem dX5_comes_105 : decode cX5_comes 105 = .ok (.iload_n 1, 1) := by decide +kernel
theorem dX5_comes_106 : decode cX5_comes 106 = .ok (.iaload, 1) := by decide +kernel
theorem dX5_comes_107 : decode cX5_comes 107 = .ok (.iadd, 1) := by decide +kernel
theorem dX5_comes_108 : decode cX5_comes 108 = .ok (.iastore, 1) := by decide +kernel
theorem dX5_comes_109 : decode cX5_comes 109 = .ok (.aload_n 0, 1) := by decide +kernel
theorem dX5_comes_110 : decode cX5_comes 110 = .ok (.dup, 1) := by decide +kernel
theorem dX5_comes_111 : decode cX5_comes 111 = .ok (.getfield 124, 3) := by decide +kernel
theorem dX5_comes_114 : decode cX5_comes 114 = .ok (.iconst 1, 1) := by decide +kernel
theorem dX5_comes_115 : decode cX5_comes 115 = .ok (.isub, 1) := by decide +kernel
theorem dX5_comes_116 : decode cX5_comes 116 = .ok (.putfield 124, 3) := by decide +kernel
theorem dX5_comes_119 : decode cX5_comes 119 = .ok (.aload_n 0, 1) := by decide +kernel
theorem dX5_comes_120 : decode cX5_comes 120 = .ok (.getfield 43, 3) := by decide +kernel
theorem dX5_comes_123 : decode cX5_comes 123 = .ok (.iload_n 1, 1) := by decide +kernel
theorem dX5_comes_124 : decode cX5_comes 124 = .ok (.aload_n 0, 1) := by decide +kernel
theorem dX5_comes_125 : decode cX5_comes 125 = .ok (.getfield 43, 3) := by decide +kernel
theorem dX5_comes_128 : decode cX5_comes 128 = .ok (.aload_n 0, 1) := by decide +kernel
theorem dX5_comes_129 : decode cX5_comes 129 = .ok (.getfield 124, 3) := by decide +kernel
theorem dX5_comes_132 : decode cX5_comes 132 = .ok (.iaload, 1) := by decide +kernel
theorem dX5_comes_133 : decode cX5_comes 133 = .ok (.iastore, 1) := by decide +kernel
theorem dX5_comes_134 : decode cX5_comes 134 = .ok (.aload_n 0, 1) := by decide +kernel
theorem dX5_comes_135 : decode cX5_comes 135 = .ok (.getfield 46, 3) := by decide +kernel
theorem dX5_comes_138 : decode cX5_comes 138 = .ok (.iload_n 1, 1) := by decide +kernel
theorem dX5_comes_139 : decode cX5_comes 139 = .ok (.aload_n 0, 1) := by decide +kernel
theorem dX5_comes_140 : decode cX5_comes 140 = .ok (.getfield 46, 3) := by decide +kernel
theorem dX5_comes_143 : decode cX5_comes 143 = .ok (.aload_n 0, 1) := by decide +kernel
theorem dX5_comes_144 : decode cX5_comes 144 = .ok (.getfield 124, 3) := by decide +kernel
theorem dX5_comes_147 : decode cX5_comes 147 = .ok (.iaload, 1) := by decide +kernel
theorem dX5_comes_148 : decode cX5_comes 148 = .ok (.iastore, 1) := by decide +kernel
theorem dX5_comes_149 : decode cX5_comes 149 = .ok (.aload_n 0, 1) := by decide +kernel
theorem dX5_comes_150 : decode cX5_comes 150 = .ok (.getfield 49, 3) := by decide +kernel
theorem dX5_comes_153 : decode cX5_comes 153 = .ok (.iload_n 1, 1) := by decide +kernel
theorem dX5_comes_154 : decode cX5_comes 154 = .ok (.aload_n 0, 1) := by decide +kernel
theorem dX5_comes_155 : decode cX5_comes 155 = .ok (.getfield 49, 3) := by decide +kernel
theorem dX5_comes_158 : decode cX5_comes 158 = .ok (.aload_n 0, 1) := by decide +kernel
theorem dX5_comes_159 : decode cX5_comes 159 = .ok (.getfield 124, 3) := by decide +kernel
theorem dX5_comes_162 : decode cX5_comes 162 = .ok (.iaload, 1) := by decide +kernel
theorem dX5_comes_163 : decode cX5_comes 163 = .ok (.iastore, 1) := by decide +kernel
theorem dX5_comes_164 : decode cX5_comes 164 = .ok (.aload_n 0, 1) := by decide +kernel
theorem dX5_comes_165 : decode cX5_comes 165 = .ok (.getfield 52, 3) := by decide +kernel
theorem dX5_comes_168 : decode cX5_comes 168 = .ok (.iload_n 1, 1) := by decide +kernel
theorem dX5_comes_169 : decode cX5_comes 169 = .ok (.aload_n 0, 1) := by decide +kernel
theorem dX5_comes_170 : decode cX5_comes 170 = .ok (.getfield 52, 3) := by decide +kernel
theorem dX5_comes_173 : decode cX5_comes 173 = .ok (.aload_n 0, 1) := by decide +kernel
theorem dX5_comes_174 : decode cX5_comes 174 = .ok (.getfield 124, 3) := by decide +kernel
theorem dX5_comes_177 : decode cX5_comes 177 = .ok (.iaload, 1) := by decide +kernel
theorem dX5_comes_178 : decode cX5_comes 178 = .ok (.iastore, 1) := by decide +kernel
theorem dX5_comes_179 : decode cX5_comes 179 = .ok (.return_, 1) := by decide +kernel
set_option maxRecDepth 20000 in
theorem ggX5_passes_X5_next : GoodIn wsX5_passes wsX5_next := goodIn_r _ [19, 20, 21, 1, 22, 23, 24, 18, 25, 26, 27, 28, 69, 70, 71, 72, 73, 74, 75, 76, 77, 78, 79, 80, 81, 82, 83, 84, 85, 86, 87, 88, 89, 90, 91, 92, 93, 94, 95, 96, 97, 98, 99, 100, 101, 102] (by decide +kernel) (by decide +kernel)
set_option maxRecDepth 20000 in
theorem gX5_passes_X5_next : GoodIn wsX5_passes (wsV RX5 134 RX5 yX5_next wsX5_next) := goodIn_app (goodIn_of _ (by decide +kernel)) ggX5_passes_X5_next
set_option maxRecDepth 20000 in
theorem ggX5_passes_X5_comes : GoodIn wsX5_passes wsX5_comes := goodIn_r _ [32, 27, 26, 4, 28, 5, 11, 12, 20, 21, 33, 34, 18, 35, 69, 70, 71, 72, 73, 74, 75, 76, 77, 78, 79, 80, 81, 82, 83, 84, 85, 86, 87, 88, 89, 90, 91, 92, 93, 94, 95, 96, 97, 98, 99, 100, 101, 102] (by decide +kernel) (by decide +kernel)
set_option maxRecDepth 20000 in
theorem gX5_passes_X5_comes : GoodIn wsX5_passes (wsV RX5 138 RX5 yX5_comes wsX5_comes) := goodIn_app (goodIn_of _ (by decide +kernel)) ggX5_passes_X5_comes
set_option maxRecDepth 20000 in
theorem ggX5_passes_X5_held : GoodIn wsX5_passes wsX5_held := goodIn_r _ [35] (by decide +kernel) (by decide +kernel)
set_option maxRecDepth 20000 in
theorem gX5_passes_X5_held : GoodIn wsX5_passes (va_wsS RX5 130 yX5_held wsX5_held) := goodIn_app (goodIn_of _ (by decide +kernel)) ggX5_passes_X5_held
set_option maxRecDepth 20000 in
theorem ggX5_passes_X5_meanOf : GoodIn wsX5_passes wsX5_meanOf := goodIn_r _ [39, 2, 40, 9, 41, 42, 43, 18, 44, 7, 10, 45, 46, 47, 48, 49, 50, 51, 52, 53, 54, 55, 56, 57, 58, 59, 60, 1, 61, 62, 63, 64, 8, 65, 66, 67, 68, 69, 70, 71, 72, 73, 74, 75, 76, 77, 78, 79, 80, 81, 82, 83, 84, 85, 86, 87, 88, 89, 90, 91, 92, 93, 94, 95, 96, 97, 98, 99, 100, 101, 102] (by decide +kernel) (by decide +kernel)
set_option maxRecDepth 20000 in
theorem gX5_passes_X5_meanOf : GoodIn wsX5_passes (wsV RX5 142 RX5 yX5_meanOf wsX5_meanOf) := goodIn_app (goodIn_of _ (by decide +kernel)) ggX5_passes_X5_meanOf
theorem dX5_passes_0 : decode cX5_passes 0 = .ok (.aload_n 0, 1) := by decide +kernel
theorem dX5_passes_1 : decode cX5_passes 1 = .ok (.dup, 1) := by decide +kernel
theorem dX5_passes_2 : decode cX5_passes 2 = .ok (.getfield 106, 3) := by decide +kernel
theorem dX5_passes_5 : decode cX5_passes 5 = .ok (.iconst 1, 1) := by decide +kernel
theorem dX5_passes_6 : decode cX5_passes 6 = .ok (.iadd, 1) := by decide +kernel
theorem dX5_passes_7 : decode cX5_passes 7 = .ok (.putfield 106, 3) := by decide +kernel
theorem dX5_passes_10 : decode cX5_passes 10 = .ok (.aload_n 0, 1) := by decide +kernel
theorem dX5_passes_11 : decode cX5_passes 11 = .ok (.invokevirtual 134, 3) := by decide +kernel
theorem dX5_passes_14 : decode cX5_passes 14 = .ok (.istore_n 1, 1) := by decide +kernel
theorem dX5_passes_15 : decode cX5_passes 15 = .ok (.iload_n 1, 1) := by decide +kernel
theorem dX5_passes_16 : decode cX5_passes 16 = .ok (.iconst (-1), 1) := by decide +kernel
theorem dX5_passes_17 : decode cX5_passes 17 = .ok (.if_icmp .eq 16, 3) := by decide +kernel
theorem dX5_passes_20 : decode cX5_passes 20 = .ok (.aload_n 0, 1) := by decide +kernel
theorem dX5_passes_21 : decode cX5_passes 21 = .ok (.iload_n 1, 1) := by decide +kernel
theorem dX5_passes_22 : decode cX5_passes 22 = .ok (.invokevirtual 138, 3) := by decide +kernel
theorem dX5_passes_25 : decode cX5_passes 25 = .ok (.aload_n 0, 1) := by decide +kernel
theorem dX5_passes_26 : decode cX5_passes 26 = .ok (.invokevirtual 134, 3) := by decide +kernel
theorem dX5_passes_29 : decode cX5_passes 29 = .ok (.istore_n 1, 1) := by decide +kernel
theorem dX5_passes_30 : decode cX5_passes 30 = .ok (.goto (-15), 3) := by decide +kernel
theorem dX5_passes_33 : decode cX5_passes 33 = .ok (.iconst 0, 1) := by decide +kernel
theorem dX5_passes_34 : decode cX5_passes 34 = .ok (.istore_n 1, 1) := by decide +kernel
theorem dX5_passes_35 : decode cX5_passes 35 = .ok (.iload_n 1, 1) := by decide +kernel
theorem dX5_passes_36 : decode cX5_passes 36 = .ok (.aload_n 0, 1) := by decide +kernel
theorem dX5_passes_37 : decode cX5_passes 37 = .ok (.getfield 96, 3) := by decide +kernel
theorem dX5_passes_40 : decode cX5_passes 40 = .ok (.if_icmp .ge 78, 3) := by decide +kernel
theorem dX5_passes_43 : decode cX5_passes 43 = .ok (.aload_n 0, 1) := by decide +kernel
theorem dX5_passes_44 : decode cX5_passes 44 = .ok (.getfield 19, 3) := by decide +kernel
theorem dX5_passes_47 : decode cX5_passes 47 = .ok (.iload_n 1, 1) := by decide +kernel
theorem dX5_passes_48 : decode cX5_passes 48 = .ok (.dup2, 1) := by decide +kernel
theorem dX5_passes_49 : decode cX5_passes 49 = .ok (.iaload, 1) := by decide +kernel
theorem dX5_passes_50 : decode cX5_passes 50 = .ok (.aload_n 0, 1) := by decide +kernel
theorem dX5_passes_51 : decode cX5_passes 51 = .ok (.getfield 7, 3) := by decide +kernel
theorem dX5_passes_54 : decode cX5_passes 54 = .ok (.iload_n 1, 1) := by decide +kernel
theorem dX5_passes_55 : decode cX5_passes 55 = .ok (.iaload, 1) := by decide +kernel
theorem dX5_passes_56 : decode cX5_passes 56 = .ok (.aload_n 0, 1) := by decide +kernel
theorem dX5_passes_57 : decode cX5_passes 57 = .ok (.getfield 16, 3) := by decide +kernel
theorem dX5_passes_60 : decode cX5_passes 60 = .ok (.iload_n 1, 1) := by decide +kernel
theorem dX5_passes_61 : decode cX5_passes 61 = .ok (.iaload, 1) := by decide +kernel
theorem dX5_passes_62 : decode cX5_passes 62 = .ok (.bipush 100, 2) := by decide +kernel
theorem dX5_passes_64 : decode cX5_passes 64 = .ok (.idiv, 1) := by decide +kernel
theorem dX5_passes_65 : decode cX5_passes 65 = .ok (.iadd, 1) := by decide +kernel
theorem dX5_passes_66 : decode cX5_passes 66 = .ok (.iadd, 1) := by decide +kernel
theorem dX5_passes_67 : decode cX5_passes 67 = .ok (.iastore, 1) := by decide +kernel
theorem dX5_passes_68 : decode cX5_passes 68 = .ok (.aload_n 0, 1) := by decide +kernel
theorem dX5_passes_69 : decode cX5_passes 69 = .ok (.getfield 7, 3) := by decide +kernel
theorem dX5_passes_72 : decode cX5_passes 72 = .ok (.iload_n 1, 1) := by decide +kernel
theorem dX5_passes_73 : decode cX5_passes 73 = .ok (.aload_n 0, 1) := by decide +kernel
theorem dX5_passes_74 : decode cX5_passes 74 = .ok (.getfield 106, 3) := by decide +kernel
theorem dX5_passes_77 : decode cX5_passes 77 = .ok (.bipush 10, 2) := by decide +kernel
theorem dX5_passes_79 : decode cX5_passes 79 = .ok (.irem, 1) := by decide +kernel
theorem dX5_passes_80 : decode cX5_passes 80 = .ok (.ifCond .ne 25, 3) := by decide +kernel
theorem dX5_passes_83 : decode cX5_passes 83 = .ok (.aload_n 0, 1) := by decide +kernel
theorem dX5_passes_84 : decode cX5_passes 84 = .ok (.getfield 7, 3) := by decide +kernel
theorem dX5_passes_87 : decode cX5_passes 87 = .ok (.iload_n 1, 1) := by decide +kernel
theorem dX5_passes_88 : decode cX5_passes 88 = .ok (.iaload, 1) := by decide +kernel
theorem dX5_passes_89 : decode cX5_passes 89 = .ok (.aload_n 0, 1) := by decide +kernel
theorem dX5_passes_90 : decode cX5_passes 90 = .ok (.getfield 13, 3) := by decide +kernel
theorem dX5_passes_93 : decode cX5_passes 93 = .ok (.iload_n 1, 1) := by decide +kernel
theorem dX5_passes_94 : decode cX5_passes 94 = .ok (.iaload, 1) := by decide +kernel
theorem dX5_passes_95 : decode cX5_passes 95 = .ok (.iadd, 1) := by decide +kernel
theorem dX5_passes_96 : decode cX5_passes 96 = .ok (.sipush 5000, 3) := by decide +kernel
theorem dX5_passes_99 : decode cX5_passes 99 = .ok (.invokestatic 130, 3) := by decide +kernel
theorem dX5_passes_102 : decode cX5_passes 102 = .ok (.goto 9, 3) := by decide +kernel
theorem dX5_passes_105 : decode cX5_passes 105 = .ok (.aload_n 0, 1) := by decide +kernel
theorem dX5_passes_106 : decode cX5_passes 106 = .ok (.getfield 7, 3) := by decide +kernel
theorem dX5_passes_109 : decode cX5_passes 109 = .ok (.iload_n 1, 1) := by decide +kernel
theorem dX5_passes_110 : decode cX5_passes 110 = .ok (.iaload, 1) := by decide +kernel
theorem dX5_passes_111 : decode cX5_passes 111 = .ok (.iastore, 1) := by decide +kernel
theorem dX5_passes_112 : decode cX5_passes 112 = .ok (.iinc 1 1, 3) := by decide +kernel
theorem dX5_passes_115 : decode cX5_passes 115 = .ok (.goto (-80), 3) := by decide +kernel
theorem dX5_passes_118 : decode cX5_passes 118 = .ok (.iconst 0, 1) := by decide +kernel
theorem dX5_passes_119 : decode cX5_passes 119 = .ok (.istore_n 1, 1) := by decide +kernel
theorem dX5_passes_120 : decode cX5_passes 120 = .ok (.iload_n 1, 1) := by decide +kernel
theorem dX5_passes_121 : decode cX5_passes 121 = .ok (.aload_n 0, 1) := by decide +kernel
theorem dX5_passes_122 : decode cX5_passes 122 = .ok (.getfield 103, 3) := by decide +kernel
theorem dX5_passes_125 : decode cX5_passes 125 = .ok (.if_icmp .ge 66, 3) := by decide +kernel
theorem dX5_passes_128 : decode cX5_passes 128 = .ok (.aload_n 0, 1) := by decide +kernel
theorem dX5_passes_129 : decode cX5_passes 129 = .ok (.getfield 40, 3) := by decide +kernel
theorem dX5_passes_132 : decode cX5_passes 132 = .ok (.bipush 8, 2) := by decide +kernel
theorem dX5_passes_134 : decode cX5_passes 134 = .ok (.aload_n 0, 1) := by decide +kernel
theorem dX5_passes_135 : decode cX5_passes 135 = .ok (.getfield 106, 3) := by decide +kernel
theorem dX5_passes_138 : decode cX5_passes 138 = .ok (.iconst 1, 1) := by decide +kernel
theorem dX5_passes_139 : decode cX5_passes 139 = .ok (.isub, 1) := by decide +kernel
theorem dX5_passes_140 : decode cX5_passes 140 = .ok (.imul, 1) := by decide +kernel
theorem dX5_passes_141 : decode cX5_passes 141 = .ok (.iload_n 1, 1) := by decide +kernel
theorem dX5_passes_142 : decode cX5_passes 142 = .ok (.iadd, 1) := by decide +kernel
theorem dX5_passes_143 : decode cX5_passes 143 = .ok (.aload_n 0, 1) := by decide +kernel
theorem dX5_passes_144 : decode cX5_passes 144 = .ok (.getfield 19, 3) := by decide +kernel
theorem dX5_passes_147 : decode cX5_passes 147 = .ok (.aload_n 0, 1) := by decide +kernel
theorem dX5_passes_148 : decode cX5_passes 148 = .ok (.getfield 25, 3) := by decide +kernel
theorem dX5_passes_151 : decode cX5_passes 151 = .ok (.iload_n 1, 1) := by decide +kernel
theorem dX5_passes_152 : decode cX5_passes 152 = .ok (.iaload, 1) := by decide +kernel
theorem dX5_passes_153 : decode cX5_passes 153 = .ok (.iaload, 1) := by decide +kernel
theorem dX5_passes_154 : decode cX5_passes 154 = .ok (.aload_n 0, 1) := by decide +kernel
theorem dX5_passes_155 : decode cX5_passes 155 = .ok (.getfield 19, 3) := by decide +kernel
theorem dX5_passes_158 : decode cX5_passes 158 = .ok (.aload_n 0, 1) := by decide +kernel
theorem dX5_passes_159 : decode cX5_passes 159 = .ok (.getfield 28, 3) := by decide +kernel
theorem dX5_passes_162 : decode cX5_passes 162 = .ok (.iload_n 1, 1) := by decide +kernel
theorem dX5_passes_163 : decode cX5_passes 163 = .ok (.iaload, 1) := by decide +kernel
theorem dX5_passes_164 : decode cX5_passes 164 = .ok (.iaload, 1) := by decide +kernel
theorem dX5_passes_165 : decode cX5_passes 165 = .ok (.isub, 1) := by decide +kernel
theorem dX5_passes_166 : decode cX5_passes 166 = .ok (.aload_n 0, 1) := by decide +kernel
theorem dX5_passes_167 : decode cX5_passes 167 = .ok (.getfield 31, 3) := by decide +kernel
theorem dX5_passes_170 : decode cX5_passes 170 = .ok (.iload_n 1, 1) := by decide +kernel
theorem dX5_passes_171 : decode cX5_passes 171 = .ok (.iaload, 1) := by decide +kernel
theorem dX5_passes_172 : decode cX5_passes 172 = .ok (.iadd, 1) := by decide +kernel
theorem dX5_passes_173 : decode cX5_passes 173 = .ok (.sipush 1000, 3) := by decide +kernel
theorem dX5_passes_176 : decode cX5_passes 176 = .ok (.aload_n 0, 1) := by decide +kernel
theorem dX5_passes_177 : decode cX5_passes 177 = .ok (.getfield 34, 3) := by decide +kernel
theorem dX5_passes_180 : decode cX5_passes 180 = .ok (.iload_n 1, 1) := by decide +kernel
theorem dX5_passes_181 : decode cX5_passes 181 = .ok (.iaload, 1) := by decide +kernel
theorem dX5_passes_182 : decode cX5_passes 182 = .ok (.imul, 1) := by decide +kernel
theorem dX5_passes_183 : decode cX5_passes 183 = .ok (.iadd, 1) := by decide +kernel
theorem dX5_passes_184 : decode cX5_passes 184 = .ok (.iastore, 1) := by decide +kernel
theorem dX5_passes_185 : decode cX5_passes 185 = .ok (.iinc 1 1, 3) := by decide +kernel
theorem dX5_passes_188 : decode cX5_passes 188 = .ok (.goto (-68), 3) := by decide +kernel
theorem dX5_passes_191 : decode cX5_passes 191 = .ok (.aload_n 0, 1) := by decide +kernel
theorem dX5_passes_192 : decode cX5_passes 192 = .ok (.getfield 67, 3) := by decide +kernel
theorem dX5_passes_195 : decode cX5_passes 195 = .ok (.aload_n 0, 1) := by decide +kernel
theorem dX5_passes_196 : decode cX5_passes 196 = .ok (.getfield 106, 3) := by decide +kernel
theorem dX5_passes_199 : decode cX5_passes 199 = .ok (.aload_n 0, 1) := by decide +kernel
theorem dX5_passes_200 : decode cX5_passes 200 = .ok (.getfield 67, 3) := by decide +kernel
theorem dX5_passes_203 : decode cX5_passes 203 = .ok (.aload_n 0, 1) := by decide +kernel
theorem dX5_passes_204 : decode cX5_passes 204 = .ok (.getfield 106, 3) := by decide +kernel
theorem dX5_passes_207 : decode cX5_passes 207 = .ok (.iconst 1, 1) := by decide +kernel
theorem dX5_passes_208 : decode cX5_passes 208 = .ok (.isub, 1) := by decide +kernel
theorem dX5_passes_209 : decode cX5_passes 209 = .ok (.iaload, 1) := by decide +kernel
theorem dX5_passes_210 : decode cX5_passes 210 = .ok (.aload_n 0, 1) := by decide +kernel
theorem dX5_passes_211 : decode cX5_passes 211 = .ok (.aload_n 0, 1) := by decide +kernel
theorem dX5_passes_212 : decode cX5_passes 212 = .ok (.getfield 106, 3) := by decide +kernel
theorem dX5_passes_215 : decode cX5_passes 215 = .ok (.invokevirtual 142, 3) := by decide +kernel
theorem dX5_passes_218 : decode cX5_passes 218 = .ok (.aload_n 0, 1) := by decide +kernel
theorem dX5_passes_219 : decode cX5_passes 219 = .ok (.getfield 67, 3) := by decide +kernel
theorem dX5_passes_222 : decode cX5_passes 222 = .ok (.aload_n 0, 1) := by decide +kernel
theorem dX5_passes_223 : decode cX5_passes 223 = .ok (.getfield 106, 3) := by decide +kernel
theorem dX5_passes_226 : decode cX5_passes 226 = .ok (.iconst 1, 1) := by decide +kernel
theorem dX5_passes_227 : decode cX5_passes 227 = .ok (.isub, 1) := by decide +kernel
theorem dX5_passes_228 : decode cX5_passes 228 = .ok (.iaload, 1) := by decide +kernel
theorem dX5_passes_229 : decode cX5_passes 229 = .ok (.isub, 1) := by decide +kernel
theorem dX5_passes_230 : decode cX5_passes 230 = .ok (.aload_n 0, 1) := by decide +kernel
theorem dX5_passes_231 : decode cX5_passes 231 = .ok (.getfield 90, 3) := by decide +kernel
theorem dX5_passes_234 : decode cX5_passes 234 = .ok (.invokestatic 130, 3) := by decide +kernel
theorem dX5_passes_237 : decode cX5_passes 237 = .ok (.iadd, 1) := by decide +kernel
theorem dX5_passes_238 : decode cX5_passes 238 = .ok (.iastore, 1) := by decide +kernel
theorem dX5_passes_239 : decode cX5_passes 239 = .ok (.return_, 1) := by decide +kernel
set_option maxRecDepth 20000 in
theorem ggX5_pass_X5_in : GoodIn wsX5_pass wsX5_in := goodIn_r _ [5] (by decide +kernel) (by decide +kernel)
set_option maxRecDepth 20000 in
theorem gX5_pass_X5_in : GoodIn wsX5_pass (va_wsS RX5 99 yX5_in wsX5_in) := goodIn_app (goodIn_of _ (by decide +kernel)) ggX5_pass_X5_in
set_option maxRecDepth 20000 in
theorem ggX5_pass_X5_goes : GoodIn wsX5_pass wsX5_goes := goodIn_r _ [9, 10, 78, 79, 80, 81, 82, 83, 84, 85, 86, 87, 88, 89, 90, 91, 92, 93, 94, 95, 96, 97, 98, 99, 100, 101, 102, 103, 104, 105, 106, 107, 108, 109, 110, 111] (by decide +kernel) (by decide +kernel)
set_option maxRecDepth 20000 in
theorem gX5_pass_X5_goes : GoodIn wsX5_pass (wsV RX5 109 RX5 yX5_goes wsX5_goes) := goodIn_app (goodIn_of _ (by decide +kernel)) ggX5_pass_X5_goes
set_option maxRecDepth 20000 in
theorem ggX5_pass_X5_passes : GoodIn wsX5_pass wsX5_passes := goodIn_r _ [14, 1, 15, 16, 17, 18, 19, 20, 21, 22, 23, 24, 25, 26, 27, 28, 29, 30, 4, 31, 32, 33, 34, 35, 36, 37, 38, 39, 40, 41, 42, 43, 44, 45, 46, 47, 48, 49, 50, 51, 52, 53, 54, 55, 56, 57, 58, 59, 60, 61, 62, 63, 64, 65, 2, 3, 5, 66, 67, 68, 69, 70, 71, 72, 73, 74, 75, 76, 77, 78, 79, 80, 81, 82, 83, 84, 85, 86, 87, 88, 89, 90, 91, 92, 93, 94, 95, 96, 97, 98, 99, 100, 101, 102, 103, 104, 105, 106, 107, 108, 109, 110, 111] (by decide +kernel) (by decide +kernel)
set_option maxRecDepth 20000 in
theorem gX5_pass_X5_passes : GoodIn wsX5_pass (wsV RX5 146 RX5 yX5_passes wsX5_passes) := goodIn_app (goodIn_of _ (by decide +kernel)) ggX5_pass_X5_passes
theorem dX5_pass_0 : decode cX5_pass 0 = .ok (.aload_n 0, 1) := by decide +kernel
theorem dX5_pass_1 : decode cX5_pass 1 = .ok (.iload_n 1, 1) := by decide +kernel
theorem dX5_pass_2 : decode cX5_pass 2 = .ok (.iconst 1, 1) := by decide +kernel
theorem dX5_pass_3 : decode cX5_pass 3 = .ok (.bipush 50, 2) := by decide +kernel
theorem dX5_pass_5 : decode cX5_pass 5 = .ok (.invokestatic 99, 3) := by decide +kernel
theorem dX5_pass_8 : decode cX5_pass 8 = .ok (.aload_n 0, 1) := by decide +kernel
theorem dX5_pass_9 : decode cX5_pass 9 = .ok (.getfield 106, 3) := by decide +kernel
theorem dX5_pass_12 : decode cX5_pass 12 = .ok (.iload_n 1, 1) := by decide +kernel
theorem dX5_pass_13 : decode cX5_pass 13 = .ok (.iadd, 1) := by decide +kernel
theorem dX5_pass_14 : decode cX5_pass 14 = .ok (.sipush 500, 3) := by decide +kernel
theorem dX5_pass_17 : decode cX5_pass 17 = .ok (.if_icmp .gt 7, 3) := by decide +kernel
theorem dX5_pass_20 : decode cX5_pass 20 = .ok (.iconst 1, 1) := by decide +kernel
theorem dX5_pass_21 : decode cX5_pass 21 = .ok (.goto 4, 3) := by decide +kernel
theorem dX5_pass_24 : decode cX5_pass 24 = .ok (.iconst 0, 1) := by decide +kernel
theorem dX5_pass_25 : decode cX5_pass 25 = .ok (.iconst 1, 1) := by decide +kernel
theorem dX5_pass_26 : decode cX5_pass 26 = .ok (.invokevirtual 109, 3) := by decide +kernel
theorem dX5_pass_29 : decode cX5_pass 29 = .ok (.ifCond .ne 5, 3) := by decide +kernel
theorem dX5_pass_32 : decode cX5_pass 32 = .ok (.iconst 0, 1) := by decide +kernel
theorem dX5_pass_33 : decode cX5_pass 33 = .ok (.ireturn, 1) := by decide +kernel
theorem dX5_pass_34 : decode cX5_pass 34 = .ok (.iconst 0, 1) := by decide +kernel
theorem dX5_pass_35 : decode cX5_pass 35 = .ok (.istore_n 2, 1) := by decide +kernel
theorem dX5_pass_36 : decode cX5_pass 36 = .ok (.iload_n 2, 1) := by decide +kernel
theorem dX5_pass_37 : decode cX5_pass 37 = .ok (.iload_n 1, 1) := by decide +kernel
theorem dX5_pass_38 : decode cX5_pass 38 = .ok (.if_icmp .ge 13, 3) := by decide +kernel
theorem dX5_pass_41 : decode cX5_pass 41 = .ok (.aload_n 0, 1) := by decide +kernel
theorem dX5_pass_42 : decode cX5_pass 42 = .ok (.invokevirtual 146, 3) := by decide +kernel
theorem dX5_pass_45 : decode cX5_pass 45 = .ok (.iinc 2 1, 3) := by decide +kernel
theorem dX5_pass_48 : decode cX5_pass 48 = .ok (.goto (-12), 3) := by decide +kernel
theorem dX5_pass_51 : decode cX5_pass 51 = .ok (.aload_n 0, 1) := by decide +kernel
theorem dX5_pass_52 : decode cX5_pass 52 = .ok (.getfield 106, 3) := by decide +kernel
theorem dX5_pass_55 : decode cX5_pass 55 = .ok (.ireturn, 1) := by decide +kernel
set_option maxRecDepth 20000 in
theorem ggX5_hasMeasured_X5_isLink : GoodIn wsX5_hasMeasured wsX5_isLink := goodIn_r _ [6, 7, 8, 9, 5, 10, 16, 17, 18, 19, 20, 21, 22, 23, 24, 25, 26, 27, 28, 29, 30, 31, 32, 33, 34, 35, 36, 37, 38, 39, 40, 41, 42, 43, 44, 45, 46, 47, 48, 49] (by decide +kernel) (by decide +kernel)
set_option maxRecDepth 20000 in
theorem gX5_hasMeasured_X5_isLink : GoodIn wsX5_hasMeasured (wsV RX5 117 RX5 yX5_isLink wsX5_isLink) := goodIn_app (goodIn_of _ (by decide +kernel)) ggX5_hasMeasured_X5_isLink
set_option maxRecDepth 20000 in
theorem ggX5_hasMeasured_X5_isDay : GoodIn wsX5_hasMeasured wsX5_isDay := goodIn_r _ [14, 15, 8, 9, 5, 10, 16, 17, 18, 19, 20, 21, 22, 23, 24, 25, 26, 27, 28, 29, 30, 31, 32, 33, 34, 35, 36, 37, 38, 39, 40, 41, 42, 43, 44, 45, 46, 47, 48, 49] (by decide +kernel) (by decide +kernel)
set_option maxRecDepth 20000 in
theorem gX5_hasMeasured_X5_isDay : GoodIn wsX5_hasMeasured (wsV RX5 149 RX5 yX5_isDay wsX5_isDay) := goodIn_app (goodIn_of _ (by decide +kernel)) ggX5_hasMeasured_X5_isDay
theorem dX5_hasMeasured_0 : decode cX5_hasMeasured 0 = .ok (.aload_n 0, 1) := by decide +kernel
theorem dX5_hasMeasured_1 : decode cX5_hasMeasured 1 = .ok (.iload_n 1, 1) := by decide +kernel
theorem dX5_hasMeasured_2 : decode cX5_hasMeasured 2 = .ok (.invokevirtual 117, 3) := by decide +kernel
theorem dX5_hasMeasured_5 : decode cX5_hasMeasured 5 = .ok (.ifCond .eq 25, 3) := by decide +kernel
theorem dX5_hasMeasured_8 : decode cX5_hasMeasured 8 = .ok (.aload_n 0, 1) := by decide +kernel
theorem dX5_hasMeasured_9 : decode cX5_hasMeasured 9 = .ok (.iload_n 2, 1) := by decide +kernel
theorem dX5_hasMeasured_10 : decode cX5_hasMeasured 10 = .ok (.invokevirtual 149, 3) := by decide +kernel
theorem dX5_hasMeasured_13 : decode cX5_hasMeasured 13 = .ok (.ifCond .eq 17, 3) := by decide +kernel
theorem dX5_hasMeasured_16 : decode cX5_hasMeasured 16 = .ok (.iload_n 2, 1) := by decide +kernel
theorem dX5_hasMeasured_17 : decode cX5_hasMeasured 17 = .ok (.aload_n 0, 1) := by decide +kernel
theorem dX5_hasMeasured_18 : decode cX5_hasMeasured 18 = .ok (.getfield 37, 3) := by decide +kernel
theorem dX5_hasMeasured_21 : decode cX5_hasMeasured 21 = .ok (.iload_n 1, 1) := by decide +kernel
theorem dX5_hasMeasured_22 : decode cX5_hasMeasured 22 = .ok (.iaload, 1) := by decide +kernel
theorem dX5_hasMeasured_23 : decode cX5_hasMeasured 23 = .ok (.if_icmp .le 7, 3) := by decide +kernel
theorem dX5_hasMeasured_26 : decode cX5_hasMeasured 26 = .ok (.iconst 1, 1) := by decide +kernel
theorem dX5_hasMeasured_27 : decode cX5_hasMeasured 27 = .ok (.goto 4, 3) := by decide +kernel
theorem dX5_hasMeasured_30 : decode cX5_hasMeasured 30 = .ok (.iconst 0, 1) := by decide +kernel
theorem dX5_hasMeasured_31 : decode cX5_hasMeasured 31 = .ok (.ireturn, 1) := by decide +kernel
set_option maxRecDepth 20000 in
theorem ggX5_corrected_X5_in : GoodIn wsX5_corrected wsX5_in := goodIn_r _ [9] (by decide +kernel) (by decide +kernel)
set_option maxRecDepth 20000 in
theorem gX5_corrected_X5_in : GoodIn wsX5_corrected (va_wsS RX5 99 yX5_in wsX5_in) := goodIn_app (goodIn_of _ (by decide +kernel)) ggX5_corrected_X5_in
end
section
theorem dX5_corrected_0 : decode cX5_corrected 0 = .ok (.aload_n 0, 1) := by decide +kernel
theorem dX5_corrected_1 : decode cX5_corrected 1 = .ok (.getfield 40, 3) := by decide +kernel
theorem dX5_corrected_4 : decode cX5_corrected 4 = .ok (.bipush 8, 2) := by decide +kernel
theorem dX5_corrected_6 : decode cX5_corrected 6 = .ok (.iload_n 2, 1) := by decide +kernel
theorem dX5_corrected_7 : decode cX5_corrected 7 = .ok (.iconst 1, 1) := by decide +kernel
theorem dX5_corrected_8 : decode cX5_corrected 8 = .ok (.isub, 1) := by decide +kernel
theorem dX5_corrected_9 : decode cX5_corrected 9 = .ok (.imul, 1) := by decide +kernel
theorem dX5_corrected_10 : decode cX5_corrected 10 = .ok (.iload_n 1, 1) := by decide +kernel
theorem dX5_corrected_11 : decode cX5_corrected 11 = .ok (.iadd, 1) := by decide +kernel
theorem dX5_corrected_12 : decode cX5_corrected 12 = .ok (.iaload, 1) := by decide +kernel
theorem dX5_corrected_13 : decode cX5_corrected 13 = .ok (.istore_n 3, 1) := by decide +kernel
theorem dX5_corrected_14 : decode cX5_corrected 14 = .ok (.bipush 10, 2) := by decide +kernel
theorem dX5_corrected_16 : decode cX5_corrected 16 = .ok (.iload_n 1, 1) := by decide +kernel
theorem dX5_corrected_17 : decode cX5_corrected 17 = .ok (.imul, 1) := by decide +kernel
theorem dX5_corrected_18 : decode cX5_corrected 18 = .ok (.istore 4, 2) := by decide +kernel
theorem dX5_corrected_20 : decode cX5_corrected 20 = .ok (.iload 4, 2) := by decide +kernel
theorem dX5_corrected_22 : decode cX5_corrected 22 = .ok (.bipush 10, 2) := by decide +kernel
theorem dX5_corrected_24 : decode cX5_corrected 24 = .ok (.iload_n 1, 1) := by decide +kernel
theorem dX5_corrected_25 : decode cX5_corrected 25 = .ok (.imul, 1) := by decide +kernel
theorem dX5_corrected_26 : decode cX5_corrected 26 = .ok (.aload_n 0, 1) := by decide +kernel
theorem dX5_corrected_27 : decode cX5_corrected 27 = .ok (.getfield 55, 3) := by decide +kernel
theorem dX5_corrected_30 : decode cX5_corrected 30 = .ok (.iload_n 1, 1) := by decide +kernel
theorem dX5_corrected_31 : decode cX5_corrected 31 = .ok (.iaload, 1) := by decide +kernel
theorem dX5_corrected_32 : decode cX5_corrected 32 = .ok (.iadd, 1) := by decide +kernel
theorem dX5_corrected_33 : decode cX5_corrected 33 = .ok (.if_icmp .ge 44, 3) := by decide +kernel
theorem dX5_corrected_36 : decode cX5_corrected 36 = .ok (.iload_n 3, 1) := by decide +kernel
theorem dX5_corrected_37 : decode cX5_corrected 37 = .ok (.iload_n 2, 1) := by decide +kernel
theorem dX5_corrected_38 : decode cX5_corrected 38 = .ok (.aload_n 0, 1) := by decide +kernel
theorem dX5_corrected_39 : decode cX5_corrected 39 = .ok (.getfield 58, 3) := by decide +kernel
theorem dX5_corrected_42 : decode cX5_corrected 42 = .ok (.iload 4, 2) := by decide +kernel
theorem dX5_corrected_44 : decode cX5_corrected 44 = .ok (.iaload, 1) := by decide +kernel
theorem dX5_corrected_45 : decode cX5_corrected 45 = .ok (.aload_n 0, 1) := by decide +kernel
theorem dX5_corrected_46 : decode cX5_corrected 46 = .ok (.getfield 61, 3) := by decide +kernel
theorem dX5_corrected_49 : decode cX5_corrected 49 = .ok (.iload 4, 2) := by decide +kernel
theorem dX5_corrected_51 : decode cX5_corrected 51 = .ok (.iaload, 1) := by decide +kernel
theorem dX5_corrected_52 : decode cX5_corrected 52 = .ok (.invokestatic 99, 3) := by decide +kernel
theorem dX5_corrected_55 : decode cX5_corrected 55 = .ok (.ifCond .eq 13, 3) := by decide +kernel
theorem dX5_corrected_58 : decode cX5_corrected 58 = .ok (.aload_n 0, 1) := by decide +kernel
theorem dX5_corrected_59 : decode cX5_corrected 59 = .ok (.getfield 64, 3) := by decide +kernel
theorem dX5_corrected_62 : decode cX5_corrected 62 = .ok (.iload 4, 2) := by decide +kernel
theorem dX5_corrected_64 : decode cX5_corrected 64 = .ok (.iaload, 1) := by decide +kernel
theorem dX5_corrected_65 : decode cX5_corrected 65 = .ok (.goto 4, 3) := by decide +kernel
theorem dX5_corrected_68 : decode cX5_corrected 68 = .ok (.iconst 0, 1) := by decide +kernel
theorem dX5_corrected_69 : decode cX5_corrected 69 = .ok (.isub, 1) := by decide +kernel
theorem dX5_corrected_70 : decode cX5_corrected 70 = .ok (.istore_n 3, 1) := by decide +kernel
theorem dX5_corrected_71 : decode cX5_corrected 71 = .ok (.iinc 4 1, 3) := by decide +kernel
theorem dX5_corrected_74 : decode cX5_corrected 74 = .ok (.goto (-54), 3) := by decide +kernel
theorem dX5_corrected_77 : decode cX5_corrected 77 = .ok (.iload_n 3, 1) := by decide +kernel
theorem dX5_corrected_78 : decode cX5_corrected 78 = .ok (.ireturn, 1) := by decide +kernel
set_option maxRecDepth 20000 in
theorem ggX5_measured_X5_hasMeasured : GoodIn wsX5_measured wsX5_hasMeasured := goodIn_r _ [6, 7, 8, 9, 10, 5, 11, 12, 13, 14, 15, 16, 17, 18, 19, 20, 34, 35, 36, 37, 38, 39, 40, 41, 42, 43, 44, 45, 46, 47, 48, 49, 50, 51, 52, 53, 54, 55, 56, 57, 58, 59, 60, 61, 62, 63, 64, 65, 66, 67] (by decide +kernel) (by decide +kernel)
set_option maxRecDepth 20000 in
theorem gX5_measured_X5_hasMeasured : GoodIn wsX5_measured (wsV RX5 152 RX5 yX5_hasMeasured wsX5_hasMeasured) := goodIn_app (goodIn_of _ (by decide +kernel)) ggX5_measured_X5_hasMeasured
set_option maxRecDepth 20000 in
theorem ggX5_measured_X5_goes : GoodIn wsX5_measured wsX5_goes := goodIn_r _ [24, 25, 34, 35, 36, 37, 38, 39, 40, 41, 42, 43, 44, 45, 46, 47, 48, 49, 50, 51, 52, 53, 54, 55, 56, 57, 58, 59, 60, 61, 62, 63, 64, 65, 66, 67] (by decide +kernel) (by decide +kernel)
set_option maxRecDepth 20000 in
theorem gX5_measured_X5_goes : GoodIn wsX5_measured (wsV RX5 109 RX5 yX5_goes wsX5_goes) := goodIn_app (goodIn_of _ (by decide +kernel)) ggX5_measured_X5_goes
set_option maxRecDepth 20000 in
theorem ggX5_measured_X5_corrected : GoodIn wsX5_measured wsX5_corrected := goodIn_r _ [29, 1, 30, 31, 32, 33, 13, 14, 5, 15, 34, 35, 36, 37, 38, 39, 40, 41, 42, 43, 44, 45, 46, 47, 48, 49, 50, 51, 52, 53, 54, 55, 56, 57, 58, 59, 60, 61, 62, 63, 64, 65, 66, 67] (by decide +kernel) (by decide +kernel)
set_option maxRecDepth 20000 in
theorem gX5_measured_X5_corrected : GoodIn wsX5_measured (wsV RX5 155 RX5 yX5_corrected wsX5_corrected) := goodIn_app (goodIn_of _ (by decide +kernel)) ggX5_measured_X5_corrected
theorem dX5_measured_0 : decode cX5_measured 0 = .ok (.aload_n 0, 1) := by decide +kernel
theorem dX5_measured_1 : decode cX5_measured 1 = .ok (.aload_n 0, 1) := by decide +kernel
theorem dX5_measured_2 : decode cX5_measured 2 = .ok (.iload_n 1, 1) := by decide +kernel
theorem dX5_measured_3 : decode cX5_measured 3 = .ok (.iload_n 2, 1) := by decide +kernel
theorem dX5_measured_4 : decode cX5_measured 4 = .ok (.invokevirtual 152, 3) := by decide +kernel
theorem dX5_measured_7 : decode cX5_measured 7 = .ok (.iconst 1, 1) := by decide +kernel
theorem dX5_measured_8 : decode cX5_measured 8 = .ok (.iconst 1, 1) := by decide +kernel
theorem dX5_measured_9 : decode cX5_measured 9 = .ok (.invokevirtual 109, 3) := by decide +kernel
theorem dX5_measured_12 : decode cX5_measured 12 = .ok (.ifCond .ne 5, 3) := by decide +kernel
theorem dX5_measured_15 : decode cX5_measured 15 = .ok (.iconst 0, 1) := by decide +kernel
theorem dX5_measured_16 : decode cX5_measured 16 = .ok (.ireturn, 1) := by decide +kernel
theorem dX5_measured_17 : decode cX5_measured 17 = .ok (.iload_n 3, 1) := by decide +kernel
theorem dX5_measured_18 : decode cX5_measured 18 = .ok (.ifCond .eq 12, 3) := by decide +kernel
theorem dX5_measured_21 : decode cX5_measured 21 = .ok (.aload_n 0, 1) := by decide +kernel
theorem dX5_measured_22 : decode cX5_measured 22 = .ok (.iload_n 1, 1) := by decide +kernel
theorem dX5_measured_23 : decode cX5_measured 23 = .ok (.iload_n 2, 1) := by decide +kernel
theorem dX5_measured_24 : decode cX5_measured 24 = .ok (.invokevirtual 155, 3) := by decide +kernel
theorem dX5_measured_27 : decode cX5_measured 27 = .ok (.goto 16, 3) := by decide +kernel
theorem dX5_measured_30 : decode cX5_measured 30 = .ok (.aload_n 0, 1) := by decide +kernel
theorem dX5_measured_31 : decode cX5_measured 31 = .ok (.getfield 40, 3) := by decide +kernel
theorem dX5_measured_34 : decode cX5_measured 34 = .ok (.bipush 8, 2) := by decide +kernel
theorem dX5_measured_36 : decode cX5_measured 36 = .ok (.iload_n 2, 1) := by decide +kernel
theorem dX5_measured_37 : decode cX5_measured 37 = .ok (.iconst 1, 1) := by decide +kernel
theorem dX5_measured_38 : decode cX5_measured 38 = .ok (.isub, 1) := by decide +kernel
theorem dX5_measured_39 : decode cX5_measured 39 = .ok (.imul, 1) := by decide +kernel
theorem dX5_measured_40 : decode cX5_measured 40 = .ok (.iload_n 1, 1) := by decide +kernel
theorem dX5_measured_41 : decode cX5_measured 41 = .ok (.iadd, 1) := by decide +kernel
theorem dX5_measured_42 : decode cX5_measured 42 = .ok (.iaload, 1) := by decide +kernel
theorem dX5_measured_43 : decode cX5_measured 43 = .ok (.ireturn, 1) := by decide +kernel
theorem dX5_otherEnd_0 : decode cX5_otherEnd 0 = .ok (.aload_n 0, 1) := by decide +kernel
theorem dX5_otherEnd_1 : decode cX5_otherEnd 1 = .ok (.getfield 25, 3) := by decide +kernel
theorem dX5_otherEnd_4 : decode cX5_otherEnd 4 = .ok (.iload_n 1, 1) := by decide +kernel
theorem dX5_otherEnd_5 : decode cX5_otherEnd 5 = .ok (.iaload, 1) := by decide +kernel
theorem dX5_otherEnd_6 : decode cX5_otherEnd 6 = .ok (.iload_n 2, 1) := by decide +kernel
theorem dX5_otherEnd_7 : decode cX5_otherEnd 7 = .ok (.if_icmp .ne 12, 3) := by decide +kernel
theorem dX5_otherEnd_10 : decode cX5_otherEnd 10 = .ok (.aload_n 0, 1) := by decide +kernel
theorem dX5_otherEnd_11 : decode cX5_otherEnd 11 = .ok (.getfield 28, 3) := by decide +kernel
theorem dX5_otherEnd_14 : decode cX5_otherEnd 14 = .ok (.iload_n 1, 1) := by decide +kernel
theorem dX5_otherEnd_15 : decode cX5_otherEnd 15 = .ok (.iaload, 1) := by decide +kernel
theorem dX5_otherEnd_16 : decode cX5_otherEnd 16 = .ok (.goto 23, 3) := by decide +kernel
theorem dX5_otherEnd_19 : decode cX5_otherEnd 19 = .ok (.aload_n 0, 1) := by decide +kernel
theorem dX5_otherEnd_20 : decode cX5_otherEnd 20 = .ok (.getfield 28, 3) := by decide +kernel
theorem dX5_otherEnd_23 : decode cX5_otherEnd 23 = .ok (.iload_n 1, 1) := by decide +kernel
theorem dX5_otherEnd_24 : decode cX5_otherEnd 24 = .ok (.iaload, 1) := by decide +kernel
theorem dX5_otherEnd_25 : decode cX5_otherEnd 25 = .ok (.iload_n 2, 1) := by decide +kernel
theorem dX5_otherEnd_26 : decode cX5_otherEnd 26 = .ok (.if_icmp .ne 12, 3) := by decide +kernel
theorem dX5_otherEnd_29 : decode cX5_otherEnd 29 = .ok (.aload_n 0, 1) := by decide +kernel
theorem dX5_otherEnd_30 : decode cX5_otherEnd 30 = .ok (.getfield 25, 3) := by decide +kernel
theorem dX5_otherEnd_33 : decode cX5_otherEnd 33 = .ok (.iload_n 1, 1) := by decide +kernel
theorem dX5_otherEnd_34 : decode cX5_otherEnd 34 = .ok (.iaload, 1) := by decide +kernel
theorem dX5_otherEnd_35 : decode cX5_otherEnd 35 = .ok (.goto 4, 3) := by decide +kernel
theorem dX5_otherEnd_38 : decode cX5_otherEnd 38 = .ok (.iconst (-1), 1) := by decide +kernel
theorem dX5_otherEnd_39 : decode cX5_otherEnd 39 = .ok (.ireturn, 1) := by decide +kernel
set_option maxRecDepth 20000 in
theorem ggX5_isRing_X5_otherEnd : GoodIn wsX5_isRing wsX5_otherEnd := goodIn_r _ [7, 2, 1, 8, 9, 10, 11, 12, 13, 14, 15, 16, 17, 18, 19, 20, 21, 22, 23, 24, 25, 26, 27, 28, 29, 30, 31, 32, 33, 34, 35, 36, 37, 38, 39, 40, 41] (by decide +kernel) (by decide +kernel)
set_option maxRecDepth 20000 in
theorem gX5_isRing_X5_otherEnd : GoodIn wsX5_isRing (wsV RX5 158 RX5 yX5_otherEnd wsX5_otherEnd) := goodIn_app (goodIn_of _ (by decide +kernel)) ggX5_isRing_X5_otherEnd
theorem dX5_isRing_0 : decode cX5_isRing 0 = .ok (.aload_n 0, 1) := by decide +kernel
theorem dX5_isRing_1 : decode cX5_isRing 1 = .ok (.iload_n 2, 1) := by decide +kernel
theorem dX5_isRing_2 : decode cX5_isRing 2 = .ok (.aload_n 0, 1) := by decide +kernel
theorem dX5_isRing_3 : decode cX5_isRing 3 = .ok (.getfield 28, 3) := by decide +kernel
theorem dX5_isRing_6 : decode cX5_isRing 6 = .ok (.iload_n 1, 1) := by decide +kernel
theorem dX5_isRing_7 : decode cX5_isRing 7 = .ok (.iaload, 1) := by decide +kernel
theorem dX5_isRing_8 : decode cX5_isRing 8 = .ok (.invokevirtual 158, 3) := by decide +kernel
theorem dX5_isRing_11 : decode cX5_isRing 11 = .ok (.iconst (-1), 1) := by decide +kernel
theorem dX5_isRing_12 : decode cX5_isRing 12 = .ok (.if_icmp .eq 7, 3) := by decide +kernel
theorem dX5_isRing_15 : decode cX5_isRing 15 = .ok (.iload_n 2, 1) := by decide +kernel
theorem dX5_isRing_16 : decode cX5_isRing 16 = .ok (.goto 4, 3) := by decide +kernel
theorem dX5_isRing_19 : decode cX5_isRing 19 = .ok (.iload_n 3, 1) := by decide +kernel
theorem dX5_isRing_20 : decode cX5_isRing 20 = .ok (.istore 4, 2) := by decide +kernel
theorem dX5_isRing_22 : decode cX5_isRing 22 = .ok (.iload 4, 2) := by decide +kernel
theorem dX5_isRing_24 : decode cX5_isRing 24 = .ok (.iload_n 2, 1) := by decide +kernel
theorem dX5_isRing_25 : decode cX5_isRing 25 = .ok (.if_icmp .ne 7, 3) := by decide +kernel
theorem dX5_isRing_28 : decode cX5_isRing 28 = .ok (.iload_n 3, 1) := by decide +kernel
theorem dX5_isRing_29 : decode cX5_isRing 29 = .ok (.goto 4, 3) := by decide +kernel
theorem dX5_isRing_32 : decode cX5_isRing 32 = .ok (.iload_n 2, 1) := by decide +kernel
theorem dX5_isRing_33 : decode cX5_isRing 33 = .ok (.istore 5, 2) := by decide +kernel
theorem dX5_isRing_35 : decode cX5_isRing 35 = .ok (.aload_n 0, 1) := by decide +kernel
theorem dX5_isRing_36 : decode cX5_isRing 36 = .ok (.iload 4, 2) := by decide +kernel
theorem dX5_isRing_38 : decode cX5_isRing 38 = .ok (.aload_n 0, 1) := by decide +kernel
theorem dX5_isRing_39 : decode cX5_isRing 39 = .ok (.getfield 28, 3) := by decide +kernel
theorem dX5_isRing_42 : decode cX5_isRing 42 = .ok (.iload_n 1, 1) := by decide +kernel
theorem dX5_isRing_43 : decode cX5_isRing 43 = .ok (.iaload, 1) := by decide +kernel
theorem dX5_isRing_44 : decode cX5_isRing 44 = .ok (.invokevirtual 158, 3) := by decide +kernel
theorem dX5_isRing_47 : decode cX5_isRing 47 = .ok (.istore 6, 2) := by decide +kernel
theorem dX5_isRing_49 : decode cX5_isRing 49 = .ok (.iload 6, 2) := by decide +kernel
theorem dX5_isRing_51 : decode cX5_isRing 51 = .ok (.iconst (-1), 1) := by decide +kernel
theorem dX5_isRing_52 : decode cX5_isRing 52 = .ok (.if_icmp .eq 35, 3) := by decide +kernel
theorem dX5_isRing_55 : decode cX5_isRing 55 = .ok (.iload 6, 2) := by decide +kernel
theorem dX5_isRing_57 : decode cX5_isRing 57 = .ok (.aload_n 0, 1) := by decide +kernel
theorem dX5_isRing_58 : decode cX5_isRing 58 = .ok (.getfield 25, 3) := by decide +kernel
theorem dX5_isRing_61 : decode cX5_isRing 61 = .ok (.iload_n 1, 1) := by decide +kernel
theorem dX5_isRing_62 : decode cX5_isRing 62 = .ok (.iaload, 1) := by decide +kernel
theorem dX5_isRing_63 : decode cX5_isRing 63 = .ok (.if_icmp .eq 24, 3) := by decide +kernel
theorem dX5_isRing_66 : decode cX5_isRing 66 = .ok (.aload_n 0, 1) := by decide +kernel
theorem dX5_isRing_67 : decode cX5_isRing 67 = .ok (.iload 5, 2) := by decide +kernel
theorem dX5_isRing_69 : decode cX5_isRing 69 = .ok (.iload 6, 2) := by decide +kernel
theorem dX5_isRing_71 : decode cX5_isRing 71 = .ok (.invokevirtual 158, 3) := by decide +kernel
theorem dX5_isRing_74 : decode cX5_isRing 74 = .ok (.aload_n 0, 1) := by decide +kernel
theorem dX5_isRing_75 : decode cX5_isRing 75 = .ok (.getfield 25, 3) := by decide +kernel
theorem dX5_isRing_78 : decode cX5_isRing 78 = .ok (.iload_n 1, 1) := by decide +kernel
theorem dX5_isRing_79 : decode cX5_isRing 79 = .ok (.iaload, 1) := by decide +kernel
theorem dX5_isRing_80 : decode cX5_isRing 80 = .ok (.if_icmp .ne 7, 3) := by decide +kernel
theorem dX5_isRing_83 : decode cX5_isRing 83 = .ok (.iconst 1, 1) := by decide +kernel
theorem dX5_isRing_84 : decode cX5_isRing 84 = .ok (.goto 4, 3) := by decide +kernel
theorem dX5_isRing_87 : decode cX5_isRing 87 = .ok (.iconst 0, 1) := by decide +kernel
theorem dX5_isRing_88 : decode cX5_isRing 88 = .ok (.ireturn, 1) := by decide +kernel
set_option maxRecDepth 20000 in
theorem ggX5_goesBy_X5_corrected : GoodIn wsX5_goesBy wsX5_corrected := goodIn_r _ [10, 11, 12, 13, 14, 15, 16, 17, 9, 18, 19, 20, 21, 22, 23, 24, 25, 26, 27, 28, 29, 30, 31, 32, 33, 34, 35, 36, 37, 38, 39, 40, 41, 42, 43, 44, 45, 46, 47, 48, 49, 50, 51, 52] (by decide +kernel) (by decide +kernel)
set_option maxRecDepth 20000 in
theorem gX5_goesBy_X5_corrected : GoodIn wsX5_goesBy (wsV RX5 155 RX5 yX5_corrected wsX5_corrected) := goodIn_app (goodIn_of _ (by decide +kernel)) ggX5_goesBy_X5_corrected
theorem dX5_goesBy_0 : decode cX5_goesBy 0 = .ok (.iconst 3, 1) := by decide +kernel
theorem dX5_goesBy_1 : decode cX5_goesBy 1 = .ok (.aload_n 0, 1) := by decide +kernel
theorem dX5_goesBy_2 : decode cX5_goesBy 2 = .ok (.getfield 161, 3) := by decide +kernel
theorem dX5_goesBy_5 : decode cX5_goesBy 5 = .ok (.imul, 1) := by decide +kernel
theorem dX5_goesBy_6 : decode cX5_goesBy 6 = .ok (.iload_n 3, 1) := by decide +kernel
theorem dX5_goesBy_7 : decode cX5_goesBy 7 = .ok (.iadd, 1) := by decide +kernel
theorem dX5_goesBy_8 : decode cX5_goesBy 8 = .ok (.istore 5, 2) := by decide +kernel
theorem dX5_goesBy_10 : decode cX5_goesBy 10 = .ok (.aload_n 0, 1) := by decide +kernel
theorem dX5_goesBy_11 : decode cX5_goesBy 11 = .ok (.getfield 77, 3) := by decide +kernel
theorem dX5_goesBy_14 : decode cX5_goesBy 14 = .ok (.iload 5, 2) := by decide +kernel
theorem dX5_goesBy_16 : decode cX5_goesBy 16 = .ok (.iload_n 1, 1) := by decide +kernel
theorem dX5_goesBy_17 : decode cX5_goesBy 17 = .ok (.iastore, 1) := by decide +kernel
theorem dX5_goesBy_18 : decode cX5_goesBy 18 = .ok (.aload_n 0, 1) := by decide +kernel
theorem dX5_goesBy_19 : decode cX5_goesBy 19 = .ok (.getfield 80, 3) := by decide +kernel
theorem dX5_goesBy_22 : decode cX5_goesBy 22 = .ok (.iload 5, 2) := by decide +kernel
theorem dX5_goesBy_24 : decode cX5_goesBy 24 = .ok (.aload_n 0, 1) := by decide +kernel
theorem dX5_goesBy_25 : decode cX5_goesBy 25 = .ok (.getfield 25, 3) := by decide +kernel
theorem dX5_goesBy_28 : decode cX5_goesBy 28 = .ok (.iload_n 1, 1) := by decide +kernel
theorem dX5_goesBy_29 : decode cX5_goesBy 29 = .ok (.iaload, 1) := by decide +kernel
theorem dX5_goesBy_30 : decode cX5_goesBy 30 = .ok (.iload_n 2, 1) := by decide +kernel
theorem dX5_goesBy_31 : decode cX5_goesBy 31 = .ok (.if_icmp .ne 7, 3) := by decide +kernel
theorem dX5_goesBy_34 : decode cX5_goesBy 34 = .ok (.iconst 1, 1) := by decide +kernel
theorem dX5_goesBy_35 : decode cX5_goesBy 35 = .ok (.goto 4, 3) := by decide +kernel
theorem dX5_goesBy_38 : decode cX5_goesBy 38 = .ok (.iconst (-1), 1) := by decide +kernel
theorem dX5_goesBy_39 : decode cX5_goesBy 39 = .ok (.iastore, 1) := by decide +kernel
theorem dX5_goesBy_40 : decode cX5_goesBy 40 = .ok (.aload_n 0, 1) := by decide +kernel
theorem dX5_goesBy_41 : decode cX5_goesBy 41 = .ok (.getfield 83, 3) := by decide +kernel
theorem dX5_goesBy_44 : decode cX5_goesBy 44 = .ok (.aload_n 0, 1) := by decide +kernel
theorem dX5_goesBy_45 : decode cX5_goesBy 45 = .ok (.getfield 161, 3) := by decide +kernel
theorem dX5_goesBy_48 : decode cX5_goesBy 48 = .ok (.iload_n 3, 1) := by decide +kernel
theorem dX5_goesBy_49 : decode cX5_goesBy 49 = .ok (.ifCond .ne 7, 3) := by decide +kernel
theorem dX5_goesBy_52 : decode cX5_goesBy 52 = .ok (.iconst 0, 1) := by decide +kernel
theorem dX5_goesBy_53 : decode cX5_goesBy 53 = .ok (.goto 12, 3) := by decide +kernel
theorem dX5_goesBy_56 : decode cX5_goesBy 56 = .ok (.aload_n 0, 1) := by decide +kernel
theorem dX5_goesBy_57 : decode cX5_goesBy 57 = .ok (.getfield 83, 3) := by decide +kernel
theorem dX5_goesBy_60 : decode cX5_goesBy 60 = .ok (.aload_n 0, 1) := by decide +kernel
theorem dX5_goesBy_61 : decode cX5_goesBy 61 = .ok (.getfield 161, 3) := by decide +kernel
theorem dX5_goesBy_64 : decode cX5_goesBy 64 = .ok (.iaload, 1) := by decide +kernel
theorem dX5_goesBy_65 : decode cX5_goesBy 65 = .ok (.aload_n 0, 1) := by decide +kernel
theorem dX5_goesBy_66 : decode cX5_goesBy 66 = .ok (.getfield 80, 3) := by decide +kernel
theorem dX5_goesBy_69 : decode cX5_goesBy 69 = .ok (.iload 5, 2) := by decide +kernel
theorem dX5_goesBy_71 : decode cX5_goesBy 71 = .ok (.iaload, 1) := by decide +kernel
theorem dX5_goesBy_72 : decode cX5_goesBy 72 = .ok (.aload_n 0, 1) := by decide +kernel
theorem dX5_goesBy_73 : decode cX5_goesBy 73 = .ok (.iload_n 1, 1) := by decide +kernel
theorem dX5_goesBy_74 : decode cX5_goesBy 74 = .ok (.iload 4, 2) := by decide +kernel
theorem dX5_goesBy_76 : decode cX5_goesBy 76 = .ok (.invokevirtual 155, 3) := by decide +kernel
theorem dX5_goesBy_79 : decode cX5_goesBy 79 = .ok (.imul, 1) := by decide +kernel
theorem dX5_goesBy_80 : decode cX5_goesBy 80 = .ok (.iadd, 1) := by decide +kernel
theorem dX5_goesBy_81 : decode cX5_goesBy 81 = .ok (.iastore, 1) := by decide +kernel
theorem dX5_goesBy_82 : decode cX5_goesBy 82 = .ok (.return_, 1) := by decide +kernel
set_option maxRecDepth 20000 in
theorem ggX5_laysRing_X5_otherEnd : GoodIn wsX5_laysRing wsX5_otherEnd := goodIn_r _ [8, 2, 1, 28, 29, 30, 31, 32, 33, 34, 35, 36, 37, 38, 39, 40, 41, 42, 43, 44, 45, 46, 47, 48, 49, 50, 51, 52, 53, 54, 55, 56, 57, 58, 59, 60, 61] (by decide +kernel) (by decide +kernel)
set_option maxRecDepth 20000 in
theorem gX5_laysRing_X5_otherEnd : GoodIn wsX5_laysRing (wsV RX5 158 RX5 yX5_otherEnd wsX5_otherEnd) := goodIn_app (goodIn_of _ (by decide +kernel)) ggX5_laysRing_X5_otherEnd
set_option maxRecDepth 20000 in
theorem ggX5_laysRing_X5_goesBy : GoodIn wsX5_laysRing wsX5_goesBy := goodIn_r _ [12, 3, 13, 14, 2, 15, 16, 17, 18, 7, 19, 20, 21, 22, 23, 24, 25, 26, 27, 28, 29, 30, 31, 32, 33, 34, 35, 36, 37, 38, 39, 40, 41, 42, 43, 44, 45, 46, 47, 48, 49, 50, 51, 52, 53, 54, 55, 56, 57, 58, 59, 60, 61] (by decide +kernel) (by decide +kernel)
set_option maxRecDepth 20000 in
theorem gX5_laysRing_X5_goesBy : GoodIn wsX5_laysRing (wsV RX5 164 RX5 yX5_goesBy wsX5_goesBy) := goodIn_app (goodIn_of _ (by decide +kernel)) ggX5_laysRing_X5_goesBy
theorem dX5_laysRing_0 : decode cX5_laysRing 0 = .ok (.aload_n 0, 1) := by decide +kernel
theorem dX5_laysRing_1 : decode cX5_laysRing 1 = .ok (.iload_n 2, 1) := by decide +kernel
theorem dX5_laysRing_2 : decode cX5_laysRing 2 = .ok (.aload_n 0, 1) := by decide +kernel
theorem dX5_laysRing_3 : decode cX5_laysRing 3 = .ok (.getfield 28, 3) := by decide +kernel
theorem dX5_laysRing_6 : decode cX5_laysRing 6 = .ok (.iload_n 1, 1) := by decide +kernel
theorem dX5_laysRing_7 : decode cX5_laysRing 7 = .ok (.iaload, 1) := by decide +kernel
theorem dX5_laysRing_8 : decode cX5_laysRing 8 = .ok (.invokevirtual 158, 3) := by decide +kernel
theorem dX5_laysRing_11 : decode cX5_laysRing 11 = .ok (.iconst (-1), 1) := by decide +kernel
theorem dX5_laysRing_12 : decode cX5_laysRing 12 = .ok (.if_icmp .eq 7, 3) := by decide +kernel
theorem dX5_laysRing_15 : decode cX5_laysRing 15 = .ok (.iload_n 2, 1) := by decide +kernel
theorem dX5_laysRing_16 : decode cX5_laysRing 16 = .ok (.goto 4, 3) := by decide +kernel
theorem dX5_laysRing_19 : decode cX5_laysRing 19 = .ok (.iload_n 3, 1) := by decide +kernel
theorem dX5_laysRing_20 : decode cX5_laysRing 20 = .ok (.istore 5, 2) := by decide +kernel
theorem dX5_laysRing_22 : decode cX5_laysRing 22 = .ok (.aload_n 0, 1) := by decide +kernel
theorem dX5_laysRing_23 : decode cX5_laysRing 23 = .ok (.iload_n 1, 1) := by decide +kernel
theorem dX5_laysRing_24 : decode cX5_laysRing 24 = .ok (.aload_n 0, 1) := by decide +kernel
theorem dX5_laysRing_25 : decode cX5_laysRing 25 = .ok (.getfield 25, 3) := by decide +kernel
theorem dX5_laysRing_28 : decode cX5_laysRing 28 = .ok (.iload_n 1, 1) := by decide +kernel
theorem dX5_laysRing_29 : decode cX5_laysRing 29 = .ok (.iaload, 1) := by decide +kernel
theorem dX5_laysRing_30 : decode cX5_laysRing 30 = .ok (.iconst 0, 1) := by decide +kernel
theorem dX5_laysRing_31 : decode cX5_laysRing 31 = .ok (.iload 4, 2) := by decide +kernel
theorem dX5_laysRing_33 : decode cX5_laysRing 33 = .ok (.invokevirtual 164, 3) := by decide +kernel
theorem dX5_laysRing_36 : decode cX5_laysRing 36 = .ok (.aload_n 0, 1) := by decide +kernel
theorem dX5_laysRing_37 : decode cX5_laysRing 37 = .ok (.iload 5, 2) := by decide +kernel
theorem dX5_laysRing_39 : decode cX5_laysRing 39 = .ok (.aload_n 0, 1) := by decide +kernel
theorem dX5_laysRing_40 : decode cX5_laysRing 40 = .ok (.getfield 28, 3) := by decide +kernel
theorem dX5_laysRing_43 : decode cX5_laysRing 43 = .ok (.iload_n 1, 1) := by decide +kernel
theorem dX5_laysRing_44 : decode cX5_laysRing 44 = .ok (.iaload, 1) := by decide +kernel
theorem dX5_laysRing_45 : decode cX5_laysRing 45 = .ok (.iconst 1, 1) := by decide +kernel
theorem dX5_laysRing_46 : decode cX5_laysRing 46 = .ok (.iload 4, 2) := by decide +kernel
theorem dX5_laysRing_48 : decode cX5_laysRing 48 = .ok (.invokevirtual 164, 3) := by decide +kernel
theorem dX5_laysRing_51 : decode cX5_laysRing 51 = .ok (.aload_n 0, 1) := by decide +kernel
theorem dX5_laysRing_52 : decode cX5_laysRing 52 = .ok (.iload 5, 2) := by decide +kernel
theorem dX5_laysRing_54 : decode cX5_laysRing 54 = .ok (.iload_n 2, 1) := by decide +kernel
theorem dX5_laysRing_55 : decode cX5_laysRing 55 = .ok (.if_icmp .ne 7, 3) := by decide +kernel
theorem dX5_laysRing_58 : decode cX5_laysRing 58 = .ok (.iload_n 3, 1) := by decide +kernel
theorem dX5_laysRing_59 : decode cX5_laysRing 59 = .ok (.goto 4, 3) := by decide +kernel
theorem dX5_laysRing_62 : decode cX5_laysRing 62 = .ok (.iload_n 2, 1) := by decide +kernel
theorem dX5_laysRing_63 : decode cX5_laysRing 63 = .ok (.aload_n 0, 1) := by decide +kernel
theorem dX5_laysRing_64 : decode cX5_laysRing 64 = .ok (.iload 5, 2) := by decide +kernel
theorem dX5_laysRing_66 : decode cX5_laysRing 66 = .ok (.aload_n 0, 1) := by decide +kernel
theorem dX5_laysRing_67 : decode cX5_laysRing 67 = .ok (.getfield 28, 3) := by decide +kernel
theorem dX5_laysRing_70 : decode cX5_laysRing 70 = .ok (.iload_n 1, 1) := by decide +kernel
theorem dX5_laysRing_71 : decode cX5_laysRing 71 = .ok (.iaload, 1) := by decide +kernel
theorem dX5_laysRing_72 : decode cX5_laysRing 72 = .ok (.invokevirtual 158, 3) := by decide +kernel
theorem dX5_laysRing_75 : decode cX5_laysRing 75 = .ok (.iconst 2, 1) := by decide +kernel
theorem dX5_laysRing_76 : decode cX5_laysRing 76 = .ok (.iload 4, 2) := by decide +kernel
theorem dX5_laysRing_78 : decode cX5_laysRing 78 = .ok (.invokevirtual 164, 3) := by decide +kernel
theorem dX5_laysRing_81 : decode cX5_laysRing 81 = .ok (.aload_n 0, 1) := by decide +kernel
theorem dX5_laysRing_82 : decode cX5_laysRing 82 = .ok (.dup, 1) := by decide +kernel
theorem dX5_laysRing_83 : decode cX5_laysRing 83 = .ok (.getfield 161, 3) := by decide +kernel
theorem dX5_laysRing_86 : decode cX5_laysRing 86 = .ok (.iconst 1, 1) := by decide +kernel
theorem dX5_laysRing_87 : decode cX5_laysRing 87 = .ok (.iadd, 1) := by decide +kernel
theorem dX5_laysRing_88 : decode cX5_laysRing 88 = .ok (.putfield 161, 3) := by decide +kernel
theorem dX5_laysRing_91 : decode cX5_laysRing 91 = .ok (.return_, 1) := by decide +kernel
set_option maxRecDepth 20000 in
theorem ggX5_laysRings_X5_hasMeasured : GoodIn wsX5_laysRings wsX5_hasMeasured := goodIn_r _ [8, 9, 10, 11, 12, 7, 13, 3, 14, 15, 16, 17, 18, 19, 20, 21, 52, 53, 54, 55, 56, 57, 58, 59, 60, 61, 62, 63, 64, 65, 66, 67, 68, 69, 70, 71, 72, 73, 74, 75, 76, 77, 78, 79, 80, 81, 82, 83, 84, 85] (by decide +kernel) (by decide +kernel)
set_option maxRecDepth 20000 in
theorem gX5_laysRings_X5_hasMeasured : GoodIn wsX5_laysRings (wsV RX5 152 RX5 yX5_hasMeasured wsX5_hasMeasured) := goodIn_app (goodIn_of _ (by decide +kernel)) ggX5_laysRings_X5_hasMeasured
set_option maxRecDepth 20000 in
theorem ggX5_laysRings_X5_isRing : GoodIn wsX5_laysRings wsX5_isRing := goodIn_r _ [25, 26, 27, 28, 29, 30, 7, 31, 52, 53, 54, 55, 56, 57, 58, 59, 60, 61, 62, 63, 64, 65, 66, 67, 68, 69, 70, 71, 72, 73, 74, 75, 76, 77, 78, 79, 80, 81, 82, 83, 84, 85] (by decide +kernel) (by decide +kernel)
set_option maxRecDepth 20000 in
theorem gX5_laysRings_X5_isRing : GoodIn wsX5_laysRings (wsV RX5 168 RX5 yX5_isRing wsX5_isRing) := goodIn_app (goodIn_of _ (by decide +kernel)) ggX5_laysRings_X5_isRing
set_option maxRecDepth 20000 in
theorem ggX5_laysRings_X5_laysRing : GoodIn wsX5_laysRings wsX5_laysRing := goodIn_r _ [35, 26, 27, 1, 28, 29, 30, 7, 31, 36, 37, 38, 39, 40, 41, 42, 43, 44, 45, 46, 47, 48, 49, 50, 51, 14, 15, 16, 52, 53, 54, 55, 56, 57, 58, 59, 60, 61, 62, 63, 64, 65, 66, 67, 68, 69, 70, 71, 72, 73, 74, 75, 76, 77, 78, 79, 80, 81, 82, 83, 84, 85] (by decide +kernel) (by decide +kernel)
set_option maxRecDepth 20000 in
theorem gX5_laysRings_X5_laysRing : GoodIn wsX5_laysRings (wsV RX5 171 RX5 yX5_laysRing wsX5_laysRing) := goodIn_app (goodIn_of _ (by decide +kernel)) ggX5_laysRings_X5_laysRing
theorem dX5_laysRings_0 : decode cX5_laysRings 0 = .ok (.aload_n 0, 1) := by decide +kernel
theorem dX5_laysRings_1 : decode cX5_laysRings 1 = .ok (.iconst 0, 1) := by decide +kernel
theorem dX5_laysRings_2 : decode cX5_laysRings 2 = .ok (.putfield 161, 3) := by decide +kernel
theorem dX5_laysRings_5 : decode cX5_laysRings 5 = .ok (.iconst 0, 1) := by decide +kernel
theorem dX5_laysRings_6 : decode cX5_laysRings 6 = .ok (.istore_n 2, 1) := by decide +kernel
theorem dX5_laysRings_7 : decode cX5_laysRings 7 = .ok (.iload_n 2, 1) := by decide +kernel
theorem dX5_laysRings_8 : decode cX5_laysRings 8 = .ok (.bipush 8, 2) := by decide +kernel
theorem dX5_laysRings_10 : decode cX5_laysRings 10 = .ok (.if_icmp .ge 16, 3) := by decide +kernel
theorem dX5_laysRings_13 : decode cX5_laysRings 13 = .ok (.aload_n 0, 1) := by decide +kernel
theorem dX5_laysRings_14 : decode cX5_laysRings 14 = .ok (.getfield 74, 3) := by decide +kernel
theorem dX5_laysRings_17 : decode cX5_laysRings 17 = .ok (.iload_n 2, 1) := by decide +kernel
theorem dX5_laysRings_18 : decode cX5_laysRings 18 = .ok (.iconst 0, 1) := by decide +kernel
theorem dX5_laysRings_19 : decode cX5_laysRings 19 = .ok (.iastore, 1) := by decide +kernel
theorem dX5_laysRings_20 : decode cX5_laysRings 20 = .ok (.iinc 2 1, 3) := by decide +kernel
theorem dX5_laysRings_23 : decode cX5_laysRings 23 = .ok (.goto (-16), 3) := by decide +kernel
theorem dX5_laysRings_26 : decode cX5_laysRings 26 = .ok (.iconst 2, 1) := by decide +kernel
theorem dX5_laysRings_27 : decode cX5_laysRings 27 = .ok (.istore_n 2, 1) := by decide +kernel
theorem dX5_laysRings_28 : decode cX5_laysRings 28 = .ok (.iload_n 2, 1) := by decide +kernel
theorem dX5_laysRings_29 : decode cX5_laysRings 29 = .ok (.aload_n 0, 1) := by decide +kernel
theorem dX5_laysRings_30 : decode cX5_laysRings 30 = .ok (.getfield 103, 3) := by decide +kernel
theorem dX5_laysRings_33 : decode cX5_laysRings 33 = .ok (.if_icmp .ge 97, 3) := by decide +kernel
theorem dX5_laysRings_36 : decode cX5_laysRings 36 = .ok (.iconst 1, 1) := by decide +kernel
theorem dX5_laysRings_37 : decode cX5_laysRings 37 = .ok (.istore_n 3, 1) := by decide +kernel
theorem dX5_laysRings_38 : decode cX5_laysRings 38 = .ok (.iload_n 3, 1) := by decide +kernel
theorem dX5_laysRings_39 : decode cX5_laysRings 39 = .ok (.iload_n 2, 1) := by decide +kernel
theorem dX5_laysRings_40 : decode cX5_laysRings 40 = .ok (.if_icmp .ge 84, 3) := by decide +kernel
theorem dX5_laysRings_43 : decode cX5_laysRings 43 = .ok (.iconst 0, 1) := by decide +kernel
theorem dX5_laysRings_44 : decode cX5_laysRings 44 = .ok (.istore 4, 2) := by decide +kernel
theorem dX5_laysRings_46 : decode cX5_laysRings 46 = .ok (.iload 4, 2) := by decide +kernel
theorem dX5_laysRings_48 : decode cX5_laysRings 48 = .ok (.iload_n 3, 1) := by decide +kernel
theorem dX5_laysRings_49 : decode cX5_laysRings 49 = .ok (.if_icmp .ge 69, 3) := by decide +kernel
theorem dX5_laysRings_52 : decode cX5_laysRings 52 = .ok (.aload_n 0, 1) := by decide +kernel
theorem dX5_laysRings_53 : decode cX5_laysRings 53 = .ok (.iload 4, 2) := by decide +kernel
theorem dX5_laysRings_55 : decode cX5_laysRings 55 = .ok (.iload_n 1, 1) := by decide +kernel
theorem dX5_laysRings_56 : decode cX5_laysRings 56 = .ok (.invokevirtual 152, 3) := by decide +kernel
theorem dX5_laysRings_59 : decode cX5_laysRings 59 = .ok (.ifCond .eq 25, 3) := by decide +kernel
theorem dX5_laysRings_62 : decode cX5_laysRings 62 = .ok (.aload_n 0, 1) := by decide +kernel
theorem dX5_laysRings_63 : decode cX5_laysRings 63 = .ok (.iload_n 3, 1) := by decide +kernel
theorem dX5_laysRings_64 : decode cX5_laysRings 64 = .ok (.iload_n 1, 1) := by decide +kernel
theorem dX5_laysRings_65 : decode cX5_laysRings 65 = .ok (.invokevirtual 152, 3) := by decide +kernel
theorem dX5_laysRings_68 : decode cX5_laysRings 68 = .ok (.ifCond .eq 16, 3) := by decide +kernel
theorem dX5_laysRings_71 : decode cX5_laysRings 71 = .ok (.aload_n 0, 1) := by decide +kernel
theorem dX5_laysRings_72 : decode cX5_laysRings 72 = .ok (.iload_n 2, 1) := by decide +kernel
theorem dX5_laysRings_73 : decode cX5_laysRings 73 = .ok (.iload_n 1, 1) := by decide +kernel
theorem dX5_laysRings_74 : decode cX5_laysRings 74 = .ok (.invokevirtual 152, 3) := by decide +kernel
theorem dX5_laysRings_77 : decode cX5_laysRings 77 = .ok (.ifCond .eq 7, 3) := by decide +kernel
theorem dX5_laysRings_80 : decode cX5_laysRings 80 = .ok (.iconst 1, 1) := by decide +kernel
theorem dX5_laysRings_81 : decode cX5_laysRings 81 = .ok (.goto 4, 3) := by decide +kernel
theorem dX5_laysRings_84 : decode cX5_laysRings 84 = .ok (.iconst 0, 1) := by decide +kernel
theorem dX5_laysRings_85 : decode cX5_laysRings 85 = .ok (.istore 5, 2) := by decide +kernel
theorem dX5_laysRings_87 : decode cX5_laysRings 87 = .ok (.iload 5, 2) := by decide +kernel
theorem dX5_laysRings_89 : decode cX5_laysRings 89 = .ok (.ifCond .eq 23, 3) := by decide +kernel
theorem dX5_laysRings_92 : decode cX5_laysRings 92 = .ok (.aload_n 0, 1) := by decide +kernel
theorem dX5_laysRings_93 : decode cX5_laysRings 93 = .ok (.iload 4, 2) := by decide +kernel
theorem dX5_laysRings_95 : decode cX5_laysRings 95 = .ok (.iload_n 3, 1) := by decide +kernel
theorem dX5_laysRings_96 : decode cX5_laysRings 96 = .ok (.iload_n 2, 1) := by decide +kernel
theorem dX5_laysRings_97 : decode cX5_laysRings 97 = .ok (.invokevirtual 168, 3) := by decide +kernel
theorem dX5_laysRings_100 : decode cX5_laysRings 100 = .ok (.ifCond .eq 12, 3) := by decide +kernel
theorem dX5_laysRings_103 : decode cX5_laysRings 103 = .ok (.aload_n 0, 1) := by decide +kernel
theorem dX5_laysRings_104 : decode cX5_laysRings 104 = .ok (.iload 4, 2) := by decide +kernel
theorem dX5_laysRings_106 : decode cX5_laysRings 106 = .ok (.iload_n 3, 1) := by decide +kernel
theorem dX5_laysRings_107 : decode cX5_laysRings 107 = .ok (.iload_n 2, 1) := by decide +kernel
theorem dX5_laysRings_108 : decode cX5_laysRings 108 = .ok (.iload_n 1, 1) := by decide +kernel
theorem dX5_laysRings_109 : decode cX5_laysRings 109 = .ok (.invokevirtual 171, 3) := by decide +kernel
theorem dX5_laysRings_112 : decode cX5_laysRings 112 = .ok (.iinc 4 1, 3) := by decide +kernel
theorem dX5_laysRings_115 : decode cX5_laysRings 115 = .ok (.goto (-69), 3) := by decide +kernel
theorem dX5_laysRings_118 : decode cX5_laysRings 118 = .ok (.iinc 3 1, 3) := by decide +kernel
theorem dX5_laysRings_121 : decode cX5_laysRings 121 = .ok (.goto (-83), 3) := by decide +kernel
theorem dX5_laysRings_124 : decode cX5_laysRings 124 = .ok (.iinc 2 1, 3) := by decide +kernel
theorem dX5_laysRings_127 : decode cX5_laysRings 127 = .ok (.goto (-99), 3) := by decide +kernel
theorem dX5_laysRings_130 : decode cX5_laysRings 130 = .ok (.return_, 1) := by decide +kernel
theorem dX5_openRings_0 : decode cX5_openRings 0 = .ok (.iconst 0, 1) := by decide +kernel
theorem dX5_openRings_1 : decode cX5_openRings 1 = .ok (.istore_n 1, 1) := by decide +kernel
theorem dX5_openRings_2 : decode cX5_openRings 2 = .ok (.iconst 0, 1) := by decide +kernel
theorem dX5_openRings_3 : decode cX5_openRings 3 = .ok (.istore_n 2, 1) := by decide +kernel
theorem dX5_openRings_4 : decode cX5_openRings 4 = .ok (.iload_n 2, 1) := by decide +kernel
theorem dX5_openRings_5 : decode cX5_openRings 5 = .ok (.aload_n 0, 1) := by decide +kernel
theorem dX5_openRings_6 : decode cX5_openRings 6 = .ok (.getfield 161, 3) := by decide +kernel
theorem dX5_openRings_9 : decode cX5_openRings 9 = .ok (.if_icmp .ge 89, 3) := by decide +kernel
theorem dX5_openRings_12 : decode cX5_openRings 12 = .ok (.aload_n 0, 1) := by decide +kernel
theorem dX5_openRings_13 : decode cX5_openRings 13 = .ok (.getfield 83, 3) := by decide +kernel
theorem dX5_openRings_16 : decode cX5_openRings 16 = .ok (.iload_n 2, 1) := by decide +kernel
theorem dX5_openRings_17 : decode cX5_openRings 17 = .ok (.iaload, 1) := by decide +kernel
theorem dX5_openRings_18 : decode cX5_openRings 18 = .ok (.istore_n 3, 1) := by decide +kernel
theorem dX5_openRings_19 : decode cX5_openRings 19 = .ok (.iconst 3, 1) := by decide +kernel
theorem dX5_openRings_20 : decode cX5_openRings 20 = .ok (.iload_n 2, 1) := by decide +kernel
theorem dX5_openRings_21 : decode cX5_openRings 21 = .ok (.imul, 1) := by decide +kernel
theorem dX5_openRings_22 : decode cX5_openRings 22 = .ok (.istore 4, 2) := by decide +kernel
theorem dX5_openRings_24 : decode cX5_openRings 24 = .ok (.iload 4, 2) := by decide +kernel
theorem dX5_openRings_26 : decode cX5_openRings 26 = .ok (.iconst 3, 1) := by decide +kernel
theorem dX5_openRings_27 : decode cX5_openRings 27 = .ok (.iload_n 2, 1) := by decide +kernel
theorem dX5_openRings_28 : decode cX5_openRings 28 = .ok (.imul, 1) := by decide +kernel
theorem dX5_openRings_29 : decode cX5_openRings 29 = .ok (.iconst 3, 1) := by decide +kernel
theorem dX5_openRings_30 : decode cX5_openRings 30 = .ok (.iadd, 1) := by decide +kernel
theorem dX5_openRings_31 : decode cX5_openRings 31 = .ok (.if_icmp .ge 36, 3) := by decide +kernel
theorem dX5_openRings_34 : decode cX5_openRings 34 = .ok (.iload_n 3, 1) := by decide +kernel
theorem dX5_openRings_35 : decode cX5_openRings 35 = .ok (.sipush 1000, 3) := by decide +kernel
theorem dX5_openRings_38 : decode cX5_openRings 38 = .ok (.aload_n 0, 1) := by decide +kernel
theorem dX5_openRings_39 : decode cX5_openRings 39 = .ok (.getfield 80, 3) := by decide +kernel
theorem dX5_openRings_42 : decode cX5_openRings 42 = .ok (.iload 4, 2) := by decide +kernel
theorem dX5_openRings_44 : decode cX5_openRings 44 = .ok (.iaload, 1) := by decide +kernel
theorem dX5_openRings_45 : decode cX5_openRings 45 = .ok (.imul, 1) := by decide +kernel
theorem dX5_openRings_46 : decode cX5_openRings 46 = .ok (.aload_n 0, 1) := by decide +kernel
theorem dX5_openRings_47 : decode cX5_openRings 47 = .ok (.getfield 74, 3) := by decide +kernel
theorem dX5_openRings_50 : decode cX5_openRings 50 = .ok (.aload_n 0, 1) := by decide +kernel
theorem dX5_openRings_51 : decode cX5_openRings 51 = .ok (.getfield 77, 3) := by decide +kernel
theorem dX5_openRings_54 : decode cX5_openRings 54 = .ok (.iload 4, 2) := by decide +kernel
theorem dX5_openRings_56 : decode cX5_openRings 56 = .ok (.iaload, 1) := by decide +kernel
theorem dX5_openRings_57 : decode cX5_openRings 57 = .ok (.iaload, 1) := by decide +kernel
theorem dX5_openRings_58 : decode cX5_openRings 58 = .ok (.imul, 1) := by decide +kernel
theorem dX5_openRings_59 : decode cX5_openRings 59 = .ok (.isub, 1) := by decide +kernel
theorem dX5_openRings_60 : decode cX5_openRings 60 = .ok (.istore_n 3, 1) := by decide +kernel
theorem dX5_openRings_61 : decode cX5_openRings 61 = .ok (.iinc 4 1, 3) := by decide +kernel
theorem dX5_openRings_64 : decode cX5_openRings 64 = .ok (.goto (-40), 3) := by decide +kernel
theorem dX5_openRings_67 : decode cX5_openRings 67 = .ok (.iload_n 1, 1) := by decide +kernel
theorem dX5_openRings_68 : decode cX5_openRings 68 = .ok (.iload_n 3, 1) := by decide +kernel
theorem dX5_openRings_69 : decode cX5_openRings 69 = .ok (.aload_n 0, 1) := by decide +kernel
theorem dX5_openRings_70 : decode cX5_openRings 70 = .ok (.getfield 86, 3) := by decide +kernel
theorem dX5_openRings_73 : decode cX5_openRings 73 = .ok (.if_icmp .gt 12, 3) := by decide +kernel
theorem dX5_openRings_76 : decode cX5_openRings 76 = .ok (.iload_n 3, 1) := by decide +kernel
theorem dX5_openRings_77 : decode cX5_openRings 77 = .ok (.aload_n 0, 1) := by decide +kernel
theorem dX5_openRings_78 : decode cX5_openRings 78 = .ok (.getfield 86, 3) := by decide +kernel
theorem dX5_openRings_81 : decode cX5_openRings 81 = .ok (.ineg, 1) := by decide +kernel
theorem dX5_openRings_82 : decode cX5_openRings 82 = .ok (.if_icmp .ge 7, 3) := by decide +kernel
theorem dX5_openRings_85 : decode cX5_openRings 85 = .ok (.iconst 1, 1) := by decide +kernel
theorem dX5_openRings_86 : decode cX5_openRings 86 = .ok (.goto 4, 3) := by decide +kernel
theorem dX5_openRings_89 : decode cX5_openRings 89 = .ok (.iconst 0, 1) := by decide +kernel
theorem dX5_openRings_90 : decode cX5_openRings 90 = .ok (.iadd, 1) := by decide +kernel
theorem dX5_openRings_91 : decode cX5_openRings 91 = .ok (.istore_n 1, 1) := by decide +kernel
theorem dX5_openRings_92 : decode cX5_openRings 92 = .ok (.iinc 2 1, 3) := by decide +kernel
theorem dX5_openRings_95 : decode cX5_openRings 95 = .ok (.goto (-91), 3) := by decide +kernel
theorem dX5_openRings_98 : decode cX5_openRings 98 = .ok (.iload_n 1, 1) := by decide +kernel
theorem dX5_openRings_99 : decode cX5_openRings 99 = .ok (.ireturn, 1) := by decide +kernel
theorem dX5_least_0 : decode cX5_least 0 = .ok (.iload_n 0, 1) := by decide +kernel
theorem dX5_least_1 : decode cX5_least 1 = .ok (.iload_n 1, 1) := by decide +kernel
theorem dX5_least_2 : decode cX5_least 2 = .ok (.if_icmp .ge 16, 3) := by decide +kernel
theorem dX5_least_5 : decode cX5_least 5 = .ok (.iload_n 0, 1) := by decide +kernel
theorem dX5_least_6 : decode cX5_least 6 = .ok (.iload_n 2, 1) := by decide +kernel
theorem dX5_least_7 : decode cX5_least 7 = .ok (.if_icmp .ge 7, 3) := by decide +kernel
theorem dX5_least_10 : decode cX5_least 10 = .ok (.iload_n 0, 1) := by decide +kernel
theorem dX5_least_11 : decode cX5_least 11 = .ok (.goto 17, 3) := by decide +kernel
theorem dX5_least_14 : decode cX5_least 14 = .ok (.iload_n 2, 1) := by decide +kernel
theorem dX5_least_15 : decode cX5_least 15 = .ok (.goto 13, 3) := by decide +kernel
theorem dX5_least_18 : decode cX5_least 18 = .ok (.iload_n 1, 1) := by decide +kernel
theorem dX5_least_19 : decode cX5_least 19 = .ok (.iload_n 2, 1) := by decide +kernel
theorem dX5_least_20 : decode cX5_least 20 = .ok (.if_icmp .ge 7, 3) := by decide +kernel
theorem dX5_least_23 : decode cX5_least 23 = .ok (.iload_n 1, 1) := by decide +kernel
theorem dX5_least_24 : decode cX5_least 24 = .ok (.goto 4, 3) := by decide +kernel
theorem dX5_least_27 : decode cX5_least 27 = .ok (.iload_n 2, 1) := by decide +kernel
theorem dX5_least_28 : decode cX5_least 28 = .ok (.ireturn, 1) := by decide +kernel
set_option maxRecDepth 20000 in
theorem ggX5_most_X5_least : GoodIn wsX5_most wsX5_least := goodIn_r _ [4] (by decide +kernel) (by decide +kernel)
set_option maxRecDepth 20000 in
theorem gX5_most_X5_least : GoodIn wsX5_most (va_wsS RX5 174 yX5_least wsX5_least) := goodIn_app (goodIn_of _ (by decide +kernel)) ggX5_most_X5_least
theorem dX5_most_0 : decode cX5_most 0 = .ok (.iload_n 0, 1) := by decide +kernel
theorem dX5_most_1 : decode cX5_most 1 = .ok (.ineg, 1) := by decide +kernel
theorem dX5_most_2 : decode cX5_most 2 = .ok (.iload_n 1, 1) := by decide +kernel
theorem dX5_most_3 : decode cX5_most 3 = .ok (.ineg, 1) := by decide +kernel
theorem dX5_most_4 : decode cX5_most 4 = .ok (.iload_n 2, 1) := by decide +kernel
theorem dX5_most_5 : decode cX5_most 5 = .ok (.ineg, 1) := by decide +kernel
theorem dX5_most_6 : decode cX5_most 6 = .ok (.invokestatic 174, 3) := by decide +kernel
theorem dX5_most_9 : decode cX5_most 9 = .ok (.ineg, 1) := by decide +kernel
theorem dX5_most_10 : decode cX5_most 10 = .ok (.ireturn, 1) := by decide +kernel
set_option maxRecDepth 20000 in
theorem ggX5_closes_X5_least : GoodIn wsX5_closes wsX5_least := goodIn_r _ [6] (by decide +kernel) (by decide +kernel)
set_option maxRecDepth 20000 in
theorem gX5_closes_X5_least : GoodIn wsX5_closes (va_wsS RX5 174 yX5_least wsX5_least) := goodIn_app (goodIn_of _ (by decide +kernel)) ggX5_closes_X5_least
set_option maxRecDepth 20000 in
theorem ggX5_closes_X5_most : GoodIn wsX5_closes wsX5_most := goodIn_r _ [9, 3, 4, 5, 6] (by decide +kernel) (by decide +kernel)
set_option maxRecDepth 20000 in
theorem gX5_closes_X5_most : GoodIn wsX5_closes (va_wsS RX5 178 yX5_most wsX5_most) := goodIn_app (goodIn_of _ (by decide +kernel)) ggX5_closes_X5_most
set_option maxRecDepth 20000 in
theorem ggX5_closes_X5_hasMeasured : GoodIn wsX5_closes wsX5_hasMeasured := goodIn_r _ [13, 14, 15, 16, 17, 5, 18, 19, 20, 21, 22, 23, 24, 25, 26, 27, 62, 63, 64, 65, 66, 67, 68, 69, 70, 71, 72, 73, 74, 75, 76, 77, 78, 79, 80, 81, 82, 83, 84, 85, 86, 87, 88, 89, 90, 91, 92, 93, 94, 95] (by decide +kernel) (by decide +kernel)
set_option maxRecDepth 20000 in
theorem gX5_closes_X5_hasMeasured : GoodIn wsX5_closes (wsV RX5 152 RX5 yX5_hasMeasured wsX5_hasMeasured) := goodIn_app (goodIn_of _ (by decide +kernel)) ggX5_closes_X5_hasMeasured
set_option maxRecDepth 20000 in
theorem ggX5_closes_X5_isRing : GoodIn wsX5_closes wsX5_isRing := goodIn_r _ [31, 32, 33, 34, 35, 36, 5, 37, 62, 63, 64, 65, 66, 67, 68, 69, 70, 71, 72, 73, 74, 75, 76, 77, 78, 79, 80, 81, 82, 83, 84, 85, 86, 87, 88, 89, 90, 91, 92, 93, 94, 95] (by decide +kernel) (by decide +kernel)
set_option maxRecDepth 20000 in
theorem gX5_closes_X5_isRing : GoodIn wsX5_closes (wsV RX5 168 RX5 yX5_isRing wsX5_isRing) := goodIn_app (goodIn_of _ (by decide +kernel)) ggX5_closes_X5_isRing
set_option maxRecDepth 20000 in
theorem ggX5_closes_X5_goes : GoodIn wsX5_closes wsX5_goes := goodIn_r _ [41, 42, 62, 63, 64, 65, 66, 67, 68, 69, 70, 71, 72, 73, 74, 75, 76, 77, 78, 79, 80, 81, 82, 83, 84, 85, 86, 87, 88, 89, 90, 91, 92, 93, 94, 95] (by decide +kernel) (by decide +kernel)
set_option maxRecDepth 20000 in
theorem gX5_closes_X5_goes : GoodIn wsX5_closes (wsV RX5 109 RX5 yX5_goes wsX5_goes) := goodIn_app (goodIn_of _ (by decide +kernel)) ggX5_closes_X5_goes
set_option maxRecDepth 20000 in
theorem ggX5_closes_X5_laysRing : GoodIn wsX5_closes wsX5_laysRing := goodIn_r _ [46, 32, 33, 1, 34, 35, 36, 5, 37, 47, 48, 49, 50, 51, 52, 2, 53, 54, 55, 56, 57, 58, 59, 60, 61, 20, 21, 22, 62, 63, 64, 65, 66, 67, 68, 69, 70, 71, 72, 73, 74, 75, 76, 77, 78, 79, 80, 81, 82, 83, 84, 85, 86, 87, 88, 89, 90, 91, 92, 93, 94, 95] (by decide +kernel) (by decide +kernel)
set_option maxRecDepth 20000 in
theorem gX5_closes_X5_laysRing : GoodIn wsX5_closes (wsV RX5 171 RX5 yX5_laysRing wsX5_laysRing) := goodIn_app (goodIn_of _ (by decide +kernel)) ggX5_closes_X5_laysRing
theorem dX5_closes_0 : decode cX5_closes 0 = .ok (.iload_n 1, 1) := by decide +kernel
theorem dX5_closes_1 : decode cX5_closes 1 = .ok (.iload_n 2, 1) := by decide +kernel
theorem dX5_closes_2 : decode cX5_closes 2 = .ok (.iload_n 3, 1) := by decide +kernel
theorem dX5_closes_3 : decode cX5_closes 3 = .ok (.invokestatic 174, 3) := by decide +kernel
theorem dX5_closes_6 : decode cX5_closes 6 = .ok (.istore 5, 2) := by decide +kernel
theorem dX5_closes_8 : decode cX5_closes 8 = .ok (.iload_n 1, 1) := by decide +kernel
theorem dX5_closes_9 : decode cX5_closes 9 = .ok (.iload_n 2, 1) := by decide +kernel
theorem dX5_closes_10 : decode cX5_closes 10 = .ok (.iload_n 3, 1) := by decide +kernel
theorem dX5_closes_11 : decode cX5_closes 11 = .ok (.invokestatic 178, 3) := by decide +kernel
theorem dX5_closes_14 : decode cX5_closes 14 = .ok (.istore 6, 2) := by decide +kernel
theorem dX5_closes_16 : decode cX5_closes 16 = .ok (.iload_n 1, 1) := by decide +kernel
theorem dX5_closes_17 : decode cX5_closes 17 = .ok (.iload 5, 2) := by decide +kernel
theorem dX5_closes_19 : decode cX5_closes 19 = .ok (.if_icmp .eq 13, 3) := by decide +kernel
theorem dX5_closes_22 : decode cX5_closes 22 = .ok (.iload_n 1, 1) := by decide +kernel
theorem dX5_closes_23 : decode cX5_closes 23 = .ok (.iload 6, 2) := by decide +kernel
theorem dX5_closes_25 : decode cX5_closes 25 = .ok (.if_icmp .eq 7, 3) := by decide +kernel
theorem dX5_closes_28 : decode cX5_closes 28 = .ok (.iload_n 1, 1) := by decide +kernel
theorem dX5_closes_29 : decode cX5_closes 29 = .ok (.goto 20, 3) := by decide +kernel
theorem dX5_closes_32 : decode cX5_closes 32 = .ok (.iload_n 2, 1) := by decide +kernel
theorem dX5_closes_33 : decode cX5_closes 33 = .ok (.iload 5, 2) := by decide +kernel
theorem dX5_closes_35 : decode cX5_closes 35 = .ok (.if_icmp .eq 13, 3) := by decide +kernel
theorem dX5_closes_38 : decode cX5_closes 38 = .ok (.iload_n 2, 1) := by decide +kernel
theorem dX5_closes_39 : decode cX5_closes 39 = .ok (.iload 6, 2) := by decide +kernel
theorem dX5_closes_41 : decode cX5_closes 41 = .ok (.if_icmp .eq 7, 3) := by decide +kernel
theorem dX5_closes_44 : decode cX5_closes 44 = .ok (.iload_n 2, 1) := by decide +kernel
theorem dX5_closes_45 : decode cX5_closes 45 = .ok (.goto 4, 3) := by decide +kernel
theorem dX5_closes_48 : decode cX5_closes 48 = .ok (.iload_n 3, 1) := by decide +kernel
theorem dX5_closes_49 : decode cX5_closes 49 = .ok (.istore 7, 2) := by decide +kernel
theorem dX5_closes_51 : decode cX5_closes 51 = .ok (.aload_n 0, 1) := by decide +kernel
theorem dX5_closes_52 : decode cX5_closes 52 = .ok (.iload_n 1, 1) := by decide +kernel
theorem dX5_closes_53 : decode cX5_closes 53 = .ok (.iload 4, 2) := by decide +kernel
theorem dX5_closes_55 : decode cX5_closes 55 = .ok (.invokevirtual 152, 3) := by decide +kernel
theorem dX5_closes_58 : decode cX5_closes 58 = .ok (.ifCond .eq 27, 3) := by decide +kernel
theorem dX5_closes_61 : decode cX5_closes 61 = .ok (.aload_n 0, 1) := by decide +kernel
theorem dX5_closes_62 : decode cX5_closes 62 = .ok (.iload_n 2, 1) := by decide +kernel
theorem dX5_closes_63 : decode cX5_closes 63 = .ok (.iload 4, 2) := by decide +kernel
theorem dX5_closes_65 : decode cX5_closes 65 = .ok (.invokevirtual 152, 3) := by decide +kernel
theorem dX5_closes_68 : decode cX5_closes 68 = .ok (.ifCond .eq 17, 3) := by decide +kernel
theorem dX5_closes_71 : decode cX5_closes 71 = .ok (.aload_n 0, 1) := by decide +kernel
theorem dX5_closes_72 : decode cX5_closes 72 = .ok (.iload_n 3, 1) := by decide +kernel
theorem dX5_closes_73 : decode cX5_closes 73 = .ok (.iload 4, 2) := by decide +kernel
theorem dX5_closes_75 : decode cX5_closes 75 = .ok (.invokevirtual 152, 3) := by decide +kernel
theorem dX5_closes_78 : decode cX5_closes 78 = .ok (.ifCond .eq 7, 3) := by decide +kernel
theorem dX5_closes_81 : decode cX5_closes 81 = .ok (.iconst 1, 1) := by decide +kernel
theorem dX5_closes_82 : decode cX5_closes 82 = .ok (.goto 4, 3) := by decide +kernel
theorem dX5_closes_85 : decode cX5_closes 85 = .ok (.iconst 0, 1) := by decide +kernel
theorem dX5_closes_86 : decode cX5_closes 86 = .ok (.istore 8, 2) := by decide +kernel
theorem dX5_closes_88 : decode cX5_closes 88 = .ok (.aload_n 0, 1) := by decide +kernel
theorem dX5_closes_89 : decode cX5_closes 89 = .ok (.iload 8, 2) := by decide +kernel
theorem dX5_closes_91 : decode cX5_closes 91 = .ok (.iload 8, 2) := by decide +kernel
theorem dX5_closes_93 : decode cX5_closes 93 = .ok (.ifCond .eq 35, 3) := by decide +kernel
theorem dX5_closes_96 : decode cX5_closes 96 = .ok (.iload_n 1, 1) := by decide +kernel
theorem dX5_closes_97 : decode cX5_closes 97 = .ok (.iload_n 2, 1) := by decide +kernel
theorem dX5_closes_98 : decode cX5_closes 98 = .ok (.if_icmp .eq 30, 3) := by decide +kernel
theorem dX5_closes_101 : decode cX5_closes 101 = .ok (.iload_n 1, 1) := by decide +kernel
theorem dX5_closes_102 : decode cX5_closes 102 = .ok (.iload_n 3, 1) := by decide +kernel
theorem dX5_closes_103 : decode cX5_closes 103 = .ok (.if_icmp .eq 25, 3) := by decide +kernel
theorem dX5_closes_106 : decode cX5_closes 106 = .ok (.iload_n 2, 1) := by decide +kernel
theorem dX5_closes_107 : decode cX5_closes 107 = .ok (.iload_n 3, 1) := by decide +kernel
theorem dX5_closes_108 : decode cX5_closes 108 = .ok (.if_icmp .eq 20, 3) := by decide +kernel
theorem dX5_closes_111 : decode cX5_closes 111 = .ok (.aload_n 0, 1) := by decide +kernel
theorem dX5_closes_112 : decode cX5_closes 112 = .ok (.iload 5, 2) := by decide +kernel
theorem dX5_closes_114 : decode cX5_closes 114 = .ok (.iload 7, 2) := by decide +kernel
theorem dX5_closes_116 : decode cX5_closes 116 = .ok (.iload 6, 2) := by decide +kernel
theorem dX5_closes_118 : decode cX5_closes 118 = .ok (.invokevirtual 168, 3) := by decide +kernel
theorem dX5_closes_121 : decode cX5_closes 121 = .ok (.ifCond .eq 7, 3) := by decide +kernel
theorem dX5_closes_124 : decode cX5_closes 124 = .ok (.iconst 1, 1) := by decide +kernel
theorem dX5_closes_125 : decode cX5_closes 125 = .ok (.goto 4, 3) := by decide +kernel
theorem dX5_closes_128 : decode cX5_closes 128 = .ok (.iconst 0, 1) := by decide +kernel
theorem dX5_closes_129 : decode cX5_closes 129 = .ok (.iconst 1, 1) := by decide +kernel
theorem dX5_closes_130 : decode cX5_closes 130 = .ok (.invokevirtual 109, 3) := by decide +kernel
theorem dX5_closes_133 : decode cX5_closes 133 = .ok (.ifCond .ne 5, 3) := by decide +kernel
theorem dX5_closes_136 : decode cX5_closes 136 = .ok (.iconst 0, 1) := by decide +kernel
theorem dX5_closes_137 : decode cX5_closes 137 = .ok (.ireturn, 1) := by decide +kernel
theorem dX5_closes_138 : decode cX5_closes 138 = .ok (.aload_n 0, 1) := by decide +kernel
theorem dX5_closes_139 : decode cX5_closes 139 = .ok (.iconst 0, 1) := by decide +kernel
theorem dX5_closes_140 : decode cX5_closes 140 = .ok (.putfield 161, 3) := by decide +kernel
theorem dX5_closes_143 : decode cX5_closes 143 = .ok (.aload_n 0, 1) := by decide +kernel
theorem dX5_closes_144 : decode cX5_closes 144 = .ok (.iload 5, 2) := by decide +kernel
theorem dX5_closes_146 : decode cX5_closes 146 = .ok (.iload 7, 2) := by decide +kernel
theorem dX5_closes_148 : decode cX5_closes 148 = .ok (.iload 6, 2) := by decide +kernel
theorem dX5_closes_150 : decode cX5_closes 150 = .ok (.iload 4, 2) := by decide +kernel
theorem dX5_closes_152 : decode cX5_closes 152 = .ok (.invokevirtual 171, 3) := by decide +kernel
theorem dX5_closes_155 : decode cX5_closes 155 = .ok (.aload_n 0, 1) := by decide +kernel
theorem dX5_closes_156 : decode cX5_closes 156 = .ok (.getfield 83, 3) := by decide +kernel
theorem dX5_closes_159 : decode cX5_closes 159 = .ok (.iconst 0, 1) := by decide +kernel
theorem dX5_closes_160 : decode cX5_closes 160 = .ok (.iaload, 1) := by decide +kernel
theorem dX5_closes_161 : decode cX5_closes 161 = .ok (.ireturn, 1) := by decide +kernel
set_option maxRecDepth 20000 in
theorem ggX5_open_X5_isDay : GoodIn wsX5_open wsX5_isDay := goodIn_r _ [5, 6, 7, 8, 4, 9, 66, 67, 68, 69, 70, 71, 72, 73, 74, 75, 76, 77, 78, 79, 80, 81, 82, 83, 84, 85, 86, 87, 88, 89, 90, 91, 92, 93, 94, 95, 96, 97, 98, 99] (by decide +kernel) (by decide +kernel)
set_option maxRecDepth 20000 in
theorem gX5_open_X5_isDay : GoodIn wsX5_open (wsV RX5 149 RX5 yX5_isDay wsX5_isDay) := goodIn_app (goodIn_of _ (by decide +kernel)) ggX5_open_X5_isDay
set_option maxRecDepth 20000 in
theorem ggX5_open_X5_goes : GoodIn wsX5_open wsX5_goes := goodIn_r _ [13, 14, 66, 67, 68, 69, 70, 71, 72, 73, 74, 75, 76, 77, 78, 79, 80, 81, 82, 83, 84, 85, 86, 87, 88, 89, 90, 91, 92, 93, 94, 95, 96, 97, 98, 99] (by decide +kernel) (by decide +kernel)
set_option maxRecDepth 20000 in
theorem gX5_open_X5_goes : GoodIn wsX5_open (wsV RX5 109 RX5 yX5_goes wsX5_goes) := goodIn_app (goodIn_of _ (by decide +kernel)) ggX5_open_X5_goes
set_option maxRecDepth 20000 in
theorem ggX5_open_X5_laysRings : GoodIn wsX5_open wsX5_laysRings := goodIn_r _ [18, 19, 20, 21, 22, 23, 24, 4, 25, 26, 27, 28, 29, 30, 7, 8, 9, 1, 2, 3, 5, 6, 31, 32, 33, 34, 35, 36, 37, 38, 39, 40, 41, 42, 43, 44, 45, 46, 47, 48, 49, 50, 51, 52, 53, 54, 55, 56, 57, 58, 59, 60, 66, 67, 68, 69, 70, 71, 72, 73, 74, 75, 76, 77, 78, 79, 80, 81, 82, 83, 84, 85, 86, 87, 88, 89, 90, 91, 92, 93, 94, 95, 96, 97, 98, 99] (by decide +kernel) (by decide +kernel)
set_option maxRecDepth 20000 in
theorem gX5_open_X5_laysRings : GoodIn wsX5_open (wsV RX5 181 RX5 yX5_laysRings wsX5_laysRings) := goodIn_app (goodIn_of _ (by decide +kernel)) ggX5_open_X5_laysRings
set_option maxRecDepth 20000 in
theorem ggX5_open_X5_openRings : GoodIn wsX5_open wsX5_openRings := goodIn_r _ [64, 19, 51, 50, 20, 49, 65, 66, 67, 68, 69, 70, 71, 72, 73, 74, 75, 76, 77, 78, 79, 80, 81, 82, 83, 84, 85, 86, 87, 88, 89, 90, 91, 92, 93, 94, 95, 96, 97, 98, 99] (by decide +kernel) (by decide +kernel)
set_option maxRecDepth 20000 in
theorem gX5_open_X5_openRings : GoodIn wsX5_open (wsV RX5 184 RX5 yX5_openRings wsX5_openRings) := goodIn_app (goodIn_of _ (by decide +kernel)) ggX5_open_X5_openRings
theorem dX5_open_0 : decode cX5_open 0 = .ok (.aload_n 0, 1) := by decide +kernel
theorem dX5_open_1 : decode cX5_open 1 = .ok (.aload_n 0, 1) := by decide +kernel
theorem dX5_open_2 : decode cX5_open 2 = .ok (.iload_n 1, 1) := by decide +kernel
theorem dX5_open_3 : decode cX5_open 3 = .ok (.invokevirtual 149, 3) := by decide +kernel
theorem dX5_open_6 : decode cX5_open 6 = .ok (.iconst 1, 1) := by decide +kernel
theorem dX5_open_7 : decode cX5_open 7 = .ok (.iconst 1, 1) := by decide +kernel
theorem dX5_open_8 : decode cX5_open 8 = .ok (.invokevirtual 109, 3) := by decide +kernel
theorem dX5_open_11 : decode cX5_open 11 = .ok (.ifCond .ne 5, 3) := by decide +kernel
theorem dX5_open_14 : decode cX5_open 14 = .ok (.iconst 0, 1) := by decide +kernel
theorem dX5_open_15 : decode cX5_open 15 = .ok (.ireturn, 1) := by decide +kernel
theorem dX5_open_16 : decode cX5_open 16 = .ok (.aload_n 0, 1) := by decide +kernel
theorem dX5_open_17 : decode cX5_open 17 = .ok (.iload_n 1, 1) := by decide +kernel
theorem dX5_open_18 : decode cX5_open 18 = .ok (.invokevirtual 181, 3) := by decide +kernel
theorem dX5_open_21 : decode cX5_open 21 = .ok (.aload_n 0, 1) := by decide +kernel
theorem dX5_open_22 : decode cX5_open 22 = .ok (.invokevirtual 184, 3) := by decide +kernel
theorem dX5_open_25 : decode cX5_open 25 = .ok (.ireturn, 1) := by decide +kernel
set_option maxRecDepth 20000 in
theorem ggX5_laysOut_X5_hasMeasured : GoodIn wsX5_laysOut wsX5_hasMeasured := goodIn_r _ [7, 8, 9, 10, 11, 6, 12, 1, 13, 14, 15, 16, 17, 18, 19, 20, 21, 22, 23, 24, 25, 26, 27, 28, 29, 30, 31, 32, 33, 34, 35, 36, 37, 38, 39, 40, 41, 42, 43, 44, 45, 46, 47, 48, 49, 50, 51, 52, 53, 54] (by decide +kernel) (by decide +kernel)
set_option maxRecDepth 20000 in
theorem gX5_laysOut_X5_hasMeasured : GoodIn wsX5_laysOut (wsV RX5 152 RX5 yX5_hasMeasured wsX5_hasMeasured) := goodIn_app (goodIn_of _ (by decide +kernel)) ggX5_laysOut_X5_hasMeasured
theorem dX5_laysOut_0 : decode cX5_laysOut 0 = .ok (.iload_n 1, 1) := by decide +kernel
theorem dX5_laysOut_1 : decode cX5_laysOut 1 = .ok (.istore_n 3, 1) := by decide +kernel
theorem dX5_laysOut_2 : decode cX5_laysOut 2 = .ok (.iconst 0, 1) := by decide +kernel
theorem dX5_laysOut_3 : decode cX5_laysOut 3 = .ok (.istore 4, 2) := by decide +kernel
theorem dX5_laysOut_5 : decode cX5_laysOut 5 = .ok (.iconst 0, 1) := by decide +kernel
theorem dX5_laysOut_6 : decode cX5_laysOut 6 = .ok (.istore 5, 2) := by decide +kernel
theorem dX5_laysOut_8 : decode cX5_laysOut 8 = .ok (.iload 5, 2) := by decide +kernel
theorem dX5_laysOut_10 : decode cX5_laysOut 10 = .ok (.aload_n 0, 1) := by decide +kernel
theorem dX5_laysOut_11 : decode cX5_laysOut 11 = .ok (.getfield 103, 3) := by decide +kernel
theorem dX5_laysOut_14 : decode cX5_laysOut 14 = .ok (.if_icmp .ge 60, 3) := by decide +kernel
theorem dX5_laysOut_17 : decode cX5_laysOut 17 = .ok (.aload_n 0, 1) := by decide +kernel
theorem dX5_laysOut_18 : decode cX5_laysOut 18 = .ok (.getfield 74, 3) := by decide +kernel
theorem dX5_laysOut_21 : decode cX5_laysOut 21 = .ok (.iload 5, 2) := by decide +kernel
theorem dX5_laysOut_23 : decode cX5_laysOut 23 = .ok (.iload_n 3, 1) := by decide +kernel
theorem dX5_laysOut_24 : decode cX5_laysOut 24 = .ok (.iconst 3, 1) := by decide +kernel
theorem dX5_laysOut_25 : decode cX5_laysOut 25 = .ok (.irem, 1) := by decide +kernel
theorem dX5_laysOut_26 : decode cX5_laysOut 26 = .ok (.iconst 1, 1) := by decide +kernel
theorem dX5_laysOut_27 : decode cX5_laysOut 27 = .ok (.isub, 1) := by decide +kernel
theorem dX5_laysOut_28 : decode cX5_laysOut 28 = .ok (.iastore, 1) := by decide +kernel
theorem dX5_laysOut_29 : decode cX5_laysOut 29 = .ok (.iload 4, 2) := by decide +kernel
theorem dX5_laysOut_31 : decode cX5_laysOut 31 = .ok (.aload_n 0, 1) := by decide +kernel
theorem dX5_laysOut_32 : decode cX5_laysOut 32 = .ok (.getfield 74, 3) := by decide +kernel
theorem dX5_laysOut_35 : decode cX5_laysOut 35 = .ok (.iload 5, 2) := by decide +kernel
theorem dX5_laysOut_37 : decode cX5_laysOut 37 = .ok (.iaload, 1) := by decide +kernel
theorem dX5_laysOut_38 : decode cX5_laysOut 38 = .ok (.ifCond .ne 7, 3) := by decide +kernel
theorem dX5_laysOut_41 : decode cX5_laysOut 41 = .ok (.iconst 0, 1) := by decide +kernel
theorem dX5_laysOut_42 : decode cX5_laysOut 42 = .ok (.goto 19, 3) := by decide +kernel
theorem dX5_laysOut_45 : decode cX5_laysOut 45 = .ok (.aload_n 0, 1) := by decide +kernel
theorem dX5_laysOut_46 : decode cX5_laysOut 46 = .ok (.iload 5, 2) := by decide +kernel
theorem dX5_laysOut_48 : decode cX5_laysOut 48 = .ok (.iload_n 2, 1) := by decide +kernel
theorem dX5_laysOut_49 : decode cX5_laysOut 49 = .ok (.invokevirtual 152, 3) := by decide +kernel
theorem dX5_laysOut_52 : decode cX5_laysOut 52 = .ok (.ifCond .eq 7, 3) := by decide +kernel
theorem dX5_laysOut_55 : decode cX5_laysOut 55 = .ok (.iconst 1, 1) := by decide +kernel
theorem dX5_laysOut_56 : decode cX5_laysOut 56 = .ok (.goto 5, 3) := by decide +kernel
theorem dX5_laysOut_59 : decode cX5_laysOut 59 = .ok (.bipush 9, 2) := by decide +kernel
theorem dX5_laysOut_61 : decode cX5_laysOut 61 = .ok (.iadd, 1) := by decide +kernel
theorem dX5_laysOut_62 : decode cX5_laysOut 62 = .ok (.istore 4, 2) := by decide +kernel
theorem dX5_laysOut_64 : decode cX5_laysOut 64 = .ok (.iload_n 3, 1) := by decide +kernel
theorem dX5_laysOut_65 : decode cX5_laysOut 65 = .ok (.iconst 3, 1) := by decide +kernel
theorem dX5_laysOut_66 : decode cX5_laysOut 66 = .ok (.idiv, 1) := by decide +kernel
theorem dX5_laysOut_67 : decode cX5_laysOut 67 = .ok (.istore_n 3, 1) := by decide +kernel
theorem dX5_laysOut_68 : decode cX5_laysOut 68 = .ok (.iinc 5 1, 3) := by decide +kernel
theorem dX5_laysOut_71 : decode cX5_laysOut 71 = .ok (.goto (-63), 3) := by decide +kernel
theorem dX5_laysOut_74 : decode cX5_laysOut 74 = .ok (.iload 4, 2) := by decide +kernel
theorem dX5_laysOut_76 : decode cX5_laysOut 76 = .ok (.ireturn, 1) := by decide +kernel
set_option maxRecDepth 20000 in
theorem ggX5_slips_X5_isDay : GoodIn wsX5_slips wsX5_isDay := goodIn_r _ [6, 7, 8, 9, 5, 10, 70, 71, 72, 73, 74, 75, 76, 77, 78, 79, 80, 81, 82, 83, 84, 85, 86, 87, 88, 89, 90, 91, 92, 93, 94, 95, 96, 97, 98, 99, 100, 101, 102, 103] (by decide +kernel) (by decide +kernel)
set_option maxRecDepth 20000 in
theorem gX5_slips_X5_isDay : GoodIn wsX5_slips (wsV RX5 149 RX5 yX5_isDay wsX5_isDay) := goodIn_app (goodIn_of _ (by decide +kernel)) ggX5_slips_X5_isDay
set_option maxRecDepth 20000 in
theorem ggX5_slips_X5_goes : GoodIn wsX5_slips wsX5_goes := goodIn_r _ [14, 15, 70, 71, 72, 73, 74, 75, 76, 77, 78, 79, 80, 81, 82, 83, 84, 85, 86, 87, 88, 89, 90, 91, 92, 93, 94, 95, 96, 97, 98, 99, 100, 101, 102, 103] (by decide +kernel) (by decide +kernel)
set_option maxRecDepth 20000 in
theorem gX5_slips_X5_goes : GoodIn wsX5_slips (wsV RX5 109 RX5 yX5_goes wsX5_goes) := goodIn_app (goodIn_of _ (by decide +kernel)) ggX5_slips_X5_goes
set_option maxRecDepth 20000 in
theorem ggX5_slips_X5_laysRings : GoodIn wsX5_slips wsX5_laysRings := goodIn_r _ [19, 20, 21, 1, 22, 23, 24, 5, 25, 26, 27, 28, 29, 30, 8, 9, 10, 2, 3, 4, 6, 7, 31, 32, 33, 34, 35, 36, 37, 38, 39, 40, 41, 42, 43, 44, 45, 46, 47, 48, 49, 50, 51, 52, 53, 54, 55, 56, 57, 58, 59, 60, 70, 71, 72, 73, 74, 75, 76, 77, 78, 79, 80, 81, 82, 83, 84, 85, 86, 87, 88, 89, 90, 91, 92, 93, 94, 95, 96, 97, 98, 99, 100, 101, 102, 103] (by decide +kernel) (by decide +kernel)
set_option maxRecDepth 20000 in
theorem gX5_slips_X5_laysRings : GoodIn wsX5_slips (wsV RX5 181 RX5 yX5_laysRings wsX5_laysRings) := goodIn_app (goodIn_of _ (by decide +kernel)) ggX5_slips_X5_laysRings
set_option maxRecDepth 20000 in
theorem ggX5_slips_X5_laysOut : GoodIn wsX5_slips wsX5_laysOut := goodIn_r _ [64, 1, 21, 22, 23, 24, 5, 25, 26, 27, 28, 29, 30, 8, 9, 10, 2, 3, 4, 6, 7, 70, 71, 72, 73, 74, 75, 76, 77, 78, 79, 80, 81, 82, 83, 84, 85, 86, 87, 88, 89, 90, 91, 92, 93, 94, 95, 96, 97, 98, 99, 100, 101, 102, 103] (by decide +kernel) (by decide +kernel)
set_option maxRecDepth 20000 in
theorem gX5_slips_X5_laysOut : GoodIn wsX5_slips (wsV RX5 187 RX5 yX5_laysOut wsX5_laysOut) := goodIn_app (goodIn_of _ (by decide +kernel)) ggX5_slips_X5_laysOut
set_option maxRecDepth 20000 in
theorem ggX5_slips_X5_openRings : GoodIn wsX5_slips wsX5_openRings := goodIn_r _ [68, 20, 51, 50, 21, 49, 69, 70, 71, 72, 73, 74, 75, 76, 77, 78, 79, 80, 81, 82, 83, 84, 85, 86, 87, 88, 89, 90, 91, 92, 93, 94, 95, 96, 97, 98, 99, 100, 101, 102, 103] (by decide +kernel) (by decide +kernel)
set_option maxRecDepth 20000 in
theorem gX5_slips_X5_openRings : GoodIn wsX5_slips (wsV RX5 184 RX5 yX5_openRings wsX5_openRings) := goodIn_app (goodIn_of _ (by decide +kernel)) ggX5_slips_X5_openRings
theorem dX5_slips_0 : decode cX5_slips 0 = .ok (.aload_n 0, 1) := by decide +kernel
theorem dX5_slips_1 : decode cX5_slips 1 = .ok (.aload_n 0, 1) := by decide +kernel
theorem dX5_slips_2 : decode cX5_slips 2 = .ok (.iload_n 1, 1) := by decide +kernel
theorem dX5_slips_3 : decode cX5_slips 3 = .ok (.invokevirtual 149, 3) := by decide +kernel
theorem dX5_slips_6 : decode cX5_slips 6 = .ok (.iconst 1, 1) := by decide +kernel
theorem dX5_slips_7 : decode cX5_slips 7 = .ok (.iconst 1, 1) := by decide +kernel
theorem dX5_slips_8 : decode cX5_slips 8 = .ok (.invokevirtual 109, 3) := by decide +kernel
theorem dX5_slips_11 : decode cX5_slips 11 = .ok (.ifCond .ne 5, 3) := by decide +kernel
theorem dX5_slips_14 : decode cX5_slips 14 = .ok (.iconst 0, 1) := by decide +kernel
theorem dX5_slips_15 : decode cX5_slips 15 = .ok (.ireturn, 1) := by decide +kernel
theorem dX5_slips_16 : decode cX5_slips 16 = .ok (.iconst 1, 1) := by decide +kernel
theorem dX5_slips_17 : decode cX5_slips 17 = .ok (.istore_n 2, 1) := by decide +kernel
theorem dX5_slips_18 : decode cX5_slips 18 = .ok (.iconst 0, 1) := by decide +kernel
theorem dX5_slips_19 : decode cX5_slips 19 = .ok (.istore_n 3, 1) := by decide +kernel
theorem dX5_slips_20 : decode cX5_slips 20 = .ok (.iload_n 3, 1) := by decide +kernel
theorem dX5_slips_21 : decode cX5_slips 21 = .ok (.aload_n 0, 1) := by decide +kernel
theorem dX5_slips_22 : decode cX5_slips 22 = .ok (.getfield 103, 3) := by decide +kernel
theorem dX5_slips_25 : decode cX5_slips 25 = .ok (.if_icmp .ge 13, 3) := by decide +kernel
theorem dX5_slips_28 : decode cX5_slips 28 = .ok (.iload_n 2, 1) := by decide +kernel
theorem dX5_slips_29 : decode cX5_slips 29 = .ok (.iconst 3, 1) := by decide +kernel
theorem dX5_slips_30 : decode cX5_slips 30 = .ok (.imul, 1) := by decide +kernel
theorem dX5_slips_31 : decode cX5_slips 31 = .ok (.istore_n 2, 1) := by decide +kernel
theorem dX5_slips_32 : decode cX5_slips 32 = .ok (.iinc 3 1, 3) := by decide +kernel
theorem dX5_slips_35 : decode cX5_slips 35 = .ok (.goto (-15), 3) := by decide +kernel
theorem dX5_slips_38 : decode cX5_slips 38 = .ok (.iconst (-1), 1) := by decide +kernel
theorem dX5_slips_39 : decode cX5_slips 39 = .ok (.istore_n 3, 1) := by decide +kernel
theorem dX5_slips_40 : decode cX5_slips 40 = .ok (.bipush 9, 2) := by decide +kernel
theorem dX5_slips_42 : decode cX5_slips 42 = .ok (.istore 4, 2) := by decide +kernel
theorem dX5_slips_44 : decode cX5_slips 44 = .ok (.aload_n 0, 1) := by decide +kernel
theorem dX5_slips_45 : decode cX5_slips 45 = .ok (.iload_n 1, 1) := by decide +kernel
theorem dX5_slips_46 : decode cX5_slips 46 = .ok (.invokevirtual 181, 3) := by decide +kernel
theorem dX5_slips_49 : decode cX5_slips 49 = .ok (.iconst 0, 1) := by decide +kernel
theorem dX5_slips_50 : decode cX5_slips 50 = .ok (.istore 5, 2) := by decide +kernel
theorem dX5_slips_52 : decode cX5_slips 52 = .ok (.iload 5, 2) := by decide +kernel
theorem dX5_slips_54 : decode cX5_slips 54 = .ok (.iload_n 2, 1) := by decide +kernel
theorem dX5_slips_55 : decode cX5_slips 55 = .ok (.if_icmp .ge 39, 3) := by decide +kernel
theorem dX5_slips_58 : decode cX5_slips 58 = .ok (.aload_n 0, 1) := by decide +kernel
theorem dX5_slips_59 : decode cX5_slips 59 = .ok (.iload 5, 2) := by decide +kernel
theorem dX5_slips_61 : decode cX5_slips 61 = .ok (.iload_n 1, 1) := by decide +kernel
theorem dX5_slips_62 : decode cX5_slips 62 = .ok (.invokevirtual 187, 3) := by decide +kernel
theorem dX5_slips_65 : decode cX5_slips 65 = .ok (.istore 6, 2) := by decide +kernel
theorem dX5_slips_67 : decode cX5_slips 67 = .ok (.iload 6, 2) := by decide +kernel
theorem dX5_slips_69 : decode cX5_slips 69 = .ok (.iload 4, 2) := by decide +kernel
theorem dX5_slips_71 : decode cX5_slips 71 = .ok (.if_icmp .ge 17, 3) := by decide +kernel
theorem dX5_slips_74 : decode cX5_slips 74 = .ok (.aload_n 0, 1) := by decide +kernel
theorem dX5_slips_75 : decode cX5_slips 75 = .ok (.invokevirtual 184, 3) := by decide +kernel
theorem dX5_slips_78 : decode cX5_slips 78 = .ok (.ifCond .ne 10, 3) := by decide +kernel
theorem dX5_slips_81 : decode cX5_slips 81 = .ok (.iload 5, 2) := by decide +kernel
theorem dX5_slips_83 : decode cX5_slips 83 = .ok (.istore_n 3, 1) := by decide +kernel
theorem dX5_slips_84 : decode cX5_slips 84 = .ok (.iload 6, 2) := by decide +kernel
theorem dX5_slips_86 : decode cX5_slips 86 = .ok (.istore 4, 2) := by decide +kernel
theorem dX5_slips_88 : decode cX5_slips 88 = .ok (.iinc 5 1, 3) := by decide +kernel
theorem dX5_slips_91 : decode cX5_slips 91 = .ok (.goto (-39), 3) := by decide +kernel
theorem dX5_slips_94 : decode cX5_slips 94 = .ok (.iload_n 3, 1) := by decide +kernel
theorem dX5_slips_95 : decode cX5_slips 95 = .ok (.ireturn, 1) := by decide +kernel
set_option maxRecDepth 20000 in
theorem ggX5_linkOf_X5_hasMeasured : GoodIn wsX5_linkOf wsX5_hasMeasured := goodIn_r _ [8, 9, 10, 11, 12, 7, 13, 1, 14, 15, 16, 17, 18, 19, 20, 21, 22, 23, 24, 25, 26, 27, 28, 29, 30, 31, 32, 33, 34, 35, 36, 37, 38, 39, 40, 41, 42, 43, 44, 45, 46, 47, 48, 49, 50, 51, 52, 53, 54, 55] (by decide +kernel) (by decide +kernel)
set_option maxRecDepth 20000 in
theorem gX5_linkOf_X5_hasMeasured : GoodIn wsX5_linkOf (wsV RX5 152 RX5 yX5_hasMeasured wsX5_hasMeasured) := goodIn_app (goodIn_of _ (by decide +kernel)) ggX5_linkOf_X5_hasMeasured
theorem dX5_linkOf_0 : decode cX5_linkOf 0 = .ok (.iconst (-1), 1) := by decide +kernel
theorem dX5_linkOf_1 : decode cX5_linkOf 1 = .ok (.istore_n 3, 1) := by decide +kernel
theorem dX5_linkOf_2 : decode cX5_linkOf 2 = .ok (.aload_n 0, 1) := by decide +kernel
theorem dX5_linkOf_3 : decode cX5_linkOf 3 = .ok (.getfield 103, 3) := by decide +kernel
theorem dX5_linkOf_6 : decode cX5_linkOf 6 = .ok (.iconst 1, 1) := by decide +kernel
theorem dX5_linkOf_7 : decode cX5_linkOf 7 = .ok (.isub, 1) := by decide +kernel
theorem dX5_linkOf_8 : decode cX5_linkOf 8 = .ok (.istore 4, 2) := by decide +kernel
theorem dX5_linkOf_10 : decode cX5_linkOf 10 = .ok (.iload 4, 2) := by decide +kernel
theorem dX5_linkOf_12 : decode cX5_linkOf 12 = .ok (.ifCond .lt 80, 3) := by decide +kernel
theorem dX5_linkOf_15 : decode cX5_linkOf 15 = .ok (.aload_n 0, 1) := by decide +kernel
theorem dX5_linkOf_16 : decode cX5_linkOf 16 = .ok (.getfield 25, 3) := by decide +kernel
theorem dX5_linkOf_19 : decode cX5_linkOf 19 = .ok (.iload 4, 2) := by decide +kernel
theorem dX5_linkOf_21 : decode cX5_linkOf 21 = .ok (.iaload, 1) := by decide +kernel
theorem dX5_linkOf_22 : decode cX5_linkOf 22 = .ok (.iload_n 1, 1) := by decide +kernel
theorem dX5_linkOf_23 : decode cX5_linkOf 23 = .ok (.if_icmp .ne 13, 3) := by decide +kernel
theorem dX5_linkOf_26 : decode cX5_linkOf 26 = .ok (.aload_n 0, 1) := by decide +kernel
theorem dX5_linkOf_27 : decode cX5_linkOf 27 = .ok (.getfield 28, 3) := by decide +kernel
theorem dX5_linkOf_30 : decode cX5_linkOf 30 = .ok (.iload 4, 2) := by decide +kernel
theorem dX5_linkOf_32 : decode cX5_linkOf 32 = .ok (.iaload, 1) := by decide +kernel
theorem dX5_linkOf_33 : decode cX5_linkOf 33 = .ok (.ifCond .eq 24, 3) := by decide +kernel
theorem dX5_linkOf_36 : decode cX5_linkOf 36 = .ok (.aload_n 0, 1) := by decide +kernel
theorem dX5_linkOf_37 : decode cX5_linkOf 37 = .ok (.getfield 28, 3) := by decide +kernel
theorem dX5_linkOf_40 : decode cX5_linkOf 40 = .ok (.iload 4, 2) := by decide +kernel
theorem dX5_linkOf_42 : decode cX5_linkOf 42 = .ok (.iaload, 1) := by decide +kernel
theorem dX5_linkOf_43 : decode cX5_linkOf 43 = .ok (.iload_n 1, 1) := by decide +kernel
theorem dX5_linkOf_44 : decode cX5_linkOf 44 = .ok (.if_icmp .ne 17, 3) := by decide +kernel
theorem dX5_linkOf_47 : decode cX5_linkOf 47 = .ok (.aload_n 0, 1) := by decide +kernel
theorem dX5_linkOf_48 : decode cX5_linkOf 48 = .ok (.getfield 25, 3) := by decide +kernel
theorem dX5_linkOf_51 : decode cX5_linkOf 51 = .ok (.iload 4, 2) := by decide +kernel
theorem dX5_linkOf_53 : decode cX5_linkOf 53 = .ok (.iaload, 1) := by decide +kernel
theorem dX5_linkOf_54 : decode cX5_linkOf 54 = .ok (.ifCond .ne 7, 3) := by decide +kernel
theorem dX5_linkOf_57 : decode cX5_linkOf 57 = .ok (.iconst 1, 1) := by decide +kernel
theorem dX5_linkOf_58 : decode cX5_linkOf 58 = .ok (.goto 4, 3) := by decide +kernel
theorem dX5_linkOf_61 : decode cX5_linkOf 61 = .ok (.iconst 0, 1) := by decide +kernel
theorem dX5_linkOf_62 : decode cX5_linkOf 62 = .ok (.istore 5, 2) := by decide +kernel
theorem dX5_linkOf_64 : decode cX5_linkOf 64 = .ok (.iload 5, 2) := by decide +kernel
theorem dX5_linkOf_66 : decode cX5_linkOf 66 = .ok (.ifCond .eq 18, 3) := by decide +kernel
theorem dX5_linkOf_69 : decode cX5_linkOf 69 = .ok (.aload_n 0, 1) := by decide +kernel
theorem dX5_linkOf_70 : decode cX5_linkOf 70 = .ok (.iload 4, 2) := by decide +kernel
theorem dX5_linkOf_72 : decode cX5_linkOf 72 = .ok (.iload_n 2, 1) := by decide +kernel
theorem dX5_linkOf_73 : decode cX5_linkOf 73 = .ok (.invokevirtual 152, 3) := by decide +kernel
theorem dX5_linkOf_76 : decode cX5_linkOf 76 = .ok (.ifCond .eq 8, 3) := by decide +kernel
theorem dX5_linkOf_79 : decode cX5_linkOf 79 = .ok (.iload 4, 2) := by decide +kernel
theorem dX5_linkOf_81 : decode cX5_linkOf 81 = .ok (.goto 4, 3) := by decide +kernel
theorem dX5_linkOf_84 : decode cX5_linkOf 84 = .ok (.iload_n 3, 1) := by decide +kernel
theorem dX5_linkOf_85 : decode cX5_linkOf 85 = .ok (.istore_n 3, 1) := by decide +kernel
theorem dX5_linkOf_86 : decode cX5_linkOf 86 = .ok (.iinc 4 (-1), 3) := by decide +kernel
theorem dX5_linkOf_89 : decode cX5_linkOf 89 = .ok (.goto (-79), 3) := by decide +kernel
theorem dX5_linkOf_92 : decode cX5_linkOf 92 = .ok (.iload_n 3, 1) := by decide +kernel
theorem dX5_linkOf_93 : decode cX5_linkOf 93 = .ok (.ireturn, 1) := by decide +kernel
set_option maxRecDepth 20000 in
theorem ggX5_meanOf_X5_linkOf : GoodIn wsX5_meanOf wsX5_linkOf := goodIn_r _ [8, 9, 3, 10, 11, 12, 13, 7, 14, 15, 16, 17, 18, 19, 20, 21, 22, 23, 24, 25, 26, 27, 37, 38, 39, 40, 41, 42, 43, 44, 45, 46, 47, 48, 49, 50, 51, 52, 53, 54, 55, 56, 57, 58, 59, 60, 61, 62, 63, 64, 65, 66, 67, 68, 69, 70] (by decide +kernel) (by decide +kernel)
set_option maxRecDepth 20000 in
theorem gX5_meanOf_X5_linkOf : GoodIn wsX5_meanOf (wsV RX5 190 RX5 yX5_linkOf wsX5_linkOf) := goodIn_app (goodIn_of _ (by decide +kernel)) ggX5_meanOf_X5_linkOf
set_option maxRecDepth 20000 in
theorem ggX5_meanOf_X5_corrected : GoodIn wsX5_meanOf wsX5_corrected := goodIn_r _ [31, 32, 33, 34, 35, 36, 20, 21, 7, 22, 37, 38, 39, 40, 41, 42, 43, 44, 45, 46, 47, 48, 49, 50, 51, 52, 53, 54, 55, 56, 57, 58, 59, 60, 61, 62, 63, 64, 65, 66, 67, 68, 69, 70] (by decide +kernel) (by decide +kernel)
set_option maxRecDepth 20000 in
theorem gX5_meanOf_X5_corrected : GoodIn wsX5_meanOf (wsV RX5 155 RX5 yX5_corrected wsX5_corrected) := goodIn_app (goodIn_of _ (by decide +kernel)) ggX5_meanOf_X5_corrected
theorem dX5_meanOf_0 : decode cX5_meanOf 0 = .ok (.lconst 0, 1) := by decide +kernel
theorem dX5_meanOf_1 : decode cX5_meanOf 1 = .ok (.lstore_n 2, 1) := by decide +kernel
theorem dX5_meanOf_2 : decode cX5_meanOf 2 = .ok (.aload_n 0, 1) := by decide +kernel
theorem dX5_meanOf_3 : decode cX5_meanOf 3 = .ok (.getfield 96, 3) := by decide +kernel
theorem dX5_meanOf_6 : decode cX5_meanOf 6 = .ok (.ifCond .le 13, 3) := by decide +kernel
theorem dX5_meanOf_9 : decode cX5_meanOf 9 = .ok (.aload_n 0, 1) := by decide +kernel
theorem dX5_meanOf_10 : decode cX5_meanOf 10 = .ok (.getfield 22, 3) := by decide +kernel
theorem dX5_meanOf_13 : decode cX5_meanOf 13 = .ok (.iconst 0, 1) := by decide +kernel
theorem dX5_meanOf_14 : decode cX5_meanOf 14 = .ok (.iaload, 1) := by decide +kernel
theorem dX5_meanOf_15 : decode cX5_meanOf 15 = .ok (.i2l, 1) := by decide +kernel
theorem dX5_meanOf_16 : decode cX5_meanOf 16 = .ok (.goto 4, 3) := by decide +kernel
theorem dX5_meanOf_19 : decode cX5_meanOf 19 = .ok (.lconst 0, 1) := by decide +kernel
theorem dX5_meanOf_20 : decode cX5_meanOf 20 = .ok (.lstore 4, 2) := by decide +kernel
theorem dX5_meanOf_22 : decode cX5_meanOf 22 = .ok (.iconst 1, 1) := by decide +kernel
theorem dX5_meanOf_23 : decode cX5_meanOf 23 = .ok (.istore 6, 2) := by decide +kernel
theorem dX5_meanOf_25 : decode cX5_meanOf 25 = .ok (.iload 6, 2) := by decide +kernel
theorem dX5_meanOf_27 : decode cX5_meanOf 27 = .ok (.aload_n 0, 1) := by decide +kernel
theorem dX5_meanOf_28 : decode cX5_meanOf 28 = .ok (.getfield 96, 3) := by decide +kernel
theorem dX5_meanOf_31 : decode cX5_meanOf 31 = .ok (.if_icmp .ge 84, 3) := by decide +kernel
theorem dX5_meanOf_34 : decode cX5_meanOf 34 = .ok (.aload_n 0, 1) := by decide +kernel
theorem dX5_meanOf_35 : decode cX5_meanOf 35 = .ok (.iload 6, 2) := by decide +kernel
theorem dX5_meanOf_37 : decode cX5_meanOf 37 = .ok (.iload_n 1, 1) := by decide +kernel
theorem dX5_meanOf_38 : decode cX5_meanOf 38 = .ok (.invokevirtual 190, 3) := by decide +kernel
theorem dX5_meanOf_41 : decode cX5_meanOf 41 = .ok (.istore 7, 2) := by decide +kernel
theorem dX5_meanOf_43 : decode cX5_meanOf 43 = .ok (.iload 7, 2) := by decide +kernel
theorem dX5_meanOf_45 : decode cX5_meanOf 45 = .ok (.iconst (-1), 1) := by decide +kernel
theorem dX5_meanOf_46 : decode cX5_meanOf 46 = .ok (.if_icmp .eq 63, 3) := by decide +kernel
theorem dX5_meanOf_49 : decode cX5_meanOf 49 = .ok (.aload_n 0, 1) := by decide +kernel
theorem dX5_meanOf_50 : decode cX5_meanOf 50 = .ok (.getfield 25, 3) := by decide +kernel
theorem dX5_meanOf_53 : decode cX5_meanOf 53 = .ok (.iload 7, 2) := by decide +kernel
theorem dX5_meanOf_55 : decode cX5_meanOf 55 = .ok (.iaload, 1) := by decide +kernel
theorem dX5_meanOf_56 : decode cX5_meanOf 56 = .ok (.iload 6, 2) := by decide +kernel
theorem dX5_meanOf_58 : decode cX5_meanOf 58 = .ok (.if_icmp .ne 13, 3) := by decide +kernel
theorem dX5_meanOf_61 : decode cX5_meanOf 61 = .ok (.aload_n 0, 1) := by decide +kernel
theorem dX5_meanOf_62 : decode cX5_meanOf 62 = .ok (.iload 7, 2) := by decide +kernel
theorem dX5_meanOf_64 : decode cX5_meanOf 64 = .ok (.iload_n 1, 1) := by decide +kernel
theorem dX5_meanOf_65 : decode cX5_meanOf 65 = .ok (.invokevirtual 155, 3) := by decide +kernel
theorem dX5_meanOf_68 : decode cX5_meanOf 68 = .ok (.goto 11, 3) := by decide +kernel
theorem dX5_meanOf_71 : decode cX5_meanOf 71 = .ok (.aload_n 0, 1) := by decide +kernel
theorem dX5_meanOf_72 : decode cX5_meanOf 72 = .ok (.iload 7, 2) := by decide +kernel
theorem dX5_meanOf_74 : decode cX5_meanOf 74 = .ok (.iload_n 1, 1) := by decide +kernel
theorem dX5_meanOf_75 : decode cX5_meanOf 75 = .ok (.invokevirtual 155, 3) := by decide +kernel
theorem dX5_meanOf_78 : decode cX5_meanOf 78 = .ok (.ineg, 1) := by decide +kernel
theorem dX5_meanOf_79 : decode cX5_meanOf 79 = .ok (.istore 8, 2) := by decide +kernel
theorem dX5_meanOf_81 : decode cX5_meanOf 81 = .ok (.lload_n 2, 1) := by decide +kernel
theorem dX5_meanOf_82 : decode cX5_meanOf 82 = .ok (.aload_n 0, 1) := by decide +kernel
theorem dX5_meanOf_83 : decode cX5_meanOf 83 = .ok (.getfield 22, 3) := by decide +kernel
theorem dX5_meanOf_86 : decode cX5_meanOf 86 = .ok (.iload 6, 2) := by decide +kernel
theorem dX5_meanOf_88 : decode cX5_meanOf 88 = .ok (.iaload, 1) := by decide +kernel
theorem dX5_meanOf_89 : decode cX5_meanOf 89 = .ok (.i2l, 1) := by decide +kernel
theorem dX5_meanOf_90 : decode cX5_meanOf 90 = .ok (.iload 8, 2) := by decide +kernel
theorem dX5_meanOf_92 : decode cX5_meanOf 92 = .ok (.i2l, 1) := by decide +kernel
theorem dX5_meanOf_93 : decode cX5_meanOf 93 = .ok (.lmul, 1) := by decide +kernel
theorem dX5_meanOf_94 : decode cX5_meanOf 94 = .ok (.ladd, 1) := by decide +kernel
theorem dX5_meanOf_95 : decode cX5_meanOf 95 = .ok (.lstore_n 2, 1) := by decide +kernel
theorem dX5_meanOf_96 : decode cX5_meanOf 96 = .ok (.lload 4, 2) := by decide +kernel
theorem dX5_meanOf_98 : decode cX5_meanOf 98 = .ok (.aload_n 0, 1) := by decide +kernel
theorem dX5_meanOf_99 : decode cX5_meanOf 99 = .ok (.getfield 22, 3) := by decide +kernel
theorem dX5_meanOf_102 : decode cX5_meanOf 102 = .ok (.iload 6, 2) := by decide +kernel
theorem dX5_meanOf_104 : decode cX5_meanOf 104 = .ok (.iaload, 1) := by decide +kernel
theorem dX5_meanOf_105 : decode cX5_meanOf 105 = .ok (.i2l, 1) := by decide +kernel
theorem dX5_meanOf_106 : decode cX5_meanOf 106 = .ok (.ladd, 1) := by decide +kernel
theorem dX5_meanOf_107 : decode cX5_meanOf 107 = .ok (.lstore 4, 2) := by decide +kernel
theorem dX5_meanOf_109 : decode cX5_meanOf 109 = .ok (.iinc 6 1, 3) := by decide +kernel
theorem dX5_meanOf_112 : decode cX5_meanOf 112 = .ok (.goto (-87), 3) := by decide +kernel
theorem dX5_meanOf_115 : decode cX5_meanOf 115 = .ok (.lload 4, 2) := by decide +kernel
theorem dX5_meanOf_117 : decode cX5_meanOf 117 = .ok (.lconst 0, 1) := by decide +kernel
theorem dX5_meanOf_118 : decode cX5_meanOf 118 = .ok (.lcmp, 1) := by decide +kernel
theorem dX5_meanOf_119 : decode cX5_meanOf 119 = .ok (.ifCond .ne 7, 3) := by decide +kernel
theorem dX5_meanOf_122 : decode cX5_meanOf 122 = .ok (.iconst 0, 1) := by decide +kernel
theorem dX5_meanOf_123 : decode cX5_meanOf 123 = .ok (.goto 8, 3) := by decide +kernel
theorem dX5_meanOf_126 : decode cX5_meanOf 126 = .ok (.lload_n 2, 1) := by decide +kernel
theorem dX5_meanOf_127 : decode cX5_meanOf 127 = .ok (.lload 4, 2) := by decide +kernel
theorem dX5_meanOf_129 : decode cX5_meanOf 129 = .ok (.ldiv, 1) := by decide +kernel
theorem dX5_meanOf_130 : decode cX5_meanOf 130 = .ok (.l2i, 1) := by decide +kernel
theorem dX5_meanOf_131 : decode cX5_meanOf 131 = .ok (.ireturn, 1) := by decide +kernel
set_option maxRecDepth 20000 in
theorem ggX5_mean_X5_isDay : GoodIn wsX5_mean wsX5_isDay := goodIn_r _ [6, 7, 8, 9, 5, 10, 46, 47, 48, 49, 50, 51, 52, 53, 54, 55, 56, 57, 58, 59, 60, 61, 62, 63, 64, 65, 66, 67, 68, 69, 70, 71, 72, 73, 74, 75, 76, 77, 78, 79] (by decide +kernel) (by decide +kernel)
set_option maxRecDepth 20000 in
theorem gX5_mean_X5_isDay : GoodIn wsX5_mean (wsV RX5 149 RX5 yX5_isDay wsX5_isDay) := goodIn_app (goodIn_of _ (by decide +kernel)) ggX5_mean_X5_isDay
set_option maxRecDepth 20000 in
theorem ggX5_mean_X5_goes : GoodIn wsX5_mean wsX5_goes := goodIn_r _ [14, 15, 46, 47, 48, 49, 50, 51, 52, 53, 54, 55, 56, 57, 58, 59, 60, 61, 62, 63, 64, 65, 66, 67, 68, 69, 70, 71, 72, 73, 74, 75, 76, 77, 78, 79] (by decide +kernel) (by decide +kernel)
set_option maxRecDepth 20000 in
theorem gX5_mean_X5_goes : GoodIn wsX5_mean (wsV RX5 109 RX5 yX5_goes wsX5_goes) := goodIn_app (goodIn_of _ (by decide +kernel)) ggX5_mean_X5_goes
set_option maxRecDepth 20000 in
theorem ggX5_mean_X5_meanOf : GoodIn wsX5_mean wsX5_meanOf := goodIn_r _ [19, 1, 20, 21, 22, 23, 24, 5, 25, 26, 27, 28, 29, 30, 31, 32, 33, 34, 35, 36, 8, 9, 10, 2, 3, 4, 6, 7, 37, 38, 39, 40, 41, 42, 43, 44, 45, 46, 47, 48, 49, 50, 51, 52, 53, 54, 55, 56, 57, 58, 59, 60, 61, 62, 63, 64, 65, 66, 67, 68, 69, 70, 71, 72, 73, 74, 75, 76, 77, 78, 79] (by decide +kernel) (by decide +kernel)
set_option maxRecDepth 20000 in
theorem gX5_mean_X5_meanOf : GoodIn wsX5_mean (wsV RX5 142 RX5 yX5_meanOf wsX5_meanOf) := goodIn_app (goodIn_of _ (by decide +kernel)) ggX5_mean_X5_meanOf
theorem dX5_mean_0 : decode cX5_mean 0 = .ok (.aload_n 0, 1) := by decide +kernel
theorem dX5_mean_1 : decode cX5_mean 1 = .ok (.aload_n 0, 1) := by decide +kernel
theorem dX5_mean_2 : decode cX5_mean 2 = .ok (.iload_n 1, 1) := by decide +kernel
theorem dX5_mean_3 : decode cX5_mean 3 = .ok (.invokevirtual 149, 3) := by decide +kernel
theorem dX5_mean_6 : decode cX5_mean 6 = .ok (.ifCond .eq 14, 3) := by decide +kernel
theorem dX5_mean_9 : decode cX5_mean 9 = .ok (.aload_n 0, 1) := by decide +kernel
theorem dX5_mean_10 : decode cX5_mean 10 = .ok (.getfield 96, 3) := by decide +kernel
theorem dX5_mean_13 : decode cX5_mean 13 = .ok (.ifCond .le 7, 3) := by decide +kernel
theorem dX5_mean_16 : decode cX5_mean 16 = .ok (.iconst 1, 1) := by decide +kernel
theorem dX5_mean_17 : decode cX5_mean 17 = .ok (.goto 4, 3) := by decide +kernel
theorem dX5_mean_20 : decode cX5_mean 20 = .ok (.iconst 0, 1) := by decide +kernel
theorem dX5_mean_21 : decode cX5_mean 21 = .ok (.iconst 1, 1) := by decide +kernel
theorem dX5_mean_22 : decode cX5_mean 22 = .ok (.iconst 1, 1) := by decide +kernel
theorem dX5_mean_23 : decode cX5_mean 23 = .ok (.invokevirtual 109, 3) := by decide +kernel
theorem dX5_mean_26 : decode cX5_mean 26 = .ok (.ifCond .eq 11, 3) := by decide +kernel
theorem dX5_mean_29 : decode cX5_mean 29 = .ok (.aload_n 0, 1) := by decide +kernel
theorem dX5_mean_30 : decode cX5_mean 30 = .ok (.iload_n 1, 1) := by decide +kernel
theorem dX5_mean_31 : decode cX5_mean 31 = .ok (.invokevirtual 142, 3) := by decide +kernel
theorem dX5_mean_34 : decode cX5_mean 34 = .ok (.goto 4, 3) := by decide +kernel
theorem dX5_mean_37 : decode cX5_mean 37 = .ok (.iconst 0, 1) := by decide +kernel
theorem dX5_mean_38 : decode cX5_mean 38 = .ok (.ireturn, 1) := by decide +kernel
set_option maxRecDepth 20000 in
theorem ggX5_published_X5_isDay : GoodIn wsX5_published wsX5_isDay := goodIn_r _ [7, 8, 9, 10, 6, 11, 51, 52, 53, 54, 55, 56, 57, 58, 59, 60, 61, 62, 63, 64, 65, 66, 67, 68, 69, 70, 71, 72, 73, 74, 75, 76, 77, 78, 79, 80, 81, 82, 83, 84] (by decide +kernel) (by decide +kernel)
set_option maxRecDepth 20000 in
theorem gX5_published_X5_isDay : GoodIn wsX5_published (wsV RX5 149 RX5 yX5_isDay wsX5_isDay) := goodIn_app (goodIn_of _ (by decide +kernel)) ggX5_published_X5_isDay
set_option maxRecDepth 20000 in
theorem ggX5_published_X5_goes : GoodIn wsX5_published wsX5_goes := goodIn_r _ [15, 16, 51, 52, 53, 54, 55, 56, 57, 58, 59, 60, 61, 62, 63, 64, 65, 66, 67, 68, 69, 70, 71, 72, 73, 74, 75, 76, 77, 78, 79, 80, 81, 82, 83, 84] (by decide +kernel) (by decide +kernel)
set_option maxRecDepth 20000 in
theorem gX5_published_X5_goes : GoodIn wsX5_published (wsV RX5 109 RX5 yX5_goes wsX5_goes) := goodIn_app (goodIn_of _ (by decide +kernel)) ggX5_published_X5_goes
set_option maxRecDepth 20000 in
theorem ggX5_published_X5_meanOf : GoodIn wsX5_published wsX5_meanOf := goodIn_r _ [20, 21, 22, 23, 24, 25, 26, 6, 27, 28, 29, 30, 31, 32, 33, 34, 35, 36, 37, 38, 9, 10, 11, 3, 4, 5, 7, 8, 39, 40, 41, 42, 43, 44, 45, 46, 47, 51, 52, 53, 54, 55, 56, 57, 58, 59, 60, 61, 62, 63, 64, 65, 66, 67, 68, 69, 70, 71, 72, 73, 74, 75, 76, 77, 78, 79, 80, 81, 82, 83, 84] (by decide +kernel) (by decide +kernel)
set_option maxRecDepth 20000 in
theorem gX5_published_X5_meanOf : GoodIn wsX5_published (wsV RX5 142 RX5 yX5_meanOf wsX5_meanOf) := goodIn_app (goodIn_of _ (by decide +kernel)) ggX5_published_X5_meanOf
set_option maxRecDepth 20000 in
theorem ggX5_published_X5_held : GoodIn wsX5_published wsX5_held := goodIn_r _ [50] (by decide +kernel) (by decide +kernel)
set_option maxRecDepth 20000 in
theorem gX5_published_X5_held : GoodIn wsX5_published (va_wsS RX5 130 yX5_held wsX5_held) := goodIn_app (goodIn_of _ (by decide +kernel)) ggX5_published_X5_held
theorem dX5_published_0 : decode cX5_published 0 = .ok (.aload_n 0, 1) := by decide +kernel
theorem dX5_published_1 : decode cX5_published 1 = .ok (.aload_n 0, 1) := by decide +kernel
theorem dX5_published_2 : decode cX5_published 2 = .ok (.iload_n 1, 1) := by decide +kernel
theorem dX5_published_3 : decode cX5_published 3 = .ok (.invokevirtual 149, 3) := by decide +kernel
theorem dX5_published_6 : decode cX5_published 6 = .ok (.iconst 1, 1) := by decide +kernel
theorem dX5_published_7 : decode cX5_published 7 = .ok (.iconst 1, 1) := by decide +kernel
theorem dX5_published_8 : decode cX5_published 8 = .ok (.invokevirtual 109, 3) := by decide +kernel
theorem dX5_published_11 : decode cX5_published 11 = .ok (.ifCond .ne 5, 3) := by decide +kernel
theorem dX5_published_14 : decode cX5_published 14 = .ok (.iconst 0, 1) := by decide +kernel
theorem dX5_published_15 : decode cX5_published 15 = .ok (.ireturn, 1) := by decide +kernel
theorem dX5_published_16 : decode cX5_published 16 = .ok (.iload_n 2, 1) := by decide +kernel
theorem dX5_published_17 : decode cX5_published 17 = .ok (.ifCond .ne 10, 3) := by decide +kernel
theorem dX5_published_20 : decode cX5_published 20 = .ok (.aload_n 0, 1) := by decide +kernel
theorem dX5_published_21 : decode cX5_published 21 = .ok (.getfield 67, 3) := by decide +kernel
theorem dX5_published_24 : decode cX5_published 24 = .ok (.iload_n 1, 1) := by decide +kernel
theorem dX5_published_25 : decode cX5_published 25 = .ok (.iaload, 1) := by decide +kernel
theorem dX5_published_26 : decode cX5_published 26 = .ok (.ireturn, 1) := by decide +kernel
theorem dX5_published_27 : decode cX5_published 27 = .ok (.iconst 0, 1) := by decide +kernel
theorem dX5_published_28 : decode cX5_published 28 = .ok (.istore_n 3, 1) := by decide +kernel
theorem dX5_published_29 : decode cX5_published 29 = .ok (.iconst 1, 1) := by decide +kernel
theorem dX5_published_30 : decode cX5_published 30 = .ok (.istore 4, 2) := by decide +kernel
theorem dX5_published_32 : decode cX5_published 32 = .ok (.iload 4, 2) := by decide +kernel
theorem dX5_published_34 : decode cX5_published 34 = .ok (.iload_n 1, 1) := by decide +kernel
theorem dX5_published_35 : decode cX5_published 35 = .ok (.if_icmp .gt 27, 3) := by decide +kernel
theorem dX5_published_38 : decode cX5_published 38 = .ok (.iload_n 3, 1) := by decide +kernel
theorem dX5_published_39 : decode cX5_published 39 = .ok (.aload_n 0, 1) := by decide +kernel
theorem dX5_published_40 : decode cX5_published 40 = .ok (.iload 4, 2) := by decide +kernel
theorem dX5_published_42 : decode cX5_published 42 = .ok (.invokevirtual 142, 3) := by decide +kernel
theorem dX5_published_45 : decode cX5_published 45 = .ok (.iload_n 3, 1) := by decide +kernel
theorem dX5_published_46 : decode cX5_published 46 = .ok (.isub, 1) := by decide +kernel
theorem dX5_published_47 : decode cX5_published 47 = .ok (.aload_n 0, 1) := by decide +kernel
theorem dX5_published_48 : decode cX5_published 48 = .ok (.getfield 90, 3) := by decide +kernel
theorem dX5_published_51 : decode cX5_published 51 = .ok (.invokestatic 130, 3) := by decide +kernel
theorem dX5_published_54 : decode cX5_published 54 = .ok (.iadd, 1) := by decide +kernel
theorem dX5_published_55 : decode cX5_published 55 = .ok (.istore_n 3, 1) := by decide +kernel
theorem dX5_published_56 : decode cX5_published 56 = .ok (.iinc 4 1, 3) := by decide +kernel
theorem dX5_published_59 : decode cX5_published 59 = .ok (.goto (-27), 3) := by decide +kernel
theorem dX5_published_62 : decode cX5_published 62 = .ok (.iload_n 3, 1) := by decide +kernel
theorem dX5_published_63 : decode cX5_published 63 = .ok (.ireturn, 1) := by decide +kernel
set_option maxRecDepth 20000 in
theorem ggX5_height_X5_hasMeasured : GoodIn wsX5_height wsX5_hasMeasured := goodIn_r _ [6, 7, 8, 9, 10, 5, 11, 12, 13, 14, 15, 16, 17, 18, 19, 20, 35, 36, 37, 38, 39, 40, 41, 42, 43, 44, 45, 46, 47, 48, 49, 50, 51, 52, 53, 54, 55, 56, 57, 58, 59, 60, 61, 62, 63, 64, 65, 66, 67, 68] (by decide +kernel) (by decide +kernel)
set_option maxRecDepth 20000 in
theorem gX5_height_X5_hasMeasured : GoodIn wsX5_height (wsV RX5 152 RX5 yX5_hasMeasured wsX5_hasMeasured) := goodIn_app (goodIn_of _ (by decide +kernel)) ggX5_height_X5_hasMeasured
set_option maxRecDepth 20000 in
theorem ggX5_height_X5_in : GoodIn wsX5_height wsX5_in := goodIn_r _ [15] (by decide +kernel) (by decide +kernel)
set_option maxRecDepth 20000 in
theorem gX5_height_X5_in : GoodIn wsX5_height (va_wsS RX5 99 yX5_in wsX5_in) := goodIn_app (goodIn_of _ (by decide +kernel)) ggX5_height_X5_in
set_option maxRecDepth 20000 in
theorem ggX5_height_X5_goes : GoodIn wsX5_height wsX5_goes := goodIn_r _ [24, 25, 35, 36, 37, 38, 39, 40, 41, 42, 43, 44, 45, 46, 47, 48, 49, 50, 51, 52, 53, 54, 55, 56, 57, 58, 59, 60, 61, 62, 63, 64, 65, 66, 67, 68] (by decide +kernel) (by decide +kernel)
set_option maxRecDepth 20000 in
theorem gX5_height_X5_goes : GoodIn wsX5_height (wsV RX5 109 RX5 yX5_goes wsX5_goes) := goodIn_app (goodIn_of _ (by decide +kernel)) ggX5_height_X5_goes
set_option maxRecDepth 20000 in
theorem ggX5_height_X5_corrected : GoodIn wsX5_height wsX5_corrected := goodIn_r _ [29, 30, 31, 32, 33, 34, 13, 14, 5, 15, 35, 36, 37, 38, 39, 40, 41, 42, 43, 44, 45, 46, 47, 48, 49, 50, 51, 52, 53, 54, 55, 56, 57, 58, 59, 60, 61, 62, 63, 64, 65, 66, 67, 68] (by decide +kernel) (by decide +kernel)
set_option maxRecDepth 20000 in
theorem gX5_height_X5_corrected : GoodIn wsX5_height (wsV RX5 155 RX5 yX5_corrected wsX5_corrected) := goodIn_app (goodIn_of _ (by decide +kernel)) ggX5_height_X5_corrected
theorem dX5_height_0 : decode cX5_height 0 = .ok (.aload_n 0, 1) := by decide +kernel
theorem dX5_height_1 : decode cX5_height 1 = .ok (.iload_n 1, 1) := by decide +kernel
theorem dX5_height_2 : decode cX5_height 2 = .ok (.iload_n 2, 1) := by decide +kernel
theorem dX5_height_3 : decode cX5_height 3 = .ok (.invokevirtual 152, 3) := by decide +kernel
theorem dX5_height_6 : decode cX5_height 6 = .ok (.ifCond .eq 16, 3) := by decide +kernel
theorem dX5_height_9 : decode cX5_height 9 = .ok (.aload_n 0, 1) := by decide +kernel
theorem dX5_height_10 : decode cX5_height 10 = .ok (.iload_n 1, 1) := by decide +kernel
theorem dX5_height_11 : decode cX5_height 11 = .ok (.iload_n 3, 1) := by decide +kernel
theorem dX5_height_12 : decode cX5_height 12 = .ok (.invokevirtual 152, 3) := by decide +kernel
theorem dX5_height_15 : decode cX5_height 15 = .ok (.ifCond .eq 7, 3) := by decide +kernel
theorem dX5_height_18 : decode cX5_height 18 = .ok (.iconst 1, 1) := by decide +kernel
theorem dX5_height_19 : decode cX5_height 19 = .ok (.goto 4, 3) := by decide +kernel
theorem dX5_height_22 : decode cX5_height 22 = .ok (.iconst 0, 1) := by decide +kernel
theorem dX5_height_23 : decode cX5_height 23 = .ok (.istore 5, 2) := by decide +kernel
theorem dX5_height_25 : decode cX5_height 25 = .ok (.aload_n 0, 1) := by decide +kernel
theorem dX5_height_26 : decode cX5_height 26 = .ok (.iload 5, 2) := by decide +kernel
theorem dX5_height_28 : decode cX5_height 28 = .ok (.iload_n 3, 1) := by decide +kernel
theorem dX5_height_29 : decode cX5_height 29 = .ok (.iload_n 2, 1) := by decide +kernel
theorem dX5_height_30 : decode cX5_height 30 = .ok (.if_icmp .le 21, 3) := by decide +kernel
theorem dX5_height_33 : decode cX5_height 33 = .ok (.iload 4, 2) := by decide +kernel
theorem dX5_height_35 : decode cX5_height 35 = .ok (.sipush (-1000), 3) := by decide +kernel
theorem dX5_height_38 : decode cX5_height 38 = .ok (.sipush 1000, 3) := by decide +kernel
theorem dX5_height_41 : decode cX5_height 41 = .ok (.invokestatic 99, 3) := by decide +kernel
theorem dX5_height_44 : decode cX5_height 44 = .ok (.ifCond .eq 7, 3) := by decide +kernel
theorem dX5_height_47 : decode cX5_height 47 = .ok (.iconst 1, 1) := by decide +kernel
theorem dX5_height_48 : decode cX5_height 48 = .ok (.goto 4, 3) := by decide +kernel
theorem dX5_height_51 : decode cX5_height 51 = .ok (.iconst 0, 1) := by decide +kernel
theorem dX5_height_52 : decode cX5_height 52 = .ok (.iconst 1, 1) := by decide +kernel
theorem dX5_height_53 : decode cX5_height 53 = .ok (.invokevirtual 109, 3) := by decide +kernel
theorem dX5_height_56 : decode cX5_height 56 = .ok (.ifCond .ne 5, 3) := by decide +kernel
theorem dX5_height_59 : decode cX5_height 59 = .ok (.iconst 0, 1) := by decide +kernel
theorem dX5_height_60 : decode cX5_height 60 = .ok (.ireturn, 1) := by decide +kernel
theorem dX5_height_61 : decode cX5_height 61 = .ok (.iload_n 3, 1) := by decide +kernel
theorem dX5_height_62 : decode cX5_height 62 = .ok (.iload_n 2, 1) := by decide +kernel
theorem dX5_height_63 : decode cX5_height 63 = .ok (.isub, 1) := by decide +kernel
theorem dX5_height_64 : decode cX5_height 64 = .ok (.istore 6, 2) := by decide +kernel
theorem dX5_height_66 : decode cX5_height 66 = .ok (.aload_n 0, 1) := by decide +kernel
theorem dX5_height_67 : decode cX5_height 67 = .ok (.iload_n 1, 1) := by decide +kernel
theorem dX5_height_68 : decode cX5_height 68 = .ok (.iload_n 3, 1) := by decide +kernel
theorem dX5_height_69 : decode cX5_height 69 = .ok (.invokevirtual 155, 3) := by decide +kernel
theorem dX5_height_72 : decode cX5_height 72 = .ok (.aload_n 0, 1) := by decide +kernel
theorem dX5_height_73 : decode cX5_height 73 = .ok (.iload_n 1, 1) := by decide +kernel
theorem dX5_height_74 : decode cX5_height 74 = .ok (.iload_n 2, 1) := by decide +kernel
theorem dX5_height_75 : decode cX5_height 75 = .ok (.invokevirtual 155, 3) := by decide +kernel
theorem dX5_height_78 : decode cX5_height 78 = .ok (.isub, 1) := by decide +kernel
theorem dX5_height_79 : decode cX5_height 79 = .ok (.iload 4, 2) := by decide +kernel
theorem dX5_height_81 : decode cX5_height 81 = .ok (.iload 6, 2) := by decide +kernel
theorem dX5_height_83 : decode cX5_height 83 = .ok (.imul, 1) := by decide +kernel
theorem dX5_height_84 : decode cX5_height 84 = .ok (.isub, 1) := by decide +kernel
theorem dX5_height_85 : decode cX5_height 85 = .ok (.i2l, 1) := by decide +kernel
theorem dX5_height_86 : decode cX5_height 86 = .ok (.lstore 7, 2) := by decide +kernel
theorem dX5_height_88 : decode cX5_height 88 = .ok (.ldc2_w 193, 3) := by decide +kernel
theorem dX5_height_91 : decode cX5_height 91 = .ok (.lload 7, 2) := by decide +kernel
theorem dX5_height_93 : decode cX5_height 93 = .ok (.lmul, 1) := by decide +kernel
theorem dX5_height_94 : decode cX5_height 94 = .ok (.iload 6, 2) := by decide +kernel
theorem dX5_height_96 : decode cX5_height 96 = .ok (.i2l, 1) := by decide +kernel
theorem dX5_height_97 : decode cX5_height 97 = .ok (.ldiv, 1) := by decide +kernel
theorem dX5_height_98 : decode cX5_height 98 = .ok (.l2i, 1) := by decide +kernel
theorem dX5_height_99 : decode cX5_height 99 = .ok (.ireturn, 1) := by decide +kernel
theorem dX5_forIt_0 : decode cX5_forIt 0 = .ok (.iconst 0, 1) := by decide +kernel
theorem dX5_forIt_1 : decode cX5_forIt 1 = .ok (.istore_n 1, 1) := by decide +kernel
theorem dX5_forIt_2 : decode cX5_forIt 2 = .ok (.iconst 0, 1) := by decide +kernel
theorem dX5_forIt_3 : decode cX5_forIt 3 = .ok (.istore_n 2, 1) := by decide +kernel
theorem dX5_forIt_4 : decode cX5_forIt 4 = .ok (.iload_n 2, 1) := by decide +kernel
theorem dX5_forIt_5 : decode cX5_forIt 5 = .ok (.bipush 7, 2) := by decide +kernel
theorem dX5_forIt_7 : decode cX5_forIt 7 = .ok (.if_icmp .ge 26, 3) := by decide +kernel
theorem dX5_forIt_10 : decode cX5_forIt 10 = .ok (.iload_n 1, 1) := by decide +kernel
theorem dX5_forIt_11 : decode cX5_forIt 11 = .ok (.aload_n 0, 1) := by decide +kernel
theorem dX5_forIt_12 : decode cX5_forIt 12 = .ok (.getfield 70, 3) := by decide +kernel
theorem dX5_forIt_15 : decode cX5_forIt 15 = .ok (.iload_n 2, 1) := by decide +kernel
theorem dX5_forIt_16 : decode cX5_forIt 16 = .ok (.baload, 1) := by decide +kernel
theorem dX5_forIt_17 : decode cX5_forIt 17 = .ok (.ifCond .eq 7, 3) := by decide +kernel
theorem dX5_forIt_20 : decode cX5_forIt 20 = .ok (.iconst 1, 1) := by decide +kernel
theorem dX5_forIt_21 : decode cX5_forIt 21 = .ok (.goto 4, 3) := by decide +kernel
theorem dX5_forIt_24 : decode cX5_forIt 24 = .ok (.iconst 0, 1) := by decide +kernel
theorem dX5_forIt_25 : decode cX5_forIt 25 = .ok (.iadd, 1) := by decide +kernel
theorem dX5_forIt_26 : decode cX5_forIt 26 = .ok (.istore_n 1, 1) := by decide +kernel
theorem dX5_forIt_27 : decode cX5_forIt 27 = .ok (.iinc 2 1, 3) := by decide +kernel
theorem dX5_forIt_30 : decode cX5_forIt 30 = .ok (.goto (-26), 3) := by decide +kernel
theorem dX5_forIt_33 : decode cX5_forIt 33 = .ok (.iload_n 1, 1) := by decide +kernel
theorem dX5_forIt_34 : decode cX5_forIt 34 = .ok (.ireturn, 1) := by decide +kernel
set_option maxRecDepth 20000 in
theorem ggX5_vote_X5_in : GoodIn wsX5_vote wsX5_in := goodIn_r _ [5] (by decide +kernel) (by decide +kernel)
set_option maxRecDepth 20000 in
theorem gX5_vote_X5_in : GoodIn wsX5_vote (va_wsS RX5 99 yX5_in wsX5_in) := goodIn_app (goodIn_of _ (by decide +kernel)) ggX5_vote_X5_in
set_option maxRecDepth 20000 in
theorem ggX5_vote_X5_goes : GoodIn wsX5_vote wsX5_goes := goodIn_r _ [9, 10, 15, 16, 17, 18, 19, 20, 21, 22, 23, 24, 25, 26, 27, 28, 29, 30, 31, 32, 33, 34, 35, 36, 37, 38, 39, 40, 41, 42, 43, 44, 45, 46, 47, 48] (by decide +kernel) (by decide +kernel)
set_option maxRecDepth 20000 in
theorem gX5_vote_X5_goes : GoodIn wsX5_vote (wsV RX5 109 RX5 yX5_goes wsX5_goes) := goodIn_app (goodIn_of _ (by decide +kernel)) ggX5_vote_X5_goes
set_option maxRecDepth 20000 in
theorem ggX5_vote_X5_forIt : GoodIn wsX5_vote wsX5_forIt := goodIn_r _ [14, 1, 15, 16, 17, 18, 19, 20, 21, 22, 23, 24, 25, 26, 27, 28, 29, 30, 31, 32, 33, 34, 35, 36, 37, 38, 39, 40, 41, 42, 43, 44, 45, 46, 47, 48] (by decide +kernel) (by decide +kernel)
set_option maxRecDepth 20000 in
theorem gX5_vote_X5_forIt : GoodIn wsX5_vote (wsV RX5 195 RX5 yX5_forIt wsX5_forIt) := goodIn_app (goodIn_of _ (by decide +kernel)) ggX5_vote_X5_forIt
theorem dX5_vote_0 : decode cX5_vote 0 = .ok (.aload_n 0, 1) := by decide +kernel
theorem dX5_vote_1 : decode cX5_vote 1 = .ok (.iload_n 1, 1) := by decide +kernel
theorem dX5_vote_2 : decode cX5_vote 2 = .ok (.iconst 0, 1) := by decide +kernel
theorem dX5_vote_3 : decode cX5_vote 3 = .ok (.bipush 6, 2) := by decide +kernel
theorem dX5_vote_5 : decode cX5_vote 5 = .ok (.invokestatic 99, 3) := by decide +kernel
theorem dX5_vote_8 : decode cX5_vote 8 = .ok (.iconst 1, 1) := by decide +kernel
theorem dX5_vote_9 : decode cX5_vote 9 = .ok (.iconst 1, 1) := by decide +kernel
theorem dX5_vote_10 : decode cX5_vote 10 = .ok (.invokevirtual 109, 3) := by decide +kernel
theorem dX5_vote_13 : decode cX5_vote 13 = .ok (.ifCond .ne 5, 3) := by decide +kernel
theorem dX5_vote_16 : decode cX5_vote 16 = .ok (.iconst 0, 1) := by decide +kernel
theorem dX5_vote_17 : decode cX5_vote 17 = .ok (.ireturn, 1) := by decide +kernel
theorem dX5_vote_18 : decode cX5_vote 18 = .ok (.aload_n 0, 1) := by decide +kernel
theorem dX5_vote_19 : decode cX5_vote 19 = .ok (.getfield 70, 3) := by decide +kernel
theorem dX5_vote_22 : decode cX5_vote 22 = .ok (.iload_n 1, 1) := by decide +kernel
theorem dX5_vote_23 : decode cX5_vote 23 = .ok (.iload_n 2, 1) := by decide +kernel
theorem dX5_vote_24 : decode cX5_vote 24 = .ok (.bastore, 1) := by decide +kernel
theorem dX5_vote_25 : decode cX5_vote 25 = .ok (.aload_n 0, 1) := by decide +kernel
theorem dX5_vote_26 : decode cX5_vote 26 = .ok (.invokevirtual 195, 3) := by decide +kernel
theorem dX5_vote_29 : decode cX5_vote 29 = .ok (.ireturn, 1) := by decide +kernel
set_option maxRecDepth 20000 in
theorem ggX5_adopt_X5_goes : GoodIn wsX5_adopt wsX5_goes := goodIn_r _ [7, 8, 72, 73, 74, 75, 76, 77, 78, 79, 80, 81, 82, 83, 84, 85, 86, 87, 88, 89, 90, 91, 92, 93, 94, 95, 96, 97, 98, 99, 100, 101, 102, 103, 104, 105] (by decide +kernel) (by decide +kernel)
set_option maxRecDepth 20000 in
theorem gX5_adopt_X5_goes : GoodIn wsX5_adopt (wsV RX5 109 RX5 yX5_goes wsX5_goes) := goodIn_app (goodIn_of _ (by decide +kernel)) ggX5_adopt_X5_goes
set_option maxRecDepth 20000 in
theorem ggX5_adopt_X5_laysRings : GoodIn wsX5_adopt wsX5_laysRings := goodIn_r _ [12, 13, 14, 15, 16, 17, 18, 6, 19, 20, 21, 22, 23, 24, 25, 26, 27, 28, 29, 30, 31, 2, 32, 33, 34, 35, 36, 37, 38, 39, 40, 41, 42, 43, 44, 45, 46, 47, 48, 49, 50, 51, 52, 53, 54, 55, 56, 57, 58, 59, 60, 61, 72, 73, 74, 75, 76, 77, 78, 79, 80, 81, 82, 83, 84, 85, 86, 87, 88, 89, 90, 91, 92, 93, 94, 95, 96, 97, 98, 99, 100, 101, 102, 103, 104, 105] (by decide +kernel) (by decide +kernel)
set_option maxRecDepth 20000 in
theorem gX5_adopt_X5_laysRings : GoodIn wsX5_adopt (wsV RX5 181 RX5 yX5_laysRings wsX5_laysRings) := goodIn_app (goodIn_of _ (by decide +kernel)) ggX5_adopt_X5_laysRings
set_option maxRecDepth 20000 in
theorem ggX5_adopt_X5_forIt : GoodIn wsX5_adopt wsX5_forIt := goodIn_r _ [65, 66, 72, 73, 74, 75, 76, 77, 78, 79, 80, 81, 82, 83, 84, 85, 86, 87, 88, 89, 90, 91, 92, 93, 94, 95, 96, 97, 98, 99, 100, 101, 102, 103, 104, 105] (by decide +kernel) (by decide +kernel)
set_option maxRecDepth 20000 in
theorem gX5_adopt_X5_forIt : GoodIn wsX5_adopt (wsV RX5 195 RX5 yX5_forIt wsX5_forIt) := goodIn_app (goodIn_of _ (by decide +kernel)) ggX5_adopt_X5_forIt
set_option maxRecDepth 20000 in
theorem ggX5_adopt_X5_openRings : GoodIn wsX5_adopt wsX5_openRings := goodIn_r _ [70, 13, 52, 51, 14, 50, 71, 72, 73, 74, 75, 76, 77, 78, 79, 80, 81, 82, 83, 84, 85, 86, 87, 88, 89, 90, 91, 92, 93, 94, 95, 96, 97, 98, 99, 100, 101, 102, 103, 104, 105] (by decide +kernel) (by decide +kernel)
set_option maxRecDepth 20000 in
theorem gX5_adopt_X5_openRings : GoodIn wsX5_adopt (wsV RX5 184 RX5 yX5_openRings wsX5_openRings) := goodIn_app (goodIn_of _ (by decide +kernel)) ggX5_adopt_X5_openRings
theorem dX5_adopt_0 : decode cX5_adopt 0 = .ok (.aload_n 0, 1) := by decide +kernel
theorem dX5_adopt_1 : decode cX5_adopt 1 = .ok (.aload_n 0, 1) := by decide +kernel
theorem dX5_adopt_2 : decode cX5_adopt 2 = .ok (.getfield 198, 3) := by decide +kernel
theorem dX5_adopt_5 : decode cX5_adopt 5 = .ok (.ifCond .ne 14, 3) := by decide +kernel
theorem dX5_adopt_8 : decode cX5_adopt 8 = .ok (.aload_n 0, 1) := by decide +kernel
theorem dX5_adopt_9 : decode cX5_adopt 9 = .ok (.getfield 106, 3) := by decide +kernel
theorem dX5_adopt_12 : decode cX5_adopt 12 = .ok (.ifCond .le 7, 3) := by decide +kernel
theorem dX5_adopt_15 : decode cX5_adopt 15 = .ok (.iconst 1, 1) := by decide +kernel
theorem dX5_adopt_16 : decode cX5_adopt 16 = .ok (.goto 4, 3) := by decide +kernel
theorem dX5_adopt_19 : decode cX5_adopt 19 = .ok (.iconst 0, 1) := by decide +kernel
theorem dX5_adopt_20 : decode cX5_adopt 20 = .ok (.iconst 1, 1) := by decide +kernel
theorem dX5_adopt_21 : decode cX5_adopt 21 = .ok (.iconst 1, 1) := by decide +kernel
theorem dX5_adopt_22 : decode cX5_adopt 22 = .ok (.invokevirtual 109, 3) := by decide +kernel
theorem dX5_adopt_25 : decode cX5_adopt 25 = .ok (.ifCond .ne 5, 3) := by decide +kernel
theorem dX5_adopt_28 : decode cX5_adopt 28 = .ok (.iconst 0, 1) := by decide +kernel
theorem dX5_adopt_29 : decode cX5_adopt 29 = .ok (.ireturn, 1) := by decide +kernel
theorem dX5_adopt_30 : decode cX5_adopt 30 = .ok (.aload_n 0, 1) := by decide +kernel
theorem dX5_adopt_31 : decode cX5_adopt 31 = .ok (.aload_n 0, 1) := by decide +kernel
theorem dX5_adopt_32 : decode cX5_adopt 32 = .ok (.getfield 106, 3) := by decide +kernel
theorem dX5_adopt_35 : decode cX5_adopt 35 = .ok (.invokevirtual 181, 3) := by decide +kernel
theorem dX5_adopt_38 : decode cX5_adopt 38 = .ok (.aload_n 0, 1) := by decide +kernel
theorem dX5_adopt_39 : decode cX5_adopt 39 = .ok (.aload_n 0, 1) := by decide +kernel
theorem dX5_adopt_40 : decode cX5_adopt 40 = .ok (.invokevirtual 195, 3) := by decide +kernel
theorem dX5_adopt_43 : decode cX5_adopt 43 = .ok (.iconst 5, 1) := by decide +kernel
theorem dX5_adopt_44 : decode cX5_adopt 44 = .ok (.if_icmp .lt 14, 3) := by decide +kernel
theorem dX5_adopt_47 : decode cX5_adopt 47 = .ok (.aload_n 0, 1) := by decide +kernel
theorem dX5_adopt_48 : decode cX5_adopt 48 = .ok (.invokevirtual 184, 3) := by decide +kernel
theorem dX5_adopt_51 : decode cX5_adopt 51 = .ok (.ifCond .ne 7, 3) := by decide +kernel
theorem dX5_adopt_54 : decode cX5_adopt 54 = .ok (.iconst 1, 1) := by decide +kernel
theorem dX5_adopt_55 : decode cX5_adopt 55 = .ok (.goto 4, 3) := by decide +kernel
theorem dX5_adopt_58 : decode cX5_adopt 58 = .ok (.iconst 0, 1) := by decide +kernel
theorem dX5_adopt_59 : decode cX5_adopt 59 = .ok (.putfield 198, 3) := by decide +kernel
theorem dX5_adopt_62 : decode cX5_adopt 62 = .ok (.aload_n 0, 1) := by decide +kernel
theorem dX5_adopt_63 : decode cX5_adopt 63 = .ok (.getfield 198, 3) := by decide +kernel
theorem dX5_adopt_66 : decode cX5_adopt 66 = .ok (.ireturn, 1) := by decide +kernel
end
section
theorem dX5_day_0 : decode cX5_day 0 = .ok (.aload_n 0, 1) := by decide +kernel
theorem dX5_day_1 : decode cX5_day 1 = .ok (.iconst 0, 1) := by decide +kernel
theorem dX5_day_2 : decode cX5_day 2 = .ok (.putfield 93, 3) := by decide +kernel
theorem dX5_day_5 : decode cX5_day 5 = .ok (.aload_n 0, 1) := by decide +kernel
theorem dX5_day_6 : decode cX5_day 6 = .ok (.getfield 106, 3) := by decide +kernel
theorem dX5_day_9 : decode cX5_day 9 = .ok (.ireturn, 1) := by decide +kernel
set_option maxRecDepth 20000 in
theorem ggX5_of_X5_isClock : GoodIn wsX5_of wsX5_isClock := goodIn_r _ [8, 9, 10, 11, 7, 12, 18, 19, 20, 21, 22, 23, 24, 25, 26, 27, 28, 29, 30, 31, 32, 33, 34, 35, 36, 37, 38, 39, 40, 41, 42, 43, 44, 45, 46, 47, 48, 49, 50, 51] (by decide +kernel) (by decide +kernel)
set_option maxRecDepth 20000 in
theorem gX5_of_X5_isClock : GoodIn wsX5_of (wsV RX5 113 RX5 yX5_isClock wsX5_isClock) := goodIn_app (goodIn_of _ (by decide +kernel)) ggX5_of_X5_isClock
set_option maxRecDepth 20000 in
theorem ggX5_of_X5_in : GoodIn wsX5_of wsX5_in := goodIn_r _ [12] (by decide +kernel) (by decide +kernel)
set_option maxRecDepth 20000 in
theorem gX5_of_X5_in : GoodIn wsX5_of (va_wsS RX5 99 yX5_in wsX5_in) := goodIn_app (goodIn_of _ (by decide +kernel)) ggX5_of_X5_in
set_option maxRecDepth 20000 in
theorem ggX5_of_X5_goes : GoodIn wsX5_of wsX5_goes := goodIn_r _ [16, 17, 18, 19, 20, 21, 22, 23, 24, 25, 26, 27, 28, 29, 30, 31, 32, 33, 34, 35, 36, 37, 38, 39, 40, 41, 42, 43, 44, 45, 46, 47, 48, 49, 50, 51] (by decide +kernel) (by decide +kernel)
set_option maxRecDepth 20000 in
theorem gX5_of_X5_goes : GoodIn wsX5_of (wsV RX5 109 RX5 yX5_goes wsX5_goes) := goodIn_app (goodIn_of _ (by decide +kernel)) ggX5_of_X5_goes
theorem dX5_of_0 : decode cX5_of 0 = .ok (.aload_n 0, 1) := by decide +kernel
theorem dX5_of_1 : decode cX5_of 1 = .ok (.aload_n 0, 1) := by decide +kernel
theorem dX5_of_2 : decode cX5_of 2 = .ok (.iload_n 1, 1) := by decide +kernel
theorem dX5_of_3 : decode cX5_of 3 = .ok (.invokevirtual 113, 3) := by decide +kernel
theorem dX5_of_6 : decode cX5_of 6 = .ok (.iload_n 2, 1) := by decide +kernel
theorem dX5_of_7 : decode cX5_of 7 = .ok (.iconst 0, 1) := by decide +kernel
theorem dX5_of_8 : decode cX5_of 8 = .ok (.iconst 2, 1) := by decide +kernel
theorem dX5_of_9 : decode cX5_of 9 = .ok (.invokestatic 99, 3) := by decide +kernel
theorem dX5_of_12 : decode cX5_of 12 = .ok (.iconst 1, 1) := by decide +kernel
theorem dX5_of_13 : decode cX5_of 13 = .ok (.invokevirtual 109, 3) := by decide +kernel
theorem dX5_of_16 : decode cX5_of 16 = .ok (.ifCond .ne 5, 3) := by decide +kernel
theorem dX5_of_19 : decode cX5_of 19 = .ok (.iconst 0, 1) := by decide +kernel
theorem dX5_of_20 : decode cX5_of 20 = .ok (.ireturn, 1) := by decide +kernel
theorem dX5_of_21 : decode cX5_of 21 = .ok (.iload_n 2, 1) := by decide +kernel
theorem dX5_of_22 : decode cX5_of 22 = .ok (.ifCond .ne 12, 3) := by decide +kernel
theorem dX5_of_25 : decode cX5_of 25 = .ok (.aload_n 0, 1) := by decide +kernel
theorem dX5_of_26 : decode cX5_of 26 = .ok (.getfield 19, 3) := by decide +kernel
theorem dX5_of_29 : decode cX5_of 29 = .ok (.iload_n 1, 1) := by decide +kernel
theorem dX5_of_30 : decode cX5_of 30 = .ok (.iaload, 1) := by decide +kernel
theorem dX5_of_31 : decode cX5_of 31 = .ok (.goto 23, 3) := by decide +kernel
theorem dX5_of_34 : decode cX5_of 34 = .ok (.iload_n 2, 1) := by decide +kernel
theorem dX5_of_35 : decode cX5_of 35 = .ok (.iconst 1, 1) := by decide +kernel
theorem dX5_of_36 : decode cX5_of 36 = .ok (.if_icmp .ne 12, 3) := by decide +kernel
theorem dX5_of_39 : decode cX5_of 39 = .ok (.aload_n 0, 1) := by decide +kernel
theorem dX5_of_40 : decode cX5_of 40 = .ok (.getfield 7, 3) := by decide +kernel
theorem dX5_of_43 : decode cX5_of 43 = .ok (.iload_n 1, 1) := by decide +kernel
theorem dX5_of_44 : decode cX5_of 44 = .ok (.iaload, 1) := by decide +kernel
theorem dX5_of_45 : decode cX5_of 45 = .ok (.goto 9, 3) := by decide +kernel
theorem dX5_of_48 : decode cX5_of 48 = .ok (.aload_n 0, 1) := by decide +kernel
theorem dX5_of_49 : decode cX5_of 49 = .ok (.getfield 16, 3) := by decide +kernel
theorem dX5_of_52 : decode cX5_of 52 = .ok (.iload_n 1, 1) := by decide +kernel
theorem dX5_of_53 : decode cX5_of 53 = .ok (.iaload, 1) := by decide +kernel
theorem dX5_of_54 : decode cX5_of 54 = .ok (.ireturn, 1) := by decide +kernel
theorem dX5_events_0 : decode cX5_events 0 = .ok (.aload_n 0, 1) := by decide +kernel
theorem dX5_events_1 : decode cX5_events 1 = .ok (.iconst 0, 1) := by decide +kernel
theorem dX5_events_2 : decode cX5_events 2 = .ok (.putfield 93, 3) := by decide +kernel
theorem dX5_events_5 : decode cX5_events 5 = .ok (.aload_n 0, 1) := by decide +kernel
theorem dX5_events_6 : decode cX5_events 6 = .ok (.getfield 124, 3) := by decide +kernel
theorem dX5_events_9 : decode cX5_events 9 = .ok (.ireturn, 1) := by decide +kernel
theorem dJ9_abs_0f7a4_0 : decode cJ9_abs_0f7a4 0 = .ok (.iload_n 0, 1) := by decide +kernel
theorem dJ9_abs_0f7a4_1 : decode cJ9_abs_0f7a4 1 = .ok (.ifCond .ge 8, 3) := by decide +kernel
theorem dJ9_abs_0f7a4_4 : decode cJ9_abs_0f7a4 4 = .ok (.iload_n 0, 1) := by decide +kernel
theorem dJ9_abs_0f7a4_5 : decode cJ9_abs_0f7a4 5 = .ok (.ineg, 1) := by decide +kernel
theorem dJ9_abs_0f7a4_6 : decode cJ9_abs_0f7a4 6 = .ok (.goto 4, 3) := by decide +kernel
theorem dJ9_abs_0f7a4_9 : decode cJ9_abs_0f7a4 9 = .ok (.iload_n 0, 1) := by decide +kernel
theorem dJ9_abs_0f7a4_10 : decode cJ9_abs_0f7a4 10 = .ok (.ireturn, 1) := by decide +kernel
theorem dJ9_max_7cf53_0 : decode cJ9_max_7cf53 0 = .ok (.iload_n 0, 1) := by decide +kernel
theorem dJ9_max_7cf53_1 : decode cJ9_max_7cf53 1 = .ok (.iload_n 1, 1) := by decide +kernel
theorem dJ9_max_7cf53_2 : decode cJ9_max_7cf53 2 = .ok (.if_icmp .lt 7, 3) := by decide +kernel
theorem dJ9_max_7cf53_5 : decode cJ9_max_7cf53 5 = .ok (.iload_n 0, 1) := by decide +kernel
theorem dJ9_max_7cf53_6 : decode cJ9_max_7cf53 6 = .ok (.goto 4, 3) := by decide +kernel
theorem dJ9_max_7cf53_9 : decode cJ9_max_7cf53 9 = .ok (.iload_n 1, 1) := by decide +kernel
theorem dJ9_max_7cf53_10 : decode cJ9_max_7cf53 10 = .ok (.ireturn, 1) := by decide +kernel
theorem dJ9_min_7cf53_0 : decode cJ9_min_7cf53 0 = .ok (.iload_n 0, 1) := by decide +kernel
theorem dJ9_min_7cf53_1 : decode cJ9_min_7cf53 1 = .ok (.iload_n 1, 1) := by decide +kernel
theorem dJ9_min_7cf53_2 : decode cJ9_min_7cf53 2 = .ok (.if_icmp .gt 7, 3) := by decide +kernel
theorem dJ9_min_7cf53_5 : decode cJ9_min_7cf53 5 = .ok (.iload_n 0, 1) := by decide +kernel
theorem dJ9_min_7cf53_6 : decode cJ9_min_7cf53 6 = .ok (.goto 4, 3) := by decide +kernel
theorem dJ9_min_7cf53_9 : decode cJ9_min_7cf53 9 = .ok (.iload_n 1, 1) := by decide +kernel
theorem dJ9_min_7cf53_10 : decode cJ9_min_7cf53 10 = .ok (.ireturn, 1) := by decide +kernel
set_option maxRecDepth 20000 in
theorem ggL_clock_X4_clock : GoodIn wsL_clock wsX4_clock := goodIn_ca (goodIn_ca (goodIn_r _ [6, 7, 8, 9, 10, 11, 12, 13, 5, 14, 15, 16, 17, 18, 19, 20, 21, 22, 23, 24, 25, 26, 27, 28, 29, 30, 31, 32, 33, 34, 35, 36, 37, 38, 39, 40, 41, 42, 43] (by decide +kernel) (by decide +kernel)) (goodIn_sub (fun _ h => List.mem_cons_of_mem _ (List.mem_append_left _ (List.mem_append_right _ h))) (by decide +kernel))) (goodIn_sub (fun _ h => List.mem_cons_of_mem _ (List.mem_append_right _ h)) (by decide +kernel))
set_option maxRecDepth 20000 in
theorem gL_clock_X4_clock : GoodIn wsL_clock (wsV RL 7 RX4 yX4_clock wsX4_clock) := goodIn_app (goodIn_of _ (by decide +kernel)) ggL_clock_X4_clock
theorem dL_clock_0 : decode cL_clock 0 = .ok (.aload_n 3, 1) := by decide +kernel
theorem dL_clock_1 : decode cL_clock 1 = .ok (.iconst 0, 1) := by decide +kernel
theorem dL_clock_2 : decode cL_clock 2 = .ok (.aload_n 0, 1) := by decide +kernel
theorem dL_clock_3 : decode cL_clock 3 = .ok (.iload_n 1, 1) := by decide +kernel
theorem dL_clock_4 : decode cL_clock 4 = .ok (.iload_n 2, 1) := by decide +kernel
theorem dL_clock_5 : decode cL_clock 5 = .ok (.invokevirtual 7, 3) := by decide +kernel
theorem dL_clock_8 : decode cL_clock 8 = .ok (.i2l, 1) := by decide +kernel
theorem dL_clock_9 : decode cL_clock 9 = .ok (.lastore, 1) := by decide +kernel
theorem dL_clock_10 : decode cL_clock 10 = .ok (.goto 11, 3) := by decide +kernel
theorem dL_clock_13 : decode cL_clock 13 = .ok (.astore 4, 2) := by decide +kernel
theorem dL_clock_15 : decode cL_clock 15 = .ok (.iconst 1, 1) := by decide +kernel
theorem dL_clock_16 : decode cL_clock 16 = .ok (.ireturn, 1) := by decide +kernel
theorem dL_clock_17 : decode cL_clock 17 = .ok (.astore 4, 2) := by decide +kernel
theorem dL_clock_19 : decode cL_clock 19 = .ok (.iconst 2, 1) := by decide +kernel
theorem dL_clock_20 : decode cL_clock 20 = .ok (.ireturn, 1) := by decide +kernel
theorem dL_clock_21 : decode cL_clock 21 = .ok (.iconst 0, 1) := by decide +kernel
theorem dL_clock_22 : decode cL_clock 22 = .ok (.ireturn, 1) := by decide +kernel
set_option maxRecDepth 20000 in
theorem ggL_tell_X4_tell : GoodIn wsL_tell wsX4_tell := goodIn_ca (goodIn_ca (goodIn_r _ [6, 7, 8, 9, 10, 11, 12, 13, 14, 15, 16, 17, 18, 19, 5, 20, 21, 22, 23, 24, 25, 26, 27, 28, 29, 30, 31, 32, 33, 34, 35, 36, 37, 38, 39, 40, 41, 42, 43, 44, 45, 46] (by decide +kernel) (by decide +kernel)) (goodIn_sub (fun _ h => List.mem_cons_of_mem _ (List.mem_append_left _ (List.mem_append_right _ h))) (by decide +kernel))) (goodIn_sub (fun _ h => List.mem_cons_of_mem _ (List.mem_append_right _ h)) (by decide +kernel))
set_option maxRecDepth 20000 in
theorem gL_tell_X4_tell : GoodIn wsL_tell (wsV RL 17 RX4 yX4_tell wsX4_tell) := goodIn_app (goodIn_of _ (by decide +kernel)) ggL_tell_X4_tell
theorem dL_tell_0 : decode cL_tell 0 = .ok (.aload 4, 2) := by decide +kernel
theorem dL_tell_2 : decode cL_tell 2 = .ok (.iconst 0, 1) := by decide +kernel
theorem dL_tell_3 : decode cL_tell 3 = .ok (.aload_n 0, 1) := by decide +kernel
theorem dL_tell_4 : decode cL_tell 4 = .ok (.iload_n 1, 1) := by decide +kernel
theorem dL_tell_5 : decode cL_tell 5 = .ok (.iload_n 2, 1) := by decide +kernel
theorem dL_tell_6 : decode cL_tell 6 = .ok (.iload_n 3, 1) := by decide +kernel
theorem dL_tell_7 : decode cL_tell 7 = .ok (.invokevirtual 17, 3) := by decide +kernel
theorem dL_tell_10 : decode cL_tell 10 = .ok (.i2l, 1) := by decide +kernel
theorem dL_tell_11 : decode cL_tell 11 = .ok (.lastore, 1) := by decide +kernel
theorem dL_tell_12 : decode cL_tell 12 = .ok (.goto 11, 3) := by decide +kernel
theorem dL_tell_15 : decode cL_tell 15 = .ok (.astore 5, 2) := by decide +kernel
theorem dL_tell_17 : decode cL_tell 17 = .ok (.iconst 1, 1) := by decide +kernel
theorem dL_tell_18 : decode cL_tell 18 = .ok (.ireturn, 1) := by decide +kernel
theorem dL_tell_19 : decode cL_tell 19 = .ok (.astore 5, 2) := by decide +kernel
theorem dL_tell_21 : decode cL_tell 21 = .ok (.iconst 2, 1) := by decide +kernel
theorem dL_tell_22 : decode cL_tell 22 = .ok (.ireturn, 1) := by decide +kernel
theorem dL_tell_23 : decode cL_tell 23 = .ok (.iconst 0, 1) := by decide +kernel
theorem dL_tell_24 : decode cL_tell 24 = .ok (.ireturn, 1) := by decide +kernel
set_option maxRecDepth 20000 in
theorem ggL_link_X4_link : GoodIn wsL_link wsX4_link := goodIn_ca (goodIn_ca (goodIn_ca (goodIn_r _ [6, 7, 8, 9, 10, 11, 12, 13, 14, 15, 16, 17, 18, 19, 20, 21, 22, 23, 5, 24, 25, 26, 27, 28, 29, 30, 31, 32, 33, 34, 35, 36, 37, 38, 39, 40, 41, 42, 43, 44, 45, 46, 47, 48, 49, 50, 51, 52, 53, 54, 55, 56, 57, 58, 59, 60, 61, 62, 63] (by decide +kernel) (by decide +kernel)) (goodIn_sub (fun _ h => List.mem_cons_of_mem _ (List.mem_append_left _ (List.mem_append_left _ (List.mem_append_right _ h)))) (by decide +kernel))) (goodIn_sub (fun _ h => List.mem_cons_of_mem _ (List.mem_append_left _ (List.mem_append_right _ h))) (by decide +kernel))) (goodIn_sub (fun _ h => List.mem_cons_of_mem _ (List.mem_append_right _ h)) (by decide +kernel))
set_option maxRecDepth 20000 in
theorem gL_link_X4_link : GoodIn wsL_link (wsV RL 23 RX4 yX4_link wsX4_link) := goodIn_app (goodIn_of _ (by decide +kernel)) ggL_link_X4_link
theorem dL_link_0 : decode cL_link 0 = .ok (.aload 4, 2) := by decide +kernel
theorem dL_link_2 : decode cL_link 2 = .ok (.iconst 0, 1) := by decide +kernel
theorem dL_link_3 : decode cL_link 3 = .ok (.aload_n 0, 1) := by decide +kernel
theorem dL_link_4 : decode cL_link 4 = .ok (.iload_n 1, 1) := by decide +kernel
theorem dL_link_5 : decode cL_link 5 = .ok (.iload_n 2, 1) := by decide +kernel
theorem dL_link_6 : decode cL_link 6 = .ok (.iload_n 3, 1) := by decide +kernel
theorem dL_link_7 : decode cL_link 7 = .ok (.invokevirtual 23, 3) := by decide +kernel
theorem dL_link_10 : decode cL_link 10 = .ok (.i2l, 1) := by decide +kernel
theorem dL_link_11 : decode cL_link 11 = .ok (.lastore, 1) := by decide +kernel
theorem dL_link_12 : decode cL_link 12 = .ok (.goto 15, 3) := by decide +kernel
theorem dL_link_15 : decode cL_link 15 = .ok (.astore 5, 2) := by decide +kernel
theorem dL_link_17 : decode cL_link 17 = .ok (.iconst 1, 1) := by decide +kernel
theorem dL_link_18 : decode cL_link 18 = .ok (.ireturn, 1) := by decide +kernel
theorem dL_link_19 : decode cL_link 19 = .ok (.astore 5, 2) := by decide +kernel
theorem dL_link_21 : decode cL_link 21 = .ok (.iconst 2, 1) := by decide +kernel
theorem dL_link_22 : decode cL_link 22 = .ok (.ireturn, 1) := by decide +kernel
theorem dL_link_23 : decode cL_link 23 = .ok (.astore 5, 2) := by decide +kernel
theorem dL_link_25 : decode cL_link 25 = .ok (.iconst 3, 1) := by decide +kernel
theorem dL_link_26 : decode cL_link 26 = .ok (.ireturn, 1) := by decide +kernel
theorem dL_link_27 : decode cL_link 27 = .ok (.iconst 0, 1) := by decide +kernel
theorem dL_link_28 : decode cL_link 28 = .ok (.ireturn, 1) := by decide +kernel
set_option maxRecDepth 20000 in
theorem ggL_event_X4_event : GoodIn wsL_event wsX4_event := goodIn_ca (goodIn_ca (goodIn_ca (goodIn_r _ [6, 7, 8, 9, 10, 11, 12, 13, 14, 15, 16, 17, 18, 5, 19, 20, 21, 22, 23, 24, 25, 26, 27, 28, 29, 30, 31, 32, 33, 34, 35, 36, 37, 38, 39, 40, 41, 42, 43, 44, 45, 46, 47, 48, 49, 50, 51, 52, 53, 54, 55, 56, 57, 58, 59, 60, 61, 62, 63, 64, 65, 66, 67, 68, 69, 70, 71, 72] (by decide +kernel) (by decide +kernel)) (goodIn_sub (fun _ h => List.mem_cons_of_mem _ (List.mem_append_left _ (List.mem_append_left _ (List.mem_append_right _ h)))) (by decide +kernel))) (goodIn_sub (fun _ h => List.mem_cons_of_mem _ (List.mem_append_left _ (List.mem_append_right _ h))) (by decide +kernel))) (goodIn_sub (fun _ h => List.mem_cons_of_mem _ (List.mem_append_right _ h)) (by decide +kernel))
set_option maxRecDepth 20000 in
theorem gL_event_X4_event : GoodIn wsL_event (wsV RL 26 RX4 yX4_event wsX4_event) := goodIn_app (goodIn_of _ (by decide +kernel)) ggL_event_X4_event
theorem dL_event_0 : decode cL_event 0 = .ok (.aload 5, 2) := by decide +kernel
theorem dL_event_2 : decode cL_event 2 = .ok (.iconst 0, 1) := by decide +kernel
theorem dL_event_3 : decode cL_event 3 = .ok (.aload_n 0, 1) := by decide +kernel
theorem dL_event_4 : decode cL_event 4 = .ok (.iload_n 1, 1) := by decide +kernel
theorem dL_event_5 : decode cL_event 5 = .ok (.iload_n 2, 1) := by decide +kernel
theorem dL_event_6 : decode cL_event 6 = .ok (.iload_n 3, 1) := by decide +kernel
theorem dL_event_7 : decode cL_event 7 = .ok (.iload 4, 2) := by decide +kernel
theorem dL_event_9 : decode cL_event 9 = .ok (.invokevirtual 26, 3) := by decide +kernel
theorem dL_event_12 : decode cL_event 12 = .ok (.i2l, 1) := by decide +kernel
theorem dL_event_13 : decode cL_event 13 = .ok (.lastore, 1) := by decide +kernel
theorem dL_event_14 : decode cL_event 14 = .ok (.goto 15, 3) := by decide +kernel
theorem dL_event_17 : decode cL_event 17 = .ok (.astore 6, 2) := by decide +kernel
theorem dL_event_19 : decode cL_event 19 = .ok (.iconst 1, 1) := by decide +kernel
theorem dL_event_20 : decode cL_event 20 = .ok (.ireturn, 1) := by decide +kernel
theorem dL_event_21 : decode cL_event 21 = .ok (.astore 6, 2) := by decide +kernel
theorem dL_event_23 : decode cL_event 23 = .ok (.iconst 2, 1) := by decide +kernel
theorem dL_event_24 : decode cL_event 24 = .ok (.ireturn, 1) := by decide +kernel
theorem dL_event_25 : decode cL_event 25 = .ok (.astore 6, 2) := by decide +kernel
theorem dL_event_27 : decode cL_event 27 = .ok (.iconst 3, 1) := by decide +kernel
theorem dL_event_28 : decode cL_event 28 = .ok (.ireturn, 1) := by decide +kernel
theorem dL_event_29 : decode cL_event 29 = .ok (.iconst 0, 1) := by decide +kernel
theorem dL_event_30 : decode cL_event 30 = .ok (.ireturn, 1) := by decide +kernel
set_option maxRecDepth 20000 in
theorem ggL_calibrate_X4_calibrate : GoodIn wsL_calibrate wsX4_calibrate := goodIn_ca (goodIn_ca (goodIn_ca (goodIn_r _ [6, 7, 8, 9, 10, 11, 12, 13, 14, 15, 16, 17, 18, 19, 20, 21, 5, 22, 23, 24, 25, 26, 27, 28, 29, 30, 31, 32, 33, 34, 35, 36, 37, 38, 39, 40, 41, 42, 43, 44, 45, 46, 47, 48, 49, 50, 51] (by decide +kernel) (by decide +kernel)) (goodIn_sub (fun _ h => List.mem_cons_of_mem _ (List.mem_append_left _ (List.mem_append_left _ (List.mem_append_right _ h)))) (by decide +kernel))) (goodIn_sub (fun _ h => List.mem_cons_of_mem _ (List.mem_append_left _ (List.mem_append_right _ h))) (by decide +kernel))) (goodIn_sub (fun _ h => List.mem_cons_of_mem _ (List.mem_append_right _ h)) (by decide +kernel))
set_option maxRecDepth 20000 in
theorem gL_calibrate_X4_calibrate : GoodIn wsL_calibrate (wsV RL 30 RX4 yX4_calibrate wsX4_calibrate) := goodIn_app (goodIn_of _ (by decide +kernel)) ggL_calibrate_X4_calibrate
theorem dL_calibrate_0 : decode cL_calibrate 0 = .ok (.aload 5, 2) := by decide +kernel
theorem dL_calibrate_2 : decode cL_calibrate 2 = .ok (.iconst 0, 1) := by decide +kernel
theorem dL_calibrate_3 : decode cL_calibrate 3 = .ok (.aload_n 0, 1) := by decide +kernel
theorem dL_calibrate_4 : decode cL_calibrate 4 = .ok (.iload_n 1, 1) := by decide +kernel
theorem dL_calibrate_5 : decode cL_calibrate 5 = .ok (.iload_n 2, 1) := by decide +kernel
theorem dL_calibrate_6 : decode cL_calibrate 6 = .ok (.iload_n 3, 1) := by decide +kernel
theorem dL_calibrate_7 : decode cL_calibrate 7 = .ok (.iload 4, 2) := by decide +kernel
theorem dL_calibrate_9 : decode cL_calibrate 9 = .ok (.invokevirtual 30, 3) := by decide +kernel
theorem dL_calibrate_12 : decode cL_calibrate 12 = .ok (.i2l, 1) := by decide +kernel
theorem dL_calibrate_13 : decode cL_calibrate 13 = .ok (.lastore, 1) := by decide +kernel
theorem dL_calibrate_14 : decode cL_calibrate 14 = .ok (.goto 15, 3) := by decide +kernel
theorem dL_calibrate_17 : decode cL_calibrate 17 = .ok (.astore 6, 2) := by decide +kernel
theorem dL_calibrate_19 : decode cL_calibrate 19 = .ok (.iconst 1, 1) := by decide +kernel
theorem dL_calibrate_20 : decode cL_calibrate 20 = .ok (.ireturn, 1) := by decide +kernel
theorem dL_calibrate_21 : decode cL_calibrate 21 = .ok (.astore 6, 2) := by decide +kernel
theorem dL_calibrate_23 : decode cL_calibrate 23 = .ok (.iconst 2, 1) := by decide +kernel
theorem dL_calibrate_24 : decode cL_calibrate 24 = .ok (.ireturn, 1) := by decide +kernel
theorem dL_calibrate_25 : decode cL_calibrate 25 = .ok (.astore 6, 2) := by decide +kernel
theorem dL_calibrate_27 : decode cL_calibrate 27 = .ok (.iconst 3, 1) := by decide +kernel
theorem dL_calibrate_28 : decode cL_calibrate 28 = .ok (.ireturn, 1) := by decide +kernel
theorem dL_calibrate_29 : decode cL_calibrate 29 = .ok (.iconst 0, 1) := by decide +kernel
theorem dL_calibrate_30 : decode cL_calibrate 30 = .ok (.ireturn, 1) := by decide +kernel
set_option maxRecDepth 20000 in
theorem ggL_bounds_X4_bounds : GoodIn wsL_bounds wsX4_bounds := goodIn_ca (goodIn_r _ [6, 7, 8, 9, 10, 11, 12, 5, 13, 14, 15, 16, 17, 18, 19, 20, 21, 22, 23] (by decide +kernel) (by decide +kernel)) (goodIn_sub (fun _ h => List.mem_cons_of_mem _ (List.mem_append_right _ h)) (by decide +kernel))
set_option maxRecDepth 20000 in
theorem gL_bounds_X4_bounds : GoodIn wsL_bounds (wsV RL 33 RX4 yX4_bounds wsX4_bounds) := goodIn_app (goodIn_of _ (by decide +kernel)) ggL_bounds_X4_bounds
theorem dL_bounds_0 : decode cL_bounds 0 = .ok (.aload_n 0, 1) := by decide +kernel
theorem dL_bounds_1 : decode cL_bounds 1 = .ok (.iload_n 1, 1) := by decide +kernel
theorem dL_bounds_2 : decode cL_bounds 2 = .ok (.iload_n 2, 1) := by decide +kernel
theorem dL_bounds_3 : decode cL_bounds 3 = .ok (.invokevirtual 33, 3) := by decide +kernel
theorem dL_bounds_6 : decode cL_bounds 6 = .ok (.goto 6, 3) := by decide +kernel
theorem dL_bounds_9 : decode cL_bounds 9 = .ok (.astore_n 3, 1) := by decide +kernel
theorem dL_bounds_10 : decode cL_bounds 10 = .ok (.iconst 1, 1) := by decide +kernel
theorem dL_bounds_11 : decode cL_bounds 11 = .ok (.ireturn, 1) := by decide +kernel
theorem dL_bounds_12 : decode cL_bounds 12 = .ok (.iconst 0, 1) := by decide +kernel
theorem dL_bounds_13 : decode cL_bounds 13 = .ok (.ireturn, 1) := by decide +kernel
set_option maxRecDepth 20000 in
theorem ggL_pass_X4_pass : GoodIn wsL_pass wsX4_pass := goodIn_ca (goodIn_ca (goodIn_r _ [6, 7, 8, 9, 10, 11, 12, 13, 5, 14, 15, 16, 17, 18, 19, 20, 21, 22, 23, 24, 25, 26, 27, 28, 29, 30, 31, 32, 33, 34, 35, 36, 37, 38, 39, 40, 41, 42, 43, 44, 45, 46, 47, 48, 49, 50, 51, 52, 53, 54, 55, 56, 57, 58, 59, 60, 61, 62, 63, 64, 65, 66, 67, 68, 69, 70, 71, 72, 73, 74, 75, 76, 77, 78, 79, 80, 81, 82, 83, 84, 85, 86, 87, 88, 89, 90, 91, 92, 93, 94, 95, 96, 97, 98, 99, 100, 101, 102, 103, 104, 105, 106, 107, 108, 109, 110, 111, 112, 113, 114, 115, 116, 117, 118, 119, 120, 121, 122, 123, 124, 125, 126, 127, 128, 129, 130, 131, 132, 133, 134, 135, 136, 137, 138, 139, 140, 141, 142, 143, 144, 145, 146, 147, 148, 149, 150, 151, 152, 153, 154, 155, 156, 157, 158, 159, 160, 161, 162, 163, 164, 165, 166, 167, 168, 169] (by decide +kernel) (by decide +kernel)) (goodIn_sub (fun _ h => List.mem_cons_of_mem _ (List.mem_append_left _ (List.mem_append_right _ h))) (by decide +kernel))) (goodIn_sub (fun _ h => List.mem_cons_of_mem _ (List.mem_append_right _ h)) (by decide +kernel))
set_option maxRecDepth 20000 in
theorem gL_pass_X4_pass : GoodIn wsL_pass (wsV RL 37 RX4 yX4_pass wsX4_pass) := goodIn_app (goodIn_of _ (by decide +kernel)) ggL_pass_X4_pass
theorem dL_pass_0 : decode cL_pass 0 = .ok (.aload_n 2, 1) := by decide +kernel
theorem dL_pass_1 : decode cL_pass 1 = .ok (.iconst 0, 1) := by decide +kernel
theorem dL_pass_2 : decode cL_pass 2 = .ok (.aload_n 0, 1) := by decide +kernel
theorem dL_pass_3 : decode cL_pass 3 = .ok (.iload_n 1, 1) := by decide +kernel
theorem dL_pass_4 : decode cL_pass 4 = .ok (.invokevirtual 37, 3) := by decide +kernel
theorem dL_pass_7 : decode cL_pass 7 = .ok (.i2l, 1) := by decide +kernel
theorem dL_pass_8 : decode cL_pass 8 = .ok (.lastore, 1) := by decide +kernel
theorem dL_pass_9 : decode cL_pass 9 = .ok (.goto 9, 3) := by decide +kernel
theorem dL_pass_12 : decode cL_pass 12 = .ok (.astore_n 3, 1) := by decide +kernel
theorem dL_pass_13 : decode cL_pass 13 = .ok (.iconst 1, 1) := by decide +kernel
theorem dL_pass_14 : decode cL_pass 14 = .ok (.ireturn, 1) := by decide +kernel
theorem dL_pass_15 : decode cL_pass 15 = .ok (.astore_n 3, 1) := by decide +kernel
theorem dL_pass_16 : decode cL_pass 16 = .ok (.iconst 2, 1) := by decide +kernel
theorem dL_pass_17 : decode cL_pass 17 = .ok (.ireturn, 1) := by decide +kernel
theorem dL_pass_18 : decode cL_pass 18 = .ok (.iconst 0, 1) := by decide +kernel
theorem dL_pass_19 : decode cL_pass 19 = .ok (.ireturn, 1) := by decide +kernel
set_option maxRecDepth 20000 in
theorem ggL_vote_X4_vote : GoodIn wsL_vote wsX4_vote := goodIn_ca (goodIn_r _ [6, 7, 8, 9, 10, 11, 5, 12, 13, 14, 15, 16, 17, 18, 19, 20, 21, 22, 23, 24, 25, 26] (by decide +kernel) (by decide +kernel)) (goodIn_sub (fun _ h => List.mem_cons_of_mem _ (List.mem_append_right _ h)) (by decide +kernel))
set_option maxRecDepth 20000 in
theorem gL_vote_X4_vote : GoodIn wsL_vote (wsV RL 41 RX4 yX4_vote wsX4_vote) := goodIn_app (goodIn_of _ (by decide +kernel)) ggL_vote_X4_vote
theorem dL_vote_0 : decode cL_vote 0 = .ok (.aload_n 3, 1) := by decide +kernel
theorem dL_vote_1 : decode cL_vote 1 = .ok (.iconst 0, 1) := by decide +kernel
theorem dL_vote_2 : decode cL_vote 2 = .ok (.aload_n 0, 1) := by decide +kernel
theorem dL_vote_3 : decode cL_vote 3 = .ok (.iload_n 1, 1) := by decide +kernel
theorem dL_vote_4 : decode cL_vote 4 = .ok (.iload_n 2, 1) := by decide +kernel
theorem dL_vote_5 : decode cL_vote 5 = .ok (.invokevirtual 41, 3) := by decide +kernel
theorem dL_vote_8 : decode cL_vote 8 = .ok (.i2l, 1) := by decide +kernel
theorem dL_vote_9 : decode cL_vote 9 = .ok (.lastore, 1) := by decide +kernel
theorem dL_vote_10 : decode cL_vote 10 = .ok (.goto 7, 3) := by decide +kernel
theorem dL_vote_13 : decode cL_vote 13 = .ok (.astore 4, 2) := by decide +kernel
theorem dL_vote_15 : decode cL_vote 15 = .ok (.iconst 1, 1) := by decide +kernel
theorem dL_vote_16 : decode cL_vote 16 = .ok (.ireturn, 1) := by decide +kernel
theorem dL_vote_17 : decode cL_vote 17 = .ok (.iconst 0, 1) := by decide +kernel
theorem dL_vote_18 : decode cL_vote 18 = .ok (.ireturn, 1) := by decide +kernel
set_option maxRecDepth 20000 in
theorem ggL_adopt_X4_adopt : GoodIn wsL_adopt wsX4_adopt := goodIn_ca (goodIn_r _ [6, 7, 8, 9, 10, 11, 12, 13, 5, 14, 15, 16, 17, 18, 19, 20, 21, 22, 23, 24, 25, 26, 27, 28, 29, 30, 31, 32, 33, 34, 35, 36, 37, 38, 39, 40, 41, 42, 43, 44, 45, 46, 47, 48, 49, 50, 51, 52, 53, 54, 55, 56, 57, 58, 59, 60, 61, 62, 63, 64, 65, 66, 67, 68, 69, 70, 71, 72, 73, 74, 75, 76, 77, 78, 79, 80, 81, 82, 83, 84, 85, 86, 87, 88, 89, 90, 91, 92, 93, 94, 95, 96, 97, 98, 99, 100, 101, 102, 103, 104, 105, 106, 107, 108, 109, 110, 111, 112, 113, 114, 115, 116, 117, 118] (by decide +kernel) (by decide +kernel)) (goodIn_sub (fun _ h => List.mem_cons_of_mem _ (List.mem_append_right _ h)) (by decide +kernel))
set_option maxRecDepth 20000 in
theorem gL_adopt_X4_adopt : GoodIn wsL_adopt (wsV RL 45 RX4 yX4_adopt wsX4_adopt) := goodIn_app (goodIn_of _ (by decide +kernel)) ggL_adopt_X4_adopt
theorem dL_adopt_0 : decode cL_adopt 0 = .ok (.aload_n 1, 1) := by decide +kernel
theorem dL_adopt_1 : decode cL_adopt 1 = .ok (.iconst 0, 1) := by decide +kernel
theorem dL_adopt_2 : decode cL_adopt 2 = .ok (.aload_n 0, 1) := by decide +kernel
theorem dL_adopt_3 : decode cL_adopt 3 = .ok (.invokevirtual 45, 3) := by decide +kernel
theorem dL_adopt_6 : decode cL_adopt 6 = .ok (.ifCond .eq 7, 3) := by decide +kernel
theorem dL_adopt_9 : decode cL_adopt 9 = .ok (.lconst 1, 1) := by decide +kernel
theorem dL_adopt_10 : decode cL_adopt 10 = .ok (.goto 4, 3) := by decide +kernel
theorem dL_adopt_13 : decode cL_adopt 13 = .ok (.lconst 0, 1) := by decide +kernel
theorem dL_adopt_14 : decode cL_adopt 14 = .ok (.lastore, 1) := by decide +kernel
theorem dL_adopt_15 : decode cL_adopt 15 = .ok (.goto 6, 3) := by decide +kernel
theorem dL_adopt_18 : decode cL_adopt 18 = .ok (.astore_n 2, 1) := by decide +kernel
theorem dL_adopt_19 : decode cL_adopt 19 = .ok (.iconst 1, 1) := by decide +kernel
theorem dL_adopt_20 : decode cL_adopt 20 = .ok (.ireturn, 1) := by decide +kernel
theorem dL_adopt_21 : decode cL_adopt 21 = .ok (.iconst 0, 1) := by decide +kernel
theorem dL_adopt_22 : decode cL_adopt 22 = .ok (.ireturn, 1) := by decide +kernel
set_option maxRecDepth 20000 in
theorem ggL_of_X4_of : GoodIn wsL_of wsX4_of := goodIn_ca (goodIn_ca (goodIn_r _ [6, 7, 8, 9, 10, 11, 12, 13, 14, 15, 16, 17, 18, 19, 20, 21, 22, 23, 24, 25, 26, 27, 28, 29, 30, 31, 32, 33, 34, 35, 36, 37, 38, 39, 40, 41, 42, 43, 44, 45, 46, 47, 48] (by decide +kernel) (by decide +kernel)) (goodIn_sub (fun _ h => List.mem_cons_of_mem _ (List.mem_append_left _ (List.mem_append_right _ h))) (by decide +kernel))) (goodIn_sub (fun _ h => List.mem_cons_of_mem _ (List.mem_append_right _ h)) (by decide +kernel))
set_option maxRecDepth 20000 in
theorem gL_of_X4_of : GoodIn wsL_of (wsV RL 49 RX4 yX4_of wsX4_of) := goodIn_app (goodIn_of _ (by decide +kernel)) ggL_of_X4_of
theorem dL_of_0 : decode cL_of 0 = .ok (.aload_n 3, 1) := by decide +kernel
theorem dL_of_1 : decode cL_of 1 = .ok (.iconst 0, 1) := by decide +kernel
theorem dL_of_2 : decode cL_of 2 = .ok (.aload_n 0, 1) := by decide +kernel
theorem dL_of_3 : decode cL_of 3 = .ok (.iload_n 1, 1) := by decide +kernel
theorem dL_of_4 : decode cL_of 4 = .ok (.iload_n 2, 1) := by decide +kernel
theorem dL_of_5 : decode cL_of 5 = .ok (.invokevirtual 49, 3) := by decide +kernel
theorem dL_of_8 : decode cL_of 8 = .ok (.i2l, 1) := by decide +kernel
theorem dL_of_9 : decode cL_of 9 = .ok (.lastore, 1) := by decide +kernel
theorem dL_of_10 : decode cL_of 10 = .ok (.goto 11, 3) := by decide +kernel
theorem dL_of_13 : decode cL_of 13 = .ok (.astore 4, 2) := by decide +kernel
theorem dL_of_15 : decode cL_of 15 = .ok (.iconst 1, 1) := by decide +kernel
theorem dL_of_16 : decode cL_of 16 = .ok (.ireturn, 1) := by decide +kernel
theorem dL_of_17 : decode cL_of 17 = .ok (.astore 4, 2) := by decide +kernel
theorem dL_of_19 : decode cL_of 19 = .ok (.iconst 2, 1) := by decide +kernel
theorem dL_of_20 : decode cL_of 20 = .ok (.ireturn, 1) := by decide +kernel
theorem dL_of_21 : decode cL_of 21 = .ok (.iconst 0, 1) := by decide +kernel
theorem dL_of_22 : decode cL_of 22 = .ok (.ireturn, 1) := by decide +kernel
set_option maxRecDepth 20000 in
theorem ggL_measured_X4_measured : GoodIn wsL_measured wsX4_measured := goodIn_ca (goodIn_r _ [6, 7, 8, 9, 10, 11, 12, 5, 13, 14, 15, 16, 17, 18, 19, 20, 21, 22, 23, 24, 25, 26, 27, 28, 29, 30, 31, 32, 33, 34, 35, 36, 37, 38, 39, 40, 41, 42, 43, 44, 45, 46, 47, 48, 49, 50, 51, 52, 53, 54, 55, 56, 57, 58, 59, 60, 61] (by decide +kernel) (by decide +kernel)) (goodIn_sub (fun _ h => List.mem_cons_of_mem _ (List.mem_append_right _ h)) (by decide +kernel))
set_option maxRecDepth 20000 in
theorem gL_measured_X4_measured : GoodIn wsL_measured (wsV RL 52 RX4 yX4_measured wsX4_measured) := goodIn_app (goodIn_of _ (by decide +kernel)) ggL_measured_X4_measured
theorem dL_measured_0 : decode cL_measured 0 = .ok (.aload 4, 2) := by decide +kernel
theorem dL_measured_2 : decode cL_measured 2 = .ok (.iconst 0, 1) := by decide +kernel
theorem dL_measured_3 : decode cL_measured 3 = .ok (.aload_n 0, 1) := by decide +kernel
theorem dL_measured_4 : decode cL_measured 4 = .ok (.iload_n 1, 1) := by decide +kernel
theorem dL_measured_5 : decode cL_measured 5 = .ok (.iload_n 2, 1) := by decide +kernel
theorem dL_measured_6 : decode cL_measured 6 = .ok (.iload_n 3, 1) := by decide +kernel
theorem dL_measured_7 : decode cL_measured 7 = .ok (.invokevirtual 52, 3) := by decide +kernel
theorem dL_measured_10 : decode cL_measured 10 = .ok (.i2l, 1) := by decide +kernel
theorem dL_measured_11 : decode cL_measured 11 = .ok (.lastore, 1) := by decide +kernel
theorem dL_measured_12 : decode cL_measured 12 = .ok (.goto 7, 3) := by decide +kernel
theorem dL_measured_15 : decode cL_measured 15 = .ok (.astore 5, 2) := by decide +kernel
theorem dL_measured_17 : decode cL_measured 17 = .ok (.iconst 1, 1) := by decide +kernel
theorem dL_measured_18 : decode cL_measured 18 = .ok (.ireturn, 1) := by decide +kernel
theorem dL_measured_19 : decode cL_measured 19 = .ok (.iconst 0, 1) := by decide +kernel
theorem dL_measured_20 : decode cL_measured 20 = .ok (.ireturn, 1) := by decide +kernel
set_option maxRecDepth 20000 in
theorem ggL_closes_X4_closes : GoodIn wsL_closes wsX4_closes := goodIn_ca (goodIn_ca (goodIn_r _ [6, 7, 8, 9, 10, 11, 12, 13, 14, 15, 16, 17, 18, 19, 20, 21, 5, 22, 23, 24, 25, 26, 27, 28, 29, 30, 31, 32, 33, 34, 35, 36, 37, 38, 39, 40, 41, 42, 43, 44, 45, 46, 47, 48, 49, 50, 51, 52, 53, 54, 55, 56, 57, 58, 59, 60, 61, 62, 63, 64, 65, 66, 67, 68, 69, 70, 71, 72, 73, 74, 75, 76, 77, 78, 79, 80, 81, 82, 83, 84] (by decide +kernel) (by decide +kernel)) (goodIn_sub (fun _ h => List.mem_cons_of_mem _ (List.mem_append_left _ (List.mem_append_right _ h))) (by decide +kernel))) (goodIn_sub (fun _ h => List.mem_cons_of_mem _ (List.mem_append_right _ h)) (by decide +kernel))
set_option maxRecDepth 20000 in
theorem gL_closes_X4_closes : GoodIn wsL_closes (wsV RL 56 RX4 yX4_closes wsX4_closes) := goodIn_app (goodIn_of _ (by decide +kernel)) ggL_closes_X4_closes
theorem dL_closes_0 : decode cL_closes 0 = .ok (.aload 5, 2) := by decide +kernel
theorem dL_closes_2 : decode cL_closes 2 = .ok (.iconst 0, 1) := by decide +kernel
theorem dL_closes_3 : decode cL_closes 3 = .ok (.aload_n 0, 1) := by decide +kernel
theorem dL_closes_4 : decode cL_closes 4 = .ok (.iload_n 1, 1) := by decide +kernel
theorem dL_closes_5 : decode cL_closes 5 = .ok (.iload_n 2, 1) := by decide +kernel
theorem dL_closes_6 : decode cL_closes 6 = .ok (.iload_n 3, 1) := by decide +kernel
theorem dL_closes_7 : decode cL_closes 7 = .ok (.iload 4, 2) := by decide +kernel
theorem dL_closes_9 : decode cL_closes 9 = .ok (.invokevirtual 56, 3) := by decide +kernel
theorem dL_closes_12 : decode cL_closes 12 = .ok (.i2l, 1) := by decide +kernel
theorem dL_closes_13 : decode cL_closes 13 = .ok (.lastore, 1) := by decide +kernel
theorem dL_closes_14 : decode cL_closes 14 = .ok (.goto 11, 3) := by decide +kernel
theorem dL_closes_17 : decode cL_closes 17 = .ok (.astore 6, 2) := by decide +kernel
theorem dL_closes_19 : decode cL_closes 19 = .ok (.iconst 1, 1) := by decide +kernel
theorem dL_closes_20 : decode cL_closes 20 = .ok (.ireturn, 1) := by decide +kernel
theorem dL_closes_21 : decode cL_closes 21 = .ok (.astore 6, 2) := by decide +kernel
theorem dL_closes_23 : decode cL_closes 23 = .ok (.iconst 2, 1) := by decide +kernel
theorem dL_closes_24 : decode cL_closes 24 = .ok (.ireturn, 1) := by decide +kernel
theorem dL_closes_25 : decode cL_closes 25 = .ok (.iconst 0, 1) := by decide +kernel
theorem dL_closes_26 : decode cL_closes 26 = .ok (.ireturn, 1) := by decide +kernel
set_option maxRecDepth 20000 in
theorem ggL_open_X4_open : GoodIn wsL_open wsX4_open := goodIn_ca (goodIn_r _ [6, 7, 8, 9, 10, 11, 5, 12, 13, 14, 15, 16, 17, 18, 19, 20, 21, 22, 23, 24, 25, 26, 27, 28, 29, 30, 31, 32, 33, 34, 35, 36, 37, 38, 39, 40, 41, 42, 43, 44, 45, 46, 47, 48, 49, 50, 51, 52, 53, 54, 55, 56, 57, 58, 59, 60, 61, 62, 63, 64, 65, 66, 67, 68, 69, 70, 71, 72, 73, 74, 75, 76, 77, 78, 79, 80, 81, 82, 83, 84, 85, 86, 87, 88, 89, 90, 91, 92, 93, 94, 95, 96, 97, 98, 99, 100, 101, 102, 103, 104, 105, 106, 107, 108, 109, 110, 111, 112, 113, 114, 115, 116, 117, 118, 119] (by decide +kernel) (by decide +kernel)) (goodIn_sub (fun _ h => List.mem_cons_of_mem _ (List.mem_append_right _ h)) (by decide +kernel))
set_option maxRecDepth 20000 in
theorem gL_open_X4_open : GoodIn wsL_open (wsV RL 59 RX4 yX4_open wsX4_open) := goodIn_app (goodIn_of _ (by decide +kernel)) ggL_open_X4_open
theorem dL_open_0 : decode cL_open 0 = .ok (.aload_n 2, 1) := by decide +kernel
theorem dL_open_1 : decode cL_open 1 = .ok (.iconst 0, 1) := by decide +kernel
theorem dL_open_2 : decode cL_open 2 = .ok (.aload_n 0, 1) := by decide +kernel
theorem dL_open_3 : decode cL_open 3 = .ok (.iload_n 1, 1) := by decide +kernel
theorem dL_open_4 : decode cL_open 4 = .ok (.invokevirtual 59, 3) := by decide +kernel
theorem dL_open_7 : decode cL_open 7 = .ok (.i2l, 1) := by decide +kernel
theorem dL_open_8 : decode cL_open 8 = .ok (.lastore, 1) := by decide +kernel
theorem dL_open_9 : decode cL_open 9 = .ok (.goto 6, 3) := by decide +kernel
theorem dL_open_12 : decode cL_open 12 = .ok (.astore_n 3, 1) := by decide +kernel
theorem dL_open_13 : decode cL_open 13 = .ok (.iconst 1, 1) := by decide +kernel
theorem dL_open_14 : decode cL_open 14 = .ok (.ireturn, 1) := by decide +kernel
theorem dL_open_15 : decode cL_open 15 = .ok (.iconst 0, 1) := by decide +kernel
theorem dL_open_16 : decode cL_open 16 = .ok (.ireturn, 1) := by decide +kernel
set_option maxRecDepth 20000 in
theorem ggL_slips_X4_slips : GoodIn wsL_slips wsX4_slips := goodIn_ca (goodIn_r _ [6, 7, 8, 9, 10, 11, 12, 13, 14, 5, 15, 16, 17, 18, 19, 20, 21, 22, 23, 24, 25, 26, 27, 28, 29, 30, 31, 32, 33, 34, 35, 36, 37, 38, 39, 40, 41, 42, 43, 44, 45, 46, 47, 48, 49, 50, 51, 52, 53, 54, 55, 56, 57, 58, 59, 60, 61, 62, 63, 64, 65, 66, 67, 68, 69, 70, 71, 72, 73, 74, 75, 76, 77, 78, 79, 80, 81, 82, 83, 84, 85, 86, 87, 88, 89, 90, 91, 92, 93, 94, 95, 96, 97, 98, 99, 100, 101, 102, 103, 104, 105, 106, 107, 108, 109, 110, 111, 112, 113, 114, 115, 116, 117, 118, 119, 120, 121, 122, 123, 124, 125, 126, 127, 128, 129, 130, 131] (by decide +kernel) (by decide +kernel)) (goodIn_sub (fun _ h => List.mem_cons_of_mem _ (List.mem_append_right _ h)) (by decide +kernel))
set_option maxRecDepth 20000 in
theorem gL_slips_X4_slips : GoodIn wsL_slips (wsV RL 62 RX4 yX4_slips wsX4_slips) := goodIn_app (goodIn_of _ (by decide +kernel)) ggL_slips_X4_slips
theorem dL_slips_0 : decode cL_slips 0 = .ok (.aload_n 2, 1) := by decide +kernel
theorem dL_slips_1 : decode cL_slips 1 = .ok (.iconst 0, 1) := by decide +kernel
theorem dL_slips_2 : decode cL_slips 2 = .ok (.aload_n 0, 1) := by decide +kernel
theorem dL_slips_3 : decode cL_slips 3 = .ok (.iload_n 1, 1) := by decide +kernel
theorem dL_slips_4 : decode cL_slips 4 = .ok (.invokevirtual 62, 3) := by decide +kernel
theorem dL_slips_7 : decode cL_slips 7 = .ok (.i2l, 1) := by decide +kernel
theorem dL_slips_8 : decode cL_slips 8 = .ok (.lastore, 1) := by decide +kernel
theorem dL_slips_9 : decode cL_slips 9 = .ok (.goto 6, 3) := by decide +kernel
theorem dL_slips_12 : decode cL_slips 12 = .ok (.astore_n 3, 1) := by decide +kernel
theorem dL_slips_13 : decode cL_slips 13 = .ok (.iconst 1, 1) := by decide +kernel
theorem dL_slips_14 : decode cL_slips 14 = .ok (.ireturn, 1) := by decide +kernel
theorem dL_slips_15 : decode cL_slips 15 = .ok (.iconst 0, 1) := by decide +kernel
theorem dL_slips_16 : decode cL_slips 16 = .ok (.ireturn, 1) := by decide +kernel
set_option maxRecDepth 20000 in
theorem ggL_mean_X4_mean : GoodIn wsL_mean wsX4_mean := goodIn_ca (goodIn_r _ [6, 7, 8, 9, 10, 11, 12, 5, 13, 14, 15, 16, 17, 18, 19, 20, 21, 22, 23, 24, 25, 26, 27, 28, 29, 30, 31, 32, 33, 34, 35, 36, 37, 38, 39, 40, 41, 42, 43, 44, 45, 46, 47, 48, 49, 50, 51, 52, 53, 54, 55, 56, 57, 58, 59, 60, 61, 62, 63, 64, 65, 66, 67, 68, 69, 70, 71, 72, 73, 74, 75, 76, 77, 78, 79, 80, 81, 82, 83, 84, 85] (by decide +kernel) (by decide +kernel)) (goodIn_sub (fun _ h => List.mem_cons_of_mem _ (List.mem_append_right _ h)) (by decide +kernel))
set_option maxRecDepth 20000 in
theorem gL_mean_X4_mean : GoodIn wsL_mean (wsV RL 65 RX4 yX4_mean wsX4_mean) := goodIn_app (goodIn_of _ (by decide +kernel)) ggL_mean_X4_mean
theorem dL_mean_0 : decode cL_mean 0 = .ok (.aload_n 2, 1) := by decide +kernel
theorem dL_mean_1 : decode cL_mean 1 = .ok (.iconst 0, 1) := by decide +kernel
theorem dL_mean_2 : decode cL_mean 2 = .ok (.aload_n 0, 1) := by decide +kernel
theorem dL_mean_3 : decode cL_mean 3 = .ok (.iload_n 1, 1) := by decide +kernel
theorem dL_mean_4 : decode cL_mean 4 = .ok (.invokevirtual 65, 3) := by decide +kernel
theorem dL_mean_7 : decode cL_mean 7 = .ok (.i2l, 1) := by decide +kernel
theorem dL_mean_8 : decode cL_mean 8 = .ok (.lastore, 1) := by decide +kernel
theorem dL_mean_9 : decode cL_mean 9 = .ok (.goto 6, 3) := by decide +kernel
theorem dL_mean_12 : decode cL_mean 12 = .ok (.astore_n 3, 1) := by decide +kernel
theorem dL_mean_13 : decode cL_mean 13 = .ok (.iconst 1, 1) := by decide +kernel
theorem dL_mean_14 : decode cL_mean 14 = .ok (.ireturn, 1) := by decide +kernel
theorem dL_mean_15 : decode cL_mean 15 = .ok (.iconst 0, 1) := by decide +kernel
theorem dL_mean_16 : decode cL_mean 16 = .ok (.ireturn, 1) := by decide +kernel
set_option maxRecDepth 20000 in
theorem ggL_published_X4_published : GoodIn wsL_published wsX4_published := goodIn_ca (goodIn_r _ [6, 7, 8, 9, 10, 11, 12, 5, 13, 14, 15, 16, 17, 18, 19, 20, 21, 22, 23, 24, 25, 26, 27, 28, 29, 30, 31, 32, 33, 34, 35, 36, 37, 38, 39, 40, 41, 42, 43, 44, 45, 46, 47, 48, 49, 50, 51, 52, 53, 54, 55, 56, 57, 58, 59, 60, 61, 62, 63, 64, 65, 66, 67, 68, 69, 70, 71, 72, 73, 74, 75, 76, 77, 78, 79, 80, 81, 82, 83, 84, 85, 86, 87, 88, 89, 90, 91, 92, 93, 94, 95, 96, 97, 98, 99, 100, 101, 102, 103, 104, 105] (by decide +kernel) (by decide +kernel)) (goodIn_sub (fun _ h => List.mem_cons_of_mem _ (List.mem_append_right _ h)) (by decide +kernel))
set_option maxRecDepth 20000 in
theorem gL_published_X4_published : GoodIn wsL_published (wsV RL 68 RX4 yX4_published wsX4_published) := goodIn_app (goodIn_of _ (by decide +kernel)) ggL_published_X4_published
theorem dL_published_0 : decode cL_published 0 = .ok (.aload_n 3, 1) := by decide +kernel
theorem dL_published_1 : decode cL_published 1 = .ok (.iconst 0, 1) := by decide +kernel
theorem dL_published_2 : decode cL_published 2 = .ok (.aload_n 0, 1) := by decide +kernel
theorem dL_published_3 : decode cL_published 3 = .ok (.iload_n 1, 1) := by decide +kernel
theorem dL_published_4 : decode cL_published 4 = .ok (.iload_n 2, 1) := by decide +kernel
theorem dL_published_5 : decode cL_published 5 = .ok (.invokevirtual 68, 3) := by decide +kernel
theorem dL_published_8 : decode cL_published 8 = .ok (.i2l, 1) := by decide +kernel
theorem dL_published_9 : decode cL_published 9 = .ok (.lastore, 1) := by decide +kernel
theorem dL_published_10 : decode cL_published 10 = .ok (.goto 7, 3) := by decide +kernel
theorem dL_published_13 : decode cL_published 13 = .ok (.astore 4, 2) := by decide +kernel
theorem dL_published_15 : decode cL_published 15 = .ok (.iconst 1, 1) := by decide +kernel
theorem dL_published_16 : decode cL_published 16 = .ok (.ireturn, 1) := by decide +kernel
theorem dL_published_17 : decode cL_published 17 = .ok (.iconst 0, 1) := by decide +kernel
theorem dL_published_18 : decode cL_published 18 = .ok (.ireturn, 1) := by decide +kernel
set_option maxRecDepth 20000 in
theorem ggL_height_X4_height : GoodIn wsL_height wsX4_height := goodIn_ca (goodIn_ca (goodIn_r _ [6, 7, 8, 9, 10, 11, 12, 13, 14, 15, 5, 16, 17, 18, 19, 20, 21, 22, 23, 24, 25, 26, 27, 28, 29, 30, 31, 32, 33, 34, 35, 36, 37, 38, 39, 40, 41, 42, 43, 44, 45, 46, 47, 48, 49, 50, 51, 52, 53, 54, 55, 56, 57, 58, 59, 60] (by decide +kernel) (by decide +kernel)) (goodIn_sub (fun _ h => List.mem_cons_of_mem _ (List.mem_append_left _ (List.mem_append_right _ h))) (by decide +kernel))) (goodIn_sub (fun _ h => List.mem_cons_of_mem _ (List.mem_append_right _ h)) (by decide +kernel))
set_option maxRecDepth 20000 in
theorem gL_height_X4_height : GoodIn wsL_height (wsV RL 71 RX4 yX4_height wsX4_height) := goodIn_app (goodIn_of _ (by decide +kernel)) ggL_height_X4_height
theorem dL_height_0 : decode cL_height 0 = .ok (.aload 5, 2) := by decide +kernel
theorem dL_height_2 : decode cL_height 2 = .ok (.iconst 0, 1) := by decide +kernel
theorem dL_height_3 : decode cL_height 3 = .ok (.aload_n 0, 1) := by decide +kernel
theorem dL_height_4 : decode cL_height 4 = .ok (.iload_n 1, 1) := by decide +kernel
theorem dL_height_5 : decode cL_height 5 = .ok (.iload_n 2, 1) := by decide +kernel
theorem dL_height_6 : decode cL_height 6 = .ok (.iload_n 3, 1) := by decide +kernel
theorem dL_height_7 : decode cL_height 7 = .ok (.iload 4, 2) := by decide +kernel
theorem dL_height_9 : decode cL_height 9 = .ok (.invokevirtual 71, 3) := by decide +kernel
theorem dL_height_12 : decode cL_height 12 = .ok (.i2l, 1) := by decide +kernel
theorem dL_height_13 : decode cL_height 13 = .ok (.lastore, 1) := by decide +kernel
theorem dL_height_14 : decode cL_height 14 = .ok (.goto 11, 3) := by decide +kernel
theorem dL_height_17 : decode cL_height 17 = .ok (.astore 6, 2) := by decide +kernel
theorem dL_height_19 : decode cL_height 19 = .ok (.iconst 1, 1) := by decide +kernel
theorem dL_height_20 : decode cL_height 20 = .ok (.ireturn, 1) := by decide +kernel
theorem dL_height_21 : decode cL_height 21 = .ok (.astore 6, 2) := by decide +kernel
theorem dL_height_23 : decode cL_height 23 = .ok (.iconst 2, 1) := by decide +kernel
theorem dL_height_24 : decode cL_height 24 = .ok (.ireturn, 1) := by decide +kernel
theorem dL_height_25 : decode cL_height 25 = .ok (.iconst 0, 1) := by decide +kernel
theorem dL_height_26 : decode cL_height 26 = .ok (.ireturn, 1) := by decide +kernel
set_option maxRecDepth 20000 in
theorem ggL_law_X4_init : GoodIn wsL_law wsX4_init := goodIn_r _ [9, 10, 11, 12, 13, 14, 15, 16, 17, 18, 19, 20, 21, 22, 23, 24, 25, 26, 27, 28, 29, 30, 31, 32, 33, 34, 35, 36, 37, 38, 39, 40, 41, 42, 43, 44, 45, 46, 47, 48, 49, 50, 51, 52, 53, 54, 55, 56, 57, 58, 59, 60, 61, 62, 63, 64, 65, 66, 67, 68, 69, 70, 71, 72, 73, 74, 75, 76, 77, 78, 706, 707, 708, 709, 710, 711, 662, 663, 664, 665, 666, 667, 668, 669, 670, 671, 712, 713, 714, 715, 716, 717, 718, 719, 720, 721, 722, 723, 724, 725, 726, 727, 728, 729, 730, 731, 732, 733, 734] (by decide +kernel) (by decide +kernel)
set_option maxRecDepth 20000 in
theorem gL_law_X4_init : GoodIn wsL_law (wsX4_init) := ggL_law_X4_init
set_option maxRecDepth 20000 in
theorem ggL_law_X5_init : GoodIn wsL_law wsX5_init := goodIn_r _ [81, 82, 11, 12, 29, 83, 84, 85, 86, 87, 88, 89, 90, 91, 92, 93, 94, 95, 96, 97, 98, 99, 100, 101, 102, 31, 103, 104, 105, 106, 107, 108, 109, 672, 673, 674, 675, 676, 677, 678, 679, 680, 681, 682, 683, 684, 685, 686, 687, 688, 689, 690, 691, 692, 693, 694, 695, 696, 697, 698, 699, 700, 701, 702, 703, 704, 705] (by decide +kernel) (by decide +kernel)
set_option maxRecDepth 20000 in
theorem gL_law_X5_init : GoodIn wsL_law (wsX5_init) := ggL_law_X5_init
set_option maxRecDepth 20000 in
theorem ggL_law_L_clock : GoodIn wsL_law wsL_clock := goodIn_ca (goodIn_ca (goodIn_r _ [113, 114, 115, 116, 117, 2, 118, 119, 120, 121, 122, 16, 123, 124, 125, 126, 127, 128, 15, 129, 45, 130, 131, 132, 133, 40, 43, 42, 662, 663, 664, 665, 666, 667, 668, 669, 670, 671, 706, 707, 708, 709, 710, 711] (by decide +kernel) (by decide +kernel)) (goodIn_sub (fun _ h => List.mem_append_left _ (List.mem_append_left _ (List.mem_append_right _ h))) (by decide +kernel))) (goodIn_sub (fun _ h => List.mem_append_left _ (List.mem_append_right _ h)) (by decide +kernel))
set_option maxRecDepth 20000 in
theorem gL_law_L_clock : GoodIn wsL_law (va_wsS RL 78 yL_clock wsL_clock) := goodIn_app (goodIn_of _ (by decide +kernel)) ggL_law_L_clock
set_option maxRecDepth 20000 in
theorem ggL_law_X5_clock : GoodIn wsL_law wsX5_clock := goodIn_r _ [137, 138, 83, 85, 87, 139, 140, 5, 141, 142, 143, 144, 145, 146, 672, 673, 674, 675, 676, 677, 678, 679, 680, 681, 682, 683, 684, 685, 686, 687, 688, 689, 690, 691, 692, 693, 694, 695, 696, 697, 698, 699, 700, 701, 702, 703, 704, 705] (by decide +kernel) (by decide +kernel)
set_option maxRecDepth 20000 in
theorem gL_law_X5_clock : GoodIn wsL_law (wsV RL 83 RX5 yX5_clock wsX5_clock) := goodIn_app (goodIn_of _ (by decide +kernel)) ggL_law_X5_clock
set_option maxRecDepth 20000 in
theorem ggL_law_X5_thrown : GoodIn wsL_law wsX5_thrown := goodIn_r _ [150, 146, 672, 673, 674, 675, 676, 677, 678, 679, 680, 681, 682, 683, 684, 685, 686, 687, 688, 689, 690, 691, 692, 693, 694, 695, 696, 697, 698, 699, 700, 701, 702, 703, 704, 705] (by decide +kernel) (by decide +kernel)
set_option maxRecDepth 20000 in
theorem gL_law_X5_thrown : GoodIn wsL_law (wsV RL 84 RX5 yX5_thrown wsX5_thrown) := goodIn_app (goodIn_of _ (by decide +kernel)) ggL_law_X5_thrown
set_option maxRecDepth 20000 in
theorem ggL_law_L_tell : GoodIn wsL_law wsL_tell := goodIn_ca (goodIn_ca (goodIn_r _ [153, 154, 155, 156, 157, 2, 158, 159, 160, 119, 120, 16, 161, 162, 163, 15, 164, 45, 123, 124, 125, 165, 166, 167, 168, 42, 169, 170, 171, 172, 41, 662, 663, 664, 665, 666, 667, 668, 669, 670, 671, 706, 707, 708, 709, 710, 711] (by decide +kernel) (by decide +kernel)) (goodIn_sub (fun _ h => List.mem_append_right _ h) (by decide +kernel))) (goodIn_sub (fun _ h => List.mem_append_left _ (List.mem_append_left _ (List.mem_append_right _ h))) (by decide +kernel))
set_option maxRecDepth 20000 in
theorem gL_law_L_tell : GoodIn wsL_law (va_wsS RL 88 yL_tell wsL_tell) := goodIn_app (goodIn_of _ (by decide +kernel)) ggL_law_L_tell
set_option maxRecDepth 20000 in
theorem ggL_law_X5_tell : GoodIn wsL_law wsX5_tell := goodIn_r _ [176, 87, 84, 177, 178, 179, 5, 180, 138, 139, 140, 141, 142, 143, 144, 145, 146, 672, 673, 674, 675, 676, 677, 678, 679, 680, 681, 682, 683, 684, 685, 686, 687, 688, 689, 690, 691, 692, 693, 694, 695, 696, 697, 698, 699, 700, 701, 702, 703, 704, 705] (by decide +kernel) (by decide +kernel)
set_option maxRecDepth 20000 in
theorem gL_law_X5_tell : GoodIn wsL_law (wsV RL 91 RX5 yX5_tell wsX5_tell) := goodIn_app (goodIn_of _ (by decide +kernel)) ggL_law_X5_tell
set_option maxRecDepth 20000 in
theorem ggL_law_L_link : GoodIn wsL_law wsL_link := goodIn_ca (goodIn_ca (goodIn_ca (goodIn_r _ [183, 154, 184, 185, 186, 2, 187, 159, 160, 119, 120, 121, 122, 16, 20, 33, 161, 162, 163, 15, 164, 45, 123, 124, 125, 188, 189, 190, 19, 191, 58, 192, 193, 194, 195, 49, 50, 51, 53, 662, 663, 664, 665, 666, 667, 668, 669, 670, 671, 706, 707, 708, 709, 710, 711, 712, 713, 714, 715, 716, 717, 718, 719, 720] (by decide +kernel) (by decide +kernel)) (goodIn_sub (fun _ h => List.mem_append_right _ h) (by decide +kernel))) (goodIn_sub (fun _ h => List.mem_append_left _ (List.mem_append_left _ (List.mem_append_right _ h))) (by decide +kernel))) (goodIn_sub (fun _ h => List.mem_append_left _ (List.mem_append_right _ h)) (by decide +kernel))
set_option maxRecDepth 20000 in
theorem gL_law_L_link : GoodIn wsL_law (va_wsS RL 92 yL_link wsL_link) := goodIn_app (goodIn_of _ (by decide +kernel)) ggL_law_L_link
set_option maxRecDepth 20000 in
theorem ggL_law_X5_link : GoodIn wsL_law wsX5_link := goodIn_r _ [199, 200, 88, 89, 90, 92, 201, 177, 178, 179, 5, 180, 138, 139, 140, 141, 142, 143, 144, 145, 146, 672, 673, 674, 675, 676, 677, 678, 679, 680, 681, 682, 683, 684, 685, 686, 687, 688, 689, 690, 691, 692, 693, 694, 695, 696, 697, 698, 699, 700, 701, 702, 703, 704, 705] (by decide +kernel) (by decide +kernel)
set_option maxRecDepth 20000 in
theorem gL_law_X5_link : GoodIn wsL_law (wsV RL 94 RX5 yX5_link wsX5_link) := goodIn_app (goodIn_of _ (by decide +kernel)) ggL_law_X5_link
set_option maxRecDepth 20000 in
theorem ggL_law_L_event : GoodIn wsL_law wsL_event := goodIn_ca (goodIn_ca (goodIn_ca (goodIn_r _ [204, 114, 205, 206, 207, 2, 208, 119, 120, 159, 160, 121, 122, 33, 16, 20, 24, 123, 124, 125, 161, 162, 163, 15, 164, 45, 209, 210, 211, 19, 212, 58, 213, 214, 215, 216, 217, 218, 23, 219, 63, 220, 221, 222, 223, 62, 662, 663, 664, 665, 666, 667, 668, 669, 670, 671, 706, 707, 708, 709, 710, 711, 712, 713, 714, 715, 716, 717, 718, 719, 720, 721, 722] (by decide +kernel) (by decide +kernel)) (goodIn_sub (fun _ h => List.mem_append_left _ (List.mem_append_left _ (List.mem_append_right _ h))) (by decide +kernel))) (goodIn_sub (fun _ h => List.mem_append_right _ h) (by decide +kernel))) (goodIn_sub (fun _ h => List.mem_append_left _ (List.mem_append_right _ h)) (by decide +kernel))
set_option maxRecDepth 20000 in
theorem gL_law_L_event : GoodIn wsL_law (va_wsS RL 95 yL_event wsL_event) := goodIn_app (goodIn_of _ (by decide +kernel)) ggL_law_L_event
set_option maxRecDepth 20000 in
theorem ggL_law_X5_event : GoodIn wsL_law wsX5_event := goodIn_r _ [227, 201, 228, 94, 95, 96, 97, 139, 140, 5, 141, 177, 178, 179, 180, 138, 229, 230, 231, 232, 200, 233, 234, 235, 142, 143, 144, 145, 146, 672, 673, 674, 675, 676, 677, 678, 679, 680, 681, 682, 683, 684, 685, 686, 687, 688, 689, 690, 691, 692, 693, 694, 695, 696, 697, 698, 699, 700, 701, 702, 703, 704, 705] (by decide +kernel) (by decide +kernel)
set_option maxRecDepth 20000 in
theorem gL_law_X5_event : GoodIn wsL_law (wsV RL 98 RX5 yX5_event wsX5_event) := goodIn_app (goodIn_of _ (by decide +kernel)) ggL_law_X5_event
set_option maxRecDepth 20000 in
theorem ggL_law_L_calibrate : GoodIn wsL_law wsL_calibrate := goodIn_ca (goodIn_ca (goodIn_ca (goodIn_r _ [238, 154, 239, 240, 241, 2, 242, 159, 160, 119, 120, 121, 122, 20, 209, 210, 211, 19, 212, 58, 123, 124, 125, 243, 244, 245, 246, 54, 247, 248, 249, 250, 57, 662, 663, 664, 665, 666, 667, 668, 669, 670, 671, 712, 713, 714, 715, 716, 717, 718, 719, 720] (by decide +kernel) (by decide +kernel)) (goodIn_sub (fun _ h => List.mem_append_right _ h) (by decide +kernel))) (goodIn_sub (fun _ h => List.mem_append_left _ (List.mem_append_left _ (List.mem_append_right _ h))) (by decide +kernel))) (goodIn_sub (fun _ h => List.mem_append_left _ (List.mem_append_right _ h)) (by decide +kernel))
set_option maxRecDepth 20000 in
theorem gL_law_L_calibrate : GoodIn wsL_law (va_wsS RL 99 yL_calibrate wsL_calibrate) := goodIn_app (goodIn_of _ (by decide +kernel)) ggL_law_L_calibrate
set_option maxRecDepth 20000 in
theorem ggL_law_X5_calibrate : GoodIn wsL_law wsX5_calibrate := goodIn_r _ [254, 98, 99, 100, 101, 229, 230, 231, 5, 232, 200, 139, 140, 141, 142, 143, 144, 145, 146, 672, 673, 674, 675, 676, 677, 678, 679, 680, 681, 682, 683, 684, 685, 686, 687, 688, 689, 690, 691, 692, 693, 694, 695, 696, 697, 698, 699, 700, 701, 702, 703, 704, 705] (by decide +kernel) (by decide +kernel)
set_option maxRecDepth 20000 in
theorem gL_law_X5_calibrate : GoodIn wsL_law (wsV RL 101 RX5 yX5_calibrate wsX5_calibrate) := goodIn_app (goodIn_of _ (by decide +kernel)) ggL_law_X5_calibrate
set_option maxRecDepth 20000 in
theorem ggL_law_L_bounds : GoodIn wsL_law wsL_bounds := goodIn_ca (goodIn_r _ [257, 114, 258, 259, 260, 2, 261, 119, 120, 34, 35, 123, 124, 125, 662, 663, 664, 665, 666, 667, 668, 669, 670, 671] (by decide +kernel) (by decide +kernel)) (goodIn_sub (fun _ h => List.mem_append_left _ (List.mem_append_left _ (List.mem_append_right _ h))) (by decide +kernel))
set_option maxRecDepth 20000 in
theorem gL_law_L_bounds : GoodIn wsL_law (va_wsS RL 102 yL_bounds wsL_bounds) := goodIn_app (goodIn_of _ (by decide +kernel)) ggL_law_L_bounds
set_option maxRecDepth 20000 in
theorem ggL_law_X5_bounds : GoodIn wsL_law wsX5_bounds := goodIn_r _ [265, 108, 109, 139, 140, 5, 141, 142, 143, 144, 145, 146, 672, 673, 674, 675, 676, 677, 678, 679, 680, 681, 682, 683, 684, 685, 686, 687, 688, 689, 690, 691, 692, 693, 694, 695, 696, 697, 698, 699, 700, 701, 702, 703, 704, 705] (by decide +kernel) (by decide +kernel)
set_option maxRecDepth 20000 in
theorem gL_law_X5_bounds : GoodIn wsL_law (wsV RL 105 RX5 yX5_bounds wsX5_bounds) := goodIn_app (goodIn_of _ (by decide +kernel)) ggL_law_X5_bounds
set_option maxRecDepth 20000 in
theorem ggL_law_L_pass : GoodIn wsL_law wsL_pass := goodIn_ca (goodIn_ca (goodIn_r _ [268, 114, 269, 270, 271, 2, 272, 119, 120, 121, 122, 33, 123, 124, 125, 273, 274, 275, 276, 30, 24, 16, 20, 216, 217, 218, 23, 219, 63, 277, 278, 279, 280, 62, 281, 282, 283, 284, 285, 286, 287, 288, 289, 290, 291, 292, 293, 294, 295, 296, 297, 298, 299, 300, 15, 301, 40, 302, 303, 304, 305, 306, 307, 308, 309, 310, 311, 312, 313, 314, 43, 315, 316, 317, 19, 318, 51, 319, 320, 321, 322, 52, 323, 324, 325, 326, 45, 44, 41, 327, 328, 329, 330, 331, 58, 49, 50, 56, 332, 333, 334, 335, 336, 337, 338, 339, 35, 340, 341, 342, 343, 126, 127, 128, 129, 165, 166, 167, 168, 42, 188, 189, 190, 191, 344, 345, 346, 347, 348, 349, 350, 351, 53, 352, 353, 354, 355, 356, 357, 358, 359, 57, 360, 662, 663, 664, 665, 666, 667, 668, 669, 670, 671, 721, 722, 706, 707, 708, 709, 710, 711, 712, 713, 714, 715, 716, 717, 718, 719, 720] (by decide +kernel) (by decide +kernel)) (goodIn_sub (fun _ h => List.mem_append_left _ (List.mem_append_left _ (List.mem_append_right _ h))) (by decide +kernel))) (goodIn_sub (fun _ h => List.mem_append_left _ (List.mem_append_right _ h)) (by decide +kernel))
set_option maxRecDepth 20000 in
theorem gL_law_L_pass : GoodIn wsL_law (va_wsS RL 106 yL_pass wsL_pass) := goodIn_app (goodIn_of _ (by decide +kernel)) ggL_law_L_pass
set_option maxRecDepth 20000 in
theorem ggL_law_X5_pass : GoodIn wsL_law wsX5_pass := goodIn_r _ [364, 201, 139, 140, 5, 141, 142, 143, 144, 145, 146, 365, 366, 367, 368, 138, 86, 83, 85, 84, 200, 93, 88, 89, 90, 91, 102, 109, 369, 370, 371, 372, 228, 94, 373, 374, 375, 376, 95, 96, 97, 377, 378, 379, 380, 381, 382, 383, 384, 385, 386, 387, 87, 388, 389, 390, 391, 392, 393, 394, 395, 92, 229, 230, 231, 232, 396, 397, 398, 399, 400, 401, 402, 403, 98, 99, 100, 101, 672, 673, 674, 675, 676, 677, 678, 679, 680, 681, 682, 683, 684, 685, 686, 687, 688, 689, 690, 691, 692, 693, 694, 695, 696, 697, 698, 699, 700, 701, 702, 703, 704, 705] (by decide +kernel) (by decide +kernel)
set_option maxRecDepth 20000 in
theorem gL_law_X5_pass : GoodIn wsL_law (wsV RL 109 RX5 yX5_pass wsX5_pass) := goodIn_app (goodIn_of _ (by decide +kernel)) ggL_law_X5_pass
set_option maxRecDepth 20000 in
theorem ggL_law_L_vote : GoodIn wsL_law wsL_vote := goodIn_ca (goodIn_r _ [406, 154, 407, 408, 409, 2, 410, 159, 160, 32, 123, 124, 125, 411, 412, 413, 414, 662, 663, 664, 665, 666, 667, 668, 669, 670, 671] (by decide +kernel) (by decide +kernel)) (goodIn_sub (fun _ h => List.mem_append_right _ h) (by decide +kernel))
set_option maxRecDepth 20000 in
theorem gL_law_L_vote : GoodIn wsL_law (va_wsS RL 110 yL_vote wsL_vote) := goodIn_app (goodIn_of _ (by decide +kernel)) ggL_law_L_vote
set_option maxRecDepth 20000 in
theorem ggL_law_X5_vote : GoodIn wsL_law wsX5_vote := goodIn_r _ [418, 103, 139, 140, 5, 141, 142, 143, 144, 145, 146, 419, 420, 421, 422, 672, 673, 674, 675, 676, 677, 678, 679, 680, 681, 682, 683, 684, 685, 686, 687, 688, 689, 690, 691, 692, 693, 694, 695, 696, 697, 698, 699, 700, 701, 702, 703, 704, 705] (by decide +kernel) (by decide +kernel)
set_option maxRecDepth 20000 in
theorem gL_law_X5_vote : GoodIn wsL_law (wsV RL 113 RX5 yX5_vote wsX5_vote) := goodIn_app (goodIn_of _ (by decide +kernel)) ggL_law_X5_vote
set_option maxRecDepth 20000 in
theorem ggL_law_L_adopt : GoodIn wsL_law wsL_adopt := goodIn_ca (goodIn_r _ [425, 426, 427, 428, 429, 2, 430, 121, 122, 36, 33, 411, 412, 413, 414, 32, 431, 432, 433, 434, 28, 20, 34, 435, 436, 437, 27, 438, 73, 74, 439, 189, 190, 19, 191, 58, 440, 349, 350, 351, 53, 441, 442, 443, 444, 445, 446, 447, 448, 449, 450, 451, 452, 49, 50, 453, 454, 455, 456, 67, 68, 69, 70, 71, 72, 457, 458, 459, 460, 461, 462, 463, 464, 356, 357, 358, 359, 56, 57, 465, 466, 467, 468, 469, 470, 471, 306, 472, 662, 663, 664, 665, 666, 667, 668, 669, 670, 671, 723, 724, 725, 726, 727, 728, 729, 730, 731, 732, 733, 734, 712, 713, 714, 715, 716, 717, 718, 719, 720] (by decide +kernel) (by decide +kernel)) (goodIn_sub (fun _ h => List.mem_append_left _ (List.mem_append_right _ h)) (by decide +kernel))
set_option maxRecDepth 20000 in
theorem gL_law_L_adopt : GoodIn wsL_law (va_wsS RL 114 yL_adopt wsL_adopt) := goodIn_app (goodIn_of _ (by decide +kernel)) ggL_law_L_adopt
set_option maxRecDepth 20000 in
theorem ggL_law_X5_adopt : GoodIn wsL_law wsX5_adopt := goodIn_r _ [476, 477, 201, 142, 143, 144, 5, 145, 146, 478, 479, 480, 481, 482, 104, 200, 392, 393, 394, 395, 92, 229, 230, 231, 232, 139, 140, 141, 396, 397, 398, 399, 483, 484, 485, 486, 89, 88, 487, 488, 489, 490, 491, 492, 493, 494, 495, 496, 497, 498, 105, 106, 107, 400, 401, 402, 403, 93, 98, 99, 100, 101, 419, 420, 421, 422, 103, 499, 500, 501, 502, 108, 672, 673, 674, 675, 676, 677, 678, 679, 680, 681, 682, 683, 684, 685, 686, 687, 688, 689, 690, 691, 692, 693, 694, 695, 696, 697, 698, 699, 700, 701, 702, 703, 704, 705] (by decide +kernel) (by decide +kernel)
set_option maxRecDepth 20000 in
theorem gL_law_X5_adopt : GoodIn wsL_law (wsV RL 117 RX5 yX5_adopt wsX5_adopt) := goodIn_app (goodIn_of _ (by decide +kernel)) ggL_law_X5_adopt
set_option maxRecDepth 20000 in
theorem ggL_law_X4_day : GoodIn wsL_law wsX4_day := goodIn_r _ [506, 33, 662, 663, 664, 665, 666, 667, 668, 669, 670, 671] (by decide +kernel) (by decide +kernel)
set_option maxRecDepth 20000 in
theorem gL_law_X4_day : GoodIn wsL_law (wsV RL 118 RX4 yX4_day wsX4_day) := goodIn_app (goodIn_of _ (by decide +kernel)) ggL_law_X4_day
set_option maxRecDepth 20000 in
theorem ggL_law_X5_day : GoodIn wsL_law wsX5_day := goodIn_r _ [510, 146, 201, 672, 673, 674, 675, 676, 677, 678, 679, 680, 681, 682, 683, 684, 685, 686, 687, 688, 689, 690, 691, 692, 693, 694, 695, 696, 697, 698, 699, 700, 701, 702, 703, 704, 705] (by decide +kernel) (by decide +kernel)
set_option maxRecDepth 20000 in
theorem gL_law_X5_day : GoodIn wsL_law (wsV RL 121 RX5 yX5_day wsX5_day) := goodIn_app (goodIn_of _ (by decide +kernel)) ggL_law_X5_day
set_option maxRecDepth 20000 in
theorem ggL_law_L_of : GoodIn wsL_law wsL_of := goodIn_ca (goodIn_ca (goodIn_r _ [513, 154, 514, 515, 516, 2, 517, 159, 160, 119, 120, 16, 161, 162, 163, 15, 164, 45, 518, 333, 334, 335, 44, 519, 520, 521, 522, 40, 523, 524, 525, 526, 43, 662, 663, 664, 665, 666, 667, 668, 669, 670, 671, 706, 707, 708, 709, 710, 711] (by decide +kernel) (by decide +kernel)) (goodIn_sub (fun _ h => List.mem_append_right _ h) (by decide +kernel))) (goodIn_sub (fun _ h => List.mem_append_left _ (List.mem_append_left _ (List.mem_append_right _ h))) (by decide +kernel))
set_option maxRecDepth 20000 in
theorem gL_law_L_of : GoodIn wsL_law (va_wsS RL 122 yL_of wsL_of) := goodIn_app (goodIn_of _ (by decide +kernel)) ggL_law_L_of
set_option maxRecDepth 20000 in
theorem ggL_law_X5_of : GoodIn wsL_law wsX5_of := goodIn_r _ [530, 86, 83, 85, 177, 178, 179, 5, 180, 138, 139, 140, 141, 142, 143, 144, 145, 146, 672, 673, 674, 675, 676, 677, 678, 679, 680, 681, 682, 683, 684, 685, 686, 687, 688, 689, 690, 691, 692, 693, 694, 695, 696, 697, 698, 699, 700, 701, 702, 703, 704, 705] (by decide +kernel) (by decide +kernel)
set_option maxRecDepth 20000 in
theorem gL_law_X5_of : GoodIn wsL_law (wsV RL 124 RX5 yX5_of wsX5_of) := goodIn_app (goodIn_of _ (by decide +kernel)) ggL_law_X5_of
set_option maxRecDepth 20000 in
theorem ggL_law_L_measured : GoodIn wsL_law wsL_measured := goodIn_ca (goodIn_r _ [533, 154, 534, 535, 536, 2, 537, 159, 160, 20, 538, 539, 540, 541, 542, 543, 544, 545, 33, 123, 124, 125, 209, 210, 211, 19, 212, 58, 348, 349, 350, 351, 53, 546, 357, 358, 359, 56, 57, 547, 548, 549, 550, 662, 663, 664, 665, 666, 667, 668, 669, 670, 671, 712, 713, 714, 715, 716, 717, 718, 719, 720] (by decide +kernel) (by decide +kernel)) (goodIn_sub (fun _ h => List.mem_append_right _ h) (by decide +kernel))
set_option maxRecDepth 20000 in
theorem gL_law_L_measured : GoodIn wsL_law (va_wsS RL 125 yL_measured wsL_measured) := goodIn_app (goodIn_of _ (by decide +kernel)) ggL_law_L_measured
set_option maxRecDepth 20000 in
theorem ggL_law_X5_measured : GoodIn wsL_law wsX5_measured := goodIn_r _ [554, 93, 392, 393, 394, 5, 395, 92, 229, 230, 231, 232, 200, 139, 140, 141, 396, 397, 398, 399, 201, 142, 143, 144, 145, 146, 400, 401, 402, 403, 98, 99, 100, 101, 672, 673, 674, 675, 676, 677, 678, 679, 680, 681, 682, 683, 684, 685, 686, 687, 688, 689, 690, 691, 692, 693, 694, 695, 696, 697, 698, 699, 700, 701, 702, 703, 704, 705] (by decide +kernel) (by decide +kernel)
set_option maxRecDepth 20000 in
theorem gL_law_X5_measured : GoodIn wsL_law (wsV RL 128 RX5 yX5_measured wsX5_measured) := goodIn_app (goodIn_of _ (by decide +kernel)) ggL_law_X5_measured
set_option maxRecDepth 20000 in
theorem ggL_law_L_closes : GoodIn wsL_law wsL_closes := goodIn_ca (goodIn_ca (goodIn_r _ [557, 154, 558, 559, 560, 2, 561, 159, 160, 119, 120, 20, 304, 305, 306, 307, 308, 309, 310, 538, 539, 540, 541, 542, 543, 544, 545, 33, 123, 124, 125, 209, 210, 211, 19, 212, 58, 348, 349, 350, 351, 53, 562, 446, 447, 448, 449, 450, 451, 452, 49, 50, 563, 462, 463, 464, 356, 357, 358, 359, 56, 57, 465, 458, 459, 460, 662, 663, 664, 665, 666, 667, 668, 669, 670, 671, 712, 713, 714, 715, 716, 717, 718, 719, 720] (by decide +kernel) (by decide +kernel)) (goodIn_sub (fun _ h => List.mem_append_right _ h) (by decide +kernel))) (goodIn_sub (fun _ h => List.mem_append_left _ (List.mem_append_left _ (List.mem_append_right _ h))) (by decide +kernel))
set_option maxRecDepth 20000 in
theorem gL_law_L_closes : GoodIn wsL_law (va_wsS RL 129 yL_closes wsL_closes) := goodIn_app (goodIn_of _ (by decide +kernel)) ggL_law_L_closes
set_option maxRecDepth 20000 in
theorem ggL_law_X5_closes : GoodIn wsL_law wsX5_closes := goodIn_r _ [567, 482, 107, 568, 569, 5, 570, 571, 572, 573, 392, 393, 394, 395, 92, 229, 230, 231, 232, 200, 139, 140, 141, 396, 397, 398, 399, 201, 483, 484, 485, 486, 89, 88, 487, 488, 489, 490, 142, 143, 144, 145, 146, 491, 492, 493, 494, 495, 496, 497, 498, 105, 106, 400, 401, 402, 403, 93, 98, 99, 100, 101, 672, 673, 674, 675, 676, 677, 678, 679, 680, 681, 682, 683, 684, 685, 686, 687, 688, 689, 690, 691, 692, 693, 694, 695, 696, 697, 698, 699, 700, 701, 702, 703, 704, 705] (by decide +kernel) (by decide +kernel)
set_option maxRecDepth 20000 in
theorem gL_law_X5_closes : GoodIn wsL_law (wsV RL 131 RX5 yX5_closes wsX5_closes) := goodIn_app (goodIn_of _ (by decide +kernel)) ggL_law_X5_closes
set_option maxRecDepth 20000 in
theorem ggL_law_L_open : GoodIn wsL_law wsL_open := goodIn_ca (goodIn_r _ [576, 154, 577, 578, 579, 2, 580, 159, 160, 542, 543, 544, 545, 33, 123, 124, 125, 431, 432, 433, 434, 28, 20, 34, 435, 436, 437, 27, 438, 73, 74, 439, 189, 190, 19, 191, 58, 440, 349, 350, 351, 53, 441, 442, 443, 444, 445, 446, 447, 448, 449, 450, 451, 452, 49, 50, 453, 454, 455, 456, 67, 68, 69, 70, 71, 72, 457, 458, 459, 460, 461, 462, 463, 464, 356, 357, 358, 359, 56, 57, 465, 466, 467, 468, 469, 470, 471, 306, 472, 662, 663, 664, 665, 666, 667, 668, 669, 670, 671, 723, 724, 725, 726, 727, 728, 729, 730, 731, 732, 733, 734, 712, 713, 714, 715, 716, 717, 718, 719, 720] (by decide +kernel) (by decide +kernel)) (goodIn_sub (fun _ h => List.mem_append_right _ h) (by decide +kernel))
set_option maxRecDepth 20000 in
theorem gL_law_L_open : GoodIn wsL_law (va_wsS RL 132 yL_open wsL_open) := goodIn_app (goodIn_of _ (by decide +kernel)) ggL_law_L_open
set_option maxRecDepth 20000 in
theorem ggL_law_X5_open : GoodIn wsL_law wsX5_open := goodIn_r _ [584, 396, 397, 398, 5, 399, 201, 139, 140, 141, 142, 143, 144, 145, 146, 478, 479, 480, 481, 482, 104, 200, 392, 393, 394, 395, 92, 229, 230, 231, 232, 483, 484, 485, 486, 89, 88, 487, 488, 489, 490, 491, 492, 493, 494, 495, 496, 497, 498, 105, 106, 107, 400, 401, 402, 403, 93, 98, 99, 100, 101, 499, 500, 501, 502, 108, 672, 673, 674, 675, 676, 677, 678, 679, 680, 681, 682, 683, 684, 685, 686, 687, 688, 689, 690, 691, 692, 693, 694, 695, 696, 697, 698, 699, 700, 701, 702, 703, 704, 705] (by decide +kernel) (by decide +kernel)
set_option maxRecDepth 20000 in
theorem gL_law_X5_open : GoodIn wsL_law (wsV RL 134 RX5 yX5_open wsX5_open) := goodIn_app (goodIn_of _ (by decide +kernel)) ggL_law_X5_open
set_option maxRecDepth 20000 in
theorem ggL_law_L_slips : GoodIn wsL_law wsL_slips := goodIn_ca (goodIn_r _ [587, 154, 588, 589, 590, 2, 591, 159, 160, 28, 20, 34, 542, 543, 544, 545, 33, 123, 124, 125, 435, 436, 437, 27, 438, 73, 74, 439, 189, 190, 19, 191, 58, 440, 349, 350, 351, 53, 441, 442, 443, 444, 445, 446, 447, 448, 449, 450, 451, 452, 49, 50, 453, 454, 455, 456, 67, 68, 69, 70, 71, 72, 457, 458, 459, 460, 461, 462, 463, 464, 356, 357, 358, 359, 56, 57, 465, 188, 592, 593, 594, 595, 76, 77, 78, 596, 597, 598, 75, 470, 471, 306, 472, 599, 600, 601, 602, 603, 604, 605, 606, 662, 663, 664, 665, 666, 667, 668, 669, 670, 671, 723, 724, 725, 726, 727, 728, 729, 730, 731, 732, 733, 734, 712, 713, 714, 715, 716, 717, 718, 719, 720] (by decide +kernel) (by decide +kernel)) (goodIn_sub (fun _ h => List.mem_append_right _ h) (by decide +kernel))
set_option maxRecDepth 20000 in
theorem gL_law_L_slips : GoodIn wsL_law (va_wsS RL 135 yL_slips wsL_slips) := goodIn_app (goodIn_of _ (by decide +kernel)) ggL_law_L_slips
set_option maxRecDepth 20000 in
theorem ggL_law_X5_slips : GoodIn wsL_law wsX5_slips := goodIn_r _ [610, 200, 396, 397, 398, 5, 399, 201, 139, 140, 141, 142, 143, 144, 145, 146, 478, 479, 480, 481, 482, 104, 392, 393, 394, 395, 92, 229, 230, 231, 232, 483, 484, 485, 486, 89, 88, 487, 488, 489, 490, 491, 492, 493, 494, 495, 496, 497, 498, 105, 106, 107, 400, 401, 402, 403, 93, 98, 99, 100, 101, 611, 612, 613, 614, 499, 500, 501, 502, 108, 672, 673, 674, 675, 676, 677, 678, 679, 680, 681, 682, 683, 684, 685, 686, 687, 688, 689, 690, 691, 692, 693, 694, 695, 696, 697, 698, 699, 700, 701, 702, 703, 704, 705] (by decide +kernel) (by decide +kernel)
set_option maxRecDepth 20000 in
theorem gL_law_X5_slips : GoodIn wsL_law (wsV RL 137 RX5 yX5_slips wsX5_slips) := goodIn_app (goodIn_of _ (by decide +kernel)) ggL_law_X5_slips
set_option maxRecDepth 20000 in
theorem ggL_law_L_mean : GoodIn wsL_law wsL_mean := goodIn_ca (goodIn_r _ [617, 154, 618, 619, 620, 2, 621, 159, 160, 16, 542, 543, 544, 545, 33, 123, 124, 125, 126, 127, 128, 15, 129, 45, 340, 341, 342, 343, 20, 165, 166, 167, 168, 42, 188, 189, 190, 19, 191, 58, 344, 345, 346, 347, 49, 50, 348, 349, 350, 351, 53, 352, 353, 354, 355, 356, 357, 358, 359, 56, 57, 662, 663, 664, 665, 666, 667, 668, 669, 670, 671, 706, 707, 708, 709, 710, 711, 712, 713, 714, 715, 716, 717, 718, 719, 720] (by decide +kernel) (by decide +kernel)) (goodIn_sub (fun _ h => List.mem_append_right _ h) (by decide +kernel))
set_option maxRecDepth 20000 in
theorem gL_law_L_mean : GoodIn wsL_law (va_wsS RL 138 yL_mean wsL_mean) := goodIn_app (goodIn_of _ (by decide +kernel)) ggL_law_L_mean
set_option maxRecDepth 20000 in
theorem ggL_law_X5_mean : GoodIn wsL_law wsX5_mean := goodIn_r _ [625, 138, 396, 397, 398, 5, 399, 201, 139, 140, 141, 142, 143, 144, 145, 146, 384, 385, 386, 387, 87, 88, 388, 389, 390, 391, 200, 89, 392, 393, 394, 395, 92, 229, 230, 231, 232, 400, 401, 402, 403, 93, 98, 99, 100, 101, 672, 673, 674, 675, 676, 677, 678, 679, 680, 681, 682, 683, 684, 685, 686, 687, 688, 689, 690, 691, 692, 693, 694, 695, 696, 697, 698, 699, 700, 701, 702, 703, 704, 705] (by decide +kernel) (by decide +kernel)
set_option maxRecDepth 20000 in
theorem gL_law_X5_mean : GoodIn wsL_law (wsV RL 140 RX5 yX5_mean wsX5_mean) := goodIn_app (goodIn_of _ (by decide +kernel)) ggL_law_X5_mean
set_option maxRecDepth 20000 in
theorem ggL_law_L_published : GoodIn wsL_law wsL_published := goodIn_ca (goodIn_r _ [628, 154, 629, 630, 631, 2, 632, 159, 160, 30, 542, 543, 544, 545, 33, 123, 124, 125, 633, 634, 635, 636, 336, 337, 338, 339, 35, 340, 341, 342, 343, 16, 20, 126, 127, 128, 15, 129, 45, 165, 166, 167, 168, 42, 188, 189, 190, 19, 191, 58, 344, 345, 346, 347, 49, 50, 348, 349, 350, 351, 53, 352, 353, 354, 355, 356, 357, 358, 359, 56, 57, 360, 302, 303, 304, 305, 306, 307, 308, 309, 310, 662, 663, 664, 665, 666, 667, 668, 669, 670, 671, 706, 707, 708, 709, 710, 711, 712, 713, 714, 715, 716, 717, 718, 719, 720] (by decide +kernel) (by decide +kernel)) (goodIn_sub (fun _ h => List.mem_append_right _ h) (by decide +kernel))
set_option maxRecDepth 20000 in
theorem gL_law_L_published : GoodIn wsL_law (va_wsS RL 141 yL_published wsL_published) := goodIn_app (goodIn_of _ (by decide +kernel)) ggL_law_L_published
set_option maxRecDepth 20000 in
theorem ggL_law_X5_published : GoodIn wsL_law wsX5_published := goodIn_r _ [640, 102, 109, 396, 397, 398, 5, 399, 201, 139, 140, 141, 142, 143, 144, 145, 146, 384, 385, 386, 387, 138, 87, 88, 388, 389, 390, 391, 200, 89, 392, 393, 394, 395, 92, 229, 230, 231, 232, 400, 401, 402, 403, 93, 98, 99, 100, 101, 381, 382, 383, 672, 673, 674, 675, 676, 677, 678, 679, 680, 681, 682, 683, 684, 685, 686, 687, 688, 689, 690, 691, 692, 693, 694, 695, 696, 697, 698, 699, 700, 701, 702, 703, 704, 705] (by decide +kernel) (by decide +kernel)
set_option maxRecDepth 20000 in
theorem gL_law_X5_published : GoodIn wsL_law (wsV RL 143 RX5 yX5_published wsX5_published) := goodIn_app (goodIn_of _ (by decide +kernel)) ggL_law_X5_published
set_option maxRecDepth 20000 in
theorem ggL_law_L_height : GoodIn wsL_law wsL_height := goodIn_ca (goodIn_ca (goodIn_r _ [643, 154, 644, 645, 646, 2, 647, 159, 160, 119, 120, 20, 648, 538, 539, 540, 541, 542, 543, 544, 545, 33, 123, 124, 125, 209, 210, 211, 19, 212, 58, 348, 349, 350, 351, 53, 546, 357, 358, 359, 56, 57, 662, 663, 664, 665, 666, 667, 668, 669, 670, 671, 712, 713, 714, 715, 716, 717, 718, 719, 720] (by decide +kernel) (by decide +kernel)) (goodIn_sub (fun _ h => List.mem_append_right _ h) (by decide +kernel))) (goodIn_sub (fun _ h => List.mem_append_left _ (List.mem_append_left _ (List.mem_append_right _ h))) (by decide +kernel))
set_option maxRecDepth 20000 in
theorem gL_law_L_height : GoodIn wsL_law (va_wsS RL 144 yL_height wsL_height) := goodIn_app (goodIn_of _ (by decide +kernel)) ggL_law_L_height
set_option maxRecDepth 20000 in
theorem ggL_law_X5_height : GoodIn wsL_law wsX5_height := goodIn_r _ [652, 653, 392, 393, 394, 5, 395, 92, 229, 230, 231, 232, 200, 139, 140, 141, 396, 397, 398, 399, 201, 142, 143, 144, 145, 146, 400, 401, 402, 403, 93, 98, 99, 100, 101, 672, 673, 674, 675, 676, 677, 678, 679, 680, 681, 682, 683, 684, 685, 686, 687, 688, 689, 690, 691, 692, 693, 694, 695, 696, 697, 698, 699, 700, 701, 702, 703, 704, 705] (by decide +kernel) (by decide +kernel)
set_option maxRecDepth 20000 in
theorem gL_law_X5_height : GoodIn wsL_law (wsV RL 146 RX5 yX5_height wsX5_height) := goodIn_app (goodIn_of _ (by decide +kernel)) ggL_law_X5_height
set_option maxRecDepth 20000 in
theorem ggL_law_X4_events : GoodIn wsL_law wsX4_events := goodIn_r _ [657, 24, 216, 217, 218, 23, 219, 63, 662, 663, 664, 665, 666, 667, 668, 669, 670, 671, 721, 722] (by decide +kernel) (by decide +kernel)
set_option maxRecDepth 20000 in
theorem gL_law_X4_events : GoodIn wsL_law (wsV RL 147 RX4 yX4_events wsX4_events) := goodIn_app (goodIn_of _ (by decide +kernel)) ggL_law_X4_events
set_option maxRecDepth 20000 in
theorem ggL_law_X5_events : GoodIn wsL_law wsX5_events := goodIn_r _ [661, 146, 228, 672, 673, 674, 675, 676, 677, 678, 679, 680, 681, 682, 683, 684, 685, 686, 687, 688, 689, 690, 691, 692, 693, 694, 695, 696, 697, 698, 699, 700, 701, 702, 703, 704, 705] (by decide +kernel) (by decide +kernel)
set_option maxRecDepth 20000 in
theorem gL_law_X5_events : GoodIn wsL_law (wsV RL 150 RX5 yX5_events wsX5_events) := goodIn_app (goodIn_of _ (by decide +kernel)) ggL_law_X5_events
theorem dL_law_0 : decode cL_law 0 = .ok (.new 8, 3) := by decide +kernel
theorem dL_law_3 : decode cL_law 3 = .ok (.dup, 1) := by decide +kernel
theorem dL_law_4 : decode cL_law 4 = .ok (.invokespecial 74, 3) := by decide +kernel
theorem dL_law_7 : decode cL_law 7 = .ok (.astore_n 1, 1) := by decide +kernel
theorem dL_law_8 : decode cL_law 8 = .ok (.new 75, 3) := by decide +kernel
theorem dL_law_11 : decode cL_law 11 = .ok (.dup, 1) := by decide +kernel
theorem dL_law_12 : decode cL_law 12 = .ok (.invokespecial 77, 3) := by decide +kernel
theorem dL_law_15 : decode cL_law 15 = .ok (.astore_n 2, 1) := by decide +kernel
theorem dL_law_16 : decode cL_law 16 = .ok (.iconst 1, 1) := by decide +kernel
theorem dL_law_17 : decode cL_law 17 = .ok (.newarray .long, 2) := by decide +kernel
theorem dL_law_19 : decode cL_law 19 = .ok (.astore_n 3, 1) := by decide +kernel
theorem dL_law_20 : decode cL_law 20 = .ok (.iconst 0, 1) := by decide +kernel
theorem dL_law_21 : decode cL_law 21 = .ok (.istore 4, 2) := by decide +kernel
theorem dL_law_23 : decode cL_law 23 = .ok (.iload 4, 2) := by decide +kernel
theorem dL_law_25 : decode cL_law 25 = .ok (.aload_n 0, 1) := by decide +kernel
theorem dL_law_26 : decode cL_law 26 = .ok (.arraylength, 1) := by decide +kernel
theorem dL_law_27 : decode cL_law 27 = .ok (.iconst 5, 1) := by decide +kernel
theorem dL_law_28 : decode cL_law 28 = .ok (.isub, 1) := by decide +kernel
theorem dL_law_29 : decode cL_law 29 = .ok (.if_icmp .gt 1382, 3) := by decide +kernel
theorem dL_law_32 : decode cL_law 32 = .ok (.aload_n 0, 1) := by decide +kernel
theorem dL_law_33 : decode cL_law 33 = .ok (.iload 4, 2) := by decide +kernel
theorem dL_law_35 : decode cL_law 35 = .ok (.iaload, 1) := by decide +kernel
theorem dL_law_36 : decode cL_law 36 = .ok (.bipush 31, 2) := by decide +kernel
theorem dL_law_38 : decode cL_law 38 = .ok (.iand, 1) := by decide +kernel
theorem dL_law_39 : decode cL_law 39 = .ok (.tableswitch 1366 0 18 #[89, 157, 237, 317, 409, 501, 549, 605, 689, 740, 753, 821, 917, 1009, 1065, 1121, 1177, 1261, 1353], 89) := by decide +kernel
theorem dL_law_128 : decode cL_law 128 = .ok (.aload_n 1, 1) := by decide +kernel
theorem dL_law_129 : decode cL_law 129 = .ok (.aload_n 0, 1) := by decide +kernel
theorem dL_law_130 : decode cL_law 130 = .ok (.iload 4, 2) := by decide +kernel
theorem dL_law_132 : decode cL_law 132 = .ok (.iconst 1, 1) := by decide +kernel
theorem dL_law_133 : decode cL_law 133 = .ok (.iadd, 1) := by decide +kernel
theorem dL_law_134 : decode cL_law 134 = .ok (.iaload, 1) := by decide +kernel
theorem dL_law_135 : decode cL_law 135 = .ok (.aload_n 0, 1) := by decide +kernel
theorem dL_law_136 : decode cL_law 136 = .ok (.iload 4, 2) := by decide +kernel
theorem dL_law_138 : decode cL_law 138 = .ok (.iconst 2, 1) := by decide +kernel
theorem dL_law_139 : decode cL_law 139 = .ok (.iadd, 1) := by decide +kernel
theorem dL_law_140 : decode cL_law 140 = .ok (.iaload, 1) := by decide +kernel
theorem dL_law_141 : decode cL_law 141 = .ok (.aload_n 3, 1) := by decide +kernel
theorem dL_law_142 : decode cL_law 142 = .ok (.invokestatic 78, 3) := by decide +kernel
theorem dL_law_145 : decode cL_law 145 = .ok (.istore 5, 2) := by decide +kernel
theorem dL_law_147 : decode cL_law 147 = .ok (.aload_n 2, 1) := by decide +kernel
theorem dL_law_148 : decode cL_law 148 = .ok (.aload_n 0, 1) := by decide +kernel
theorem dL_law_149 : decode cL_law 149 = .ok (.iload 4, 2) := by decide +kernel
theorem dL_law_151 : decode cL_law 151 = .ok (.iconst 1, 1) := by decide +kernel
theorem dL_law_152 : decode cL_law 152 = .ok (.iadd, 1) := by decide +kernel
theorem dL_law_153 : decode cL_law 153 = .ok (.iaload, 1) := by decide +kernel
theorem dL_law_154 : decode cL_law 154 = .ok (.aload_n 0, 1) := by decide +kernel
theorem dL_law_155 : decode cL_law 155 = .ok (.iload 4, 2) := by decide +kernel
theorem dL_law_157 : decode cL_law 157 = .ok (.iconst 2, 1) := by decide +kernel
theorem dL_law_158 : decode cL_law 158 = .ok (.iadd, 1) := by decide +kernel
theorem dL_law_159 : decode cL_law 159 = .ok (.iaload, 1) := by decide +kernel
theorem dL_law_160 : decode cL_law 160 = .ok (.invokevirtual 83, 3) := by decide +kernel
theorem dL_law_163 : decode cL_law 163 = .ok (.istore 6, 2) := by decide +kernel
theorem dL_law_165 : decode cL_law 165 = .ok (.aload_n 2, 1) := by decide +kernel
theorem dL_law_166 : decode cL_law 166 = .ok (.invokevirtual 84, 3) := by decide +kernel
theorem dL_law_169 : decode cL_law 169 = .ok (.iload 5, 2) := by decide +kernel
theorem dL_law_171 : decode cL_law 171 = .ok (.if_icmp .eq 5, 3) := by decide +kernel
theorem dL_law_174 : decode cL_law 174 = .ok (.iconst 0, 1) := by decide +kernel
theorem dL_law_175 : decode cL_law 175 = .ok (.ireturn, 1) := by decide +kernel
theorem dL_law_176 : decode cL_law 176 = .ok (.iload 5, 2) := by decide +kernel
theorem dL_law_178 : decode cL_law 178 = .ok (.ifCond .ne 15, 3) := by decide +kernel
theorem dL_law_181 : decode cL_law 181 = .ok (.aload_n 3, 1) := by decide +kernel
theorem dL_law_182 : decode cL_law 182 = .ok (.iconst 0, 1) := by decide +kernel
theorem dL_law_183 : decode cL_law 183 = .ok (.laload, 1) := by decide +kernel
theorem dL_law_184 : decode cL_law 184 = .ok (.iload 6, 2) := by decide +kernel
theorem dL_law_186 : decode cL_law 186 = .ok (.i2l, 1) := by decide +kernel
theorem dL_law_187 : decode cL_law 187 = .ok (.lcmp, 1) := by decide +kernel
theorem dL_law_188 : decode cL_law 188 = .ok (.ifCond .eq 5, 3) := by decide +kernel
theorem dL_law_191 : decode cL_law 191 = .ok (.iconst 0, 1) := by decide +kernel
theorem dL_law_192 : decode cL_law 192 = .ok (.ireturn, 1) := by decide +kernel
theorem dL_law_193 : decode cL_law 193 = .ok (.goto 1212, 3) := by decide +kernel
theorem dL_law_196 : decode cL_law 196 = .ok (.aload_n 1, 1) := by decide +kernel
theorem dL_law_197 : decode cL_law 197 = .ok (.aload_n 0, 1) := by decide +kernel
theorem dL_law_198 : decode cL_law 198 = .ok (.iload 4, 2) := by decide +kernel
theorem dL_law_200 : decode cL_law 200 = .ok (.iconst 1, 1) := by decide +kernel
theorem dL_law_201 : decode cL_law 201 = .ok (.iadd, 1) := by decide +kernel
theorem dL_law_202 : decode cL_law 202 = .ok (.iaload, 1) := by decide +kernel
theorem dL_law_203 : decode cL_law 203 = .ok (.aload_n 0, 1) := by decide +kernel
theorem dL_law_204 : decode cL_law 204 = .ok (.iload 4, 2) := by decide +kernel
theorem dL_law_206 : decode cL_law 206 = .ok (.iconst 2, 1) := by decide +kernel
theorem dL_law_207 : decode cL_law 207 = .ok (.iadd, 1) := by decide +kernel
theorem dL_law_208 : decode cL_law 208 = .ok (.iaload, 1) := by decide +kernel
theorem dL_law_209 : decode cL_law 209 = .ok (.aload_n 0, 1) := by decide +kernel
theorem dL_law_210 : decode cL_law 210 = .ok (.iload 4, 2) := by decide +kernel
theorem dL_law_212 : decode cL_law 212 = .ok (.iconst 3, 1) := by decide +kernel
theorem dL_law_213 : decode cL_law 213 = .ok (.iadd, 1) := by decide +kernel
theorem dL_law_214 : decode cL_law 214 = .ok (.iaload, 1) := by decide +kernel
theorem dL_law_215 : decode cL_law 215 = .ok (.aload_n 3, 1) := by decide +kernel
theorem dL_law_216 : decode cL_law 216 = .ok (.invokestatic 88, 3) := by decide +kernel
theorem dL_law_219 : decode cL_law 219 = .ok (.istore 5, 2) := by decide +kernel
theorem dL_law_221 : decode cL_law 221 = .ok (.aload_n 2, 1) := by decide +kernel
theorem dL_law_222 : decode cL_law 222 = .ok (.aload_n 0, 1) := by decide +kernel
theorem dL_law_223 : decode cL_law 223 = .ok (.iload 4, 2) := by decide +kernel
theorem dL_law_225 : decode cL_law 225 = .ok (.iconst 1, 1) := by decide +kernel
theorem dL_law_226 : decode cL_law 226 = .ok (.iadd, 1) := by decide +kernel
theorem dL_law_227 : decode cL_law 227 = .ok (.iaload, 1) := by decide +kernel
theorem dL_law_228 : decode cL_law 228 = .ok (.aload_n 0, 1) := by decide +kernel
theorem dL_law_229 : decode cL_law 229 = .ok (.iload 4, 2) := by decide +kernel
theorem dL_law_231 : decode cL_law 231 = .ok (.iconst 2, 1) := by decide +kernel
theorem dL_law_232 : decode cL_law 232 = .ok (.iadd, 1) := by decide +kernel
theorem dL_law_233 : decode cL_law 233 = .ok (.iaload, 1) := by decide +kernel
theorem dL_law_234 : decode cL_law 234 = .ok (.aload_n 0, 1) := by decide +kernel
theorem dL_law_235 : decode cL_law 235 = .ok (.iload 4, 2) := by decide +kernel
theorem dL_law_237 : decode cL_law 237 = .ok (.iconst 3, 1) := by decide +kernel
theorem dL_law_238 : decode cL_law 238 = .ok (.iadd, 1) := by decide +kernel
theorem dL_law_239 : decode cL_law 239 = .ok (.iaload, 1) := by decide +kernel
theorem dL_law_240 : decode cL_law 240 = .ok (.invokevirtual 91, 3) := by decide +kernel
theorem dL_law_243 : decode cL_law 243 = .ok (.istore 6, 2) := by decide +kernel
theorem dL_law_245 : decode cL_law 245 = .ok (.aload_n 2, 1) := by decide +kernel
theorem dL_law_246 : decode cL_law 246 = .ok (.invokevirtual 84, 3) := by decide +kernel
theorem dL_law_249 : decode cL_law 249 = .ok (.iload 5, 2) := by decide +kernel
theorem dL_law_251 : decode cL_law 251 = .ok (.if_icmp .eq 5, 3) := by decide +kernel
theorem dL_law_254 : decode cL_law 254 = .ok (.iconst 0, 1) := by decide +kernel
theorem dL_law_255 : decode cL_law 255 = .ok (.ireturn, 1) := by decide +kernel
theorem dL_law_256 : decode cL_law 256 = .ok (.iload 5, 2) := by decide +kernel
theorem dL_law_258 : decode cL_law 258 = .ok (.ifCond .ne 15, 3) := by decide +kernel
theorem dL_law_261 : decode cL_law 261 = .ok (.aload_n 3, 1) := by decide +kernel
theorem dL_law_262 : decode cL_law 262 = .ok (.iconst 0, 1) := by decide +kernel
theorem dL_law_263 : decode cL_law 263 = .ok (.laload, 1) := by decide +kernel
theorem dL_law_264 : decode cL_law 264 = .ok (.iload 6, 2) := by decide +kernel
theorem dL_law_266 : decode cL_law 266 = .ok (.i2l, 1) := by decide +kernel
theorem dL_law_267 : decode cL_law 267 = .ok (.lcmp, 1) := by decide +kernel
theorem dL_law_268 : decode cL_law 268 = .ok (.ifCond .eq 5, 3) := by decide +kernel
theorem dL_law_271 : decode cL_law 271 = .ok (.iconst 0, 1) := by decide +kernel
theorem dL_law_272 : decode cL_law 272 = .ok (.ireturn, 1) := by decide +kernel
theorem dL_law_273 : decode cL_law 273 = .ok (.goto 1132, 3) := by decide +kernel
theorem dL_law_276 : decode cL_law 276 = .ok (.aload_n 1, 1) := by decide +kernel
theorem dL_law_277 : decode cL_law 277 = .ok (.aload_n 0, 1) := by decide +kernel
theorem dL_law_278 : decode cL_law 278 = .ok (.iload 4, 2) := by decide +kernel
theorem dL_law_280 : decode cL_law 280 = .ok (.iconst 1, 1) := by decide +kernel
theorem dL_law_281 : decode cL_law 281 = .ok (.iadd, 1) := by decide +kernel
theorem dL_law_282 : decode cL_law 282 = .ok (.iaload, 1) := by decide +kernel
theorem dL_law_283 : decode cL_law 283 = .ok (.aload_n 0, 1) := by decide +kernel
theorem dL_law_284 : decode cL_law 284 = .ok (.iload 4, 2) := by decide +kernel
theorem dL_law_286 : decode cL_law 286 = .ok (.iconst 2, 1) := by decide +kernel
theorem dL_law_287 : decode cL_law 287 = .ok (.iadd, 1) := by decide +kernel
theorem dL_law_288 : decode cL_law 288 = .ok (.iaload, 1) := by decide +kernel
theorem dL_law_289 : decode cL_law 289 = .ok (.aload_n 0, 1) := by decide +kernel
theorem dL_law_290 : decode cL_law 290 = .ok (.iload 4, 2) := by decide +kernel
theorem dL_law_292 : decode cL_law 292 = .ok (.iconst 3, 1) := by decide +kernel
theorem dL_law_293 : decode cL_law 293 = .ok (.iadd, 1) := by decide +kernel
theorem dL_law_294 : decode cL_law 294 = .ok (.iaload, 1) := by decide +kernel
theorem dL_law_295 : decode cL_law 295 = .ok (.aload_n 3, 1) := by decide +kernel
theorem dL_law_296 : decode cL_law 296 = .ok (.invokestatic 92, 3) := by decide +kernel
theorem dL_law_299 : decode cL_law 299 = .ok (.istore 5, 2) := by decide +kernel
theorem dL_law_301 : decode cL_law 301 = .ok (.aload_n 2, 1) := by decide +kernel
theorem dL_law_302 : decode cL_law 302 = .ok (.aload_n 0, 1) := by decide +kernel
theorem dL_law_303 : decode cL_law 303 = .ok (.iload 4, 2) := by decide +kernel
theorem dL_law_305 : decode cL_law 305 = .ok (.iconst 1, 1) := by decide +kernel
theorem dL_law_306 : decode cL_law 306 = .ok (.iadd, 1) := by decide +kernel
theorem dL_law_307 : decode cL_law 307 = .ok (.iaload, 1) := by decide +kernel
theorem dL_law_308 : decode cL_law 308 = .ok (.aload_n 0, 1) := by decide +kernel
theorem dL_law_309 : decode cL_law 309 = .ok (.iload 4, 2) := by decide +kernel
theorem dL_law_311 : decode cL_law 311 = .ok (.iconst 2, 1) := by decide +kernel
theorem dL_law_312 : decode cL_law 312 = .ok (.iadd, 1) := by decide +kernel
theorem dL_law_313 : decode cL_law 313 = .ok (.iaload, 1) := by decide +kernel
theorem dL_law_314 : decode cL_law 314 = .ok (.aload_n 0, 1) := by decide +kernel
theorem dL_law_315 : decode cL_law 315 = .ok (.iload 4, 2) := by decide +kernel
theorem dL_law_317 : decode cL_law 317 = .ok (.iconst 3, 1) := by decide +kernel
theorem dL_law_318 : decode cL_law 318 = .ok (.iadd, 1) := by decide +kernel
theorem dL_law_319 : decode cL_law 319 = .ok (.iaload, 1) := by decide +kernel
theorem dL_law_320 : decode cL_law 320 = .ok (.invokevirtual 94, 3) := by decide +kernel
theorem dL_law_323 : decode cL_law 323 = .ok (.istore 6, 2) := by decide +kernel
theorem dL_law_325 : decode cL_law 325 = .ok (.aload_n 2, 1) := by decide +kernel
theorem dL_law_326 : decode cL_law 326 = .ok (.invokevirtual 84, 3) := by decide +kernel
theorem dL_law_329 : decode cL_law 329 = .ok (.iload 5, 2) := by decide +kernel
theorem dL_law_331 : decode cL_law 331 = .ok (.if_icmp .eq 5, 3) := by decide +kernel
theorem dL_law_334 : decode cL_law 334 = .ok (.iconst 0, 1) := by decide +kernel
theorem dL_law_335 : decode cL_law 335 = .ok (.ireturn, 1) := by decide +kernel
theorem dL_law_336 : decode cL_law 336 = .ok (.iload 5, 2) := by decide +kernel
theorem dL_law_338 : decode cL_law 338 = .ok (.ifCond .ne 15, 3) := by decide +kernel
theorem dL_law_341 : decode cL_law 341 = .ok (.aload_n 3, 1) := by decide +kernel
theorem dL_law_342 : decode cL_law 342 = .ok (.iconst 0, 1) := by decide +kernel
theorem dL_law_343 : decode cL_law 343 = .ok (.laload, 1) := by decide +kernel
theorem dL_law_344 : decode cL_law 344 = .ok (.iload 6, 2) := by decide +kernel
theorem dL_law_346 : decode cL_law 346 = .ok (.i2l, 1) := by decide +kernel
theorem dL_law_347 : decode cL_law 347 = .ok (.lcmp, 1) := by decide +kernel
theorem dL_law_348 : decode cL_law 348 = .ok (.ifCond .eq 5, 3) := by decide +kernel
theorem dL_law_351 : decode cL_law 351 = .ok (.iconst 0, 1) := by decide +kernel
theorem dL_law_352 : decode cL_law 352 = .ok (.ireturn, 1) := by decide +kernel
theorem dL_law_353 : decode cL_law 353 = .ok (.goto 1052, 3) := by decide +kernel
theorem dL_law_356 : decode cL_law 356 = .ok (.aload_n 1, 1) := by decide +kernel
theorem dL_law_357 : decode cL_law 357 = .ok (.aload_n 0, 1) := by decide +kernel
theorem dL_law_358 : decode cL_law 358 = .ok (.iload 4, 2) := by decide +kernel
theorem dL_law_360 : decode cL_law 360 = .ok (.iconst 1, 1) := by decide +kernel
theorem dL_law_361 : decode cL_law 361 = .ok (.iadd, 1) := by decide +kernel
theorem dL_law_362 : decode cL_law 362 = .ok (.iaload, 1) := by decide +kernel
theorem dL_law_363 : decode cL_law 363 = .ok (.aload_n 0, 1) := by decide +kernel
theorem dL_law_364 : decode cL_law 364 = .ok (.iload 4, 2) := by decide +kernel
theorem dL_law_366 : decode cL_law 366 = .ok (.iconst 2, 1) := by decide +kernel
theorem dL_law_367 : decode cL_law 367 = .ok (.iadd, 1) := by decide +kernel
theorem dL_law_368 : decode cL_law 368 = .ok (.iaload, 1) := by decide +kernel
theorem dL_law_369 : decode cL_law 369 = .ok (.aload_n 0, 1) := by decide +kernel
theorem dL_law_370 : decode cL_law 370 = .ok (.iload 4, 2) := by decide +kernel
theorem dL_law_372 : decode cL_law 372 = .ok (.iconst 3, 1) := by decide +kernel
theorem dL_law_373 : decode cL_law 373 = .ok (.iadd, 1) := by decide +kernel
theorem dL_law_374 : decode cL_law 374 = .ok (.iaload, 1) := by decide +kernel
theorem dL_law_375 : decode cL_law 375 = .ok (.aload_n 0, 1) := by decide +kernel
theorem dL_law_376 : decode cL_law 376 = .ok (.iload 4, 2) := by decide +kernel
theorem dL_law_378 : decode cL_law 378 = .ok (.iconst 4, 1) := by decide +kernel
theorem dL_law_379 : decode cL_law 379 = .ok (.iadd, 1) := by decide +kernel
theorem dL_law_380 : decode cL_law 380 = .ok (.iaload, 1) := by decide +kernel
theorem dL_law_381 : decode cL_law 381 = .ok (.aload_n 3, 1) := by decide +kernel
theorem dL_law_382 : decode cL_law 382 = .ok (.invokestatic 95, 3) := by decide +kernel
theorem dL_law_385 : decode cL_law 385 = .ok (.istore 5, 2) := by decide +kernel
theorem dL_law_387 : decode cL_law 387 = .ok (.aload_n 2, 1) := by decide +kernel
theorem dL_law_388 : decode cL_law 388 = .ok (.aload_n 0, 1) := by decide +kernel
theorem dL_law_389 : decode cL_law 389 = .ok (.iload 4, 2) := by decide +kernel
theorem dL_law_391 : decode cL_law 391 = .ok (.iconst 1, 1) := by decide +kernel
theorem dL_law_392 : decode cL_law 392 = .ok (.iadd, 1) := by decide +kernel
theorem dL_law_393 : decode cL_law 393 = .ok (.iaload, 1) := by decide +kernel
theorem dL_law_394 : decode cL_law 394 = .ok (.aload_n 0, 1) := by decide +kernel
theorem dL_law_395 : decode cL_law 395 = .ok (.iload 4, 2) := by decide +kernel
theorem dL_law_397 : decode cL_law 397 = .ok (.iconst 2, 1) := by decide +kernel
theorem dL_law_398 : decode cL_law 398 = .ok (.iadd, 1) := by decide +kernel
theorem dL_law_399 : decode cL_law 399 = .ok (.iaload, 1) := by decide +kernel
theorem dL_law_400 : decode cL_law 400 = .ok (.aload_n 0, 1) := by decide +kernel
theorem dL_law_401 : decode cL_law 401 = .ok (.iload 4, 2) := by decide +kernel
theorem dL_law_403 : decode cL_law 403 = .ok (.iconst 3, 1) := by decide +kernel
theorem dL_law_404 : decode cL_law 404 = .ok (.iadd, 1) := by decide +kernel
theorem dL_law_405 : decode cL_law 405 = .ok (.iaload, 1) := by decide +kernel
theorem dL_law_406 : decode cL_law 406 = .ok (.aload_n 0, 1) := by decide +kernel
theorem dL_law_407 : decode cL_law 407 = .ok (.iload 4, 2) := by decide +kernel
theorem dL_law_409 : decode cL_law 409 = .ok (.iconst 4, 1) := by decide +kernel
theorem dL_law_410 : decode cL_law 410 = .ok (.iadd, 1) := by decide +kernel
theorem dL_law_411 : decode cL_law 411 = .ok (.iaload, 1) := by decide +kernel
theorem dL_law_412 : decode cL_law 412 = .ok (.invokevirtual 98, 3) := by decide +kernel
theorem dL_law_415 : decode cL_law 415 = .ok (.istore 6, 2) := by decide +kernel
theorem dL_law_417 : decode cL_law 417 = .ok (.aload_n 2, 1) := by decide +kernel
theorem dL_law_418 : decode cL_law 418 = .ok (.invokevirtual 84, 3) := by decide +kernel
theorem dL_law_421 : decode cL_law 421 = .ok (.iload 5, 2) := by decide +kernel
theorem dL_law_423 : decode cL_law 423 = .ok (.if_icmp .eq 5, 3) := by decide +kernel
theorem dL_law_426 : decode cL_law 426 = .ok (.iconst 0, 1) := by decide +kernel
theorem dL_law_427 : decode cL_law 427 = .ok (.ireturn, 1) := by decide +kernel
theorem dL_law_428 : decode cL_law 428 = .ok (.iload 5, 2) := by decide +kernel
theorem dL_law_430 : decode cL_law 430 = .ok (.ifCond .ne 15, 3) := by decide +kernel
theorem dL_law_433 : decode cL_law 433 = .ok (.aload_n 3, 1) := by decide +kernel
theorem dL_law_434 : decode cL_law 434 = .ok (.iconst 0, 1) := by decide +kernel
theorem dL_law_435 : decode cL_law 435 = .ok (.laload, 1) := by decide +kernel
theorem dL_law_436 : decode cL_law 436 = .ok (.iload 6, 2) := by decide +kernel
theorem dL_law_438 : decode cL_law 438 = .ok (.i2l, 1) := by decide +kernel
theorem dL_law_439 : decode cL_law 439 = .ok (.lcmp, 1) := by decide +kernel
theorem dL_law_440 : decode cL_law 440 = .ok (.ifCond .eq 5, 3) := by decide +kernel
theorem dL_law_443 : decode cL_law 443 = .ok (.iconst 0, 1) := by decide +kernel
theorem dL_law_444 : decode cL_law 444 = .ok (.ireturn, 1) := by decide +kernel
theorem dL_law_445 : decode cL_law 445 = .ok (.goto 960, 3) := by decide +kernel
theorem dL_law_448 : decode cL_law 448 = .ok (.aload_n 1, 1) := by decide +kernel
theorem dL_law_449 : decode cL_law 449 = .ok (.aload_n 0, 1) := by decide +kernel
theorem dL_law_450 : decode cL_law 450 = .ok (.iload 4, 2) := by decide +kernel
theorem dL_law_452 : decode cL_law 452 = .ok (.iconst 1, 1) := by decide +kernel
theorem dL_law_453 : decode cL_law 453 = .ok (.iadd, 1) := by decide +kernel
theorem dL_law_454 : decode cL_law 454 = .ok (.iaload, 1) := by decide +kernel
theorem dL_law_455 : decode cL_law 455 = .ok (.aload_n 0, 1) := by decide +kernel
theorem dL_law_456 : decode cL_law 456 = .ok (.iload 4, 2) := by decide +kernel
theorem dL_law_458 : decode cL_law 458 = .ok (.iconst 2, 1) := by decide +kernel
theorem dL_law_459 : decode cL_law 459 = .ok (.iadd, 1) := by decide +kernel
theorem dL_law_460 : decode cL_law 460 = .ok (.iaload, 1) := by decide +kernel
theorem dL_law_461 : decode cL_law 461 = .ok (.aload_n 0, 1) := by decide +kernel
theorem dL_law_462 : decode cL_law 462 = .ok (.iload 4, 2) := by decide +kernel
theorem dL_law_464 : decode cL_law 464 = .ok (.iconst 3, 1) := by decide +kernel
theorem dL_law_465 : decode cL_law 465 = .ok (.iadd, 1) := by decide +kernel
theorem dL_law_466 : decode cL_law 466 = .ok (.iaload, 1) := by decide +kernel
theorem dL_law_467 : decode cL_law 467 = .ok (.aload_n 0, 1) := by decide +kernel
theorem dL_law_468 : decode cL_law 468 = .ok (.iload 4, 2) := by decide +kernel
theorem dL_law_470 : decode cL_law 470 = .ok (.iconst 4, 1) := by decide +kernel
theorem dL_law_471 : decode cL_law 471 = .ok (.iadd, 1) := by decide +kernel
theorem dL_law_472 : decode cL_law 472 = .ok (.iaload, 1) := by decide +kernel
theorem dL_law_473 : decode cL_law 473 = .ok (.aload_n 3, 1) := by decide +kernel
theorem dL_law_474 : decode cL_law 474 = .ok (.invokestatic 99, 3) := by decide +kernel
theorem dL_law_477 : decode cL_law 477 = .ok (.istore 5, 2) := by decide +kernel
theorem dL_law_479 : decode cL_law 479 = .ok (.aload_n 2, 1) := by decide +kernel
theorem dL_law_480 : decode cL_law 480 = .ok (.aload_n 0, 1) := by decide +kernel
theorem dL_law_481 : decode cL_law 481 = .ok (.iload 4, 2) := by decide +kernel
theorem dL_law_483 : decode cL_law 483 = .ok (.iconst 1, 1) := by decide +kernel
theorem dL_law_484 : decode cL_law 484 = .ok (.iadd, 1) := by decide +kernel
theorem dL_law_485 : decode cL_law 485 = .ok (.iaload, 1) := by decide +kernel
theorem dL_law_486 : decode cL_law 486 = .ok (.aload_n 0, 1) := by decide +kernel
theorem dL_law_487 : decode cL_law 487 = .ok (.iload 4, 2) := by decide +kernel
theorem dL_law_489 : decode cL_law 489 = .ok (.iconst 2, 1) := by decide +kernel
theorem dL_law_490 : decode cL_law 490 = .ok (.iadd, 1) := by decide +kernel
theorem dL_law_491 : decode cL_law 491 = .ok (.iaload, 1) := by decide +kernel
theorem dL_law_492 : decode cL_law 492 = .ok (.aload_n 0, 1) := by decide +kernel
theorem dL_law_493 : decode cL_law 493 = .ok (.iload 4, 2) := by decide +kernel
theorem dL_law_495 : decode cL_law 495 = .ok (.iconst 3, 1) := by decide +kernel
theorem dL_law_496 : decode cL_law 496 = .ok (.iadd, 1) := by decide +kernel
theorem dL_law_497 : decode cL_law 497 = .ok (.iaload, 1) := by decide +kernel
theorem dL_law_498 : decode cL_law 498 = .ok (.aload_n 0, 1) := by decide +kernel
theorem dL_law_499 : decode cL_law 499 = .ok (.iload 4, 2) := by decide +kernel
theorem dL_law_501 : decode cL_law 501 = .ok (.iconst 4, 1) := by decide +kernel
theorem dL_law_502 : decode cL_law 502 = .ok (.iadd, 1) := by decide +kernel
theorem dL_law_503 : decode cL_law 503 = .ok (.iaload, 1) := by decide +kernel
theorem dL_law_504 : decode cL_law 504 = .ok (.invokevirtual 101, 3) := by decide +kernel
theorem dL_law_507 : decode cL_law 507 = .ok (.istore 6, 2) := by decide +kernel
theorem dL_law_509 : decode cL_law 509 = .ok (.aload_n 2, 1) := by decide +kernel
theorem dL_law_510 : decode cL_law 510 = .ok (.invokevirtual 84, 3) := by decide +kernel
theorem dL_law_513 : decode cL_law 513 = .ok (.iload 5, 2) := by decide +kernel
theorem dL_law_515 : decode cL_law 515 = .ok (.if_icmp .eq 5, 3) := by decide +kernel
theorem dL_law_518 : decode cL_law 518 = .ok (.iconst 0, 1) := by decide +kernel
theorem dL_law_519 : decode cL_law 519 = .ok (.ireturn, 1) := by decide +kernel
theorem dL_law_520 : decode cL_law 520 = .ok (.iload 5, 2) := by decide +kernel
theorem dL_law_522 : decode cL_law 522 = .ok (.ifCond .ne 15, 3) := by decide +kernel
theorem dL_law_525 : decode cL_law 525 = .ok (.aload_n 3, 1) := by decide +kernel
theorem dL_law_526 : decode cL_law 526 = .ok (.iconst 0, 1) := by decide +kernel
theorem dL_law_527 : decode cL_law 527 = .ok (.laload, 1) := by decide +kernel
theorem dL_law_528 : decode cL_law 528 = .ok (.iload 6, 2) := by decide +kernel
theorem dL_law_530 : decode cL_law 530 = .ok (.i2l, 1) := by decide +kernel
theorem dL_law_531 : decode cL_law 531 = .ok (.lcmp, 1) := by decide +kernel
theorem dL_law_532 : decode cL_law 532 = .ok (.ifCond .eq 5, 3) := by decide +kernel
theorem dL_law_535 : decode cL_law 535 = .ok (.iconst 0, 1) := by decide +kernel
theorem dL_law_536 : decode cL_law 536 = .ok (.ireturn, 1) := by decide +kernel
theorem dL_law_537 : decode cL_law 537 = .ok (.goto 868, 3) := by decide +kernel
theorem dL_law_540 : decode cL_law 540 = .ok (.aload_n 1, 1) := by decide +kernel
theorem dL_law_541 : decode cL_law 541 = .ok (.aload_n 0, 1) := by decide +kernel
theorem dL_law_542 : decode cL_law 542 = .ok (.iload 4, 2) := by decide +kernel
theorem dL_law_544 : decode cL_law 544 = .ok (.iconst 1, 1) := by decide +kernel
theorem dL_law_545 : decode cL_law 545 = .ok (.iadd, 1) := by decide +kernel
theorem dL_law_546 : decode cL_law 546 = .ok (.iaload, 1) := by decide +kernel
theorem dL_law_547 : decode cL_law 547 = .ok (.aload_n 0, 1) := by decide +kernel
theorem dL_law_548 : decode cL_law 548 = .ok (.iload 4, 2) := by decide +kernel
theorem dL_law_550 : decode cL_law 550 = .ok (.iconst 2, 1) := by decide +kernel
theorem dL_law_551 : decode cL_law 551 = .ok (.iadd, 1) := by decide +kernel
theorem dL_law_552 : decode cL_law 552 = .ok (.iaload, 1) := by decide +kernel
theorem dL_law_553 : decode cL_law 553 = .ok (.invokestatic 102, 3) := by decide +kernel
theorem dL_law_556 : decode cL_law 556 = .ok (.istore 5, 2) := by decide +kernel
theorem dL_law_558 : decode cL_law 558 = .ok (.aload_n 2, 1) := by decide +kernel
theorem dL_law_559 : decode cL_law 559 = .ok (.aload_n 0, 1) := by decide +kernel
theorem dL_law_560 : decode cL_law 560 = .ok (.iload 4, 2) := by decide +kernel
theorem dL_law_562 : decode cL_law 562 = .ok (.iconst 1, 1) := by decide +kernel
theorem dL_law_563 : decode cL_law 563 = .ok (.iadd, 1) := by decide +kernel
theorem dL_law_564 : decode cL_law 564 = .ok (.iaload, 1) := by decide +kernel
theorem dL_law_565 : decode cL_law 565 = .ok (.aload_n 0, 1) := by decide +kernel
theorem dL_law_566 : decode cL_law 566 = .ok (.iload 4, 2) := by decide +kernel
theorem dL_law_568 : decode cL_law 568 = .ok (.iconst 2, 1) := by decide +kernel
theorem dL_law_569 : decode cL_law 569 = .ok (.iadd, 1) := by decide +kernel
theorem dL_law_570 : decode cL_law 570 = .ok (.iaload, 1) := by decide +kernel
theorem dL_law_571 : decode cL_law 571 = .ok (.invokevirtual 105, 3) := by decide +kernel
theorem dL_law_574 : decode cL_law 574 = .ok (.aload_n 2, 1) := by decide +kernel
theorem dL_law_575 : decode cL_law 575 = .ok (.invokevirtual 84, 3) := by decide +kernel
theorem dL_law_578 : decode cL_law 578 = .ok (.iload 5, 2) := by decide +kernel
theorem dL_law_580 : decode cL_law 580 = .ok (.if_icmp .eq 5, 3) := by decide +kernel
theorem dL_law_583 : decode cL_law 583 = .ok (.iconst 0, 1) := by decide +kernel
theorem dL_law_584 : decode cL_law 584 = .ok (.ireturn, 1) := by decide +kernel
theorem dL_law_585 : decode cL_law 585 = .ok (.goto 820, 3) := by decide +kernel
theorem dL_law_588 : decode cL_law 588 = .ok (.aload_n 1, 1) := by decide +kernel
theorem dL_law_589 : decode cL_law 589 = .ok (.aload_n 0, 1) := by decide +kernel
theorem dL_law_590 : decode cL_law 590 = .ok (.iload 4, 2) := by decide +kernel
theorem dL_law_592 : decode cL_law 592 = .ok (.iconst 1, 1) := by decide +kernel
theorem dL_law_593 : decode cL_law 593 = .ok (.iadd, 1) := by decide +kernel
theorem dL_law_594 : decode cL_law 594 = .ok (.iaload, 1) := by decide +kernel
theorem dL_law_595 : decode cL_law 595 = .ok (.aload_n 3, 1) := by decide +kernel
theorem dL_law_596 : decode cL_law 596 = .ok (.invokestatic 106, 3) := by decide +kernel
theorem dL_law_599 : decode cL_law 599 = .ok (.istore 5, 2) := by decide +kernel
theorem dL_law_601 : decode cL_law 601 = .ok (.aload_n 2, 1) := by decide +kernel
theorem dL_law_602 : decode cL_law 602 = .ok (.aload_n 0, 1) := by decide +kernel
theorem dL_law_603 : decode cL_law 603 = .ok (.iload 4, 2) := by decide +kernel
theorem dL_law_605 : decode cL_law 605 = .ok (.iconst 1, 1) := by decide +kernel
theorem dL_law_606 : decode cL_law 606 = .ok (.iadd, 1) := by decide +kernel
theorem dL_law_607 : decode cL_law 607 = .ok (.iaload, 1) := by decide +kernel
theorem dL_law_608 : decode cL_law 608 = .ok (.invokevirtual 109, 3) := by decide +kernel
theorem dL_law_611 : decode cL_law 611 = .ok (.istore 6, 2) := by decide +kernel
theorem dL_law_613 : decode cL_law 613 = .ok (.aload_n 2, 1) := by decide +kernel
theorem dL_law_614 : decode cL_law 614 = .ok (.invokevirtual 84, 3) := by decide +kernel
theorem dL_law_617 : decode cL_law 617 = .ok (.iload 5, 2) := by decide +kernel
theorem dL_law_619 : decode cL_law 619 = .ok (.if_icmp .eq 5, 3) := by decide +kernel
theorem dL_law_622 : decode cL_law 622 = .ok (.iconst 0, 1) := by decide +kernel
theorem dL_law_623 : decode cL_law 623 = .ok (.ireturn, 1) := by decide +kernel
theorem dL_law_624 : decode cL_law 624 = .ok (.iload 5, 2) := by decide +kernel
theorem dL_law_626 : decode cL_law 626 = .ok (.ifCond .ne 15, 3) := by decide +kernel
theorem dL_law_629 : decode cL_law 629 = .ok (.aload_n 3, 1) := by decide +kernel
theorem dL_law_630 : decode cL_law 630 = .ok (.iconst 0, 1) := by decide +kernel
theorem dL_law_631 : decode cL_law 631 = .ok (.laload, 1) := by decide +kernel
theorem dL_law_632 : decode cL_law 632 = .ok (.iload 6, 2) := by decide +kernel
theorem dL_law_634 : decode cL_law 634 = .ok (.i2l, 1) := by decide +kernel
theorem dL_law_635 : decode cL_law 635 = .ok (.lcmp, 1) := by decide +kernel
theorem dL_law_636 : decode cL_law 636 = .ok (.ifCond .eq 5, 3) := by decide +kernel
theorem dL_law_639 : decode cL_law 639 = .ok (.iconst 0, 1) := by decide +kernel
theorem dL_law_640 : decode cL_law 640 = .ok (.ireturn, 1) := by decide +kernel
theorem dL_law_641 : decode cL_law 641 = .ok (.goto 764, 3) := by decide +kernel
theorem dL_law_644 : decode cL_law 644 = .ok (.aload_n 1, 1) := by decide +kernel
theorem dL_law_645 : decode cL_law 645 = .ok (.aload_n 0, 1) := by decide +kernel
theorem dL_law_646 : decode cL_law 646 = .ok (.iload 4, 2) := by decide +kernel
theorem dL_law_648 : decode cL_law 648 = .ok (.iconst 1, 1) := by decide +kernel
theorem dL_law_649 : decode cL_law 649 = .ok (.iadd, 1) := by decide +kernel
theorem dL_law_650 : decode cL_law 650 = .ok (.iaload, 1) := by decide +kernel
theorem dL_law_651 : decode cL_law 651 = .ok (.aload_n 0, 1) := by decide +kernel
theorem dL_law_652 : decode cL_law 652 = .ok (.iload 4, 2) := by decide +kernel
theorem dL_law_654 : decode cL_law 654 = .ok (.iconst 2, 1) := by decide +kernel
theorem dL_law_655 : decode cL_law 655 = .ok (.iadd, 1) := by decide +kernel
theorem dL_law_656 : decode cL_law 656 = .ok (.iaload, 1) := by decide +kernel
theorem dL_law_657 : decode cL_law 657 = .ok (.ifCond .eq 7, 3) := by decide +kernel
theorem dL_law_660 : decode cL_law 660 = .ok (.iconst 1, 1) := by decide +kernel
theorem dL_law_661 : decode cL_law 661 = .ok (.goto 4, 3) := by decide +kernel
theorem dL_law_664 : decode cL_law 664 = .ok (.iconst 0, 1) := by decide +kernel
theorem dL_law_665 : decode cL_law 665 = .ok (.aload_n 3, 1) := by decide +kernel
theorem dL_law_666 : decode cL_law 666 = .ok (.invokestatic 110, 3) := by decide +kernel
theorem dL_law_669 : decode cL_law 669 = .ok (.istore 5, 2) := by decide +kernel
theorem dL_law_671 : decode cL_law 671 = .ok (.aload_n 2, 1) := by decide +kernel
theorem dL_law_672 : decode cL_law 672 = .ok (.aload_n 0, 1) := by decide +kernel
theorem dL_law_673 : decode cL_law 673 = .ok (.iload 4, 2) := by decide +kernel
theorem dL_law_675 : decode cL_law 675 = .ok (.iconst 1, 1) := by decide +kernel
theorem dL_law_676 : decode cL_law 676 = .ok (.iadd, 1) := by decide +kernel
theorem dL_law_677 : decode cL_law 677 = .ok (.iaload, 1) := by decide +kernel
theorem dL_law_678 : decode cL_law 678 = .ok (.aload_n 0, 1) := by decide +kernel
theorem dL_law_679 : decode cL_law 679 = .ok (.iload 4, 2) := by decide +kernel
theorem dL_law_681 : decode cL_law 681 = .ok (.iconst 2, 1) := by decide +kernel
theorem dL_law_682 : decode cL_law 682 = .ok (.iadd, 1) := by decide +kernel
theorem dL_law_683 : decode cL_law 683 = .ok (.iaload, 1) := by decide +kernel
theorem dL_law_684 : decode cL_law 684 = .ok (.ifCond .eq 7, 3) := by decide +kernel
theorem dL_law_687 : decode cL_law 687 = .ok (.iconst 1, 1) := by decide +kernel
theorem dL_law_688 : decode cL_law 688 = .ok (.goto 4, 3) := by decide +kernel
theorem dL_law_691 : decode cL_law 691 = .ok (.iconst 0, 1) := by decide +kernel
theorem dL_law_692 : decode cL_law 692 = .ok (.invokevirtual 113, 3) := by decide +kernel
theorem dL_law_695 : decode cL_law 695 = .ok (.istore 6, 2) := by decide +kernel
theorem dL_law_697 : decode cL_law 697 = .ok (.aload_n 2, 1) := by decide +kernel
theorem dL_law_698 : decode cL_law 698 = .ok (.invokevirtual 84, 3) := by decide +kernel
theorem dL_law_701 : decode cL_law 701 = .ok (.iload 5, 2) := by decide +kernel
theorem dL_law_703 : decode cL_law 703 = .ok (.if_icmp .eq 5, 3) := by decide +kernel
theorem dL_law_706 : decode cL_law 706 = .ok (.iconst 0, 1) := by decide +kernel
theorem dL_law_707 : decode cL_law 707 = .ok (.ireturn, 1) := by decide +kernel
theorem dL_law_708 : decode cL_law 708 = .ok (.iload 5, 2) := by decide +kernel
theorem dL_law_710 : decode cL_law 710 = .ok (.ifCond .ne 15, 3) := by decide +kernel
theorem dL_law_713 : decode cL_law 713 = .ok (.aload_n 3, 1) := by decide +kernel
theorem dL_law_714 : decode cL_law 714 = .ok (.iconst 0, 1) := by decide +kernel
theorem dL_law_715 : decode cL_law 715 = .ok (.laload, 1) := by decide +kernel
theorem dL_law_716 : decode cL_law 716 = .ok (.iload 6, 2) := by decide +kernel
theorem dL_law_718 : decode cL_law 718 = .ok (.i2l, 1) := by decide +kernel
theorem dL_law_719 : decode cL_law 719 = .ok (.lcmp, 1) := by decide +kernel
theorem dL_law_720 : decode cL_law 720 = .ok (.ifCond .eq 5, 3) := by decide +kernel
theorem dL_law_723 : decode cL_law 723 = .ok (.iconst 0, 1) := by decide +kernel
theorem dL_law_724 : decode cL_law 724 = .ok (.ireturn, 1) := by decide +kernel
theorem dL_law_725 : decode cL_law 725 = .ok (.goto 680, 3) := by decide +kernel
theorem dL_law_728 : decode cL_law 728 = .ok (.aload_n 1, 1) := by decide +kernel
theorem dL_law_729 : decode cL_law 729 = .ok (.aload_n 3, 1) := by decide +kernel
theorem dL_law_730 : decode cL_law 730 = .ok (.invokestatic 114, 3) := by decide +kernel
theorem dL_law_733 : decode cL_law 733 = .ok (.istore 5, 2) := by decide +kernel
theorem dL_law_735 : decode cL_law 735 = .ok (.aload_n 2, 1) := by decide +kernel
theorem dL_law_736 : decode cL_law 736 = .ok (.invokevirtual 117, 3) := by decide +kernel
theorem dL_law_739 : decode cL_law 739 = .ok (.istore 6, 2) := by decide +kernel
theorem dL_law_741 : decode cL_law 741 = .ok (.aload_n 2, 1) := by decide +kernel
theorem dL_law_742 : decode cL_law 742 = .ok (.invokevirtual 84, 3) := by decide +kernel
theorem dL_law_745 : decode cL_law 745 = .ok (.iload 5, 2) := by decide +kernel
theorem dL_law_747 : decode cL_law 747 = .ok (.if_icmp .eq 5, 3) := by decide +kernel
theorem dL_law_750 : decode cL_law 750 = .ok (.iconst 0, 1) := by decide +kernel
theorem dL_law_751 : decode cL_law 751 = .ok (.ireturn, 1) := by decide +kernel
theorem dL_law_752 : decode cL_law 752 = .ok (.iload 5, 2) := by decide +kernel
theorem dL_law_754 : decode cL_law 754 = .ok (.ifCond .ne 22, 3) := by decide +kernel
theorem dL_law_757 : decode cL_law 757 = .ok (.aload_n 3, 1) := by decide +kernel
theorem dL_law_758 : decode cL_law 758 = .ok (.iconst 0, 1) := by decide +kernel
theorem dL_law_759 : decode cL_law 759 = .ok (.laload, 1) := by decide +kernel
theorem dL_law_760 : decode cL_law 760 = .ok (.iload 6, 2) := by decide +kernel
theorem dL_law_762 : decode cL_law 762 = .ok (.ifCond .eq 7, 3) := by decide +kernel
theorem dL_law_765 : decode cL_law 765 = .ok (.lconst 1, 1) := by decide +kernel
theorem dL_law_766 : decode cL_law 766 = .ok (.goto 4, 3) := by decide +kernel
theorem dL_law_769 : decode cL_law 769 = .ok (.lconst 0, 1) := by decide +kernel
theorem dL_law_770 : decode cL_law 770 = .ok (.lcmp, 1) := by decide +kernel
theorem dL_law_771 : decode cL_law 771 = .ok (.ifCond .eq 5, 3) := by decide +kernel
theorem dL_law_774 : decode cL_law 774 = .ok (.iconst 0, 1) := by decide +kernel
theorem dL_law_775 : decode cL_law 775 = .ok (.ireturn, 1) := by decide +kernel
theorem dL_law_776 : decode cL_law 776 = .ok (.goto 629, 3) := by decide +kernel
theorem dL_law_779 : decode cL_law 779 = .ok (.aload_n 1, 1) := by decide +kernel
theorem dL_law_780 : decode cL_law 780 = .ok (.invokevirtual 118, 3) := by decide +kernel
theorem dL_law_783 : decode cL_law 783 = .ok (.aload_n 2, 1) := by decide +kernel
theorem dL_law_784 : decode cL_law 784 = .ok (.invokevirtual 121, 3) := by decide +kernel
theorem dL_law_787 : decode cL_law 787 = .ok (.if_icmp .eq 618, 3) := by decide +kernel
theorem dL_law_790 : decode cL_law 790 = .ok (.iconst 0, 1) := by decide +kernel
theorem dL_law_791 : decode cL_law 791 = .ok (.ireturn, 1) := by decide +kernel
theorem dL_law_792 : decode cL_law 792 = .ok (.aload_n 1, 1) := by decide +kernel
theorem dL_law_793 : decode cL_law 793 = .ok (.aload_n 0, 1) := by decide +kernel
theorem dL_law_794 : decode cL_law 794 = .ok (.iload 4, 2) := by decide +kernel
theorem dL_law_796 : decode cL_law 796 = .ok (.iconst 1, 1) := by decide +kernel
theorem dL_law_797 : decode cL_law 797 = .ok (.iadd, 1) := by decide +kernel
theorem dL_law_798 : decode cL_law 798 = .ok (.iaload, 1) := by decide +kernel
theorem dL_law_799 : decode cL_law 799 = .ok (.aload_n 0, 1) := by decide +kernel
theorem dL_law_800 : decode cL_law 800 = .ok (.iload 4, 2) := by decide +kernel
theorem dL_law_802 : decode cL_law 802 = .ok (.iconst 2, 1) := by decide +kernel
theorem dL_law_803 : decode cL_law 803 = .ok (.iadd, 1) := by decide +kernel
theorem dL_law_804 : decode cL_law 804 = .ok (.iaload, 1) := by decide +kernel
theorem dL_law_805 : decode cL_law 805 = .ok (.aload_n 3, 1) := by decide +kernel
theorem dL_law_806 : decode cL_law 806 = .ok (.invokestatic 122, 3) := by decide +kernel
theorem dL_law_809 : decode cL_law 809 = .ok (.istore 5, 2) := by decide +kernel
theorem dL_law_811 : decode cL_law 811 = .ok (.aload_n 2, 1) := by decide +kernel
theorem dL_law_812 : decode cL_law 812 = .ok (.aload_n 0, 1) := by decide +kernel
theorem dL_law_813 : decode cL_law 813 = .ok (.iload 4, 2) := by decide +kernel
theorem dL_law_815 : decode cL_law 815 = .ok (.iconst 1, 1) := by decide +kernel
theorem dL_law_816 : decode cL_law 816 = .ok (.iadd, 1) := by decide +kernel
theorem dL_law_817 : decode cL_law 817 = .ok (.iaload, 1) := by decide +kernel
theorem dL_law_818 : decode cL_law 818 = .ok (.aload_n 0, 1) := by decide +kernel
theorem dL_law_819 : decode cL_law 819 = .ok (.iload 4, 2) := by decide +kernel
theorem dL_law_821 : decode cL_law 821 = .ok (.iconst 2, 1) := by decide +kernel
theorem dL_law_822 : decode cL_law 822 = .ok (.iadd, 1) := by decide +kernel
theorem dL_law_823 : decode cL_law 823 = .ok (.iaload, 1) := by decide +kernel
theorem dL_law_824 : decode cL_law 824 = .ok (.invokevirtual 124, 3) := by decide +kernel
theorem dL_law_827 : decode cL_law 827 = .ok (.istore 6, 2) := by decide +kernel
theorem dL_law_829 : decode cL_law 829 = .ok (.aload_n 2, 1) := by decide +kernel
theorem dL_law_830 : decode cL_law 830 = .ok (.invokevirtual 84, 3) := by decide +kernel
theorem dL_law_833 : decode cL_law 833 = .ok (.iload 5, 2) := by decide +kernel
theorem dL_law_835 : decode cL_law 835 = .ok (.if_icmp .eq 5, 3) := by decide +kernel
theorem dL_law_838 : decode cL_law 838 = .ok (.iconst 0, 1) := by decide +kernel
theorem dL_law_839 : decode cL_law 839 = .ok (.ireturn, 1) := by decide +kernel
theorem dL_law_840 : decode cL_law 840 = .ok (.iload 5, 2) := by decide +kernel
theorem dL_law_842 : decode cL_law 842 = .ok (.ifCond .ne 15, 3) := by decide +kernel
theorem dL_law_845 : decode cL_law 845 = .ok (.aload_n 3, 1) := by decide +kernel
theorem dL_law_846 : decode cL_law 846 = .ok (.iconst 0, 1) := by decide +kernel
theorem dL_law_847 : decode cL_law 847 = .ok (.laload, 1) := by decide +kernel
theorem dL_law_848 : decode cL_law 848 = .ok (.iload 6, 2) := by decide +kernel
theorem dL_law_850 : decode cL_law 850 = .ok (.i2l, 1) := by decide +kernel
theorem dL_law_851 : decode cL_law 851 = .ok (.lcmp, 1) := by decide +kernel
theorem dL_law_852 : decode cL_law 852 = .ok (.ifCond .eq 5, 3) := by decide +kernel
theorem dL_law_855 : decode cL_law 855 = .ok (.iconst 0, 1) := by decide +kernel
theorem dL_law_856 : decode cL_law 856 = .ok (.ireturn, 1) := by decide +kernel
theorem dL_law_857 : decode cL_law 857 = .ok (.goto 548, 3) := by decide +kernel
theorem dL_law_860 : decode cL_law 860 = .ok (.aload_n 1, 1) := by decide +kernel
theorem dL_law_861 : decode cL_law 861 = .ok (.aload_n 0, 1) := by decide +kernel
theorem dL_law_862 : decode cL_law 862 = .ok (.iload 4, 2) := by decide +kernel
theorem dL_law_864 : decode cL_law 864 = .ok (.iconst 1, 1) := by decide +kernel
theorem dL_law_865 : decode cL_law 865 = .ok (.iadd, 1) := by decide +kernel
theorem dL_law_866 : decode cL_law 866 = .ok (.iaload, 1) := by decide +kernel
theorem dL_law_867 : decode cL_law 867 = .ok (.aload_n 0, 1) := by decide +kernel
theorem dL_law_868 : decode cL_law 868 = .ok (.iload 4, 2) := by decide +kernel
theorem dL_law_870 : decode cL_law 870 = .ok (.iconst 2, 1) := by decide +kernel
theorem dL_law_871 : decode cL_law 871 = .ok (.iadd, 1) := by decide +kernel
theorem dL_law_872 : decode cL_law 872 = .ok (.iaload, 1) := by decide +kernel
theorem dL_law_873 : decode cL_law 873 = .ok (.aload_n 0, 1) := by decide +kernel
theorem dL_law_874 : decode cL_law 874 = .ok (.iload 4, 2) := by decide +kernel
theorem dL_law_876 : decode cL_law 876 = .ok (.iconst 3, 1) := by decide +kernel
theorem dL_law_877 : decode cL_law 877 = .ok (.iadd, 1) := by decide +kernel
theorem dL_law_878 : decode cL_law 878 = .ok (.iaload, 1) := by decide +kernel
theorem dL_law_879 : decode cL_law 879 = .ok (.ifCond .eq 7, 3) := by decide +kernel
theorem dL_law_882 : decode cL_law 882 = .ok (.iconst 1, 1) := by decide +kernel
theorem dL_law_883 : decode cL_law 883 = .ok (.goto 4, 3) := by decide +kernel
theorem dL_law_886 : decode cL_law 886 = .ok (.iconst 0, 1) := by decide +kernel
theorem dL_law_887 : decode cL_law 887 = .ok (.aload_n 3, 1) := by decide +kernel
theorem dL_law_888 : decode cL_law 888 = .ok (.invokestatic 125, 3) := by decide +kernel
theorem dL_law_891 : decode cL_law 891 = .ok (.istore 5, 2) := by decide +kernel
theorem dL_law_893 : decode cL_law 893 = .ok (.aload_n 2, 1) := by decide +kernel
theorem dL_law_894 : decode cL_law 894 = .ok (.aload_n 0, 1) := by decide +kernel
theorem dL_law_895 : decode cL_law 895 = .ok (.iload 4, 2) := by decide +kernel
theorem dL_law_897 : decode cL_law 897 = .ok (.iconst 1, 1) := by decide +kernel
theorem dL_law_898 : decode cL_law 898 = .ok (.iadd, 1) := by decide +kernel
theorem dL_law_899 : decode cL_law 899 = .ok (.iaload, 1) := by decide +kernel
theorem dL_law_900 : decode cL_law 900 = .ok (.aload_n 0, 1) := by decide +kernel
theorem dL_law_901 : decode cL_law 901 = .ok (.iload 4, 2) := by decide +kernel
theorem dL_law_903 : decode cL_law 903 = .ok (.iconst 2, 1) := by decide +kernel
theorem dL_law_904 : decode cL_law 904 = .ok (.iadd, 1) := by decide +kernel
theorem dL_law_905 : decode cL_law 905 = .ok (.iaload, 1) := by decide +kernel
theorem dL_law_906 : decode cL_law 906 = .ok (.aload_n 0, 1) := by decide +kernel
theorem dL_law_907 : decode cL_law 907 = .ok (.iload 4, 2) := by decide +kernel
theorem dL_law_909 : decode cL_law 909 = .ok (.iconst 3, 1) := by decide +kernel
theorem dL_law_910 : decode cL_law 910 = .ok (.iadd, 1) := by decide +kernel
theorem dL_law_911 : decode cL_law 911 = .ok (.iaload, 1) := by decide +kernel
theorem dL_law_912 : decode cL_law 912 = .ok (.ifCond .eq 7, 3) := by decide +kernel
theorem dL_law_915 : decode cL_law 915 = .ok (.iconst 1, 1) := by decide +kernel
theorem dL_law_916 : decode cL_law 916 = .ok (.goto 4, 3) := by decide +kernel
theorem dL_law_919 : decode cL_law 919 = .ok (.iconst 0, 1) := by decide +kernel
theorem dL_law_920 : decode cL_law 920 = .ok (.invokevirtual 128, 3) := by decide +kernel
theorem dL_law_923 : decode cL_law 923 = .ok (.istore 6, 2) := by decide +kernel
theorem dL_law_925 : decode cL_law 925 = .ok (.aload_n 2, 1) := by decide +kernel
theorem dL_law_926 : decode cL_law 926 = .ok (.invokevirtual 84, 3) := by decide +kernel
theorem dL_law_929 : decode cL_law 929 = .ok (.iload 5, 2) := by decide +kernel
theorem dL_law_931 : decode cL_law 931 = .ok (.if_icmp .eq 5, 3) := by decide +kernel
theorem dL_law_934 : decode cL_law 934 = .ok (.iconst 0, 1) := by decide +kernel
theorem dL_law_935 : decode cL_law 935 = .ok (.ireturn, 1) := by decide +kernel
theorem dL_law_936 : decode cL_law 936 = .ok (.iload 5, 2) := by decide +kernel
theorem dL_law_938 : decode cL_law 938 = .ok (.ifCond .ne 15, 3) := by decide +kernel
theorem dL_law_941 : decode cL_law 941 = .ok (.aload_n 3, 1) := by decide +kernel
theorem dL_law_942 : decode cL_law 942 = .ok (.iconst 0, 1) := by decide +kernel
theorem dL_law_943 : decode cL_law 943 = .ok (.laload, 1) := by decide +kernel
theorem dL_law_944 : decode cL_law 944 = .ok (.iload 6, 2) := by decide +kernel
theorem dL_law_946 : decode cL_law 946 = .ok (.i2l, 1) := by decide +kernel
theorem dL_law_947 : decode cL_law 947 = .ok (.lcmp, 1) := by decide +kernel
theorem dL_law_948 : decode cL_law 948 = .ok (.ifCond .eq 5, 3) := by decide +kernel
theorem dL_law_951 : decode cL_law 951 = .ok (.iconst 0, 1) := by decide +kernel
theorem dL_law_952 : decode cL_law 952 = .ok (.ireturn, 1) := by decide +kernel
theorem dL_law_953 : decode cL_law 953 = .ok (.goto 452, 3) := by decide +kernel
theorem dL_law_956 : decode cL_law 956 = .ok (.aload_n 1, 1) := by decide +kernel
theorem dL_law_957 : decode cL_law 957 = .ok (.aload_n 0, 1) := by decide +kernel
theorem dL_law_958 : decode cL_law 958 = .ok (.iload 4, 2) := by decide +kernel
theorem dL_law_960 : decode cL_law 960 = .ok (.iconst 1, 1) := by decide +kernel
theorem dL_law_961 : decode cL_law 961 = .ok (.iadd, 1) := by decide +kernel
theorem dL_law_962 : decode cL_law 962 = .ok (.iaload, 1) := by decide +kernel
theorem dL_law_963 : decode cL_law 963 = .ok (.aload_n 0, 1) := by decide +kernel
theorem dL_law_964 : decode cL_law 964 = .ok (.iload 4, 2) := by decide +kernel
theorem dL_law_966 : decode cL_law 966 = .ok (.iconst 2, 1) := by decide +kernel
theorem dL_law_967 : decode cL_law 967 = .ok (.iadd, 1) := by decide +kernel
theorem dL_law_968 : decode cL_law 968 = .ok (.iaload, 1) := by decide +kernel
theorem dL_law_969 : decode cL_law 969 = .ok (.aload_n 0, 1) := by decide +kernel
theorem dL_law_970 : decode cL_law 970 = .ok (.iload 4, 2) := by decide +kernel
theorem dL_law_972 : decode cL_law 972 = .ok (.iconst 3, 1) := by decide +kernel
theorem dL_law_973 : decode cL_law 973 = .ok (.iadd, 1) := by decide +kernel
theorem dL_law_974 : decode cL_law 974 = .ok (.iaload, 1) := by decide +kernel
theorem dL_law_975 : decode cL_law 975 = .ok (.aload_n 0, 1) := by decide +kernel
theorem dL_law_976 : decode cL_law 976 = .ok (.iload 4, 2) := by decide +kernel
theorem dL_law_978 : decode cL_law 978 = .ok (.iconst 4, 1) := by decide +kernel
theorem dL_law_979 : decode cL_law 979 = .ok (.iadd, 1) := by decide +kernel
theorem dL_law_980 : decode cL_law 980 = .ok (.iaload, 1) := by decide +kernel
theorem dL_law_981 : decode cL_law 981 = .ok (.aload_n 3, 1) := by decide +kernel
theorem dL_law_982 : decode cL_law 982 = .ok (.invokestatic 129, 3) := by decide +kernel
theorem dL_law_985 : decode cL_law 985 = .ok (.istore 5, 2) := by decide +kernel
theorem dL_law_987 : decode cL_law 987 = .ok (.aload_n 2, 1) := by decide +kernel
theorem dL_law_988 : decode cL_law 988 = .ok (.aload_n 0, 1) := by decide +kernel
theorem dL_law_989 : decode cL_law 989 = .ok (.iload 4, 2) := by decide +kernel
theorem dL_law_991 : decode cL_law 991 = .ok (.iconst 1, 1) := by decide +kernel
theorem dL_law_992 : decode cL_law 992 = .ok (.iadd, 1) := by decide +kernel
theorem dL_law_993 : decode cL_law 993 = .ok (.iaload, 1) := by decide +kernel
theorem dL_law_994 : decode cL_law 994 = .ok (.aload_n 0, 1) := by decide +kernel
theorem dL_law_995 : decode cL_law 995 = .ok (.iload 4, 2) := by decide +kernel
theorem dL_law_997 : decode cL_law 997 = .ok (.iconst 2, 1) := by decide +kernel
theorem dL_law_998 : decode cL_law 998 = .ok (.iadd, 1) := by decide +kernel
theorem dL_law_999 : decode cL_law 999 = .ok (.iaload, 1) := by decide +kernel
theorem dL_law_1000 : decode cL_law 1000 = .ok (.aload_n 0, 1) := by decide +kernel
theorem dL_law_1001 : decode cL_law 1001 = .ok (.iload 4, 2) := by decide +kernel
theorem dL_law_1003 : decode cL_law 1003 = .ok (.iconst 3, 1) := by decide +kernel
theorem dL_law_1004 : decode cL_law 1004 = .ok (.iadd, 1) := by decide +kernel
theorem dL_law_1005 : decode cL_law 1005 = .ok (.iaload, 1) := by decide +kernel
theorem dL_law_1006 : decode cL_law 1006 = .ok (.aload_n 0, 1) := by decide +kernel
theorem dL_law_1007 : decode cL_law 1007 = .ok (.iload 4, 2) := by decide +kernel
theorem dL_law_1009 : decode cL_law 1009 = .ok (.iconst 4, 1) := by decide +kernel
theorem dL_law_1010 : decode cL_law 1010 = .ok (.iadd, 1) := by decide +kernel
theorem dL_law_1011 : decode cL_law 1011 = .ok (.iaload, 1) := by decide +kernel
theorem dL_law_1012 : decode cL_law 1012 = .ok (.invokevirtual 131, 3) := by decide +kernel
theorem dL_law_1015 : decode cL_law 1015 = .ok (.istore 6, 2) := by decide +kernel
theorem dL_law_1017 : decode cL_law 1017 = .ok (.aload_n 2, 1) := by decide +kernel
theorem dL_law_1018 : decode cL_law 1018 = .ok (.invokevirtual 84, 3) := by decide +kernel
theorem dL_law_1021 : decode cL_law 1021 = .ok (.iload 5, 2) := by decide +kernel
theorem dL_law_1023 : decode cL_law 1023 = .ok (.if_icmp .eq 5, 3) := by decide +kernel
theorem dL_law_1026 : decode cL_law 1026 = .ok (.iconst 0, 1) := by decide +kernel
theorem dL_law_1027 : decode cL_law 1027 = .ok (.ireturn, 1) := by decide +kernel
theorem dL_law_1028 : decode cL_law 1028 = .ok (.iload 5, 2) := by decide +kernel
theorem dL_law_1030 : decode cL_law 1030 = .ok (.ifCond .ne 15, 3) := by decide +kernel
theorem dL_law_1033 : decode cL_law 1033 = .ok (.aload_n 3, 1) := by decide +kernel
theorem dL_law_1034 : decode cL_law 1034 = .ok (.iconst 0, 1) := by decide +kernel
theorem dL_law_1035 : decode cL_law 1035 = .ok (.laload, 1) := by decide +kernel
theorem dL_law_1036 : decode cL_law 1036 = .ok (.iload 6, 2) := by decide +kernel
theorem dL_law_1038 : decode cL_law 1038 = .ok (.i2l, 1) := by decide +kernel
theorem dL_law_1039 : decode cL_law 1039 = .ok (.lcmp, 1) := by decide +kernel
theorem dL_law_1040 : decode cL_law 1040 = .ok (.ifCond .eq 5, 3) := by decide +kernel
theorem dL_law_1043 : decode cL_law 1043 = .ok (.iconst 0, 1) := by decide +kernel
theorem dL_law_1044 : decode cL_law 1044 = .ok (.ireturn, 1) := by decide +kernel
theorem dL_law_1045 : decode cL_law 1045 = .ok (.goto 360, 3) := by decide +kernel
theorem dL_law_1048 : decode cL_law 1048 = .ok (.aload_n 1, 1) := by decide +kernel
theorem dL_law_1049 : decode cL_law 1049 = .ok (.aload_n 0, 1) := by decide +kernel
theorem dL_law_1050 : decode cL_law 1050 = .ok (.iload 4, 2) := by decide +kernel
theorem dL_law_1052 : decode cL_law 1052 = .ok (.iconst 1, 1) := by decide +kernel
theorem dL_law_1053 : decode cL_law 1053 = .ok (.iadd, 1) := by decide +kernel
theorem dL_law_1054 : decode cL_law 1054 = .ok (.iaload, 1) := by decide +kernel
theorem dL_law_1055 : decode cL_law 1055 = .ok (.aload_n 3, 1) := by decide +kernel
theorem dL_law_1056 : decode cL_law 1056 = .ok (.invokestatic 132, 3) := by decide +kernel
theorem dL_law_1059 : decode cL_law 1059 = .ok (.istore 5, 2) := by decide +kernel
theorem dL_law_1061 : decode cL_law 1061 = .ok (.aload_n 2, 1) := by decide +kernel
theorem dL_law_1062 : decode cL_law 1062 = .ok (.aload_n 0, 1) := by decide +kernel
theorem dL_law_1063 : decode cL_law 1063 = .ok (.iload 4, 2) := by decide +kernel
theorem dL_law_1065 : decode cL_law 1065 = .ok (.iconst 1, 1) := by decide +kernel
theorem dL_law_1066 : decode cL_law 1066 = .ok (.iadd, 1) := by decide +kernel
theorem dL_law_1067 : decode cL_law 1067 = .ok (.iaload, 1) := by decide +kernel
theorem dL_law_1068 : decode cL_law 1068 = .ok (.invokevirtual 134, 3) := by decide +kernel
theorem dL_law_1071 : decode cL_law 1071 = .ok (.istore 6, 2) := by decide +kernel
theorem dL_law_1073 : decode cL_law 1073 = .ok (.aload_n 2, 1) := by decide +kernel
theorem dL_law_1074 : decode cL_law 1074 = .ok (.invokevirtual 84, 3) := by decide +kernel
theorem dL_law_1077 : decode cL_law 1077 = .ok (.iload 5, 2) := by decide +kernel
theorem dL_law_1079 : decode cL_law 1079 = .ok (.if_icmp .eq 5, 3) := by decide +kernel
theorem dL_law_1082 : decode cL_law 1082 = .ok (.iconst 0, 1) := by decide +kernel
theorem dL_law_1083 : decode cL_law 1083 = .ok (.ireturn, 1) := by decide +kernel
theorem dL_law_1084 : decode cL_law 1084 = .ok (.iload 5, 2) := by decide +kernel
theorem dL_law_1086 : decode cL_law 1086 = .ok (.ifCond .ne 15, 3) := by decide +kernel
theorem dL_law_1089 : decode cL_law 1089 = .ok (.aload_n 3, 1) := by decide +kernel
theorem dL_law_1090 : decode cL_law 1090 = .ok (.iconst 0, 1) := by decide +kernel
theorem dL_law_1091 : decode cL_law 1091 = .ok (.laload, 1) := by decide +kernel
theorem dL_law_1092 : decode cL_law 1092 = .ok (.iload 6, 2) := by decide +kernel
theorem dL_law_1094 : decode cL_law 1094 = .ok (.i2l, 1) := by decide +kernel
theorem dL_law_1095 : decode cL_law 1095 = .ok (.lcmp, 1) := by decide +kernel
theorem dL_law_1096 : decode cL_law 1096 = .ok (.ifCond .eq 5, 3) := by decide +kernel
theorem dL_law_1099 : decode cL_law 1099 = .ok (.iconst 0, 1) := by decide +kernel
theorem dL_law_1100 : decode cL_law 1100 = .ok (.ireturn, 1) := by decide +kernel
theorem dL_law_1101 : decode cL_law 1101 = .ok (.goto 304, 3) := by decide +kernel
theorem dL_law_1104 : decode cL_law 1104 = .ok (.aload_n 1, 1) := by decide +kernel
theorem dL_law_1105 : decode cL_law 1105 = .ok (.aload_n 0, 1) := by decide +kernel
theorem dL_law_1106 : decode cL_law 1106 = .ok (.iload 4, 2) := by decide +kernel
theorem dL_law_1108 : decode cL_law 1108 = .ok (.iconst 1, 1) := by decide +kernel
theorem dL_law_1109 : decode cL_law 1109 = .ok (.iadd, 1) := by decide +kernel
theorem dL_law_1110 : decode cL_law 1110 = .ok (.iaload, 1) := by decide +kernel
theorem dL_law_1111 : decode cL_law 1111 = .ok (.aload_n 3, 1) := by decide +kernel
theorem dL_law_1112 : decode cL_law 1112 = .ok (.invokestatic 135, 3) := by decide +kernel
theorem dL_law_1115 : decode cL_law 1115 = .ok (.istore 5, 2) := by decide +kernel
theorem dL_law_1117 : decode cL_law 1117 = .ok (.aload_n 2, 1) := by decide +kernel
theorem dL_law_1118 : decode cL_law 1118 = .ok (.aload_n 0, 1) := by decide +kernel
theorem dL_law_1119 : decode cL_law 1119 = .ok (.iload 4, 2) := by decide +kernel
theorem dL_law_1121 : decode cL_law 1121 = .ok (.iconst 1, 1) := by decide +kernel
theorem dL_law_1122 : decode cL_law 1122 = .ok (.iadd, 1) := by decide +kernel
theorem dL_law_1123 : decode cL_law 1123 = .ok (.iaload, 1) := by decide +kernel
theorem dL_law_1124 : decode cL_law 1124 = .ok (.invokevirtual 137, 3) := by decide +kernel
theorem dL_law_1127 : decode cL_law 1127 = .ok (.istore 6, 2) := by decide +kernel
theorem dL_law_1129 : decode cL_law 1129 = .ok (.aload_n 2, 1) := by decide +kernel
theorem dL_law_1130 : decode cL_law 1130 = .ok (.invokevirtual 84, 3) := by decide +kernel
theorem dL_law_1133 : decode cL_law 1133 = .ok (.iload 5, 2) := by decide +kernel
theorem dL_law_1135 : decode cL_law 1135 = .ok (.if_icmp .eq 5, 3) := by decide +kernel
theorem dL_law_1138 : decode cL_law 1138 = .ok (.iconst 0, 1) := by decide +kernel
theorem dL_law_1139 : decode cL_law 1139 = .ok (.ireturn, 1) := by decide +kernel
theorem dL_law_1140 : decode cL_law 1140 = .ok (.iload 5, 2) := by decide +kernel
theorem dL_law_1142 : decode cL_law 1142 = .ok (.ifCond .ne 15, 3) := by decide +kernel
theorem dL_law_1145 : decode cL_law 1145 = .ok (.aload_n 3, 1) := by decide +kernel
theorem dL_law_1146 : decode cL_law 1146 = .ok (.iconst 0, 1) := by decide +kernel
theorem dL_law_1147 : decode cL_law 1147 = .ok (.laload, 1) := by decide +kernel
theorem dL_law_1148 : decode cL_law 1148 = .ok (.iload 6, 2) := by decide +kernel
theorem dL_law_1150 : decode cL_law 1150 = .ok (.i2l, 1) := by decide +kernel
theorem dL_law_1151 : decode cL_law 1151 = .ok (.lcmp, 1) := by decide +kernel
theorem dL_law_1152 : decode cL_law 1152 = .ok (.ifCond .eq 5, 3) := by decide +kernel
theorem dL_law_1155 : decode cL_law 1155 = .ok (.iconst 0, 1) := by decide +kernel
theorem dL_law_1156 : decode cL_law 1156 = .ok (.ireturn, 1) := by decide +kernel
theorem dL_law_1157 : decode cL_law 1157 = .ok (.goto 248, 3) := by decide +kernel
theorem dL_law_1160 : decode cL_law 1160 = .ok (.aload_n 1, 1) := by decide +kernel
theorem dL_law_1161 : decode cL_law 1161 = .ok (.aload_n 0, 1) := by decide +kernel
theorem dL_law_1162 : decode cL_law 1162 = .ok (.iload 4, 2) := by decide +kernel
theorem dL_law_1164 : decode cL_law 1164 = .ok (.iconst 1, 1) := by decide +kernel
theorem dL_law_1165 : decode cL_law 1165 = .ok (.iadd, 1) := by decide +kernel
theorem dL_law_1166 : decode cL_law 1166 = .ok (.iaload, 1) := by decide +kernel
theorem dL_law_1167 : decode cL_law 1167 = .ok (.aload_n 3, 1) := by decide +kernel
theorem dL_law_1168 : decode cL_law 1168 = .ok (.invokestatic 138, 3) := by decide +kernel
theorem dL_law_1171 : decode cL_law 1171 = .ok (.istore 5, 2) := by decide +kernel
theorem dL_law_1173 : decode cL_law 1173 = .ok (.aload_n 2, 1) := by decide +kernel
theorem dL_law_1174 : decode cL_law 1174 = .ok (.aload_n 0, 1) := by decide +kernel
theorem dL_law_1175 : decode cL_law 1175 = .ok (.iload 4, 2) := by decide +kernel
theorem dL_law_1177 : decode cL_law 1177 = .ok (.iconst 1, 1) := by decide +kernel
theorem dL_law_1178 : decode cL_law 1178 = .ok (.iadd, 1) := by decide +kernel
theorem dL_law_1179 : decode cL_law 1179 = .ok (.iaload, 1) := by decide +kernel
theorem dL_law_1180 : decode cL_law 1180 = .ok (.invokevirtual 140, 3) := by decide +kernel
theorem dL_law_1183 : decode cL_law 1183 = .ok (.istore 6, 2) := by decide +kernel
theorem dL_law_1185 : decode cL_law 1185 = .ok (.aload_n 2, 1) := by decide +kernel
theorem dL_law_1186 : decode cL_law 1186 = .ok (.invokevirtual 84, 3) := by decide +kernel
theorem dL_law_1189 : decode cL_law 1189 = .ok (.iload 5, 2) := by decide +kernel
theorem dL_law_1191 : decode cL_law 1191 = .ok (.if_icmp .eq 5, 3) := by decide +kernel
theorem dL_law_1194 : decode cL_law 1194 = .ok (.iconst 0, 1) := by decide +kernel
theorem dL_law_1195 : decode cL_law 1195 = .ok (.ireturn, 1) := by decide +kernel
theorem dL_law_1196 : decode cL_law 1196 = .ok (.iload 5, 2) := by decide +kernel
theorem dL_law_1198 : decode cL_law 1198 = .ok (.ifCond .ne 15, 3) := by decide +kernel
theorem dL_law_1201 : decode cL_law 1201 = .ok (.aload_n 3, 1) := by decide +kernel
theorem dL_law_1202 : decode cL_law 1202 = .ok (.iconst 0, 1) := by decide +kernel
theorem dL_law_1203 : decode cL_law 1203 = .ok (.laload, 1) := by decide +kernel
theorem dL_law_1204 : decode cL_law 1204 = .ok (.iload 6, 2) := by decide +kernel
theorem dL_law_1206 : decode cL_law 1206 = .ok (.i2l, 1) := by decide +kernel
theorem dL_law_1207 : decode cL_law 1207 = .ok (.lcmp, 1) := by decide +kernel
theorem dL_law_1208 : decode cL_law 1208 = .ok (.ifCond .eq 5, 3) := by decide +kernel
theorem dL_law_1211 : decode cL_law 1211 = .ok (.iconst 0, 1) := by decide +kernel
theorem dL_law_1212 : decode cL_law 1212 = .ok (.ireturn, 1) := by decide +kernel
theorem dL_law_1213 : decode cL_law 1213 = .ok (.goto 192, 3) := by decide +kernel
theorem dL_law_1216 : decode cL_law 1216 = .ok (.aload_n 1, 1) := by decide +kernel
theorem dL_law_1217 : decode cL_law 1217 = .ok (.aload_n 0, 1) := by decide +kernel
theorem dL_law_1218 : decode cL_law 1218 = .ok (.iload 4, 2) := by decide +kernel
theorem dL_law_1220 : decode cL_law 1220 = .ok (.iconst 1, 1) := by decide +kernel
theorem dL_law_1221 : decode cL_law 1221 = .ok (.iadd, 1) := by decide +kernel
theorem dL_law_1222 : decode cL_law 1222 = .ok (.iaload, 1) := by decide +kernel
theorem dL_law_1223 : decode cL_law 1223 = .ok (.aload_n 0, 1) := by decide +kernel
theorem dL_law_1224 : decode cL_law 1224 = .ok (.iload 4, 2) := by decide +kernel
theorem dL_law_1226 : decode cL_law 1226 = .ok (.iconst 2, 1) := by decide +kernel
theorem dL_law_1227 : decode cL_law 1227 = .ok (.iadd, 1) := by decide +kernel
theorem dL_law_1228 : decode cL_law 1228 = .ok (.iaload, 1) := by decide +kernel
theorem dL_law_1229 : decode cL_law 1229 = .ok (.ifCond .eq 7, 3) := by decide +kernel
theorem dL_law_1232 : decode cL_law 1232 = .ok (.iconst 1, 1) := by decide +kernel
theorem dL_law_1233 : decode cL_law 1233 = .ok (.goto 4, 3) := by decide +kernel
theorem dL_law_1236 : decode cL_law 1236 = .ok (.iconst 0, 1) := by decide +kernel
theorem dL_law_1237 : decode cL_law 1237 = .ok (.aload_n 3, 1) := by decide +kernel
theorem dL_law_1238 : decode cL_law 1238 = .ok (.invokestatic 141, 3) := by decide +kernel
theorem dL_law_1241 : decode cL_law 1241 = .ok (.istore 5, 2) := by decide +kernel
theorem dL_law_1243 : decode cL_law 1243 = .ok (.aload_n 2, 1) := by decide +kernel
theorem dL_law_1244 : decode cL_law 1244 = .ok (.aload_n 0, 1) := by decide +kernel
theorem dL_law_1245 : decode cL_law 1245 = .ok (.iload 4, 2) := by decide +kernel
theorem dL_law_1247 : decode cL_law 1247 = .ok (.iconst 1, 1) := by decide +kernel
theorem dL_law_1248 : decode cL_law 1248 = .ok (.iadd, 1) := by decide +kernel
theorem dL_law_1249 : decode cL_law 1249 = .ok (.iaload, 1) := by decide +kernel
theorem dL_law_1250 : decode cL_law 1250 = .ok (.aload_n 0, 1) := by decide +kernel
theorem dL_law_1251 : decode cL_law 1251 = .ok (.iload 4, 2) := by decide +kernel
theorem dL_law_1253 : decode cL_law 1253 = .ok (.iconst 2, 1) := by decide +kernel
theorem dL_law_1254 : decode cL_law 1254 = .ok (.iadd, 1) := by decide +kernel
theorem dL_law_1255 : decode cL_law 1255 = .ok (.iaload, 1) := by decide +kernel
theorem dL_law_1256 : decode cL_law 1256 = .ok (.ifCond .eq 7, 3) := by decide +kernel
theorem dL_law_1259 : decode cL_law 1259 = .ok (.iconst 1, 1) := by decide +kernel
theorem dL_law_1260 : decode cL_law 1260 = .ok (.goto 4, 3) := by decide +kernel
theorem dL_law_1263 : decode cL_law 1263 = .ok (.iconst 0, 1) := by decide +kernel
theorem dL_law_1264 : decode cL_law 1264 = .ok (.invokevirtual 143, 3) := by decide +kernel
theorem dL_law_1267 : decode cL_law 1267 = .ok (.istore 6, 2) := by decide +kernel
theorem dL_law_1269 : decode cL_law 1269 = .ok (.aload_n 2, 1) := by decide +kernel
theorem dL_law_1270 : decode cL_law 1270 = .ok (.invokevirtual 84, 3) := by decide +kernel
theorem dL_law_1273 : decode cL_law 1273 = .ok (.iload 5, 2) := by decide +kernel
theorem dL_law_1275 : decode cL_law 1275 = .ok (.if_icmp .eq 5, 3) := by decide +kernel
theorem dL_law_1278 : decode cL_law 1278 = .ok (.iconst 0, 1) := by decide +kernel
theorem dL_law_1279 : decode cL_law 1279 = .ok (.ireturn, 1) := by decide +kernel
theorem dL_law_1280 : decode cL_law 1280 = .ok (.iload 5, 2) := by decide +kernel
theorem dL_law_1282 : decode cL_law 1282 = .ok (.ifCond .ne 15, 3) := by decide +kernel
theorem dL_law_1285 : decode cL_law 1285 = .ok (.aload_n 3, 1) := by decide +kernel
theorem dL_law_1286 : decode cL_law 1286 = .ok (.iconst 0, 1) := by decide +kernel
theorem dL_law_1287 : decode cL_law 1287 = .ok (.laload, 1) := by decide +kernel
theorem dL_law_1288 : decode cL_law 1288 = .ok (.iload 6, 2) := by decide +kernel
theorem dL_law_1290 : decode cL_law 1290 = .ok (.i2l, 1) := by decide +kernel
theorem dL_law_1291 : decode cL_law 1291 = .ok (.lcmp, 1) := by decide +kernel
theorem dL_law_1292 : decode cL_law 1292 = .ok (.ifCond .eq 5, 3) := by decide +kernel
theorem dL_law_1295 : decode cL_law 1295 = .ok (.iconst 0, 1) := by decide +kernel
theorem dL_law_1296 : decode cL_law 1296 = .ok (.ireturn, 1) := by decide +kernel
theorem dL_law_1297 : decode cL_law 1297 = .ok (.goto 108, 3) := by decide +kernel
theorem dL_law_1300 : decode cL_law 1300 = .ok (.aload_n 1, 1) := by decide +kernel
theorem dL_law_1301 : decode cL_law 1301 = .ok (.aload_n 0, 1) := by decide +kernel
theorem dL_law_1302 : decode cL_law 1302 = .ok (.iload 4, 2) := by decide +kernel
theorem dL_law_1304 : decode cL_law 1304 = .ok (.iconst 1, 1) := by decide +kernel
theorem dL_law_1305 : decode cL_law 1305 = .ok (.iadd, 1) := by decide +kernel
theorem dL_law_1306 : decode cL_law 1306 = .ok (.iaload, 1) := by decide +kernel
theorem dL_law_1307 : decode cL_law 1307 = .ok (.aload_n 0, 1) := by decide +kernel
theorem dL_law_1308 : decode cL_law 1308 = .ok (.iload 4, 2) := by decide +kernel
theorem dL_law_1310 : decode cL_law 1310 = .ok (.iconst 2, 1) := by decide +kernel
theorem dL_law_1311 : decode cL_law 1311 = .ok (.iadd, 1) := by decide +kernel
theorem dL_law_1312 : decode cL_law 1312 = .ok (.iaload, 1) := by decide +kernel
theorem dL_law_1313 : decode cL_law 1313 = .ok (.aload_n 0, 1) := by decide +kernel
theorem dL_law_1314 : decode cL_law 1314 = .ok (.iload 4, 2) := by decide +kernel
theorem dL_law_1316 : decode cL_law 1316 = .ok (.iconst 3, 1) := by decide +kernel
theorem dL_law_1317 : decode cL_law 1317 = .ok (.iadd, 1) := by decide +kernel
theorem dL_law_1318 : decode cL_law 1318 = .ok (.iaload, 1) := by decide +kernel
theorem dL_law_1319 : decode cL_law 1319 = .ok (.aload_n 0, 1) := by decide +kernel
theorem dL_law_1320 : decode cL_law 1320 = .ok (.iload 4, 2) := by decide +kernel
theorem dL_law_1322 : decode cL_law 1322 = .ok (.iconst 4, 1) := by decide +kernel
theorem dL_law_1323 : decode cL_law 1323 = .ok (.iadd, 1) := by decide +kernel
theorem dL_law_1324 : decode cL_law 1324 = .ok (.iaload, 1) := by decide +kernel
theorem dL_law_1325 : decode cL_law 1325 = .ok (.aload_n 3, 1) := by decide +kernel
theorem dL_law_1326 : decode cL_law 1326 = .ok (.invokestatic 144, 3) := by decide +kernel
theorem dL_law_1329 : decode cL_law 1329 = .ok (.istore 5, 2) := by decide +kernel
theorem dL_law_1331 : decode cL_law 1331 = .ok (.aload_n 2, 1) := by decide +kernel
theorem dL_law_1332 : decode cL_law 1332 = .ok (.aload_n 0, 1) := by decide +kernel
theorem dL_law_1333 : decode cL_law 1333 = .ok (.iload 4, 2) := by decide +kernel
theorem dL_law_1335 : decode cL_law 1335 = .ok (.iconst 1, 1) := by decide +kernel
theorem dL_law_1336 : decode cL_law 1336 = .ok (.iadd, 1) := by decide +kernel
theorem dL_law_1337 : decode cL_law 1337 = .ok (.iaload, 1) := by decide +kernel
theorem dL_law_1338 : decode cL_law 1338 = .ok (.aload_n 0, 1) := by decide +kernel
theorem dL_law_1339 : decode cL_law 1339 = .ok (.iload 4, 2) := by decide +kernel
theorem dL_law_1341 : decode cL_law 1341 = .ok (.iconst 2, 1) := by decide +kernel
theorem dL_law_1342 : decode cL_law 1342 = .ok (.iadd, 1) := by decide +kernel
theorem dL_law_1343 : decode cL_law 1343 = .ok (.iaload, 1) := by decide +kernel
theorem dL_law_1344 : decode cL_law 1344 = .ok (.aload_n 0, 1) := by decide +kernel
theorem dL_law_1345 : decode cL_law 1345 = .ok (.iload 4, 2) := by decide +kernel
theorem dL_law_1347 : decode cL_law 1347 = .ok (.iconst 3, 1) := by decide +kernel
theorem dL_law_1348 : decode cL_law 1348 = .ok (.iadd, 1) := by decide +kernel
theorem dL_law_1349 : decode cL_law 1349 = .ok (.iaload, 1) := by decide +kernel
theorem dL_law_1350 : decode cL_law 1350 = .ok (.aload_n 0, 1) := by decide +kernel
theorem dL_law_1351 : decode cL_law 1351 = .ok (.iload 4, 2) := by decide +kernel
theorem dL_law_1353 : decode cL_law 1353 = .ok (.iconst 4, 1) := by decide +kernel
theorem dL_law_1354 : decode cL_law 1354 = .ok (.iadd, 1) := by decide +kernel
theorem dL_law_1355 : decode cL_law 1355 = .ok (.iaload, 1) := by decide +kernel
theorem dL_law_1356 : decode cL_law 1356 = .ok (.invokevirtual 146, 3) := by decide +kernel
theorem dL_law_1359 : decode cL_law 1359 = .ok (.istore 6, 2) := by decide +kernel
theorem dL_law_1361 : decode cL_law 1361 = .ok (.aload_n 2, 1) := by decide +kernel
theorem dL_law_1362 : decode cL_law 1362 = .ok (.invokevirtual 84, 3) := by decide +kernel
theorem dL_law_1365 : decode cL_law 1365 = .ok (.iload 5, 2) := by decide +kernel
theorem dL_law_1367 : decode cL_law 1367 = .ok (.if_icmp .eq 5, 3) := by decide +kernel
theorem dL_law_1370 : decode cL_law 1370 = .ok (.iconst 0, 1) := by decide +kernel
theorem dL_law_1371 : decode cL_law 1371 = .ok (.ireturn, 1) := by decide +kernel
theorem dL_law_1372 : decode cL_law 1372 = .ok (.iload 5, 2) := by decide +kernel
theorem dL_law_1374 : decode cL_law 1374 = .ok (.ifCond .ne 15, 3) := by decide +kernel
theorem dL_law_1377 : decode cL_law 1377 = .ok (.aload_n 3, 1) := by decide +kernel
theorem dL_law_1378 : decode cL_law 1378 = .ok (.iconst 0, 1) := by decide +kernel
theorem dL_law_1379 : decode cL_law 1379 = .ok (.laload, 1) := by decide +kernel
theorem dL_law_1380 : decode cL_law 1380 = .ok (.iload 6, 2) := by decide +kernel
theorem dL_law_1382 : decode cL_law 1382 = .ok (.i2l, 1) := by decide +kernel
theorem dL_law_1383 : decode cL_law 1383 = .ok (.lcmp, 1) := by decide +kernel
theorem dL_law_1384 : decode cL_law 1384 = .ok (.ifCond .eq 5, 3) := by decide +kernel
theorem dL_law_1387 : decode cL_law 1387 = .ok (.iconst 0, 1) := by decide +kernel
theorem dL_law_1388 : decode cL_law 1388 = .ok (.ireturn, 1) := by decide +kernel
theorem dL_law_1389 : decode cL_law 1389 = .ok (.goto 16, 3) := by decide +kernel
theorem dL_law_1392 : decode cL_law 1392 = .ok (.aload_n 1, 1) := by decide +kernel
theorem dL_law_1393 : decode cL_law 1393 = .ok (.invokevirtual 147, 3) := by decide +kernel
theorem dL_law_1396 : decode cL_law 1396 = .ok (.aload_n 2, 1) := by decide +kernel
theorem dL_law_1397 : decode cL_law 1397 = .ok (.invokevirtual 150, 3) := by decide +kernel
theorem dL_law_1400 : decode cL_law 1400 = .ok (.if_icmp .eq 5, 3) := by decide +kernel
theorem dL_law_1403 : decode cL_law 1403 = .ok (.iconst 0, 1) := by decide +kernel
theorem dL_law_1404 : decode cL_law 1404 = .ok (.ireturn, 1) := by decide +kernel
theorem dL_law_1405 : decode cL_law 1405 = .ok (.iinc 4 5, 3) := by decide +kernel
theorem dL_law_1408 : decode cL_law 1408 = .ok (.goto (-1385), 3) := by decide +kernel
theorem dL_law_1411 : decode cL_law 1411 = .ok (.iconst 1, 1) := by decide +kernel
theorem dL_law_1412 : decode cL_law 1412 = .ok (.ireturn, 1) := by decide +kernel
abbrev vwCl : List vw_C := [(RX0, TX0, 2), (RX1, TX1, 6), (RX2, TX2, 9), (RX3, TX3, 12), (RX4, TX4, 10), (RX5, TX5, 34)]
/-! ===== END printed: names ===== -/
end
section
theorem zz_last : 1 + 1 = 2 := rfl
end
