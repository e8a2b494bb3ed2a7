/-! ===== both calls together: the same code, the same answer, the relation again ===== -/
theorem zgo_n {P Q S : Prop} [Decidable P] [Decidable Q] [Decidable S] (h : ¬ (P ∧ Q ∧ S)) : ¬ zgo P Q S = 0 := by
  unfold zgo
  by_cases p : P
  · rw [if_pos p]
    by_cases q : Q
    · rw [if_pos q]
      by_cases s : S
      · exact absurd ⟨p, q, s⟩ h
      · rw [if_neg s]; decide
    · rw [if_neg q]; decide
  · rw [if_neg p]; decide
theorem zgo_cg {P Q S P' Q' S' : Prop} [Decidable P] [Decidable Q] [Decidable S] [Decidable P'] [Decidable Q'] [Decidable S'] (h1 : P ↔ P') (h2 : P → (Q ↔ Q')) (h3 : P → Q → (S ↔ S')) : zgo P Q S = zgo P' Q' S' ∧ ((P ∧ Q ∧ S) ↔ (P' ∧ Q' ∧ S')) := by
  unfold zgo
  by_cases p : P
  · have p' := h1.mp p
    rw [if_pos p, if_pos p']
    by_cases q : Q
    · have q' := (h2 p).mp q
      rw [if_pos q, if_pos q']
      by_cases s : S
      · have s' := (h3 p q).mp s
        rw [if_pos s, if_pos s']; exact ⟨rfl, fun _ => ⟨p', q', s'⟩, fun _ => ⟨p, q, s⟩⟩
      · have s' : ¬ S' := fun z => s ((h3 p q).mpr z)
        rw [if_neg s, if_neg s']; exact ⟨rfl, fun z => absurd z.2.2 s, fun z => absurd z.2.2 s'⟩
    · have q' : ¬ Q' := fun z => q ((h2 p).mpr z)
      rw [if_neg q, if_neg q']; exact ⟨rfl, fun z => absurd z.2.1 q, fun z => absurd z.2.1 q'⟩
  · have p' : ¬ P' := fun z => p (h1.mpr z)
    rw [if_neg p, if_neg p']; exact ⟨rfl, fun z => absurd z.1 p, fun z => absurd z.1 p'⟩
/-- the model's part of the memory is as before -/
def zMs (μ μ1 : zM) : Prop := (∀ b, 38 ≤ b → b ≠ 63 → μ1 b = μ b) ∧ ∀ j, 11 ≤ j → μ1 63 j = μ 63 j
theorem zMs.rf (μ : zM) : zMs μ μ := ⟨fun _ _ _ => rfl, fun _ _ => rfl⟩
theorem zMs.x {μ μ1 : zM} {r i : Nat} {x : Int32} (h : zMs μ μ1) (hr : r < 38) : zMs μ (zu μ1 r i x) := ⟨fun b a c => by rw [zu_n _ _ _ (by omega)]; exact h.1 b a c, fun j a => by rw [zu_n _ _ _ (by omega)]; exact h.2 j a⟩
theorem zMs.s {μ μ1 : zM} {i : Nat} {x : Int32} (h : zMs μ μ1) (hi : i < 11) : zMs μ (zu μ1 63 i x) := ⟨fun b a c => by rw [zu_n _ _ _ c]; exact h.1 b a c, fun j a => by rw [zu_s, upd_n _ _ (by omega)]; exact h.2 j a⟩
theorem zMs.MI {μ μ1 : zM} {t c nc n : Nat} (h : zMs μ μ1) (H : zMI μ t c nc n) : zMI μ1 t c nc n := H.cg (fun b a c _ => h.1 b a c) (fun j a _ => h.2 j a)
/-- both calls went alike: r is the class's code, r2 the model's answer -/
def zOK (A : Nat) (r r2 : Int32) (μ2 : zM) (ov2 : Nat → Int64) : Prop := r = μ2 63 19 ∧ (r = 0 → ov2 0 = r2.toInt64) ∧ ∃ t c nc n, zR2 μ2 μ2 t c nc n (A + 1)
theorem zR2.th {μ : zM} {t c nc n A : Nat} (h : zR2 μ μ t c nc n A) (hA : A < 512) (x : Int32) : zR2 (zu μ 63 19 x) (zu μ 63 19 x) t c nc n (A + 1) :=
  (h.cg (fun b hb => zu_n _ _ _ (by omega)) (fun j hj => by rw [zu_s, upd_n _ _ (by omega)]) (fun b p q => zu_n _ _ _ (by omega)) (fun j p q => by rw [zu_s, upd_n _ _ (by omega)])).more (by omega) (by omega)
/-- both refuse -/
theorem zOK.no {μ : zM} {t c nc n A : Nat} (h : zR2 μ μ t c nc n A) (hA : A < 512) {r r2 : Int32} {ov2 : Nat → Int64} {P Q S P' Q' S' : Prop} [Decidable P] [Decidable Q] [Decidable S] [Decidable P'] [Decidable Q'] [Decidable S'] (e : zgo P Q S = zgo P' Q' S') (hn : ¬ (P ∧ Q ∧ S)) (hr : r = zgo P Q S) : zOK A r r2 (zu μ 63 19 (zgo P' Q' S')) ov2 :=
  ⟨by rw [zu_s, upd_s, hr, e], fun z => absurd (hr.symm.trans z) (zgo_n hn), t, c, nc, n, h.th hA _⟩
section
variable {μ μ1 : zM} {ov ov1 : Nat → Int64} {t c nc n A : Nat} {r : Int32}
theorem s_clock {a b : Int32} (h : zR2 μ μ t c nc n A) (hA : A < 512)
    (hL : ((((-500 ≤ a ∧ a ≤ 500) ∧ 0 ≤ b ∧ b ≤ 5000) ∧ (nc < 6) ∧ True) ∧ r = 0 ∧ ∃ v : Int32, (v = nI nc ∧ μ1 = zu (zu (zu (zu μ 2 nc a) 5 nc b) 4 nc 1) 63 4 (nI (nc + 1))) ∧ ov1 = vp_updL ov 0 v.toInt64) ∨ (¬ (((-500 ≤ a ∧ a ≤ 500) ∧ 0 ≤ b ∧ b ≤ 5000) ∧ (nc < 6) ∧ True) ∧ r = zgo ((-500 ≤ a ∧ a ≤ 500) ∧ 0 ≤ b ∧ b ≤ 5000) (nc < 6) True ∧ μ1 = μ ∧ ov1 = ov)) :
    zMs μ μ1 ∧ ∀ (r2 : Int32) (μ2 : zM) (ov2 : Nat → Int64),
      (((((-500 ≤ a ∧ a ≤ 500) ∧ 0 ≤ b ∧ b ≤ 5000) ∧ (μ1 63 12 < 6) ∧ True) ∧ (r2 = nI nc ∧ μ2 = zu (zu (zu (zu (zu μ1 63 19 0) 38 nc a) 40 nc b) 42 nc 1) 63 12 (nI (nc + 1))) ∧ ov2 = ov1) ∨ (¬ (((-500 ≤ a ∧ a ≤ 500) ∧ 0 ≤ b ∧ b ≤ 5000) ∧ (μ1 63 12 < 6) ∧ True) ∧ r2 = 0 ∧ μ2 = zu μ1 63 19 (zgo ((-500 ≤ a ∧ a ≤ 500) ∧ 0 ≤ b ∧ b ≤ 5000) (μ1 63 12 < 6) True) ∧ ov2 = ov1)) → zOK A r r2 μ2 ov2 := by
  have h12 := h.2.1.2.2.2.1
  have hn6 := h.2.1.2.2.2.2.1
  have hms : zMs μ μ1 := by
    rcases hL with ⟨-, -, v, ⟨-, e⟩, -⟩ | ⟨-, -, e, -⟩
    · rw [e]; exact ((((zMs.rf μ).x (by decide)).x (by decide)).x (by decide)).s (by decide)
    · rw [e]; exact zMs.rf μ
  refine ⟨hms, fun r2 μ2 ov2 hM => ?_⟩
  have hq : nc < 6 ↔ μ1 63 12 < 6 := by rw [hms.2 12 (by decide), h12, show (6 : Int32) = nI 6 from rfl, nI_ltI (by omega) (by omega)]
  obtain ⟨e, iff⟩ := zgo_cg (P := (-500 ≤ a ∧ a ≤ 500) ∧ 0 ≤ b ∧ b ≤ 5000) (Q := nc < 6) (S := True) (Q' := μ1 63 12 < 6) (S' := True) Iff.rfl (fun _ => hq) (fun _ _ => Iff.rfl)
  rcases hL with ⟨c1, hr, v, ⟨hv, e1⟩, ho⟩ | ⟨c1, hr, e1, ho⟩
  · rcases hM with ⟨-, ⟨m1, m2⟩, m3⟩ | ⟨c2, -⟩
    · refine ⟨?_, fun _ => by rw [m3, ho, m1, hv]; rfl, t, c, nc + 1, n, ?_⟩
      · rw [hr, m2, zu_s, upd_n _ _ (by decide), zu_n _ _ _ (by decide), zu_n _ _ _ (by decide), zu_n _ _ _ (by decide), zu_s, upd_s]
      · have z : ∀ b, b ≠ 63 → b ≠ 38 → b ≠ 40 → b ≠ 42 → μ2 b = μ1 b := fun b p q x y => by rw [m2, zu_n _ _ _ p, zu_n _ _ _ y, zu_n _ _ _ x, zu_n _ _ _ q, zu_n _ _ _ p]
        have z63 : ∀ j, j ≠ 12 → j ≠ 19 → μ2 63 j = μ1 63 j := fun j p q => by rw [m2, zu_s, upd_n _ _ p, zu_n _ _ _ (by decide), zu_n _ _ _ (by decide), zu_n _ _ _ (by decide), zu_s, upd_n _ _ q]
        have y : ∀ b, b ≠ 63 → b ≠ 2 → b ≠ 5 → b ≠ 4 → μ1 b = μ b := fun b p q x w => by rw [e1, zu_n _ _ _ p, zu_n _ _ _ w, zu_n _ _ _ x, zu_n _ _ _ q]
        have y63 : ∀ j, j ≠ 4 → μ1 63 j = μ 63 j := fun j p => by rw [e1, zu_s, upd_n _ _ p, zu_n _ _ _ (by decide), zu_n _ _ _ (by decide), zu_n _ _ _ (by decide)]
        refine (h.clock (κ := μ2) (a := a) (b := b) c1.2.1 c1.1.1 c1.1.2 ?_ ?_ ?_ ?_ ?_ ?_ (fun b q1 q2 q3 q4 => ?_) (fun b q1 q2 q3 q4 q5 => ?_) (fun j q1 q2 q3 => ?_) ?_ ?_).more (by omega) (by omega)
        · rw [z 2 (by decide) (by decide) (by decide) (by decide), e1]; simp [zu, zur]
        · rw [z 5 (by decide) (by decide) (by decide) (by decide), e1]; simp [zu, zur]
        · rw [z 4 (by decide) (by decide) (by decide) (by decide), e1]; simp [zu, zur]
        · rw [← y 38 (by decide) (by decide) (by decide) (by decide), m2]; simp [zu, zur]
        · rw [← y 40 (by decide) (by decide) (by decide) (by decide), m2]; simp [zu, zur]
        · rw [← y 42 (by decide) (by decide) (by decide) (by decide), m2]; simp [zu, zur]
        · rw [z b (by omega) (by omega) (by omega) (by omega)]; exact y b (by omega) q2 q3 q4
        · rw [z b (by omega) q3 q4 q5]; exact y b (by omega) (by omega) (by omega) (by omega)
        · rw [z63 j q3 (by omega)]; exact y63 j q2
        · rw [z63 4 (by decide) (by decide), e1, zu_s, upd_s]
        · rw [m2, zu_s, upd_s]
    · exact absurd (iff.mp c1) c2
  · rcases hM with ⟨c2, -⟩ | ⟨-, -, m2, -⟩
    · exact absurd (iff.mpr c2) c1
    · rw [m2, e1]; subst e1; exact zOK.no h hA e c1 hr
end
