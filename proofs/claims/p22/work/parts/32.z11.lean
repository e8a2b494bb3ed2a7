/-! ===== what is thrown ===== -/
theorem ztx_65 : (65, "rate or height is out of range") ∈ zTx := by decide +kernel
theorem ztx_76 : (76, "there are 6 clocks") ∈ zTx := by decide +kernel
theorem ztx_89 : (89, "there is no such clock") ∈ zTx := by decide +kernel
theorem ztx_92 : (92, "drift or weight is out of range") ∈ zTx := by decide +kernel
theorem ztx_102 : (102, "both clocks are the same, or asymmetry is out of range") ∈ zTx := by decide +kernel
theorem ztx_105 : (105, "there are 8 links") ∈ zTx := by decide +kernel
theorem ztx_110 : (110, "day or kind is out of range") ∈ zTx := by decide +kernel
theorem ztx_113 : (113, "there is no such clock or link") ∈ zTx := by decide +kernel
theorem ztx_120 : (120, "amount is out of range, or 40 events are to come") ∈ zTx := by decide +kernel
theorem ztx_125 : (125, "there is no such link") ∈ zTx := by decide +kernel
theorem ztx_127 : (127, "from, to or amount is out of range") ∈ zTx := by decide +kernel
theorem ztx_132 : (132, "the link has 10 calibrations") ∈ zTx := by decide +kernel
theorem ztx_137 : (137, "doubt or step is out of range") ∈ zTx := by decide +kernel
theorem ztx_139 : (139, "days is out of range") ∈ zTx := by decide +kernel
theorem ztx_141 : (141, "the day would be above 500") ∈ zTx := by decide +kernel
theorem ztx_146 : (146, "there is no such house") ∈ zTx := by decide +kernel
theorem ztx_151 : (151, "it was adopted, or no day has passed") ∈ zTx := by decide +kernel
theorem ztx_165 : (165, "what is out of range") ∈ zTx := by decide +kernel
theorem ztx_170 : (170, "there is no such link, or it did not measure on that day") ∈ zTx := by decide +kernel
theorem ztx_178 : (178, "there is no such link, or one did not measure on that day") ∈ zTx := by decide +kernel
theorem ztx_183 : (183, "the links are no ring") ∈ zTx := by decide +kernel
theorem ztx_199 : (199, "there was no such day") ∈ zTx := by decide +kernel
theorem ztx_208 : (208, "there was no such day, or there is no clock") ∈ zTx := by decide +kernel
theorem zth_67 : ∀ w ∈ (vx_atS RX4 67 "java/lang/IllegalArgumentException" zNm).filter (fun w => !goodWord w), w ∈ zBd "java/lang/IllegalArgumentException" := by decide +kernel
theorem ztg_67 : ∀ w ∈ Cond.classLink RX4 63 "java/lang/IllegalArgumentException" :: Cond.initialized "java/lang/IllegalArgumentException" :: vx_atS RX4 67 "java/lang/IllegalArgumentException" zNm, vx_ot w = true := by decide +kernel
theorem zth_78 : ∀ w ∈ (vx_atS RX4 78 "java/lang/IllegalStateException" zNm).filter (fun w => !goodWord w), w ∈ zBd "java/lang/IllegalStateException" := by decide +kernel
theorem ztg_78 : ∀ w ∈ Cond.classLink RX4 74 "java/lang/IllegalStateException" :: Cond.initialized "java/lang/IllegalStateException" :: vx_atS RX4 78 "java/lang/IllegalStateException" zNm, vx_ot w = true := by decide +kernel
theorem zth_91 : ∀ w ∈ (vx_atS RX4 91 "java/lang/IndexOutOfBoundsException" zNm).filter (fun w => !goodWord w), w ∈ zBd "java/lang/IndexOutOfBoundsException" := by decide +kernel
theorem ztg_91 : ∀ w ∈ Cond.classLink RX4 87 "java/lang/IndexOutOfBoundsException" :: Cond.initialized "java/lang/IndexOutOfBoundsException" :: vx_atS RX4 91 "java/lang/IndexOutOfBoundsException" zNm, vx_ot w = true := by decide +kernel
theorem zpp2 {P Q : Prop} {X a b : String} (h : (¬ P ∧ X = a) ∨ (P ∧ ¬ Q ∧ X = b)) : ¬ (P ∧ Q) := fun ⟨p, q⟩ => h.elim (fun z => z.1 p) (fun z => z.2.1 q)
theorem zScr.rf (μ : zM) : zScr μ μ := ⟨fun _ _ _ => rfl, fun _ _ => rfl⟩
def zevC (d k i a : Int32) : Int32 := d <<< (18 &&& 31) ||| k <<< (16 &&& 31) ||| i <<< (13 &&& 31) ||| (a + 500)
theorem zmin3 : ∀ a, a < 8 → ∀ b, b < 8 → ∀ c, c < 8 → (if (if nI c < nI b then nI c else nI b) < nI a then (if nI c < nI b then nI c else nI b) else nI a) = nI (min a (min b c)) := by decide +kernel
theorem zmax3 : ∀ a, a < 8 → ∀ b, b < 8 → ∀ c, c < 8 → (if nI a < (if nI b < nI c then nI c else nI b) then (if nI b < nI c then nI c else nI b) else nI a) = nI (max a (max b c)) := by decide +kernel
theorem zmid3 : ∀ a, a < 8 → ∀ b, b < 8 → ∀ c, c < 8 → nI a + nI b + nI c - nI (min a (min b c)) - nI (max a (max b c)) = nI (a + b + c - min a (min b c) - max a (max b c)) ∧ a + b + c - min a (min b c) - max a (max b c) < 8 ∧ min a (min b c) < 8 ∧ max a (max b c) < 8 := by decide +kernel
