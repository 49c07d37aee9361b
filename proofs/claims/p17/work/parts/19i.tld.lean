/-! Printed by wip/v2/gentl.py: the law reads what was written, a number. -/
def zPf (f : Nat → Int) : Prop := (0 ≤ f 205 ∧ f 205 ≤ 384) ∧ (0 ≤ f 212 ∧ f 212 ≤ 18) ∧ (0 ≤ f 213 ∧ f 213 ≤ 200) ∧ (0 ≤ f 214 ∧ f 214 ≤ 18)
/-- what stays in the law behind the run -/
def zPk (f : Nat → Int) (g : Nat → Int → Int) (f' : Nat → Int) (g' : Nat → Int → Int) : Prop := (f' 205 = f 205 ∧ f' 212 = f 212 ∧ f' 213 = f 213 ∧ f' 214 = f 214 ∧ f' 17 = f 17) ∧ (∀ x, g' 276 x = g 276 x) ∧ (∀ x, g' 277 x = g 277 x)
theorem zPk_Pf {f f' : Nat → Int} {g g' : Nat → Int → Int} (hP : zPf f) (h : zPk f g f' g') : zPf f' := by
  obtain ⟨⟨h1, h2, h3, h4, h5⟩, -⟩ := h
  unfold zPf
  rw [h1, h2, h3, h4]
  exact hP
theorem zL_T1p (hA : zAll) (X : ZX) {Ls : Nat} {xs : Nat → Int32} {v : Int} {T : List Int} {f : Nat → Int} {g : Nat → Int → Int} (hbd : zBd g) (hP : zPf f) (h17 : 1 ≤ f 17 ∧ f 17 ≤ 16) (h19 : 0 ≤ f 19 ∧ f 19 < 2 * f 17) (h20 : 0 ≤ f 20) (ht : zTx_1p v T) (hv : g 262 (f 19 % f 17) = v) (hW : zAtB (fun a j => g (a + 20) j) (f 20) 0 T) (hs : g 277 (f 20 + (T.length : Int)) = 32) (hl : f 20 + (T.length : Int) < f 205) :
    ∃ (f' : Nat → Int) (g' : Nat → Int → Int), zToL Ls xs 4 f g 4 f' g' ∧ zBd g' ∧ zPk f g f' g' ∧ (∀ x, g' 262 x = g 262 x) ∧ f' 20 = f 20 + (T.length : Int) + 1 ∧ f' 19 = f 19 + 1 := by
  obtain ⟨hb, hT⟩ := ht
  subst hT
  obtain ⟨w0, -⟩ := hW
  obtain ⟨⟨r205, r205b⟩, ⟨r212, r212b⟩, ⟨r213, r213b⟩, ⟨r214, r214b⟩⟩ := hP
  have hl : f 20 + 1 < f 205 := hl
  have hs : g 277 (f 20 + 1) = 32 := hs
  have w0 : g 277 (f 20) = (v + 48) := (congrArg (g 277) (Int.add_zero (f 20)).symm).trans w0
  obtain ⟨kn, hkn⟩ : ∃ kn, kn = f 19 % f 17 := ⟨_, rfl⟩
  rw [← hkn] at hv
  have okn : (0 : Int) ≤ (f 19) ∧ (0 : Int) < (f 17) ∧ kn = (f 19) % (f 17) := ⟨by omega, by omega, hkn⟩
  have knb : 0 ≤ kn ∧ kn ≤ 15 := by
    have z1 := Int.emod_nonneg (f 19) (show f 17 ≠ 0 by omega)
    have z2 := Int.emod_lt_of_pos (f 19) (show 0 < f 17 by omega)
    rw [← hkn] at z1 z2
    exact ⟨z1, by omega⟩
  clear hkn
  obtain ⟨f1, g1, p1_0, p1_1, p1_2, p1_3, p1_4, p1_5, p1_6, F1_276, F1_277, F1_262, hb1, ht1⟩ := zW_yT1p hA X (Ls := Ls) (xs := xs) f g hbd (kn) (v) (by first | assumption | omega | exact ⟨by omega, by omega⟩) (by first | assumption | omega | exact ⟨by omega, by omega⟩) (by first | assumption | omega | exact ⟨by omega, by omega⟩) (by first | assumption | omega | exact ⟨by omega, by omega⟩) (by first | assumption | omega | exact ⟨by omega, by omega⟩) (by first | assumption | omega | exact ⟨by omega, by omega⟩) (by first | assumption | omega | exact ⟨by omega, by omega⟩) (by first | assumption | omega | exact ⟨by omega, by omega⟩) (by first | assumption | omega | exact ⟨by omega, by omega⟩) (by first | assumption | omega | exact ⟨by omega, by omega⟩) (by first | assumption | omega | exact ⟨by omega, by omega⟩) (by first | assumption | omega | exact ⟨by omega, by omega⟩) (by first | assumption | omega | exact ⟨by omega, by omega⟩) (by first | assumption | omega | exact ⟨by omega, by omega⟩) (by first | assumption | omega | exact ⟨by omega, by omega⟩) (by first | assumption | omega | exact ⟨by omega, by omega⟩)
  exact ⟨f1, g1, ht1, hb1, ⟨⟨p1_0, p1_1, p1_2, p1_3, p1_4⟩, F1_276, F1_277⟩, F1_262, (p1_5).trans (show f 20 + 2 = f 20 + 1 + 1 by omega), p1_6⟩
theorem zL_T1m (hA : zAll) (X : ZX) {Ls : Nat} {xs : Nat → Int32} {v : Int} {T : List Int} {f : Nat → Int} {g : Nat → Int → Int} (hbd : zBd g) (hP : zPf f) (h17 : 1 ≤ f 17 ∧ f 17 ≤ 16) (h19 : 0 ≤ f 19 ∧ f 19 < 2 * f 17) (h20 : 0 ≤ f 20) (ht : zTx_1m v T) (hv : g 262 (f 19 % f 17) = v) (hW : zAtB (fun a j => g (a + 20) j) (f 20) 0 T) (hs : g 277 (f 20 + (T.length : Int)) = 32) (hl : f 20 + (T.length : Int) < f 205) :
    ∃ (f' : Nat → Int) (g' : Nat → Int → Int), zToL Ls xs 4 f g 4 f' g' ∧ zBd g' ∧ zPk f g f' g' ∧ (∀ x, g' 262 x = g 262 x) ∧ f' 20 = f 20 + (T.length : Int) + 1 ∧ f' 19 = f 19 + 1 := by
  obtain ⟨hb, hT⟩ := ht
  subst hT
  obtain ⟨w0, w1, -⟩ := hW
  obtain ⟨⟨r205, r205b⟩, ⟨r212, r212b⟩, ⟨r213, r213b⟩, ⟨r214, r214b⟩⟩ := hP
  have hl : f 20 + 2 < f 205 := hl
  have hs : g 277 (f 20 + 2) = 32 := hs
  have w0 : g 277 (f 20) = 45 := (congrArg (g 277) (Int.add_zero (f 20)).symm).trans w0
  have w1 : g 277 (f 20 + 1) = ((-v) + 48) := w1
  obtain ⟨kn, hkn⟩ : ∃ kn, kn = f 19 % f 17 := ⟨_, rfl⟩
  rw [← hkn] at hv
  have okn : (0 : Int) ≤ (f 19) ∧ (0 : Int) < (f 17) ∧ kn = (f 19) % (f 17) := ⟨by omega, by omega, hkn⟩
  have knb : 0 ≤ kn ∧ kn ≤ 15 := by
    have z1 := Int.emod_nonneg (f 19) (show f 17 ≠ 0 by omega)
    have z2 := Int.emod_lt_of_pos (f 19) (show 0 < f 17 by omega)
    rw [← hkn] at z1 z2
    exact ⟨z1, by omega⟩
  clear hkn
  obtain ⟨f1, g1, p1_0, p1_1, p1_2, p1_3, p1_4, p1_5, p1_6, F1_276, F1_277, F1_262, hb1, ht1⟩ := zW_yT1m hA X (Ls := Ls) (xs := xs) f g hbd (kn) (v) (by first | assumption | omega | exact ⟨by omega, by omega⟩) (by first | assumption | omega | exact ⟨by omega, by omega⟩) (by first | assumption | omega | exact ⟨by omega, by omega⟩) (by first | assumption | omega | exact ⟨by omega, by omega⟩) (by first | assumption | omega | exact ⟨by omega, by omega⟩) (by first | assumption | omega | exact ⟨by omega, by omega⟩) (by first | assumption | omega | exact ⟨by omega, by omega⟩) (by first | assumption | omega | exact ⟨by omega, by omega⟩) (by first | assumption | omega | exact ⟨by omega, by omega⟩) (by first | assumption | omega | exact ⟨by omega, by omega⟩) (by first | assumption | omega | exact ⟨by omega, by omega⟩) (by first | assumption | omega | exact ⟨by omega, by omega⟩) (by first | assumption | omega | exact ⟨by omega, by omega⟩) (by first | assumption | omega | exact ⟨by omega, by omega⟩) (by first | assumption | omega | exact ⟨by omega, by omega⟩) (by first | assumption | omega | exact ⟨by omega, by omega⟩) (by first | assumption | omega | exact ⟨by omega, by omega⟩) (by first | assumption | omega | exact ⟨by omega, by omega⟩)
  exact ⟨f1, g1, ht1, hb1, ⟨⟨p1_0, p1_1, p1_2, p1_3, p1_4⟩, F1_276, F1_277⟩, F1_262, (p1_5).trans (show f 20 + 3 = f 20 + 2 + 1 by omega), p1_6⟩
theorem zL_T2p (hA : zAll) (X : ZX) {Ls : Nat} {xs : Nat → Int32} {v : Int} {T : List Int} {f : Nat → Int} {g : Nat → Int → Int} (hbd : zBd g) (hP : zPf f) (h17 : 1 ≤ f 17 ∧ f 17 ≤ 16) (h19 : 0 ≤ f 19 ∧ f 19 < 2 * f 17) (h20 : 0 ≤ f 20) (ht : zTx_2p v T) (hv : g 262 (f 19 % f 17) = v) (hW : zAtB (fun a j => g (a + 20) j) (f 20) 0 T) (hs : g 277 (f 20 + (T.length : Int)) = 32) (hl : f 20 + (T.length : Int) < f 205) :
    ∃ (f' : Nat → Int) (g' : Nat → Int → Int), zToL Ls xs 4 f g 4 f' g' ∧ zBd g' ∧ zPk f g f' g' ∧ (∀ x, g' 262 x = g 262 x) ∧ f' 20 = f 20 + (T.length : Int) + 1 ∧ f' 19 = f 19 + 1 := by
  obtain ⟨hb, hT⟩ := ht
  subst hT
  obtain ⟨w0, w1, -⟩ := hW
  obtain ⟨⟨r205, r205b⟩, ⟨r212, r212b⟩, ⟨r213, r213b⟩, ⟨r214, r214b⟩⟩ := hP
  have hl : f 20 + 2 < f 205 := hl
  have hs : g 277 (f 20 + 2) = 32 := hs
  have w0 : g 277 (f 20) = ((v / 10) + 48) := (congrArg (g 277) (Int.add_zero (f 20)).symm).trans w0
  have w1 : g 277 (f 20 + 1) = ((v % 10) + 48) := w1
  obtain ⟨kn, hkn⟩ : ∃ kn, kn = f 19 % f 17 := ⟨_, rfl⟩
  rw [← hkn] at hv
  have okn : (0 : Int) ≤ (f 19) ∧ (0 : Int) < (f 17) ∧ kn = (f 19) % (f 17) := ⟨by omega, by omega, hkn⟩
  have knb : 0 ≤ kn ∧ kn ≤ 15 := by
    have z1 := Int.emod_nonneg (f 19) (show f 17 ≠ 0 by omega)
    have z2 := Int.emod_lt_of_pos (f 19) (show 0 < f 17 by omega)
    rw [← hkn] at z1 z2
    exact ⟨z1, by omega⟩
  clear hkn
  obtain ⟨f1, g1, p1_0, p1_1, p1_2, p1_3, p1_4, p1_5, p1_6, F1_276, F1_277, F1_262, hb1, ht1⟩ := zW_yT2p hA X (Ls := Ls) (xs := xs) f g hbd (kn) (v) (by first | assumption | omega | exact ⟨by omega, by omega⟩) (by first | assumption | omega | exact ⟨by omega, by omega⟩) (by first | assumption | omega | exact ⟨by omega, by omega⟩) (by first | assumption | omega | exact ⟨by omega, by omega⟩) (by first | assumption | omega | exact ⟨by omega, by omega⟩) (by first | assumption | omega | exact ⟨by omega, by omega⟩) (by first | assumption | omega | exact ⟨by omega, by omega⟩) (by first | assumption | omega | exact ⟨by omega, by omega⟩) (by first | assumption | omega | exact ⟨by omega, by omega⟩) (by first | assumption | omega | exact ⟨by omega, by omega⟩) (by first | assumption | omega | exact ⟨by omega, by omega⟩) (by first | assumption | omega | exact ⟨by omega, by omega⟩) (by first | assumption | omega | exact ⟨by omega, by omega⟩) (by first | assumption | omega | exact ⟨by omega, by omega⟩) (by first | assumption | omega | exact ⟨by omega, by omega⟩) (by first | assumption | omega | exact ⟨by omega, by omega⟩) (by first | assumption | omega | exact ⟨by omega, by omega⟩) (by first | assumption | omega | exact ⟨by omega, by omega⟩)
  exact ⟨f1, g1, ht1, hb1, ⟨⟨p1_0, p1_1, p1_2, p1_3, p1_4⟩, F1_276, F1_277⟩, F1_262, (p1_5).trans (show f 20 + 3 = f 20 + 2 + 1 by omega), p1_6⟩
theorem zL_T2m (hA : zAll) (X : ZX) {Ls : Nat} {xs : Nat → Int32} {v : Int} {T : List Int} {f : Nat → Int} {g : Nat → Int → Int} (hbd : zBd g) (hP : zPf f) (h17 : 1 ≤ f 17 ∧ f 17 ≤ 16) (h19 : 0 ≤ f 19 ∧ f 19 < 2 * f 17) (h20 : 0 ≤ f 20) (ht : zTx_2m v T) (hv : g 262 (f 19 % f 17) = v) (hW : zAtB (fun a j => g (a + 20) j) (f 20) 0 T) (hs : g 277 (f 20 + (T.length : Int)) = 32) (hl : f 20 + (T.length : Int) < f 205) :
    ∃ (f' : Nat → Int) (g' : Nat → Int → Int), zToL Ls xs 4 f g 4 f' g' ∧ zBd g' ∧ zPk f g f' g' ∧ (∀ x, g' 262 x = g 262 x) ∧ f' 20 = f 20 + (T.length : Int) + 1 ∧ f' 19 = f 19 + 1 := by
  obtain ⟨hb, hT⟩ := ht
  subst hT
  obtain ⟨w0, w1, w2, -⟩ := hW
  obtain ⟨⟨r205, r205b⟩, ⟨r212, r212b⟩, ⟨r213, r213b⟩, ⟨r214, r214b⟩⟩ := hP
  have hl : f 20 + 3 < f 205 := hl
  have hs : g 277 (f 20 + 3) = 32 := hs
  have w0 : g 277 (f 20) = 45 := (congrArg (g 277) (Int.add_zero (f 20)).symm).trans w0
  have w1 : g 277 (f 20 + 1) = (((-v) / 10) + 48) := w1
  have w2 : g 277 (f 20 + 2) = (((-v) % 10) + 48) := w2
  obtain ⟨kn, hkn⟩ : ∃ kn, kn = f 19 % f 17 := ⟨_, rfl⟩
  rw [← hkn] at hv
  have okn : (0 : Int) ≤ (f 19) ∧ (0 : Int) < (f 17) ∧ kn = (f 19) % (f 17) := ⟨by omega, by omega, hkn⟩
  have knb : 0 ≤ kn ∧ kn ≤ 15 := by
    have z1 := Int.emod_nonneg (f 19) (show f 17 ≠ 0 by omega)
    have z2 := Int.emod_lt_of_pos (f 19) (show 0 < f 17 by omega)
    rw [← hkn] at z1 z2
    exact ⟨z1, by omega⟩
  clear hkn
  obtain ⟨f1, g1, p1_0, p1_1, p1_2, p1_3, p1_4, p1_5, p1_6, F1_276, F1_277, F1_262, hb1, ht1⟩ := zW_yT2m hA X (Ls := Ls) (xs := xs) f g hbd (kn) (v) (by first | assumption | omega | exact ⟨by omega, by omega⟩) (by first | assumption | omega | exact ⟨by omega, by omega⟩) (by first | assumption | omega | exact ⟨by omega, by omega⟩) (by first | assumption | omega | exact ⟨by omega, by omega⟩) (by first | assumption | omega | exact ⟨by omega, by omega⟩) (by first | assumption | omega | exact ⟨by omega, by omega⟩) (by first | assumption | omega | exact ⟨by omega, by omega⟩) (by first | assumption | omega | exact ⟨by omega, by omega⟩) (by first | assumption | omega | exact ⟨by omega, by omega⟩) (by first | assumption | omega | exact ⟨by omega, by omega⟩) (by first | assumption | omega | exact ⟨by omega, by omega⟩) (by first | assumption | omega | exact ⟨by omega, by omega⟩) (by first | assumption | omega | exact ⟨by omega, by omega⟩) (by first | assumption | omega | exact ⟨by omega, by omega⟩) (by first | assumption | omega | exact ⟨by omega, by omega⟩) (by first | assumption | omega | exact ⟨by omega, by omega⟩) (by first | assumption | omega | exact ⟨by omega, by omega⟩) (by first | assumption | omega | exact ⟨by omega, by omega⟩) (by first | assumption | omega | exact ⟨by omega, by omega⟩) (by first | assumption | omega | exact ⟨by omega, by omega⟩)
  exact ⟨f1, g1, ht1, hb1, ⟨⟨p1_0, p1_1, p1_2, p1_3, p1_4⟩, F1_276, F1_277⟩, F1_262, (p1_5).trans (show f 20 + 4 = f 20 + 3 + 1 by omega), p1_6⟩
theorem zL_T3p (hA : zAll) (X : ZX) {Ls : Nat} {xs : Nat → Int32} {v : Int} {T : List Int} {f : Nat → Int} {g : Nat → Int → Int} (hbd : zBd g) (hP : zPf f) (h17 : 1 ≤ f 17 ∧ f 17 ≤ 16) (h19 : 0 ≤ f 19 ∧ f 19 < 2 * f 17) (h20 : 0 ≤ f 20) (ht : zTx_3p v T) (hv : g 262 (f 19 % f 17) = v) (hW : zAtB (fun a j => g (a + 20) j) (f 20) 0 T) (hs : g 277 (f 20 + (T.length : Int)) = 32) (hl : f 20 + (T.length : Int) < f 205) :
    ∃ (f' : Nat → Int) (g' : Nat → Int → Int), zToL Ls xs 4 f g 4 f' g' ∧ zBd g' ∧ zPk f g f' g' ∧ (∀ x, g' 262 x = g 262 x) ∧ f' 20 = f 20 + (T.length : Int) + 1 ∧ f' 19 = f 19 + 1 := by
  obtain ⟨hb, hT⟩ := ht
  subst hT
  obtain ⟨w0, w1, w2, -⟩ := hW
  obtain ⟨⟨r205, r205b⟩, ⟨r212, r212b⟩, ⟨r213, r213b⟩, ⟨r214, r214b⟩⟩ := hP
  have hl : f 20 + 3 < f 205 := hl
  have hs : g 277 (f 20 + 3) = 32 := hs
  have w0 : g 277 (f 20) = ((v / 100) + 48) := (congrArg (g 277) (Int.add_zero (f 20)).symm).trans w0
  have w1 : g 277 (f 20 + 1) = (((v / 10) % 10) + 48) := w1
  have w2 : g 277 (f 20 + 2) = ((v % 10) + 48) := w2
  obtain ⟨kn, hkn⟩ : ∃ kn, kn = f 19 % f 17 := ⟨_, rfl⟩
  rw [← hkn] at hv
  have okn : (0 : Int) ≤ (f 19) ∧ (0 : Int) < (f 17) ∧ kn = (f 19) % (f 17) := ⟨by omega, by omega, hkn⟩
  have knb : 0 ≤ kn ∧ kn ≤ 15 := by
    have z1 := Int.emod_nonneg (f 19) (show f 17 ≠ 0 by omega)
    have z2 := Int.emod_lt_of_pos (f 19) (show 0 < f 17 by omega)
    rw [← hkn] at z1 z2
    exact ⟨z1, by omega⟩
  clear hkn
  obtain ⟨f1, g1, p1_0, p1_1, p1_2, p1_3, p1_4, p1_5, p1_6, F1_276, F1_277, F1_262, hb1, ht1⟩ := zW_yT3p hA X (Ls := Ls) (xs := xs) f g hbd (kn) (v) (by first | assumption | omega | exact ⟨by omega, by omega⟩) (by first | assumption | omega | exact ⟨by omega, by omega⟩) (by first | assumption | omega | exact ⟨by omega, by omega⟩) (by first | assumption | omega | exact ⟨by omega, by omega⟩) (by first | assumption | omega | exact ⟨by omega, by omega⟩) (by first | assumption | omega | exact ⟨by omega, by omega⟩) (by first | assumption | omega | exact ⟨by omega, by omega⟩) (by first | assumption | omega | exact ⟨by omega, by omega⟩) (by first | assumption | omega | exact ⟨by omega, by omega⟩) (by first | assumption | omega | exact ⟨by omega, by omega⟩) (by first | assumption | omega | exact ⟨by omega, by omega⟩) (by first | assumption | omega | exact ⟨by omega, by omega⟩) (by first | assumption | omega | exact ⟨by omega, by omega⟩) (by first | assumption | omega | exact ⟨by omega, by omega⟩) (by first | assumption | omega | exact ⟨by omega, by omega⟩) (by first | assumption | omega | exact ⟨by omega, by omega⟩) (by first | assumption | omega | exact ⟨by omega, by omega⟩) (by first | assumption | omega | exact ⟨by omega, by omega⟩) (by first | assumption | omega | exact ⟨by omega, by omega⟩) (by first | assumption | omega | exact ⟨by omega, by omega⟩)
  exact ⟨f1, g1, ht1, hb1, ⟨⟨p1_0, p1_1, p1_2, p1_3, p1_4⟩, F1_276, F1_277⟩, F1_262, (p1_5).trans (show f 20 + 4 = f 20 + 3 + 1 by omega), p1_6⟩
theorem zL_T3m (hA : zAll) (X : ZX) {Ls : Nat} {xs : Nat → Int32} {v : Int} {T : List Int} {f : Nat → Int} {g : Nat → Int → Int} (hbd : zBd g) (hP : zPf f) (h17 : 1 ≤ f 17 ∧ f 17 ≤ 16) (h19 : 0 ≤ f 19 ∧ f 19 < 2 * f 17) (h20 : 0 ≤ f 20) (ht : zTx_3m v T) (hv : g 262 (f 19 % f 17) = v) (hW : zAtB (fun a j => g (a + 20) j) (f 20) 0 T) (hs : g 277 (f 20 + (T.length : Int)) = 32) (hl : f 20 + (T.length : Int) < f 205) :
    ∃ (f' : Nat → Int) (g' : Nat → Int → Int), zToL Ls xs 4 f g 4 f' g' ∧ zBd g' ∧ zPk f g f' g' ∧ (∀ x, g' 262 x = g 262 x) ∧ f' 20 = f 20 + (T.length : Int) + 1 ∧ f' 19 = f 19 + 1 := by
  obtain ⟨hb, hT⟩ := ht
  subst hT
  obtain ⟨w0, w1, w2, w3, -⟩ := hW
  obtain ⟨⟨r205, r205b⟩, ⟨r212, r212b⟩, ⟨r213, r213b⟩, ⟨r214, r214b⟩⟩ := hP
  have hl : f 20 + 4 < f 205 := hl
  have hs : g 277 (f 20 + 4) = 32 := hs
  have w0 : g 277 (f 20) = 45 := (congrArg (g 277) (Int.add_zero (f 20)).symm).trans w0
  have w1 : g 277 (f 20 + 1) = (((-v) / 100) + 48) := w1
  have w2 : g 277 (f 20 + 2) = ((((-v) / 10) % 10) + 48) := w2
  have w3 : g 277 (f 20 + 3) = (((-v) % 10) + 48) := w3
  obtain ⟨kn, hkn⟩ : ∃ kn, kn = f 19 % f 17 := ⟨_, rfl⟩
  rw [← hkn] at hv
  have okn : (0 : Int) ≤ (f 19) ∧ (0 : Int) < (f 17) ∧ kn = (f 19) % (f 17) := ⟨by omega, by omega, hkn⟩
  have knb : 0 ≤ kn ∧ kn ≤ 15 := by
    have z1 := Int.emod_nonneg (f 19) (show f 17 ≠ 0 by omega)
    have z2 := Int.emod_lt_of_pos (f 19) (show 0 < f 17 by omega)
    rw [← hkn] at z1 z2
    exact ⟨z1, by omega⟩
  clear hkn
  obtain ⟨f1, g1, p1_0, p1_1, p1_2, p1_3, p1_4, p1_5, p1_6, F1_276, F1_277, F1_262, hb1, ht1⟩ := zW_yT3m hA X (Ls := Ls) (xs := xs) f g hbd (kn) (v) (by first | assumption | omega | exact ⟨by omega, by omega⟩) (by first | assumption | omega | exact ⟨by omega, by omega⟩) (by first | assumption | omega | exact ⟨by omega, by omega⟩) (by first | assumption | omega | exact ⟨by omega, by omega⟩) (by first | assumption | omega | exact ⟨by omega, by omega⟩) (by first | assumption | omega | exact ⟨by omega, by omega⟩) (by first | assumption | omega | exact ⟨by omega, by omega⟩) (by first | assumption | omega | exact ⟨by omega, by omega⟩) (by first | assumption | omega | exact ⟨by omega, by omega⟩) (by first | assumption | omega | exact ⟨by omega, by omega⟩) (by first | assumption | omega | exact ⟨by omega, by omega⟩) (by first | assumption | omega | exact ⟨by omega, by omega⟩) (by first | assumption | omega | exact ⟨by omega, by omega⟩) (by first | assumption | omega | exact ⟨by omega, by omega⟩) (by first | assumption | omega | exact ⟨by omega, by omega⟩) (by first | assumption | omega | exact ⟨by omega, by omega⟩) (by first | assumption | omega | exact ⟨by omega, by omega⟩) (by first | assumption | omega | exact ⟨by omega, by omega⟩) (by first | assumption | omega | exact ⟨by omega, by omega⟩) (by first | assumption | omega | exact ⟨by omega, by omega⟩) (by first | assumption | omega | exact ⟨by omega, by omega⟩) (by first | assumption | omega | exact ⟨by omega, by omega⟩)
  exact ⟨f1, g1, ht1, hb1, ⟨⟨p1_0, p1_1, p1_2, p1_3, p1_4⟩, F1_276, F1_277⟩, F1_262, (p1_5).trans (show f 20 + 5 = f 20 + 4 + 1 by omega), p1_6⟩
theorem zL_T4p (hA : zAll) (X : ZX) {Ls : Nat} {xs : Nat → Int32} {v : Int} {T : List Int} {f : Nat → Int} {g : Nat → Int → Int} (hbd : zBd g) (hP : zPf f) (h17 : 1 ≤ f 17 ∧ f 17 ≤ 16) (h19 : 0 ≤ f 19 ∧ f 19 < 2 * f 17) (h20 : 0 ≤ f 20) (ht : zTx_4p v T) (hv : g 262 (f 19 % f 17) = v) (hW : zAtB (fun a j => g (a + 20) j) (f 20) 0 T) (hs : g 277 (f 20 + (T.length : Int)) = 32) (hl : f 20 + (T.length : Int) < f 205) :
    ∃ (f' : Nat → Int) (g' : Nat → Int → Int), zToL Ls xs 4 f g 4 f' g' ∧ zBd g' ∧ zPk f g f' g' ∧ (∀ x, g' 262 x = g 262 x) ∧ f' 20 = f 20 + (T.length : Int) + 1 ∧ f' 19 = f 19 + 1 := by
  obtain ⟨hb, hT⟩ := ht
  subst hT
  obtain ⟨w0, w1, w2, w3, -⟩ := hW
  obtain ⟨⟨r205, r205b⟩, ⟨r212, r212b⟩, ⟨r213, r213b⟩, ⟨r214, r214b⟩⟩ := hP
  have hl : f 20 + 4 < f 205 := hl
  have hs : g 277 (f 20 + 4) = 32 := hs
  have w0 : g 277 (f 20) = ((v / 1000) + 48) := (congrArg (g 277) (Int.add_zero (f 20)).symm).trans w0
  have w1 : g 277 (f 20 + 1) = (((v / 100) % 10) + 48) := w1
  have w2 : g 277 (f 20 + 2) = (((v / 10) % 10) + 48) := w2
  have w3 : g 277 (f 20 + 3) = ((v % 10) + 48) := w3
  obtain ⟨kn, hkn⟩ : ∃ kn, kn = f 19 % f 17 := ⟨_, rfl⟩
  rw [← hkn] at hv
  have okn : (0 : Int) ≤ (f 19) ∧ (0 : Int) < (f 17) ∧ kn = (f 19) % (f 17) := ⟨by omega, by omega, hkn⟩
  have knb : 0 ≤ kn ∧ kn ≤ 15 := by
    have z1 := Int.emod_nonneg (f 19) (show f 17 ≠ 0 by omega)
    have z2 := Int.emod_lt_of_pos (f 19) (show 0 < f 17 by omega)
    rw [← hkn] at z1 z2
    exact ⟨z1, by omega⟩
  clear hkn
  obtain ⟨f1, g1, p1_0, p1_1, p1_2, p1_3, p1_4, p1_5, p1_6, F1_276, F1_277, F1_262, hb1, ht1⟩ := zW_yT4p hA X (Ls := Ls) (xs := xs) f g hbd (kn) (v) (by first | assumption | omega | exact ⟨by omega, by omega⟩) (by first | assumption | omega | exact ⟨by omega, by omega⟩) (by first | assumption | omega | exact ⟨by omega, by omega⟩) (by first | assumption | omega | exact ⟨by omega, by omega⟩) (by first | assumption | omega | exact ⟨by omega, by omega⟩) (by first | assumption | omega | exact ⟨by omega, by omega⟩) (by first | assumption | omega | exact ⟨by omega, by omega⟩) (by first | assumption | omega | exact ⟨by omega, by omega⟩) (by first | assumption | omega | exact ⟨by omega, by omega⟩) (by first | assumption | omega | exact ⟨by omega, by omega⟩) (by first | assumption | omega | exact ⟨by omega, by omega⟩) (by first | assumption | omega | exact ⟨by omega, by omega⟩) (by first | assumption | omega | exact ⟨by omega, by omega⟩) (by first | assumption | omega | exact ⟨by omega, by omega⟩) (by first | assumption | omega | exact ⟨by omega, by omega⟩) (by first | assumption | omega | exact ⟨by omega, by omega⟩) (by first | assumption | omega | exact ⟨by omega, by omega⟩) (by first | assumption | omega | exact ⟨by omega, by omega⟩) (by first | assumption | omega | exact ⟨by omega, by omega⟩) (by first | assumption | omega | exact ⟨by omega, by omega⟩) (by first | assumption | omega | exact ⟨by omega, by omega⟩) (by first | assumption | omega | exact ⟨by omega, by omega⟩)
  exact ⟨f1, g1, ht1, hb1, ⟨⟨p1_0, p1_1, p1_2, p1_3, p1_4⟩, F1_276, F1_277⟩, F1_262, (p1_5).trans (show f 20 + 5 = f 20 + 4 + 1 by omega), p1_6⟩
theorem zL_T4m (hA : zAll) (X : ZX) {Ls : Nat} {xs : Nat → Int32} {v : Int} {T : List Int} {f : Nat → Int} {g : Nat → Int → Int} (hbd : zBd g) (hP : zPf f) (h17 : 1 ≤ f 17 ∧ f 17 ≤ 16) (h19 : 0 ≤ f 19 ∧ f 19 < 2 * f 17) (h20 : 0 ≤ f 20) (ht : zTx_4m v T) (hv : g 262 (f 19 % f 17) = v) (hW : zAtB (fun a j => g (a + 20) j) (f 20) 0 T) (hs : g 277 (f 20 + (T.length : Int)) = 32) (hl : f 20 + (T.length : Int) < f 205) :
    ∃ (f' : Nat → Int) (g' : Nat → Int → Int), zToL Ls xs 4 f g 4 f' g' ∧ zBd g' ∧ zPk f g f' g' ∧ (∀ x, g' 262 x = g 262 x) ∧ f' 20 = f 20 + (T.length : Int) + 1 ∧ f' 19 = f 19 + 1 := by
  obtain ⟨hb, hT⟩ := ht
  subst hT
  obtain ⟨w0, w1, w2, w3, w4, -⟩ := hW
  obtain ⟨⟨r205, r205b⟩, ⟨r212, r212b⟩, ⟨r213, r213b⟩, ⟨r214, r214b⟩⟩ := hP
  have hl : f 20 + 5 < f 205 := hl
  have hs : g 277 (f 20 + 5) = 32 := hs
  have w0 : g 277 (f 20) = 45 := (congrArg (g 277) (Int.add_zero (f 20)).symm).trans w0
  have w1 : g 277 (f 20 + 1) = (((-v) / 1000) + 48) := w1
  have w2 : g 277 (f 20 + 2) = ((((-v) / 100) % 10) + 48) := w2
  have w3 : g 277 (f 20 + 3) = ((((-v) / 10) % 10) + 48) := w3
  have w4 : g 277 (f 20 + 4) = (((-v) % 10) + 48) := w4
  obtain ⟨kn, hkn⟩ : ∃ kn, kn = f 19 % f 17 := ⟨_, rfl⟩
  rw [← hkn] at hv
  have okn : (0 : Int) ≤ (f 19) ∧ (0 : Int) < (f 17) ∧ kn = (f 19) % (f 17) := ⟨by omega, by omega, hkn⟩
  have knb : 0 ≤ kn ∧ kn ≤ 15 := by
    have z1 := Int.emod_nonneg (f 19) (show f 17 ≠ 0 by omega)
    have z2 := Int.emod_lt_of_pos (f 19) (show 0 < f 17 by omega)
    rw [← hkn] at z1 z2
    exact ⟨z1, by omega⟩
  clear hkn
  obtain ⟨f1, g1, p1_0, p1_1, p1_2, p1_3, p1_4, p1_5, p1_6, F1_276, F1_277, F1_262, hb1, ht1⟩ := zW_yT4m hA X (Ls := Ls) (xs := xs) f g hbd (kn) (v) (by first | assumption | omega | exact ⟨by omega, by omega⟩) (by first | assumption | omega | exact ⟨by omega, by omega⟩) (by first | assumption | omega | exact ⟨by omega, by omega⟩) (by first | assumption | omega | exact ⟨by omega, by omega⟩) (by first | assumption | omega | exact ⟨by omega, by omega⟩) (by first | assumption | omega | exact ⟨by omega, by omega⟩) (by first | assumption | omega | exact ⟨by omega, by omega⟩) (by first | assumption | omega | exact ⟨by omega, by omega⟩) (by first | assumption | omega | exact ⟨by omega, by omega⟩) (by first | assumption | omega | exact ⟨by omega, by omega⟩) (by first | assumption | omega | exact ⟨by omega, by omega⟩) (by first | assumption | omega | exact ⟨by omega, by omega⟩) (by first | assumption | omega | exact ⟨by omega, by omega⟩) (by first | assumption | omega | exact ⟨by omega, by omega⟩) (by first | assumption | omega | exact ⟨by omega, by omega⟩) (by first | assumption | omega | exact ⟨by omega, by omega⟩) (by first | assumption | omega | exact ⟨by omega, by omega⟩) (by first | assumption | omega | exact ⟨by omega, by omega⟩) (by first | assumption | omega | exact ⟨by omega, by omega⟩) (by first | assumption | omega | exact ⟨by omega, by omega⟩) (by first | assumption | omega | exact ⟨by omega, by omega⟩) (by first | assumption | omega | exact ⟨by omega, by omega⟩) (by first | assumption | omega | exact ⟨by omega, by omega⟩) (by first | assumption | omega | exact ⟨by omega, by omega⟩)
  exact ⟨f1, g1, ht1, hb1, ⟨⟨p1_0, p1_1, p1_2, p1_3, p1_4⟩, F1_276, F1_277⟩, F1_262, (p1_5).trans (show f 20 + 6 = f 20 + 5 + 1 by omega), p1_6⟩
theorem zL_T5p (hA : zAll) (X : ZX) {Ls : Nat} {xs : Nat → Int32} {v : Int} {T : List Int} {f : Nat → Int} {g : Nat → Int → Int} (hbd : zBd g) (hP : zPf f) (h17 : 1 ≤ f 17 ∧ f 17 ≤ 16) (h19 : 0 ≤ f 19 ∧ f 19 < 2 * f 17) (h20 : 0 ≤ f 20) (ht : zTx_5p v T) (hv : g 262 (f 19 % f 17) = v) (hW : zAtB (fun a j => g (a + 20) j) (f 20) 0 T) (hs : g 277 (f 20 + (T.length : Int)) = 32) (hl : f 20 + (T.length : Int) < f 205) :
    ∃ (f' : Nat → Int) (g' : Nat → Int → Int), zToL Ls xs 4 f g 4 f' g' ∧ zBd g' ∧ zPk f g f' g' ∧ (∀ x, g' 262 x = g 262 x) ∧ f' 20 = f 20 + (T.length : Int) + 1 ∧ f' 19 = f 19 + 1 := by
  obtain ⟨hb, hT⟩ := ht
  subst hT
  obtain ⟨w0, w1, w2, w3, w4, -⟩ := hW
  obtain ⟨⟨r205, r205b⟩, ⟨r212, r212b⟩, ⟨r213, r213b⟩, ⟨r214, r214b⟩⟩ := hP
  have hl : f 20 + 5 < f 205 := hl
  have hs : g 277 (f 20 + 5) = 32 := hs
  have w0 : g 277 (f 20) = ((v / 10000) + 48) := (congrArg (g 277) (Int.add_zero (f 20)).symm).trans w0
  have w1 : g 277 (f 20 + 1) = (((v / 1000) % 10) + 48) := w1
  have w2 : g 277 (f 20 + 2) = (((v / 100) % 10) + 48) := w2
  have w3 : g 277 (f 20 + 3) = (((v / 10) % 10) + 48) := w3
  have w4 : g 277 (f 20 + 4) = ((v % 10) + 48) := w4
  obtain ⟨kn, hkn⟩ : ∃ kn, kn = f 19 % f 17 := ⟨_, rfl⟩
  rw [← hkn] at hv
  have okn : (0 : Int) ≤ (f 19) ∧ (0 : Int) < (f 17) ∧ kn = (f 19) % (f 17) := ⟨by omega, by omega, hkn⟩
  have knb : 0 ≤ kn ∧ kn ≤ 15 := by
    have z1 := Int.emod_nonneg (f 19) (show f 17 ≠ 0 by omega)
    have z2 := Int.emod_lt_of_pos (f 19) (show 0 < f 17 by omega)
    rw [← hkn] at z1 z2
    exact ⟨z1, by omega⟩
  clear hkn
  obtain ⟨f1, g1, p1_0, p1_1, p1_2, p1_3, p1_4, p1_5, p1_6, F1_276, F1_277, F1_262, hb1, ht1⟩ := zW_yT5p hA X (Ls := Ls) (xs := xs) f g hbd (kn) (v) (by first | assumption | omega | exact ⟨by omega, by omega⟩) (by first | assumption | omega | exact ⟨by omega, by omega⟩) (by first | assumption | omega | exact ⟨by omega, by omega⟩) (by first | assumption | omega | exact ⟨by omega, by omega⟩) (by first | assumption | omega | exact ⟨by omega, by omega⟩) (by first | assumption | omega | exact ⟨by omega, by omega⟩) (by first | assumption | omega | exact ⟨by omega, by omega⟩) (by first | assumption | omega | exact ⟨by omega, by omega⟩) (by first | assumption | omega | exact ⟨by omega, by omega⟩) (by first | assumption | omega | exact ⟨by omega, by omega⟩) (by first | assumption | omega | exact ⟨by omega, by omega⟩) (by first | assumption | omega | exact ⟨by omega, by omega⟩) (by first | assumption | omega | exact ⟨by omega, by omega⟩) (by first | assumption | omega | exact ⟨by omega, by omega⟩) (by first | assumption | omega | exact ⟨by omega, by omega⟩) (by first | assumption | omega | exact ⟨by omega, by omega⟩) (by first | assumption | omega | exact ⟨by omega, by omega⟩) (by first | assumption | omega | exact ⟨by omega, by omega⟩) (by first | assumption | omega | exact ⟨by omega, by omega⟩) (by first | assumption | omega | exact ⟨by omega, by omega⟩) (by first | assumption | omega | exact ⟨by omega, by omega⟩) (by first | assumption | omega | exact ⟨by omega, by omega⟩) (by first | assumption | omega | exact ⟨by omega, by omega⟩) (by first | assumption | omega | exact ⟨by omega, by omega⟩)
  exact ⟨f1, g1, ht1, hb1, ⟨⟨p1_0, p1_1, p1_2, p1_3, p1_4⟩, F1_276, F1_277⟩, F1_262, (p1_5).trans (show f 20 + 6 = f 20 + 5 + 1 by omega), p1_6⟩
theorem zL_T5m (hA : zAll) (X : ZX) {Ls : Nat} {xs : Nat → Int32} {v : Int} {T : List Int} {f : Nat → Int} {g : Nat → Int → Int} (hbd : zBd g) (hP : zPf f) (h17 : 1 ≤ f 17 ∧ f 17 ≤ 16) (h19 : 0 ≤ f 19 ∧ f 19 < 2 * f 17) (h20 : 0 ≤ f 20) (ht : zTx_5m v T) (hv : g 262 (f 19 % f 17) = v) (hW : zAtB (fun a j => g (a + 20) j) (f 20) 0 T) (hs : g 277 (f 20 + (T.length : Int)) = 32) (hl : f 20 + (T.length : Int) < f 205) :
    ∃ (f' : Nat → Int) (g' : Nat → Int → Int), zToL Ls xs 4 f g 4 f' g' ∧ zBd g' ∧ zPk f g f' g' ∧ (∀ x, g' 262 x = g 262 x) ∧ f' 20 = f 20 + (T.length : Int) + 1 ∧ f' 19 = f 19 + 1 := by
  obtain ⟨hb, hT⟩ := ht
  subst hT
  obtain ⟨w0, w1, w2, w3, w4, w5, -⟩ := hW
  obtain ⟨⟨r205, r205b⟩, ⟨r212, r212b⟩, ⟨r213, r213b⟩, ⟨r214, r214b⟩⟩ := hP
  have hl : f 20 + 6 < f 205 := hl
  have hs : g 277 (f 20 + 6) = 32 := hs
  have w0 : g 277 (f 20) = 45 := (congrArg (g 277) (Int.add_zero (f 20)).symm).trans w0
  have w1 : g 277 (f 20 + 1) = (((-v) / 10000) + 48) := w1
  have w2 : g 277 (f 20 + 2) = ((((-v) / 1000) % 10) + 48) := w2
  have w3 : g 277 (f 20 + 3) = ((((-v) / 100) % 10) + 48) := w3
  have w4 : g 277 (f 20 + 4) = ((((-v) / 10) % 10) + 48) := w4
  have w5 : g 277 (f 20 + 5) = (((-v) % 10) + 48) := w5
  obtain ⟨kn, hkn⟩ : ∃ kn, kn = f 19 % f 17 := ⟨_, rfl⟩
  rw [← hkn] at hv
  have okn : (0 : Int) ≤ (f 19) ∧ (0 : Int) < (f 17) ∧ kn = (f 19) % (f 17) := ⟨by omega, by omega, hkn⟩
  have knb : 0 ≤ kn ∧ kn ≤ 15 := by
    have z1 := Int.emod_nonneg (f 19) (show f 17 ≠ 0 by omega)
    have z2 := Int.emod_lt_of_pos (f 19) (show 0 < f 17 by omega)
    rw [← hkn] at z1 z2
    exact ⟨z1, by omega⟩
  clear hkn
  obtain ⟨f1, g1, p1_0, p1_1, p1_2, p1_3, p1_4, p1_5, p1_6, F1_276, F1_277, F1_262, hb1, ht1⟩ := zW_yT5m hA X (Ls := Ls) (xs := xs) f g hbd (kn) (v) (by first | assumption | omega | exact ⟨by omega, by omega⟩) (by first | assumption | omega | exact ⟨by omega, by omega⟩) (by first | assumption | omega | exact ⟨by omega, by omega⟩) (by first | assumption | omega | exact ⟨by omega, by omega⟩) (by first | assumption | omega | exact ⟨by omega, by omega⟩) (by first | assumption | omega | exact ⟨by omega, by omega⟩) (by first | assumption | omega | exact ⟨by omega, by omega⟩) (by first | assumption | omega | exact ⟨by omega, by omega⟩) (by first | assumption | omega | exact ⟨by omega, by omega⟩) (by first | assumption | omega | exact ⟨by omega, by omega⟩) (by first | assumption | omega | exact ⟨by omega, by omega⟩) (by first | assumption | omega | exact ⟨by omega, by omega⟩) (by first | assumption | omega | exact ⟨by omega, by omega⟩) (by first | assumption | omega | exact ⟨by omega, by omega⟩) (by first | assumption | omega | exact ⟨by omega, by omega⟩) (by first | assumption | omega | exact ⟨by omega, by omega⟩) (by first | assumption | omega | exact ⟨by omega, by omega⟩) (by first | assumption | omega | exact ⟨by omega, by omega⟩) (by first | assumption | omega | exact ⟨by omega, by omega⟩) (by first | assumption | omega | exact ⟨by omega, by omega⟩) (by first | assumption | omega | exact ⟨by omega, by omega⟩) (by first | assumption | omega | exact ⟨by omega, by omega⟩) (by first | assumption | omega | exact ⟨by omega, by omega⟩) (by first | assumption | omega | exact ⟨by omega, by omega⟩) (by first | assumption | omega | exact ⟨by omega, by omega⟩) (by first | assumption | omega | exact ⟨by omega, by omega⟩)
  exact ⟨f1, g1, ht1, hb1, ⟨⟨p1_0, p1_1, p1_2, p1_3, p1_4⟩, F1_276, F1_277⟩, F1_262, (p1_5).trans (show f 20 + 7 = f 20 + 6 + 1 by omega), p1_6⟩
theorem zL_T6p (hA : zAll) (X : ZX) {Ls : Nat} {xs : Nat → Int32} {v : Int} {T : List Int} {f : Nat → Int} {g : Nat → Int → Int} (hbd : zBd g) (hP : zPf f) (h17 : 1 ≤ f 17 ∧ f 17 ≤ 16) (h19 : 0 ≤ f 19 ∧ f 19 < 2 * f 17) (h20 : 0 ≤ f 20) (ht : zTx_6p v T) (hv : g 262 (f 19 % f 17) = v) (hW : zAtB (fun a j => g (a + 20) j) (f 20) 0 T) (hs : g 277 (f 20 + (T.length : Int)) = 32) (hl : f 20 + (T.length : Int) < f 205) :
    ∃ (f' : Nat → Int) (g' : Nat → Int → Int), zToL Ls xs 4 f g 4 f' g' ∧ zBd g' ∧ zPk f g f' g' ∧ (∀ x, g' 262 x = g 262 x) ∧ f' 20 = f 20 + (T.length : Int) + 1 ∧ f' 19 = f 19 + 1 := by
  obtain ⟨hb, hT⟩ := ht
  subst hT
  obtain ⟨w0, w1, w2, w3, w4, w5, -⟩ := hW
  obtain ⟨⟨r205, r205b⟩, ⟨r212, r212b⟩, ⟨r213, r213b⟩, ⟨r214, r214b⟩⟩ := hP
  have hl : f 20 + 6 < f 205 := hl
  have hs : g 277 (f 20 + 6) = 32 := hs
  have w0 : g 277 (f 20) = ((v / 100000) + 48) := (congrArg (g 277) (Int.add_zero (f 20)).symm).trans w0
  have w1 : g 277 (f 20 + 1) = (((v / 10000) % 10) + 48) := w1
  have w2 : g 277 (f 20 + 2) = (((v / 1000) % 10) + 48) := w2
  have w3 : g 277 (f 20 + 3) = (((v / 100) % 10) + 48) := w3
  have w4 : g 277 (f 20 + 4) = (((v / 10) % 10) + 48) := w4
  have w5 : g 277 (f 20 + 5) = ((v % 10) + 48) := w5
  obtain ⟨kn, hkn⟩ : ∃ kn, kn = f 19 % f 17 := ⟨_, rfl⟩
  rw [← hkn] at hv
  have okn : (0 : Int) ≤ (f 19) ∧ (0 : Int) < (f 17) ∧ kn = (f 19) % (f 17) := ⟨by omega, by omega, hkn⟩
  have knb : 0 ≤ kn ∧ kn ≤ 15 := by
    have z1 := Int.emod_nonneg (f 19) (show f 17 ≠ 0 by omega)
    have z2 := Int.emod_lt_of_pos (f 19) (show 0 < f 17 by omega)
    rw [← hkn] at z1 z2
    exact ⟨z1, by omega⟩
  clear hkn
  obtain ⟨f1, g1, p1_0, p1_1, p1_2, p1_3, p1_4, p1_5, p1_6, F1_276, F1_277, F1_262, hb1, ht1⟩ := zW_yT6p hA X (Ls := Ls) (xs := xs) f g hbd (kn) (v) (by first | assumption | omega | exact ⟨by omega, by omega⟩) (by first | assumption | omega | exact ⟨by omega, by omega⟩) (by first | assumption | omega | exact ⟨by omega, by omega⟩) (by first | assumption | omega | exact ⟨by omega, by omega⟩) (by first | assumption | omega | exact ⟨by omega, by omega⟩) (by first | assumption | omega | exact ⟨by omega, by omega⟩) (by first | assumption | omega | exact ⟨by omega, by omega⟩) (by first | assumption | omega | exact ⟨by omega, by omega⟩) (by first | assumption | omega | exact ⟨by omega, by omega⟩) (by first | assumption | omega | exact ⟨by omega, by omega⟩) (by first | assumption | omega | exact ⟨by omega, by omega⟩) (by first | assumption | omega | exact ⟨by omega, by omega⟩) (by first | assumption | omega | exact ⟨by omega, by omega⟩) (by first | assumption | omega | exact ⟨by omega, by omega⟩) (by first | assumption | omega | exact ⟨by omega, by omega⟩) (by first | assumption | omega | exact ⟨by omega, by omega⟩) (by first | assumption | omega | exact ⟨by omega, by omega⟩) (by first | assumption | omega | exact ⟨by omega, by omega⟩) (by first | assumption | omega | exact ⟨by omega, by omega⟩) (by first | assumption | omega | exact ⟨by omega, by omega⟩) (by first | assumption | omega | exact ⟨by omega, by omega⟩) (by first | assumption | omega | exact ⟨by omega, by omega⟩) (by first | assumption | omega | exact ⟨by omega, by omega⟩) (by first | assumption | omega | exact ⟨by omega, by omega⟩) (by first | assumption | omega | exact ⟨by omega, by omega⟩) (by first | assumption | omega | exact ⟨by omega, by omega⟩)
  exact ⟨f1, g1, ht1, hb1, ⟨⟨p1_0, p1_1, p1_2, p1_3, p1_4⟩, F1_276, F1_277⟩, F1_262, (p1_5).trans (show f 20 + 7 = f 20 + 6 + 1 by omega), p1_6⟩
theorem zL_T6m (hA : zAll) (X : ZX) {Ls : Nat} {xs : Nat → Int32} {v : Int} {T : List Int} {f : Nat → Int} {g : Nat → Int → Int} (hbd : zBd g) (hP : zPf f) (h17 : 1 ≤ f 17 ∧ f 17 ≤ 16) (h19 : 0 ≤ f 19 ∧ f 19 < 2 * f 17) (h20 : 0 ≤ f 20) (ht : zTx_6m v T) (hv : g 262 (f 19 % f 17) = v) (hW : zAtB (fun a j => g (a + 20) j) (f 20) 0 T) (hs : g 277 (f 20 + (T.length : Int)) = 32) (hl : f 20 + (T.length : Int) < f 205) :
    ∃ (f' : Nat → Int) (g' : Nat → Int → Int), zToL Ls xs 4 f g 4 f' g' ∧ zBd g' ∧ zPk f g f' g' ∧ (∀ x, g' 262 x = g 262 x) ∧ f' 20 = f 20 + (T.length : Int) + 1 ∧ f' 19 = f 19 + 1 := by
  obtain ⟨hb, hT⟩ := ht
  subst hT
  obtain ⟨w0, w1, w2, w3, w4, w5, w6, -⟩ := hW
  obtain ⟨⟨r205, r205b⟩, ⟨r212, r212b⟩, ⟨r213, r213b⟩, ⟨r214, r214b⟩⟩ := hP
  have hl : f 20 + 7 < f 205 := hl
  have hs : g 277 (f 20 + 7) = 32 := hs
  have w0 : g 277 (f 20) = 45 := (congrArg (g 277) (Int.add_zero (f 20)).symm).trans w0
  have w1 : g 277 (f 20 + 1) = (((-v) / 100000) + 48) := w1
  have w2 : g 277 (f 20 + 2) = ((((-v) / 10000) % 10) + 48) := w2
  have w3 : g 277 (f 20 + 3) = ((((-v) / 1000) % 10) + 48) := w3
  have w4 : g 277 (f 20 + 4) = ((((-v) / 100) % 10) + 48) := w4
  have w5 : g 277 (f 20 + 5) = ((((-v) / 10) % 10) + 48) := w5
  have w6 : g 277 (f 20 + 6) = (((-v) % 10) + 48) := w6
  obtain ⟨kn, hkn⟩ : ∃ kn, kn = f 19 % f 17 := ⟨_, rfl⟩
  rw [← hkn] at hv
  have okn : (0 : Int) ≤ (f 19) ∧ (0 : Int) < (f 17) ∧ kn = (f 19) % (f 17) := ⟨by omega, by omega, hkn⟩
  have knb : 0 ≤ kn ∧ kn ≤ 15 := by
    have z1 := Int.emod_nonneg (f 19) (show f 17 ≠ 0 by omega)
    have z2 := Int.emod_lt_of_pos (f 19) (show 0 < f 17 by omega)
    rw [← hkn] at z1 z2
    exact ⟨z1, by omega⟩
  clear hkn
  obtain ⟨f1, g1, p1_0, p1_1, p1_2, p1_3, p1_4, p1_5, p1_6, F1_276, F1_277, F1_262, hb1, ht1⟩ := zW_yT6m hA X (Ls := Ls) (xs := xs) f g hbd (kn) (v) (by first | assumption | omega | exact ⟨by omega, by omega⟩) (by first | assumption | omega | exact ⟨by omega, by omega⟩) (by first | assumption | omega | exact ⟨by omega, by omega⟩) (by first | assumption | omega | exact ⟨by omega, by omega⟩) (by first | assumption | omega | exact ⟨by omega, by omega⟩) (by first | assumption | omega | exact ⟨by omega, by omega⟩) (by first | assumption | omega | exact ⟨by omega, by omega⟩) (by first | assumption | omega | exact ⟨by omega, by omega⟩) (by first | assumption | omega | exact ⟨by omega, by omega⟩) (by first | assumption | omega | exact ⟨by omega, by omega⟩) (by first | assumption | omega | exact ⟨by omega, by omega⟩) (by first | assumption | omega | exact ⟨by omega, by omega⟩) (by first | assumption | omega | exact ⟨by omega, by omega⟩) (by first | assumption | omega | exact ⟨by omega, by omega⟩) (by first | assumption | omega | exact ⟨by omega, by omega⟩) (by first | assumption | omega | exact ⟨by omega, by omega⟩) (by first | assumption | omega | exact ⟨by omega, by omega⟩) (by first | assumption | omega | exact ⟨by omega, by omega⟩) (by first | assumption | omega | exact ⟨by omega, by omega⟩) (by first | assumption | omega | exact ⟨by omega, by omega⟩) (by first | assumption | omega | exact ⟨by omega, by omega⟩) (by first | assumption | omega | exact ⟨by omega, by omega⟩) (by first | assumption | omega | exact ⟨by omega, by omega⟩) (by first | assumption | omega | exact ⟨by omega, by omega⟩) (by first | assumption | omega | exact ⟨by omega, by omega⟩) (by first | assumption | omega | exact ⟨by omega, by omega⟩) (by first | assumption | omega | exact ⟨by omega, by omega⟩) (by first | assumption | omega | exact ⟨by omega, by omega⟩)
  exact ⟨f1, g1, ht1, hb1, ⟨⟨p1_0, p1_1, p1_2, p1_3, p1_4⟩, F1_276, F1_277⟩, F1_262, (p1_5).trans (show f 20 + 8 = f 20 + 7 + 1 by omega), p1_6⟩
theorem zL_T7p (hA : zAll) (X : ZX) {Ls : Nat} {xs : Nat → Int32} {v : Int} {T : List Int} {f : Nat → Int} {g : Nat → Int → Int} (hbd : zBd g) (hP : zPf f) (h17 : 1 ≤ f 17 ∧ f 17 ≤ 16) (h19 : 0 ≤ f 19 ∧ f 19 < 2 * f 17) (h20 : 0 ≤ f 20) (ht : zTx_7p v T) (hv : g 262 (f 19 % f 17) = v) (hW : zAtB (fun a j => g (a + 20) j) (f 20) 0 T) (hs : g 277 (f 20 + (T.length : Int)) = 32) (hl : f 20 + (T.length : Int) < f 205) :
    ∃ (f' : Nat → Int) (g' : Nat → Int → Int), zToL Ls xs 4 f g 4 f' g' ∧ zBd g' ∧ zPk f g f' g' ∧ (∀ x, g' 262 x = g 262 x) ∧ f' 20 = f 20 + (T.length : Int) + 1 ∧ f' 19 = f 19 + 1 := by
  obtain ⟨hb, hT⟩ := ht
  subst hT
  obtain ⟨w0, w1, w2, w3, w4, w5, w6, -⟩ := hW
  obtain ⟨⟨r205, r205b⟩, ⟨r212, r212b⟩, ⟨r213, r213b⟩, ⟨r214, r214b⟩⟩ := hP
  have hl : f 20 + 7 < f 205 := hl
  have hs : g 277 (f 20 + 7) = 32 := hs
  have w0 : g 277 (f 20) = ((v / 1000000) + 48) := (congrArg (g 277) (Int.add_zero (f 20)).symm).trans w0
  have w1 : g 277 (f 20 + 1) = (((v / 100000) % 10) + 48) := w1
  have w2 : g 277 (f 20 + 2) = (((v / 10000) % 10) + 48) := w2
  have w3 : g 277 (f 20 + 3) = (((v / 1000) % 10) + 48) := w3
  have w4 : g 277 (f 20 + 4) = (((v / 100) % 10) + 48) := w4
  have w5 : g 277 (f 20 + 5) = (((v / 10) % 10) + 48) := w5
  have w6 : g 277 (f 20 + 6) = ((v % 10) + 48) := w6
  obtain ⟨kn, hkn⟩ : ∃ kn, kn = f 19 % f 17 := ⟨_, rfl⟩
  rw [← hkn] at hv
  have okn : (0 : Int) ≤ (f 19) ∧ (0 : Int) < (f 17) ∧ kn = (f 19) % (f 17) := ⟨by omega, by omega, hkn⟩
  have knb : 0 ≤ kn ∧ kn ≤ 15 := by
    have z1 := Int.emod_nonneg (f 19) (show f 17 ≠ 0 by omega)
    have z2 := Int.emod_lt_of_pos (f 19) (show 0 < f 17 by omega)
    rw [← hkn] at z1 z2
    exact ⟨z1, by omega⟩
  clear hkn
  obtain ⟨f1, g1, p1_0, p1_1, p1_2, p1_3, p1_4, p1_5, p1_6, F1_276, F1_277, F1_262, hb1, ht1⟩ := zW_yT7p hA X (Ls := Ls) (xs := xs) f g hbd (kn) (v) (by first | assumption | omega | exact ⟨by omega, by omega⟩) (by first | assumption | omega | exact ⟨by omega, by omega⟩) (by first | assumption | omega | exact ⟨by omega, by omega⟩) (by first | assumption | omega | exact ⟨by omega, by omega⟩) (by first | assumption | omega | exact ⟨by omega, by omega⟩) (by first | assumption | omega | exact ⟨by omega, by omega⟩) (by first | assumption | omega | exact ⟨by omega, by omega⟩) (by first | assumption | omega | exact ⟨by omega, by omega⟩) (by first | assumption | omega | exact ⟨by omega, by omega⟩) (by first | assumption | omega | exact ⟨by omega, by omega⟩) (by first | assumption | omega | exact ⟨by omega, by omega⟩) (by first | assumption | omega | exact ⟨by omega, by omega⟩) (by first | assumption | omega | exact ⟨by omega, by omega⟩) (by first | assumption | omega | exact ⟨by omega, by omega⟩) (by first | assumption | omega | exact ⟨by omega, by omega⟩) (by first | assumption | omega | exact ⟨by omega, by omega⟩) (by first | assumption | omega | exact ⟨by omega, by omega⟩) (by first | assumption | omega | exact ⟨by omega, by omega⟩) (by first | assumption | omega | exact ⟨by omega, by omega⟩) (by first | assumption | omega | exact ⟨by omega, by omega⟩) (by first | assumption | omega | exact ⟨by omega, by omega⟩) (by first | assumption | omega | exact ⟨by omega, by omega⟩) (by first | assumption | omega | exact ⟨by omega, by omega⟩) (by first | assumption | omega | exact ⟨by omega, by omega⟩) (by first | assumption | omega | exact ⟨by omega, by omega⟩) (by first | assumption | omega | exact ⟨by omega, by omega⟩) (by first | assumption | omega | exact ⟨by omega, by omega⟩) (by first | assumption | omega | exact ⟨by omega, by omega⟩)
  exact ⟨f1, g1, ht1, hb1, ⟨⟨p1_0, p1_1, p1_2, p1_3, p1_4⟩, F1_276, F1_277⟩, F1_262, (p1_5).trans (show f 20 + 8 = f 20 + 7 + 1 by omega), p1_6⟩
theorem zL_T7m (hA : zAll) (X : ZX) {Ls : Nat} {xs : Nat → Int32} {v : Int} {T : List Int} {f : Nat → Int} {g : Nat → Int → Int} (hbd : zBd g) (hP : zPf f) (h17 : 1 ≤ f 17 ∧ f 17 ≤ 16) (h19 : 0 ≤ f 19 ∧ f 19 < 2 * f 17) (h20 : 0 ≤ f 20) (ht : zTx_7m v T) (hv : g 262 (f 19 % f 17) = v) (hW : zAtB (fun a j => g (a + 20) j) (f 20) 0 T) (hs : g 277 (f 20 + (T.length : Int)) = 32) (hl : f 20 + (T.length : Int) < f 205) :
    ∃ (f' : Nat → Int) (g' : Nat → Int → Int), zToL Ls xs 4 f g 4 f' g' ∧ zBd g' ∧ zPk f g f' g' ∧ (∀ x, g' 262 x = g 262 x) ∧ f' 20 = f 20 + (T.length : Int) + 1 ∧ f' 19 = f 19 + 1 := by
  obtain ⟨hb, hT⟩ := ht
  subst hT
  obtain ⟨w0, w1, w2, w3, w4, w5, w6, w7, -⟩ := hW
  obtain ⟨⟨r205, r205b⟩, ⟨r212, r212b⟩, ⟨r213, r213b⟩, ⟨r214, r214b⟩⟩ := hP
  have hl : f 20 + 8 < f 205 := hl
  have hs : g 277 (f 20 + 8) = 32 := hs
  have w0 : g 277 (f 20) = 45 := (congrArg (g 277) (Int.add_zero (f 20)).symm).trans w0
  have w1 : g 277 (f 20 + 1) = (((-v) / 1000000) + 48) := w1
  have w2 : g 277 (f 20 + 2) = ((((-v) / 100000) % 10) + 48) := w2
  have w3 : g 277 (f 20 + 3) = ((((-v) / 10000) % 10) + 48) := w3
  have w4 : g 277 (f 20 + 4) = ((((-v) / 1000) % 10) + 48) := w4
  have w5 : g 277 (f 20 + 5) = ((((-v) / 100) % 10) + 48) := w5
  have w6 : g 277 (f 20 + 6) = ((((-v) / 10) % 10) + 48) := w6
  have w7 : g 277 (f 20 + 7) = (((-v) % 10) + 48) := w7
  obtain ⟨kn, hkn⟩ : ∃ kn, kn = f 19 % f 17 := ⟨_, rfl⟩
  rw [← hkn] at hv
  have okn : (0 : Int) ≤ (f 19) ∧ (0 : Int) < (f 17) ∧ kn = (f 19) % (f 17) := ⟨by omega, by omega, hkn⟩
  have knb : 0 ≤ kn ∧ kn ≤ 15 := by
    have z1 := Int.emod_nonneg (f 19) (show f 17 ≠ 0 by omega)
    have z2 := Int.emod_lt_of_pos (f 19) (show 0 < f 17 by omega)
    rw [← hkn] at z1 z2
    exact ⟨z1, by omega⟩
  clear hkn
  obtain ⟨f1, g1, p1_0, p1_1, p1_2, p1_3, p1_4, p1_5, p1_6, F1_276, F1_277, F1_262, hb1, ht1⟩ := zW_yT7m hA X (Ls := Ls) (xs := xs) f g hbd (kn) (v) (by first | assumption | omega | exact ⟨by omega, by omega⟩) (by first | assumption | omega | exact ⟨by omega, by omega⟩) (by first | assumption | omega | exact ⟨by omega, by omega⟩) (by first | assumption | omega | exact ⟨by omega, by omega⟩) (by first | assumption | omega | exact ⟨by omega, by omega⟩) (by first | assumption | omega | exact ⟨by omega, by omega⟩) (by first | assumption | omega | exact ⟨by omega, by omega⟩) (by first | assumption | omega | exact ⟨by omega, by omega⟩) (by first | assumption | omega | exact ⟨by omega, by omega⟩) (by first | assumption | omega | exact ⟨by omega, by omega⟩) (by first | assumption | omega | exact ⟨by omega, by omega⟩) (by first | assumption | omega | exact ⟨by omega, by omega⟩) (by first | assumption | omega | exact ⟨by omega, by omega⟩) (by first | assumption | omega | exact ⟨by omega, by omega⟩) (by first | assumption | omega | exact ⟨by omega, by omega⟩) (by first | assumption | omega | exact ⟨by omega, by omega⟩) (by first | assumption | omega | exact ⟨by omega, by omega⟩) (by first | assumption | omega | exact ⟨by omega, by omega⟩) (by first | assumption | omega | exact ⟨by omega, by omega⟩) (by first | assumption | omega | exact ⟨by omega, by omega⟩) (by first | assumption | omega | exact ⟨by omega, by omega⟩) (by first | assumption | omega | exact ⟨by omega, by omega⟩) (by first | assumption | omega | exact ⟨by omega, by omega⟩) (by first | assumption | omega | exact ⟨by omega, by omega⟩) (by first | assumption | omega | exact ⟨by omega, by omega⟩) (by first | assumption | omega | exact ⟨by omega, by omega⟩) (by first | assumption | omega | exact ⟨by omega, by omega⟩) (by first | assumption | omega | exact ⟨by omega, by omega⟩) (by first | assumption | omega | exact ⟨by omega, by omega⟩) (by first | assumption | omega | exact ⟨by omega, by omega⟩)
  exact ⟨f1, g1, ht1, hb1, ⟨⟨p1_0, p1_1, p1_2, p1_3, p1_4⟩, F1_276, F1_277⟩, F1_262, (p1_5).trans (show f 20 + 9 = f 20 + 8 + 1 by omega), p1_6⟩
theorem zL_T8p (hA : zAll) (X : ZX) {Ls : Nat} {xs : Nat → Int32} {v : Int} {T : List Int} {f : Nat → Int} {g : Nat → Int → Int} (hbd : zBd g) (hP : zPf f) (h17 : 1 ≤ f 17 ∧ f 17 ≤ 16) (h19 : 0 ≤ f 19 ∧ f 19 < 2 * f 17) (h20 : 0 ≤ f 20) (ht : zTx_8p v T) (hv : g 262 (f 19 % f 17) = v) (hW : zAtB (fun a j => g (a + 20) j) (f 20) 0 T) (hs : g 277 (f 20 + (T.length : Int)) = 32) (hl : f 20 + (T.length : Int) < f 205) :
    ∃ (f' : Nat → Int) (g' : Nat → Int → Int), zToL Ls xs 4 f g 4 f' g' ∧ zBd g' ∧ zPk f g f' g' ∧ (∀ x, g' 262 x = g 262 x) ∧ f' 20 = f 20 + (T.length : Int) + 1 ∧ f' 19 = f 19 + 1 := by
  obtain ⟨hb, hT⟩ := ht
  subst hT
  obtain ⟨w0, w1, w2, w3, w4, w5, w6, w7, -⟩ := hW
  obtain ⟨⟨r205, r205b⟩, ⟨r212, r212b⟩, ⟨r213, r213b⟩, ⟨r214, r214b⟩⟩ := hP
  have hl : f 20 + 8 < f 205 := hl
  have hs : g 277 (f 20 + 8) = 32 := hs
  have w0 : g 277 (f 20) = ((v / 10000000) + 48) := (congrArg (g 277) (Int.add_zero (f 20)).symm).trans w0
  have w1 : g 277 (f 20 + 1) = (((v / 1000000) % 10) + 48) := w1
  have w2 : g 277 (f 20 + 2) = (((v / 100000) % 10) + 48) := w2
  have w3 : g 277 (f 20 + 3) = (((v / 10000) % 10) + 48) := w3
  have w4 : g 277 (f 20 + 4) = (((v / 1000) % 10) + 48) := w4
  have w5 : g 277 (f 20 + 5) = (((v / 100) % 10) + 48) := w5
  have w6 : g 277 (f 20 + 6) = (((v / 10) % 10) + 48) := w6
  have w7 : g 277 (f 20 + 7) = ((v % 10) + 48) := w7
  obtain ⟨kn, hkn⟩ : ∃ kn, kn = f 19 % f 17 := ⟨_, rfl⟩
  rw [← hkn] at hv
  have okn : (0 : Int) ≤ (f 19) ∧ (0 : Int) < (f 17) ∧ kn = (f 19) % (f 17) := ⟨by omega, by omega, hkn⟩
  have knb : 0 ≤ kn ∧ kn ≤ 15 := by
    have z1 := Int.emod_nonneg (f 19) (show f 17 ≠ 0 by omega)
    have z2 := Int.emod_lt_of_pos (f 19) (show 0 < f 17 by omega)
    rw [← hkn] at z1 z2
    exact ⟨z1, by omega⟩
  clear hkn
  obtain ⟨f1, g1, p1_0, p1_1, p1_2, p1_3, p1_4, p1_5, p1_6, F1_276, F1_277, F1_262, hb1, ht1⟩ := zW_yT8p hA X (Ls := Ls) (xs := xs) f g hbd (kn) (v) (by first | assumption | omega | exact ⟨by omega, by omega⟩) (by first | assumption | omega | exact ⟨by omega, by omega⟩) (by first | assumption | omega | exact ⟨by omega, by omega⟩) (by first | assumption | omega | exact ⟨by omega, by omega⟩) (by first | assumption | omega | exact ⟨by omega, by omega⟩) (by first | assumption | omega | exact ⟨by omega, by omega⟩) (by first | assumption | omega | exact ⟨by omega, by omega⟩) (by first | assumption | omega | exact ⟨by omega, by omega⟩) (by first | assumption | omega | exact ⟨by omega, by omega⟩) (by first | assumption | omega | exact ⟨by omega, by omega⟩) (by first | assumption | omega | exact ⟨by omega, by omega⟩) (by first | assumption | omega | exact ⟨by omega, by omega⟩) (by first | assumption | omega | exact ⟨by omega, by omega⟩) (by first | assumption | omega | exact ⟨by omega, by omega⟩) (by first | assumption | omega | exact ⟨by omega, by omega⟩) (by first | assumption | omega | exact ⟨by omega, by omega⟩) (by first | assumption | omega | exact ⟨by omega, by omega⟩) (by first | assumption | omega | exact ⟨by omega, by omega⟩) (by first | assumption | omega | exact ⟨by omega, by omega⟩) (by first | assumption | omega | exact ⟨by omega, by omega⟩) (by first | assumption | omega | exact ⟨by omega, by omega⟩) (by first | assumption | omega | exact ⟨by omega, by omega⟩) (by first | assumption | omega | exact ⟨by omega, by omega⟩) (by first | assumption | omega | exact ⟨by omega, by omega⟩) (by first | assumption | omega | exact ⟨by omega, by omega⟩) (by first | assumption | omega | exact ⟨by omega, by omega⟩) (by first | assumption | omega | exact ⟨by omega, by omega⟩) (by first | assumption | omega | exact ⟨by omega, by omega⟩) (by first | assumption | omega | exact ⟨by omega, by omega⟩) (by first | assumption | omega | exact ⟨by omega, by omega⟩)
  exact ⟨f1, g1, ht1, hb1, ⟨⟨p1_0, p1_1, p1_2, p1_3, p1_4⟩, F1_276, F1_277⟩, F1_262, (p1_5).trans (show f 20 + 9 = f 20 + 8 + 1 by omega), p1_6⟩
theorem zL_T8m (hA : zAll) (X : ZX) {Ls : Nat} {xs : Nat → Int32} {v : Int} {T : List Int} {f : Nat → Int} {g : Nat → Int → Int} (hbd : zBd g) (hP : zPf f) (h17 : 1 ≤ f 17 ∧ f 17 ≤ 16) (h19 : 0 ≤ f 19 ∧ f 19 < 2 * f 17) (h20 : 0 ≤ f 20) (ht : zTx_8m v T) (hv : g 262 (f 19 % f 17) = v) (hW : zAtB (fun a j => g (a + 20) j) (f 20) 0 T) (hs : g 277 (f 20 + (T.length : Int)) = 32) (hl : f 20 + (T.length : Int) < f 205) :
    ∃ (f' : Nat → Int) (g' : Nat → Int → Int), zToL Ls xs 4 f g 4 f' g' ∧ zBd g' ∧ zPk f g f' g' ∧ (∀ x, g' 262 x = g 262 x) ∧ f' 20 = f 20 + (T.length : Int) + 1 ∧ f' 19 = f 19 + 1 := by
  obtain ⟨hb, hT⟩ := ht
  subst hT
  obtain ⟨w0, w1, w2, w3, w4, w5, w6, w7, w8, -⟩ := hW
  obtain ⟨⟨r205, r205b⟩, ⟨r212, r212b⟩, ⟨r213, r213b⟩, ⟨r214, r214b⟩⟩ := hP
  have hl : f 20 + 9 < f 205 := hl
  have hs : g 277 (f 20 + 9) = 32 := hs
  have w0 : g 277 (f 20) = 45 := (congrArg (g 277) (Int.add_zero (f 20)).symm).trans w0
  have w1 : g 277 (f 20 + 1) = (((-v) / 10000000) + 48) := w1
  have w2 : g 277 (f 20 + 2) = ((((-v) / 1000000) % 10) + 48) := w2
  have w3 : g 277 (f 20 + 3) = ((((-v) / 100000) % 10) + 48) := w3
  have w4 : g 277 (f 20 + 4) = ((((-v) / 10000) % 10) + 48) := w4
  have w5 : g 277 (f 20 + 5) = ((((-v) / 1000) % 10) + 48) := w5
  have w6 : g 277 (f 20 + 6) = ((((-v) / 100) % 10) + 48) := w6
  have w7 : g 277 (f 20 + 7) = ((((-v) / 10) % 10) + 48) := w7
  have w8 : g 277 (f 20 + 8) = (((-v) % 10) + 48) := w8
  obtain ⟨kn, hkn⟩ : ∃ kn, kn = f 19 % f 17 := ⟨_, rfl⟩
  rw [← hkn] at hv
  have okn : (0 : Int) ≤ (f 19) ∧ (0 : Int) < (f 17) ∧ kn = (f 19) % (f 17) := ⟨by omega, by omega, hkn⟩
  have knb : 0 ≤ kn ∧ kn ≤ 15 := by
    have z1 := Int.emod_nonneg (f 19) (show f 17 ≠ 0 by omega)
    have z2 := Int.emod_lt_of_pos (f 19) (show 0 < f 17 by omega)
    rw [← hkn] at z1 z2
    exact ⟨z1, by omega⟩
  clear hkn
  obtain ⟨f1, g1, p1_0, p1_1, p1_2, p1_3, p1_4, p1_5, p1_6, F1_276, F1_277, F1_262, hb1, ht1⟩ := zW_yT8m hA X (Ls := Ls) (xs := xs) f g hbd (kn) (v) (by first | assumption | omega | exact ⟨by omega, by omega⟩) (by first | assumption | omega | exact ⟨by omega, by omega⟩) (by first | assumption | omega | exact ⟨by omega, by omega⟩) (by first | assumption | omega | exact ⟨by omega, by omega⟩) (by first | assumption | omega | exact ⟨by omega, by omega⟩) (by first | assumption | omega | exact ⟨by omega, by omega⟩) (by first | assumption | omega | exact ⟨by omega, by omega⟩) (by first | assumption | omega | exact ⟨by omega, by omega⟩) (by first | assumption | omega | exact ⟨by omega, by omega⟩) (by first | assumption | omega | exact ⟨by omega, by omega⟩) (by first | assumption | omega | exact ⟨by omega, by omega⟩) (by first | assumption | omega | exact ⟨by omega, by omega⟩) (by first | assumption | omega | exact ⟨by omega, by omega⟩) (by first | assumption | omega | exact ⟨by omega, by omega⟩) (by first | assumption | omega | exact ⟨by omega, by omega⟩) (by first | assumption | omega | exact ⟨by omega, by omega⟩) (by first | assumption | omega | exact ⟨by omega, by omega⟩) (by first | assumption | omega | exact ⟨by omega, by omega⟩) (by first | assumption | omega | exact ⟨by omega, by omega⟩) (by first | assumption | omega | exact ⟨by omega, by omega⟩) (by first | assumption | omega | exact ⟨by omega, by omega⟩) (by first | assumption | omega | exact ⟨by omega, by omega⟩) (by first | assumption | omega | exact ⟨by omega, by omega⟩) (by first | assumption | omega | exact ⟨by omega, by omega⟩) (by first | assumption | omega | exact ⟨by omega, by omega⟩) (by first | assumption | omega | exact ⟨by omega, by omega⟩) (by first | assumption | omega | exact ⟨by omega, by omega⟩) (by first | assumption | omega | exact ⟨by omega, by omega⟩) (by first | assumption | omega | exact ⟨by omega, by omega⟩) (by first | assumption | omega | exact ⟨by omega, by omega⟩) (by first | assumption | omega | exact ⟨by omega, by omega⟩) (by first | assumption | omega | exact ⟨by omega, by omega⟩)
  exact ⟨f1, g1, ht1, hb1, ⟨⟨p1_0, p1_1, p1_2, p1_3, p1_4⟩, F1_276, F1_277⟩, F1_262, (p1_5).trans (show f 20 + 10 = f 20 + 9 + 1 by omega), p1_6⟩
theorem zL_T9p (hA : zAll) (X : ZX) {Ls : Nat} {xs : Nat → Int32} {v : Int} {T : List Int} {f : Nat → Int} {g : Nat → Int → Int} (hbd : zBd g) (hP : zPf f) (h17 : 1 ≤ f 17 ∧ f 17 ≤ 16) (h19 : 0 ≤ f 19 ∧ f 19 < 2 * f 17) (h20 : 0 ≤ f 20) (ht : zTx_9p v T) (hv : g 262 (f 19 % f 17) = v) (hW : zAtB (fun a j => g (a + 20) j) (f 20) 0 T) (hs : g 277 (f 20 + (T.length : Int)) = 32) (hl : f 20 + (T.length : Int) < f 205) :
    ∃ (f' : Nat → Int) (g' : Nat → Int → Int), zToL Ls xs 4 f g 4 f' g' ∧ zBd g' ∧ zPk f g f' g' ∧ (∀ x, g' 262 x = g 262 x) ∧ f' 20 = f 20 + (T.length : Int) + 1 ∧ f' 19 = f 19 + 1 := by
  obtain ⟨hb, hT⟩ := ht
  subst hT
  obtain ⟨w0, w1, w2, w3, w4, w5, w6, w7, w8, -⟩ := hW
  obtain ⟨⟨r205, r205b⟩, ⟨r212, r212b⟩, ⟨r213, r213b⟩, ⟨r214, r214b⟩⟩ := hP
  have hl : f 20 + 9 < f 205 := hl
  have hs : g 277 (f 20 + 9) = 32 := hs
  have w0 : g 277 (f 20) = ((v / 100000000) + 48) := (congrArg (g 277) (Int.add_zero (f 20)).symm).trans w0
  have w1 : g 277 (f 20 + 1) = (((v / 10000000) % 10) + 48) := w1
  have w2 : g 277 (f 20 + 2) = (((v / 1000000) % 10) + 48) := w2
  have w3 : g 277 (f 20 + 3) = (((v / 100000) % 10) + 48) := w3
  have w4 : g 277 (f 20 + 4) = (((v / 10000) % 10) + 48) := w4
  have w5 : g 277 (f 20 + 5) = (((v / 1000) % 10) + 48) := w5
  have w6 : g 277 (f 20 + 6) = (((v / 100) % 10) + 48) := w6
  have w7 : g 277 (f 20 + 7) = (((v / 10) % 10) + 48) := w7
  have w8 : g 277 (f 20 + 8) = ((v % 10) + 48) := w8
  obtain ⟨kn, hkn⟩ : ∃ kn, kn = f 19 % f 17 := ⟨_, rfl⟩
  rw [← hkn] at hv
  have okn : (0 : Int) ≤ (f 19) ∧ (0 : Int) < (f 17) ∧ kn = (f 19) % (f 17) := ⟨by omega, by omega, hkn⟩
  have knb : 0 ≤ kn ∧ kn ≤ 15 := by
    have z1 := Int.emod_nonneg (f 19) (show f 17 ≠ 0 by omega)
    have z2 := Int.emod_lt_of_pos (f 19) (show 0 < f 17 by omega)
    rw [← hkn] at z1 z2
    exact ⟨z1, by omega⟩
  clear hkn
  obtain ⟨f1, g1, p1_0, p1_1, p1_2, p1_3, p1_4, p1_5, p1_6, F1_276, F1_277, F1_262, hb1, ht1⟩ := zW_yT9p hA X (Ls := Ls) (xs := xs) f g hbd (kn) (v) (by first | assumption | omega | exact ⟨by omega, by omega⟩) (by first | assumption | omega | exact ⟨by omega, by omega⟩) (by first | assumption | omega | exact ⟨by omega, by omega⟩) (by first | assumption | omega | exact ⟨by omega, by omega⟩) (by first | assumption | omega | exact ⟨by omega, by omega⟩) (by first | assumption | omega | exact ⟨by omega, by omega⟩) (by first | assumption | omega | exact ⟨by omega, by omega⟩) (by first | assumption | omega | exact ⟨by omega, by omega⟩) (by first | assumption | omega | exact ⟨by omega, by omega⟩) (by first | assumption | omega | exact ⟨by omega, by omega⟩) (by first | assumption | omega | exact ⟨by omega, by omega⟩) (by first | assumption | omega | exact ⟨by omega, by omega⟩) (by first | assumption | omega | exact ⟨by omega, by omega⟩) (by first | assumption | omega | exact ⟨by omega, by omega⟩) (by first | assumption | omega | exact ⟨by omega, by omega⟩) (by first | assumption | omega | exact ⟨by omega, by omega⟩) (by first | assumption | omega | exact ⟨by omega, by omega⟩) (by first | assumption | omega | exact ⟨by omega, by omega⟩) (by first | assumption | omega | exact ⟨by omega, by omega⟩) (by first | assumption | omega | exact ⟨by omega, by omega⟩) (by first | assumption | omega | exact ⟨by omega, by omega⟩) (by first | assumption | omega | exact ⟨by omega, by omega⟩) (by first | assumption | omega | exact ⟨by omega, by omega⟩) (by first | assumption | omega | exact ⟨by omega, by omega⟩) (by first | assumption | omega | exact ⟨by omega, by omega⟩) (by first | assumption | omega | exact ⟨by omega, by omega⟩) (by first | assumption | omega | exact ⟨by omega, by omega⟩) (by first | assumption | omega | exact ⟨by omega, by omega⟩) (by first | assumption | omega | exact ⟨by omega, by omega⟩) (by first | assumption | omega | exact ⟨by omega, by omega⟩) (by first | assumption | omega | exact ⟨by omega, by omega⟩) (by first | assumption | omega | exact ⟨by omega, by omega⟩)
  exact ⟨f1, g1, ht1, hb1, ⟨⟨p1_0, p1_1, p1_2, p1_3, p1_4⟩, F1_276, F1_277⟩, F1_262, (p1_5).trans (show f 20 + 10 = f 20 + 9 + 1 by omega), p1_6⟩
theorem zL_T9m (hA : zAll) (X : ZX) {Ls : Nat} {xs : Nat → Int32} {v : Int} {T : List Int} {f : Nat → Int} {g : Nat → Int → Int} (hbd : zBd g) (hP : zPf f) (h17 : 1 ≤ f 17 ∧ f 17 ≤ 16) (h19 : 0 ≤ f 19 ∧ f 19 < 2 * f 17) (h20 : 0 ≤ f 20) (ht : zTx_9m v T) (hv : g 262 (f 19 % f 17) = v) (hW : zAtB (fun a j => g (a + 20) j) (f 20) 0 T) (hs : g 277 (f 20 + (T.length : Int)) = 32) (hl : f 20 + (T.length : Int) < f 205) :
    ∃ (f' : Nat → Int) (g' : Nat → Int → Int), zToL Ls xs 4 f g 4 f' g' ∧ zBd g' ∧ zPk f g f' g' ∧ (∀ x, g' 262 x = g 262 x) ∧ f' 20 = f 20 + (T.length : Int) + 1 ∧ f' 19 = f 19 + 1 := by
  obtain ⟨hb, hT⟩ := ht
  subst hT
  obtain ⟨w0, w1, w2, w3, w4, w5, w6, w7, w8, w9, -⟩ := hW
  obtain ⟨⟨r205, r205b⟩, ⟨r212, r212b⟩, ⟨r213, r213b⟩, ⟨r214, r214b⟩⟩ := hP
  have hl : f 20 + 10 < f 205 := hl
  have hs : g 277 (f 20 + 10) = 32 := hs
  have w0 : g 277 (f 20) = 45 := (congrArg (g 277) (Int.add_zero (f 20)).symm).trans w0
  have w1 : g 277 (f 20 + 1) = (((-v) / 100000000) + 48) := w1
  have w2 : g 277 (f 20 + 2) = ((((-v) / 10000000) % 10) + 48) := w2
  have w3 : g 277 (f 20 + 3) = ((((-v) / 1000000) % 10) + 48) := w3
  have w4 : g 277 (f 20 + 4) = ((((-v) / 100000) % 10) + 48) := w4
  have w5 : g 277 (f 20 + 5) = ((((-v) / 10000) % 10) + 48) := w5
  have w6 : g 277 (f 20 + 6) = ((((-v) / 1000) % 10) + 48) := w6
  have w7 : g 277 (f 20 + 7) = ((((-v) / 100) % 10) + 48) := w7
  have w8 : g 277 (f 20 + 8) = ((((-v) / 10) % 10) + 48) := w8
  have w9 : g 277 (f 20 + 9) = (((-v) % 10) + 48) := w9
  obtain ⟨kn, hkn⟩ : ∃ kn, kn = f 19 % f 17 := ⟨_, rfl⟩
  rw [← hkn] at hv
  have okn : (0 : Int) ≤ (f 19) ∧ (0 : Int) < (f 17) ∧ kn = (f 19) % (f 17) := ⟨by omega, by omega, hkn⟩
  have knb : 0 ≤ kn ∧ kn ≤ 15 := by
    have z1 := Int.emod_nonneg (f 19) (show f 17 ≠ 0 by omega)
    have z2 := Int.emod_lt_of_pos (f 19) (show 0 < f 17 by omega)
    rw [← hkn] at z1 z2
    exact ⟨z1, by omega⟩
  clear hkn
  obtain ⟨f1, g1, p1_0, p1_1, p1_2, p1_3, p1_4, p1_5, p1_6, F1_276, F1_277, F1_262, hb1, ht1⟩ := zW_yT9m hA X (Ls := Ls) (xs := xs) f g hbd (kn) (v) (by first | assumption | omega | exact ⟨by omega, by omega⟩) (by first | assumption | omega | exact ⟨by omega, by omega⟩) (by first | assumption | omega | exact ⟨by omega, by omega⟩) (by first | assumption | omega | exact ⟨by omega, by omega⟩) (by first | assumption | omega | exact ⟨by omega, by omega⟩) (by first | assumption | omega | exact ⟨by omega, by omega⟩) (by first | assumption | omega | exact ⟨by omega, by omega⟩) (by first | assumption | omega | exact ⟨by omega, by omega⟩) (by first | assumption | omega | exact ⟨by omega, by omega⟩) (by first | assumption | omega | exact ⟨by omega, by omega⟩) (by first | assumption | omega | exact ⟨by omega, by omega⟩) (by first | assumption | omega | exact ⟨by omega, by omega⟩) (by first | assumption | omega | exact ⟨by omega, by omega⟩) (by first | assumption | omega | exact ⟨by omega, by omega⟩) (by first | assumption | omega | exact ⟨by omega, by omega⟩) (by first | assumption | omega | exact ⟨by omega, by omega⟩) (by first | assumption | omega | exact ⟨by omega, by omega⟩) (by first | assumption | omega | exact ⟨by omega, by omega⟩) (by first | assumption | omega | exact ⟨by omega, by omega⟩) (by first | assumption | omega | exact ⟨by omega, by omega⟩) (by first | assumption | omega | exact ⟨by omega, by omega⟩) (by first | assumption | omega | exact ⟨by omega, by omega⟩) (by first | assumption | omega | exact ⟨by omega, by omega⟩) (by first | assumption | omega | exact ⟨by omega, by omega⟩) (by first | assumption | omega | exact ⟨by omega, by omega⟩) (by first | assumption | omega | exact ⟨by omega, by omega⟩) (by first | assumption | omega | exact ⟨by omega, by omega⟩) (by first | assumption | omega | exact ⟨by omega, by omega⟩) (by first | assumption | omega | exact ⟨by omega, by omega⟩) (by first | assumption | omega | exact ⟨by omega, by omega⟩) (by first | assumption | omega | exact ⟨by omega, by omega⟩) (by first | assumption | omega | exact ⟨by omega, by omega⟩) (by first | assumption | omega | exact ⟨by omega, by omega⟩) (by first | assumption | omega | exact ⟨by omega, by omega⟩)
  exact ⟨f1, g1, ht1, hb1, ⟨⟨p1_0, p1_1, p1_2, p1_3, p1_4⟩, F1_276, F1_277⟩, F1_262, (p1_5).trans (show f 20 + 11 = f 20 + 10 + 1 by omega), p1_6⟩
theorem zL_T10p (hA : zAll) (X : ZX) {Ls : Nat} {xs : Nat → Int32} {v : Int} {T : List Int} {f : Nat → Int} {g : Nat → Int → Int} (hbd : zBd g) (hP : zPf f) (h17 : 1 ≤ f 17 ∧ f 17 ≤ 16) (h19 : 0 ≤ f 19 ∧ f 19 < 2 * f 17) (h20 : 0 ≤ f 20) (ht : zTx_10p v T) (hv : g 262 (f 19 % f 17) = v) (hW : zAtB (fun a j => g (a + 20) j) (f 20) 0 T) (hs : g 277 (f 20 + (T.length : Int)) = 32) (hl : f 20 + (T.length : Int) < f 205) :
    ∃ (f' : Nat → Int) (g' : Nat → Int → Int), zToL Ls xs 4 f g 4 f' g' ∧ zBd g' ∧ zPk f g f' g' ∧ (∀ x, g' 262 x = g 262 x) ∧ f' 20 = f 20 + (T.length : Int) + 1 ∧ f' 19 = f 19 + 1 := by
  obtain ⟨hb, hT⟩ := ht
  subst hT
  obtain ⟨w0, w1, w2, w3, w4, w5, w6, w7, w8, w9, -⟩ := hW
  obtain ⟨⟨r205, r205b⟩, ⟨r212, r212b⟩, ⟨r213, r213b⟩, ⟨r214, r214b⟩⟩ := hP
  have hl : f 20 + 10 < f 205 := hl
  have hs : g 277 (f 20 + 10) = 32 := hs
  have w0 : g 277 (f 20) = ((v / 1000000000) + 48) := (congrArg (g 277) (Int.add_zero (f 20)).symm).trans w0
  have w1 : g 277 (f 20 + 1) = (((v / 100000000) % 10) + 48) := w1
  have w2 : g 277 (f 20 + 2) = (((v / 10000000) % 10) + 48) := w2
  have w3 : g 277 (f 20 + 3) = (((v / 1000000) % 10) + 48) := w3
  have w4 : g 277 (f 20 + 4) = (((v / 100000) % 10) + 48) := w4
  have w5 : g 277 (f 20 + 5) = (((v / 10000) % 10) + 48) := w5
  have w6 : g 277 (f 20 + 6) = (((v / 1000) % 10) + 48) := w6
  have w7 : g 277 (f 20 + 7) = (((v / 100) % 10) + 48) := w7
  have w8 : g 277 (f 20 + 8) = (((v / 10) % 10) + 48) := w8
  have w9 : g 277 (f 20 + 9) = ((v % 10) + 48) := w9
  obtain ⟨kn, hkn⟩ : ∃ kn, kn = f 19 % f 17 := ⟨_, rfl⟩
  rw [← hkn] at hv
  have okn : (0 : Int) ≤ (f 19) ∧ (0 : Int) < (f 17) ∧ kn = (f 19) % (f 17) := ⟨by omega, by omega, hkn⟩
  have knb : 0 ≤ kn ∧ kn ≤ 15 := by
    have z1 := Int.emod_nonneg (f 19) (show f 17 ≠ 0 by omega)
    have z2 := Int.emod_lt_of_pos (f 19) (show 0 < f 17 by omega)
    rw [← hkn] at z1 z2
    exact ⟨z1, by omega⟩
  clear hkn
  obtain ⟨f1, g1, p1_0, p1_1, p1_2, p1_3, p1_4, p1_5, p1_6, F1_276, F1_277, F1_262, hb1, ht1⟩ := zW_yT10p hA X (Ls := Ls) (xs := xs) f g hbd (kn) (v) (by first | assumption | omega | exact ⟨by omega, by omega⟩) (by first | assumption | omega | exact ⟨by omega, by omega⟩) (by first | assumption | omega | exact ⟨by omega, by omega⟩) (by first | assumption | omega | exact ⟨by omega, by omega⟩) (by first | assumption | omega | exact ⟨by omega, by omega⟩) (by first | assumption | omega | exact ⟨by omega, by omega⟩) (by first | assumption | omega | exact ⟨by omega, by omega⟩) (by first | assumption | omega | exact ⟨by omega, by omega⟩) (by first | assumption | omega | exact ⟨by omega, by omega⟩) (by first | assumption | omega | exact ⟨by omega, by omega⟩) (by first | assumption | omega | exact ⟨by omega, by omega⟩) (by first | assumption | omega | exact ⟨by omega, by omega⟩) (by first | assumption | omega | exact ⟨by omega, by omega⟩) (by first | assumption | omega | exact ⟨by omega, by omega⟩) (by first | assumption | omega | exact ⟨by omega, by omega⟩) (by first | assumption | omega | exact ⟨by omega, by omega⟩) (by first | assumption | omega | exact ⟨by omega, by omega⟩) (by first | assumption | omega | exact ⟨by omega, by omega⟩) (by first | assumption | omega | exact ⟨by omega, by omega⟩) (by first | assumption | omega | exact ⟨by omega, by omega⟩) (by first | assumption | omega | exact ⟨by omega, by omega⟩) (by first | assumption | omega | exact ⟨by omega, by omega⟩) (by first | assumption | omega | exact ⟨by omega, by omega⟩) (by first | assumption | omega | exact ⟨by omega, by omega⟩) (by first | assumption | omega | exact ⟨by omega, by omega⟩) (by first | assumption | omega | exact ⟨by omega, by omega⟩) (by first | assumption | omega | exact ⟨by omega, by omega⟩) (by first | assumption | omega | exact ⟨by omega, by omega⟩) (by first | assumption | omega | exact ⟨by omega, by omega⟩) (by first | assumption | omega | exact ⟨by omega, by omega⟩) (by first | assumption | omega | exact ⟨by omega, by omega⟩) (by first | assumption | omega | exact ⟨by omega, by omega⟩) (by first | assumption | omega | exact ⟨by omega, by omega⟩) (by first | assumption | omega | exact ⟨by omega, by omega⟩)
  exact ⟨f1, g1, ht1, hb1, ⟨⟨p1_0, p1_1, p1_2, p1_3, p1_4⟩, F1_276, F1_277⟩, F1_262, (p1_5).trans (show f 20 + 11 = f 20 + 10 + 1 by omega), p1_6⟩
theorem zL_T10m (hA : zAll) (X : ZX) {Ls : Nat} {xs : Nat → Int32} {v : Int} {T : List Int} {f : Nat → Int} {g : Nat → Int → Int} (hbd : zBd g) (hP : zPf f) (h17 : 1 ≤ f 17 ∧ f 17 ≤ 16) (h19 : 0 ≤ f 19 ∧ f 19 < 2 * f 17) (h20 : 0 ≤ f 20) (ht : zTx_10m v T) (hv : g 262 (f 19 % f 17) = v) (hW : zAtB (fun a j => g (a + 20) j) (f 20) 0 T) (hs : g 277 (f 20 + (T.length : Int)) = 32) (hl : f 20 + (T.length : Int) < f 205) :
    ∃ (f' : Nat → Int) (g' : Nat → Int → Int), zToL Ls xs 4 f g 4 f' g' ∧ zBd g' ∧ zPk f g f' g' ∧ (∀ x, g' 262 x = g 262 x) ∧ f' 20 = f 20 + (T.length : Int) + 1 ∧ f' 19 = f 19 + 1 := by
  obtain ⟨hb, hT⟩ := ht
  subst hT
  obtain ⟨w0, w1, w2, w3, w4, w5, w6, w7, w8, w9, w10, -⟩ := hW
  obtain ⟨⟨r205, r205b⟩, ⟨r212, r212b⟩, ⟨r213, r213b⟩, ⟨r214, r214b⟩⟩ := hP
  have hl : f 20 + 11 < f 205 := hl
  have hs : g 277 (f 20 + 11) = 32 := hs
  have w0 : g 277 (f 20) = 45 := (congrArg (g 277) (Int.add_zero (f 20)).symm).trans w0
  have w1 : g 277 (f 20 + 1) = (((-v) / 1000000000) + 48) := w1
  have w2 : g 277 (f 20 + 2) = ((((-v) / 100000000) % 10) + 48) := w2
  have w3 : g 277 (f 20 + 3) = ((((-v) / 10000000) % 10) + 48) := w3
  have w4 : g 277 (f 20 + 4) = ((((-v) / 1000000) % 10) + 48) := w4
  have w5 : g 277 (f 20 + 5) = ((((-v) / 100000) % 10) + 48) := w5
  have w6 : g 277 (f 20 + 6) = ((((-v) / 10000) % 10) + 48) := w6
  have w7 : g 277 (f 20 + 7) = ((((-v) / 1000) % 10) + 48) := w7
  have w8 : g 277 (f 20 + 8) = ((((-v) / 100) % 10) + 48) := w8
  have w9 : g 277 (f 20 + 9) = ((((-v) / 10) % 10) + 48) := w9
  have w10 : g 277 (f 20 + 10) = (((-v) % 10) + 48) := w10
  obtain ⟨kn, hkn⟩ : ∃ kn, kn = f 19 % f 17 := ⟨_, rfl⟩
  rw [← hkn] at hv
  have okn : (0 : Int) ≤ (f 19) ∧ (0 : Int) < (f 17) ∧ kn = (f 19) % (f 17) := ⟨by omega, by omega, hkn⟩
  have knb : 0 ≤ kn ∧ kn ≤ 15 := by
    have z1 := Int.emod_nonneg (f 19) (show f 17 ≠ 0 by omega)
    have z2 := Int.emod_lt_of_pos (f 19) (show 0 < f 17 by omega)
    rw [← hkn] at z1 z2
    exact ⟨z1, by omega⟩
  clear hkn
  obtain ⟨f1, g1, p1_0, p1_1, p1_2, p1_3, p1_4, p1_5, p1_6, F1_276, F1_277, F1_262, hb1, ht1⟩ := zW_yT10m hA X (Ls := Ls) (xs := xs) f g hbd (kn) (v) (by first | assumption | omega | exact ⟨by omega, by omega⟩) (by first | assumption | omega | exact ⟨by omega, by omega⟩) (by first | assumption | omega | exact ⟨by omega, by omega⟩) (by first | assumption | omega | exact ⟨by omega, by omega⟩) (by first | assumption | omega | exact ⟨by omega, by omega⟩) (by first | assumption | omega | exact ⟨by omega, by omega⟩) (by first | assumption | omega | exact ⟨by omega, by omega⟩) (by first | assumption | omega | exact ⟨by omega, by omega⟩) (by first | assumption | omega | exact ⟨by omega, by omega⟩) (by first | assumption | omega | exact ⟨by omega, by omega⟩) (by first | assumption | omega | exact ⟨by omega, by omega⟩) (by first | assumption | omega | exact ⟨by omega, by omega⟩) (by first | assumption | omega | exact ⟨by omega, by omega⟩) (by first | assumption | omega | exact ⟨by omega, by omega⟩) (by first | assumption | omega | exact ⟨by omega, by omega⟩) (by first | assumption | omega | exact ⟨by omega, by omega⟩) (by first | assumption | omega | exact ⟨by omega, by omega⟩) (by first | assumption | omega | exact ⟨by omega, by omega⟩) (by first | assumption | omega | exact ⟨by omega, by omega⟩) (by first | assumption | omega | exact ⟨by omega, by omega⟩) (by first | assumption | omega | exact ⟨by omega, by omega⟩) (by first | assumption | omega | exact ⟨by omega, by omega⟩) (by first | assumption | omega | exact ⟨by omega, by omega⟩) (by first | assumption | omega | exact ⟨by omega, by omega⟩) (by first | assumption | omega | exact ⟨by omega, by omega⟩) (by first | assumption | omega | exact ⟨by omega, by omega⟩) (by first | assumption | omega | exact ⟨by omega, by omega⟩) (by first | assumption | omega | exact ⟨by omega, by omega⟩) (by first | assumption | omega | exact ⟨by omega, by omega⟩) (by first | assumption | omega | exact ⟨by omega, by omega⟩) (by first | assumption | omega | exact ⟨by omega, by omega⟩) (by first | assumption | omega | exact ⟨by omega, by omega⟩) (by first | assumption | omega | exact ⟨by omega, by omega⟩) (by first | assumption | omega | exact ⟨by omega, by omega⟩) (by first | assumption | omega | exact ⟨by omega, by omega⟩) (by first | assumption | omega | exact ⟨by omega, by omega⟩)
  exact ⟨f1, g1, ht1, hb1, ⟨⟨p1_0, p1_1, p1_2, p1_3, p1_4⟩, F1_276, F1_277⟩, F1_262, (p1_5).trans (show f 20 + 12 = f 20 + 11 + 1 by omega), p1_6⟩
theorem zL_T (hA : zAll) (X : ZX) {Ls : Nat} {xs : Nat → Int32} {v : Int} {T : List Int} {f : Nat → Int} {g : Nat → Int → Int} (hbd : zBd g) (hP : zPf f) (h17 : 1 ≤ f 17 ∧ f 17 ≤ 16) (h19 : 0 ≤ f 19 ∧ f 19 < 2 * f 17) (h20 : 0 ≤ f 20) (ht : zTx v T) (hv : g 262 (f 19 % f 17) = v) (hW : zAtB (fun a j => g (a + 20) j) (f 20) 0 T) (hs : g 277 (f 20 + (T.length : Int)) = 32) (hl : f 20 + (T.length : Int) < f 205) :
    ∃ (f' : Nat → Int) (g' : Nat → Int → Int), zToL Ls xs 4 f g 4 f' g' ∧ zBd g' ∧ zPk f g f' g' ∧ (∀ x, g' 262 x = g 262 x) ∧ f' 20 = f 20 + (T.length : Int) + 1 ∧ f' 19 = f 19 + 1 := by
  rcases ht with h | h | h | h | h | h | h | h | h | h | h | h | h | h | h | h | h | h | h | h
  · exact zL_T1p hA X hbd hP h17 h19 h20 h hv hW hs hl
  · exact zL_T1m hA X hbd hP h17 h19 h20 h hv hW hs hl
  · exact zL_T2p hA X hbd hP h17 h19 h20 h hv hW hs hl
  · exact zL_T2m hA X hbd hP h17 h19 h20 h hv hW hs hl
  · exact zL_T3p hA X hbd hP h17 h19 h20 h hv hW hs hl
  · exact zL_T3m hA X hbd hP h17 h19 h20 h hv hW hs hl
  · exact zL_T4p hA X hbd hP h17 h19 h20 h hv hW hs hl
  · exact zL_T4m hA X hbd hP h17 h19 h20 h hv hW hs hl
  · exact zL_T5p hA X hbd hP h17 h19 h20 h hv hW hs hl
  · exact zL_T5m hA X hbd hP h17 h19 h20 h hv hW hs hl
  · exact zL_T6p hA X hbd hP h17 h19 h20 h hv hW hs hl
  · exact zL_T6m hA X hbd hP h17 h19 h20 h hv hW hs hl
  · exact zL_T7p hA X hbd hP h17 h19 h20 h hv hW hs hl
  · exact zL_T7m hA X hbd hP h17 h19 h20 h hv hW hs hl
  · exact zL_T8p hA X hbd hP h17 h19 h20 h hv hW hs hl
  · exact zL_T8m hA X hbd hP h17 h19 h20 h hv hW hs hl
  · exact zL_T9p hA X hbd hP h17 h19 h20 h hv hW hs hl
  · exact zL_T9m hA X hbd hP h17 h19 h20 h hv hW hs hl
  · exact zL_T10p hA X hbd hP h17 h19 h20 h hv hW hs hl
  · exact zL_T10m hA X hbd hP h17 h19 h20 h hv hW hs hl
