/-! The law: its own sort. -/
def zsh (g : Nat → Int → Int) : Nat → Int → Int := fun _ x => g 262 (x - 20000)
/-- of the first i + 1 numbers all are in order but the one at j -/
def zSi (i j : Int) (g : Nat → Int → Int) : Prop := ∀ x y, 0 ≤ x → x < y → y ≤ i → y ≠ j → g 262 x ≤ g 262 y
def zMb (n : Int) (g : Nat → Int → Int) : Prop := ∀ j, 0 ≤ j → j < n → -2147483647 ≤ g 262 j ∧ g 262 j ≤ 2147483647
theorem zL_S3 (hA : zAll) (X : ZX) {Ls : Nat} {xs : Nat → Int32} {n i j : Int} {f : Nat → Int} {g : Nat → Int → Int} (hbd : zBd g) (hP : zPf f) (hn : 1 ≤ n ∧ n ≤ 16) (h17 : f 17 = n) (h18 : f 18 = i) (h19 : f 19 = j) (hi : 1 ≤ i ∧ i < n) (hj : 1 ≤ j ∧ j ≤ i) (hm : zMb n g) (hs : zSi i j g) (hc : g 262 j < g 262 (j - 1)) :
    ∃ (f' : Nat → Int) (g' : Nat → Int → Int), zToL Ls xs 3 f g 3 f' g' ∧ zBd g' ∧ zPk f g f' g' ∧ f' 18 = i ∧ f' 19 = j - 1 ∧ zMb n g' ∧ zSi i (j - 1) g' ∧ (zVl n (zsh g')).Perm (zVl n (zsh g)) := by
  obtain ⟨⟨r205, r205b⟩, ⟨r212, r212b⟩, ⟨r213, r213b⟩, ⟨r214, r214b⟩⟩ := hP
  obtain ⟨v0, hv0⟩ : ∃ v, v = g 262 (j - 1) := ⟨_, rfl⟩
  obtain ⟨v1, hv1⟩ : ∃ v, v = g 262 j := ⟨_, rfl⟩
  have b0 := hm (j - 1) (by omega) (by omega)
  have b1 := hm j (by omega) (by omega)
  rw [← hv0] at b0
  rw [← hv1] at b1
  rw [← hv0, ← hv1] at hc
  have k0 : g 262 (f 19 - 1) = v0 := by rw [h19]; exact hv0.symm
  have k1 : g 262 (f 19) = v1 := by rw [h19]; exact hv1.symm
  obtain ⟨f1, g1, p1_0, p1_1, p1_2, p1_3, p1_4, p1_5, p1_6, F1_276, F1_277, F1_262, p1_7, p1_8, hb1, ht1⟩ := zW_yS3 hA X (Ls := Ls) (xs := xs) f g hbd (v0) (v1) (by first | assumption | omega | exact ⟨by omega, by omega⟩) (by first | assumption | omega | exact ⟨by omega, by omega⟩) (by first | assumption | omega | exact ⟨by omega, by omega⟩) (by first | assumption | omega | exact ⟨by omega, by omega⟩) (by first | assumption | omega | exact ⟨by omega, by omega⟩) (by first | assumption | omega | exact ⟨by omega, by omega⟩) (by first | assumption | omega | exact ⟨by omega, by omega⟩) (by first | assumption | omega | exact ⟨by omega, by omega⟩) (by first | assumption | omega | exact ⟨by omega, by omega⟩) (by first | assumption | omega | exact ⟨by omega, by omega⟩) (by first | assumption | omega | exact ⟨by omega, by omega⟩) (by first | assumption | omega | exact ⟨by omega, by omega⟩)
  rw [h19] at F1_262 p1_7 p1_8
  have kk : ∀ x, x ≠ j - 1 → x ≠ j → g1 262 x = g 262 x := fun x y1 y2 => F1_262 x (by omega) (by omega)
  refine ⟨f1, g1, ht1, hb1, ⟨⟨by assumption, by assumption, by assumption, by assumption, by assumption⟩, F1_276, F1_277⟩, by omega, by omega, fun x y1 y2 => ?_, fun x y y1 y2 y3 y4 => ?_, ?_⟩
  · by_cases e1 : x = j - 1
    · rw [e1, p1_7]
      exact b1
    · by_cases e2 : x = j
      · rw [e2, p1_8]
        exact b0
      · rw [kk x e1 e2]
        exact hm x y1 y2
  · have gx : x = j - 1 ∨ x = j ∨ g1 262 x = g 262 x := by
      by_cases e1 : x = j - 1
      · exact Or.inl e1
      · by_cases e2 : x = j
        · exact Or.inr (Or.inl e2)
        · exact Or.inr (Or.inr (kk x e1 e2))
    by_cases e : y = j
    · rw [e, p1_8]
      rcases gx with e1 | e1 | e1
      · rw [e1, p1_7]
        omega
      · omega
      · rw [e1, hv0]
        by_cases e2 : x = j - 1
        · rw [e2]
          exact Int.le_refl _
        · exact hs x (j - 1) y1 (by omega) (by omega) (by omega)
    · rw [kk y y4 e]
      rcases gx with e1 | e1 | e1
      · rw [e1, p1_7, hv1]
        exact hs j y (by omega) (by omega) y3 e
      · rw [e1, p1_8, hv0]
        exact hs (j - 1) y (by omega) (by omega) y3 e
      · rw [e1]
        exact hs x y y1 y2 y3 e
  · refine zVl_swap (i := j) (j := j + 1) (by omega) (by omega) (by omega) ?_ ?_ (fun x y1 y2 y3 => ?_)
    · show g1 262 (j + 19999 - 20000) = g 262 (j + 1 + 19999 - 20000)
      rw [show j + 19999 - 20000 = j - 1 by omega, show j + 1 + 19999 - 20000 = j by omega, p1_7, hv1]
    · show g1 262 (j + 1 + 19999 - 20000) = g 262 (j + 19999 - 20000)
      rw [show j + 19999 - 20000 = j - 1 by omega, show j + 1 + 19999 - 20000 = j by omega, p1_8, hv0]
    · exact kk (x - 20000) (by omega) (by omega)
/-- the inner loop -/
theorem zL_inn (hA : zAll) (X : ZX) {Ls : Nat} {xs : Nat → Int32} {n i : Int} (hn : 1 ≤ n ∧ n ≤ 16) (hi : 1 ≤ i ∧ i < n) : ∀ (w : Nat) (f : Nat → Int) (g : Nat → Int → Int), f 19 = (w : Int) → (w : Int) ≤ i → zBd g → zPf f → f 17 = n → f 18 = i → zMb n g → zSi i (w : Int) g →
    ∃ (f' : Nat → Int) (g' : Nat → Int → Int), zToL Ls xs 3 f g 2 f' g' ∧ zBd g' ∧ zPk f g f' g' ∧ f' 18 = i + 1 ∧ zMb n g' ∧ (∀ x y, 0 ≤ x → x < y → y < i + 1 → g' 262 x ≤ g' 262 y) ∧ (zVl n (zsh g')).Perm (zVl n (zsh g))
  | 0, f, g, h19, hw, hbd, hP, h17, h18, hm, hs => by
    have h19 : f 19 = 0 := h19
    obtain ⟨⟨r205, r205b⟩, ⟨r212, r212b⟩, ⟨r213, r213b⟩, ⟨r214, r214b⟩⟩ := hP
    obtain ⟨f1, g1, p1_0, p1_1, p1_2, p1_3, p1_4, p1_5, F1_276, F1_277, F1_262, hb1, ht1⟩ := zW_yS1 hA X (Ls := Ls) (xs := xs) f g hbd (by first | assumption | omega | exact ⟨by omega, by omega⟩) (by first | assumption | omega | exact ⟨by omega, by omega⟩) (by first | assumption | omega | exact ⟨by omega, by omega⟩) (by first | assumption | omega | exact ⟨by omega, by omega⟩) (by first | assumption | omega | exact ⟨by omega, by omega⟩) (by first | assumption | omega | exact ⟨by omega, by omega⟩) (by first | assumption | omega | exact ⟨by omega, by omega⟩)
    refine ⟨f1, g1, ht1, hb1, ⟨⟨by assumption, by assumption, by assumption, by assumption, by assumption⟩, F1_276, F1_277⟩, by omega, fun x y1 y2 => by rw [F1_262]; exact hm x y1 y2, fun x y y1 y2 y3 => ?_, by rw [show zVl n (zsh g1) = zVl n (zsh g) from zVl_eq fun x _ => F1_262 _]⟩
    rw [F1_262, F1_262]
    exact hs x y y1 y2 (by omega) (by show y ≠ ((0 : Nat) : Int); omega)
  | w + 1, f, g, h19, hw, hbd, hP, h17, h18, hm, hs => by
    by_cases hc : g 262 ((w + 1 : Nat) : Int) < g 262 (((w + 1 : Nat) : Int) - 1)
    · obtain ⟨f1, g1, t1, t2, t3, t4, t5, t6, t7, t8⟩ := zL_S3 hA X hbd hP hn h17 h18 h19 hi ⟨by omega, hw⟩ hm hs hc
      have e : (((w + 1 : Nat) : Int) - 1) = (w : Int) := by omega
      rw [e] at t5 t7
      obtain ⟨f2, g2, u1, u2, u3, u4, u5, u6, u7⟩ := zL_inn hA X hn hi w f1 g1 t5 (by omega) t2 (zPk_Pf hP t3) (t3.1.2.2.2.2.trans h17) t4 t6 t7
      refine ⟨f2, g2, zToL_trans t1 u1, u2, ⟨⟨u3.1.1.trans t3.1.1, u3.1.2.1.trans t3.1.2.1, u3.1.2.2.1.trans t3.1.2.2.1, u3.1.2.2.2.1.trans t3.1.2.2.2.1, u3.1.2.2.2.2.trans t3.1.2.2.2.2⟩, fun x => (u3.2.1 x).trans (t3.2.1 x), fun x => (u3.2.2 x).trans (t3.2.2 x)⟩, u4, u5, u6, u7.trans t8⟩
    · obtain ⟨j, hj⟩ : ∃ j : Int, j = ((w + 1 : Nat) : Int) := ⟨_, rfl⟩
      rw [← hj] at hc hs hw h19
      have j1 : 1 ≤ j := by omega
      obtain ⟨⟨r205, r205b⟩, ⟨r212, r212b⟩, ⟨r213, r213b⟩, ⟨r214, r214b⟩⟩ := hP
      obtain ⟨v0, hv0⟩ : ∃ v, v = g 262 (j - 1) := ⟨_, rfl⟩
      obtain ⟨v1, hv1⟩ : ∃ v, v = g 262 j := ⟨_, rfl⟩
      have b0 := hm (j - 1) (by omega) (by omega)
      have b1 := hm j (by omega) (by omega)
      rw [← hv0] at b0
      rw [← hv1] at b1
      rw [← hv0, ← hv1] at hc
      have k0 : g 262 (f 19 - 1) = v0 := by rw [h19]; exact hv0.symm
      have k1 : g 262 (f 19) = v1 := by rw [h19]; exact hv1.symm
      obtain ⟨f1, g1, p1_0, p1_1, p1_2, p1_3, p1_4, p1_5, F1_276, F1_277, F1_262, hb1, ht1⟩ := zW_yS2 hA X (Ls := Ls) (xs := xs) f g hbd (v0) (v1) (by first | assumption | omega | exact ⟨by omega, by omega⟩) (by first | assumption | omega | exact ⟨by omega, by omega⟩) (by first | assumption | omega | exact ⟨by omega, by omega⟩) (by first | assumption | omega | exact ⟨by omega, by omega⟩) (by first | assumption | omega | exact ⟨by omega, by omega⟩) (by first | assumption | omega | exact ⟨by omega, by omega⟩) (by first | assumption | omega | exact ⟨by omega, by omega⟩) (by first | assumption | omega | exact ⟨by omega, by omega⟩) (by first | assumption | omega | exact ⟨by omega, by omega⟩) (by first | assumption | omega | exact ⟨by omega, by omega⟩) (by first | assumption | omega | exact ⟨by omega, by omega⟩) (by first | assumption | omega | exact ⟨by omega, by omega⟩)
      refine ⟨f1, g1, ht1, hb1, ⟨⟨by assumption, by assumption, by assumption, by assumption, by assumption⟩, F1_276, F1_277⟩, by omega, fun x y1 y2 => by rw [F1_262]; exact hm x y1 y2, fun x y y1 y2 y3 => ?_, by rw [show zVl n (zsh g1) = zVl n (zsh g) from zVl_eq fun x _ => F1_262 _]⟩
      rw [F1_262, F1_262]
      by_cases e : y = j
      · rw [e]
        by_cases e2 : x = j - 1
        · rw [e2, ← hv0, ← hv1]
          omega
        · have := hs x (j - 1) y1 (by omega) (by omega) (by omega)
          rw [← hv0] at this
          rw [← hv1]
          omega
      · exact hs x y y1 y2 (by omega) e
/-- the outer loop -/
theorem zL_out (hA : zAll) (X : ZX) {Ls : Nat} {xs : Nat → Int32} {n : Int} (hn : 1 ≤ n ∧ n ≤ 16) : ∀ (w : Nat) (i : Int) (f : Nat → Int) (g : Nat → Int → Int), (n - i).toNat = w → 1 ≤ i → i ≤ n → zBd g → zPf f → f 17 = n → f 18 = i → zMb n g → (∀ x y, 0 ≤ x → x < y → y < i → g 262 x ≤ g 262 y) →
    ∃ (f' : Nat → Int) (g' : Nat → Int → Int), zToL Ls xs 2 f g 4 f' g' ∧ zBd g' ∧ zPk f g f' g' ∧ f' 20 = 0 ∧ f' 19 = 0 ∧ zMb n g' ∧ (∀ x y, 0 ≤ x → x < y → y < n → g' 262 x ≤ g' 262 y) ∧ (zVl n (zsh g')).Perm (zVl n (zsh g))
  | 0, i, f, g, hw, h1, h2, hbd, hP, h17, h18, hm, hs => by
    have e : i = n := by omega
    obtain ⟨⟨r205, r205b⟩, ⟨r212, r212b⟩, ⟨r213, r213b⟩, ⟨r214, r214b⟩⟩ := hP
    obtain ⟨f1, g1, p1_0, p1_1, p1_2, p1_3, p1_4, p1_5, p1_6, F1_276, F1_277, F1_262, hb1, ht1⟩ := zW_yS4 hA X (Ls := Ls) (xs := xs) f g hbd (by first | assumption | omega | exact ⟨by omega, by omega⟩) (by first | assumption | omega | exact ⟨by omega, by omega⟩) (by first | assumption | omega | exact ⟨by omega, by omega⟩) (by first | assumption | omega | exact ⟨by omega, by omega⟩) (by first | assumption | omega | exact ⟨by omega, by omega⟩) (by first | assumption | omega | exact ⟨by omega, by omega⟩)
    exact ⟨f1, g1, ht1, hb1, ⟨⟨by assumption, by assumption, by assumption, by assumption, by assumption⟩, F1_276, F1_277⟩, by assumption, by assumption, fun x y1 y2 => by rw [F1_262]; exact hm x y1 y2, fun x y y1 y2 y3 => by rw [F1_262, F1_262]; exact hs x y y1 y2 (by omega), by rw [show zVl n (zsh g1) = zVl n (zsh g) from zVl_eq fun x _ => F1_262 _]⟩
  | w + 1, i, f, g, hw, h1, h2, hbd, hP, h17, h18, hm, hs => by
    have hP0 := hP
    obtain ⟨⟨r205, r205b⟩, ⟨r212, r212b⟩, ⟨r213, r213b⟩, ⟨r214, r214b⟩⟩ := hP
    obtain ⟨f1, g1, p1_0, p1_1, p1_2, p1_3, p1_4, p1_5, p1_6, F1_276, F1_277, F1_262, hb1, ht1⟩ := zW_yS0 hA X (Ls := Ls) (xs := xs) f g hbd (by first | assumption | omega | exact ⟨by omega, by omega⟩) (by first | assumption | omega | exact ⟨by omega, by omega⟩) (by first | assumption | omega | exact ⟨by omega, by omega⟩) (by first | assumption | omega | exact ⟨by omega, by omega⟩) (by first | assumption | omega | exact ⟨by omega, by omega⟩) (by first | assumption | omega | exact ⟨by omega, by omega⟩) (by first | assumption | omega | exact ⟨by omega, by omega⟩)
    have pk : zPk f g f1 g1 := ⟨⟨by assumption, by assumption, by assumption, by assumption, by assumption⟩, F1_276, F1_277⟩
    obtain ⟨f2, g2, u1, u2, u3, u4, u5, u6, u7⟩ := zL_inn hA X (Ls := Ls) (xs := xs) hn (i := i) ⟨h1, by omega⟩ i.toNat f1 g1 (by omega) (by omega) hb1 (zPk_Pf hP0 pk) (by omega) (by omega) (fun x y1 y2 => by rw [F1_262]; exact hm x y1 y2) (fun x y y1 y2 y3 y4 => by
      rw [F1_262, F1_262]
      exact hs x y y1 y2 (by omega))
    obtain ⟨f3, g3, v1, v2, v3, v4, v5, v6, v7, v8⟩ := zL_out hA X hn w (i + 1) f2 g2 (by omega) (by omega) (by omega) u2 (zPk_Pf (zPk_Pf hP0 pk) u3) (by have := u3.1.2.2.2.2; have := pk.1.2.2.2.2; omega) u4 u5 u6
    have pe : (zVl n (zsh g1)).Perm (zVl n (zsh g)) := by rw [show zVl n (zsh g1) = zVl n (zsh g) from zVl_eq fun x _ => F1_262 _]
    exact ⟨f3, g3, zToL_trans (zToL_trans ht1 u1) v1, v2, ⟨⟨(v3.1.1.trans u3.1.1).trans pk.1.1, (v3.1.2.1.trans u3.1.2.1).trans pk.1.2.1, (v3.1.2.2.1.trans u3.1.2.2.1).trans pk.1.2.2.1, (v3.1.2.2.2.1.trans u3.1.2.2.2.1).trans pk.1.2.2.2.1, (v3.1.2.2.2.2.trans u3.1.2.2.2.2).trans pk.1.2.2.2.2⟩, fun x => ((v3.2.1 x).trans (u3.2.1 x)).trans (pk.2.1 x), fun x => ((v3.2.2 x).trans (u3.2.2 x)).trans (pk.2.2 x)⟩, v4, v5, v6, v7, (v8.trans u7).trans pe⟩
