/-! The partition. -/
theorem zS_X (hA : zAll) (X : ZX) {c R G n i j m : Int} {f : Nat → Int} {g : Nat → Int → Int} (hbd : zBd g) (hF : zFm c R G n f g) (hr : zRg f) (h3 : 10 ≤ f 3) (ha : f 2 = 207) (ei : g 252 (G + 2) = i) (ej : g 252 (G + 3) = j) (em : g 252 (G + 4) = m) (hi : 1 ≤ i ∧ i ≤ j ∧ j ≤ n) :
    ∃ (f' : Nat → Int) (g' : Nat → Int → Int), zTo f g f' g' ∧ zBd g' ∧ zCh G i j f g f' g' ∧ f' 2 = 355 ∧ g' 252 (G + 2) = i + 1 ∧ g' 252 (G + 3) = j - 1 ∧ g' 252 (G + 4) = m ∧ f' 3 = f 3 - 6 ∧ f' 16 = f 16 + 48 ∧ g' 252 (i + 19999) = g 252 (j + 19999) ∧ g' 252 (j + 19999) = g 252 (i + 19999) ∧ (∀ x, 20000 ≤ x → x ≠ i + 19999 → x ≠ j + 19999 → g' 252 x = g 252 x) ∧ (zVl n g').Perm (zVl n g) ∧ (∀ k, 1 ≤ k → k ≤ n → -2147483647 ≤ g' 252 (k + 19999) ∧ g' 252 (k + 19999) ≤ 2147483647) := by
  have sv := hF.2.2.2.2.2
  by_cases hij : i = j
  · obtain ⟨f1, g1, t1, t2, t3, t4, t5, t6, t7, t8, t9, t10⟩ := zS_Xe hA X hbd hF hr h3 ha ei ej em ⟨hi.1, hij.symm, by omega⟩
    refine ⟨f1, g1, t1, t2, zCh_any t3 t10, t4, t5, t6, t7, t8, t9, ?_, ?_, fun x hx _ _ => t10 x hx, ?_, zFm_v hF t10⟩
    · rw [t10 _ (by omega), hij]
    · rw [t10 _ (by omega), hij]
    · rw [zVl_eq t10]
  · obtain ⟨f1, g1, t1, t2, t3, t4, t5, t6, t7, t8, t9, t10, t11, t12⟩ := zS_Xs hA X hbd hF hr h3 ha ei ej em ⟨hi.1, by omega, hi.2.2⟩
    refine ⟨f1, g1, t1, t2, t3, t4, t5, t6, t7, t8, t9, t10, t11, t12, zVl_swap hi.1 (by omega) hi.2.2 t10 t11 t12, fun k k1 k2 => ?_⟩
    by_cases h1 : k = i
    · rw [h1, t10]
      exact sv j (by omega) (by omega)
    · by_cases h2 : k = j
      · rw [h2, t11]
        exact sv i (by omega) (by omega)
      · rw [t12 _ (by omega) (by omega) (by omega)]
        exact sv k k1 k2
/-- what the partition owes -/
def zPt (c R G n l r m : Int) (f : Nat → Int) (g : Nat → Int → Int) (b : Int) : Prop :=
  ∃ (f' : Nat → Int) (g' : Nat → Int → Int) (i' j' : Int), zTo f g f' g' ∧ zBd g' ∧ zFm c R G n f' g' ∧ zCh G l r f g f' g' ∧ f' 2 = 373 ∧ g' 252 (G + 2) = i' ∧ g' 252 (G + 3) = j' ∧ l < i' ∧ i' ≤ r + 1 ∧ l - 1 ≤ j' ∧ j' < r ∧ j' < i' ∧ (∀ k, l ≤ k → k < i' → g' 252 (k + 19999) ≤ m) ∧ (∀ k, j' < k → k ≤ r → m ≤ g' 252 (k + 19999)) ∧ (zVl n g').Perm (zVl n g) ∧
    (∀ P : Int → Prop, (∀ k, l ≤ k → k ≤ r → P (g 252 (k + 19999))) → ∀ k, l ≤ k → k ≤ r → P (g' 252 (k + 19999))) ∧ f 3 - b ≤ f' 3 ∧ f' 3 ≤ f 3 ∧ f' 16 + 100 * f' 3 ≤ f 16 + 100 * f 3 ∧ f 16 ≤ f' 16
theorem zS_part (hA : zAll) (X : ZX) {c R G n l r m : Int} (hm : -2147483647 ≤ m ∧ m ≤ 2147483647) (hl : 1 ≤ l ∧ l ≤ r ∧ r ≤ n) : ∀ (q : Nat) (i j : Int) (f : Nat → Int) (g : Nat → Int → Int), zBd g → zFm c R G n f g → zRg f → f 2 = 101 → g 252 (G + 2) = i → g 252 (G + 3) = j → g 252 (G + 4) = m → l ≤ i → i ≤ j → j ≤ r → (∀ k, l ≤ k → k < i → g 252 (k + 19999) ≤ m) → (∀ k, j < k → k ≤ r → m ≤ g 252 (k + 19999)) → (∃ s, i ≤ s ∧ s ≤ r ∧ m ≤ g 252 (s + 19999)) → (∃ s, l ≤ s ∧ s ≤ j ∧ g 252 (s + 19999) ≤ m) → ((l < i ∧ j < r) ∨ ∃ s, i ≤ s ∧ s ≤ j ∧ g 252 (s + 19999) = m) → j - i < q → 12 * (r + 1 - i) + 12 * (j - l + 1) + 40 ≤ f 3 → f 16 + 100 * f 3 ≤ 800000000 →
    zPt c R G n l r m f g (12 * (r + 1 - i) + 12 * (j - l + 1) + 10) := by
  intro q
  induction q with
  | zero =>
    intro i j f g hbd hF hr ha ei ej em h1 h2 h3 h4 h5 h6 h7 h8 h9
    omega
  | succ q ih =>
    intro i j f g hbd hF hr ha ei ej em h1 h2 h3 h4 h5 ⟨s, s1, s2, s3⟩ ⟨s', s4, s5, s6⟩ h8 h9 h10 h11
    have hn := hF.1.2.2.2.2.2.2.2.2
    have r16 := hr.2.2.2.2.2.2.2.2.2.1
    obtain ⟨f1, g1, i1, t1, t2, t3, t4, t5, t6, t7, t8, t9, t10, t11, t12, t13, t14⟩ := zS_scI hA X hm (s - i).toNat i f g hbd hF hr ha ei ej em (by omega) s1 (by omega) (by omega) s3 (by omega) (by omega)
    have hF1 := zCh_Fm hF t3 (zFm_v hF t14)
    have hr1 := zCh_Rg hr t3 (by omega) (by omega) (by omega)
    obtain ⟨f2, g2, j1, u1, u2, u3, u4, u5, u6, u7, u8, u9, u10, u11, u12, u13, u14⟩ := zS_scJ hA X hm (j - s').toNat j f1 g1 t2 hF1 hr1 t4 t5 t6 t7 (by omega) s5 (by omega) (by omega) (by rw [t14 _ (by omega)]; exact s6) (by omega) (by omega)
    have hF2 := zCh_Fm hF1 u3 (zFm_v hF1 u14)
    have hr2 := zCh_Rg hr1 u3 (by omega) (by omega) (by omega)
    have v2 : ∀ x, 20000 ≤ x → g2 252 x = g 252 x := fun x hx => (u14 x hx).trans (t14 x hx)
    have c2 : zCh G l r f g f2 g2 := zCh_any (zCh_trans t3 u3) v2
    have lo2 : ∀ k, l ≤ k → k < i1 → g2 252 (k + 19999) ≤ m := fun k k1 k2 => by
      rw [v2 _ (by omega)]
      by_cases hk : k < i
      · exact h4 k k1 hk
      · have := t10 k (by omega) k2
        omega
    have hi2 : ∀ k, j1 < k → k ≤ r → m ≤ g2 252 (k + 19999) := fun k k1 k2 => by
      rw [v2 _ (by omega)]
      by_cases hk : j < k
      · exact h5 k hk k2
      · have := u10 k k1 (by omega)
        rw [t14 _ (by omega)] at this
        omega
    have ai : m ≤ g2 252 (i1 + 19999) := by rw [v2 _ (by omega)]; exact t11
    have aj : g2 252 (j1 + 19999) ≤ m := by rw [u14 _ (by omega)]; exact u11
    by_cases hx : i1 ≤ j1
    · obtain ⟨f3, g3, w1, w2, w3, w4, w5, w6, w7, w8, w9, w10, w11, w12, w13, w14⟩ := zS_X hA X u2 hF2 hr2 (by omega) u4 u5 u6 u7 ⟨by omega, hx, by omega⟩
      have hF3 := zCh_Fm hF2 w3 w14
      have hr3 := zCh_Rg hr2 w3 (by omega) (by omega) (by omega)
      have c3 : zCh G l r f g f3 g3 := zCh_trans c2 (zCh_sub w3 (by omega) (by omega))
      have lo3 : ∀ k, l ≤ k → k < i1 + 1 → g3 252 (k + 19999) ≤ m := fun k k1 k2 => by
        by_cases hk : k = i1
        · rw [hk, w10]
          exact aj
        · rw [w12 _ (by omega) (by omega) (by omega)]
          exact lo2 k k1 (by omega)
      have hi3 : ∀ k, j1 - 1 < k → k ≤ r → m ≤ g3 252 (k + 19999) := fun k k1 k2 => by
        by_cases hk : k = j1
        · rw [hk, w11]
          exact ai
        · rw [w12 _ (by omega) (by omega) (by omega)]
          exact hi2 k (by omega) k2
      have pe3 : (zVl n g3).Perm (zVl n g) := by rw [← zVl_eq v2]; exact w13
      have pp3 : ∀ P : Int → Prop, (∀ k, l ≤ k → k ≤ r → P (g 252 (k + 19999))) → ∀ k, l ≤ k → k ≤ r → P (g3 252 (k + 19999)) := fun P hP k k1 k2 => by
        by_cases hk : k = i1
        · rw [hk, w10, v2 _ (by omega)]
          exact hP j1 (by omega) (by omega)
        · by_cases hk' : k = j1
          · rw [hk', w11, v2 _ (by omega)]
            exact hP i1 (by omega) (by omega)
          · rw [w12 _ (by omega) (by omega) (by omega), v2 _ (by omega)]
            exact hP k k1 k2
      by_cases hy : i1 + 1 ≤ j1 - 1
      · obtain ⟨f4, g4, x1, x2, x3, x4, x5, x6, x7, x8, x9, x10⟩ := zS_Uc hA X w2 hF3 hr3 (by omega) w4 w5 w6 w7 ⟨by omega, hy, by omega⟩
        have hF4 := zCh_Fm hF3 x3 (zFm_v hF3 x10)
        have hr4 := zCh_Rg hr3 x3 (by omega) (by omega) (by omega)
        obtain ⟨f5, g5, i5, j5, y1, y2, y3, y4, y5, y6, y7, y8, y9, y10, y11, y12, y13, y14, y15, y16, y17, y18, y19, y20⟩ := ih (i1 + 1) (j1 - 1) f4 g4 x2 hF4 hr4 x4 x5 x6 x7 (by omega) hy (by omega) (fun k k1 k2 => by rw [x10 _ (by omega)]; exact lo3 k k1 k2) (fun k k1 k2 => by rw [x10 _ (by omega)]; exact hi3 k k1 k2) ⟨j1, by omega, by omega, by rw [x10 _ (by omega)]; exact hi3 j1 (by omega) (by omega)⟩ ⟨i1, by omega, by omega, by rw [x10 _ (by omega)]; exact lo3 i1 (by omega) (by omega)⟩ (Or.inl ⟨by omega, by omega⟩) (by omega) (by omega) (by omega)
        refine ⟨f5, g5, i5, j5, zTo_trans t1 (zTo_trans u1 (zTo_trans w1 (zTo_trans x1 y1))), y2, y3, zCh_trans c3 (zCh_trans (zCh_any x3 x10) y4), y5, y6, y7, y8, y9, y10, y11, y12, y13, y14, ?_, fun P hP => ?_, by omega, by omega, by omega, by omega⟩
        · rw [zVl_eq x10] at y15
          exact y15.trans pe3
        · refine y16 P fun k k1 k2 => ?_
          rw [x10 _ (by omega)]
          exact pp3 P hP k k1 k2
      · obtain ⟨f4, g4, x1, x2, x3, x4, x5, x6, x7, x8, x9, x10⟩ := zS_Ue hA X w2 hF3 hr3 (by omega) w4 w5 w6 w7 ⟨by omega, by omega, by omega, by omega, by omega⟩
        refine ⟨f4, g4, i1 + 1, j1 - 1, zTo_trans t1 (zTo_trans u1 (zTo_trans w1 x1)), x2, zCh_Fm hF3 x3 (zFm_v hF3 x10), zCh_trans c3 (zCh_any x3 x10), x4, x5, x6, by omega, by omega, by omega, by omega, by omega, fun k k1 k2 => ?_, fun k k1 k2 => ?_, ?_, fun P hP k k1 k2 => ?_, by omega, by omega, by omega, by omega⟩
        · rw [x10 _ (by omega)]
          exact lo3 k k1 k2
        · rw [x10 _ (by omega)]
          exact hi3 k k1 k2
        · rw [zVl_eq x10]
          exact pe3
        · rw [x10 _ (by omega)]
          exact pp3 P hP k k1 k2
    · have hs : l < i1 ∧ j1 < r := by
        rcases h8 with h8 | ⟨z, z1, z2, z3⟩
        · omega
        · exfalso
          have k1 : i1 ≤ z := by
            by_cases hz : i1 ≤ z
            · exact hz
            · have := t10 z z1 (by omega)
              omega
          have k2 : z ≤ j1 := by
            by_cases hz : z ≤ j1
            · exact hz
            · have := u10 z (by omega) z2
              rw [t14 _ (by omega)] at this
              omega
          omega
      obtain ⟨f3, g3, w1, w2, w3, w4, w5, w6, w7, w8, w9, w10⟩ := zS_Xn hA X u2 hF2 hr2 (by omega) u4 u5 u6 u7 ⟨by omega, by omega, by omega, by omega, by omega⟩
      have hF3 := zCh_Fm hF2 w3 (zFm_v hF2 w10)
      have hr3 := zCh_Rg hr2 w3 (by omega) (by omega) (by omega)
      obtain ⟨f4, g4, x1, x2, x3, x4, x5, x6, x7, x8, x9, x10⟩ := zS_Ue hA X w2 hF3 hr3 (by omega) w4 w5 w6 w7 ⟨by omega, by omega, by omega, by omega, by omega⟩
      have v4 : ∀ x, 20000 ≤ x → g4 252 x = g2 252 x := fun x hx => (x10 x hx).trans (w10 x hx)
      refine ⟨f4, g4, i1, j1, zTo_trans t1 (zTo_trans u1 (zTo_trans w1 x1)), x2, zCh_Fm hF3 x3 (zFm_v hF3 x10), zCh_trans c2 (zCh_any (zCh_trans w3 x3) v4), x4, x5, x6, hs.1, by omega, by omega, hs.2, by omega, fun k k1 k2 => ?_, fun k k1 k2 => ?_, ?_, fun P hP k k1 k2 => ?_, by omega, by omega, by omega, by omega⟩
      · rw [v4 _ (by omega)]
        exact lo2 k k1 k2
      · rw [v4 _ (by omega)]
        exact hi2 k k1 k2
      · rw [zVl_eq v4, zVl_eq v2]
      · rw [v4 _ (by omega), v2 _ (by omega)]
        exact hP k k1 k2
