/-! The program's sort: scans, the partition. -/
theorem zCh_any {G l r l' r' : Int} {f f' : Nat → Int} {g g' : Nat → Int → Int} (h : zCh G l r f g f' g') (hv : ∀ x, 20000 ≤ x → g' 252 x = g 252 x) : zCh G l' r' f g f' g' := ⟨h.1, h.2.1, h.2.2.1, fun x hx _ => hv x hx, h.2.2.2.2⟩
theorem zCh_sub {G l r l' r' : Int} {f f' : Nat → Int} {g g' : Nat → Int → Int} (h : zCh G l r f g f' g') (h1 : l' ≤ l) (h2 : r ≤ r') : zCh G l' r' f g f' g' := ⟨h.1, h.2.1, h.2.2.1, fun x hx hx2 => h.2.2.2.1 x hx (by omega), h.2.2.2.2⟩
theorem zCh_trans {G l r : Int} {f f' f'' : Nat → Int} {g g' g'' : Nat → Int → Int} (h : zCh G l r f g f' g') (h' : zCh G l r f' g' f'' g'') : zCh G l r f g f'' g'' := by
  obtain ⟨⟨b1, b2, b3, b4⟩, ⟨c1, c2, c3, c4, c5, c6, c7, c8, c9⟩, d1, d2, d3, d4, d5, d6, d7, d8, d9⟩ := h
  obtain ⟨⟨b1', b2', b3', b4'⟩, ⟨c1', c2', c3', c4', c5', c6', c7', c8', c9'⟩, d1', d2', d3', d4', d5', d6', d7', d8', d9'⟩ := h'
  exact ⟨⟨by omega, by omega, by omega, by omega⟩, ⟨by omega, by omega, by omega, by omega, by omega, by omega, by omega, by omega, by omega⟩, fun x hx => (d1' x hx).trans (d1 x hx), fun x hx hy => (d2' x hx hy).trans (d2 x hx hy), fun x hx => (d3' x hx).trans (d3 x hx), fun x => (d4' x).trans (d4 x), fun x hx => (d5' x (by rw [b2]; exact hx)).trans (d5 x hx), fun x => (d6' x).trans (d6 x), fun x => (d7' x).trans (d7 x), fun x => (d8' x).trans (d8 x), fun x => (d9' x).trans (d9 x)⟩
theorem zCh_refl {G l r : Int} {f : Nat → Int} {g : Nat → Int → Int} (h : f 1 = 0) : zCh G l r f g f g := ⟨⟨h, rfl, rfl, rfl⟩, ⟨rfl, rfl, rfl, rfl, rfl, rfl, rfl, rfl, rfl⟩, fun _ _ => rfl, fun _ _ _ => rfl, fun _ _ => rfl, fun _ => rfl, fun _ _ => rfl, fun _ => rfl, fun _ => rfl, fun _ => rfl, fun _ => rfl⟩
theorem zFm_v {c R G n : Int} {f : Nat → Int} {g g' : Nat → Int → Int} (hF : zFm c R G n f g) (hv : ∀ x, 20000 ≤ x → g' 252 x = g 252 x) : ∀ k, 1 ≤ k → k ≤ n → -2147483647 ≤ g' 252 (k + 19999) ∧ g' 252 (k + 19999) ≤ 2147483647 := by
  intro k h1 h2
  rw [hv _ (by omega)]
  exact hF.2.2.2.2.2 k h1 h2
theorem zS_scI (hA : zAll) (X : ZX) {c R G n j m s : Int} (hm : -2147483647 ≤ m ∧ m ≤ 2147483647) : ∀ (q : Nat) (i : Int) (f : Nat → Int) (g : Nat → Int → Int), zBd g → zFm c R G n f g → zRg f → f 2 = 101 → g 252 (G + 2) = i → g 252 (G + 3) = j → g 252 (G + 4) = m → 1 ≤ i → i ≤ s → s ≤ n → s - i ≤ q → m ≤ g 252 (s + 19999) → 2 * (s - i) + 12 ≤ f 3 → f 16 + 100 * f 3 ≤ 900000000 →
    ∃ (f' : Nat → Int) (g' : Nat → Int → Int) (i' : Int), zTo f g f' g' ∧ zBd g' ∧ zCh G (n + 1) 0 f g f' g' ∧ f' 2 = 155 ∧ g' 252 (G + 2) = i' ∧ g' 252 (G + 3) = j ∧ g' 252 (G + 4) = m ∧ i ≤ i' ∧ i' ≤ s ∧ (∀ k, i ≤ k → k < i' → g 252 (k + 19999) < m) ∧ m ≤ g 252 (i' + 19999) ∧ f' 3 = f 3 - 2 * (i' - i) - 1 ∧ f' 16 = f 16 + 18 * (i' - i) + 10 ∧ ∀ x, 20000 ≤ x → g' 252 x = g 252 x := by
  intro q
  induction q with
  | zero =>
    intro i f g hbd hF hr ha ei ej em h1 h2 h3 h4 h5 h6 h7
    have e : s = i := by omega
    rw [e] at h5
    obtain ⟨f1, g1, t1, t2, t3, t4, t5, t6, t7, t8, t9, t10⟩ := zS_RIf hA X hbd hF hr (by omega) ha ei ej em ⟨h1, by omega⟩ hm h5
    exact ⟨f1, g1, i, t1, t2, t3, t4, t5, t6, t7, by omega, h2, fun k k1 k2 => by omega, h5, by omega, by omega, t10⟩
  | succ q ih =>
    intro i f g hbd hF hr ha ei ej em h1 h2 h3 h4 h5 h6 h7
    by_cases hc : m ≤ g 252 (i + 19999)
    · obtain ⟨f1, g1, t1, t2, t3, t4, t5, t6, t7, t8, t9, t10⟩ := zS_RIf hA X hbd hF hr (by omega) ha ei ej em ⟨h1, by omega⟩ hm hc
      exact ⟨f1, g1, i, t1, t2, t3, t4, t5, t6, t7, by omega, h2, fun k k1 k2 => by omega, hc, by omega, by omega, t10⟩
    · have his : i ≠ s := fun e => hc (by rw [e]; exact h5)
      obtain ⟨f1, g1, t1, t2, t3, t4, t5, t6, t7, t8, t9, t10⟩ := zS_RIt hA X hbd hF hr (by omega) ha ei ej em ⟨h1, by omega⟩ hm (by omega)
      have r16 := hr.2.2.2.2.2.2.2.2.2.1
      have hF1 := zCh_Fm hF t3 (zFm_v hF t10)
      have hr1 := zCh_Rg hr t3 (by omega) (by omega) (by omega)
      obtain ⟨f2, g2, i', u1, u2, u3, u4, u5, u6, u7, u8, u9, u10, u11, u12, u13, u14⟩ := ih (i + 1) f1 g1 t2 hF1 hr1 t4 t5 t6 t7 (by omega) (by omega) h3 (by omega) (by rw [t10 _ (by omega)]; exact h5) (by omega) (by omega)
      refine ⟨f2, g2, i', zTo_trans t1 u1, u2, zCh_trans t3 u3, u4, u5, u6, u7, by omega, u9, fun k k1 k2 => ?_, ?_, by omega, by omega, fun x hx => (u14 x hx).trans (t10 x hx)⟩
      · by_cases hk : k = i
        · rw [hk]
          omega
        · rw [← t10 _ (by omega)]
          exact u10 k (by omega) k2
      · rw [← t10 _ (by omega)]
        exact u11
theorem zS_scJ (hA : zAll) (X : ZX) {c R G n i m s : Int} (hm : -2147483647 ≤ m ∧ m ≤ 2147483647) : ∀ (q : Nat) (j : Int) (f : Nat → Int) (g : Nat → Int → Int), zBd g → zFm c R G n f g → zRg f → f 2 = 155 → g 252 (G + 2) = i → g 252 (G + 3) = j → g 252 (G + 4) = m → 1 ≤ s → s ≤ j → j ≤ n → j - s ≤ q → g 252 (s + 19999) ≤ m → 2 * (j - s) + 12 ≤ f 3 → f 16 + 100 * f 3 ≤ 900000000 →
    ∃ (f' : Nat → Int) (g' : Nat → Int → Int) (j' : Int), zTo f g f' g' ∧ zBd g' ∧ zCh G (n + 1) 0 f g f' g' ∧ f' 2 = 207 ∧ g' 252 (G + 2) = i ∧ g' 252 (G + 3) = j' ∧ g' 252 (G + 4) = m ∧ s ≤ j' ∧ j' ≤ j ∧ (∀ k, j' < k → k ≤ j → m < g 252 (k + 19999)) ∧ g 252 (j' + 19999) ≤ m ∧ f' 3 = f 3 - 2 * (j - j') ∧ f' 16 = f 16 + 18 * (j - j') + 9 ∧ ∀ x, 20000 ≤ x → g' 252 x = g 252 x := by
  intro q
  induction q with
  | zero =>
    intro j f g hbd hF hr ha ei ej em h1 h2 h3 h4 h5 h6 h7
    have e : s = j := by omega
    rw [e] at h5
    obtain ⟨f1, g1, t1, t2, t3, t4, t5, t6, t7, t8, t9, t10⟩ := zS_RJf hA X hbd hF hr (by omega) ha ei ej em ⟨by omega, by omega⟩ hm h5
    exact ⟨f1, g1, j, t1, t2, t3, t4, t5, t6, t7, h2, by omega, fun k k1 k2 => by omega, h5, by omega, by omega, t10⟩
  | succ q ih =>
    intro j f g hbd hF hr ha ei ej em h1 h2 h3 h4 h5 h6 h7
    by_cases hc : g 252 (j + 19999) ≤ m
    · obtain ⟨f1, g1, t1, t2, t3, t4, t5, t6, t7, t8, t9, t10⟩ := zS_RJf hA X hbd hF hr (by omega) ha ei ej em ⟨by omega, by omega⟩ hm hc
      exact ⟨f1, g1, j, t1, t2, t3, t4, t5, t6, t7, h2, by omega, fun k k1 k2 => by omega, hc, by omega, by omega, t10⟩
    · have his : j ≠ s := fun e => hc (by rw [e]; exact h5)
      obtain ⟨f1, g1, t1, t2, t3, t4, t5, t6, t7, t8, t9, t10⟩ := zS_RJt hA X hbd hF hr (by omega) ha ei ej em ⟨by omega, by omega⟩ hm (by omega)
      have r16 := hr.2.2.2.2.2.2.2.2.2.1
      have hF1 := zCh_Fm hF t3 (zFm_v hF t10)
      have hr1 := zCh_Rg hr t3 (by omega) (by omega) (by omega)
      obtain ⟨f2, g2, j', u1, u2, u3, u4, u5, u6, u7, u8, u9, u10, u11, u12, u13, u14⟩ := ih (j - 1) f1 g1 t2 hF1 hr1 t4 t5 t6 t7 h1 (by omega) (by omega) (by omega) (by rw [t10 _ (by omega)]; exact h5) (by omega) (by omega)
      refine ⟨f2, g2, j', zTo_trans t1 u1, u2, zCh_trans t3 u3, u4, u5, u6, u7, u8, by omega, fun k k1 k2 => ?_, ?_, by omega, by omega, fun x hx => (u14 x hx).trans (t10 x hx)⟩
      · by_cases hk : k = j
        · rw [hk]
          omega
        · rw [← t10 _ (by omega)]
          exact u10 k k1 (by omega)
      · rw [← t10 _ (by omega)]
        exact u11
/-- the vector as a list -/
def zVl (n : Int) (g : Nat → Int → Int) : List Int := (List.range n.toNat).map fun k : Nat => g 252 ((k : Int) + 20000)
theorem zVl_eq {n : Int} {g g' : Nat → Int → Int} (h : ∀ x, 20000 ≤ x → g' 252 x = g 252 x) : zVl n g' = zVl n g := List.map_congr_left fun (k : Nat) _ => h _ (by omega)
theorem zVl_swap {n i j : Int} {g g' : Nat → Int → Int} (h1 : 1 ≤ i) (h2 : i < j) (h3 : j ≤ n) (e1 : g' 252 (i + 19999) = g 252 (j + 19999)) (e2 : g' 252 (j + 19999) = g 252 (i + 19999)) (e3 : ∀ x, 20000 ≤ x → x ≠ i + 19999 → x ≠ j + 19999 → g' 252 x = g 252 x) : (zVl n g').Perm (zVl n g) := by
  have li : (i - 1).toNat < (zVl n g).length := by unfold zVl; rw [List.length_map, List.length_range]; omega
  have lj : (j - 1).toNat < (zVl n g).length := by unfold zVl; rw [List.length_map, List.length_range]; omega
  have e : zVl n g' = ((zVl n g).set (i - 1).toNat ((zVl n g)[(j - 1).toNat])).set (j - 1).toNat ((zVl n g)[(i - 1).toNat]) := by
    refine List.ext_getElem (by simp [zVl]) fun k k1 k2 => ?_
    have k3 : k < n.toNat := by simpa [zVl] using k1
    rw [List.getElem_set, List.getElem_set]
    simp only [zVl, List.getElem_map, List.getElem_range]
    split
    · next h =>
      rw [← h, show (((j - 1).toNat : Nat) : Int) + 20000 = j + 19999 by omega, e2, show (((i - 1).toNat : Nat) : Int) + 20000 = i + 19999 by omega]
    · next h =>
      split
      · next h' =>
        rw [← h', show (((i - 1).toNat : Nat) : Int) + 20000 = i + 19999 by omega, e1, show (((j - 1).toNat : Nat) : Int) + 20000 = j + 19999 by omega]
      · next h' => exact e3 _ (by omega) (by omega) (by omega)
  rw [e]
  exact List.set_set_perm li lj
