/-! The program's sort: the whole. -/
theorem zKp_Rg {c l r : Int} {f f' : Nat → Int} {g g' : Nat → Int → Int} (hr : zRg f) (h : zKp c l r f g f' g') (h9 : 0 ≤ f' 9 ∧ f' 9 ≤ 1000) (h3 : 0 ≤ f' 3) (h3' : f' 3 ≤ f 3) (h16 : 0 ≤ f' 16 ∧ f' 16 ≤ 1000000000) : zRg f' := by
  obtain ⟨r4, r5, r6, r7, r9, r12, r13, r14, r15, r16, rs⟩ := hr
  obtain ⟨⟨c1, c2, c3, c4, c5, c6, c7, c8⟩, -⟩ := h
  exact ⟨⟨by omega, by omega⟩, ⟨by omega, by omega⟩, ⟨by omega, by omega⟩, ⟨by omega, by omega⟩, h9, ⟨by omega, by omega⟩, ⟨by omega, by omega⟩, ⟨by omega, by omega⟩, ⟨by omega, by omega⟩, h16, by omega⟩
theorem zKp_any {c l r l' r' : Int} {f f' : Nat → Int} {g g' : Nat → Int → Int} (h : zKp c l r f g f' g') (hv : ∀ x, 20000 ≤ x → g' 252 x = g 252 x) : zKp c l' r' f g f' g' := ⟨h.1, h.2.1, fun x hx _ => hv x hx, h.2.2.2⟩
theorem zKp_sub {c l r l' r' : Int} {f f' : Nat → Int} {g g' : Nat → Int → Int} (h : zKp c l r f g f' g') (h1 : l' ≤ l) (h2 : r ≤ r') : zKp c l' r' f g f' g' := ⟨h.1, h.2.1, fun x hx hx2 => h.2.2.1 x hx (by omega), h.2.2.2⟩
theorem zS_back {c R G n l r : Int} {f f1 f2 : Nat → Int} {g g1 g2 : Nat → Int → Int} (hF : zFm c R G n f g) (h1 : zIn c R G f g g1) (h1v : ∀ x, 20000 ≤ x → g1 252 x = g 252 x) (h1f : f1 5 = f 5 ∧ f1 6 = f 6 ∧ f1 7 = f 7 ∧ f1 12 = f 12 ∧ f1 13 = f 13 ∧ f1 14 = f 14 ∧ f1 15 = f 15) (h1s : f1 3 + f1 4 = f 3 + f 4) (h2 : zKp (c + 1) l r f1 g1 f2 g2) (e1 : f2 1 = 0) (e8 : f2 8 = c + 1 - 1) (e10 : f2 10 = 6 * (c + 1) - 5) (e11 : f2 11 = 7 * (c + 1) - 7) (hv : ∀ k, 1 ≤ k → k ≤ n → -2147483647 ≤ g2 252 (k + 19999) ∧ g2 252 (k + 19999) ≤ 2147483647) :
    zFm c R G n f2 g2 ∧ zKp c l r f g f2 g2 ∧ (∀ x, x < G + 6 → g2 252 x = g 252 x) ∧ ∀ x, x < 9 * c → x ≠ 9 * c - 5 → g2 255 x = g 255 x := by
  obtain ⟨⟨a1, a2, a3, a4, a5, a6, a7, a8, a9, a10⟩, ⟨b1, b2, b3, b4, b5⟩, ⟨d1, d2, d3, d4, d5, d6, d7, d8⟩, ⟨p1, p2, p3, p4, p5⟩, s4, sv⟩ := hF
  obtain ⟨q1, q2, q3, q4, q5, q6, q7, q8, q9, q10⟩ := h1
  obtain ⟨⟨k1, k2, k3, k4, k5, k6, k7, k8⟩, m1, m2, m3, m4, m5, m6, m7, m8, m9, m10, m11⟩ := h2
  have c252 : ∀ x, x < G + 6 → g2 252 x = g 252 x := fun x hx => (m1 x (by omega)).trans (q1 x hx)
  have c253 : ∀ x, x < G + 6 → g2 253 x = g 253 x := fun x hx => (m3 x (by omega)).trans (q2 x hx)
  have c254 : ∀ x, x < 5 * R + 35 → g2 254 x = g 254 x := fun x hx => (m5 x (by omega)).trans (q4 x hx)
  have c255 : ∀ x, x < 9 * c → x ≠ 9 * c - 5 → g2 255 x = g 255 x := fun x hx hx2 => (m7 x (by omega)).trans (q6 x hx hx2)
  have w8 : f2 8 = f 8 := by omega
  refine ⟨⟨⟨e1, by omega, by omega, by omega, a5, a6, a7, a8, a9, a10⟩, ?_, ⟨(c254 _ (by omega)).trans d1, (c254 _ (by omega)).trans d2, (c254 _ (by omega)).trans d3, (c254 _ (by omega)).trans d4, (c254 _ (by omega)).trans d5, (c254 _ (by omega)).trans d6, (c254 _ (by omega)).trans d7, (c254 _ (by omega)).trans d8⟩, ⟨(c253 _ (by omega)).trans p1, (c253 _ (by omega)).trans p2, (c253 _ (by omega)).trans p3, (c253 _ (by omega)).trans p4, (c253 _ (by omega)).trans p5⟩, fun k k1 k2 => ((m4 _ (by omega)).trans (q3 _ (by omega))).trans (s4 k k1 k2), hv⟩, ⟨⟨by omega, by omega, by omega, by omega, by omega, by omega, by omega, by omega⟩, fun x hx => c252 x (by omega), fun x hx hx2 => (m2 x hx hx2).trans (h1v x hx), fun x hx => c253 x (by omega), fun x hx => (m4 x hx).trans (q3 x hx), fun x hx => c254 x (by omega), fun x hx => (m6 x hx).trans (q5 x hx), fun x hx => c255 x (by omega) (by omega), fun x => (m8 x).trans (q7 x), fun x => (m9 x).trans (q8 x), fun x => (m10 x).trans (q9 x), fun x => (m11 x).trans (q10 x)⟩, c252, c255⟩
  rw [w8]
  exact ⟨(c255 _ (by omega) (by omega)).trans b1, (c255 _ (by omega) (by omega)).trans b2, (c255 _ (by omega) (by omega)).trans b3, (c255 _ (by omega) (by omega)).trans b4, (c255 _ (by omega) (by omega)).trans b5⟩
def zKn (w : Nat) : Nat := 60 * (w + 1) * (w + 1)
/-- what a call of sort comes to -/
def zSo (c l r n ret b : Int) (f : Nat → Int) (g : Nat → Int → Int) : Prop := ∃ (f' : Nat → Int) (g' : Nat → Int → Int), zTo f g f' g' ∧ zBd g' ∧ zKp c l r f g f' g' ∧ (f' 1 = 0 ∧ f' 2 = ret ∧ f' 8 = c - 1 ∧ f' 9 = 13 * c - 12 ∧ f' 10 = 6 * c - 5 ∧ f' 11 = 7 * c - 7) ∧ (∀ x y, l ≤ x → x ≤ y → y ≤ r → g' 252 (x + 19999) ≤ g' 252 (y + 19999)) ∧ (zVl n g').Perm (zVl n g) ∧
  (∀ P : Int → Prop, (∀ k, l ≤ k → k ≤ r → P (g 252 (k + 19999))) → ∀ k, l ≤ k → k ≤ r → P (g' 252 (k + 19999))) ∧ f 3 - b ≤ f' 3 ∧ f' 3 ≤ f 3 ∧ f' 16 + 100 * f' 3 ≤ f 16 + 100 * f 3 ∧ f 16 ≤ f' 16
/-- a step of sort's end: a call within, or none -/
def zSt1 (c R G n l r pc b : Int) (f : Nat → Int) (g : Nat → Int → Int) : Prop := ∃ (f' : Nat → Int) (g' : Nat → Int → Int), zTo f g f' g' ∧ zBd g' ∧ zFm c R G n f' g' ∧ zKp c l r f g f' g' ∧ f' 2 = pc ∧ f' 9 = 13 * c + 1 ∧ (∀ x, x < G + 4 → g' 252 x = g 252 x) ∧ g' 255 (9 * c - 6) = g 255 (9 * c - 6) ∧ g' 255 (9 * c - 1) = g 255 (9 * c - 1) ∧ (∀ x y, l ≤ x → x ≤ y → y ≤ r → g' 252 (x + 19999) ≤ g' 252 (y + 19999)) ∧ (zVl n g').Perm (zVl n g) ∧
  (∀ P : Int → Prop, (∀ k, l ≤ k → k ≤ r → P (g 252 (k + 19999))) → ∀ k, l ≤ k → k ≤ r → P (g' 252 (k + 19999))) ∧ f 3 - b ≤ f' 3 ∧ f' 3 ≤ f 3 ∧ f' 16 + 100 * f' 3 ≤ f 16 + 100 * f 3 ∧ f 16 ≤ f' 16
theorem zS_vb {n l r : Int} {g g' : Nat → Int → Int} (hv : ∀ k, 1 ≤ k → k ≤ n → -2147483647 ≤ g 252 (k + 19999) ∧ g 252 (k + 19999) ≤ 2147483647) (hl : 1 ≤ l ∧ r ≤ n) (ho : ∀ x, 20000 ≤ x → (x < l + 19999 ∨ r + 19999 < x) → g' 252 x = g 252 x) (hp : ∀ P : Int → Prop, (∀ k, l ≤ k → k ≤ r → P (g 252 (k + 19999))) → ∀ k, l ≤ k → k ≤ r → P (g' 252 (k + 19999))) : ∀ k, 1 ≤ k → k ≤ n → -2147483647 ≤ g' 252 (k + 19999) ∧ g' 252 (k + 19999) ≤ 2147483647 := by
  intro k k1 k2
  by_cases h : l ≤ k ∧ k ≤ r
  · exact hp (fun x => -2147483647 ≤ x ∧ x ≤ 2147483647) (fun k h1 h2 => hv k (by omega) (by omega)) k h.1 h.2
  · rw [ho _ (by omega) (by omega)]
    exact hv k k1 k2
theorem zS_sub {c R G n l r pc : Int} {f f1 : Nat → Int} {g g1 : Nat → Int → Int} {w : Nat} (hF : zFm c R G n f g) (hl : 1 ≤ l ∧ r ≤ n) (t1 : zTo f g f1 g1) (t5 : zIn c R G f g g1) (t6 : ∀ x, 20000 ≤ x → g1 252 x = g 252 x) (t7 : f1 5 = f 5 ∧ f1 6 = f 6 ∧ f1 7 = f 7 ∧ f1 12 = f 12 ∧ f1 13 = f 13 ∧ f1 14 = f 14 ∧ f1 15 = f 15) (t8 : f1 3 = f 3 - 2) (ts : f1 3 + f1 4 = f 3 + f 4) (t9 : f1 16 = f 16 + 14) (h : zSo (c + 1) l r n pc (zKn w : Nat) f1 g1) : zSt1 c R G n l r pc (2 + (zKn w : Nat)) f g := by
  obtain ⟨f2, g2, u1, u2, u3, ⟨u4, u5, u6, u7, u8, u9⟩, u10, u11, u12, u13, u14, u15, u16⟩ := h
  have vb := zS_vb (g' := g2) (fun k k1 k2 => by rw [t6 _ (by omega)]; exact hF.2.2.2.2.2 k k1 k2) hl u3.2.2.1 u12
  obtain ⟨b1, b2, b3, b4⟩ := zS_back hF t5 t6 t7 ts u3 u4 u6 u8 u9 vb
  refine ⟨f2, g2, zTo_trans t1 u1, u2, b1, b2, u5, by omega, fun x hx => b3 x (by omega), b4 _ (by omega) (by omega), b4 _ (by omega) (by omega), u10, ?_, fun P hP => u12 P fun k k1 k2 => ?_, by omega, by omega, by omega, by omega⟩
  · rw [zVl_eq t6] at u11
    exact u11
  · rw [t6 _ (by omega)]
    exact hP k k1 k2
/-- the call over l to j, or none -/
theorem zS_st1 (hA : zAll) (X : ZX) {c R G n i j : Int} {w : Nat} {f : Nat → Int} {g : Nat → Int → Int} (hbd : zBd g) (hF : zFm c R G n f g) (hr : zRg f) (h3 : 10 ≤ f 3) (h9 : f 9 = 13 * c + 1) (hc17 : g 252 G < j → c ≤ 17) (ha : f 2 = 373) (ei : g 252 (G + 2) = i) (ej : g 252 (G + 3) = j) (h16 : f 16 + 100 * f 3 ≤ 800000000) (hl : 1 ≤ g 252 G ∧ g 252 G ≤ 16) (hj : 0 ≤ j ∧ j ≤ n) (hw : g 252 G < j → (j - g 252 G).toNat = w)
    (IH : g 252 G < j → ∀ (f1 : Nat → Int) (g1 : Nat → Int → Int), zBd g1 → zEn (c + 1) (R + 7) (G + 6) n (g 252 G) j 417 f1 g1 → zRg f1 → f1 3 = f 3 - 2 → f1 16 + 100 * f1 3 ≤ 800000000 → zSo (c + 1) (g 252 G) j n 417 (zKn w : Nat) f1 g1) :
    ∃ b : Int, (b = 1 ∨ (g 252 G < j ∧ b = 2 + (zKn w : Nat))) ∧ zSt1 c R G n (g 252 G) j 417 b f g := by
  have a2 := hF.1.2.1
  have rs := hr.2.2.2.2.2.2.2.2.2.2
  have hn := hF.1.2.2.2.2.2.2.2.2
  by_cases hc : g 252 G < j
  · obtain ⟨f1, g1, t1, t2, t3, t4, t5, t6, t7, t8, t9⟩ := zS_L1c hA X hbd hF hr h3 h9 (hc17 hc) ha ei ej (by omega) hl hj hc
    have rs1 := t4.2.2.2.2.2.2.2.2.2.2
    exact ⟨_, Or.inr ⟨hc, rfl⟩, zS_sub hF ⟨hl.1, hj.2⟩ t1 t5 t6 t7 t8 (by omega) t9 (IH hc f1 g1 t2 t3 t4 t8 (by omega))⟩
  · obtain ⟨f1, g1, t1, t2, t3, t4, t5, t6, t7, t8, t9, t10⟩ := zS_L1n hA X hbd hF hr h3 ha ei ej rfl hl ⟨hj.1, by omega⟩ (by omega)
    have q9 : f1 9 = f 9 := t3.2.1.2.2.2.1
    have k255 := t3.2.2.2.2.2.2.1
    refine ⟨1, Or.inl rfl, f1, g1, t1, t2, zCh_Fm hF t3 (zFm_v hF t10), zKp_any (zCh_Kp hF t3) t10, t4, by omega, fun x hx => ?_, k255 _ (by omega), k255 _ (by omega), fun x y h1 h2 h3' => ?_, by rw [zVl_eq t10], fun P hP k k1 k2 => by rw [t10 _ (by omega)]; exact hP k k1 k2, by omega, by omega, by omega, by omega⟩
    · by_cases h1 : x < G + 2
      · exact t3.2.2.1 x h1
      · by_cases h2 : x = G + 2
        · rw [h2, t5, ei]
        · rw [show x = G + 3 by omega, t6, ej]
    · rw [show x = y by omega]
      exact Int.le_refl _
/-- the call over i to r, or none -/
theorem zS_st2 (hA : zAll) (X : ZX) {c R G n i j : Int} {w : Nat} {f : Nat → Int} {g : Nat → Int → Int} (hbd : zBd g) (hF : zFm c R G n f g) (hr : zRg f) (h3 : 10 ≤ f 3) (h9 : f 9 = 13 * c + 1) (hc17 : i < g 252 (G + 1) → c ≤ 17) (ha : f 2 = 417) (ei : g 252 (G + 2) = i) (ej : g 252 (G + 3) = j) (h16 : f 16 + 100 * f 3 ≤ 800000000) (hl : 1 ≤ g 252 (G + 1) ∧ g 252 (G + 1) ≤ n) (hi : 1 ≤ i ∧ i ≤ 17)
    (IH : i < g 252 (G + 1) → ∀ (f1 : Nat → Int) (g1 : Nat → Int → Int), zBd g1 → zEn (c + 1) (R + 7) (G + 6) n i (g 252 (G + 1)) 461 f1 g1 → zRg f1 → f1 3 = f 3 - 2 → f1 16 + 100 * f1 3 ≤ 800000000 → zSo (c + 1) i (g 252 (G + 1)) n 461 (zKn w : Nat) f1 g1) :
    ∃ b : Int, (b = 1 ∨ (i < g 252 (G + 1) ∧ b = 2 + (zKn w : Nat))) ∧ zSt1 c R G n i (g 252 (G + 1)) 461 b f g := by
  have a2 := hF.1.2.1
  have rs := hr.2.2.2.2.2.2.2.2.2.2
  have hn := hF.1.2.2.2.2.2.2.2.2
  by_cases hc : i < g 252 (G + 1)
  · obtain ⟨f1, g1, t1, t2, t3, t4, t5, t6, t7, t8, t9⟩ := zS_L2c hA X hbd hF hr h3 h9 (hc17 hc) ha ei ej (by omega) ⟨hl.1, by omega⟩ hi hc
    have rs1 := t4.2.2.2.2.2.2.2.2.2.2
    exact ⟨_, Or.inr ⟨hc, rfl⟩, zS_sub hF ⟨hi.1, hl.2⟩ t1 t5 t6 t7 t8 (by omega) t9 (IH hc f1 g1 t2 t3 t4 t8 (by omega))⟩
  · obtain ⟨f1, g1, t1, t2, t3, t4, t5, t6, t7, t8, t9, t10⟩ := zS_L2n hA X hbd hF hr h3 ha ei ej rfl ⟨hl.1, by omega⟩ hi (by omega)
    have q9 : f1 9 = f 9 := t3.2.1.2.2.2.1
    have k255 := t3.2.2.2.2.2.2.1
    refine ⟨1, Or.inl rfl, f1, g1, t1, t2, zCh_Fm hF t3 (zFm_v hF t10), zKp_any (zCh_Kp hF t3) t10, t4, by omega, fun x hx => ?_, k255 _ (by omega), k255 _ (by omega), fun x y h1 h2 h3' => ?_, by rw [zVl_eq t10], fun P hP k k1 k2 => by rw [t10 _ (by omega)]; exact hP k k1 k2, by omega, by omega, by omega, by omega⟩
    · by_cases h1 : x < G + 2
      · exact t3.2.2.1 x h1
      · by_cases h2 : x = G + 2
        · rw [h2, t5, ei]
        · rw [show x = G + 3 by omega, t6, ej]
    · rw [show x = y by omega]
      exact Int.le_refl _
theorem zKn_1 : ∀ w : Nat, w < 16 → 24 * w + 42 ≤ zKn w := by decide +kernel
theorem zKn_2 : ∀ w : Nat, w < 16 → ∀ a : Nat, a < w → 24 * w + 43 + zKn a ≤ zKn w := by decide +kernel
theorem zKn_3' : ∀ w : Nat, w < 16 → ∀ a : Nat, a < w → ∀ b : Nat, b < w → (Nat.ble 1 a && Nat.ble 1 b && Nat.ble (a + b + 1) w) = true → 24 * w + 44 + zKn a + zKn b ≤ zKn w := by decide +kernel
theorem zKn_3 (w : Nat) (hw : w < 16) (a : Nat) (ha : a < w) (b : Nat) (hb : b < w) (h1 : 0 < a) (h2 : 0 < b) (h3 : a + b + 1 ≤ w) : 24 * w + 44 + zKn a + zKn b ≤ zKn w := zKn_3' w hw a ha b hb (by rw [Nat.ble_eq_true_of_le h1, Nat.ble_eq_true_of_le h2, Nat.ble_eq_true_of_le h3]; rfl)
theorem zS_sort (hA : zAll) (X : ZX) {n : Int} : ∀ (w : Nat) (c R G l r ret : Int) (f : Nat → Int) (g : Nat → Int → Int), zBd g → zEn c R G n l r ret f g → zRg f → 1 ≤ l → l ≤ r → r ≤ n → (r - l).toNat = w → c + (r - l) ≤ 18 → (zKn w : Nat) + 100 ≤ f 3 → f 16 + 100 * f 3 ≤ 800000000 → zSo c l r n ret (zKn w : Nat) f g := by
  intro w
  induction w using Nat.strongRecOn with
  | ind w ih =>
  intro c R G l r ret f g hbd hE hr h1 h2 h3 h4 h5 h6 h7
  obtain ⟨-, -, -, -, -, -, eR, eG, c2, c18, n1, n16⟩ := hE.1
  have sv := hE.2.2.2.2.2
  have hw16 : w < 16 := by omega
  have K1 := zKn_1 w hw16
  obtain ⟨f1, g1, s1, s2, s3, s4, s5, s6, s7, s8, s9, s10, s11, s12, s13, s14, s15, s16, s17⟩ := zS_S1 hA X hbd hE hr (by omega) ⟨h1, h2, h3⟩ (by omega)
  obtain ⟨m, hm⟩ : ∃ m, m = g 252 ((l + r) / 2 + 19999) := ⟨_, rfl⟩
  have hmb := sv ((l + r) / 2) (by omega) (by omega)
  rw [← hm] at hmb s10
  have hmid : m = g1 252 ((l + r) / 2 + 19999) := by rw [s6 _ (by omega)]; exact hm
  have p8 : f1 8 = c := s3.1.2.1
  rw [p8] at s16 s17
  have r16 := hr.2.2.2.2.2.2.2.2.2.1
  obtain ⟨f2, g2, i, j, t1, t2, t3, t4, t5, t6, t7, t8, t9, t10, t11, t12, t13, t14, t15, t16, t17, t18, t19, t20⟩ := zS_part hA X hmb ⟨h1, h2, h3⟩ (r - l + 1).toNat l r f1 g1 s2 s3 s4 s7 s8 s9 s10 (Int.le_refl _) h2 (Int.le_refl _) (fun k k1 k2 => by omega) (fun k k1 k2 => by omega) ⟨(l + r) / 2, by omega, by omega, by omega⟩ ⟨(l + r) / 2, by omega, by omega, by omega⟩ (Or.inr ⟨(l + r) / 2, by omega, by omega, hmid.symm⟩) (by omega) (by omega) (by omega)
  have g2l : g2 252 G = l := (t4.2.2.1 _ (by omega)).trans s11
  have g2r : g2 252 (G + 1) = r := (t4.2.2.1 _ (by omega)).trans s12
  have q9 : f2 9 = 13 * c + 1 := by have := t4.2.1.2.2.2.1; omega
  have k2' := t4.2.2.2.2.2.2.1
  rw [p8] at k2'
  have hr2 := zCh_Rg s4 t4 (by omega) t18 (by have := s4.2.2.2.2.2.2.2.2.2.1; omega)
  have kp2 : zKp c l r f g f2 g2 := zKp_trans (zKp_any s5 s6) (zCh_Kp s3 t4)
  obtain ⟨b1, hb1, f3, g3, u1, u2, u3, u4, u5, u6, u7, u8, u9, u10, u11, u12, u13, u14, u15, u16⟩ := zS_st1 hA X (w := (j - l).toNat) t2 t3 hr2 (by omega) q9 (by omega) t5 t6 t7 (by omega) (by omega) (by omega) (by rw [g2l]; intro _; rfl)
    (by
      rw [g2l]
      intro hlt fa ga y1 y2 y3 y4 y5
      have K2 := zKn_2 w hw16 (j - l).toNat (by omega)
      exact ih (j - l).toNat (by omega) (c + 1) (R + 7) (G + 6) l j 417 fa ga y1 y2 y3 h1 (by omega) (by omega) rfl (by omega) (by omega) y5)
  rw [g2l] at hb1 u4 u10 u12
  have g3i : g3 252 (G + 2) = i := (u7 _ (by omega)).trans t6
  have g3j : g3 252 (G + 3) = j := (u7 _ (by omega)).trans t7
  have g3r : g3 252 (G + 1) = r := (u7 _ (by omega)).trans g2r
  have B1 : b1 ≤ 2 + (zKn w : Nat) - 24 * w - 43 + 0 * b1 ∨ b1 = 1 := by
    rcases hb1 with e | ⟨e, e'⟩
    · exact Or.inr e
    · have K2 := zKn_2 w hw16 (j - l).toNat (by omega)
      exact Or.inl (by omega)
  have hr3 := zKp_Rg hr2 u4 ⟨by omega, by omega⟩ (by omega) u14 (by have := hr2.2.2.2.2.2.2.2.2.2.1; omega)
  have TOT : ∀ b2 : Int, (b2 = 1 ∨ (i < r ∧ b2 = 2 + (zKn (r - i).toNat : Nat))) → 24 * (w : Int) + 40 + b1 + b2 ≤ (zKn w : Nat) := by
    intro b2 h
    rcases hb1 with e | ⟨e, e'⟩ <;> rcases h with e2 | ⟨e2, e2'⟩
    · omega
    · have K2 := zKn_2 w hw16 (r - i).toNat (by omega)
      omega
    · have K2 := zKn_2 w hw16 (j - l).toNat (by omega)
      omega
    · have K3 := zKn_3 w hw16 (j - l).toNat (by omega) (r - i).toNat (by omega) (by omega) (by omega) (by omega)
      omega
  obtain ⟨b2, hb2, f4, g4, v1, v2, v3, v4, v5, v6, v7, v8, v9, v10, v11, v12, v13, v14, v15, v16⟩ := zS_st2 hA X (w := (r - i).toNat) u2 u3 hr3 (by have := TOT 1 (Or.inl rfl); omega) u6 (by omega) u5 g3i g3j (by omega) (by omega) (by omega)
    (by
      rw [g3r]
      intro hlt fa ga y1 y2 y3 y4 y5
      have T2 := TOT _ (Or.inr ⟨hlt, rfl⟩)
      exact ih (r - i).toNat (by omega) (c + 1) (R + 7) (G + 6) i r 461 fa ga y1 y2 y3 (by omega) (by omega) (by omega) rfl (by omega) (by omega) y5)
  rw [g3r] at hb2 v4 v10 v12
  have T2 := TOT b2 hb2
  have hr4 := zKp_Rg hr3 v4 ⟨by omega, by omega⟩ (by omega) v14 (by have := hr3.2.2.2.2.2.2.2.2.2.1; omega)
  have p84 : f4 8 = c := v3.1.2.1
  obtain ⟨f5, g5, w1, w2, w3, w4, w5, w6, w7, w8, w9⟩ := zS_LV hA X (ret := ret) v2 v3 hr4 (by omega) v5 (by rw [p84, v8, u8, k2' _ (by omega)]; exact s16) (by rw [p84, v9, u9, k2' _ (by omega)]; exact s17)
  have w3' : ∀ x, g5 252 x = g4 252 x := fun x => w3 252 (by omega) (by omega) x
  have kp5 : zKp c l r f4 g4 f5 g5 := ⟨⟨w6.1, w6.2.1, w6.2.2.1, w6.2.2.2.1, w6.2.2.2.2.1, w6.2.2.2.2.2.1, w6.2.2.2.2.2.2, by omega⟩, fun x _ => w3' x, fun x _ _ => w3' x, fun x _ => w3 253 (by omega) (by omega) x, fun x _ => w3 253 (by omega) (by omega) x, fun x _ => w3 254 (by omega) (by omega) x, fun x _ => w3 254 (by omega) (by omega) x, fun x _ => w3 255 (by omega) (by omega) x, w3 256 (by omega) (by omega), w3 257 (by omega) (by omega), w3 258 (by omega) (by omega), w4⟩
  have pe5 : zVl n g5 = zVl n g4 := zVl_eq fun x _ => w3' x
  -- the pieces behind both calls
  have o3 : ∀ k, l ≤ k → k ≤ r → (k < l ∨ j < k) → g3 252 (k + 19999) = g2 252 (k + 19999) := fun k k1 k2 k3 => u4.2.2.1 _ (by omega) (by omega)
  have o4 : ∀ k, l ≤ k → k ≤ r → (k < i ∨ r < k) → g4 252 (k + 19999) = g3 252 (k + 19999) := fun k k1 k2 k3 => v4.2.2.1 _ (by omega) (by omega)
  have LO : ∀ k, l ≤ k → k < i → g4 252 (k + 19999) ≤ m := fun k k1 k2 => by
    rw [o4 k k1 (by omega) (by omega)]
    by_cases hk : k ≤ j
    · exact u12 (fun x => x ≤ m) (fun k h1 h2 => t13 k h1 (by omega)) k k1 hk
    · rw [o3 k k1 (by omega) (by omega)]
      exact t13 k k1 k2
  have HI : ∀ k, j < k → k ≤ r → m ≤ g4 252 (k + 19999) := fun k k1 k2 => by
    by_cases hk : i ≤ k
    · exact v12 (fun x => m ≤ x) (fun k h1 h2 => by rw [o3 k (by omega) h2 (by omega)]; exact t14 k (by omega) h2) k hk k2
    · rw [o4 k (by omega) k2 (by omega), o3 k (by omega) k2 (by omega)]
      exact t14 k k1 k2
  refine ⟨f5, g5, zTo_trans s1 (zTo_trans t1 (zTo_trans u1 (zTo_trans v1 w1))), w2, zKp_trans kp2 (zKp_trans (zKp_sub u4 (Int.le_refl _) (by omega)) (zKp_trans (zKp_sub v4 (by omega) (Int.le_refl _)) kp5)), ⟨w5.1, w5.2.1, w5.2.2.1, w5.2.2.2.1, by rw [w5.2.2.2.2.1]; exact eG, by rw [w5.2.2.2.2.2]; exact eR⟩, fun x y x1 x2 x3 => ?_, ?_, fun P hP k k1 k2 => ?_, by omega, by omega, by omega, by omega⟩
  · rw [w3' _, w3' _]
    by_cases hx : j < x
    · by_cases hy : i ≤ x
      · exact v10 x y hy x2 x3
      · exact Int.le_trans (LO x x1 (by omega)) (HI y (by omega) x3)
    · by_cases hy : y ≤ j
      · rw [o4 x x1 (by omega) (by omega), o4 y (by omega) x3 (by omega)]
        exact u10 x y x1 x2 hy
      · exact Int.le_trans (LO x x1 (by omega)) (HI y (by omega) x3)
  · rw [pe5]
    have z1 : (zVl n g1).Perm (zVl n g) := by rw [zVl_eq s6]
    exact v11.trans (u11.trans (t15.trans z1))
  · rw [w3' _]
    have P1 : ∀ k, l ≤ k → k ≤ r → P (g1 252 (k + 19999)) := fun k k1 k2 => by rw [s6 _ (by omega)]; exact hP k k1 k2
    have P2 := t16 P P1
    have P3 : ∀ k, l ≤ k → k ≤ r → P (g3 252 (k + 19999)) := fun k k1 k2 => by
      by_cases hk : k ≤ j
      · exact u12 P (fun k h1 h2 => P2 k h1 (by omega)) k k1 hk
      · rw [o3 k k1 k2 (by omega)]
        exact P2 k k1 k2
    by_cases hk : i ≤ k
    · exact v12 P (fun k h1 h2 => P3 k (by omega) h2) k hk k2
    · rw [o4 k k1 k2 (by omega)]
      exact P3 k k1 k2
