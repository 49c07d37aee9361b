/-! The program's main part: the vector is written. -/
/-- numbers are written from b to e, each with a blank behind it -/
def zWs (g : Nat → Int → Int) : Int → List Int → Int → Prop
  | b, [], e => e = b
  | b, v :: W, e => ∃ T : List Int, (zTx v T ∧ zAtB g b 0 T ∧ (T.length : Int) ≤ 11) ∧ g 257 (b + T.length) = 32 ∧ zWs g (b + T.length + 1) W e
theorem zWs_le {g : Nat → Int → Int} : ∀ (W : List Int) (b e : Int), zWs g b W e → b ≤ e ∧ e ≤ b + 12 * (W.length : Int)
  | [], b, e, h => by
    have h : e = b := h
    exact ⟨by omega, by omega⟩
  | v :: W, b, e, h => by
    obtain ⟨T, h1, h2, h3⟩ := h
    have := zWs_le W _ e h3
    have h11 := h1.2.2
    rw [List.length_cons]
    exact ⟨by omega, by omega⟩
theorem zWs_keep {g g' : Nat → Int → Int} : ∀ (W : List Int) (b e : Int), (∀ x, x < e → g' 257 x = g 257 x) → zWs g b W e → zWs g' b W e
  | [], b, e, _, h => h
  | v :: W, b, e, hk, h => by
    obtain ⟨T, ⟨h1, h2, h4⟩, h5, h3⟩ := h
    have := (zWs_le W _ e h3).1
    exact ⟨T, ⟨h1, zAtB_keep T 0 (fun x hx => hk x (by omega)) h2, h4⟩, (hk _ (by omega)).trans h5, zWs_keep W _ e hk h3⟩
theorem zWs_snoc {g : Nat → Int → Int} {v : Int} {T : List Int} : ∀ (W : List Int) (b e : Int), zWs g b W e → zTx v T → zAtB g e 0 T → (T.length : Int) ≤ 11 → g 257 (e + T.length) = 32 → zWs g b (W ++ [v]) (e + T.length + 1)
  | [], b, e, h, h1, h2, h3, h4 => by
    have h : e = b := h
    rw [h] at h2 h4
    exact ⟨T, ⟨h1, h2, h3⟩, h4, by rw [h]; rfl⟩
  | w :: W, b, e, h, h1, h2, h3, h4 => by
    obtain ⟨T', k1, k2, k3⟩ := h
    exact ⟨T', k1, k2, zWs_snoc W _ e k3 h1 h2 h3 h4⟩
def zVk (n : Int) (f : Nat → Int) (g : Nat → Int → Int) (f' : Nat → Int) (g' : Nat → Int → Int) : Prop :=
  (f' 8 = f 8 ∧ f' 9 = f 9 ∧ f' 10 = f 10 ∧ f' 11 = f 11 ∧ f' 6 = f 6 ∧ f' 7 = f 7 ∧ f' 12 = f 12 ∧ f' 13 = f 13 ∧ f' 14 = f 14 ∧ f' 15 = f 15 ∧ f' 3 + f' 4 = f 3 + f 4 ∧ f 5 ≤ f' 5 ∧ f' 3 ≤ f 3 ∧ f 16 ≤ f' 16) ∧ zFq n g g' ∧ (∀ x, 20000 ≤ x → g' 252 x = g 252 x) ∧ (∀ x, 20000 ≤ x → g' 253 x = g 253 x) ∧ (∀ x, x < f 5 → g' 257 x = g 257 x)
theorem zVk_trans {n : Int} {f f' f'' : Nat → Int} {g g' g'' : Nat → Int → Int} (h : zVk n f g f' g') (h' : zVk n f' g' f'' g'') : zVk n f g f'' g'' := by
  obtain ⟨⟨a1, a2, a3, a4, a5, a6, a7, a8, a9, a10, a11, a12, a13, a14⟩, b1, b2, b3, b4⟩ := h
  obtain ⟨⟨c1, c2, c3, c4, c5, c6, c7, c8, c9, c10, c11, c12, c13, c14⟩, d1, d2, d3, d4⟩ := h'
  exact ⟨⟨c1.trans a1, c2.trans a2, c3.trans a3, c4.trans a4, c5.trans a5, c6.trans a6, c7.trans a7, c8.trans a8, c9.trans a9, c10.trans a10, c11.trans a11, Int.le_trans a12 c12, Int.le_trans c13 a13, Int.le_trans a14 c14⟩, zFq_trans b1 d1, fun x h => (d2 x h).trans (b2 x h), fun x h => (d3 x h).trans (b3 x h), fun x h => (d4 x (Int.lt_of_lt_of_le h a12)).trans (b4 x h)⟩
theorem zVk_Ms {n : Int} {f f' : Nat → Int} {g g' : Nat → Int → Int} (hM : zMs n f g) (h : zVk n f g f' g') : zMs n f' g' := zFq_Ms hM h.2.1 ⟨h.1.1.trans hM.1.1, h.1.2.1.trans hM.1.2.1, h.1.2.2.1.trans hM.1.2.2.1, h.1.2.2.2.1.trans hM.1.2.2.2.1⟩
theorem zVk_Rm {n : Int} {f f' : Nat → Int} {g g' : Nat → Int → Int} (hr : zRm f) (h : zVk n f g f' g') (h3 : 0 ≤ f' 3) (h5 : f' 5 ≤ 1000) (h16 : f' 16 ≤ 1000000000) : zRm f' := by
  obtain ⟨r4, r5, r6, r7, r12, r13, r14, r15, r16, rs⟩ := hr
  obtain ⟨⟨a1, a2, a3, a4, a5, a6, a7, a8, a9, a10, a11, a12, a13, a14⟩, -⟩ := h
  exact ⟨⟨by omega, by omega⟩, ⟨by omega, by omega⟩, ⟨by omega, by omega⟩, ⟨by omega, by omega⟩, ⟨by omega, by omega⟩, ⟨by omega, by omega⟩, ⟨by omega, by omega⟩, ⟨by omega, by omega⟩, ⟨by omega, by omega⟩, by omega⟩
theorem zNk_Vk {n l : Int} {f f' : Nat → Int} {g g' : Nat → Int → Int} (h : zNk l f g f' g') (hl : 0 ≤ l) : zVk n f g f' g' := by
  obtain ⟨⟨a5, a3, a4, a6, a7, a8, a9, a10, a11, a12, a13, a14, a15, a16⟩, k1, k2, k3, k4, k5, k6, k7, k8, k9⟩ := h
  exact ⟨⟨a8, a9, a10, a11, a6, a7, a12, a13, a14, a15, by omega, by omega, by omega, by omega⟩, ⟨fun x _ _ _ _ _ => k2 x, fun x _ => k2 x, fun x _ _ _ _ _ => k3 x, fun x _ => k3 x, fun x _ => k4 x, fun x _ => k4 x, fun x _ _ => k5 x, k6, k8, k9⟩, fun x _ => k2 x, fun x _ => k3 x, k7⟩
theorem zM_V0 (hA : zAll) (X : ZX) {n : Int} {f : Nat → Int} {g : Nat → Int → Int} (hbd : zBd g) (hM : zMs n f g) (hr : zRm f) (h3 : 30 ≤ f 3) (h1 : f 1 = 0) (ha : f 2 = 826) :
    ∃ (f' : Nat → Int) (g' : Nat → Int → Int), zTo f g f' g' ∧ zBd g' ∧ zVk n f g f' g' ∧ (f' 1 = 1 ∧ f' 2 = 842 ∧ f' 3 = f 3 - 1 ∧ f' 5 = f 5 ∧ f' 16 = f 16 + 5) ∧ g' 252 1 = 1 ∧ g' 253 1 = 4 ∧ g' 251 0 = n := by
  obtain ⟨⟨m1, m2, m3, m4, m5, m6⟩, ⟨n1, n2, n3⟩, ⟨c1, c2, c3, c4, c5, c6, c7, c8, c9⟩, ⟨e1, e2, e3, e4, e5, e6⟩, s1⟩ := hM
  obtain ⟨r4, r5, r6, r7, r12, r13, r14, r15, r16, rs⟩ := hr
  obtain ⟨f1, g1, p1_0, p1_1, p1_2, p1_3, p1_4, p1_5, p1_6, p1_7, p1_8, p1_9, p1_10, p1_11, p1_12, p1_13, p1_14, p1_15, F1_251, p1_16, p1_17, F1_252, p1_18, p1_19, F1_253, p1_20, p1_21, F1_254, F1_255, p1_22, p1_23, p1_24, p1_25, F1_256, F1_257, F1_258, F1_262, hb1, ht1⟩ := zB_V0 hA X f g hbd (n) (by first | assumption | omega | exact ⟨by omega, by omega⟩) (by first | assumption | omega | exact ⟨by omega, by omega⟩) (by first | assumption | omega | exact ⟨by omega, by omega⟩) (by first | assumption | omega | exact ⟨by omega, by omega⟩) (by first | assumption | omega | exact ⟨by omega, by omega⟩) (by first | assumption | omega | exact ⟨by omega, by omega⟩) (by first | assumption | omega | exact ⟨by omega, by omega⟩) (by first | assumption | omega | exact ⟨by omega, by omega⟩) (by first | assumption | omega | exact ⟨by omega, by omega⟩) (by first | assumption | omega | exact ⟨by omega, by omega⟩) (by first | assumption | omega | exact ⟨by omega, by omega⟩) (by first | assumption | omega | exact ⟨by omega, by omega⟩) (by first | assumption | omega | exact ⟨by omega, by omega⟩) (by first | assumption | omega | exact ⟨by omega, by omega⟩) (by first | assumption | omega | exact ⟨by omega, by omega⟩) (by first | assumption | omega | exact ⟨by omega, by omega⟩) (by first | assumption | omega | exact ⟨by omega, by omega⟩) (by first | assumption | omega | exact ⟨by omega, by omega⟩) (by first | assumption | omega | exact ⟨by omega, by omega⟩) (by first | assumption | omega | exact ⟨by omega, by omega⟩) (by first | assumption | omega | exact ⟨by omega, by omega⟩) (by first | assumption | omega | exact ⟨by omega, by omega⟩) (by first | assumption | omega | exact ⟨by omega, by omega⟩) (by first | assumption | omega | exact ⟨by omega, by omega⟩)
  exact ⟨f1, g1, ht1, hb1, ⟨⟨by omega, by omega, by omega, by omega, by omega, by omega, by omega, by omega, by omega, by omega, by omega, by omega, by omega, by omega⟩, ⟨fun x y1 y2 y3 y4 y5 => F1_252 x (by omega), fun x y1 => F1_252 x (by omega), fun x y1 y2 y3 y4 y5 => F1_253 x (by omega), fun x y1 => F1_253 x (by omega), fun x y1 => F1_254 x, fun x y1 => F1_254 x, fun x y1 y2 => F1_255 x (by omega), F1_256, F1_258, F1_262⟩, fun x y1 => F1_252 x (by omega), fun x y1 => F1_253 x (by omega), fun x y1 => F1_257 x⟩, ⟨by assumption, by assumption, by assumption, by assumption, by assumption⟩, by assumption, by assumption, by assumption⟩
theorem zM_V1 (hA : zAll) (X : ZX) {n i v : Int} {f : Nat → Int} {g : Nat → Int → Int} (hbd : zBd g) (hM : zMs n f g) (hr : zRm f) (h3 : 30 ≤ f 3) (h1 : f 1 = 1) (ha : f 2 = 842) (hi : 1 ≤ i ∧ i ≤ n) (i1 : g 252 1 = i ∧ g 253 1 = 4) (hs : g 251 0 = n) (hv : g 252 (i + 19999) = v ∧ g 253 (i + 19999) = 4) (hb : -2147483647 ≤ v ∧ v ≤ 2147483647) :
    ∃ (f' : Nat → Int) (g' : Nat → Int → Int), zTo f g f' g' ∧ zBd g' ∧ zVk n f g f' g' ∧ (f' 1 = 2 ∧ f' 2 = 866 ∧ f' 3 = f 3 - 2 ∧ f' 5 = f 5 ∧ f' 16 = f 16 + 8) ∧ g' 252 1 = i ∧ g' 253 1 = 4 ∧ g' 251 0 = n ∧ g' 251 1 = v := by
  obtain ⟨⟨m1, m2, m3, m4, m5, m6⟩, ⟨n1, n2, n3⟩, ⟨c1, c2, c3, c4, c5, c6, c7, c8, c9⟩, ⟨e1, e2, e3, e4, e5, e6⟩, s1⟩ := hM
  obtain ⟨r4, r5, r6, r7, r12, r13, r14, r15, r16, rs⟩ := hr
  obtain ⟨i1', i2'⟩ := i1
  obtain ⟨v1, v2⟩ := hv
  obtain ⟨f1, g1, p1_0, p1_1, p1_2, p1_3, p1_4, p1_5, p1_6, p1_7, p1_8, p1_9, p1_10, p1_11, p1_12, p1_13, p1_14, p1_15, F1_251, p1_16, p1_17, p1_18, F1_252, F1_253, F1_254, F1_255, p1_19, p1_20, p1_21, F1_256, F1_257, F1_258, F1_262, hb1, ht1⟩ := zB_V1 hA X f g hbd (n) (i) (v) (by first | assumption | omega | exact ⟨by omega, by omega⟩) (by first | assumption | omega | exact ⟨by omega, by omega⟩) (by first | assumption | omega | exact ⟨by omega, by omega⟩) (by first | assumption | omega | exact ⟨by omega, by omega⟩) (by first | assumption | omega | exact ⟨by omega, by omega⟩) (by first | assumption | omega | exact ⟨by omega, by omega⟩) (by first | assumption | omega | exact ⟨by omega, by omega⟩) (by first | assumption | omega | exact ⟨by omega, by omega⟩) (by first | assumption | omega | exact ⟨by omega, by omega⟩) (by first | assumption | omega | exact ⟨by omega, by omega⟩) (by first | assumption | omega | exact ⟨by omega, by omega⟩) (by first | assumption | omega | exact ⟨by omega, by omega⟩) (by first | assumption | omega | exact ⟨by omega, by omega⟩) (by first | assumption | omega | exact ⟨by omega, by omega⟩) (by first | assumption | omega | exact ⟨by omega, by omega⟩) (by first | assumption | omega | exact ⟨by omega, by omega⟩) (by first | assumption | omega | exact ⟨by omega, by omega⟩) (by first | assumption | omega | exact ⟨by omega, by omega⟩) (by first | assumption | omega | exact ⟨by omega, by omega⟩) (by first | assumption | omega | exact ⟨by omega, by omega⟩) (by first | assumption | omega | exact ⟨by omega, by omega⟩) (by first | assumption | omega | exact ⟨by omega, by omega⟩) (by first | assumption | omega | exact ⟨by omega, by omega⟩) (by first | assumption | omega | exact ⟨by omega, by omega⟩) (by first | assumption | omega | exact ⟨by omega, by omega⟩) (by first | assumption | omega | exact ⟨by omega, by omega⟩) (by first | assumption | omega | exact ⟨by omega, by omega⟩) (by first | assumption | omega | exact ⟨by omega, by omega⟩) (by first | assumption | omega | exact ⟨by omega, by omega⟩) (by first | assumption | omega | exact ⟨by omega, by omega⟩) (by first | assumption | omega | exact ⟨by omega, by omega⟩) (by first | assumption | omega | exact ⟨by omega, by omega⟩) (by first | assumption | omega | exact ⟨by omega, by omega⟩)
  exact ⟨f1, g1, ht1, hb1, ⟨⟨by omega, by omega, by omega, by omega, by omega, by omega, by omega, by omega, by omega, by omega, by omega, by omega, by omega, by omega⟩, ⟨fun x y1 y2 y3 y4 y5 => F1_252 x, fun x y1 => F1_252 x, fun x y1 y2 y3 y4 y5 => F1_253 x, fun x y1 => F1_253 x, fun x y1 => F1_254 x, fun x y1 => F1_254 x, fun x y1 y2 => F1_255 x (by omega), F1_256, F1_258, F1_262⟩, fun x y1 => F1_252 x, fun x y1 => F1_253 x, fun x y1 => F1_257 x⟩, ⟨by assumption, by assumption, by assumption, by assumption, by assumption⟩, (F1_252 _).trans i1', (F1_253 _).trans i2', (F1_251 0 (by omega)).trans hs, by assumption⟩
theorem zM_V2 (hA : zAll) (X : ZX) {n i : Int} {f : Nat → Int} {g : Nat → Int → Int} (hbd : zBd g) (hM : zMs n f g) (hr : zRm f) (h3 : 30 ≤ f 3) (h1 : f 1 = 1) (ha : f 2 = 868) (hi : 1 ≤ i ∧ i ≤ n) (i1 : g 252 1 = i ∧ g 253 1 = 4) (hs : g 251 0 = n) :
    ∃ (f' : Nat → Int) (g' : Nat → Int → Int), zTo f g f' g' ∧ zBd g' ∧ zVk n f g f' g' ∧ (f' 3 = f 3 ∧ f' 5 = f 5 + 1 ∧ f' 16 = f 16 + 3) ∧ g' 257 (f 5) = 32 ∧ ((i < n ∧ f' 1 = 1 ∧ f' 2 = 842 ∧ g' 252 1 = i + 1 ∧ g' 253 1 = 4 ∧ g' 251 0 = n) ∨ (i = n ∧ f' 1 = 0 ∧ f' 2 = 877)) := by
  obtain ⟨⟨m1, m2, m3, m4, m5, m6⟩, ⟨n1, n2, n3⟩, ⟨c1, c2, c3, c4, c5, c6, c7, c8, c9⟩, ⟨e1, e2, e3, e4, e5, e6⟩, s1⟩ := hM
  obtain ⟨r4, r5, r6, r7, r12, r13, r14, r15, r16, rs⟩ := hr
  obtain ⟨i1', i2'⟩ := i1
  by_cases h : i < n
  · have h9 := h
    obtain ⟨f1, g1, p1_0, p1_1, p1_2, p1_3, p1_4, p1_5, p1_6, p1_7, p1_8, p1_9, p1_10, p1_11, p1_12, p1_13, p1_14, p1_15, F1_251, p1_16, p1_17, F1_252, p1_18, F1_253, F1_254, F1_255, F1_256, F1_257, p1_19, F1_258, F1_262, hb1, ht1⟩ := zB_V2c hA X f g hbd (i) (n) (by first | assumption | omega | exact ⟨by omega, by omega⟩) (by first | assumption | omega | exact ⟨by omega, by omega⟩) (by first | assumption | omega | exact ⟨by omega, by omega⟩) (by first | assumption | omega | exact ⟨by omega, by omega⟩) (by first | assumption | omega | exact ⟨by omega, by omega⟩) (by first | assumption | omega | exact ⟨by omega, by omega⟩) (by first | assumption | omega | exact ⟨by omega, by omega⟩) (by first | assumption | omega | exact ⟨by omega, by omega⟩) (by first | assumption | omega | exact ⟨by omega, by omega⟩) (by first | assumption | omega | exact ⟨by omega, by omega⟩) (by first | assumption | omega | exact ⟨by omega, by omega⟩) (by first | assumption | omega | exact ⟨by omega, by omega⟩) (by first | assumption | omega | exact ⟨by omega, by omega⟩) (by first | assumption | omega | exact ⟨by omega, by omega⟩) (by first | assumption | omega | exact ⟨by omega, by omega⟩) (by first | assumption | omega | exact ⟨by omega, by omega⟩) (by first | assumption | omega | exact ⟨by omega, by omega⟩) (by first | assumption | omega | exact ⟨by omega, by omega⟩) (by first | assumption | omega | exact ⟨by omega, by omega⟩) (by first | assumption | omega | exact ⟨by omega, by omega⟩) (by first | assumption | omega | exact ⟨by omega, by omega⟩) (by first | assumption | omega | exact ⟨by omega, by omega⟩) (by first | assumption | omega | exact ⟨by omega, by omega⟩) (by first | assumption | omega | exact ⟨by omega, by omega⟩) (by first | assumption | omega | exact ⟨by omega, by omega⟩) (by first | assumption | omega | exact ⟨by omega, by omega⟩)
    exact ⟨f1, g1, ht1, hb1, ⟨⟨by omega, by omega, by omega, by omega, by omega, by omega, by omega, by omega, by omega, by omega, by omega, by omega, by omega, by omega⟩, ⟨fun x y1 y2 y3 y4 y5 => F1_252 x (by omega), fun x y1 => F1_252 x (by omega), fun x y1 y2 y3 y4 y5 => F1_253 x, fun x y1 => F1_253 x, fun x y1 => F1_254 x, fun x y1 => F1_254 x, fun x y1 y2 => F1_255 x, F1_256, F1_258, F1_262⟩, fun x y1 => F1_252 x (by omega), fun x y1 => F1_253 x, fun x y1 => F1_257 x (Or.inl y1)⟩, ⟨by assumption, by assumption, by assumption⟩, by assumption, Or.inl ⟨h, by assumption, by assumption, by assumption, (F1_253 _).trans i2', by assumption⟩⟩
  · have h' : i = n := by omega
    obtain ⟨f1, g1, p1_0, p1_1, p1_2, p1_3, p1_4, p1_5, p1_6, p1_7, p1_8, p1_9, p1_10, p1_11, p1_12, p1_13, p1_14, p1_15, F1_251, p1_16, p1_17, F1_252, p1_18, F1_253, p1_19, F1_254, F1_255, F1_256, F1_257, p1_20, F1_258, F1_262, hb1, ht1⟩ := zB_V2e hA X f g hbd (i) (n) (by first | assumption | omega | exact ⟨by omega, by omega⟩) (by first | assumption | omega | exact ⟨by omega, by omega⟩) (by first | assumption | omega | exact ⟨by omega, by omega⟩) (by first | assumption | omega | exact ⟨by omega, by omega⟩) (by first | assumption | omega | exact ⟨by omega, by omega⟩) (by first | assumption | omega | exact ⟨by omega, by omega⟩) (by first | assumption | omega | exact ⟨by omega, by omega⟩) (by first | assumption | omega | exact ⟨by omega, by omega⟩) (by first | assumption | omega | exact ⟨by omega, by omega⟩) (by first | assumption | omega | exact ⟨by omega, by omega⟩) (by first | assumption | omega | exact ⟨by omega, by omega⟩) (by first | assumption | omega | exact ⟨by omega, by omega⟩) (by first | assumption | omega | exact ⟨by omega, by omega⟩) (by first | assumption | omega | exact ⟨by omega, by omega⟩) (by first | assumption | omega | exact ⟨by omega, by omega⟩) (by first | assumption | omega | exact ⟨by omega, by omega⟩) (by first | assumption | omega | exact ⟨by omega, by omega⟩) (by first | assumption | omega | exact ⟨by omega, by omega⟩) (by first | assumption | omega | exact ⟨by omega, by omega⟩) (by first | assumption | omega | exact ⟨by omega, by omega⟩) (by first | assumption | omega | exact ⟨by omega, by omega⟩) (by first | assumption | omega | exact ⟨by omega, by omega⟩) (by first | assumption | omega | exact ⟨by omega, by omega⟩) (by first | assumption | omega | exact ⟨by omega, by omega⟩) (by first | assumption | omega | exact ⟨by omega, by omega⟩) (by first | assumption | omega | exact ⟨by omega, by omega⟩)
    exact ⟨f1, g1, ht1, hb1, ⟨⟨by omega, by omega, by omega, by omega, by omega, by omega, by omega, by omega, by omega, by omega, by omega, by omega, by omega, by omega⟩, ⟨fun x y1 y2 y3 y4 y5 => F1_252 x (by omega), fun x y1 => F1_252 x (by omega), fun x y1 y2 y3 y4 y5 => F1_253 x (by omega), fun x y1 => F1_253 x (by omega), fun x y1 => F1_254 x, fun x y1 => F1_254 x, fun x y1 y2 => F1_255 x, F1_256, F1_258, F1_262⟩, fun x y1 => F1_252 x (by omega), fun x y1 => F1_253 x (by omega), fun x y1 => F1_257 x (Or.inl y1)⟩, ⟨by assumption, by assumption, by assumption⟩, by assumption, Or.inr ⟨h', by assumption, by assumption⟩⟩
theorem zM_Vi (hA : zAll) (X : ZX) {n i v : Int} {W : List Int} {f : Nat → Int} {g : Nat → Int → Int} (hbd : zBd g) (hM : zMs n f g) (hr : zRm f) (h3 : 60 ≤ f 3) (h16 : f 16 + 100 * f 3 ≤ 900000000) (h1 : f 1 = 1) (ha : f 2 = 842) (hi : 1 ≤ i ∧ i ≤ n) (i1 : g 252 1 = i ∧ g 253 1 = 4) (hs : g 251 0 = n) (hv : g 252 (i + 19999) = v ∧ g 253 (i + 19999) = 4) (hb : -2147483647 ≤ v ∧ v ≤ 2147483647) (hW : zWs g 0 W (f 5)) (h5 : f 5 ≤ 900) :
    ∃ (f' : Nat → Int) (g' : Nat → Int → Int), zTo f g f' g' ∧ zBd g' ∧ zVk n f g f' g' ∧ zRm f' ∧ zWs g' 0 (W ++ [v]) (f' 5) ∧ f' 3 = f 3 - 2 ∧ f' 16 + 100 * f' 3 ≤ f 16 + 100 * f 3 ∧ ((i < n ∧ f' 1 = 1 ∧ f' 2 = 842 ∧ g' 252 1 = i + 1 ∧ g' 253 1 = 4 ∧ g' 251 0 = n) ∨ (i = n ∧ f' 1 = 0 ∧ f' 2 = 877)) := by
  have r16 := hr.2.2.2.2.2.2.2.2.1
  obtain ⟨f1, g1, t1, t2, t3, ⟨a1, a2, a3, a5, a16⟩, b1, b2, b3, b4⟩ := zM_V1 hA X hbd hM hr (by omega) h1 ha hi i1 hs hv hb
  have hM1 := zVk_Ms hM t3
  have hr1 := zVk_Rm hr t3 (by omega) (by omega) (by omega)
  obtain ⟨f2, g2, T, u1, u2, u3, u4, ⟨u5, u6⟩, u7, u8⟩ := zM_N hA X t2 hr1 (by omega) a1 a2 ⟨hM1.1.1, hM1.1.2.1, hM1.1.2.2.1, hM1.1.2.2.2.1⟩ b4 hb
  have v7 := zNk_Vk (n := n) u7 (by omega)
  obtain ⟨⟨c5, c3, c4, c6, c7, c8, c9, c10, c11, c12, c13, c14, c15, c16⟩, d1, d2, d3, -⟩ := u7
  have hM2 := zVk_Ms hM1 v7
  have hr2 := zVk_Rm hr1 v7 (by omega) (by omega) (by omega)
  obtain ⟨f3, g3, w1, w2, w3, ⟨w4, w5, w6⟩, w7, w8⟩ := zM_V2 hA X u2 hM2 hr2 (by omega) u5 u6 hi ⟨(d2 _).trans b1, (d3 _).trans b2⟩ ((d1 _).trans b3)
  have vk := zVk_trans (zVk_trans t3 v7) w3
  have hr3 := zVk_Rm hr2 w3 (by omega) (by omega) (by omega)
  have kk : ∀ x, x < f2 5 → g3 257 x = g2 257 x := w3.2.2.2.2
  refine ⟨f3, g3, zTo_trans (zTo_trans t1 u1) w1, w2, vk, hr3, ?_, by omega, by omega, w8⟩
  rw [w5, c5, a5]
  rw [a5] at u4 c5
  refine zWs_snoc W 0 (f 5) (zWs_keep W 0 (f 5) vk.2.2.2.2 hW) u3 (zAtB_keep T 0 (fun x hx => kk x (by omega)) u4) u8 ?_
  rw [← c5]
  exact w7
theorem zVc_Vk {n : Int} {b : Int → Int} {f f' : Nat → Int} {g g' : Nat → Int → Int} (h : zVc n b g) (hk : zVk n f g f' g') : zVc n b g' := fun j y1 y2 => ⟨⟨(hk.2.2.1 _ (by omega)).trans (h j y1 y2).1.1, (hk.2.2.2.1 _ (by omega)).trans (h j y1 y2).1.2⟩, (h j y1 y2).2⟩
theorem zM_vec (hA : zAll) (X : ZX) {n : Int} {L : List Int} {a m0 b : Int → Int} : ∀ (w : Nat) (i : Nat) (f : Nat → Int) (g : Nat → Int → Int), n.toNat = i + w + 1 → zBd g → zSd n L a m0 f g → zVc n b g → 60 + 2 * (w + 1 : Nat) ≤ f 3 → f 16 + 100 * f 3 ≤ 900000000 → f 1 = 1 → f 2 = 842 → g 252 1 = (i : Int) + 1 → g 253 1 = 4 → g 251 0 = n → zWs g 0 ((List.range i).map fun (k : Nat) => b ((k : Int) + 1)) (f 5) →
    ∃ (f' : Nat → Int) (g' : Nat → Int → Int), zTo f g f' g' ∧ zBd g' ∧ zSd n L a m0 f' g' ∧ f' 1 = 0 ∧ f' 2 = 877 ∧ f 3 - 2 * (w + 1 : Nat) ≤ f' 3 ∧ f' 16 + 100 * f' 3 ≤ 900000000 ∧ zWs g' 0 ((List.range n.toNat).map fun (k : Nat) => b ((k : Int) + 1)) (f' 5) := by
  intro w
  induction w with
  | zero =>
    intro i f g hw hbd hS hV h3 h16 h1 ha i1 i2 hs hW
    have n16 := hS.1.1.2.2.2.2
    have hl := zWs_le _ _ _ hW
    rw [List.length_map, List.length_range] at hl
    have hv := hV ((i : Int) + 1) (by omega) (by omega)
    obtain ⟨f1, g1, t1, t2, t3, t4, t5, t6, t7, t8⟩ := zM_Vi hA X hbd hS.1 hS.2.1 (by omega) h16 h1 ha ⟨by omega, by omega⟩ ⟨i1, i2⟩ hs hv.1 hv.2 hW (by omega)
    rcases t8 with ⟨c1, -⟩ | ⟨c1, c2, c3⟩
    · exact absurd c1 (by omega)
    · refine ⟨f1, g1, t1, t2, zSd_Fr hS t3.2.1 (zVk_Ms hS.1 t3) t4 ⟨t3.1.2.2.2.2.2.2.1, t3.1.2.2.2.2.2.2.2.1, t3.1.2.2.2.2.2.2.2.2.1⟩, c2, c3, by omega, by omega, ?_⟩
      rw [show n.toNat = i + 1 by omega, List.range_succ, List.map_append]
      exact t5
  | succ w ih =>
    intro i f g hw hbd hS hV h3 h16 h1 ha i1 i2 hs hW
    have n16 := hS.1.1.2.2.2.2
    have hl := zWs_le _ _ _ hW
    rw [List.length_map, List.length_range] at hl
    have hv := hV ((i : Int) + 1) (by omega) (by omega)
    obtain ⟨f1, g1, t1, t2, t3, t4, t5, t6, t7, t8⟩ := zM_Vi hA X hbd hS.1 hS.2.1 (by omega) h16 h1 ha ⟨by omega, by omega⟩ ⟨i1, i2⟩ hs hv.1 hv.2 hW (by omega)
    rcases t8 with ⟨c1, c2, c3, c4, c5, c6⟩ | ⟨c1, -⟩
    · have hS1 := zSd_Fr hS t3.2.1 (zVk_Ms hS.1 t3) t4 ⟨t3.1.2.2.2.2.2.2.1, t3.1.2.2.2.2.2.2.2.1, t3.1.2.2.2.2.2.2.2.2.1⟩
      obtain ⟨f2, g2, u1, u2, u3, u4, u5, u6, u7, u8⟩ := ih (i + 1) f1 g1 (by omega) t2 hS1 (zVc_Vk hV t3) (by omega) (by omega) c2 c3 (by rw [c4]; omega) c5 c6 (by rw [List.range_succ, List.map_append]; exact t5)
      exact ⟨f2, g2, zTo_trans t1 u1, u2, u3, u4, u5, by omega, u7, u8⟩
    · exact absurd c1 (by omega)
