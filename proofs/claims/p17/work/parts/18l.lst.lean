/-! The program's main part: the list is written and let go. -/
def zhd : List Int → Int
  | [] => 0
  | q :: _ => q
theorem zLk_hd {n p : Int} {g : Nat → Int → Int} : ∀ (L : List Int), zLk n g p L → g 252 (zcb n p + 1) = zhd L ∧ g 253 (zcb n p + 1) = 30
  | [], h => h
  | _ :: _, h => h.1
theorem zhd_b {n : Int} (hn : n ≤ 16) : ∀ (L : List Int), (∀ t ∈ L, 3 ≤ t ∧ t ≤ n + 2) → 0 ≤ zhd L ∧ zhd L ≤ 18
  | [], _ => ⟨by decide, by decide⟩
  | q :: _, h => by
    have := h q List.mem_cons_self
    show 0 ≤ q ∧ q ≤ 18
    omega
theorem zLk_k {n : Int} {g g' : Nat → Int → Int} : ∀ (L : List Int) (p : Int), (∀ t ∈ p :: L, (g' 252 (zcb n t + 1) = g 252 (zcb n t + 1) ∧ g' 253 (zcb n t + 1) = g 253 (zcb n t + 1)) ∧ g' 253 (zcb n t) = g 253 (zcb n t) ∧ (zTh n t g → zTh n t g')) → zLk n g p L → zLk n g' p L
  | [], p, h, hL => by
    have := (h p List.mem_cons_self).1
    exact ⟨this.1.trans hL.1, this.2.trans hL.2⟩
  | q :: L, p, h, hL => by
    obtain ⟨⟨h1, h2⟩, ⟨h3, h4⟩, h6⟩ := hL
    have a := (h p List.mem_cons_self).1
    have b := (h q (List.mem_cons_of_mem _ List.mem_cons_self)).2
    exact ⟨⟨a.1.trans h1, a.2.trans h2⟩, ⟨b.1.trans h3, b.2 h4⟩, zLk_k L q (fun t ht => h t (List.mem_cons_of_mem _ ht)) h6⟩
def zQr (n : Int) (g : Nat → Int → Int) : List Int → Prop
  | [] => True
  | p :: R => (g 253 (zcb n p) = 4 ∧ zTh n p g) ∧ zLk n g p R
theorem zQr_of {n p : Int} {g : Nat → Int → Int} : ∀ (L : List Int), zLk n g p L → zQr n g L
  | [], _ => True.intro
  | _ :: _, h => ⟨h.2.1, h.2.2⟩
theorem zQr_k {n : Int} {g g' : Nat → Int → Int} : ∀ (L : List Int), (∀ t ∈ L, (g' 252 (zcb n t + 1) = g 252 (zcb n t + 1) ∧ g' 253 (zcb n t + 1) = g 253 (zcb n t + 1)) ∧ g' 253 (zcb n t) = g 253 (zcb n t) ∧ (zTh n t g → zTh n t g')) → zQr n g L → zQr n g' L
  | [], _, _ => True.intro
  | p :: L, h, hL => by
    have b := (h p List.mem_cons_self).2
    exact ⟨⟨b.1.trans hL.1.1, b.2 hL.1.2⟩, zLk_k L p h hL.2⟩
/-- what holds while the list is written -/
def zQi (n : Int) (K m0 : Int → Int) (R : List Int) (f : Nat → Int) (g : Nat → Int → Int) : Prop :=
  zMs n f g ∧ zRm f ∧ (f 12 = n + 2 ∧ f 13 = 4 * n + 5 ∧ f 14 = (R.length : Int) + 2) ∧ zTh n 2 g ∧ zQr n g R ∧ R.Nodup ∧ (∀ t ∈ R, (3 ≤ t ∧ t ≤ n + 2) ∧ g 252 (zcb n t) = K t ∧ -2147483647 ≤ K t ∧ K t ≤ 2147483647) ∧ (∀ x, g 262 x = m0 x) ∧ (g 252 4 = zhd R ∧ g 253 4 = 30) ∧ (∀ t, 3 ≤ t → t ≤ n + 2 → t ∉ R → g 256 (t - 1) = -8)
theorem zQi_Vk {n : Int} {K m0 : Int → Int} {R : List Int} {f f' : Nat → Int} {g g' : Nat → Int → Int} (hQ : zQi n K m0 R f g) (h : zVk n f g f' g') (hr : zRm f') (h4 : g' 252 4 = g 252 4 ∧ g' 253 4 = g 253 4) : zQi n K m0 R f' g' := by
  obtain ⟨hM, -, ⟨e1, e2, e3⟩, th, qr, nd, mem, m, ⟨p1, p2⟩, gone⟩ := hQ
  have hF := h.2.1
  exact ⟨zVk_Ms hM h, hr, ⟨h.1.2.2.2.2.2.2.1.trans e1, h.1.2.2.2.2.2.2.2.1.trans e2, h.1.2.2.2.2.2.2.2.2.1.trans e3⟩, zFq_Th hF (by decide) th, zQr_k R (fun t ht => by
    have t3 := (mem t ht).1.1
    have c := zFq_c hF (show 2 ≤ t by omega)
    exact ⟨⟨c.1.2, c.2.2⟩, c.2.1, zFq_Th hF (by omega)⟩) qr, nd, fun t ht => ⟨(mem t ht).1, (zFq_c hF (by have := (mem t ht).1.1; omega)).1.1.trans (mem t ht).2.1, (mem t ht).2.2⟩, fun x => (hF.2.2.2.2.2.2.2.2.2 x).trans (m x), ⟨h4.1.trans p1, h4.2.trans p2⟩, fun t y1 y2 y3 => (hF.2.2.2.2.2.2.2.1 _).trans (gone t y1 y2 y3)⟩
theorem zM_P0 (hA : zAll) (X : ZX) {n nx : Int} {f : Nat → Int} {g : Nat → Int → Int} (hbd : zBd g) (hM : zMs n f g) (hr : zRm f) (h3 : 30 ≤ f 3) (h1 : f 1 = 0) (ha : f 2 = 877) (ht : zTh n 2 g) (hx : g 252 (zcb n 2 + 1) = nx ∧ g 253 (zcb n 2 + 1) = 30) (hb : 0 ≤ nx ∧ nx ≤ 18) :
    ∃ (f' : Nat → Int) (g' : Nat → Int → Int), zTo f g f' g' ∧ zBd g' ∧ zVk n f g f' g' ∧ (f' 1 = 0 ∧ f' 2 = 901 ∧ f' 3 = f 3 - 2 ∧ f' 5 = f 5 ∧ f' 16 = f 16 + 8) ∧ g' 252 4 = nx ∧ g' 253 4 = 30 := by
  obtain ⟨⟨m1, m2, m3, m4, m5, m6⟩, ⟨n1, n2, n3⟩, ⟨c1, c2, c3, c4, c5, c6, c7, c8, c9⟩, ⟨e1, e2, e3, e4, e5, e6⟩, s1⟩ := hM
  obtain ⟨r4, r5, r6, r7, r12, r13, r14, r15, r16, rs⟩ := hr
  obtain ⟨t1, t2⟩ := ht
  obtain ⟨x1, x2⟩ := hx
  have t1 : g 256 1 = 8 := t1
  have z : zcb n 2 = n + 20000 := by show 19996 + n + 2 * 2 = n + 20000; omega
  have t2 : g 254 100005 = n + 20000 := by rw [← z]; exact t2
  rw [z, show n + 20000 + 1 = n + 20001 by omega] at x1 x2
  obtain ⟨f1, g1, p1_0, p1_1, p1_2, p1_3, p1_4, p1_5, p1_6, p1_7, p1_8, p1_9, p1_10, p1_11, p1_12, p1_13, p1_14, p1_15, F1_251, p1_16, p1_17, F1_252, p1_18, p1_19, p1_20, F1_253, p1_21, p1_22, p1_23, F1_254, F1_255, p1_24, p1_25, p1_26, F1_256, F1_257, F1_258, F1_262, hb1, ht1⟩ := zB_P0 hA X f g hbd (n) (nx) (by first | assumption | omega | exact ⟨by omega, by omega⟩) (by first | assumption | omega | exact ⟨by omega, by omega⟩) (by first | assumption | omega | exact ⟨by omega, by omega⟩) (by first | assumption | omega | exact ⟨by omega, by omega⟩) (by first | assumption | omega | exact ⟨by omega, by omega⟩) (by first | assumption | omega | exact ⟨by omega, by omega⟩) (by first | assumption | omega | exact ⟨by omega, by omega⟩) (by first | assumption | omega | exact ⟨by omega, by omega⟩) (by first | assumption | omega | exact ⟨by omega, by omega⟩) (by first | assumption | omega | exact ⟨by omega, by omega⟩) (by first | assumption | omega | exact ⟨by omega, by omega⟩) (by first | assumption | omega | exact ⟨by omega, by omega⟩) (by first | assumption | omega | exact ⟨by omega, by omega⟩) (by first | assumption | omega | exact ⟨by omega, by omega⟩) (by first | assumption | omega | exact ⟨by omega, by omega⟩) (by first | assumption | omega | exact ⟨by omega, by omega⟩) (by first | assumption | omega | exact ⟨by omega, by omega⟩) (by first | assumption | omega | exact ⟨by omega, by omega⟩) (by first | assumption | omega | exact ⟨by omega, by omega⟩) (by first | assumption | omega | exact ⟨by omega, by omega⟩) (by first | assumption | omega | exact ⟨by omega, by omega⟩) (by first | assumption | omega | exact ⟨by omega, by omega⟩) (by first | assumption | omega | exact ⟨by omega, by omega⟩) (by first | assumption | omega | exact ⟨by omega, by omega⟩) (by first | assumption | omega | exact ⟨by omega, by omega⟩) (by first | assumption | omega | exact ⟨by omega, by omega⟩) (by first | assumption | omega | exact ⟨by omega, by omega⟩) (by first | assumption | omega | exact ⟨by omega, by omega⟩)
  exact ⟨f1, g1, ht1, hb1, ⟨⟨by omega, by omega, by omega, by omega, by omega, by omega, by omega, by omega, by omega, by omega, by omega, by omega, by omega, by omega⟩, ⟨fun x y1 y2 y3 y4 y5 => F1_252 x (by omega), fun x y1 => F1_252 x (by omega), fun x y1 y2 y3 y4 y5 => F1_253 x (by omega), fun x y1 => F1_253 x (by omega), fun x y1 => F1_254 x, fun x y1 => F1_254 x, fun x y1 y2 => F1_255 x (by omega), F1_256, F1_258, F1_262⟩, fun x y1 => F1_252 x (by omega), fun x y1 => F1_253 x (by omega), fun x y1 => F1_257 x⟩, ⟨by assumption, by assumption, by assumption, by assumption, by assumption⟩, by assumption, by assumption⟩
theorem zM_Q1 (hA : zAll) (X : ZX) {n p v : Int} {f : Nat → Int} {g : Nat → Int → Int} (hbd : zBd g) (hM : zMs n f g) (hr : zRm f) (h3 : 30 ≤ f 3) (h1 : f 1 = 0) (ha : f 2 = 901) (hp : g 252 4 = p ∧ g 253 4 = 30) (hpb : 3 ≤ p ∧ p ≤ 18 ∧ p ≤ f 12) (ht : zTh n p g) (hk : g 253 (zcb n p) = 4 ∧ g 252 (zcb n p) = v) (hv : -2147483647 ≤ v ∧ v ≤ 2147483647) :
    ∃ (f' : Nat → Int) (g' : Nat → Int → Int), zTo f g f' g' ∧ zBd g' ∧ zVk n f g f' g' ∧ (f' 1 = 1 ∧ f' 2 = 931 ∧ f' 3 = f 3 - 2 ∧ f' 5 = f 5 ∧ f' 16 = f 16 + 11) ∧ g' 252 4 = g 252 4 ∧ g' 253 4 = g 253 4 ∧ g' 251 0 = v := by
  obtain ⟨⟨m1, m2, m3, m4, m5, m6⟩, ⟨n1, n2, n3⟩, ⟨c1, c2, c3, c4, c5, c6, c7, c8, c9⟩, ⟨e1, e2, e3, e4, e5, e6⟩, s1⟩ := hM
  obtain ⟨r4, r5, r6, r7, r12, r13, r14, r15, r16, rs⟩ := hr
  obtain ⟨t1, t2⟩ := ht
  obtain ⟨x1, x2⟩ := hk
  obtain ⟨p1, p2⟩ := hp
  obtain ⟨p3, p4, p5⟩ := hpb
  have z : zcb n p = 19996 + n + 2 * p := rfl
  obtain ⟨f1, g1, p1_0, p1_1, p1_2, p1_3, p1_4, p1_5, p1_6, p1_7, p1_8, p1_9, p1_10, p1_11, p1_12, p1_13, p1_14, p1_15, F1_251, p1_16, F1_252, F1_253, F1_254, F1_255, p1_17, p1_18, p1_19, F1_256, F1_257, F1_258, F1_262, hb1, ht1⟩ := zB_Q1 hA X f g hbd (p) (zcb n p) (v) (by first | assumption | omega | exact ⟨by omega, by omega⟩) (by first | assumption | omega | exact ⟨by omega, by omega⟩) (by first | assumption | omega | exact ⟨by omega, by omega⟩) (by first | assumption | omega | exact ⟨by omega, by omega⟩) (by first | assumption | omega | exact ⟨by omega, by omega⟩) (by first | assumption | omega | exact ⟨by omega, by omega⟩) (by first | assumption | omega | exact ⟨by omega, by omega⟩) (by first | assumption | omega | exact ⟨by omega, by omega⟩) (by first | assumption | omega | exact ⟨by omega, by omega⟩) (by first | assumption | omega | exact ⟨by omega, by omega⟩) (by first | assumption | omega | exact ⟨by omega, by omega⟩) (by first | assumption | omega | exact ⟨by omega, by omega⟩) (by first | assumption | omega | exact ⟨by omega, by omega⟩) (by first | assumption | omega | exact ⟨by omega, by omega⟩) (by first | assumption | omega | exact ⟨by omega, by omega⟩) (by first | assumption | omega | exact ⟨by omega, by omega⟩) (by first | assumption | omega | exact ⟨by omega, by omega⟩) (by first | assumption | omega | exact ⟨by omega, by omega⟩) (by first | assumption | omega | exact ⟨by omega, by omega⟩) (by first | assumption | omega | exact ⟨by omega, by omega⟩) (by first | assumption | omega | exact ⟨by omega, by omega⟩) (by first | assumption | omega | exact ⟨by omega, by omega⟩) (by first | assumption | omega | exact ⟨by omega, by omega⟩) (by first | assumption | omega | exact ⟨by omega, by omega⟩) (by first | assumption | omega | exact ⟨by omega, by omega⟩) (by first | assumption | omega | exact ⟨by omega, by omega⟩) (by first | assumption | omega | exact ⟨by omega, by omega⟩) (by first | assumption | omega | exact ⟨by omega, by omega⟩) (by first | assumption | omega | exact ⟨by omega, by omega⟩)
  exact ⟨f1, g1, ht1, hb1, ⟨⟨by omega, by omega, by omega, by omega, by omega, by omega, by omega, by omega, by omega, by omega, by omega, by omega, by omega, by omega⟩, ⟨fun x y1 y2 y3 y4 y5 => F1_252 x, fun x y1 => F1_252 x, fun x y1 y2 y3 y4 y5 => F1_253 x, fun x y1 => F1_253 x, fun x y1 => F1_254 x, fun x y1 => F1_254 x, fun x y1 y2 => F1_255 x (by omega), F1_256, F1_258, F1_262⟩, fun x y1 => F1_252 x, fun x y1 => F1_253 x, fun x y1 => F1_257 x⟩, ⟨by assumption, by assumption, by assumption, by assumption, by assumption⟩, F1_252 _, F1_253 _, by assumption⟩
theorem zM_Qe (hA : zAll) (X : ZX) {n : Int} {f : Nat → Int} {g : Nat → Int → Int} (hbd : zBd g) (hM : zMs n f g) (hr : zRm f) (h3 : 30 ≤ f 3) (h1 : f 1 = 0) (ha : f 2 = 901) (hp : g 252 4 = 0 ∧ g 253 4 = 30) :
    ∃ (f' : Nat → Int) (g' : Nat → Int → Int), zTo f g f' g' ∧ zBd g' ∧ zVk n f g f' g' ∧ (f' 1 = 0 ∧ f' 2 = 986 ∧ f' 3 = f 3 ∧ f' 5 = f 5 ∧ f' 16 = f 16 + 5) ∧ g' 252 4 = g 252 4 ∧ g' 253 4 = g 253 4 := by
  obtain ⟨⟨m1, m2, m3, m4, m5, m6⟩, ⟨n1, n2, n3⟩, ⟨c1, c2, c3, c4, c5, c6, c7, c8, c9⟩, ⟨e1, e2, e3, e4, e5, e6⟩, s1⟩ := hM
  obtain ⟨r4, r5, r6, r7, r12, r13, r14, r15, r16, rs⟩ := hr
  obtain ⟨p1, p2⟩ := hp
  obtain ⟨f1, g1, p1_0, p1_1, p1_2, p1_3, p1_4, p1_5, p1_6, p1_7, p1_8, p1_9, p1_10, p1_11, p1_12, p1_13, p1_14, p1_15, F1_251, p1_16, p1_17, F1_252, F1_253, F1_254, F1_255, F1_256, F1_257, F1_258, F1_262, hb1, ht1⟩ := zB_Qe hA X f g hbd (by first | assumption | omega | exact ⟨by omega, by omega⟩) (by first | assumption | omega | exact ⟨by omega, by omega⟩) (by first | assumption | omega | exact ⟨by omega, by omega⟩) (by first | assumption | omega | exact ⟨by omega, by omega⟩) (by first | assumption | omega | exact ⟨by omega, by omega⟩) (by first | assumption | omega | exact ⟨by omega, by omega⟩) (by first | assumption | omega | exact ⟨by omega, by omega⟩) (by first | assumption | omega | exact ⟨by omega, by omega⟩) (by first | assumption | omega | exact ⟨by omega, by omega⟩) (by first | assumption | omega | exact ⟨by omega, by omega⟩) (by first | assumption | omega | exact ⟨by omega, by omega⟩) (by first | assumption | omega | exact ⟨by omega, by omega⟩) (by first | assumption | omega | exact ⟨by omega, by omega⟩) (by first | assumption | omega | exact ⟨by omega, by omega⟩) (by first | assumption | omega | exact ⟨by omega, by omega⟩) (by first | assumption | omega | exact ⟨by omega, by omega⟩) (by first | assumption | omega | exact ⟨by omega, by omega⟩) (by first | assumption | omega | exact ⟨by omega, by omega⟩) (by first | assumption | omega | exact ⟨by omega, by omega⟩) (by first | assumption | omega | exact ⟨by omega, by omega⟩) (by first | assumption | omega | exact ⟨by omega, by omega⟩)
  exact ⟨f1, g1, ht1, hb1, ⟨⟨by omega, by omega, by omega, by omega, by omega, by omega, by omega, by omega, by omega, by omega, by omega, by omega, by omega, by omega⟩, ⟨fun x y1 y2 y3 y4 y5 => F1_252 x, fun x y1 => F1_252 x, fun x y1 y2 y3 y4 y5 => F1_253 x, fun x y1 => F1_253 x, fun x y1 => F1_254 x, fun x y1 => F1_254 x, fun x y1 y2 => F1_255 x, F1_256, F1_258, F1_262⟩, fun x y1 => F1_252 x, fun x y1 => F1_253 x, fun x y1 => F1_257 x⟩, ⟨by assumption, by assumption, by assumption, by assumption, by assumption⟩, F1_252 _, F1_253 _⟩
theorem zM_Q2 (hA : zAll) (X : ZX) {n p nx v : Int} {f : Nat → Int} {g : Nat → Int → Int} (hbd : zBd g) (hM : zMs n f g) (hr : zRm f) (h3 : 30 ≤ f 3) (h1 : f 1 = 0) (ha : f 2 = 933) (hp : g 252 4 = p ∧ g 253 4 = 30) (hpb : 3 ≤ p ∧ p ≤ 18 ∧ p ≤ f 12) (ht : zTh n p g) (hk : g 253 (zcb n p) = 4 ∧ g 252 (zcb n p) = v) (hv : -2147483647 ≤ v ∧ v ≤ 2147483647) (hx : g 252 (zcb n p + 1) = nx ∧ g 253 (zcb n p + 1) = 30) (hb : 0 ≤ nx ∧ nx ≤ 18) (h14 : 1 ≤ f 14) (h5 : f 5 ≤ 900) (h16 : f 16 ≤ 900000000) :
    ∃ (f' : Nat → Int) (g' : Nat → Int → Int), zTo f g f' g' ∧ zBd g' ∧ zMs n f' g' ∧ zRm f' ∧ (f' 1 = 0 ∧ f' 2 = 901 ∧ f' 3 = f 3 - 3 ∧ f' 5 = f 5 + 1 ∧ f' 12 = f 12 ∧ f' 13 = f 13 ∧ f' 14 = f 14 - 1 ∧ f' 16 = f 16 + 18) ∧ (g' 252 4 = nx ∧ g' 253 4 = 30 ∧ g' 257 (f 5) = 32) ∧ (∀ x, x < f 5 → g' 257 x = g 257 x) ∧ (∀ x, g' 262 x = g 262 x) ∧ (∀ x, g' 254 x = g 254 x) ∧ (∀ x, x ≠ p - 1 → g' 256 x = g 256 x) ∧ g' 256 (p - 1) = -8 ∧ (∀ x, 20000 ≤ x → (x < zcb n p ∨ zcb n p + 1 < x) → g' 252 x = g 252 x ∧ g' 253 x = g 253 x) := by
  have hM' := hM
  have m56 := hM.1.2.2.2.2
  obtain ⟨⟨m1, m2, m3, m4, m5, m6⟩, ⟨n1, n2, n3⟩, ⟨c1, c2, c3, c4, c5, c6, c7, c8, c9⟩, ⟨e1, e2, e3, e4, e5, e6⟩, s1⟩ := hM
  obtain ⟨r4, r5, r6, r7, r12, r13, r14, r15, r16, rs⟩ := hr
  obtain ⟨t1, t2⟩ := ht
  obtain ⟨x1, x2⟩ := hx
  obtain ⟨y1, y2⟩ := hk
  obtain ⟨p1, p2⟩ := hp
  obtain ⟨p3, p4, p5⟩ := hpb
  have z : zcb n p = 19996 + n + 2 * p := rfl
  generalize zcb n p = cp at *
  obtain ⟨f1, g1, p1_0, p1_1, p1_2, p1_3, p1_4, p1_5, p1_6, p1_7, p1_8, p1_9, p1_10, p1_11, p1_12, p1_13, p1_14, p1_15, F1_251, p1_16, p1_17, F1_252, p1_18, p1_19, p1_20, p1_21, F1_253, p1_22, p1_23, p1_24, p1_25, F1_254, F1_255, p1_26, p1_27, p1_28, F1_256, p1_29, F1_257, p1_30, F1_258, F1_262, hb1, ht1⟩ := zB_Q2 hA X f g hbd (p) (cp) (nx) (v) (by first | assumption | omega | exact ⟨by omega, by omega⟩) (by first | assumption | omega | exact ⟨by omega, by omega⟩) (by first | assumption | omega | exact ⟨by omega, by omega⟩) (by first | assumption | omega | exact ⟨by omega, by omega⟩) (by first | assumption | omega | exact ⟨by omega, by omega⟩) (by first | assumption | omega | exact ⟨by omega, by omega⟩) (by first | assumption | omega | exact ⟨by omega, by omega⟩) (by first | assumption | omega | exact ⟨by omega, by omega⟩) (by first | assumption | omega | exact ⟨by omega, by omega⟩) (by first | assumption | omega | exact ⟨by omega, by omega⟩) (by first | assumption | omega | exact ⟨by omega, by omega⟩) (by first | assumption | omega | exact ⟨by omega, by omega⟩) (by first | assumption | omega | exact ⟨by omega, by omega⟩) (by first | assumption | omega | exact ⟨by omega, by omega⟩) (by first | assumption | omega | exact ⟨by omega, by omega⟩) (by first | assumption | omega | exact ⟨by omega, by omega⟩) (by first | assumption | omega | exact ⟨by omega, by omega⟩) (by first | assumption | omega | exact ⟨by omega, by omega⟩) (by first | assumption | omega | exact ⟨by omega, by omega⟩) (by first | assumption | omega | exact ⟨by omega, by omega⟩) (by first | assumption | omega | exact ⟨by omega, by omega⟩) (by first | assumption | omega | exact ⟨by omega, by omega⟩) (by first | assumption | omega | exact ⟨by omega, by omega⟩) (by first | assumption | omega | exact ⟨by omega, by omega⟩) (by first | assumption | omega | exact ⟨by omega, by omega⟩) (by first | assumption | omega | exact ⟨by omega, by omega⟩) (by first | assumption | omega | exact ⟨by omega, by omega⟩) (by first | assumption | omega | exact ⟨by omega, by omega⟩) (by first | assumption | omega | exact ⟨by omega, by omega⟩) (by first | assumption | omega | exact ⟨by omega, by omega⟩) (by first | assumption | omega | exact ⟨by omega, by omega⟩) (by first | assumption | omega | exact ⟨by omega, by omega⟩) (by first | assumption | omega | exact ⟨by omega, by omega⟩)
  refine ⟨f1, g1, ht1, hb1, ⟨⟨by assumption, by assumption, by assumption, by assumption, m5, m6⟩, ⟨by assumption, by assumption, (F1_255 0 (by omega)).trans n3⟩, ⟨(F1_254 _).trans c1, (F1_254 _).trans c2, (F1_254 _).trans c3, (F1_254 _).trans c4, (F1_254 _).trans c5, (F1_254 _).trans c6, (F1_254 _).trans c7, (F1_254 _).trans c8, (F1_254 _).trans c9⟩, ⟨(F1_252 _ (by omega) (by omega)).trans e1, (F1_253 _ (by omega) (by omega)).trans e2, (F1_252 _ (by omega) (by omega)).trans e3, (F1_253 _ (by omega) (by omega)).trans e4, (F1_252 _ (by omega) (by omega)).trans e5, (F1_253 _ (by omega) (by omega)).trans e6⟩, (F1_256 _ (by omega)).trans s1⟩, ⟨⟨by omega, by omega⟩, ⟨by omega, by omega⟩, ⟨by omega, by omega⟩, ⟨by omega, by omega⟩, ⟨by omega, by omega⟩, ⟨by omega, by omega⟩, ⟨by omega, by omega⟩, ⟨by omega, by omega⟩, ⟨by omega, by omega⟩, by omega⟩, ⟨by assumption, by assumption, by assumption, by assumption, by assumption, by assumption, by assumption, by assumption⟩, ⟨by assumption, by assumption, by assumption⟩, fun x y => F1_257 x (Or.inl y), F1_262, F1_254, fun x y => F1_256 x (by omega), by assumption, fun x y y' => ⟨F1_252 x (by omega) y', F1_253 x (by omega) y'⟩⟩
theorem zM_Qi (hA : zAll) (X : ZX) {n p : Int} {K m0 : Int → Int} {R W : List Int} {f : Nat → Int} {g : Nat → Int → Int} (hbd : zBd g) (hQ : zQi n K m0 (p :: R) f g) (h1 : f 1 = 0) (ha : f 2 = 901) (h3 : 60 ≤ f 3) (h16 : f 16 + 100 * f 3 ≤ 900000000) (hW : zWs g 0 W (f 5)) (h5 : f 5 ≤ 800) :
    ∃ (f' : Nat → Int) (g' : Nat → Int → Int), zTo f g f' g' ∧ zBd g' ∧ zQi n K m0 R f' g' ∧ f' 1 = 0 ∧ f' 2 = 901 ∧ f' 3 = f 3 - 5 ∧ f' 16 + 100 * f' 3 ≤ f 16 + 100 * f 3 ∧ zWs g' 0 (W ++ [K p]) (f' 5) := by
  have hQ0 := hQ
  obtain ⟨hM, hr, ⟨e12, e13, e14⟩, th, ⟨⟨qk, qt⟩, ql⟩, nd, mem, m, ⟨p1, p2⟩, -⟩ := hQ
  have p1 : g 252 4 = p := p1
  have n16 := hM.1.2.2.2.2
  have mp := mem p List.mem_cons_self
  have r16 := hr.2.2.2.2.2.2.2.2.1
  rw [List.length_cons] at e14
  obtain ⟨f1, g1, t1, t2, t3, ⟨a1, a2, a3, a5, a16⟩, b1, b2, b3⟩ := zM_Q1 hA X (v := K p) hbd hM hr (by omega) h1 ha ⟨p1, p2⟩ ⟨mp.1.1, by omega, by omega⟩ qt ⟨qk, mp.2.1⟩ mp.2.2
  have hr1 := zVk_Rm hr t3 (by omega) (by omega) (by omega)
  have Q1 := zQi_Vk hQ0 t3 hr1 ⟨b1, b2⟩
  obtain ⟨f2, g2, T, u1, u2, u3, u4, ⟨u5, u6⟩, u7, u8⟩ := zM_K hA X t2 hr1 (by omega) a1 a2 ⟨Q1.1.1.1, Q1.1.1.2.1, Q1.1.1.2.2.1, Q1.1.1.2.2.2.1⟩ b3 mp.2.2
  have v7 := zNk_Vk (n := n) u7 (by omega)
  obtain ⟨⟨c5, c3, c4, c6, c7, c8, c9, c10, c11, c12, c13, c14, c15, c16⟩, -, d2, d3, -⟩ := u7
  have hr2 := zVk_Rm hr1 v7 (by omega) (by omega) (by omega)
  have Q2 := zQi_Vk Q1 v7 hr2 ⟨d2 _, d3 _⟩
  have vk := zVk_trans t3 v7
  obtain ⟨hM2, -, ⟨k12, k13, k14⟩, th2, ⟨⟨qk2, qt2⟩, ql2⟩, -, mem2, m2, ⟨p12, p22⟩, gone2⟩ := Q2
  have mp2 := mem2 p List.mem_cons_self
  have hd := zLk_hd R ql2
  rw [List.length_cons] at k14
  obtain ⟨f3, g3, w1, w2, w3, w4, ⟨x1, x2, x3, x5, x12, x13, x14, x16⟩, ⟨y1, y2, y3⟩, kk, km, k254, k256, kp8, kc⟩ := zM_Q2 hA X (v := K p) (nx := zhd R) u2 hM2 hr2 (by omega) u5 u6 ⟨p12, p22⟩ ⟨mp.1.1, by omega, by omega⟩ qt2 ⟨qk2, mp2.2.1⟩ mp.2.2 hd (zhd_b (by omega) R (fun t ht => (mem t (List.mem_cons_of_mem _ ht)).1)) (by omega) (by omega) (by omega)
  have zc : ∀ t, zcb n t = 19996 + n + 2 * t := fun _ => rfl
  have nd' := List.nodup_cons.mp nd
  have ne : ∀ t ∈ R, t ≠ p ∧ 3 ≤ t := fun t ht => ⟨fun e => nd'.1 (by rw [← e]; exact ht), (mem t (List.mem_cons_of_mem _ ht)).1.1⟩
  have cc : ∀ t ∈ R, (g3 252 (zcb n t) = g2 252 (zcb n t) ∧ g3 253 (zcb n t) = g2 253 (zcb n t)) ∧ g3 252 (zcb n t + 1) = g2 252 (zcb n t + 1) ∧ g3 253 (zcb n t + 1) = g2 253 (zcb n t + 1) := fun t ht => by
    have := ne t ht
    exact ⟨kc _ (by rw [zc]; omega) (by rw [zc, zc]; omega), kc _ (by rw [zc]; omega) (by rw [zc, zc]; omega)⟩
  refine ⟨f3, g3, zTo_trans (zTo_trans t1 u1) w1, w2, ⟨w3, w4, ⟨by omega, by omega, by omega⟩, ⟨(k256 _ (by omega)).trans th2.1, (k254 _).trans th2.2⟩, zQr_k R (fun t ht => ⟨(cc t ht).2, (cc t ht).1.2, fun hT => ⟨(k256 _ (by have := ne t ht; omega)).trans hT.1, (k254 _).trans hT.2⟩⟩) (zQr_of R ql2), nd'.2, fun t ht => ⟨(mem t (List.mem_cons_of_mem _ ht)).1, (cc t ht).1.1.trans (mem2 t (List.mem_cons_of_mem _ ht)).2.1, (mem t (List.mem_cons_of_mem _ ht)).2.2⟩, fun x => (km x).trans (m2 x), ⟨y1, y2⟩, fun t z1 z2 z3 => ?_⟩, x1, x2, by omega, by omega, ?_⟩
  · by_cases e : t = p
    · rw [e]
      exact kp8
    · rw [k256 _ (by omega)]
      exact gone2 t z1 z2 (fun h => (List.mem_cons.mp h).elim e z3)
  rw [a5] at u4 c5
  rw [x5, c5]
  refine zWs_snoc W 0 (f 5) (zWs_keep W 0 (f 5) (fun x hx => (kk x (by omega)).trans (vk.2.2.2.2 x hx)) hW) u3 (zAtB_keep T 0 (fun x hx => kk x (by omega)) u4) u8 ?_
  rw [← c5]
  exact y3
theorem zM_list (hA : zAll) (X : ZX) {n : Int} {K m0 : Int → Int} : ∀ (R W : List Int) (f : Nat → Int) (g : Nat → Int → Int), zBd g → zQi n K m0 R f g → f 1 = 0 → f 2 = 901 → 60 + 5 * (R.length : Int) ≤ f 3 → f 16 + 100 * f 3 ≤ 900000000 → zWs g 0 W (f 5) → (W.length : Int) + (R.length : Int) ≤ 32 →
    ∃ (f' : Nat → Int) (g' : Nat → Int → Int), zTo f g f' g' ∧ zBd g' ∧ zQi n K m0 [] f' g' ∧ f' 1 = 0 ∧ f' 2 = 986 ∧ 60 ≤ f' 3 ∧ f' 16 ≤ 900000000 ∧ zWs g' 0 (W ++ R.map K) (f' 5)
  | [], W, f, g, hbd, hQ, h1, ha, h3, h16, hW, hl => by
    have h3 : 60 ≤ f 3 := by
      have := h3
      rw [List.length_nil] at this
      omega
    have hr := hQ.2.1
    have r16 := hr.2.2.2.2.2.2.2.2.1
    have r5 := hr.2.1
    obtain ⟨f1, g1, t1, t2, t3, ⟨a1, a2, a3, a5, a16⟩, b1, b2⟩ := zM_Qe hA X hbd hQ.1 hr (by omega) h1 ha hQ.2.2.2.2.2.2.2.2.1
    refine ⟨f1, g1, t1, t2, zQi_Vk hQ t3 (zVk_Rm hr t3 (by omega) (by omega) (by omega)) ⟨b1, b2⟩, a1, a2, by omega, by omega, ?_⟩
    rw [List.map_nil, List.append_nil, a5]
    exact zWs_keep W 0 (f 5) t3.2.2.2.2 hW
  | p :: R, W, f, g, hbd, hQ, h1, ha, h3, h16, hW, hl => by
    have h3 : 65 + 5 * (R.length : Int) ≤ f 3 := by
      have := h3
      rw [List.length_cons] at this
      omega
    have hl : (W.length : Int) + (R.length : Int) ≤ 31 := by
      have := hl
      rw [List.length_cons] at this
      omega
    have hw := zWs_le W _ _ hW
    obtain ⟨f1, g1, t1, t2, t3, t4, t5, t6, t7, t8⟩ := zM_Qi hA X hbd hQ h1 ha (by omega) h16 hW (by omega)
    obtain ⟨f2, g2, u1, u2, u3, u4, u5, u6, u7, u8⟩ := zM_list hA X R (W ++ [K p]) f1 g1 t2 t3 t4 t5 (by omega) (by omega) t8 (by rw [List.length_append, List.length_cons, List.length_nil]; omega)
    refine ⟨f2, g2, zTo_trans t1 u1, u2, u3, u4, u5, u6, u7, ?_⟩
    rw [List.append_assoc] at u8
    exact u8
