/-! The program's main part: what stays behind the list's making; the sort. -/
def zFq (n : Int) (g g' : Nat → Int → Int) : Prop :=
  (∀ x, x < 7 → x ≠ 1 → x ≠ 2 → x ≠ 4 → x ≠ 5 → g' 252 x = g 252 x) ∧ (∀ x, n + 19999 < x → g' 252 x = g 252 x) ∧
  (∀ x, x < 7 → x ≠ 1 → x ≠ 2 → x ≠ 4 → x ≠ 5 → g' 253 x = g 253 x) ∧ (∀ x, n + 19999 < x → g' 253 x = g 253 x) ∧
  (∀ x, x < 35 → g' 254 x = g 254 x) ∧ (∀ x, 100000 ≤ x → g' 254 x = g 254 x) ∧ (∀ x, x < 9 → x ≠ 4 → g' 255 x = g 255 x) ∧
  (∀ x, g' 256 x = g 256 x) ∧ (∀ x, g' 258 x = g 258 x) ∧ (∀ x, g' 262 x = g 262 x)
theorem zFq_trans {n : Int} {g g' g'' : Nat → Int → Int} (h : zFq n g g') (h' : zFq n g' g'') : zFq n g g'' := by
  obtain ⟨a1, a2, a3, a4, a5, a6, a7, a8, a9, a10⟩ := h
  obtain ⟨b1, b2, b3, b4, b5, b6, b7, b8, b9, b10⟩ := h'
  exact ⟨fun x y1 y2 y3 y4 y5 => (b1 x y1 y2 y3 y4 y5).trans (a1 x y1 y2 y3 y4 y5), fun x y => (b2 x y).trans (a2 x y), fun x y1 y2 y3 y4 y5 => (b3 x y1 y2 y3 y4 y5).trans (a3 x y1 y2 y3 y4 y5), fun x y => (b4 x y).trans (a4 x y), fun x y => (b5 x y).trans (a5 x y), fun x y => (b6 x y).trans (a6 x y), fun x y z => (b7 x y z).trans (a7 x y z), fun x => (b8 x).trans (a8 x), fun x => (b9 x).trans (a9 x), fun x => (b10 x).trans (a10 x)⟩
theorem zFq_Ms {n : Int} {f f' : Nat → Int} {g g' : Nat → Int → Int} (hM : zMs n f g) (h : zFq n g g') (h8 : f' 8 = 1 ∧ f' 9 = 14 ∧ f' 10 = 7 ∧ f' 11 = 7) : zMs n f' g' := by
  obtain ⟨k1, -, k3, -, k5, k6, k7, k8, -⟩ := h
  obtain ⟨⟨m1, m2, m3, m4, m5, m6⟩, ⟨n1, n2, n3⟩, ⟨p1, p2, p3, p4, p5, p6, p7, p8, p9⟩, ⟨q1, q2, q3, q4, q5, q6⟩, r1⟩ := hM
  exact ⟨⟨h8.1, h8.2.1, h8.2.2.1, h8.2.2.2, m5, m6⟩, ⟨(k7 _ (by decide) (by decide)).trans n1, (k7 _ (by decide) (by decide)).trans n2, (k7 _ (by decide) (by decide)).trans n3⟩, ⟨(k5 _ (by decide)).trans p1, (k5 _ (by decide)).trans p2, (k5 _ (by decide)).trans p3, (k5 _ (by decide)).trans p4, (k5 _ (by decide)).trans p5, (k5 _ (by decide)).trans p6, (k5 _ (by decide)).trans p7, (k6 _ (by decide)).trans p8, (k6 _ (by decide)).trans p9⟩, ⟨(k1 _ (by decide) (by decide) (by decide) (by decide) (by decide)).trans q1, (k3 _ (by decide) (by decide) (by decide) (by decide) (by decide)).trans q2, (k1 _ (by decide) (by decide) (by decide) (by decide) (by decide)).trans q3, (k3 _ (by decide) (by decide) (by decide) (by decide) (by decide)).trans q4, (k1 _ (by decide) (by decide) (by decide) (by decide) (by decide)).trans q5, (k3 _ (by decide) (by decide) (by decide) (by decide) (by decide)).trans q6⟩, (k8 _).trans r1⟩
theorem zFq_Th {n t : Int} {g g' : Nat → Int → Int} (h : zFq n g g') (ht : 2 ≤ t) (hT : zTh n t g) : zTh n t g' := ⟨(h.2.2.2.2.2.2.2.1 _).trans hT.1, (h.2.2.2.2.2.1 _ (by omega)).trans hT.2⟩
theorem zFq_c {n t : Int} {g g' : Nat → Int → Int} (h : zFq n g g') (ht : 2 ≤ t) : (g' 252 (zcb n t) = g 252 (zcb n t) ∧ g' 252 (zcb n t + 1) = g 252 (zcb n t + 1)) ∧ g' 253 (zcb n t) = g 253 (zcb n t) ∧ g' 253 (zcb n t + 1) = g 253 (zcb n t + 1) := by
  have z : zcb n t = 19996 + n + 2 * t := rfl
  exact ⟨⟨h.2.1 _ (by omega), h.2.1 _ (by omega)⟩, h.2.2.2.1 _ (by omega), h.2.2.2.1 _ (by omega)⟩
theorem zFq_Lk {n : Int} {g g' : Nat → Int → Int} (h : zFq n g g') : ∀ (L : List Int) (p : Int), 2 ≤ p → (∀ q ∈ L, 2 ≤ q) → zLk n g p L → zLk n g' p L
  | [], p, hp, _, hL => ⟨(zFq_c h hp).1.2.trans hL.1, (zFq_c h hp).2.2.trans hL.2⟩
  | q :: L, p, hp, hq, hL => by
    obtain ⟨⟨h1, h2⟩, ⟨h3, h4⟩, h6⟩ := hL
    have q2 := hq q List.mem_cons_self
    exact ⟨⟨(zFq_c h hp).1.2.trans h1, (zFq_c h hp).2.2.trans h2⟩, ⟨(zFq_c h q2).2.1.trans h3, zFq_Th h q2 h4⟩, zFq_Lk h L q q2 (fun q' h' => hq q' (List.mem_cons_of_mem _ h')) h6⟩
/-- behind the sort -/
def zSd (n : Int) (L : List Int) (a m0 : Int → Int) (f : Nat → Int) (g : Nat → Int → Int) : Prop :=
  zMs n f g ∧ zRm f ∧ (f 12 = n + 2 ∧ f 13 = 4 * n + 5 ∧ f 14 = n + 2) ∧ (zTh n 2 g ∧ zLk n g 2 L) ∧ (L.Nodup ∧ (∀ t ∈ L, 3 ≤ t ∧ t ≤ n + 2) ∧ (L.length : Int) = n) ∧ (∀ t ∈ L, g 252 (zcb n t) = a (t - 2) ∧ -2147483647 ≤ a (t - 2) ∧ a (t - 2) ≤ 2147483647) ∧ (∀ x, g 262 x = m0 x)
def zVc (n : Int) (b : Int → Int) (g : Nat → Int → Int) : Prop := ∀ j, 1 ≤ j → j ≤ n → (g 252 (j + 19999) = b j ∧ g 253 (j + 19999) = 4) ∧ -2147483647 ≤ b j ∧ b j ≤ 2147483647
theorem zSd_Fr {n : Int} {L : List Int} {a m0 : Int → Int} {f f' : Nat → Int} {g g' : Nat → Int → Int} (hS : zSd n L a m0 f g) (h : zFq n g g') (hm : zMs n f' g') (hr : zRm f') (he : f' 12 = f 12 ∧ f' 13 = f 13 ∧ f' 14 = f 14) : zSd n L a m0 f' g' := by
  obtain ⟨-, -, ⟨e1, e2, e3⟩, ⟨t1, t2⟩, ⟨l1, l2, l3⟩, k, m⟩ := hS
  exact ⟨hm, hr, ⟨he.1.trans e1, he.2.1.trans e2, he.2.2.trans e3⟩, ⟨zFq_Th h (by decide) t1, zFq_Lk h L 2 (by decide) (fun q hq => by have := (l2 q hq).1; omega) t2⟩, ⟨l1, l2, l3⟩, fun t ht => ⟨(zFq_c h (by have := (l2 t ht).1; omega)).1.1.trans (k t ht).1, (k t ht).2⟩, fun x => (h.2.2.2.2.2.2.2.2.2 x).trans (m x)⟩
theorem zKn_15 : ∀ w : Nat, w < 16 → zKn w ≤ 15360 := by decide +kernel
theorem zM_C1 (hA : zAll) (X : ZX) {n : Int} {f : Nat → Int} {g : Nat → Int → Int} (hbd : zBd g) (hM : zMs n f g) (hr : zRm f) (h3 : 100 ≤ f 3) (h16 : f 16 ≤ 900000000) (h1 : f 1 = 0) (ha : f 2 = 804) (hv : ∀ k, 1 ≤ k → k ≤ n → g 253 (k + 19999) = 4) (hb : ∀ k, 1 ≤ k → k ≤ n → -2147483647 ≤ g 252 (k + 19999) ∧ g 252 (k + 19999) ≤ 2147483647) :
    ∃ (f' : Nat → Int) (g' : Nat → Int → Int), zTo f g f' g' ∧ zBd g' ∧ zEn 2 7 7 n 1 n 826 f' g' ∧ zRg f' ∧ (f' 5 = f 5 ∧ f' 6 = f 6 ∧ f' 7 = f 7 ∧ f' 12 = f 12 ∧ f' 13 = f 13 ∧ f' 14 = f 14 ∧ f' 15 = f 15) ∧ f' 3 = f 3 - 1 ∧ f' 4 = f 4 + 1 ∧ f' 16 = f 16 + 7 ∧ zFq n g g' ∧ (∀ x, 20000 ≤ x → g' 252 x = g 252 x) := by
  obtain ⟨⟨m1, m2, m3, m4, m5, m6⟩, ⟨n1, n2, n3⟩, ⟨c1, c2, c3, c4, c5, c6, c7, c8, c9⟩, ⟨e1, e2, e3, e4, e5, e6⟩, s1⟩ := hM
  obtain ⟨r4, r5, r6, r7, r12, r13, r14, r15, r16, rs⟩ := hr
  obtain ⟨f1, g1, p1_0, p1_1, p1_2, p1_3, p1_4, p1_5, p1_6, p1_7, p1_8, p1_9, p1_10, p1_11, p1_12, p1_13, p1_14, p1_15, F1_251, p1_16, p1_17, p1_18, p1_19, F1_252, p1_20, p1_21, p1_22, p1_23, F1_253, p1_24, p1_25, p1_26, p1_27, F1_254, p1_28, p1_29, p1_30, p1_31, p1_32, p1_33, p1_34, p1_35, p1_36, p1_37, p1_38, p1_39, F1_255, p1_40, p1_41, p1_42, p1_43, p1_44, p1_45, p1_46, p1_47, p1_48, p1_49, p1_50, p1_51, F1_256, F1_257, F1_258, F1_262, hb1, ht1⟩ := zB_C1 hA X f g hbd (n) (by first | assumption | omega | exact ⟨by omega, by omega⟩) (by first | assumption | omega | exact ⟨by omega, by omega⟩) (by first | assumption | omega | exact ⟨by omega, by omega⟩) (by first | assumption | omega | exact ⟨by omega, by omega⟩) (by first | assumption | omega | exact ⟨by omega, by omega⟩) (by first | assumption | omega | exact ⟨by omega, by omega⟩) (by first | assumption | omega | exact ⟨by omega, by omega⟩) (by first | assumption | omega | exact ⟨by omega, by omega⟩) (by first | assumption | omega | exact ⟨by omega, by omega⟩) (by first | assumption | omega | exact ⟨by omega, by omega⟩) (by first | assumption | omega | exact ⟨by omega, by omega⟩) (by first | assumption | omega | exact ⟨by omega, by omega⟩) (by first | assumption | omega | exact ⟨by omega, by omega⟩) (by first | assumption | omega | exact ⟨by omega, by omega⟩) (by first | assumption | omega | exact ⟨by omega, by omega⟩) (by first | assumption | omega | exact ⟨by omega, by omega⟩) (by first | assumption | omega | exact ⟨by omega, by omega⟩) (by first | assumption | omega | exact ⟨by omega, by omega⟩) (by first | assumption | omega | exact ⟨by omega, by omega⟩) (by first | assumption | omega | exact ⟨by omega, by omega⟩) (by first | assumption | omega | exact ⟨by omega, by omega⟩) (by first | assumption | omega | exact ⟨by omega, by omega⟩) (by first | assumption | omega | exact ⟨by omega, by omega⟩) (by first | assumption | omega | exact ⟨by omega, by omega⟩) (by first | assumption | omega | exact ⟨by omega, by omega⟩) (by first | assumption | omega | exact ⟨by omega, by omega⟩) (by first | assumption | omega | exact ⟨by omega, by omega⟩) (by first | assumption | omega | exact ⟨by omega, by omega⟩)
  have q8 : f1 8 = 2 := by assumption
  refine ⟨f1, g1, ht1, hb1, ⟨⟨by assumption, by assumption, by assumption, by omega, by omega, by omega, by decide, by decide, by decide, by decide, m5, m6⟩, by rw [q8]; exact ⟨by assumption, by assumption, by assumption, by assumption, by assumption, by assumption, by assumption⟩, ⟨by assumption, by assumption, by assumption, by assumption, by assumption, by assumption, by assumption, by assumption⟩, ⟨by assumption, by assumption, by assumption, by assumption⟩, fun k y1 y2 => ?_, fun k y1 y2 => ?_⟩, ⟨⟨by omega, by omega⟩, ⟨by omega, by omega⟩, ⟨by omega, by omega⟩, ⟨by omega, by omega⟩, ⟨by omega, by omega⟩, ⟨by omega, by omega⟩, ⟨by omega, by omega⟩, ⟨by omega, by omega⟩, ⟨by omega, by omega⟩, ⟨by omega, by omega⟩, by omega⟩, ⟨by assumption, by assumption, by assumption, by assumption, by assumption, by assumption, by assumption⟩, by assumption, by assumption, by assumption, ⟨fun x y1 _ _ _ _ => F1_252 x (Or.inl y1), fun x y1 => F1_252 x (Or.inr (by omega)), fun x y1 _ _ _ _ => F1_253 x (Or.inl y1), fun x y1 => F1_253 x (Or.inr (by omega)), fun x y1 => F1_254 x (by omega) (by omega) (by omega) (by omega), fun x y1 => F1_254 x (by omega) (by omega) (by omega) (by omega), fun x y1 y2 => F1_255 x (by omega) (by omega), F1_256, F1_258, F1_262⟩, fun x y1 => F1_252 x (Or.inr (by omega))⟩
  · rw [F1_253 _ (by omega)]
    exact hv k y1 y2
  · rw [F1_252 _ (by omega)]
    exact hb k y1 y2
theorem zM_sort (hA : zAll) (X : ZX) {n : Int} {L : List Int} {a m0 : Int → Int} {f : Nat → Int} {g : Nat → Int → Int} (hbd : zBd g) (hJ : zJc n n L a m0 f g) (h1 : f 1 = 0) (ha : f 2 = 804) :
    ∃ (f' : Nat → Int) (g' : Nat → Int → Int) (b : Int → Int), zTo f g f' g' ∧ zBd g' ∧ zSd n L a m0 f' g' ∧ zVc n b g' ∧ ((List.range n.toNat).map fun (k : Nat) => b ((k : Int) + 1)) = L.map (fun t => a (t - 2)) ∧ f' 1 = 0 ∧ f' 2 = 826 ∧ f' 5 = 0 ∧ 2000 ≤ f' 3 ∧ f' 16 + 100 * f' 3 ≤ 800000000 := by
  obtain ⟨hM, hr, ⟨j1, j2, j3, j4, j5, j6, j7, j8, j9⟩, ⟨b1, b2⟩, th2, lk, nd, mem, len, key, srt, prm, vec, inp, hm0⟩ := hJ
  have n16 := hM.1.2.2.2.2
  have vb : ∀ k, 1 ≤ k → k ≤ n → -2147483647 ≤ g 252 (k + 19999) ∧ g 252 (k + 19999) ≤ 2147483647 := fun k y1 y2 => by
    rw [(vec k y1 y2).1]
    exact (inp k y1 y2).2
  obtain ⟨f1, g1, t1, t2, t3, t4, ⟨t5, t6, t7, t12, t13, t14, t15⟩, q3, q4, q16, fr, fv⟩ := zM_C1 hA X hbd hM hr (by omega) (by omega) h1 ha (fun k y1 y2 => (vec k y1 y2).2) vb
  have K := zKn_15 (n - 1).toNat (by omega)
  obtain ⟨f2, g2, u1, u2, u3, ⟨u4, u5, u6, u7, u8, u9⟩, u10, u11, u12, u13, u14, u15, u16⟩ := zS_sort hA X (n - 1).toNat 2 7 7 1 n 826 f1 g1 t2 t3 t4 (by decide) n16.1 (by omega) rfl (by omega) (by omega) (by omega)
  obtain ⟨⟨c5, c6, c7, c12, c13, c14, c15, cs⟩, k1, k2, k3, k4, k5, k6, k7, k8, k9, k10, k11⟩ := u3
  have fr2 : zFq n g1 g2 := ⟨fun x y1 _ _ _ _ => k1 x (by omega), fun x y1 => k2 x (by omega) (by omega), fun x y1 _ _ _ _ => k3 x (by omega), fun x y1 => k4 x (by omega), fun x y1 => k5 x (by omega), fun x y1 => k6 x y1, fun x y1 y2 => k7 x (by omega), k8, k10, k11⟩
  have fr3 := zFq_trans fr fr2
  have m8 : f2 8 = 1 ∧ f2 9 = 14 ∧ f2 10 = 7 ∧ f2 11 = 7 := ⟨by omega, by omega, by omega, by omega⟩
  have hM2 := zFq_Ms hM fr3 m8
  have hr2 : zRm f2 := by
    obtain ⟨r4, r5, r6, r7, r12, r13, r14, r15, r16, rs⟩ := hr
    exact ⟨⟨by omega, by omega⟩, ⟨by omega, by omega⟩, ⟨by omega, by omega⟩, ⟨by omega, by omega⟩, ⟨by omega, by omega⟩, ⟨by omega, by omega⟩, ⟨by omega, by omega⟩, ⟨by omega, by omega⟩, ⟨by omega, by omega⟩, by omega⟩
  have hS : zSd n L a m0 f g2 := by
    refine ⟨zFq_Ms hM fr3 ⟨hM.1.1, hM.1.2.1, hM.1.2.2.1, hM.1.2.2.2.1⟩, hr, ⟨j3, by omega, j5⟩, ⟨zFq_Th fr3 (by decide) th2, zFq_Lk fr3 L 2 (by decide) (fun q hq => by have := (mem q hq).1; omega) lk⟩, ⟨nd, mem, len⟩, fun t ht => ?_, fun x => (fr3.2.2.2.2.2.2.2.2.2 x).trans (hm0 x)⟩
    have := mem t ht
    exact ⟨(zFq_c fr3 (by omega)).1.1.trans (key t this.1 this.2), (inp (t - 2) (by omega) (by omega)).2⟩
  have hS2 : zSd n L a m0 f2 g2 := by
    obtain ⟨-, -, ⟨w1, w2, w3⟩, w4⟩ := hS
    exact ⟨hM2, hr2, ⟨by omega, by omega, by omega⟩, w4⟩
  refine ⟨f2, g2, fun j => g2 252 (j + 19999), zTo_trans t1 u1, u2, hS2, fun j y1 y2 => ⟨⟨rfl, ?_⟩, ?_⟩, ?_, u4, u5, by omega, by omega, by omega⟩
  · rw [k4 _ (by omega)]
    exact t3.2.2.2.2.1 j y1 y2
  · exact u12 (fun x => -2147483647 ≤ x ∧ x ≤ 2147483647) (fun k y1 y2 => t3.2.2.2.2.2 k y1 y2) j y1 y2
  · have e1 : ((List.range n.toNat).map fun (k : Nat) => g2 252 ((k : Int) + 1 + 19999)) = zVl n g2 := List.map_congr_left fun (k : Nat) _ => by
      rw [show (k : Int) + 1 + 19999 = (k : Int) + 20000 by omega]
    have e2 : zVl n g1 = ((List.range n.toNat).map fun (k : Nat) => a ((k : Int) + 1)) := List.map_congr_left fun (k : Nat) hk => by
      have hk := List.mem_range.mp hk
      rw [fv _ (by omega), show (k : Int) + 20000 = (k : Int) + 1 + 19999 by omega, (vec _ (by omega) (by omega)).1]
    have s2 : (zVl n g2).Pairwise (· ≤ ·) := by
      refine List.pairwise_map.mpr (List.pairwise_lt_range.imp_of_mem fun {x y} hx hy hxy => ?_)
      have hx := List.mem_range.mp hx
      have hy := List.mem_range.mp hy
      have := u10 ((x : Int) + 1) ((y : Int) + 1) (by omega) (by omega) (by omega)
      rw [show (x : Int) + 1 + 19999 = (x : Int) + 20000 by omega, show (y : Int) + 1 + 19999 = (y : Int) + 20000 by omega] at this
      exact this
    rw [e1]
    exact ((u11.trans (by rw [e2])).trans prm.symm).eq_of_pairwise (fun x y _ _ h1 h2 => Int.le_antisymm h1 h2) s2 srt
