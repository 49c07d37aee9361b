/-! The program's main part: a new thing, what holds behind it. -/
def zF1p (n k v : Int) (g' : Nat → Int → Int) : Prop := g' 252 2 = 1 ∧ g' 253 2 = 4 ∧ g' 252 4 = 2 ∧ g' 253 4 = 30 ∧ g' 252 5 = k + 3 ∧ g' 253 5 = 30 ∧ g' 252 (k + 20000) = v ∧ g' 253 (k + 20000) = 4 ∧ g' 252 (n + 2 * k + 20002) = v ∧ g' 253 (n + 2 * k + 20002) = 4 ∧ g' 254 (5 * k + 100010) = n + 2 * k + 20002 ∧ g' 256 (k + 2) = 8
theorem zM_F1 (hA : zAll) (X : ZX) {n k : Int} {L : List Int} {a m0 : Int → Int} {f : Nat → Int} {g : Nat → Int → Int} (hbd : zBd g) (hJ : zJc n k L a m0 f g) (hk : k < n) (h1 : f 1 = 1) (ha : f 2 = 529) (hi : g 252 1 = k + 1 ∧ g 253 1 = 4) :
    ∃ (f' : Nat → Int) (g' : Nat → Int → Int), zTo f g f' g' ∧ zBd g' ∧ zMs n f' g' ∧ zRm f' ∧ (f' 1 = 1 ∧ f' 2 = 629 ∧ f' 12 = k + 3 ∧ f' 13 = n + 8 + 3 * k ∧ f' 14 = k + 3 ∧ f' 15 = n + 4 + 2 * k ∧ f' 6 = k + 2 ∧ f' 7 = n - k - 1 ∧ f' 5 = 0 ∧ f' 3 = f 3 - 8 ∧ f' 16 = f 16 + 33) ∧
      (g' 252 1 = k + 1 ∧ g' 253 1 = 4 ∧ g' 252 2 = 1 ∧ g' 253 2 = 4 ∧ g' 252 4 = 2 ∧ g' 253 4 = 30 ∧ g' 252 5 = k + 3 ∧ g' 253 5 = 30 ∧ g' 251 0 = g 251 0) ∧ zTh n 2 g' ∧ zLk n g' 2 L ∧ zTh n (k + 3) g' ∧ g' 253 (zcb n (k + 3)) = 4 ∧ (∀ t, 3 ≤ t → t ≤ k + 3 → g' 252 (zcb n t) = a (t - 2)) ∧ (∀ j, 1 ≤ j → j ≤ k + 1 → g' 252 (j + 19999) = a j ∧ g' 253 (j + 19999) = 4) ∧ (∀ x, g' 258 x = g 258 x) ∧ (∀ x, g' 262 x = g 262 x) := by
  obtain ⟨hM, hr, hk', hb, th2, lk, -, mem, -, key, -, -, vec, inp, -⟩ := hJ
  obtain ⟨j1, j2, j3, j4, j5, j6, j7, j8, j9⟩ := hk'
  obtain ⟨w1, w2⟩ := inp (k + 1) (by omega) (by omega)
  obtain ⟨m5, m6⟩ := hM.1.2.2.2.2
  obtain ⟨f1, g1, t1, t2, hq, hp0, k252, k253, k254, k255, k256, k258, k262, k251⟩ := zM_F1a hA X hbd hM hr ⟨j1, hk, j3, j4, j5, j6, j7, j8, j9⟩ (by have := hb.1; omega) h1 ha hi w1 w2
  have hp : zF1p n k (a (k + 1)) g1 := hp0
  clear hp0 w1 w2 ha
  obtain ⟨q1, q2, q8, q9, q10, q11, q12, q13, q14, q15, q6, q7, q5, q3, q4, q16⟩ := hq
  have hr1 : zRm f1 := by
    obtain ⟨r4, r5, r6, r7, r12, r13, r14, r15, r16, rs⟩ := hr
    obtain ⟨b1, b2⟩ := hb
    exact ⟨⟨by omega, by omega⟩, ⟨by omega, by omega⟩, ⟨by omega, by omega⟩, ⟨by omega, by omega⟩, ⟨by omega, by omega⟩, ⟨by omega, by omega⟩, ⟨by omega, by omega⟩, ⟨by omega, by omega⟩, ⟨by omega, by omega⟩, by omega⟩
  have hfs : f1 1 = 1 ∧ f1 2 = 629 ∧ f1 12 = k + 3 ∧ f1 13 = n + 8 + 3 * k ∧ f1 14 = k + 3 ∧ f1 15 = n + 4 + 2 * k ∧ f1 6 = k + 2 ∧ f1 7 = n - k - 1 ∧ f1 5 = 0 ∧ f1 3 = f 3 - 8 ∧ f1 16 = f 16 + 33 := ⟨q1, q2, q12, q13, q14, q15, q6, q7, q5, q3, q16⟩
  have hms : f1 8 = 1 ∧ f1 9 = 14 ∧ f1 10 = 7 ∧ f1 11 = 7 := ⟨q8, q9, q10, q11⟩
  clear q1 q2 q12 q13 q14 q15 q6 q7 q5 q3 q16 q8 q9 q10 q11 q4 hb j3 j4 j5 j6 j7 j8 j9 hr
  have l252 : ∀ x, 0 ≤ x → x < 4 → x ≠ 2 → g1 252 x = g 252 x := fun x y1 y2 y3 => k252 x y3 (by omega) (by omega) (by omega)
  have l253 : ∀ x, 0 ≤ x → x < 4 → x ≠ 2 → g1 253 x = g 253 x := fun x y1 y2 y3 => k253 x y3 (by omega) (by omega) (by omega)
  have a252 : ∀ t, 2 ≤ t → t ≤ k + 2 → g1 252 (zcb n t) = g 252 (zcb n t) ∧ g1 252 (zcb n t + 1) = g 252 (zcb n t + 1) ∧ g1 253 (zcb n t) = g 253 (zcb n t) ∧ g1 253 (zcb n t + 1) = g 253 (zcb n t + 1) := fun t y1 y2 => by
    have z : zcb n t = 19996 + n + 2 * t := rfl
    generalize zcb n t = u at z
    clear hi key vec inp
    exact ⟨k252 u (by omega) (by omega) (by omega) (by omega), k252 (u + 1) (by omega) (by omega) (by omega) (by omega), k253 u (by omega) (by omega) (by omega) (by omega), k253 (u + 1) (by omega) (by omega) (by omega) (by omega)⟩
  have kTh : ∀ t, 2 ≤ t → t ≤ k + 2 → zTh n t g → zTh n t g1 := fun t h1 h2 h => ⟨(k256 (t - 1) (by omega)).trans h.1, (k254 (5 * t + 99995) (by omega)).trans h.2⟩
  have kLk : ∀ (L : List Int) (p : Int), 2 ≤ p → p ≤ k + 2 → (∀ t ∈ L, 2 ≤ t ∧ t ≤ k + 2) → zLk n g p L → zLk n g1 p L := by
    intro L
    induction L with
    | nil => exact fun p h1 h2 _ h => ⟨(a252 p h1 h2).2.1.trans h.1, (a252 p h1 h2).2.2.2.trans h.2⟩
    | cons q L ih =>
      intro p h1 h2 h3 ⟨⟨y1, y2⟩, ⟨y3, y4⟩, y5⟩
      obtain ⟨z1, z2⟩ := h3 q List.mem_cons_self
      exact ⟨⟨(a252 p h1 h2).2.1.trans y1, (a252 p h1 h2).2.2.2.trans y2⟩, ⟨(a252 q z1 z2).2.2.1.trans y3, kTh q z1 z2 y4⟩, ih q z1 z2 (fun t ht => h3 t (List.mem_cons_of_mem _ ht)) y5⟩
  have zq : zcb n (k + 3) = n + 2 * k + 20002 := by show 19996 + n + 2 * (k + 3) = n + 2 * k + 20002; omega
  have l254 : ∀ x, x ≤ 100001 → g1 254 x = g 254 x := fun x y1 => k254 x (by omega)
  refine ⟨f1, g1, t1, t2, ⟨⟨hms.1, hms.2.1, hms.2.2.1, hms.2.2.2, m5, m6⟩, ⟨(k255 _ (by decide)).trans hM.2.1.1, (k255 _ (by decide)).trans hM.2.1.2.1, (k255 _ (by decide)).trans hM.2.1.2.2⟩, ⟨(l254 _ (by decide)).trans hM.2.2.1.1, (l254 _ (by decide)).trans hM.2.2.1.2.1, (l254 _ (by decide)).trans hM.2.2.1.2.2.1, (l254 _ (by decide)).trans hM.2.2.1.2.2.2.1, (l254 _ (by decide)).trans hM.2.2.1.2.2.2.2.1, (l254 _ (by decide)).trans hM.2.2.1.2.2.2.2.2.1, (l254 _ (by decide)).trans hM.2.2.1.2.2.2.2.2.2.1, (l254 _ (by decide)).trans hM.2.2.1.2.2.2.2.2.2.2.1, (l254 _ (by decide)).trans hM.2.2.1.2.2.2.2.2.2.2.2⟩, ⟨(l252 _ (by decide) (by decide) (by decide)).trans hM.2.2.2.1.1, (l253 _ (by decide) (by decide) (by decide)).trans hM.2.2.2.1.2.1, (l252 _ (by decide) (by decide) (by decide)).trans hM.2.2.2.1.2.2.1, (l253 _ (by decide) (by decide) (by decide)).trans hM.2.2.2.1.2.2.2.1, (k252 6 (by decide) (by decide) (by omega) (by omega)).trans hM.2.2.2.1.2.2.2.2.1, (k253 6 (by decide) (by decide) (by omega) (by omega)).trans hM.2.2.2.1.2.2.2.2.2⟩, (k256 0 (by omega)).trans hM.2.2.2.2⟩, hr1, hfs, ⟨(l252 _ (by decide) (by decide) (by decide)).trans hi.1, (l253 _ (by decide) (by decide) (by decide)).trans hi.2, hp.1, hp.2.1, hp.2.2.1, hp.2.2.2.1, hp.2.2.2.2.1, hp.2.2.2.2.2.1, k251⟩, kTh 2 (by omega) (by omega) th2, kLk L 2 (by omega) (by omega) (fun t ht => ⟨by have := (mem t ht).1; omega, (mem t ht).2⟩) lk, ⟨by rw [show k + 3 - 1 = k + 2 by omega]; exact hp.2.2.2.2.2.2.2.2.2.2.2, by rw [show 5 * (k + 3) + 99995 = 5 * k + 100010 by omega, zq]; exact hp.2.2.2.2.2.2.2.2.2.2.1⟩, by rw [zq]; exact hp.2.2.2.2.2.2.2.2.2.1, fun t y1 y2 => ?_, fun j y1 y2 => ?_, k258, k262⟩
  · by_cases h : t = k + 3
    · rw [h, zq, show k + 3 - 2 = k + 1 by omega]
      exact hp.2.2.2.2.2.2.2.2.1
    · rw [(a252 t (by omega) (by omega)).1]
      exact key t y1 (by omega)
  · by_cases h : j = k + 1
    · rw [h, show k + 1 + 19999 = k + 20000 by omega]
      exact ⟨hp.2.2.2.2.2.2.1, hp.2.2.2.2.2.2.2.1⟩
    · rw [k252 (j + 19999) (by omega) (by omega) (by omega) (by omega), k253 (j + 19999) (by omega) (by omega) (by omega) (by omega)]
      exact vec j y1 (by omega)
