/-! The program's main part: from k things to k + 1. -/
theorem zLk_nx {n : Int} {g : Nat → Int → Int} : ∀ (L : List Int) (p p' : Int), zLk n g p L → p' ∈ p :: L → zTh n p g → (∀ t ∈ L, 3 ≤ t ∧ t ≤ 18) → (0 ≤ g 252 (zcb n p' + 1) ∧ g 252 (zcb n p' + 1) ≤ 18) ∧ g 253 (zcb n p' + 1) = 30 ∧ zTh n p' g
  | [], p, p', h, hm, ht, _ => by
    have e : p' = p := List.mem_singleton.mp hm
    rw [e]
    exact ⟨⟨by rw [h.1]; decide, by rw [h.1]; decide⟩, h.2, ht⟩
  | q :: L, p, p', h, hm, ht, hb => by
    obtain ⟨⟨h1, h2⟩, ⟨h3, h4⟩, h5⟩ := h
    rcases List.mem_cons.mp hm with e | e
    · rw [e]
      have := hb q List.mem_cons_self
      exact ⟨⟨by rw [h1]; omega, by rw [h1]; omega⟩, h2, ht⟩
    · exact zLk_nx L q p' h5 e h4 (fun t ht => hb t (List.mem_cons_of_mem _ ht))
theorem zSrt_ins {A B : List Int} {q : Int} {K : Int → Int} (h : ((A ++ B).map K).Pairwise (· ≤ ·)) (h1 : ∀ t ∈ A, K t < K q) (h2 : ∀ b B', B = b :: B' → K q ≤ K b) : ((A ++ q :: B).map K).Pairwise (· ≤ ·) := by
  rw [List.map_append, List.pairwise_append] at h ⊢
  obtain ⟨ha, hb, hab⟩ := h
  refine ⟨ha, ?_, ?_⟩
  · rw [List.map_cons, List.pairwise_cons]
    refine ⟨fun y hy => ?_, hb⟩
    cases B with
    | nil => cases hy
    | cons b B' =>
      have h0 := h2 b B' rfl
      rcases List.mem_cons.mp hy with e | e
      · rw [e]
        exact h0
      · exact Int.le_trans h0 ((List.pairwise_cons.mp hb).1 y e)
  · intro x hx y hy
    rcases List.mem_cons.mp hy with e | e
    · obtain ⟨t, ht, e'⟩ := List.mem_map.mp hx
      rw [e, ← e']
      exact Int.le_of_lt (h1 t ht)
    · exact hab x hx y e
theorem zPrm_ins {A B : List Int} {q : Int} {K : Int → Int} {F : Nat → Int} {k : Nat} (h : ((A ++ B).map K).Perm ((List.range k).map F)) (hq : K q = F k) : ((A ++ q :: B).map K).Perm ((List.range (k + 1)).map F) := by
  have e : (List.range (k + 1)).map F = (List.range k).map F ++ [F k] := by
    rw [List.range_succ, List.map_append]
    rfl
  rw [e]
  refine (List.perm_middle.map K).trans ?_
  rw [List.map_cons, hq]
  exact (h.cons _).trans (List.perm_append_singleton _ _).symm
theorem zM_F2 (hA : zAll) (X : ZX) {n i p q nx : Int} {f : Nat → Int} {g : Nat → Int → Int} (hbd : zBd g) (hM : zMs n f g) (hr : zRm f) (h3 : 100 ≤ f 3) (h1 : f 1 = 1) (ha : f 2 = 749) (hi : g 252 1 = i ∧ g 253 1 = 4 ∧ g 251 0 = n ∧ 1 ≤ i ∧ i ≤ n) (hq : g 252 5 = q ∧ g 253 5 = 30 ∧ 3 ≤ q ∧ q ≤ f 12 ∧ zTh n q g) (hp : g 252 4 = p ∧ g 253 4 = 30 ∧ 2 ≤ p ∧ p ≤ f 12 ∧ zTh n p g) (hpq : p ≠ q) (hnx : g 252 (zcb n p + 1) = nx ∧ g 253 (zcb n p + 1) = 30 ∧ 0 ≤ nx ∧ nx ≤ 18) :
    ∃ (f' : Nat → Int) (g' : Nat → Int → Int), zTo f g f' g' ∧ zBd g' ∧ zF2 n p q nx f g f' g' ∧ ((i < n ∧ f' 1 = 1 ∧ f' 2 = 529 ∧ g' 252 1 = i + 1 ∧ g' 253 1 = 4 ∧ g' 251 0 = n) ∨ (i = n ∧ f' 1 = 0 ∧ f' 2 = 804)) := by
  obtain ⟨i1, i2, i3, i4, i5⟩ := hi
  by_cases h : i < n
  · obtain ⟨f1, g1, t1, t2, ⟨a1, a2, a3, a4, a5, a6⟩, t4, b1, b2, b3, t5, t6, t7, t8, t9, t10, t11, t12, t13, t14⟩ := zM_F2c hA X hbd hM hr h3 h1 ha ⟨i1, i2, i3, i4, h⟩ hq hp hpq hnx
    exact ⟨f1, g1, t1, t2, ⟨⟨a3, a4, a5, a6⟩, t4, ⟨t5, t6, t7⟩, t8, t9, t10, t11, t12, t13, t14⟩, Or.inl ⟨h, a1, a2, b1, b2, b3⟩⟩
  · have h : i = n := by omega
    obtain ⟨f1, g1, t1, t2, ⟨a1, a2, a3, a4, a5, a6⟩, t4, t5, t6, t7, t8, t9, t10, t11, t12, t13, t14⟩ := zM_F2e hA X hbd hM hr h3 h1 ha ⟨i1, i2, i3, i4, h⟩ hq hp hpq hnx
    exact ⟨f1, g1, t1, t2, ⟨⟨a3, a4, a5, a6⟩, t4, ⟨t5, t6, t7⟩, t8, t9, t10, t11, t12, t13, t14⟩, Or.inr ⟨h, a1, a2⟩⟩
/-- what is known before the links are set -/
def zPu (n k : Int) (A B : List Int) (a m0 : Int → Int) (p : Int) (f : Nat → Int) (g : Nat → Int → Int) : Prop :=
  zMs n f g ∧ zRm f ∧ (0 ≤ k ∧ k < n ∧ f 12 = k + 3 ∧ f 13 = n + 8 + 3 * k ∧ f 14 = k + 3 ∧ f 15 = n + 4 + 2 * k ∧ f 6 = k + 2 ∧ f 7 = n - k - 1 ∧ f 5 = 0) ∧ (19877 - 120 * k ≤ f 3 ∧ f 16 + 100 * f 3 ≤ 800000000) ∧
  zTh n 2 g ∧ zLk n g 2 (A ++ B) ∧ (A ++ B).Nodup ∧ (∀ t ∈ A ++ B, 3 ≤ t ∧ t ≤ k + 2) ∧ ((A ++ B).length : Int) = k ∧ (∀ t, 3 ≤ t → t ≤ k + 3 → g 252 (zcb n t) = a (t - 2)) ∧ ((A ++ B).map fun t => a (t - 2)).Pairwise (· ≤ ·) ∧ ((A ++ B).map fun t => a (t - 2)).Perm ((List.range k.toNat).map fun (j : Nat) => a ((j : Int) + 1)) ∧
  (∀ j, 1 ≤ j → j ≤ k + 1 → g 252 (j + 19999) = a j ∧ g 253 (j + 19999) = 4) ∧ (∀ j, 1 ≤ j → j ≤ n → g 258 j = a j ∧ -2147483647 ≤ a j ∧ a j ≤ 2147483647) ∧ (∀ x, g 262 x = m0 x) ∧
  zLs 2 A p ∧ (∀ t ∈ A, a (t - 2) < a (k + 1)) ∧ (∀ b B', B = b :: B' → a (k + 1) ≤ a (b - 2)) ∧ g 253 (zcb n (k + 3)) = 4 ∧ zTh n (k + 3) g
theorem zPu_put {n k : Int} {A B : List Int} {a m0 : Int → Int} {p : Int} {f f' : Nat → Int} {g g' : Nat → Int → Int} (hP : zPu n k A B a m0 p f g) (h2 : zF2 n p (k + 3) (g 252 (zcb n p + 1)) f g f' g') : zJc n (k + 1) (A ++ (k + 3) :: B) a m0 f' g' := by
  obtain ⟨hM, hr, ⟨j1, j2, j3, j4, j5, j6, j7, j8, j9⟩, ⟨b1, b2⟩, th2, lk, nd, mem, len, key, srt, prm, vec, inp, hm, ls, kA, kB, k4, thq⟩ := hP
  have m56 := hM.1.2.2.2.2
  have pm := zLs_mem A 2 ls
  have pb : 2 ≤ p ∧ p ≤ k + 2 := by
    rcases List.mem_cons.mp pm with e | e
    · rw [e]
      exact ⟨by decide, by omega⟩
    · have := mem p (List.mem_append_left _ e)
      exact ⟨by omega, this.2⟩
  have ms := zF2_Ms hM pb.1 (show (2 : Int) ≤ k + 3 by omega) h2
  have rm := zF2_Rm hr h2 (by omega) (by omega)
  have nq : ∀ t ∈ A ++ B, t ≠ k + 3 := fun t ht => by have := (mem t ht).2; omega
  have lk' := zF2_Lk m56.1 pb.1 (show (3 : Int) ≤ k + 3 by omega) (show p ≠ k + 3 by omega) ⟨k4, thq⟩ rfl h2 A B (fun t ht => by have := (mem t ht).1; omega) nq (List.nodup_cons.mpr ⟨fun h => by have := (mem 2 h).1; omega, nd⟩) ls lk
  obtain ⟨-, ⟨c1, c2, c3, c4, c5, c6, c7, c8, c9, c10⟩, -, k252, k253, k254, -, k256, k258, k262⟩ := h2
  have zc : ∀ t, zcb n t = 19996 + n + 2 * t := fun _ => rfl
  have mem' : ∀ t ∈ A ++ (k + 3) :: B, 3 ≤ t ∧ t ≤ k + 1 + 2 := fun t ht => by
    rcases List.mem_append.mp ht with h | h
    · have := mem t (List.mem_append_left _ h)
      omega
    · rcases List.mem_cons.mp h with e | h
      · omega
      · have := mem t (List.mem_append_right _ h)
        omega
  have sv : k + 3 - 2 = k + 1 := by omega
  refine ⟨ms, rm, ⟨by omega, by omega, by omega, by omega, by omega, by omega, by omega, by omega, by omega⟩, ⟨by omega, by omega⟩, ⟨(k256 _).trans th2.1, (k254 _).trans th2.2⟩, lk', (List.perm_middle.nodup_iff).mpr (List.nodup_cons.mpr ⟨fun h => nq _ h rfl, nd⟩), mem', ?_, fun t y1 y2 => ?_, zSrt_ins srt (fun t ht => by rw [sv]; exact kA t ht) (fun b B' e => by rw [sv]; exact kB b B' e), ?_, fun j y1 y2 => ?_, fun j y1 y2 => ⟨(k258 j).trans (inp j y1 y2).1, (inp j y1 y2).2⟩, fun x => (k262 x).trans (hm x)⟩
  · rw [List.length_append] at len ⊢
    rw [List.length_cons]
    omega
  · rw [k252 _ (by rw [zc]; omega) (by rw [zc, zc]; omega) (by rw [zc, zc]; omega)]
    exact key t y1 (by omega)
  · rw [show (k + 1).toNat = k.toNat + 1 by omega]
    exact zPrm_ins prm (by show a (k + 3 - 2) = a ((k.toNat : Int) + 1); rw [sv, show (k.toNat : Int) = k by omega])
  · rw [k252 _ (by omega) (by rw [zc]; omega) (by rw [zc]; omega), k253 _ (by omega) (by rw [zc]; omega)]
    exact vec j y1 y2
theorem zM_find (hA : zAll) (X : ZX) {n k : Int} {L : List Int} {a m0 : Int → Int} {f : Nat → Int} {g : Nat → Int → Int} (hbd : zBd g) (hJ : zJc n k L a m0 f g) (hk : k < n) (h1 : f 1 = 1) (ha : f 2 = 529) (hi : g 252 1 = k + 1 ∧ g 253 1 = 4) (hs : g 251 0 = n) :
    ∃ (f' : Nat → Int) (g' : Nat → Int → Int) (A B : List Int) (p : Int), zTo f g f' g' ∧ zBd g' ∧ f' 1 = 1 ∧ f' 2 = 749 ∧ (g' 252 1 = k + 1 ∧ g' 253 1 = 4 ∧ g' 251 0 = n) ∧ (g' 252 5 = k + 3 ∧ g' 253 5 = 30) ∧ (g' 252 4 = p ∧ g' 253 4 = 30) ∧ zPu n k A B a m0 p f' g' := by
  obtain ⟨f1, g1, t1, t2, M1, R1, ⟨q1, q2, q12, q13, q14, q15, q6, q7, q5, q3, q16⟩, ⟨i1, i2, x1, x2, p1, p2, n1, n2, s0⟩, th2, lk, thq, kq4, key, vec, in1, m1⟩ := zM_F1 hA X hbd hJ hk h1 ha hi
  obtain ⟨-, hr, ⟨j1, j2, j3⟩, ⟨b1, b2⟩, -, -, nd, mem, len, -, srt, prm, -, inp, hm0⟩ := hJ
  have n16 := M1.1.2.2.2.2
  clear hi j3 h1 ha hr
  have kt : ∀ t, 3 ≤ t → t ≤ k + 3 → -2147483647 ≤ g1 252 (zcb n t) ∧ g1 252 (zcb n t) ≤ 2147483647 := fun t y1 y2 => by
    rw [key t y1 y2]
    exact (inp (t - 2) (by omega) (by omega)).2
  have r16 := R1.2.2.2.2.2.2.2.2.1
  obtain ⟨f2, g2, A, B, p', u1, u2, u3, u4, u5, u6, u7, u8, u9, u10, u11, u12, u13⟩ := zM_scan hA X (q := k + 3) L 2 f1 g1 t2 M1 R1 q1 q2 x1 x2 p1 p2 (by decide) (by rw [q12]; omega) th2 lk (by omega) (fun t ht => ⟨(mem t ht).1, by rw [q12]; have := (mem t ht).2; omega, by have := (mem t ht).2; omega, (kt t (mem t ht).1 (by have := (mem t ht).2; omega)).1, (kt t (mem t ht).1 (by have := (mem t ht).2; omega)).2⟩) (List.nodup_cons.mpr ⟨fun h => by have := (mem 2 h).1; omega, nd⟩) ⟨n1, n2, by omega, by omega⟩ ⟨kq4, thq⟩ (kt (k + 3) (by omega) (by omega)) (by omega) (by omega)
  subst u6
  have M2 := zMk_Ms M1 u3
  have R2 := zMk_Rm R1 u3 (by omega) (by omega) (by omega)
  have lk2 := zLk_keep n16.1 u3 (A ++ B) 2 (by decide) (fun q h => by have := (mem q h).1; omega) lk
  have th2' := zTh_keep u3 th2
  have thq' := zTh_keep u3 thq
  obtain ⟨⟨e1, -⟩, ⟨e5, e6, e7, e12, e13, e14, e15, es⟩, k252, k253, -, -, -, -, k258, k262, k251⟩ := u3
  have zc : ∀ t, zcb n t = 19996 + n + 2 * t := fun _ => rfl
  have ky : ∀ t, 3 ≤ t → t ≤ k + 3 → g2 252 (zcb n t) = a (t - 2) := fun t y1 y2 => (k252 _ (by rw [zc]; omega) (by rw [zc]; omega)).trans (key t y1 y2)
  have kq : g1 252 (zcb n (k + 3)) = a (k + 1) := by rw [key _ (by omega) (by omega), show k + 3 - 2 = k + 1 by omega]
  rw [kq] at u8 u9
  refine ⟨f2, g2, A, B, p', zTo_trans t1 u1, u2, e1.trans q1, u4, ⟨(k252 _ (by decide) (by decide)).trans i1, (k253 _).trans i2, (k251.trans s0).trans hs⟩, ⟨(k252 _ (by decide) (by decide)).trans n1, (k253 _).trans n2⟩, ⟨u5, (k253 _).trans p2⟩, M2, R2, ⟨j1, hk, by omega, by omega, by omega, by omega, by omega, by omega, by omega⟩, ⟨by omega, by omega⟩, th2', lk2, nd, mem, len, ky, srt, prm, fun j y1 y2 => ?_, fun j y1 y2 => ⟨((k258 j).trans (in1 j)).trans (inp j y1 y2).1, (inp j y1 y2).2⟩, fun x => ((k262 x).trans (m1 x)).trans (hm0 x), u7, fun t ht => ?_, fun b B' e => ?_, (k253 _).trans kq4, thq'⟩
  · rw [k252 _ (by omega) (by omega), k253]
    exact vec j y1 y2
  · have h0 := mem t (List.mem_append_left _ ht)
    have := u8 t ht
    rw [key t h0.1 (by omega)] at this
    exact this
  · have h0 := mem b (List.mem_append_right _ (by rw [e]; exact List.mem_cons_self))
    have := u9 b B' e
    rw [key b h0.1 (by omega)] at this
    exact this
theorem zM_step (hA : zAll) (X : ZX) {n k : Int} {L : List Int} {a m0 : Int → Int} {f : Nat → Int} {g : Nat → Int → Int} (hbd : zBd g) (hJ : zJc n k L a m0 f g) (hk : k < n) (h1 : f 1 = 1) (ha : f 2 = 529) (hi : g 252 1 = k + 1 ∧ g 253 1 = 4) (hs : g 251 0 = n) :
    ∃ (f' : Nat → Int) (g' : Nat → Int → Int) (L' : List Int), zTo f g f' g' ∧ zBd g' ∧ zJc n (k + 1) L' a m0 f' g' ∧ ((k + 1 < n ∧ f' 1 = 1 ∧ f' 2 = 529 ∧ g' 252 1 = k + 1 + 1 ∧ g' 253 1 = 4 ∧ g' 251 0 = n) ∨ (k + 1 = n ∧ f' 1 = 0 ∧ f' 2 = 804)) := by
  obtain ⟨f1, g1, A, B, p, t1, t2, a1, a2, ⟨i1, i2, i3⟩, ⟨q1, q2⟩, ⟨p1, p2⟩, hP⟩ := zM_find hA X hbd hJ hk h1 ha hi hs
  have hP' := hP
  obtain ⟨hM, hr, ⟨j1, j2, j3, -⟩, ⟨b1, -⟩, th2, lk, -, mem, -, -, -, -, -, -, -, ls, -, -, -, thq⟩ := hP'
  have m56 := hM.1.2.2.2.2
  have pm : p ∈ 2 :: (A ++ B) := by
    rcases List.mem_cons.mp (zLs_mem A 2 ls) with e | e
    · rw [e]
      exact List.mem_cons_self
    · exact List.mem_cons_of_mem _ (List.mem_append_left _ e)
  have pb : 2 ≤ p ∧ p ≤ k + 2 := by
    rcases List.mem_cons.mp pm with e | e
    · rw [e]
      exact ⟨by decide, by omega⟩
    · have := mem p e
      exact ⟨by omega, this.2⟩
  obtain ⟨⟨v1, v2⟩, v3, v4⟩ := zLk_nx (A ++ B) 2 p lk pm th2 (fun t ht => ⟨(mem t ht).1, by have := (mem t ht).2; omega⟩)
  obtain ⟨f2, g2, u1, u2, u3, u4⟩ := zM_F2 hA X (q := k + 3) t2 hM hr (by omega) a1 a2 ⟨i1, i2, i3, by omega, by omega⟩ ⟨q1, q2, by omega, by omega, thq⟩ ⟨p1, p2, pb.1, by omega, v4⟩ (by omega) ⟨rfl, v3, v1, v2⟩
  exact ⟨f2, g2, _, zTo_trans t1 u1, u2, zPu_put hP u3, u4⟩
theorem zM_all (hA : zAll) (X : ZX) {n : Int} {a m0 : Int → Int} : ∀ (w : Nat) (k : Int) (L : List Int) (f : Nat → Int) (g : Nat → Int → Int), (n - k).toNat = w + 1 → zBd g → zJc n k L a m0 f g → k < n → f 1 = 1 → f 2 = 529 → g 252 1 = k + 1 → g 253 1 = 4 → g 251 0 = n →
    ∃ (f' : Nat → Int) (g' : Nat → Int → Int) (L' : List Int), zTo f g f' g' ∧ zBd g' ∧ zJc n n L' a m0 f' g' ∧ f' 1 = 0 ∧ f' 2 = 804
  | w, k, L, f, g, hw, hbd, hJ, hk, h1, ha, i1, i2, hs => by
    obtain ⟨f1, g1, L1, t1, t2, t3, t4⟩ := zM_step hA X hbd hJ hk h1 ha ⟨i1, i2⟩ hs
    rcases t4 with ⟨c1, c2, c3, c4, c5, c6⟩ | ⟨c1, c2, c3⟩
    · match w, hw with
      | 0, hw => exact absurd hw (by omega)
      | w + 1, hw =>
        obtain ⟨f2, g2, L2, u1, u2⟩ := zM_all hA X w (k + 1) L1 f1 g1 (by omega) t2 t3 c1 c2 c3 c4 c5 c6
        exact ⟨f2, g2, L2, zTo_trans t1 u1, u2⟩
    · rw [c1] at t3
      exact ⟨f1, g1, L1, t1, t2, t3, c2, c3⟩
