/-! The program's main part: a place is looked for. -/
def zLs : Int → List Int → Int → Prop
  | p, [], p' => p' = p
  | _, a :: A, p' => zLs a A p'
theorem zTh_keep {n t : Int} {f f' : Nat → Int} {g g' : Nat → Int → Int} (h : zMk f g f' g') (ht : zTh n t g) : zTh n t g' := by
  obtain ⟨-, -, c1, c2, c3, c4, c5, -⟩ := h
  exact ⟨(c5 _).trans ht.1, (c3 _).trans ht.2⟩
theorem zM_end0 (hA : zAll) (X : ZX) {n p : Int} {f : Nat → Int} {g : Nat → Int → Int} (hbd : zBd g) (hM : zMs n f g) (hr : zRm f) (h3 : 30 ≤ f 3) (h1 : f 1 = 1) (ha : f 2 = 629) (hx : g 252 2 = 0 ∧ g 253 2 = 4) (hp : g 252 4 = p) (h16 : f 16 + 100 * f 3 ≤ 900000000) :
    ∃ (f' : Nat → Int) (g' : Nat → Int → Int), zTo f g f' g' ∧ zBd g' ∧ zMk f g f' g' ∧ f' 2 = 749 ∧ g' 252 4 = p ∧ f' 3 = f 3 ∧ f' 16 = f 16 + 5 := by
  obtain ⟨f1, g1, t1, t2, t3, t4, t5, t6, t7⟩ := zM_Wa hA X hbd hM hr h3 h1 ha hx
  exact ⟨f1, g1, t1, t2, t3, t4, t5.trans hp, t6, t7⟩
theorem zM_scan (hA : zAll) (X : ZX) {n q : Int} : ∀ (L : List Int) (p : Int) (f : Nat → Int) (g : Nat → Int → Int), zBd g → zMs n f g → zRm f → f 1 = 1 → f 2 = 629 → g 252 2 = 1 → g 253 2 = 4 → g 252 4 = p → g 253 4 = 30 → 2 ≤ p → p ≤ f 12 → zTh n p g → zLk n g p L → p ≠ q → (∀ t ∈ L, 3 ≤ t ∧ t ≤ f 12 ∧ t ≠ q ∧ -2147483647 ≤ g 252 (zcb n t) ∧ g 252 (zcb n t) ≤ 2147483647) → (p :: L).Nodup → (g 252 5 = q ∧ g 253 5 = 30 ∧ 3 ≤ q ∧ q ≤ f 12) → (g 253 (zcb n q) = 4 ∧ zTh n q g) → (-2147483647 ≤ g 252 (zcb n q) ∧ g 252 (zcb n q) ≤ 2147483647) → 6 * (L.length : Int) + 50 ≤ f 3 → f 16 + 100 * f 3 ≤ 800000000 →
    ∃ (f' : Nat → Int) (g' : Nat → Int → Int) (A B : List Int) (p' : Int), zTo f g f' g' ∧ zBd g' ∧ zMk f g f' g' ∧ f' 2 = 749 ∧ g' 252 4 = p' ∧ L = A ++ B ∧ zLs p A p' ∧ (∀ t ∈ A, g 252 (zcb n t) < g 252 (zcb n q)) ∧ (∀ b B', B = b :: B' → g 252 (zcb n q) ≤ g 252 (zcb n b)) ∧ f 3 - (6 * (L.length : Int) + 10) ≤ f' 3 ∧ f' 3 ≤ f 3 ∧ f' 16 + 100 * f' 3 ≤ f 16 + 100 * f 3 ∧ f 16 ≤ f' 16 := by
  intro L
  induction L with
  | nil =>
    intro p f g hbd hM hr h1 ha x1 x2 p1 p2 p3 p4 ht hL hpq hk hnd hq hq2 hqb h3 h16
    have h3 : 50 ≤ f 3 := by have := h3; simp only [List.length_nil] at this; omega
    have r16 := hr.2.2.2.2.2.2.2.2.1
    have rs := hr.2.2.2.2.2.2.2.2.2
    obtain ⟨f1, g1, t1, t2, t3, t4, t5, t6, t7, t8⟩ := zM_Wb hA X hbd hM hr (by omega) h1 ha ⟨x1, x2⟩ ⟨p1, p2, p3, p4⟩ ht hL
    obtain ⟨f2, g2, u1, u2, u3, u4, u5, u6, u7⟩ := zM_end0 hA X t2 (zMk_Ms hM t3) (zMk_Rm hr t3 (by omega) (by omega) (by omega)) (by omega) (by have := t3.1.1; omega) t4 ⟨t5, (t3.2.2.2.1 _).trans x2⟩ t6 (by omega)
    exact ⟨f2, g2, [], [], p, zTo_trans t1 u1, u2, zMk_trans t3 u3, u4, u5, rfl, rfl, fun t ht => (by cases ht), fun b B' hb => (by cases hb), by simp only [List.length_nil]; omega, by omega, by omega, by omega⟩
  | cons nx L ih =>
    intro p f g hbd hM hr h1 ha x1 x2 p1 p2 p3 p4 ht hL hpq hk hnd hq hq2 hqb h3 h16
    have h3 : 6 * (L.length : Int) + 56 ≤ f 3 := by have := h3; simp only [List.length_cons] at this; omega
    have hlen : (0 : Int) ≤ L.length := by omega
    have r16 := hr.2.2.2.2.2.2.2.2.1
    have rs := hr.2.2.2.2.2.2.2.2.2
    obtain ⟨⟨l1, l2⟩, ⟨l3, l4⟩, l5⟩ := hL
    obtain ⟨k1, k2, k3, k4, k5⟩ := hk nx List.mem_cons_self
    have hpn : nx ≠ p := fun e => (List.nodup_cons.mp hnd).1 (by rw [e]; exact List.mem_cons_self)
    by_cases hc : g 252 (zcb n nx) < g 252 (zcb n q)
    · obtain ⟨f1, g1, t1, t2, t3, t4, t5, t6, t7, t8⟩ := zM_Wd hA X hbd hM hr (by omega) h1 ha ⟨x1, x2⟩ ⟨p1, p2, p3, p4⟩ ht ⟨l1, l2⟩ ⟨l3, l4⟩ ⟨k1, k2, hpn⟩ ⟨hq.1, hq.2.1, hq.2.2.1, hq.2.2.2, fun e => hpq e.symm, fun e => k3 e.symm⟩ hq2 ⟨k4, k5⟩ hqb hc
      have q12 : f1 12 = f 12 := t3.2.1.2.2.2.1
      have n1 := hM.1.2.2.2.2.1
      have ky : ∀ t, 2 ≤ t → g1 252 (zcb n t) = g 252 (zcb n t) := fun t h2 => t3.2.2.1 _ (by unfold zcb; omega) (by unfold zcb; omega)
      obtain ⟨f2, g2, A, B, p', u1, u2, u3, u4, u5, u6, u7, u8, u9, u10, u11, u12, u13⟩ := ih nx f1 g1 t2 (zMk_Ms hM t3) (zMk_Rm hr t3 (by omega) (by omega) (by omega)) (by have := t3.1.1; omega) t4 t5 ((t3.2.2.2.1 _).trans x2) t6 ((t3.2.2.2.1 _).trans p2) (by omega) (by omega) (zTh_keep t3 l4) (zLk_keep n1 t3 L nx (by omega) (fun t h => by have := (hk t (List.mem_cons_of_mem _ h)).1; omega) l5) k3 (fun t h => by
          obtain ⟨w1, w2, w3, w4, w5⟩ := hk t (List.mem_cons_of_mem _ h)
          rw [q12, ky t (by omega)]
          exact ⟨w1, w2, w3, w4, w5⟩) (List.nodup_cons.mp hnd).2 ⟨(t3.2.2.1 _ (by omega) (by omega)).trans hq.1, (t3.2.2.2.1 _).trans hq.2.1, hq.2.2.1, by have := hq.2.2.2; omega⟩ ⟨(t3.2.2.2.1 _).trans hq2.1, zTh_keep t3 hq2.2⟩ (by rw [ky q (by have := hq.2.2.1; omega)]; exact hqb) (by omega) (by omega)
      have kq := ky q (by have := hq.2.2.1; omega)
      refine ⟨f2, g2, nx :: A, B, p', zTo_trans t1 u1, u2, zMk_trans t3 u3, u4, u5, by rw [u6]; rfl, u7, fun t h => ?_, fun b B' hb => ?_, by simp only [List.length_cons]; omega, by omega, by omega, by omega⟩
      · rcases List.mem_cons.mp h with e | h
        · rw [e]
          exact hc
        · have hm : t ∈ L := by rw [u6]; exact List.mem_append_left _ h
          have := u8 t h
          rw [kq, ky t (by have := (hk t (List.mem_cons_of_mem _ hm)).1; omega)] at this
          exact this
      · have hm : b ∈ L := by rw [u6, hb]; exact List.mem_append_right _ List.mem_cons_self
        have := u9 b B' hb
        rw [kq, ky b (by have := (hk b (List.mem_cons_of_mem _ hm)).1; omega)] at this
        exact this
    · obtain ⟨f1, g1, t1, t2, t3, t4, t5, t6, t7, t8⟩ := zM_Wc hA X hbd hM hr (by omega) h1 ha ⟨x1, x2⟩ ⟨p1, p2, p3, p4⟩ ht ⟨l1, l2⟩ ⟨l3, l4⟩ ⟨k1, k2, hpn⟩ ⟨hq.1, hq.2.1, hq.2.2.1, hq.2.2.2, fun e => hpq e.symm, fun e => k3 e.symm⟩ hq2 ⟨k4, k5⟩ hqb (by omega)
      obtain ⟨f2, g2, u1, u2, u3, u4, u5, u6, u7⟩ := zM_end0 hA X t2 (zMk_Ms hM t3) (zMk_Rm hr t3 (by omega) (by omega) (by omega)) (by omega) (by have := t3.1.1; omega) t4 ⟨t5, (t3.2.2.2.1 _).trans x2⟩ t6 (by omega)
      exact ⟨f2, g2, [], nx :: L, p, zTo_trans t1 u1, u2, zMk_trans t3 u3, u4, u5, rfl, rfl, fun t ht => (by cases ht), fun b B' hb => (by cases hb; omega), by simp only [List.length_cons]; omega, by omega, by omega, by omega⟩
