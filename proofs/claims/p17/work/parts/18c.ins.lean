/-! The program's main part: a thing is put into the list. -/
theorem zLs_mem {p' : Int} : ∀ (A : List Int) (p : Int), zLs p A p' → p' ∈ p :: A
  | [], p, h => by
    have h : p' = p := h
    rw [h]
    exact List.mem_cons_self
  | a :: A, p, h => List.mem_cons_of_mem _ (zLs_mem A a h)
/-- what the two stores of links do to a list -/
theorem zLk_ins {n p' q : Int} {g g' : Nat → Int → Int} (hn : 1 ≤ n) (e1 : g' 252 (zcb n p' + 1) = q) (e2 : g' 252 (zcb n q + 1) = g 252 (zcb n p' + 1)) (e3 : g' 253 (zcb n q + 1) = 30) (e4 : g' 253 (zcb n q) = 4 ∧ zTh n q g') (ho : ∀ t, 2 ≤ t → t ≠ p' → t ≠ q → g' 252 (zcb n t + 1) = g 252 (zcb n t + 1)) (hs : ∀ t, 2 ≤ t → t ≠ q → g' 253 (zcb n t + 1) = g 253 (zcb n t + 1)) (hk : ∀ t, 2 ≤ t → t ≠ q → g' 253 (zcb n t) = g 253 (zcb n t) ∧ (zTh n t g → zTh n t g')) :
    ∀ (A B : List Int) (p : Int), 2 ≤ p → (∀ t ∈ A ++ B, 2 ≤ t) → p ≠ q → (∀ t ∈ A ++ B, t ≠ q) → (p :: (A ++ B)).Nodup → zLs p A p' → zLk n g p (A ++ B) → zLk n g' p (A ++ q :: B) := by
  have same : ∀ (L : List Int) (p : Int), 2 ≤ p → (∀ t ∈ L, 2 ≤ t) → (∀ t ∈ p :: L, t ≠ q) → (∀ t ∈ p :: L, t ≠ p') → zLk n g p L → zLk n g' p L := by
    intro L
    induction L with
    | nil => exact fun p h1 h2 h3 h4 h => ⟨(ho p h1 (h4 p List.mem_cons_self) (h3 p List.mem_cons_self)).trans h.1, (hs p h1 (h3 p List.mem_cons_self)).trans h.2⟩
    | cons a L ih =>
      intro p h1 h2 h3 h4 ⟨⟨k1, k2⟩, ⟨k3, k4⟩, k5⟩
      have a1 : a ∈ a :: L := List.mem_cons_self
      have a2 := hk a (h2 a a1) (h3 a (List.mem_cons_of_mem _ a1))
      exact ⟨⟨(ho p h1 (h4 p List.mem_cons_self) (h3 p List.mem_cons_self)).trans k1, (hs p h1 (h3 p List.mem_cons_self)).trans k2⟩, ⟨a2.1.trans k3, a2.2 k4⟩, ih a (h2 a a1) (fun t ht => h2 t (List.mem_cons_of_mem _ ht)) (fun t ht => h3 t (List.mem_cons_of_mem _ ht)) (fun t ht => h4 t (List.mem_cons_of_mem _ ht)) k5⟩
  intro A
  induction A with
  | nil =>
    intro B p h1 h2 h3 h4 h5 h6 h7
    have h6 : p' = p := h6
    have h7 : zLk n g p B := h7
    have h5 := List.nodup_cons.mp (show (p :: B).Nodup from h5)
    refine ⟨⟨by rw [← h6]; exact e1, (hs p h1 h3).trans ?_⟩, e4, ?_⟩
    · cases B with
      | nil => exact h7.2
      | cons b B => exact h7.1.2
    · cases B with
      | nil => exact ⟨by rw [e2, h6]; exact h7.1, e3⟩
      | cons b B =>
        obtain ⟨⟨k1, k2⟩, ⟨k3, k4⟩, k5⟩ := h7
        have b1 : b ∈ b :: B := List.mem_cons_self
        have b2 := hk b (h2 b b1) (h4 b b1)
        refine ⟨⟨by rw [e2, h6]; exact k1, e3⟩, ⟨b2.1.trans k3, b2.2 k4⟩, same B b (h2 b b1) (fun t ht => h2 t (List.mem_cons_of_mem _ ht)) (fun t ht => h4 t ht) (fun t ht e => ?_) k5⟩
        rw [e, h6] at ht
        exact h5.1 ht
  | cons a A ih =>
    intro B p h1 h2 h3 h4 h5 h6 h7
    obtain ⟨⟨k1, k2⟩, ⟨k3, k4⟩, k5⟩ := h7
    have h5 := List.nodup_cons.mp (show (p :: (a :: (A ++ B))).Nodup from h5)
    have a1 : a ∈ a :: (A ++ B) := List.mem_cons_self
    have pp : p ≠ p' := fun e => by
      have := zLs_mem A a h6
      rw [← e] at this
      refine h5.1 ?_
      rcases List.mem_cons.mp this with z | z
      · rw [z]
        exact a1
      · exact List.mem_cons_of_mem _ (List.mem_append_left _ z)
    have a2 := hk a (h2 a a1) (h4 a a1)
    exact ⟨⟨(ho p h1 pp h3).trans k1, (hs p h1 h3).trans k2⟩, ⟨a2.1.trans k3, a2.2 k4⟩, ih B a (h2 a a1) (fun t ht => h2 t (List.mem_cons_of_mem _ ht)) (h4 a a1) (fun t ht => h4 t (List.mem_cons_of_mem _ ht)) h5.2 h6 k5⟩
