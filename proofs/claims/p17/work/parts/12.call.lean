/-! Calls: what a method is called with and leaves, as a contract; going on behind it; what it throws. -/
/-- the topmost n values, the lowest first -/
noncomputable def zpop (n : Nat) : List ZV → List ZV → Option (List ZV × List ZV) := @Nat.rec (fun _ => List ZV → List ZV → Option (List ZV × List ZV)) (fun st acc => some (acc, st)) (fun _ ih st acc => @List.rec ZV (fun _ => Option (List ZV × List ZV)) none (fun v r _ => ih r (v :: acc)) st) n
theorem zpop_ok {P : ZV → Value → Prop} : ∀ (n : Nat) (st acc as r : List ZV) (sv Ac : List Value), zpop n st acc = some (as, r) → zSt P st sv → zSt P acc Ac → ∃ B sr : List Value, sv = B ++ sr ∧ zSt P as (B.reverse ++ Ac) ∧ zSt P r sr ∧ B.length = n
  | 0, st, acc, as, r, sv, Ac, h, h1, h2 => by
    have h : (some (acc, st) : Option (List ZV × List ZV)) = some (as, r) := h
    cases h
    exact ⟨[], sv, rfl, h2, h1, rfl⟩
  | n + 1, [], acc, as, r, sv, Ac, h, h1, h2 => by
    have h : (none : Option (List ZV × List ZV)) = some (as, r) := h
    cases h
  | n + 1, v :: st, acc, as, r, sv, Ac, h, h1, h2 => by
    obtain ⟨w, s1, rfl, hw, hr⟩ := h1
    obtain ⟨B, sr, e1, e2, e3, e4⟩ := zpop_ok n st (v :: acc) as r s1 (w :: Ac) h hr ⟨w, Ac, rfl, hw, h2⟩
    exact ⟨w :: B, sr, by rw [e1]; rfl, by rw [List.reverse_cons, List.append_assoc]; exact e2, e3, by rw [List.length_cons, e4]⟩
/-- the locals that a method begins with -/
noncomputable def zex : List ZV → ZL := @List.rec ZV (fun _ => ZL) [] (fun v _ ih => zif (zlong v) (some v :: none :: ih) (some v :: ih))
noncomputable def znone (n : Nat) : ZL := @Nat.rec (fun _ => ZL) [] (fun _ ih => none :: ih) n
noncomputable def zapp (a b : ZL) : ZL := @List.rec (Option ZV) (fun _ => ZL) b (fun v _ ih => v :: ih) a
theorem znone_at : ∀ (n i : Nat) (v : ZV), (znone n)[i]? ≠ some (some v)
  | 0, i, v => by
    show ([] : ZL)[i]? ≠ _
    simp
  | n + 1, 0, v => by
    show (none :: znone n)[0]? ≠ _
    simp
  | n + 1, i + 1, v => by
    show (none :: znone n)[i + 1]? ≠ _
    rw [List.getElem?_cons_succ]
    exact znone_at n i v
theorem zapp_eq : ∀ a b : ZL, zapp a b = a ++ b
  | [], _ => rfl
  | v :: a, b => congrArg (v :: ·) (zapp_eq a b)
theorem zex_ok {X : ZX} {ad : Nat → Nat} {n k : Nat} : ∀ (as : List ZV) (vs : List Value), zSt (zv X ad n) as vs → ∀ (i0 i : Nat) (v : ZV), (zex as ++ znone k)[i]? = some (some v) → ∃ w : Value, (i0 + i, w) ∈ lv_args i0 vs ∧ zv X ad n v w
  | [], vs, h, i0, i, v, hi => absurd hi (znone_at k i v)
  | a :: as, vs, h, i0, i, v, hi => by
    obtain ⟨w, s1, rfl, hw, hr⟩ := h
    have hcat := zv_cat hw
    cases hl : zlong a with
    | true =>
      rw [hl, if_pos rfl] at hcat
      have e : zex (a :: as) = some a :: none :: zex as := by
        show zif (zlong a) _ _ = _
        rw [hl]; rfl
      rw [e] at hi
      match i, hi with
      | 0, hi =>
        have hi : some (some a) = some (some v) := hi
        cases hi
        exact ⟨w, by rw [lv_args]; exact List.mem_cons_self, hw⟩
      | 1, hi =>
        have hi : some (none : Option ZV) = some (some v) := hi
        cases hi
      | i + 2, hi =>
        have hi : (zex as ++ znone k)[i]? = some (some v) := hi
        obtain ⟨w2, q1, q2⟩ := zex_ok as s1 hr (i0 + 2) i v hi
        refine ⟨w2, ?_, q2⟩
        rw [lv_args, if_pos hcat, show i0 + (i + 2) = i0 + 2 + i by omega]
        exact List.mem_cons_of_mem _ q1
    | false =>
      rw [hl] at hcat
      have hcat : w.category = 1 := hcat
      have e : zex (a :: as) = some a :: zex as := by
        show zif (zlong a) _ _ = _
        rw [hl]; rfl
      rw [e] at hi
      match i, hi with
      | 0, hi =>
        have hi : some (some a) = some (some v) := hi
        cases hi
        exact ⟨w, by rw [lv_args]; exact List.mem_cons_self, hw⟩
      | i + 1, hi =>
        have hi : (zex as ++ znone k)[i]? = some (some v) := hi
        obtain ⟨w2, q1, q2⟩ := zex_ok as s1 hr (i0 + 1) i v hi
        refine ⟨w2, ?_, q2⟩
        rw [lv_args, if_neg (by omega), show i0 + (i + 1) = i0 + 1 + i by omega]
        exact List.mem_cons_of_mem _ q1
theorem zex_len {X : ZX} {ad : Nat → Nat} {n : Nat} : ∀ (as : List ZV) (vs : List Value), zSt (zv X ad n) as vs → (lg_sl vs).length = (zex as).length
  | [], vs, h => by
    have h : vs = [] := h
    subst h
    rfl
  | a :: as, vs, h => by
    obtain ⟨w, s1, rfl, hw, hr⟩ := h
    have hcat := zv_cat hw
    have k := zex_len as s1 hr
    cases hl : zlong a with
    | true =>
      rw [hl, if_pos rfl] at hcat
      have e : zex (a :: as) = some a :: none :: zex as := by
        show zif (zlong a) _ _ = _
        rw [hl]; rfl
      rw [e, List.length_cons, List.length_cons, ← k]
      unfold lg_sl
      rw [List.flatMap_cons, if_pos hcat]
      simp
    | false =>
      rw [hl] at hcat
      have hcat : w.category = 1 := hcat
      have e : zex (a :: as) = some a :: zex as := by
        show zif (zlong a) _ _ = _
        rw [hl]; rfl
      rw [e, List.length_cons, ← k]
      unfold lg_sl
      rw [List.flatMap_cons, if_neg (by omega)]
      simp
