/-! One picture read as another, under another valuation; the law's frame from cut to cut. -/
theorem zt_eqb_get {α : Type} {eq : α → α → Bool} : ∀ (n : Nat) (t u : ZT α n), zt_eqb eq n t u = true → ∀ j, (zt_get n t j = none ∧ zt_get n u j = none) ∨ ∃ v v', zt_get n t j = some v ∧ zt_get n u j = some v' ∧ eq v v' = true := by
  have oo : ∀ a b : Option α, zo_eqb eq a b = true → (a = none ∧ b = none) ∨ ∃ v v', a = some v ∧ b = some v' ∧ eq v v' = true := by
    intro a b h
    cases a with
    | none =>
      cases b with
      | none => exact Or.inl ⟨rfl, rfl⟩
      | some y => exact absurd (show false = true from h) (by decide)
    | some x =>
      cases b with
      | none => exact absurd (show false = true from h) (by decide)
      | some y => exact Or.inr ⟨x, y, rfl, rfl, h⟩
  intro n
  induction n with
  | zero =>
    intro t u h j
    show (zif (Nat.beq j 0) (t : Option α) none = none ∧ zif (Nat.beq j 0) (u : Option α) none = none) ∨ ∃ v v', zif (Nat.beq j 0) (t : Option α) none = some v ∧ zif (Nat.beq j 0) (u : Option α) none = some v' ∧ eq v v' = true
    cases Nat.beq j 0 with
    | true => exact oo t u h
    | false => exact Or.inl ⟨rfl, rfl⟩
  | succ n ih =>
    have key : ∀ (t u : Option (Option α × ZT α n × ZT α n)), @zt_e1 α (ZT α n) eq (zt_eqb eq n) t u = true → ∀ j, (@zt_g1 α (ZT α n) (zt_get n) t j = none ∧ @zt_g1 α (ZT α n) (zt_get n) u j = none) ∨ ∃ v v', @zt_g1 α (ZT α n) (zt_get n) t j = some v ∧ @zt_g1 α (ZT α n) (zt_get n) u j = some v' ∧ eq v v' = true := by
      intro t u h j
      cases t with
      | none =>
        cases u with
        | none => exact Or.inl ⟨rfl, rfl⟩
        | some y => exact absurd (show false = true from h) (by decide)
      | some x =>
        cases u with
        | none => exact absurd (show false = true from h) (by decide)
        | some y =>
          obtain ⟨h1, h2⟩ := zif_and (show zif (zo_eqb eq x.1 y.1) (zif (zt_eqb eq n x.2.1 y.2.1) (zt_eqb eq n x.2.2 y.2.2) false) false = true from h)
          obtain ⟨h3, h4⟩ := zif_and h2
          show (zif (Nat.beq j 0) x.1 (zif (Nat.beq (Nat.mod j 2) 1) (zt_get n x.2.1 (Nat.div j 2)) (zt_get n x.2.2 (Nat.sub (Nat.div j 2) 1))) = none ∧ zif (Nat.beq j 0) y.1 (zif (Nat.beq (Nat.mod j 2) 1) (zt_get n y.2.1 (Nat.div j 2)) (zt_get n y.2.2 (Nat.sub (Nat.div j 2) 1))) = none) ∨ ∃ v v', zif (Nat.beq j 0) x.1 (zif (Nat.beq (Nat.mod j 2) 1) (zt_get n x.2.1 (Nat.div j 2)) (zt_get n x.2.2 (Nat.sub (Nat.div j 2) 1))) = some v ∧ zif (Nat.beq j 0) y.1 (zif (Nat.beq (Nat.mod j 2) 1) (zt_get n y.2.1 (Nat.div j 2)) (zt_get n y.2.2 (Nat.sub (Nat.div j 2) 1))) = some v' ∧ eq v v' = true
          cases Nat.beq j 0 with
          | true => exact oo _ _ h1
          | false =>
            cases Nat.beq (Nat.mod j 2) 1 with
            | true => exact ih _ _ h3 _
            | false => exact ih _ _ h4 _
    exact fun t u h j => key t u h j
theorem zt_emp {t : Option (Option ZV × ZT ZV 17 × ZT ZV 17)} (h : @Option.rec (Option ZV × ZT ZV 17 × ZT ZV 17) (fun _ => Bool) true (fun _ => false) t = true) (j : Nat) : zt_get (α := ZV) 18 t j = none := by
  cases t with
  | none => exact zt_getN 18 j
  | some q => exact absurd (show false = true from h) (by decide)
noncomputable def zcv1 (P : List (ZV × ZV)) (v v' : ZV) : Bool := zif (zv_eqb v v') (zvfr v) (zif (Nat.beq v'.1 6) (zisi v) (zif (zisi v) (zif (zisi v') (P.any fun q => zif (zv_eqb q.1 v) (zv_eqb q.2 v') false) false) false))
noncomputable def zcvB (P : List (ZV × ZV)) (cC cD : List (Nat × Nat)) (k : Nat) (o o' : ZO) : Bool :=
  zif (Nat.beq o.2.1 o'.2.1) (zif (zif (Nat.ble o.1 99) (Nat.beq o.1 o'.1) false) (zt_eqb (zcv1 P) 18 o.2.2 o'.2.2)
    (zif (@Option.rec (Option ZV × ZT ZV 17 × ZT ZV 17) (fun _ => Bool) true (fun _ => false) o'.2.2)
      (zif (Nat.ble o.1 99) (cC.any fun q => zif (Nat.beq q.1 k) (zif (Nat.ble 250 q.2) (zif (Nat.beq o.1 60) (zif (Nat.beq o'.1 (4 * q.2 + 2)) (zt_all (fun _ v => zisl v) 18 o.2.2 0 1) false) (zif (zif (Nat.beq o.1 50) (Nat.beq o'.1 (4 * q.2)) (zif (Nat.beq o.1 51) (Nat.beq o'.1 (4 * q.2 + 1)) false)) (zt_all (fun _ v => zisi v) 18 o.2.2 0 1) false)) false) false)
        (zif (Nat.ble 1000 o.1) (zif (@Option.rec (Option ZV × ZT ZV 17 × ZT ZV 17) (fun _ => Bool) true (fun _ => false) o.2.2) (cD.any fun q => zif (Nat.beq (Nat.div o.1 4) q.1) (zif (Nat.ble 250 q.2) (Nat.beq o'.1 (4 * q.2 + Nat.mod o.1 4)) false) false) false) false)) false)) false
noncomputable def zcvH (P : List (ZV × ZV)) (cC cD : List (Nat × Nat)) (h h' : ZH) : Bool := zt_all (fun k o => @Option.rec ZO (fun _ => Bool) false (fun o' => zcvB P cC cD k o o') (zt_get 10 h' k)) 10 h 0 1
def zdfo (k : Nat) : ZV := if k = 60 then (1, 0) else (0, 0)
theorem zv_re {X : ZX} {S S' : ZSg} {ad : Nat → Nat} {n : Nat} {v v' : ZV} {w : Value} (h1 : zisi v = true) (h2 : zisi v' = true) (he : zvn S.1 v = zvn S'.1 v') (h : zv (zXS X S) ad n v w) : zv (zXS X S') ad n v' w := by
  have e := zvi_ok h1 h
  rw [zvn_i (X := zXS X S) h1, show zsg (zXS X S) = S.1 from rfl, he] at e
  rw [e, show S'.1 = zsg (zXS X S') from rfl, ← zvn_i (X := zXS X S') h2]
  exact zvi_is h2
theorem zcv1_ok {X : ZX} {S S' : ZSg} {ad : Nat → Nat} {n : Nat} {P : List (ZV × ZV)} {v v' : ZV} {w : Value} (hP : ∀ q ∈ P, zvn S.1 q.1 = zvn S'.1 q.2) (hb : zcv1 P v v' = true) (h : zv (zXS X S) ad n v w) : zv (zXS X S') ad n v' w := by
  rcases zif_or hb with ⟨e1, e2⟩ | ⟨-, e2⟩
  · rw [← zv_eqb_ok e1]
    exact (zv_free e2).mpr ((zv_free e2).mp h)
  rcases zif_or e2 with ⟨e1, e2⟩ | ⟨-, e2⟩
  · have e := zvi_ok e2 h
    obtain ⟨t, u⟩ := v'
    have e1 : t = 6 := zb_eq e1
    subst e1
    exact ⟨_, e⟩
  · obtain ⟨e3, e2⟩ := zif_and e2
    obtain ⟨e4, e2⟩ := zif_and e2
    obtain ⟨q, hq, e5⟩ := List.any_eq_true.mp e2
    obtain ⟨e6, e7⟩ := zif_and e5
    have := hP q hq
    rw [zv_eqb_ok e6, zv_eqb_ok e7] at this
    exact zv_re e3 e4 this h
theorem zW1_conv {B0 : Nat} {X : ZX} {S S' : ZSg} {ad : Nat → Nat} {P : List (ZV × ZV)} {cC cD : List (Nat × Nat)} {h h' : ZH} {n c s c' s' : Nat} {H : Heap} (hB : zcvH P cC cD h h' = true) (hP : ∀ q ∈ P, zvn S.1 q.1 = zvn S'.1 q.2)
    (hC : ∀ q ∈ cC, ∀ o, zt_get 10 h q.1 = some o → ∀ j : Nat, j < o.2.1 → S'.2.1 q.2 j = zvn S.1 ((zt_get 18 o.2.2 j).getD (zdfo o.1))) (hD : ∀ q ∈ cD, ∀ j : Nat, S'.2.1 q.2 j = S.2.1 q.1 j)
    (hW : zW1 B0 (zXS X S) ad (h, n, c, s) H) : zW1 B0 (zXS X S') ad (h', n, c', s') H := by
  refine zW1_shift (G := (h, n, c, s)) (G' := (h', n, c', s')) rfl (fun k o e hk ho hz => ?_) hW
  have ho : zt_get 10 h k = some o := ho
  have k1 := zt_all_get 10 h 0 1 k o hB ho
  rw [Nat.zero_add, Nat.one_mul] at k1
  show ∃ o', zt_get 10 h' k = some o' ∧ zob1 (zXS X S') ad n o' e
  have hz : zob1 (zXS X S) ad n o e := hz
  cases ho' : zt_get 10 h' k with
  | none =>
    rw [ho'] at k1
    exact absurd (show false = true from k1) (by decide)
  | some o' =>
    rw [ho'] at k1
    refine ⟨o', rfl, ?_⟩
    obtain ⟨el, k1⟩ := zif_and (show zcvB P cC cD k o o' = true from k1)
    have el := zb_eq el
    rcases zif_or k1 with ⟨e1, k1⟩ | ⟨-, k1⟩
    · obtain ⟨e1, e2⟩ := zif_and e1
      have e1 := zl_le e1
      have e2 := zb_eq e2
      have gg := zt_eqb_get 18 o.2.2 o'.2.2 k1
      refine zob1_by (by omega) e2.symm el.symm (fun j v w hv hw => ?_) (fun j hj => ?_) hz
      · rcases gg j with ⟨g1, -⟩ | ⟨v1, v2, g1, g2, g3⟩
        · rw [g1] at hv
          cases hv
        · rw [g1] at hv
          cases hv
          exact ⟨v2, g2, zcv1_ok hP g3 hw⟩
      · rcases gg j with ⟨-, g1⟩ | ⟨v1, v2, g1, -, -⟩
        · exact g1
        · rw [g1] at hj
          cases hj
    · obtain ⟨em, k1⟩ := zif_and k1
      have em := fun j => zt_emp em j
      rcases zif_or k1 with ⟨e1, k1⟩ | ⟨-, k1⟩
      · obtain ⟨q, hq, k2⟩ := List.any_eq_true.mp k1
        obtain ⟨e3, k2⟩ := zif_and k2
        obtain ⟨e4, k2⟩ := zif_and k2
        have e3 := zb_eq e3
        have e4 := zl_le e4
        have e1 := zl_le e1
        have hC := hC q hq o (by rw [e3]; exact ho)
        have hz := zob0_of hz (by omega)
        rcases zif_or k2 with ⟨e5, k3⟩ | ⟨-, k3⟩
        · obtain ⟨e6, k3⟩ := zif_and k3
          have e5 := zb_eq e5
          have e6 := zb_eq e6
          rcases hz with ⟨hh, -⟩ | ⟨-, hh, -⟩ | ⟨-, f, he, hf⟩ | ⟨hh, -⟩
          · omega
          · omega
          · refine Or.inr ⟨by omega, Or.inr ⟨by omega, f, ?_, fun sl v hv => ?_, fun j hj _ => ?_⟩⟩
            · rw [← el, show zkap o'.1 = o.1 from by rw [e5, e6]; show (match (4 * q.2 + 2) % 4 with | 0 => 50 | 1 => 51 | _ => 60) = 60; rw [show (4 * q.2 + 2) % 4 = 2 by omega]; rfl]
              exact he
            · rw [em sl] at hv
              cases hv
            · have hj : j < o.2.1 := by rw [el]; exact hj
              have z := hf j hj
              have hs : zisl ((zt_get 18 o.2.2 j).getD (1, 0)) = true := by
                cases hg : zt_get 18 o.2.2 j with
                | none => rfl
                | some v => exact zt_all_get 18 o.2.2 0 1 j v k3 hg
              have z := Value.long.inj (zvl_ok hs z)
              have c := hC j hj
              rw [e5] at c
              show f j = Int64.ofInt (S'.2.1 (o'.1 / 4) j)
              rw [z, zvn_l hs, e6, show (4 * q.2 + 2) / 4 = q.2 by omega, c]
              rfl
          · omega
        · obtain ⟨e5, k3⟩ := zif_and k3
          have e56 : (o.1 = 50 ∧ o'.1 = 4 * q.2) ∨ (o.1 = 51 ∧ o'.1 = 4 * q.2 + 1) := by
            rcases zif_or e5 with ⟨e6, e7⟩ | ⟨-, e7⟩
            · exact Or.inl ⟨zb_eq e6, zb_eq e7⟩
            · obtain ⟨e6, e7⟩ := zif_and e7
              exact Or.inr ⟨zb_eq e6, zb_eq e7⟩
          rcases hz with ⟨hh, -⟩ | ⟨-, hh, -, f, he, hf⟩ | ⟨hh, -⟩ | ⟨hh, -⟩
          · omega
          · refine Or.inr ⟨by omega, Or.inl ⟨by omega, f, ?_, fun sl v hv => ?_, fun j hj _ => ?_⟩⟩
            · have : zkap o'.1 = o.1 := by
                rcases e56 with ⟨a, b⟩ | ⟨a, b⟩
                · rw [a, b]
                  show (match (4 * q.2) % 4 with | 0 => 50 | 1 => 51 | _ => 60) = 50
                  rw [show (4 * q.2) % 4 = 0 by omega]
                  rfl
                · rw [a, b]
                  show (match (4 * q.2 + 1) % 4 with | 0 => 50 | 1 => 51 | _ => 60) = 51
                  rw [show (4 * q.2 + 1) % 4 = 1 by omega]
                  rfl
              rw [← el, this]
              exact he
            · rw [em sl] at hv
              cases hv
            · have hj : j < o.2.1 := by rw [el]; exact hj
              have z := hf j hj
              have hs : zisi ((zt_get 18 o.2.2 j).getD (0, 0)) = true := by
                cases hg : zt_get 18 o.2.2 j with
                | none => rfl
                | some v => exact zt_all_get 18 o.2.2 0 1 j v k3 hg
              have z := Value.int.inj (zvi_ok hs z)
              have c := hC j hj
              rw [show zdfo o.1 = (0, 0) by unfold zdfo; rw [if_neg (by omega)]] at c
              show f j = Int32.ofInt (S'.2.1 (o'.1 / 4) j)
              rw [z, zvn_i hs, show o'.1 / 4 = q.2 by omega, c]
              rfl
          · omega
          · omega
      · obtain ⟨e1, k1⟩ := zif_and k1
        obtain ⟨en, k1⟩ := zif_and k1
        have en := fun j => zt_emp en j
        obtain ⟨q, hq, k2⟩ := List.any_eq_true.mp k1
        obtain ⟨e3, k2⟩ := zif_and k2
        obtain ⟨e4, k2⟩ := zif_and k2
        have e1 := zl_le e1
        have e3 : o.1 / 4 = q.1 := zb_eq e3
        have e4 := zl_le e4
        have e5 : o'.1 = 4 * q.2 + o.1 % 4 := zb_eq k2
        have hz := zsya_of hz e1 (by decide)
        have kap : zkap o'.1 = zkap o.1 := by
          unfold zkap
          rw [show o'.1 % 4 = o.1 % 4 by omega]
        have d4 : o'.1 / 4 = q.2 := by omega
        obtain ⟨-, ⟨h1, f, h2, h3, h4⟩ | ⟨h1, f, h2, h3, h4⟩⟩ := hz
        · refine Or.inr ⟨by omega, Or.inl ⟨by omega, f, by rw [kap, ← el]; exact h2, fun sl v hv => ?_, fun j hj _ => ?_⟩⟩
          · rw [em sl] at hv
            cases hv
          · rw [h4 j (by rw [el]; exact hj) (fun sl v hv => by rw [en sl] at hv; cases hv), d4, e3]
            exact congrArg Int32.ofInt (hD q hq j).symm
        · refine Or.inr ⟨by omega, Or.inr ⟨by omega, f, by rw [kap, ← el]; exact h2, fun sl v hv => ?_, fun j hj _ => ?_⟩⟩
          · rw [em sl] at hv
            cases hv
          · rw [h4 j (by rw [el]; exact hj) (fun sl v hv => by rw [en sl] at hv; cases hv), d4, e3]
            exact congrArg Int64.ofInt (hD q hq j).symm
/-! locals -/
def zLr1 (σ σ' : Nat → Int) (a b : Option ZV) : Prop := match b with
  | none => True
  | some v => (zvfr v = true ∧ a = some v) ∨ (∃ v', a = some v' ∧ zisi v' = true ∧ zisi v = true ∧ zvn σ v' = zvn σ' v) ∨ ∃ v', a = some v' ∧ zisl v' = true ∧ zisl v = true ∧ zvn σ v' = zvn σ' v
def zLr (σ σ' : Nat → Int) : ZL → ZL → Prop
  | _, [] => True
  | a :: A, b :: B => zLr1 σ σ' a b ∧ zLr σ σ' A B
  | [], _ :: _ => False
theorem zLr_ok {σ σ' : Nat → Int} : ∀ (A B : ZL), zLr σ σ' A B → ∀ (i : Nat) (v : ZV), B[i]? = some (some v) → ∃ a, A[i]? = some a ∧ zLr1 σ σ' a (some v)
  | _, [], _, i, v, h => by simp at h
  | [], _ :: _, hr, _, _, _ => hr.elim
  | a :: A, b :: B, hr, 0, v, h => by
    rw [List.getElem?_cons_zero] at h
    have h := Option.some.inj h
    subst h
    exact ⟨a, List.getElem?_cons_zero, hr.1⟩
  | a :: A, b :: B, hr, i + 1, v, h => by
    rw [List.getElem?_cons_succ] at h ⊢
    exact zLr_ok A B hr.2 i v h
theorem zv_rl {X : ZX} {S S' : ZSg} {ad : Nat → Nat} {n : Nat} {v v' : ZV} {w : Value} (h1 : zisl v = true) (h2 : zisl v' = true) (he : zvn S.1 v = zvn S'.1 v') (h : zv (zXS X S) ad n v w) : zv (zXS X S') ad n v' w := by
  have e := zvl_ok h1 h
  rw [zvn_l (X := zXS X S) h1, show zsg (zXS X S) = S.1 from rfl, he] at e
  rw [e, show S'.1 = zsg (zXS X S') from rfl, ← zvn_l (X := zXS X S') h2]
  exact zvl_is h2
theorem zLc_re {X : ZX} {S S' : ZSg} {ad : Nat → Nat} {n nL : Nat} {ls : Array Slot} {A B : ZL} (hr : zLr S.1 S'.1 A B) (h : zLc (zXS X S) ad n ls nL A) : zLc (zXS X S') ad n ls nL B := by
  refine ⟨h.1, h.2.1, fun i v hv => ?_⟩
  obtain ⟨a, h0, h1⟩ := zLr_ok A B hr i v hv
  rcases (show (zvfr v = true ∧ a = some v) ∨ (∃ v', a = some v' ∧ zisi v' = true ∧ zisi v = true ∧ zvn S.1 v' = zvn S'.1 v) ∨ ∃ v', a = some v' ∧ zisl v' = true ∧ zisl v = true ∧ zvn S.1 v' = zvn S'.1 v from h1) with ⟨h1, h2⟩ | ⟨v', h1, h2, h3, h4⟩ | ⟨v', h1, h2, h3, h4⟩
  · obtain ⟨w, a1, a2⟩ := h.2.2 i v (by rw [h0, h2])
    exact ⟨w, a1, (zv_free h1).mpr ((zv_free h1).mp a2)⟩
  · obtain ⟨w, a1, a2⟩ := h.2.2 i v' (by rw [h0, h1])
    exact ⟨w, a1, zv_re h2 h3 h4 a2⟩
  · obtain ⟨w, a1, a2⟩ := h.2.2 i v' (by rw [h0, h1])
    exact ⟨w, a1, zv_rl h2 h3 h4 a2⟩
/-- a place of a frame, read under another valuation -/
theorem zHd_conv {B0 : Nat} {X : ZX} {S S' : ZSg} {ad0 : Nat → Nat} {n0 : Nat} {p : Program} {l : Launch} {e : Env} {R : Room} {s : State} {m : MethodId} {args : Array Value} {below : List Frame} {meth : Method} {c : Code} {Q : State → Prop} {nL pc : Nat} {A B : ZL} {P : List (ZV × ZV)} {cC cD : List (Nat × Nat)} {h h' : ZH} {n cc ss : Nat}
    (hB : zcvH P cC cD h h' = true) (hP : ∀ q ∈ P, zvn S.1 q.1 = zvn S'.1 q.2) (hC : ∀ q ∈ cC, ∀ o, zt_get 10 h q.1 = some o → ∀ j : Nat, j < o.2.1 → S'.2.1 q.2 j = zvn S.1 ((zt_get 18 o.2.2 j).getD (zdfo o.1))) (hD : ∀ q ∈ cD, ∀ j : Nat, S'.2.1 q.2 j = S.2.1 q.1 j) (hr : zLr S.1 S'.1 A B)
    (go : zHd B0 (zXS X S') ad0 n0 p l e R s m args below meth c Q nL pc B [] (h', n, cc, ss)) : zHd B0 (zXS X S) ad0 n0 p l e R s m args below meth c Q nL pc A [] (h, n, cc, ss) :=
  fun ad hag H locs ls sv hW hS hL hT => go ad hag H locs ls sv (zW1_conv hB hP hC hD hW) hS (zLc_re hr hL) hT
/-- a stretch of a run, checked -/
noncomputable def zpcB (hk : ZHk) (ml : List ZMm) (N : ZN) (f d mid pc : Nat) (L : ZL) (G : ZG) (r' : ZRes) : Bool := @Option.rec ZRes (fun _ => Bool) false (fun r => zif (Nat.beq r.1 r'.1) (zif (zo_eqb zv_eqb r.2.1 r'.2.1) (zG_eqb r.2.2 r'.2.2) false) false) (zrunM hk ml N f d mid pc L [] G)
theorem zpcB_ok {hk : ZHk} {ml : List ZMm} {N : ZN} {f d mid pc : Nat} {L : ZL} {G : ZG} {r' : ZRes} (h : zpcB hk ml N f d mid pc L G r' = true) : zrunM hk ml N f d mid pc L [] G = some r' := by
  unfold zpcB at h
  cases e : zrunM hk ml N f d mid pc L [] G with
  | none =>
    rw [e] at h
    exact absurd (show false = true from h) (by decide)
  | some r =>
    rw [e] at h
    obtain ⟨k1, k2⟩ := zif_and (show zif (Nat.beq r.1 r'.1) (zif (zo_eqb zv_eqb r.2.1 r'.2.1) (zG_eqb r.2.2 r'.2.2) false) false = true from h)
    obtain ⟨k2, k3⟩ := zif_and k2
    exact congrArg some (Prod.ext (zb_eq k1) (Prod.ext (zo_eqb_ok (fun _ _ => zv_eqb_ok) k2) (zG_eqb_ok k3)))
/-- a stretch within a frame, from place to place -/
theorem zstretch {hk : ZHk} {ml : List ZMm} {N : ZN} {f d pc : Nat} {L : ZL} {G G' : ZG} {B0 Ls : Nat} {X : ZX} {ad0 : Nat → Nat} {n0 : Nat} {p : Program} {l : Launch} {e : Env} {R : Room} {s : State} {m : MethodId} {args : Array Value} {below : List Frame} {meth : Method} {c : Code} {Q : State → Prop}
    (hA : zAll) (hN : zNok X Ls N) (hm : ∀ q ∈ ml, zGoal hk B0 Ls X q.1 q.2.1 0 q.2.2.1 [] (q.2.2.2.1.1, q.2.2.2.1.2, 0, 0) q.2.2.2.2) (hb : zpcB hk ml N f d hk.1 pc L G (7777778, none, G') = true) (F : zFr B0 Ls X hk.1 d p l R s m args meth c) (h1 : G'.2.2.1 ≤ R.cells) (h2 : G'.2.2.2 ≤ R.slots)
    (go : zHd B0 X ad0 n0 p l e R s m args below meth c Q (zm_nfo hk.1).1 hk.2.1 hk.2.2 [] G') : zHd B0 X ad0 n0 p l e R s m args below meth c Q (zm_nfo hk.1).1 pc L [] G := by
  obtain ⟨-, -, -, k4⟩ := zrunM_ok (B0 := B0) hA hN hm f d hk.1 pc _ _ _ _ (zpcB_ok hb)
  exact k4 ad0 n0 p l e R s m args below meth c Q F h1 h2 ⟨fun z => absurd (show 7777778 = 0 from z) (by decide), fun _ E h8 z => absurd (show 7777778 = E + 1 from z) (by omega), fun _ _ => go⟩
/-- a call's prepared result -/
theorem zprep {hk : ZHk} {ml : List ZMm} {N : ZN} {f d mid : Nat} {L : ZL} {G : ZG} {r : ZRes} {B0 Ls : Nat} {X : ZX} (hA : zAll) (hN : zNok X Ls N) (hm : ∀ q ∈ ml, zGoal hk B0 Ls X q.1 q.2.1 0 q.2.2.1 [] (q.2.2.2.1.1, q.2.2.2.1.2, 0, 0) q.2.2.2.2) (hb : zpcB hk ml N f d mid 0 L G r = true) : zGoal hk B0 Ls X d mid 0 L [] G r :=
  zrunM_ok (B0 := B0) hA hN hm f d mid 0 _ _ _ _ (zpcB_ok hb)
