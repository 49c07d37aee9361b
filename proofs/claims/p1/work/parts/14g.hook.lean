/-! The run of the law, cut at its loop's head; loops that write what stands there already. -/
noncomputable def zv_eqb (a b : ZV) : Bool := zif (Nat.beq a.1 b.1) (Nat.beq a.2 b.2) false
theorem zv_eqb_ok {a b : ZV} (h : zv_eqb a b = true) : a = b := by
  obtain ⟨h1, h2⟩ := zif_and h
  exact Prod.ext (zb_eq h1) (zb_eq h2)
noncomputable def zo_eqb {α : Type} (eq : α → α → Bool) (a b : Option α) : Bool := @Option.rec α (fun _ => Option α → Bool) (fun b => @Option.rec α (fun _ => Bool) true (fun _ => false) b) (fun x _b => @Option.rec α (fun _ => Bool) false (fun y => eq x y) _b) a b
theorem zo_eqb_ok {α : Type} {eq : α → α → Bool} (he : ∀ x y, eq x y = true → x = y) {a b : Option α} (h : zo_eqb eq a b = true) : a = b := by
  cases a with
  | none =>
    cases b with
    | none => rfl
    | some y => exact absurd (show false = true from h) (by decide)
  | some x =>
    cases b with
    | none => exact absurd (show false = true from h) (by decide)
    | some y => exact congrArg some (he x y h)
noncomputable def zt_e1 {α T : Type} (eq : α → α → Bool) (ih : T → T → Bool) (t u : Option (Option α × T × T)) : Bool := zo_eqb (fun q q' => zif (zo_eqb eq q.1 q'.1) (zif (ih q.2.1 q'.2.1) (ih q.2.2 q'.2.2) false) false) t u
noncomputable def zt_eqb {α : Type} (eq : α → α → Bool) (n : Nat) : ZT α n → ZT α n → Bool := @Nat.rec (fun n => ZT α n → ZT α n → Bool) (fun t u => @zo_eqb α eq t u) (fun n ih t u => @zt_e1 α (ZT α n) eq ih t u) n
theorem zt_eqb_ok {α : Type} {eq : α → α → Bool} (he : ∀ x y, eq x y = true → x = y) : ∀ (n : Nat) (t u : ZT α n), zt_eqb eq n t u = true → t = u := by
  intro n
  induction n with
  | zero => exact fun t u h => zo_eqb_ok (α := α) he (a := t) (b := u) h
  | succ n ih =>
    intro t u h
    refine zo_eqb_ok (α := Option α × ZT α n × ZT α n) (fun q q' hq => ?_) (a := t) (b := u) h
    obtain ⟨h1, h2⟩ := zif_and hq
    obtain ⟨h3, h4⟩ := zif_and h2
    exact Prod.ext (zo_eqb_ok he h1) (Prod.ext (ih _ _ h3) (ih _ _ h4))
noncomputable def zob_eqb (a b : ZO) : Bool := zif (Nat.beq a.1 b.1) (zif (Nat.beq a.2.1 b.2.1) (zt_eqb zv_eqb 18 a.2.2 b.2.2) false) false
theorem zob_eqb_ok {a b : ZO} (h : zob_eqb a b = true) : a = b := by
  obtain ⟨h1, h2⟩ := zif_and h
  obtain ⟨h3, h4⟩ := zif_and h2
  exact Prod.ext (zb_eq h1) (Prod.ext (zb_eq h3) (zt_eqb_ok (fun _ _ => zv_eqb_ok) 18 _ _ h4))
noncomputable def zG_eqb (a b : ZG) : Bool := zif (Nat.beq a.2.1 b.2.1) (zif (Nat.beq a.2.2.1 b.2.2.1) (zif (Nat.beq a.2.2.2 b.2.2.2) (zt_eqb zob_eqb 10 a.1 b.1) false) false) false
theorem zG_eqb_ok {a b : ZG} (h : zG_eqb a b = true) : a = b := by
  obtain ⟨h1, h2⟩ := zif_and h
  obtain ⟨h3, h4⟩ := zif_and h2
  obtain ⟨h5, h6⟩ := zif_and h4
  exact Prod.ext (zt_eqb_ok (fun _ _ => zob_eqb_ok) 10 _ _ h6) (Prod.ext (zb_eq h1) (Prod.ext (zb_eq h3) (zb_eq h5)))
noncomputable def zl_eqb : ZL → ZL → Bool := @List.rec (Option ZV) (fun _ => ZL → Bool) (fun b => @List.rec (Option ZV) (fun _ => Bool) true (fun _ _ _ => false) b) (fun x _ ih b => @List.rec (Option ZV) (fun _ => Bool) false (fun y r _ => zif (zo_eqb zv_eqb x y) (ih r) false) b)
theorem zl_eqb_ok : ∀ a b : ZL, zl_eqb a b = true → a = b
  | [], [], _ => rfl
  | [], y :: b, h => absurd (show false = true from h) (by decide)
  | x :: a, [], h => absurd (show false = true from h) (by decide)
  | x :: a, y :: b, h => by
    obtain ⟨h1, h2⟩ := zif_and (show zif (zo_eqb zv_eqb x y) (zl_eqb a b) false = true from h)
    rw [zo_eqb_ok (fun _ _ => zv_eqb_ok) h1, zl_eqb_ok a b h2]
/-- the law's run up to its loop -/
noncomputable def zhook (K : Nat → Nat → ZK) : Nat → Nat → ZK := fun d mid pc L st G => zif (Nat.beq mid 0) (zif (Nat.beq pc zstop) (zif (zl_eqb L zLx) (@List.rec ZV (fun _ => Option ZRes) (some (7777778, none, G)) (fun _ _ _ => none) st) none) (K d mid pc L st G)) (K d mid pc L st G)
theorem zhook_ok {B0 Ls : Nat} {X : ZX} {K : Nat → Nat → ZK} (h : zSound B0 Ls X K) : zSound B0 Ls X (zhook K) := by
  intro d mid pc L st G r hr
  rcases zif_or hr with ⟨e1, hr⟩ | ⟨-, hr⟩
  · rcases zif_or hr with ⟨e2, hr⟩ | ⟨-, hr⟩
    · obtain ⟨e3, hr⟩ := zif_some hr
      cases st with
      | cons _ _ =>
        have hr : (none : Option ZRes) = some r := hr
        cases hr
      | nil =>
        have hr : some (7777778, none, G) = some r := hr
        have hr := (Option.some.inj hr).symm
        subst hr
        have e3 := zl_eqb_ok _ _ e3
        have e2 := zb_eq e2
        subst e3
        subst e2
        exact ⟨Nat.le_refl _, Nat.le_refl _, Nat.le_refl _, fun ad0 n0 p l e R s m args below meth c Q F _ _ hC => hC.2.2 (zb_eq e1) rfl⟩
    · exact h d mid pc L st G r hr
  · exact h d mid pc L st G r hr
