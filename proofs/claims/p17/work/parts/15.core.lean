/-! The run cut at a place; prepared results; a block of the interpreted program. -/
noncomputable def zo_eqb {α : Type} (eq : α → α → Bool) (a b : Option α) : Bool := @Option.rec α (fun _ => Option α → Bool) (fun b => @Option.rec α (fun _ => Bool) true (fun _ => false) b) (fun x _b => @Option.rec α (fun _ => Bool) false (fun y => eq x y) _b) a b
theorem zo_eqb_ok {α : Type} {eq : α → α → Bool} (he : ∀ x y, eq x y = true → x = y) {a b : Option α} (h : zo_eqb eq a b = true) : a = b := by
  cases a with
  | none =>
    cases b with
    | none => rfl
    | some y => exact absurd (show false = true from h) (by decide)
  | some x =>
    cases b with
    | none => exact absurd (show false = true from h) (by decide)
    | some y => exact congrArg some (he x y h)
noncomputable def zt_e1 {α T : Type} (eq : α → α → Bool) (ih : T → T → Bool) (t u : Option (Option α × T × T)) : Bool := zo_eqb (fun q q' => zif (zo_eqb eq q.1 q'.1) (zif (ih q.2.1 q'.2.1) (ih q.2.2 q'.2.2) false) false) t u
noncomputable def zt_eqb {α : Type} (eq : α → α → Bool) (n : Nat) : ZT α n → ZT α n → Bool := @Nat.rec (fun n => ZT α n → ZT α n → Bool) (fun t u => @zo_eqb α eq t u) (fun n ih t u => @zt_e1 α (ZT α n) eq ih t u) n
theorem zt_eqb_ok {α : Type} {eq : α → α → Bool} (he : ∀ x y, eq x y = true → x = y) : ∀ (n : Nat) (t u : ZT α n), zt_eqb eq n t u = true → t = u := by
  intro n
  induction n with
  | zero => exact fun t u h => zo_eqb_ok (α := α) he (a := t) (b := u) h
  | succ n ih =>
    intro t u h
    refine zo_eqb_ok (α := Option α × ZT α n × ZT α n) (fun q q' hq => ?_) (a := t) (b := u) h
    obtain ⟨h1, h2⟩ := zif_and hq
    obtain ⟨h3, h4⟩ := zif_and h2
    exact Prod.ext (zo_eqb_ok he h1) (Prod.ext (ih _ _ h3) (ih _ _ h4))
noncomputable def zob_eqb (a b : ZO) : Bool := zif (Nat.beq a.1 b.1) (zif (Nat.beq a.2.1 b.2.1) (zt_eqb zv_eqb 18 a.2.2 b.2.2) false) false
theorem zob_eqb_ok {a b : ZO} (h : zob_eqb a b = true) : a = b := by
  obtain ⟨h1, h2⟩ := zif_and h
  obtain ⟨h3, h4⟩ := zif_and h2
  exact Prod.ext (zb_eq h1) (Prod.ext (zb_eq h3) (zt_eqb_ok (fun _ _ => zv_eqb_ok) 18 _ _ h4))
noncomputable def zh_eqb (a b : ZH) : Bool := zt_eqb zob_eqb 10 a b
theorem zh_eqb_ok {a b : ZH} (h : zh_eqb a b = true) : a = b := zt_eqb_ok (fun _ _ => zob_eqb_ok) 10 _ _ h
noncomputable def zG_eqb (a b : ZG) : Bool := zif (Nat.beq a.2.1 b.2.1) (zif (Nat.beq a.2.2.1 b.2.2.1) (zif (Nat.beq a.2.2.2 b.2.2.2) (zh_eqb a.1 b.1) false) false) false
theorem zG_eqb_ok {a b : ZG} (h : zG_eqb a b = true) : a = b := by
  obtain ⟨h1, h2⟩ := zif_and h
  obtain ⟨h3, h4⟩ := zif_and h2
  obtain ⟨h5, h6⟩ := zif_and h4
  exact Prod.ext (zh_eqb_ok h6) (Prod.ext (zb_eq h1) (Prod.ext (zb_eq h3) (zb_eq h5)))
noncomputable def zl_eqb : ZL → ZL → Bool := @List.rec (Option ZV) (fun _ => ZL → Bool) (fun b => @List.rec (Option ZV) (fun _ => Bool) true (fun _ _ _ => false) b) (fun x _ ih b => @List.rec (Option ZV) (fun _ => Bool) false (fun y r _ => zif (zo_eqb zv_eqb x y) (ih r) false) b)
theorem zl_eqb_ok : ∀ a b : ZL, zl_eqb a b = true → a = b
  | [], [], _ => rfl
  | [], y :: b, h => absurd (show false = true from h) (by decide)
  | x :: a, [], h => absurd (show false = true from h) (by decide)
  | x :: a, y :: b, h => by
    obtain ⟨h1, h2⟩ := zif_and (show zif (zo_eqb zv_eqb x y) (zl_eqb a b) false = true from h)
    rw [zo_eqb_ok (fun _ _ => zv_eqb_ok) h1, zl_eqb_ok a b h2]
/-- locals that say no more than others -/
noncomputable def zl_sub : ZL → ZL → Bool := @List.rec (Option ZV) (fun _ => ZL → Bool) (fun b => @List.rec (Option ZV) (fun _ => Bool) true (fun _ _ _ => false) b) (fun x _ ih b => @List.rec (Option ZV) (fun _ => Bool) false (fun y r _ => zif (@Option.rec ZV (fun _ => Bool) true (fun _ => zo_eqb zv_eqb x y) x) (ih r) false) b)
theorem zl_sub_ok : ∀ (a b : ZL), zl_sub a b = true → ∀ (i : Nat) (v : ZV), a[i]? = some (some v) → b[i]? = some (some v)
  | [], b, _, i, v, h => by simp at h
  | x :: a, [], h, _, _, _ => absurd (show false = true from h) (by decide)
  | x :: a, y :: b, h, i, v, hi => by
    obtain ⟨h1, h2⟩ := zif_and (show zif (@Option.rec ZV (fun _ => Bool) true (fun _ => zo_eqb zv_eqb x y) x) (zl_sub a b) false = true from h)
    cases i with
    | zero =>
      rw [List.getElem?_cons_zero] at hi ⊢
      have hi := Option.some.inj hi
      subst hi
      have h1 : zo_eqb zv_eqb (some v) y = true := h1
      rw [← zo_eqb_ok (fun _ _ => zv_eqb_ok) h1]
    | succ i =>
      rw [List.getElem?_cons_succ] at hi ⊢
      exact zl_sub_ok a b h2 i v hi
theorem zHd_sub {B0 : Nat} {X : ZX} {ad0 : Nat → Nat} {n0 : Nat} {p : Program} {l : Launch} {e : Env} {R : Room} {s : State} {m : MethodId} {args : Array Value} {below : List Frame} {meth : Method} {c : Code} {Q : State → Prop} {nL pc : Nat} {T L : ZL} {st : List ZV} {G : ZG} (hs : zl_sub T L = true) (h : zHd B0 X ad0 n0 p l e R s m args below meth c Q nL pc T st G) : zHd B0 X ad0 n0 p l e R s m args below meth c Q nL pc L st G :=
  fun ad hag H locs ls sv hW hS hL hT => h ad hag H locs ls sv hW hS ⟨hL.1, hL.2.1, fun i v hi => hL.2.2 i v (zl_sub_ok T L hs i v hi)⟩ hT
noncomputable def zhook (hk : ZHk) (K : Nat → Nat → ZK) : Nat → Nat → ZK := fun d mid pc L st G => zif (Nat.beq mid hk.1) (zif (Nat.beq pc hk.2.1) (zif (zl_sub hk.2.2 L) (@List.rec ZV (fun _ => Option ZRes) (some (7777778, none, G)) (fun _ _ _ => none) st) (K d mid pc L st G)) (K d mid pc L st G)) (K d mid pc L st G)
theorem zhook_ok {hk : ZHk} {B0 Ls : Nat} {X : ZX} {K : Nat → Nat → ZK} (h : zSound hk B0 Ls X K) : zSound hk B0 Ls X (zhook hk K) := by
  intro d mid pc L st G r hr
  rcases zif_or hr with ⟨e1, hr⟩ | ⟨-, hr⟩
  · rcases zif_or hr with ⟨e2, hr⟩ | ⟨-, hr⟩
    · rcases zif_or hr with ⟨e3, hr⟩ | ⟨-, hr⟩
      · cases st with
        | cons _ _ =>
          have hr : (none : Option ZRes) = some r := hr
          cases hr
        | nil =>
          have hr : some (7777778, none, G) = some r := hr
          have hr := (Option.some.inj hr).symm
          subst hr
          have e2 := zb_eq e2
          subst e2
          exact ⟨Nat.le_refl _, Nat.le_refl _, Nat.le_refl _, fun ad0 n0 p l e R s m args below meth c Q F _ _ hC => zHd_sub e3 (hC.2.2 (zb_eq e1) rfl)⟩
      · exact h d mid pc L st G r hr
    · exact h d mid pc L st G r hr
  · exact h d mid pc L st G r hr
/-- prepared results of calls: the depth, the method, its first locals, the objects (how many), what comes of it -/
abbrev ZMm : Type := Nat × Nat × ZL × (ZH × Nat) × ZRes
noncomputable def zmfind (d mid : Nat) (L : ZL) (G : ZG) : List ZMm → Option ZRes := @List.rec ZMm (fun _ => Option ZRes) none (fun q _ ih => zif (Nat.beq q.2.1 mid) (zif (zl_eqb q.2.2.1 L) (zif (Nat.ble q.1 d) (zif (Nat.beq q.2.2.2.1.2 G.2.1) (zif (zh_eqb q.2.2.2.1.1 G.1) (some q.2.2.2.2) ih) ih) ih) ih) ih)
noncomputable def zmem (ml : List ZMm) (K : Nat → Nat → ZK) : Nat → Nat → ZK := fun d mid pc L st G => zif (Nat.beq pc 0) (@List.rec ZV (fun _ => Option ZRes) (zif (Nat.beq G.2.2.1 0) (zif (Nat.beq G.2.2.2 0) (@Option.rec ZRes (fun _ => Option ZRes) (K d mid pc L st G) (fun r => some r) (zmfind d mid L G ml)) (K d mid pc L st G)) (K d mid pc L st G)) (fun _ _ _ => K d mid pc L st G) st) (K d mid pc L st G)
theorem zmfind_ok {d mid : Nat} {L : ZL} {G : ZG} {r : ZRes} : ∀ ml : List ZMm, zmfind d mid L G ml = some r → ∃ q ∈ ml, q.2.1 = mid ∧ q.2.2.1 = L ∧ q.1 ≤ d ∧ q.2.2.2.1.2 = G.2.1 ∧ q.2.2.2.1.1 = G.1 ∧ q.2.2.2.2 = r
  | [], h => absurd (show (none : Option ZRes) = some r from h) (by intro q; cases q)
  | q :: ml, h => by
    have next : zmfind d mid L G ml = some r → ∃ q' ∈ q :: ml, q'.2.1 = mid ∧ q'.2.2.1 = L ∧ q'.1 ≤ d ∧ q'.2.2.2.1.2 = G.2.1 ∧ q'.2.2.2.1.1 = G.1 ∧ q'.2.2.2.2 = r := fun h => by
      obtain ⟨q', h1, h2⟩ := zmfind_ok ml h
      exact ⟨q', List.mem_cons_of_mem _ h1, h2⟩
    have h0 : zif (Nat.beq q.2.1 mid) (zif (zl_eqb q.2.2.1 L) (zif (Nat.ble q.1 d) (zif (Nat.beq q.2.2.2.1.2 G.2.1) (zif (zh_eqb q.2.2.2.1.1 G.1) (some q.2.2.2.2) (zmfind d mid L G ml)) (zmfind d mid L G ml)) (zmfind d mid L G ml)) (zmfind d mid L G ml)) (zmfind d mid L G ml) = some r := h
    rcases zif_or h0 with ⟨e1, h1⟩ | ⟨-, h1⟩
    · rcases zif_or h1 with ⟨e2, h2⟩ | ⟨-, h2⟩
      · rcases zif_or h2 with ⟨e3, h3⟩ | ⟨-, h3⟩
        · rcases zif_or h3 with ⟨e4, h4⟩ | ⟨-, h4⟩
          · rcases zif_or h4 with ⟨e5, h5⟩ | ⟨-, h5⟩
            · exact ⟨q, List.mem_cons_self, zb_eq e1, zl_eqb_ok _ _ e2, zl_le e3, zb_eq e4, zh_eqb_ok e5, Option.some.inj h5⟩
            · exact next h5
          · exact next h4
        · exact next h3
      · exact next h2
    · exact next h1
theorem zFr_le {B0 Ls : Nat} {X : ZX} {mid d d0 : Nat} {p : Program} {l : Launch} {R : Room} {s : State} {m : MethodId} {args : Array Value} {meth : Method} {c : Code} (h : zFr B0 Ls X mid d p l R s m args meth c) (hd : d0 ≤ d) : zFr B0 Ls X mid d0 p l R s m args meth c :=
  ⟨h.1, h.2.1, by have := h.2.2.1; omega, by have := h.2.2.2.1; omega, h.2.2.2.2.1, h.2.2.2.2.2⟩
theorem zmem_ok {hk : ZHk} {B0 Ls : Nat} {X : ZX} {ml : List ZMm} {K : Nat → Nat → ZK} (h : zSound hk B0 Ls X K) (hm : ∀ q ∈ ml, zGoal hk B0 Ls X q.1 q.2.1 0 q.2.2.1 [] (q.2.2.2.1.1, q.2.2.2.1.2, 0, 0) q.2.2.2.2) : zSound hk B0 Ls X (zmem ml K) := by
  intro d mid pc L st G r hr
  rcases zif_or hr with ⟨e1, h1⟩ | ⟨-, h1⟩
  · cases st with
    | cons v st => exact h d mid pc L (v :: st) G r h1
    | nil =>
      have h1 : zif (Nat.beq G.2.2.1 0) (zif (Nat.beq G.2.2.2 0) (@Option.rec ZRes (fun _ => Option ZRes) (K d mid pc L [] G) (fun r => some r) (zmfind d mid L G ml)) (K d mid pc L [] G)) (K d mid pc L [] G) = some r := h1
      rcases zif_or h1 with ⟨e2, h2⟩ | ⟨-, h2⟩
      · rcases zif_or h2 with ⟨e3, h3⟩ | ⟨-, h3⟩
        · cases hq : zmfind d mid L G ml with
          | none =>
            rw [hq] at h3
            exact h d mid pc L [] G r h3
          | some r1 =>
            rw [hq] at h3
            have h9 : r1 = r := Option.some.inj h3
            obtain ⟨q, q1, q2, q3, q4, q5, q6, q7⟩ := zmfind_ok ml hq
            have k := hm q q1
            obtain ⟨g1, g2, g3, g4⟩ := G
            have e2 : g3 = 0 := zb_eq e2
            have e3 : g4 = 0 := zb_eq e3
            have q5 : q.2.2.2.1.2 = g2 := q5
            have q6 : q.2.2.2.1.1 = g1 := q6
            rw [q2, q3, q5, q6, q7, h9] at k
            rw [zb_eq e1, e2, e3]
            obtain ⟨k1, k2, k3, k4⟩ := k
            exact ⟨k1, k2, k3, fun ad0 n0 p l e R s m args below meth c Q F hRc hRs hC => k4 ad0 n0 p l e R s m args below meth c Q (zFr_le F q4) hRc hRs hC⟩
        · exact h d mid pc L [] G r h3
      · exact h d mid pc L [] G r h2
  · exact h d mid pc L st G r h1
noncomputable def zrunM (hk : ZHk) (ml : List ZMm) (N : ZN) (f : Nat) : Nat → Nat → ZK := @Nat.rec (fun _ => Nat → Nat → ZK) (fun _ _ _ _ _ _ => none) (fun _ ih => zhook hk (zmem ml (zord hk N ih))) f
/-- the checks of all rows -/
def zAll : Prop := (∀ E, E < 4 → zthk E = true) ∧ (∀ mid, mid ≤ zMN → zmok mid = true) ∧ (∀ mid, mid ≤ zMN → zmok2 mid = true) ∧ (∀ mid, mid ≤ zMN → zmok3 mid = true) ∧ ∀ md, 0 < md → md ≤ zMN → zmk md = true
theorem zrunM_ok {hk : ZHk} {ml : List ZMm} {N : ZN} {B0 Ls : Nat} {X : ZX} (hA : zAll) (hN : zNok X Ls N) (hm : ∀ q ∈ ml, zGoal hk B0 Ls X q.1 q.2.1 0 q.2.2.1 [] (q.2.2.2.1.1, q.2.2.2.1.2, 0, 0) q.2.2.2.2) : ∀ f, zSound hk B0 Ls X (zrunM hk ml N f)
  | 0 => fun d mid pc L st G r h => absurd (show (none : Option ZRes) = some r from h) (by intro q; cases q)
  | f + 1 => zhook_ok (zmem_ok (zsound hN hA.1 hA.2.1 hA.2.2.1 hA.2.2.2.1 hA.2.2.2.2 (zrunM_ok hA hN hm f)) hm)
/-- a goal proved with one cut holds with another -/
theorem zGoal_hk {hk hk' : ZHk} {B0 Ls : Nat} {X : ZX} {d mid pc : Nat} {L : ZL} {st : List ZV} {G : ZG} {r : ZRes} (h : zGoal hk B0 Ls X d mid pc L st G r) (hm : mid ≠ hk.1) : zGoal hk' B0 Ls X d mid pc L st G r := by
  obtain ⟨h1, h2, h3, h4⟩ := h
  exact ⟨h1, h2, h3, fun ad0 n0 p l e R s m args below meth c Q F hRc hRs hC => h4 ad0 n0 p l e R s m args below meth c Q F hRc hRs ⟨hC.1, hC.2.1, fun z => absurd z hm⟩⟩
/-! values as Ints; the same world under other valuations -/
def zvn (σ : Nat → Int) (v : ZV) : Int := match v.1 with
  | 0 => (nI v.2).toInt
  | 1 => (lN v.2).toInt
  | 5 => zd σ v.2
  | 8 => zd σ v.2
  | _ => 0
theorem zvn_i {X : ZX} {v : ZV} (h : zisi v = true) : zvi X v = Int32.ofInt (zvn (zsg X) v) := by
  obtain ⟨t, u⟩ := v
  rcases zisi_or h with e | e
  · have e : t = 0 := e
    subst e
    exact (Int32.ofInt_toInt _).symm
  · have e : t = 5 := e
    subst e
    rfl
theorem zvn_l {X : ZX} {v : ZV} (h : zisl v = true) : zvl X v = Int64.ofInt (zvn (zsg X) v) := by
  obtain ⟨t, u⟩ := v
  rcases zisl_or h with e | e
  · have e : t = 1 := e
    subst e
    exact (Int64.ofInt_toInt _).symm
  · have e : t = 8 := e
    subst e
    rfl
def zXS (X : ZX) (S : ZSg) : ZX := (X.1, X.2.1, X.2.2.1, X.2.2.2.1, S)
noncomputable def zvfr (v : ZV) : Bool := zif (Nat.beq v.1 5) false (zif (Nat.beq v.1 8) false true)
theorem zv_free {X : ZX} {S : ZSg} {ad : Nat → Nat} {n : Nat} {v : ZV} {w : Value} (hf : zvfr v = true) : zv (zXS X S) ad n v w ↔ zv X ad n v w := by
  obtain ⟨t, u⟩ := v
  match t, hf with
  | 0, _ => exact Iff.rfl
  | 1, _ => exact Iff.rfl
  | 2, _ => exact Iff.rfl
  | 3, _ => exact Iff.rfl
  | 4, _ => exact Iff.rfl
  | 5, hf => exact absurd (show false = true from hf) (by decide)
  | 6, _ => exact Iff.rfl
  | 7, _ => exact Iff.rfl
  | 8, hf => exact absurd (show false = true from hf) (by decide)
  | 9, _ => exact Iff.rfl
  | t + 10, _ => exact Iff.rfl
theorem zSF_shift {B0 L : Nat} {X : ZX} {S : ZSg} {s : State} (h : zSF B0 L X s) : zSF B0 L (zXS X S) s := by
  obtain ⟨h1, h2, h3, h4, h5, h6, h7, h8, h9, h10, h11, h12⟩ := h
  refine ⟨h1, fun k C n d v e => ?_, h3, h4, h5, h6, h7, h8, h9, h10, h11, h12⟩
  obtain ⟨w, a, b⟩ := h2 k C n d v e
  refine ⟨w, fun ad m => (zv_free ?_).mpr (a ad m), b⟩
  unfold zq_st at e
  split at e <;> first | (cases e; rfl) | cases e
theorem zFr_shift {B0 Ls : Nat} {X : ZX} {S : ZSg} {mid d : Nat} {p : Program} {l : Launch} {R : Room} {s : State} {m : MethodId} {args : Array Value} {meth : Method} {c : Code} (h : zFr B0 Ls X mid d p l R s m args meth c) : zFr B0 Ls (zXS X S) mid d p l R s m args meth c := by
  obtain ⟨⟨h1, h2, h3, h4, h5, h6, h7, h8, h9, h10⟩, h⟩ := h
  exact ⟨⟨h1, h2, h3, h4, h5, h6, h7, zSF_shift h8, h9, h10⟩, h⟩
theorem zW1_shift {B0 : Nat} {X : ZX} {S S' : ZSg} {ad : Nat → Nat} {G G' : ZG} {H : Heap} (hn : G'.2.1 = G.2.1) (ho : ∀ (k : Nat) (o : ZO) (e : va_E), k < G.2.1 → zt_get 10 G.1 k = some o → zob1 (zXS X S) ad G.2.1 o e → ∃ o', zt_get 10 G'.1 k = some o' ∧ zob1 (zXS X S') ad G.2.1 o' e) (h : zW1 B0 (zXS X S) ad G H) : zW1 B0 (zXS X S') ad G' H := by
  obtain ⟨ws, h1, h2, h3, h4⟩ := h
  refine ⟨ws, h1.trans hn.symm, fun k hk => ?_, h3, h4⟩
  rw [hn] at hk ⊢
  obtain ⟨o, e, a1, a2, a3⟩ := h2 k hk
  obtain ⟨o', b1, b2⟩ := ho k o e hk a1 a3
  exact ⟨o', e, b1, a2, b2⟩
/-- writes into a picture: object, slot, value -/
abbrev ZWr : Type := Nat × Nat × ZV
noncomputable def zwr : List ZWr → ZH → Option ZH := @List.rec ZWr (fun _ => ZH → Option ZH) (fun h => some h) (fun q _ ih h => zob (zt_get 10 h q.1) fun o => zob (zt_set 18 o.2.2 q.2.1 q.2.2) fun t => zob (zt_set 10 h q.1 (o.1, o.2.1, t)) fun h' => ih h')
def zwl (k j : Nat) : List ZWr → Option ZV
  | [] => none
  | q :: W => match zwl k j W with
    | some v => some v
    | none => if q.1 = k ∧ q.2.1 = j then some q.2.2 else none
def zog (o : ZO) (f : Nat → Option ZV) (o' : ZO) : Prop := o'.1 = o.1 ∧ o'.2.1 = o.2.1 ∧ ∀ j, zt_get 18 o'.2.2 j = match f j with
  | some v => some v
  | none => zt_get 18 o.2.2 j
theorem zwr_ok : ∀ (W : List ZWr) (h h' : ZH), zwr W h = some h' → ∀ (k : Nat) (o : ZO), zt_get 10 h k = some o → ∃ o', zt_get 10 h' k = some o' ∧ zog o (fun j => zwl k j W) o'
  | [], h, h', e, k, o, ho => by
    have e : some h = some h' := e
    cases e
    exact ⟨o, ho, rfl, rfl, fun _ => rfl⟩
  | q :: W, h, h', e, k, o, ho => by
    have ea : (zob (zt_get 10 h q.1) fun o => zob (zt_set 18 o.2.2 q.2.1 q.2.2) fun t => zob (zt_set 10 h q.1 (o.1, o.2.1, t)) fun h' => zwr W h') = some h' := e
    obtain ⟨o1, e1, eb⟩ := zob_some ea
    obtain ⟨t, e2, ec⟩ := zob_some eb
    obtain ⟨h1, e3, ed⟩ := zob_some ec
    by_cases hk : k = q.1
    · rw [hk] at ho ⊢
      have eo : o1 = o := Option.some.inj (e1.symm.trans ho)
      rw [eo] at e2 e3
      have g : zt_get 10 h1 q.1 = some (o.1, o.2.1, t) := by rw [zt_gs 10 _ _ _ _ _ e3, if_pos rfl]
      obtain ⟨o', k1, k2, k3, k4⟩ := zwr_ok W h1 h' ed q.1 _ g
      refine ⟨o', k1, k2, k3, fun j => ?_⟩
      rw [k4 j]
      show (match zwl q.1 j W with
        | some v => some v
        | none => zt_get 18 t j) = match (match zwl q.1 j W with
          | some v => some v
          | none => if q.1 = q.1 ∧ q.2.1 = j then some q.2.2 else none) with
        | some v => some v
        | none => zt_get 18 o.2.2 j
      cases hz : zwl q.1 j W with
      | some v => rfl
      | none =>
        show zt_get 18 t j = _
        rw [zt_gs 18 _ _ _ _ _ e2]
        by_cases hj : j = q.2.1
        · rw [if_pos hj, if_pos ⟨rfl, hj.symm⟩]
        · rw [if_neg hj, if_neg (fun z => hj z.2.symm)]
    · have g : zt_get 10 h1 k = some o := by rw [zt_gs 10 _ _ _ _ _ e3, if_neg hk]; exact ho
      obtain ⟨o', k1, k2, k3, k4⟩ := zwr_ok W h1 h' ed k o g
      refine ⟨o', k1, k2, k3, fun j => ?_⟩
      rw [k4 j]
      show (match zwl k j W with
        | some v => some v
        | none => zt_get 18 o.2.2 j) = match (match zwl k j W with
          | some v => some v
          | none => if q.1 = k ∧ q.2.1 = j then some q.2.2 else none) with
        | some v => some v
        | none => zt_get 18 o.2.2 j
      cases hz : zwl k j W with
      | some v => rfl
      | none =>
        show zt_get 18 o.2.2 j = _
        rw [if_neg (fun z => hk z.1.symm)]
/-- an object whose values speak of no symbol -/
noncomputable def zofr (o : ZO) : Bool := zif (Nat.ble o.1 99) (zt_all (fun _ v => zvfr v) 18 o.2.2 0 1) false
theorem zofr_v {o : ZO} (h : zofr o = true) {j : Nat} {v : ZV} (hv : zt_get 18 o.2.2 j = some v) : zvfr v = true := by
  obtain ⟨h1, h2⟩ := zif_and h
  exact zt_all_get 18 o.2.2 0 1 j v h2 hv
/-- objects, slot by slot: what o shows under S, o' shows under S' -/
theorem zob1_by {X : ZX} {S S' : ZSg} {ad : Nat → Nat} {n : Nat} {o o' : ZO} {e : va_E} (hk : o.1 < 100) (h1 : o'.1 = o.1) (h2 : o'.2.1 = o.2.1)
    (h3 : ∀ (j : Nat) (v : ZV) (w : Value), zt_get 18 o.2.2 j = some v → zv (zXS X S) ad n v w → ∃ v', zt_get 18 o'.2.2 j = some v' ∧ zv (zXS X S') ad n v' w) (h4 : ∀ j, zt_get 18 o.2.2 j = none → zt_get 18 o'.2.2 j = none) (h : zob1 (zXS X S) ad n o e) : zob1 (zXS X S') ad n o' e := by
  have h := zob0_of h (by omega)
  refine Or.inl ?_
  have arr : ∀ (j : Nat) (d : ZV) (w : Value), zvfr d = true → zv (zXS X S) ad n ((zt_get 18 o.2.2 j).getD d) w → zv (zXS X S') ad n ((zt_get 18 o'.2.2 j).getD d) w := by
    intro j d w hd hw
    cases hj : zt_get 18 o.2.2 j with
    | none =>
      rw [hj] at hw
      rw [h4 j hj]
      exact (zv_free hd).mpr ((zv_free hd).mp hw)
    | some v =>
      rw [hj] at hw
      obtain ⟨v', k1, k2⟩ := h3 j v w hj hw
      rw [k1]
      exact k2
  rcases h with ⟨a1, a2, fs, a3, a4, a5⟩ | ⟨a1, a2, a3, f, a4, a5⟩ | ⟨a1, f, a4, a5⟩ | ⟨a1, a3, f, a4, a5⟩
  · refine Or.inl ⟨by rw [h1]; exact a1, by rw [h1, h2]; exact a2, fs, by rw [h1]; exact a3, by rw [h2]; exact a4, fun k hk => ?_⟩
    rw [h2] at hk
    obtain ⟨v, w, b1, b2, b3⟩ := a5 k hk
    obtain ⟨v', k1, k2⟩ := h3 k v w b1 b3
    exact ⟨v', w, k1, b2, k2⟩
  · refine Or.inr (Or.inl ⟨by rw [h1]; exact a1, by rw [h1]; exact a2, by rw [h1]; exact a3, f, by rw [h1, h2]; exact a4, fun j hj => ?_⟩)
    rw [h2] at hj
    exact arr j (0, 0) _ rfl (a5 j hj)
  · refine Or.inr (Or.inr (Or.inl ⟨by rw [h1]; exact a1, f, by rw [h1, h2]; exact a4, fun j hj => ?_⟩))
    rw [h2] at hj
    exact arr j (1, 0) _ rfl (a5 j hj)
  · refine Or.inr (Or.inr (Or.inr ⟨by rw [h1]; exact a1, by rw [h1]; exact a3, f, by rw [h1, h2]; exact a4, fun j hj => ?_⟩))
    rw [h2] at hj
    exact arr j (2, 0) _ rfl (a5 j hj)
