/-! The interpreter: a method at a time, and what its answer says of the machine. -/
noncomputable def znth (l : List Nat) : Nat → Option Nat := @List.rec Nat (fun _ => Nat → Option Nat) (fun _ => none) (fun v _ ih i => @Nat.rec (fun _ => Option Nat) (some v) (fun j _ => ih j) i) l
theorem znth_eq : ∀ (l : List Nat) (i : Nat), znth l i = l[i]?
  | [], i => by
    show (none : Option Nat) = _
    simp
  | a :: l, 0 => rfl
  | a :: l, i + 1 => by
    rw [List.getElem?_cons_succ]
    exact znth_eq l i
noncomputable def zo_tsw (N : ZN) (k : ZK) (lo df : Nat) (ts : List Nat) (L : ZL) (st : List ZV) (G : ZG) : Option ZRes := match st with
  | x :: r => zob (ziv N x) fun a => zif (Nat.beq a.1 a.2)
      (zif (Nat.ble (Nat.add lo 2147483648) a.1) (@Option.rec Nat (fun _ => Option ZRes) (k df L r G) (fun t => k t L r G) (znth ts (Nat.sub a.1 (Nat.add lo 2147483648)))) (k df L r G))
      (zif (Nat.ble (Nat.succ a.2) (Nat.add lo 2147483648)) (k df L r G) (zif (Nat.ble (Nat.add (Nat.add lo 2147483648) ts.length) a.1) (k df L r G) none))
  | [] => none
/-- how a thrown E leaves the place pc: none: not decided; some none: not caught here; some (some h): at h -/
noncomputable def zfind (E pc : Nat) : List ((Nat × Nat × Nat × Nat) × Nat × Nat) → Option (Option Nat) :=
  @List.rec ((Nat × Nat × Nat × Nat) × Nat × Nat) (fun _ => Option (Option Nat)) (some none) fun q _ ih =>
    zif (Nat.ble q.1.1 pc) (zif (Nat.ble (Nat.succ pc) q.1.2.1) (zif (Nat.beq q.2.1 E) (some (some q.1.2.2.1)) (zif (zq_nc.any fun z => Nat.beq z.1 E && Nat.beq z.2 q.2.1) ih none)) ih) ih
noncomputable def zhand (mid E pc : Nat) : Option (Option Nat) := zif (Nat.beq mid 0) none (@Option.rec _ (fun _ => Option (Option Nat)) (some none) (fun l => zfind E pc l) (zm_hx mid))
noncomputable def zstf (form : Nat) : Bool := zif (Nat.beq form 1) true (Nat.beq form 5)
noncomputable def zrecv (form ci : Nat) (as : List ZV) (G : ZG) : Bool := zif (zstf form) true (match as with
  | o :: _ => zif (Nat.beq o.1 3) (zif (Nat.beq form 2) true (zif (Nat.beq form 3) true (@Option.rec ZO (fun _ => Bool) false (fun ob => zif (Nat.ble ob.1 49) (Nat.beq ob.1 ci) false) (zt_get 10 G.1 o.2))))
      (zif (Nat.beq form 0) (zif (Nat.beq o.1 4) (zif (Nat.beq ci 100) (@Option.rec Nat (fun _ => Bool) false (fun _ => true) (zq_xs o.2)) false) false) false)
  | [] => false)
noncomputable def zshort (L : ZL) : Nat → Bool := @List.rec (Option ZV) (fun _ => Nat → Bool) (fun _ => true) (fun _ _ ih n => @Nat.rec (fun _ => Bool) false (fun m _ => ih m) n) L
theorem zshort_ok : ∀ (L : ZL) (n : Nat), zshort L n = true → L.length ≤ n
  | [], n, _ => Nat.zero_le _
  | a :: L, 0, h => by
    have h : false = true := h
    cases h
  | a :: L, n + 1, h => Nat.succ_le_succ (zshort_ok L n h)
/-- where a run is cut: a method's place, and what the locals are there -/
abbrev ZHk : Type := Nat × Nat × ZL
noncomputable def zcall (hk : ZHk) (ih : Nat → Nat → ZK) (d mid pc nx md form : Nat) (L : ZL) (st : List ZV) (G : ZG) : Option ZRes :=
  zif (Nat.beq md hk.1) none <| zob (zpop (zif (zstf form) (zm_nfo md).2.1 (Nat.succ (zm_nfo md).2.1)) st []) fun ar =>
    zif (zrecv form (zm_nfo md).2.2 ar.1 G) (zif (Nat.ble (zcats ar.2) 8) (zif (zshort (zex ar.1) (zm_nfo md).1)
      (@Nat.rec (fun _ => Option ZRes) none (fun d' _ =>
        zob (ih d' md 0 (zapp (zex ar.1) (znone (zm_nfo md).1)) [] (G.1, G.2.1, 0, 0)) fun r =>
          @Nat.rec (fun _ => Option ZRes)
            (ih d mid nx L (@Option.rec ZV (fun _ => List ZV) ar.2 (fun v => v :: ar.2) r.2.1) (r.2.2.1, r.2.2.2.1, Nat.add G.2.2.1 r.2.2.2.2.1, Nat.add G.2.2.2 r.2.2.2.2.2))
            (fun E _ => zif (Nat.ble E 7) (zif (zif (Nat.beq form 0) true (Nat.beq form 4)) (zif (@Option.rec _ (fun _ => Bool) true (fun _ => false) (zm_hx md))
              (zob (zhand mid E pc) fun o => @Option.rec Nat (fun _ => Option ZRes) (some (Nat.succ E, none, (r.2.2.1, r.2.2.2.1, Nat.add G.2.2.1 r.2.2.2.2.1, Nat.add G.2.2.2 r.2.2.2.2.2)))
                (fun h => ih d mid h L [(7, 0)] (r.2.2.1, r.2.2.2.1, Nat.add G.2.2.1 r.2.2.2.2.1, Nat.add G.2.2.2 r.2.2.2.2.2)) o) none) none) none) r.1) d) none) none) none
noncomputable def zo_ret (kd rty : Nat) (st : List ZV) (G : ZG) : Option ZRes := match kd, st with
  | 0, [] => some (0, none, G)
  | 1, [v] => zif (zrk rty v) (some (0, some v, G)) none
  | 2, [v] => zif (zlong v) (some (0, some v, G)) none
  | 3, [v] => zif (zref v) (some (0, some v, G)) none
  | _, _ => none
noncomputable def zo_thr (mid E : Nat) (st : List ZV) (G : ZG) : Option ZRes := zif (Nat.beq mid 0) none <| zif (Nat.ble (zcats st) 8) (@Option.rec _ (fun _ => Option ZRes) (some (Nat.succ E, none, (G.1, G.2.1, Nat.succ G.2.2.1, Nat.add G.2.2.2 6))) (fun _ => none) (zm_hx mid)) none
noncomputable def zg3 (hk : ZHk) (N : ZN) (ih : Nat → Nat → ZK) (d mid pc op nx : Nat) (a : List Nat) (L : ZL) (st : List ZV) (G : ZG) : Option ZRes :=
  zif (Nat.ble op 25)
    (zif (Nat.beq op 24) (match a with
      | lo :: df :: ts => zo_tsw N (ih d mid) lo df ts L st G
      | _ => none) (zif (Nat.beq op 25) (match a with
      | [md, form, _, _] => zcall hk ih d mid pc nx md form L st G
      | _ => none) none))
    (zif (Nat.beq op 26) (match a with
      | [kd, rty] => zo_ret kd rty st G
      | _ => none) (zif (Nat.beq op 27) (match a with
      | [E, _, _, _, _, _] => zo_thr mid E st G
      | _ => none) none))
noncomputable def zstep (hk : ZHk) (N : ZN) (ih : Nat → Nat → ZK) (d mid pc op nx : Nat) (a : List Nat) (L : ZL) (st : List ZV) (G : ZG) : Option ZRes :=
  zif (Nat.ble op 15) (zif (Nat.ble op 7) (zg0 N (ih d mid) op nx a L st G) (zg1 N (ih d mid) op nx a L st G))
    (zif (Nat.ble op 23) (zg2 N (ih d mid) op nx a L st G) (zif (Nat.ble op 27) (zg3 hk N ih d mid pc op nx a L st G) (zg4 N (ih d mid) op nx a L st G)))
/-! what a frame is, and what its end owes -/
noncomputable def zht (mid : Nat) : List ExceptionTableEntry := match zm_hx mid with
  | none => []
  | some l => tableOf (l.map fun q => q.1)
def zFr (B0 Ls : Nat) (X : ZX) (mid d : Nat) (p : Program) (l : Launch) (R : Room) (s : State) (m : MethodId) (args : Array Value) (meth : Method) (c : Code) : Prop :=
  zF B0 Ls X p l s m args meth c (zm_y mid).cls (zm_cc mid) (zm_nfo mid).1 ∧ ((zm_y mid).name = "<init>" → meth.name = "<init>") ∧ d + 8 ≤ R.frames ∧ 64 * d + 400 ≤ R.locals ∧ (mid ≠ 0 → c.exceptionTable.toList = zht mid) ∧ meth.sig.returnType = zm_ret mid
def zrst (r : Option ZV) : List ZV := match r with
  | none => []
  | some v => [v]
def zrsk (kd rty : Nat) (r : Option ZV) : Bool := match kd, r with
  | 0, none => true
  | 1, some v => zrk rty v
  | 2, some v => zlong v
  | 3, some v => zref v
  | _, _ => false
def zUnc (own : String) (s : State) (args : Array Value) (c : Code) (E pc : Nat) : Prop := ∀ z ∈ c.exceptionTable.toList, covers z pc = false ∨ (z.catchType ≠ 0 ∧ ∃ nm : String, (Cond.classLink own z.catchType nm).before args s = true ∧ va_Nc (zq_ex E) nm s)
def zHx (B0 : Nat) (X : ZX) (ad0 : Nat → Nat) (n0 : Nat) (p : Program) (l : Launch) (e : Env) (R : Room) (s : State) (m : MethodId) (args : Array Value) (below : List Frame) (meth : Method) (c : Code) (Q : State → Prop) (nL : Nat) (E pc : Nat) (L : ZL) (st : List ZV) (G : ZG) : Prop :=
  ∀ (ad : Nat → Nat), zAg ad0 n0 ad G.2.1 → ∀ (H : Heap) (locs : List Loc) (ls : Array Slot) (sv : List Value) (q9 : Addr) (ce : Cell), zW1 B0 X ad G H → va_S (zA B0) s.heap H locs → zLc X ad G.2.1 ls nL L → zSt (zv X ad G.2.1) st sv → H[q9]? = some ce → ce.vm = .none → s.vm.findClass (zq_ex E) = some ce.cls →
    vx_W p l e R s m args below meth c H locs G.2.2.1 G.2.2.2 Q (F0 m pc ls sv) q9
def zCont (hk : ZHk) (B0 : Nat) (X : ZX) (mid : Nat) (ad0 : Nat → Nat) (n0 : Nat) (p : Program) (l : Launch) (e : Env) (R : Room) (s : State) (m : MethodId) (args : Array Value) (below : List Frame) (meth : Method) (c : Code) (Q : State → Prop) (r : ZRes) : Prop :=
  (r.1 = 0 → ∀ (pcR : Nat) (L' : ZL) (kd rty : Nat), zc_ret (zm_cc mid) (zm_ret mid) pcR kd rty = true → zrsk kd rty r.2.1 = true → zHd B0 X ad0 n0 p l e R s m args below meth c Q (zm_nfo mid).1 pcR L' (zrst r.2.1) r.2.2) ∧
  (mid ≠ 0 → ∀ E, E < 8 → r.1 = E + 1 →
    (∀ (pcT : Nat) (L' : ZL) (st' : List ZV) (G0 : ZG) (ik ic p1 p2 p3 : Nat), zc_thr (zm_y mid).cls (zm_cc mid) pcT E ik ic p1 p2 p3 = true → zm_hx mid = none → Nat.ble (zcats st') 8 = true → r.2.2 = (G0.1, G0.2.1, G0.2.2.1 + 1, G0.2.2.2 + 6) → zHd B0 X ad0 n0 p l e R s m args below meth c Q (zm_nfo mid).1 pcT L' st' G0) ∧
    (∀ (pcC : Nat) (L' : ZL) (st' : List ZV), zUnc (zm_y mid).cls s args c E pcC → zHx B0 X ad0 n0 p l e R s m args below meth c Q (zm_nfo mid).1 E pcC L' st' r.2.2)) ∧
  (mid = hk.1 → r.1 = 7777778 → zHd B0 X ad0 n0 p l e R s m args below meth c Q (zm_nfo mid).1 hk.2.1 hk.2.2 [] r.2.2)
def zSound (hk : ZHk) (B0 Ls : Nat) (X : ZX) (K : Nat → Nat → ZK) : Prop := ∀ (d mid pc : Nat) (L : ZL) (st : List ZV) (G : ZG) (r : ZRes), K d mid pc L st G = some r →
  G.2.1 ≤ r.2.2.2.1 ∧ G.2.2.1 ≤ r.2.2.2.2.1 ∧ G.2.2.2 ≤ r.2.2.2.2.2 ∧
  ∀ (ad0 : Nat → Nat) (n0 : Nat) (p : Program) (l : Launch) (e : Env) (R : Room) (s : State) (m : MethodId) (args : Array Value) (below : List Frame) (meth : Method) (c : Code) (Q : State → Prop),
    zFr B0 Ls X mid d p l R s m args meth c → r.2.2.2.2.1 ≤ R.cells → r.2.2.2.2.2 ≤ R.slots → zCont hk B0 X mid ad0 n0 p l e R s m args below meth c Q r → zHd B0 X ad0 n0 p l e R s m args below meth c Q (zm_nfo mid).1 pc L st G
/-! the checks of a method: its rows, its words as a callee -/
noncomputable def zini (mid : Nat) : Bool := decide ((zm_y mid).name = "<init>")
noncomputable def zmok (mid : Nat) : Bool := zt_all (fun pc en => zchk (zm_y mid).cls (zm_cc mid) (zm_nfo mid).1 (zini mid) (zm_ret mid) pc en) 12 (zm_code mid) 0 1
noncomputable def zmk_hd (mid nL : Nat) : Cond := match zm_hx mid with
  | none => .code (zm_y mid) (zm_cc mid) nL (zm_ret mid)
  | some l => .codeWith (zm_y mid) (zm_cc mid) nL (zm_ret mid) (l.map fun q => q.1)
noncomputable def zmk (mid : Nat) : Bool :=
  decide ((zm_nfo mid).1 ≤ 45 ∧ (parseMethodDescriptor (zm_y mid).desc).map (fun d => d.parameters.length) = some (zm_nfo mid).2.1 ∧ (zm_y mid).cls ≠ "java/lang/invoke/MethodHandle" ∧ (zm_y mid).cls ≠ "java/lang/invoke/VarHandle") &&
  (match zm_hx mid with
    | none => plainFor (zm_y mid)
    | some l => plainName (zm_y mid).cls && l.all fun q => decide (q.1.2.2.2 ≠ 0) && zwx q.2.2 (.classLink (zm_y mid).cls q.1.2.2.2 (zq_ex q.2.1))) &&
  zwk (zm_pos mid).1 (zmk_hd mid (zm_nfo mid).1) && zwk (zm_pos mid).2.2.2 (.initialized (zm_y mid).cls) &&
  (match (zm_nfo mid).2.2 with
    | 200 => zwk (zm_pos mid).2.1 (.static (zm_y mid))
    | ci => zwk (zm_pos mid).2.1 (.instanceMethod (zm_y mid)) && (zini mid || (zwk (zm_pos mid).2.2.1 (.selects (zm_y mid).cls (zm_y mid) (zm_y mid)) && (match ci with
      | 100 => decide ((zm_y mid).cls = "java/lang/String")
      | ci => decide ((zcl[ci]?).map (fun q => q.1) = some (zm_y mid).cls)))))
