/-! One row of code: its check against the bytecode and the tables, and what it does to the picture. -/
def zrk (rty : Nat) (v : ZV) : Bool := match rty with
  | 0 => zint v
  | 1 => Nat.beq v.1 0 && Nat.ble v.2 1
  | 2 => Nat.beq v.1 0 && Nat.ble v.2 65535
  | 3 => Nat.beq v.1 0 && Nat.ble v.2 127
  | _ => false
def zrt (rty : Nat) : FieldType := match rty with
  | 0 => .int
  | 1 => .boolean
  | 2 => .char
  | _ => .byte
def zrefty (t : Option FieldType) : Bool := match t with
  | some (.object _) => true
  | some (.array _) => true
  | _ => false
def zc_ret (cc : ByteArray) (ret : Option FieldType) (pc kd rty : Nat) : Bool := match kd with
  | 0 => decide (decode cc pc = .ok (.return_, 1) ∧ ret = none)
  | 1 => decide (decode cc pc = .ok (.ireturn, 1) ∧ ret = some (zrt rty) ∧ rty < 4)
  | 2 => decide (decode cc pc = .ok (.lreturn, 1) ∧ ret = some .long)
  | 3 => decide (decode cc pc = .ok (.areturn, 1)) && zrefty ret
  | _ => false
/-- forms: 0 virtual, 1 static, 2 a constructor, 3 a nest mate's constructor, 4 a nest mate's private method, 5 a nest mate's static one -/
def zcallI (form idx : Nat) : Instr := match form with
  | 0 => .invokevirtual idx
  | 1 => .invokestatic idx
  | 2 => .invokespecial idx
  | 3 => .invokespecial idx
  | 4 => .invokevirtual idx
  | _ => .invokestatic idx
noncomputable def zc_call (own : String) (cc : ByteArray) (pc nx md form idx pos : Nat) : Bool := decide (nx = pc + 3 ∧ form < 6 ∧ decode cc pc = .ok (zcallI form idx, 3)) && (match form with
  | 3 => zwx pos (.methodLinkNest own idx (zm_y md) "SchemaPascal")
  | 4 => zwx pos (.methodLinkNest own idx (zm_y md) "SchemaPascal")
  | 5 => zwx pos (.methodLinkNest own idx (zm_y md) "SchemaPascal")
  | _ => zwk pos (.methodLink own idx (zm_y md)))
def zxnames : List String := ["java/lang/RuntimeException", "java/lang/Exception"]
def zc_thr (own : String) (cc : ByteArray) (pc E ik ic p1 p2 p3 : Nat) : Bool :=
  decide (E < 4 ∧ decode cc pc = .ok (.new ik, 3) ∧ decode cc (pc + 3) = .ok (.dup, 1) ∧ decode cc (pc + 4) = .ok (.invokespecial ic, 3) ∧ decode cc (pc + 7) = .ok (.athrow, 1)) && zwk p1 (.classLink own ik (zq_ex E)) && zwk p2 (.methodLink own ic (Bundle.init0 (zq_ex E))) && zwk p3 (.initialized (zq_ex E))
/-- a switch by keys: key, target, key, target .. -/
def zprs : List Nat → List (Nat × Nat)
  | a :: b :: r => (a, b) :: zprs r
  | _ => []
def zlsp (pc : Nat) (q : Nat × Nat) : Int × Int := (zs32 q.1, (q.2 : Int) - (pc : Int))
def zc_lsw (cc : ByteArray) (pc nx df : Nat) (ps : List Nat) : Bool := decide (decode cc pc = .ok (.lookupswitch ((df : Int) - pc) ((zprs ps).map (zlsp pc)).toArray, nx - pc)) && (zprs ps).all (fun q => decide (q.1 < 4294967296)) &&
  ((((zprs ps).map (zlsp pc)).zip (((zprs ps).map (zlsp pc)).drop 1)).all (fun (a, next) => a.1 < next.1))
noncomputable def zlsw (u df : Nat) (l : List (Nat × Nat)) : Nat := @List.rec (Nat × Nat) (fun _ => Nat) df (fun q _ ih => zif (Nat.beq q.1 u) q.2 ih) l
theorem zs32_eq {a u : Nat} (ha : a < 4294967296) (hu : u < 4294967296) : zs32 a = (nI u).toInt ↔ a = u := by
  rw [znI_toInt]
  unfold zs32
  simp only [Int.bmod_def]
  split <;> omega
theorem zlsw_ok {pc u df : Nat} (hu : u < 4294967296) : ∀ l : List (Nat × Nat), (∀ q ∈ l, q.1 < 4294967296) → (pc : Int) + Op.lookupswitch.offset (l.map (zlsp pc)) ((df : Int) - pc) (nI u).toInt = ((zlsw u df l : Nat) : Int)
  | [], _ => by
    show (pc : Int) + ((df : Int) - pc) = (df : Int)
    omega
  | q :: l, h => by
    have ih := zlsw_ok (pc := pc) (df := df) hu l (fun z hz => h z (List.mem_cons_of_mem _ hz))
    have hq := h q List.mem_cons_self
    rw [List.map_cons, show zlsp pc q = (zs32 q.1, (q.2 : Int) - (pc : Int)) from rfl, Op.lookupswitch.offset_cons]
    show _ = ((zif (Nat.beq q.1 u) q.2 (zlsw u df l) : Nat) : Int)
    by_cases e : q.1 = u
    · rw [if_pos ((zs32_eq hq hu).mpr e), zb_t e]
      show (pc : Int) + ((q.2 : Int) - pc) = (q.2 : Int)
      omega
    · rw [if_neg (fun z => e ((zs32_eq hq hu).mp z)), zb_f e]
      exact ih
noncomputable def zchk (own : String) (cc : ByteArray) (nL : Nat) (ini : Bool) (ret : Option FieldType) (pc : Nat) (en : ZE) : Bool := match en with
  | (0, nx, [t, u, f, i, q]) => zc_push own cc pc nx t u f i q
  | (1, nx, [i, kd, f]) => zc_load cc pc nx i kd f
  | (2, nx, [i, kd, f]) => zc_store cc nL pc nx i kd f
  | (3, nx, [i, u]) => zc_iinc cc nL pc nx i u
  | (4, nx, [kd]) => decide (nx = pc + 1 ∧ decode cc pc = .ok (zibI kd, 1))
  | (5, nx, [kd]) => decide (nx = pc + 1 ∧ decode cc pc = .ok (zunI kd, 1))
  | (6, nx, []) => decide (nx = pc + 1 ∧ decode cc pc = .ok (.lcmp, 1))
  | (7, nx, [cnd, tgt]) => decide (nx = pc + 3 ∧ cnd ≤ 5 ∧ decode cc pc = .ok (.ifCond (zrelI cnd) ((tgt : Int) - pc), 3))
  | (8, nx, [cnd, tgt]) => decide (nx = pc + 3 ∧ cnd ≤ 5 ∧ decode cc pc = .ok (.if_icmp (zrelI cnd) ((tgt : Int) - pc), 3))
  | (9, _, [tgt]) => decide (decode cc pc = .ok (.goto ((tgt : Int) - pc), 3))
  | (10, nx, [kd, tgt]) => decide (nx = pc + 3 ∧ kd < 2 ∧ decode cc pc = .ok (znulI kd ((tgt : Int) - pc), 3))
  | (11, nx, [kd]) => decide (nx = pc + 1 ∧ decode cc pc = .ok (zstI kd, 1))
  | (12, nx, [ci, kf, idx, fl, p, p2]) => zc_getf own cc pc nx ci kf idx fl p p2
  | (13, nx, [w, idx, p]) => zc_getx own cc pc nx w idx p
  | (14, nx, [ci, kf, tk, idx, fl, p, p2]) => zc_putf own cc pc nx ci kf tk idx fl p p2 && (ini || decide (fl ≠ 3))
  | (15, nx, [t, u, sid, idx, fl, p]) => zc_gets own cc pc nx t u sid idx fl p
  | (16, nx, []) => decide (nx = pc + 1 ∧ decode cc pc = .ok (.arraylength, 1))
  | (17, nx, [lt]) => decide (nx = pc + 1 ∧ decode cc pc = .ok (zalI lt, 1))
  | (18, nx, [lt]) => decide (nx = pc + 1 ∧ decode cc pc = .ok (zasI lt, 1))
  | (19, nx, [ci, n, idx, p]) => zc_new own cc pc nx ci idx p && decide ((zcl[ci]?).map (fun q => q.2.2) = some n)
  | (20, nx, [κ, p]) => decide (nx = pc + 2 ∧ decode cc pc = .ok (zatI κ, 2)) && zatk κ && zwx p (.arrayClass (zty κ))
  | (21, nx, [κ, idx, p, p2]) => decide (nx = pc + 3 ∧ 70 ≤ κ ∧ κ ∈ zcodes ∧ decode cc pc = .ok (.anewarray idx, 3)) && zwx p (.classLink own idx (zcn κ)) && zwx p2 (.arrayOver (.object (zcn κ)))
  | (22, nx, [kd, tgt]) => decide (nx = pc + 3 ∧ kd < 2 ∧ decode cc pc = .ok (zacI kd ((tgt : Int) - pc), 3))
  | (23, nx, [idx, p, p2, p3]) => decide (nx = pc + 3 ∧ decode cc pc = .ok (.invokespecial idx, 3)) && zwx p (.methodLink own idx Lib.objectInit) && zwx p2 (.instanceMethod Lib.objectInit) && zwx p3 (.code Lib.objectInit ⟨#[0xb1]⟩ 1 none)
  | (24, nx, lo :: df :: ts) => decide (lo < 2147483648 ∧ ts.length < 1000 ∧ decode cc pc = .ok (.tableswitch ((df : Int) - pc) (lo : Int) ((lo : Int) + ts.length - 1) (List.map (fun t : Nat => (t : Int) - (pc : Int)) ts).toArray, nx - pc))
  | (25, nx, [md, form, idx, p]) => zc_call own cc pc nx md form idx p
  | (26, _, [kd, rty]) => zc_ret cc ret pc kd rty
  | (27, _, [E, ik, ic, p, p2, p3]) => zc_thr own cc pc E ik ic p p2 p3
  | (28, nx, [kd]) => decide (nx = pc + 1 ∧ decode cc pc = .ok (zlbI kd, 1))
  | (29, nx, [idx, p1, p2, p3, p4, p5]) => decide (nx = pc + 3 ∧ decode cc pc = .ok (.invokevirtual idx, 3)) && zwx p1 (.methodLink own idx zgcn) && zwx p2 (.declares zgcn) && zwx p3 (.selects "[Ljava/lang/Object;" zgcn zgcn) && zwx p4 (.instanceMethod zgcn) && zwx p5 (.native zgcn)
  | (30, nx, [idx, p]) => decide (nx = pc + 2 ∧ decode cc pc = .ok (.ldc idx, 2)) && zwx p (.classLink own idx "[Ljava/lang/Object;")
  | (31, nx, [ct, idx, p]) => decide (nx = pc + 3 ∧ (ct < zcl.length ∨ ct = 70) ∧ decode cc pc = .ok (.checkcast idx, 3)) && zwx p (.classLink own idx (zctn ct))
  | (32, nx, [idx, p1, p2, p3, p4]) => decide (nx = pc + 3 ∧ decode cc pc = .ok (.invokestatic idx, 3)) && zwx p1 (.methodLink own idx arraycopyName) && zwx p2 (.native arraycopyName) && zwx p3 (.static arraycopyName) && zwx p4 (.initialized "java/lang/System")
  | (33, nx, df :: ps) => zc_lsw cc pc nx df ps
  | _ => false
def zStep (B0 Ls : Nat) (X : ZX) (own : String) (cc : ByteArray) (nL : Nat) (ini : Bool) (k : ZK) (r : ZRes) (pc : Nat) (L : ZL) (st : List ZV) (G : ZG) : Prop :=
  ∃ (pc' : Nat) (L' : ZL) (st' : List ZV) (G' : ZG), k pc' L' st' G' = some r ∧ G.2.1 ≤ G'.2.1 ∧ G.2.2.1 ≤ G'.2.2.1 ∧ G.2.2.2 ≤ G'.2.2.2 ∧
  ∀ (ad0 : Nat → Nat) (n0 : Nat) (p : Program) (l : Launch) (e : Env) (R : Room) (s : State) (m : MethodId) (args : Array Value) (below : List Frame) (meth : Method) (c : Code) (Q : State → Prop),
    zF B0 Ls X p l s m args meth c own cc nL → (ini = true → meth.name = "<init>") → 8 ≤ R.frames → 400 ≤ R.locals → G'.2.2.1 ≤ R.cells → G'.2.2.2 ≤ R.slots →
    zHd B0 X ad0 n0 p l e R s m args below meth c Q nL pc' L' st' G' → zHd B0 X ad0 n0 p l e R s m args below meth c Q nL pc L st G
section ZS
variable {B0 Ls : Nat} {X : ZX} {own : String} {cc : ByteArray} {nL : Nat} {ini : Bool} {ret : Option FieldType} {N : ZN} {k : ZK} {r : ZRes} {pc nx op : Nat} {a : List Nat} {L : ZL} {st : List ZV} {G : ZG}
theorem zst_same {pc' : Nat} {L' : ZL} {st' : List ZV} (hk : k pc' L' st' G = some r) (hs : ∀ (ad0 : Nat → Nat) (n0 : Nat) (p : Program) (l : Launch) (e : Env) (R : Room) (s : State) (m : MethodId) (args : Array Value) (below : List Frame) (meth : Method) (c : Code) (Q : State → Prop),
    zF B0 Ls X p l s m args meth c own cc nL → 8 ≤ R.frames → 400 ≤ R.locals → zHd B0 X ad0 n0 p l e R s m args below meth c Q nL pc' L' st' G → zHd B0 X ad0 n0 p l e R s m args below meth c Q nL pc L st G) : zStep B0 Ls X own cc nL ini k r pc L st G :=
  ⟨pc', L', st', G, hk, Nat.le_refl _, Nat.le_refl _, Nat.le_refl _, fun ad0 n0 p l e R s m args below meth c Q F _ h1 h2 _ _ h => hs ad0 n0 p l e R s m args below meth c Q F h1 h2 h⟩
noncomputable def zg0 (N : ZN) (k : ZK) (op nx : Nat) (a : List Nat) (L : ZL) (st : List ZV) (G : ZG) : Option ZRes :=
  zif (Nat.ble op 3)
    (zif (Nat.ble op 1)
      (zif (Nat.beq op 0) (match a with
        | [t, u, _, _, _] => k nx L ((t, u) :: st) G
        | _ => none) (match a with
        | [i, kd, _] => zo_load k nx i kd L st G
        | _ => none))
      (zif (Nat.beq op 2) (match a with
        | [i, kd, _] => zo_store k nx i kd L st G
        | _ => none) (match a with
        | [i, u] => zo_iinc k nx i u L st G
        | _ => none)))
    (zif (Nat.ble op 5)
      (zif (Nat.beq op 4) (match a with
        | [kd] => zo_ibin N k nx kd L st G
        | _ => none) (match a with
        | [kd] => zo_un N k nx kd L st G
        | _ => none))
      (zif (Nat.beq op 6) (match a with
        | [] => zo_lcmp N k nx L st G
        | _ => none) (match a with
        | [cnd, tgt] => zo_if N k nx cnd tgt L st G
        | _ => none)))
theorem zg0_ok (hN : zNok X Ls N) (h7 : op ≤ 7) (h : zg0 N k op nx a L st G = some r) (hc : zchk own cc nL ini ret pc (op, nx, a) = true) : zStep B0 Ls X own cc nL ini k r pc L st G := by
  unfold zg0 at h
  rcases zif_or h with ⟨e1, h1⟩ | ⟨e1, h1⟩
  · have e1 := zl_le e1
    rcases zif_or h1 with ⟨e2, h2⟩ | ⟨e2, h2⟩
    · have e2 := zl_le e2
      rcases zif_or h2 with ⟨e3, h3⟩ | ⟨e3, h3⟩
      · obtain rfl := zb_eq e3
        split at h3
        · exact zst_same h3 fun ad0 n0 p l e R s m args below meth c Q F _ _ hh => zs_push F hc hh
        · cases h3
      · obtain rfl : op = 1 := by have := zb_ne e3; omega
        split at h3
        · obtain ⟨v, g1, g2⟩ := zob_some h3
          obtain ⟨g3, g4⟩ := zif_some g2
          exact zst_same g4 fun ad0 n0 p l e R s m args below meth c Q F _ _ hh => zs_load F hc g1 g3 hh
        · cases h3
    · have e2 := zl_nle e2
      rcases zif_or h2 with ⟨e3, h3⟩ | ⟨e3, h3⟩
      · obtain rfl := zb_eq e3
        split at h3
        · unfold zo_store at h3
          split at h3
          · obtain ⟨g3, g4⟩ := zif_some h3
            obtain ⟨g5, g6⟩ := zif_some g4
            exact zst_same g6 fun ad0 n0 p l e R s m args below meth c Q F _ _ hh => zs_store F hc g3 g5 hh
          · cases h3
        · cases h3
      · obtain rfl : op = 3 := by have := zb_ne e3; omega
        split at h3
        · obtain ⟨v, g1, g2⟩ := zob_some h3
          obtain ⟨v', g3, g4⟩ := zob_some g2
          obtain ⟨g5, g6⟩ := zif_some g4
          exact zst_same g6 fun ad0 n0 p l e R s m args below meth c Q F _ _ hh => zs_iinc F hc g1 g3 g5 hh
        · cases h3
  · have e1 := zl_nle e1
    rcases zif_or h1 with ⟨e2, h2⟩ | ⟨e2, h2⟩
    · have e2 := zl_le e2
      rcases zif_or h2 with ⟨e3, h3⟩ | ⟨e3, h3⟩
      · obtain rfl := zb_eq e3
        split at h3
        · unfold zo_ibin at h3
          split at h3
          · obtain ⟨v, g1, g2⟩ := zob_some h3
            exact zst_same g2 fun ad0 n0 p l e R s m args below meth c Q F _ _ hh => zs_ibin F hN hc g1 hh
          · cases h3
        · cases h3
      · obtain rfl : op = 5 := by have := zb_ne e3; omega
        split at h3
        · unfold zo_un at h3
          split at h3
          · obtain ⟨v, g1, g2⟩ := zob_some h3
            exact zst_same g2 fun ad0 n0 p l e R s m args below meth c Q F _ _ hh => zs_un F hN hc g1 hh
          · cases h3
        · cases h3
    · have e2 := zl_nle e2
      rcases zif_or h2 with ⟨e3, h3⟩ | ⟨e3, h3⟩
      · obtain rfl := zb_eq e3
        split at h3
        · unfold zo_lcmp at h3
          split at h3
          · obtain ⟨v, g1, g2⟩ := zob_some h3
            exact zst_same g2 fun ad0 n0 p l e R s m args below meth c Q F _ _ hh => zs_lcmp F hN hc g1 hh
          · cases h3
        · cases h3
      · obtain rfl : op = 7 := by have := zb_ne e3; omega
        split at h3
        · unfold zo_if at h3
          split at h3
          · obtain ⟨t, g3, g4⟩ := zob_some h3
            exact zst_same g4 fun ad0 n0 p l e R s m args below meth c Q F _ _ hh => zs_if F hN hc g3 hh
          · cases h3
        · cases h3
noncomputable def zg1 (N : ZN) (k : ZK) (op nx : Nat) (a : List Nat) (L : ZL) (st : List ZV) (G : ZG) : Option ZRes :=
  zif (Nat.ble op 11)
    (zif (Nat.ble op 9)
      (zif (Nat.beq op 8) (match a with
        | [cnd, tgt] => zo_icmp N k nx cnd tgt L st G
        | _ => none) (match a with
        | [tgt] => k tgt L st G
        | _ => none))
      (zif (Nat.beq op 10) (match a with
        | [kd, tgt] => zo_ifn k nx kd tgt L st G
        | _ => none) (match a with
        | [kd] => zo_stk k nx kd L st G
        | _ => none)))
    (zif (Nat.ble op 13)
      (zif (Nat.beq op 12) (match a with
        | [ci, kf, _, _, _, _] => zo_getf k nx ci kf L st G
        | _ => none) (match a with
        | [w, _, _] => zo_getx k nx w L st G
        | _ => none))
      (zif (Nat.beq op 14) (match a with
        | [ci, kf, tk, _, _, _, _] => zo_putf k nx ci kf tk L st G
        | _ => none) (match a with
        | [t, u, _, _, _, _] => k nx L ((t, u) :: st) G
        | _ => none)))
theorem zg1_ok (hN : zNok X Ls N) (h8 : 8 ≤ op) (h15 : op ≤ 15) (h : zg1 N k op nx a L st G = some r) (hc : zchk own cc nL ini ret pc (op, nx, a) = true) : zStep B0 Ls X own cc nL ini k r pc L st G := by
  unfold zg1 at h
  rcases zif_or h with ⟨e1, h1⟩ | ⟨e1, h1⟩
  · have e1 := zl_le e1
    rcases zif_or h1 with ⟨e2, h2⟩ | ⟨e2, h2⟩
    · have e2 := zl_le e2
      rcases zif_or h2 with ⟨e3, h3⟩ | ⟨e3, h3⟩
      · obtain rfl := zb_eq e3
        split at h3
        · unfold zo_icmp at h3
          split at h3
          · obtain ⟨t, g3, g4⟩ := zob_some h3
            exact zst_same g4 fun ad0 n0 p l e R s m args below meth c Q F _ _ hh => zs_icmp F hN hc g3 hh
          · cases h3
        · cases h3
      · obtain rfl : op = 9 := by have := zb_ne e3; omega
        split at h3
        · exact zst_same h3 fun ad0 n0 p l e R s m args below meth c Q F _ _ hh => zs_goto F hc hh
        · cases h3
    · have e2 := zl_nle e2
      rcases zif_or h2 with ⟨e3, h3⟩ | ⟨e3, h3⟩
      · obtain rfl := zb_eq e3
        split at h3
        · unfold zo_ifn at h3
          split at h3
          · obtain ⟨t, g1, g2⟩ := zob_some h3
            exact zst_same g2 fun ad0 n0 p l e R s m args below meth c Q F _ _ hh => zs_ifn F hc g1 hh
          · cases h3
        · cases h3
      · obtain rfl : op = 11 := by have := zb_ne e3; omega
        split at h3
        · obtain ⟨st', g1, g2⟩ := zob_some h3
          exact zst_same g2 fun ad0 n0 p l e R s m args below meth c Q F _ _ hh => zs_stk F hc g1 hh
        · cases h3
  · have e1 := zl_nle e1
    rcases zif_or h1 with ⟨e2, h2⟩ | ⟨e2, h2⟩
    · have e2 := zl_le e2
      rcases zif_or h2 with ⟨e3, h3⟩ | ⟨e3, h3⟩
      · obtain rfl := zb_eq e3
        split at h3
        · unfold zo_getf at h3
          split at h3
          · obtain ⟨g1, g2⟩ := zif_some h3
            obtain ⟨ob, g3, g4⟩ := zob_some g2
            obtain ⟨g5, g6⟩ := zif_some g4
            obtain ⟨v, g7, g8⟩ := zob_some g6
            exact zst_same g8 fun ad0 n0 p l e R s m args below meth c Q F _ _ hh => zs_getf F hc (zb_eq g1) g3 (zb_eq g5) g7 hh
          · cases h3
        · cases h3
      · obtain rfl : op = 13 := by have := zb_ne e3; omega
        split at h3
        · unfold zo_getx at h3
          split at h3
          · obtain ⟨g1, g2⟩ := zif_some h3
            obtain ⟨kv, g3, g4⟩ := zob_some g2
            exact zst_same g4 fun ad0 n0 p l e R s m args below meth c Q F _ _ hh => zs_getx F hc (zb_eq g1) g3 hh
          · cases h3
        · cases h3
    · have e2 := zl_nle e2
      rcases zif_or h2 with ⟨e3, h3⟩ | ⟨e3, h3⟩
      · obtain rfl := zb_eq e3
        split at h3
        · rename_i ci kf tk idx fl p1 p2
          have hc := (Bool.and_eq_true _ _).mp (show (zc_putf own cc pc nx ci kf tk idx fl p1 p2 && (ini || decide (fl ≠ 3))) = true from hc)
          unfold zo_putf at h3
          split at h3
          · obtain ⟨g1, g2⟩ := zif_some h3
            obtain ⟨g3, g4⟩ := zif_some g2
            obtain ⟨ob, g5, g6⟩ := zob_some g4
            obtain ⟨g7, g8⟩ := zif_some g6
            obtain ⟨t', g9, g10⟩ := zob_some g8
            obtain ⟨h', g11, g12⟩ := zob_some g10
            refine ⟨_, _, _, _, g12, Nat.le_refl _, Nat.le_refl _, Nat.le_refl _, fun ad0 n0 p l e R s m args below meth c Q F hi _ _ _ _ hh => ?_⟩
            refine zs_putf F (fun hf => hi ?_) hc.1 (zb_eq g1) g3 g5 (zb_eq g7) g9 g11 hh
            rcases (Bool.or_eq_true _ _).mp hc.2 with z | z
            · exact z
            · exact absurd hf (of_decide_eq_true z)
          · cases h3
        · cases h3
      · obtain rfl : op = 15 := by have := zb_ne e3; omega
        split at h3
        · exact zst_same h3 fun ad0 n0 p l e R s m args below meth c Q F _ _ hh => zs_gets F hc hh
        · cases h3
noncomputable def zg2 (N : ZN) (k : ZK) (op nx : Nat) (a : List Nat) (L : ZL) (st : List ZV) (G : ZG) : Option ZRes :=
  zif (Nat.ble op 19)
    (zif (Nat.ble op 17)
      (zif (Nat.beq op 16) (match a with
        | [] => zo_alen N k nx L st G
        | _ => none) (match a with
        | [lt] => zo_ald N k nx lt L st G
        | _ => none))
      (zif (Nat.beq op 18) (match a with
        | [lt] => zo_ast N k nx lt L st G
        | _ => none) (match a with
        | [ci, n, _, _] => zo_new k nx ci n L st G
        | _ => none)))
    (zif (Nat.ble op 21)
      (zif (Nat.beq op 20) (match a with
        | [κ, _] => zo_newa k nx κ L st G
        | _ => none) (match a with
        | [κ, _, _, _] => zo_newa k nx κ L st G
        | _ => none))
      (zif (Nat.beq op 22) (match a with
        | [kd, tgt] => zo_acmp k nx kd tgt L st G
        | _ => none) (match a with
        | [_, _, _, _] => zo_oinit k nx L st G
        | _ => none)))
theorem zg2_ok (hN : zNok X Ls N) (h16 : 16 ≤ op) (h23 : op ≤ 23) (h : zg2 N k op nx a L st G = some r) (hc : zchk own cc nL ini ret pc (op, nx, a) = true) : zStep B0 Ls X own cc nL ini k r pc L st G := by
  unfold zg2 at h
  rcases zif_or h with ⟨e1, h1⟩ | ⟨e1, h1⟩
  · have e1 := zl_le e1
    rcases zif_or h1 with ⟨e2, h2⟩ | ⟨e2, h2⟩
    · have e2 := zl_le e2
      rcases zif_or h2 with ⟨e3, h3⟩ | ⟨e3, h3⟩
      · obtain rfl := zb_eq e3
        split at h3
        · unfold zo_alen at h3
          split at h3
          · rcases zif_or h3 with ⟨g1, g2⟩ | ⟨-, g2⟩
            · obtain ⟨ob, g3, g4⟩ := zob_some g2
              obtain ⟨g5, g6⟩ := zif_some g4
              exact zst_same g6 fun ad0 n0 p l e R s m args below meth c Q F _ _ hh => zs_alen F hc (zb_eq g1) g3 (zl_le g5) hh
            · obtain ⟨g3, g4⟩ := zif_some g2
              rcases zif_or g4 with ⟨g5, g6⟩ | ⟨-, g6⟩
              · obtain ⟨v, g7, g8⟩ := zob_some g6
                obtain ⟨g9, g10⟩ := zif_some g8
                exact zst_same g10 fun ad0 n0 p l e R s m args below meth c Q F _ _ hh => zs_alenS F hc hN g7 g9 (zb_eq g3) (zb_eq g5) hh
              · obtain ⟨q, g7, g8⟩ := zob_some g6
                exact zst_same g8 fun ad0 n0 p l e R s m args below meth c Q F _ _ hh => zs_alenX F hc (zb_eq g3) g7 hh
          · cases h3
        · cases h3
      · obtain rfl : op = 17 := by have := zb_ne e3; omega
        split at h3
        · rename_i lt
          have hc : decide (nx = pc + 1 ∧ decode cc pc = .ok (zalI lt, 1)) = true := hc
          unfold zo_ald at h3
          split at h3
          · rename_i i o r0
            rcases zif_or h3 with ⟨g2, g3⟩ | ⟨-, g3⟩
            · obtain ⟨ob, g4, g5⟩ := zob_some g3
              rcases zif_or g5 with ⟨gk, g5⟩ | ⟨-, g5⟩
              · obtain ⟨g6, g7⟩ := zif_some g5
                obtain ⟨g8, g9⟩ := zif_some g7
                obtain ⟨sl, g10, g11⟩ := zob_some g9
                obtain ⟨v, g12, g13⟩ := zob_some g11
                exact zst_same g13 fun ad0 n0 p l e R s m args below meth c Q F _ _ hh => zs_aldY F hN hc (zb_eq g2) g4 gk g6 g8 g10 g12 hh
              · obtain ⟨g0, g5⟩ := zif_some g5
                obtain ⟨ti, ui⟩ := i
                have g0 : ti = 0 := zb_eq g0
                subst g0
                obtain ⟨g6, g7⟩ := zif_some g5
                obtain ⟨g8, g9⟩ := zif_some g7
                obtain ⟨g10, g11⟩ := zif_some g9
                exact zst_same g11 fun ad0 n0 p l e R s m args below meth c Q F _ _ hh => zs_ald F hc (zb_eq g2) g4 g6 g8 g10 hh
            · obtain ⟨g4, g5⟩ := zif_some g3
              rcases zif_or g5 with ⟨g6, g7⟩ | ⟨-, g7⟩
              · obtain ⟨g8, g9⟩ := zif_some g7
                obtain ⟨g10, g11⟩ := zif_some g9
                obtain ⟨v, g12, g13⟩ := zob_some g11
                obtain ⟨g14, g15⟩ := zif_some g13
                obtain rfl := zb_eq g8
                exact zst_same g15 fun ad0 n0 p l e R s m args below meth c Q F _ _ hh => zs_aldS F hN hc (zb_eq g4) (zb_eq g6) g10 g12 g14 hh
              · obtain ⟨g0, g7⟩ := zif_some g7
                obtain ⟨ti, ui⟩ := i
                have g0 : ti = 0 := zb_eq g0
                subst g0
                obtain ⟨q, g8, g9⟩ := zob_some g7
                obtain ⟨g10, g11⟩ := zif_some g9
                obtain ⟨g12, g13⟩ := zif_some g11
                obtain ⟨g14, g15⟩ := zif_some g13
                obtain ⟨τ, n, tr⟩ := q
                refine zst_same g15 fun ad0 n0 p l e R s m args below meth c Q F _ _ hh => zs_aldX F hc (zb_eq g4) g8 ?_ g12 g14 hh
                rcases zif_or g10 with ⟨z1, z2⟩ | ⟨-, z2⟩
                · exact Or.inl ⟨zb_eq z1, zb_eq z2⟩
                · rcases zif_or z2 with ⟨z3, z4⟩ | ⟨-, z4⟩
                  · exact Or.inr ⟨zb_eq z3, zb_eq z4⟩
                  · cases z4
          · cases h3
        · cases h3
    · have e2 := zl_nle e2
      rcases zif_or h2 with ⟨e3, h3⟩ | ⟨e3, h3⟩
      · obtain rfl := zb_eq e3
        split at h3
        · rename_i lt
          have hc : decide (nx = pc + 1 ∧ decode cc pc = .ok (zasI lt, 1)) = true := hc
          unfold zo_ast at h3
          split at h3
          · rename_i v i o r0
            obtain ⟨g2, g3⟩ := zif_some h3
            obtain ⟨ob, g4, g5⟩ := zob_some g3
            rcases zif_or g5 with ⟨gk, g5⟩ | ⟨-, g5⟩
            · obtain ⟨g6, g7⟩ := zif_some g5
              obtain ⟨g8, g9⟩ := zif_some g7
              obtain ⟨sl, g10, g11⟩ := zob_some g9
              obtain ⟨v0, g12, g13⟩ := zob_some g11
              obtain ⟨v', g14, g15⟩ := zob_some g13
              obtain ⟨t', g16, g17⟩ := zob_some g15
              obtain ⟨h', g18, g19⟩ := zob_some g17
              exact ⟨_, _, _, _, g19, Nat.le_refl _, Nat.le_refl _, Nat.le_refl _, fun ad0 n0 p l e R s m args below meth c Q F _ _ _ _ _ hh => zs_asY F hN hc (zb_eq g2) g4 gk g6 g8 g10 g12 g14 g16 g18 hh⟩
            obtain ⟨g0, g5⟩ := zif_some g5
            obtain ⟨ti, ui⟩ := i
            have g0 : ti = 0 := zb_eq g0
            subst g0
            obtain ⟨g6, g7⟩ := zif_some g5
            obtain ⟨g8, g9⟩ := zif_some g7
            rcases zif_or g9 with ⟨g10, g11⟩ | ⟨-, g11⟩
            · obtain rfl := zb_eq g10
              obtain ⟨g12, g13⟩ := zif_some g11
              rcases zif_or g13 with ⟨g14, g15⟩ | ⟨-, g15⟩
              · obtain ⟨gq, g15⟩ := zif_some g15
                obtain ⟨t', g16, g17⟩ := zob_some g15
                obtain ⟨h', g18, g19⟩ := zob_some g17
                exact ⟨_, _, _, _, g19, Nat.le_refl _, Nat.le_refl _, Nat.le_refl _, fun ad0 n0 p l e R s m args below meth c Q F _ _ _ _ _ hh => zs_asN F hc (zb_eq g2) g4 (zl_le g12) (zl_le gq) (zb_eq g14) g6 g8 g16 g18 hh⟩
              · obtain ⟨g16, g17⟩ := zif_some g15
                obtain ⟨gq, g17⟩ := zif_some g17
                obtain ⟨ov, g18, g19⟩ := zob_some g17
                obtain ⟨g20, g21⟩ := zif_some g19
                obtain ⟨g22, g23⟩ := zif_some g21
                obtain ⟨t', g24, g25⟩ := zob_some g23
                obtain ⟨h', g26, g27⟩ := zob_some g25
                exact ⟨_, _, _, _, g27, Nat.le_refl _, Nat.le_refl _, Nat.le_refl _, fun ad0 n0 p l e R s m args below meth c Q F _ _ _ _ _ hh => zs_asR F hc (zb_eq g2) g4 (zl_le g12) (zl_le gq) (zb_eq g16) g18 (Nat.lt_succ_of_le (zl_le g20)) g22 g6 g8 g24 g26 hh⟩
            · obtain ⟨v', g12, g13⟩ := zob_some g11
              obtain ⟨t', g16, g17⟩ := zob_some g13
              obtain ⟨h', g18, g19⟩ := zob_some g17
              exact ⟨_, _, _, _, g19, Nat.le_refl _, Nat.le_refl _, Nat.le_refl _, fun ad0 n0 p l e R s m args below meth c Q F _ _ _ _ _ hh => zs_asi F hc (zb_eq g2) g4 g12 g6 g8 g16 g18 hh⟩
          · cases h3
        · cases h3
      · obtain rfl : op = 19 := by have := zb_ne e3; omega
        split at h3
        · rename_i ci n idx p1
          have hc := (Bool.and_eq_true _ _).mp (show (zc_new own cc pc nx ci idx p1 && decide ((zcl[ci]?).map (fun q => q.2.2) = some n)) = true from hc)
          obtain ⟨h', g1, g2⟩ := zob_some h3
          refine ⟨_, _, _, _, g2, Nat.le_succ _, Nat.le_succ _, Nat.le_add_right _ _, fun ad0 n0 p l e R s m args below meth c Q F _ _ _ r1 r2 hh => ?_⟩
          have hn := of_decide_eq_true hc.2
          cases hq : zcl[ci]? with
          | none => rw [hq] at hn; cases hn
          | some q =>
            obtain ⟨C, T, n2⟩ := q
            rw [hq] at hn
            cases hn
            exact zs_new F hq hc.1 g1 r1 r2 hh
        · cases h3
  · have e1 := zl_nle e1
    rcases zif_or h1 with ⟨e2, h2⟩ | ⟨e2, h2⟩
    · have e2 := zl_le e2
      rcases zif_or h2 with ⟨e3, h3⟩ | ⟨e3, h3⟩
      · obtain rfl := zb_eq e3
        split at h3
        · unfold zo_newa at h3
          split at h3
          · rename_i i r0
            obtain ⟨g0, g1⟩ := zif_some h3
            obtain ⟨ti, ui⟩ := i
            have g0 : ti = 0 := zb_eq g0
            subst g0
            obtain ⟨g2, g3⟩ := zif_some g1
            obtain ⟨h', g4, g5⟩ := zob_some g3
            exact ⟨_, _, _, _, g5, Nat.le_succ _, Nat.le_succ _, Nat.le_add_right _ _, fun ad0 n0 p l e R s m args below meth c Q F _ _ _ r1 r2 hh => zs_newa F hc g2 g4 r1 r2 hh⟩
          · cases h3
        · cases h3
      · obtain rfl : op = 21 := by have := zb_ne e3; omega
        split at h3
        · unfold zo_newa at h3
          split at h3
          · rename_i i r0
            obtain ⟨g0, g1⟩ := zif_some h3
            obtain ⟨ti, ui⟩ := i
            have g0 : ti = 0 := zb_eq g0
            subst g0
            obtain ⟨g2, g3⟩ := zif_some g1
            obtain ⟨h', g4, g5⟩ := zob_some g3
            exact ⟨_, _, _, _, g5, Nat.le_succ _, Nat.le_succ _, Nat.le_add_right _ _, fun ad0 n0 p l e R s m args below meth c Q F _ _ _ r1 r2 hh => zs_anewa F hc g2 g4 r1 r2 hh⟩
          · cases h3
        · cases h3
    · have e2 := zl_nle e2
      rcases zif_or h2 with ⟨e3, h3⟩ | ⟨e3, h3⟩
      · obtain rfl := zb_eq e3
        split at h3
        · unfold zo_acmp at h3
          split at h3
          · obtain ⟨t, g0, g1⟩ := zob_some h3
            exact zst_same g1 fun ad0 n0 p l e R s m args below meth c Q F _ _ hh => zs_acmp F hc g0 hh
          · cases h3
        · cases h3
      · obtain rfl : op = 23 := by have := zb_ne e3; omega
        split at h3
        · unfold zo_oinit at h3
          split at h3
          · obtain ⟨g0, g1⟩ := zif_some h3
            obtain ⟨g2, g3⟩ := zif_some g1
            exact zst_same g3 fun ad0 n0 p l e R s m args below meth c Q F r1 r2 hh => zs_oinit F r1 r2 hc (zb_eq g0) g2 hh
          · cases h3
        · cases h3
noncomputable def zo_lsw (k : ZK) (df : Nat) (ps : List Nat) (L : ZL) (st : List ZV) (G : ZG) : Option ZRes := match st with
  | x :: r => zif (Nat.beq x.1 0) (zif (Nat.ble x.2 4294967295) (k (zlsw x.2 df (zprs ps)) L r G) none) none
  | [] => none
noncomputable def zg4 (N : ZN) (k : ZK) (op nx : Nat) (a : List Nat) (L : ZL) (st : List ZV) (G : ZG) : Option ZRes :=
  zif (Nat.ble op 30)
    (zif (Nat.beq op 28) (match a with
      | [kd] => zo_lbin N k nx kd L st G
      | _ => none) (zif (Nat.beq op 29) (match a with
      | [_, _, _, _, _, _] => zo_getc k nx L st G
      | _ => none) (zif (Nat.beq op 30) (match a with
      | [_, _] => k nx L ((4, 40) :: st) G
      | _ => none) none)))
    (zif (Nat.beq op 31) (match a with
      | [ct, _, _] => zo_cast k nx ct L st G
      | _ => none) (zif (Nat.beq op 32) (match a with
      | [_, _, _, _, _] => zo_acpy k nx L st G
      | _ => none) (zif (Nat.beq op 33) (match a with
      | df :: ps => zo_lsw k df ps L st G
      | _ => none) none)))
theorem zs_lsw {pc nx df u : Nat} {ps : List Nat} {L : ZL} {r : List ZV} {G : ZG} {ad0 : Nat → Nat} {n0 : Nat} {p : Program} {l : Launch} {e : Env} {R : Room} {s : State} {m : MethodId} {args : Array Value} {below : List Frame} {meth : Method} {c : Code} {Q : State → Prop} (F : zF B0 Ls X p l s m args meth c own cc nL) (hc : zc_lsw cc pc nx df ps = true) (hu : u ≤ 4294967295) (h : zHd B0 X ad0 n0 p l e R s m args below meth c Q nL (zlsw u df (zprs ps)) L r G) : zHd B0 X ad0 n0 p l e R s m args below meth c Q nL pc L ((0, u) :: r) G := by
  obtain ⟨hx, hb, hml, hown, hts, hlk, hK, hF, hB, hst⟩ := F
  intro ad hag H locs ls sv hW hS hL hT
  obtain ⟨wx, sr, rfl, hx1, hr⟩ := hT
  have hx1 : wx = .int (nI u) := hx1
  subst hx1
  have hc := (Bool.and_eq_true _ _).mp hc
  have hc1 := (Bool.and_eq_true _ _).mp hc.1
  have hd := of_decide_eq_true hc1.1
  exact lv_lookup hx hb hd (by simpa using hc.2) rfl (by
    rw [List.toList_toArray]
    exact zlsw_ok (by omega) _ fun q hq => of_decide_eq_true (List.all_eq_true.mp hc1.2 q hq)) (h ad hag H locs ls _ hW hS hL hr)
theorem zs_lswx {pc nx df : Nat} {x : ZV} {ps : List Nat} {L : ZL} {r : List ZV} {G : ZG} {ad0 : Nat → Nat} {n0 : Nat} {p : Program} {l : Launch} {e : Env} {R : Room} {s : State} {m : MethodId} {args : Array Value} {below : List Frame} {meth : Method} {c : Code} {Q : State → Prop} (F : zF B0 Ls X p l s m args meth c own cc nL) (hc : zc_lsw cc pc nx df ps = true) (hx : x.1 = 0) (hu : x.2 ≤ 4294967295) (h : zHd B0 X ad0 n0 p l e R s m args below meth c Q nL (zlsw x.2 df (zprs ps)) L r G) : zHd B0 X ad0 n0 p l e R s m args below meth c Q nL pc L (x :: r) G := by
  obtain ⟨x1, x2⟩ := x
  have hx : x1 = 0 := hx
  subst hx
  exact zs_lsw F hc hu h
theorem zg4_ok (hN : zNok X Ls N) (h : zg4 N k op nx a L st G = some r) (hc : zchk own cc nL ini ret pc (op, nx, a) = true) : zStep B0 Ls X own cc nL ini k r pc L st G := by
  have h70 : zty 70 = .object "java/lang/Object" := rfl
  have hc70 : 70 ∈ zcodes := by decide
  unfold zg4 at h
  rcases zif_or h with ⟨-, h1⟩ | ⟨-, h1⟩
  · rcases zif_or h1 with ⟨e1, h2⟩ | ⟨-, h1⟩
    · obtain rfl := zb_eq e1
      split at h2
      · unfold zo_lbin at h2
        split at h2
        · obtain ⟨v, g1, g2⟩ := zob_some h2
          exact zst_same g2 fun ad0 n0 p l e R s m args below meth c Q F _ _ hh => zs_lbin F hN hc g1 hh
        · cases h2
      · cases h2
    rcases zif_or h1 with ⟨e1, h2⟩ | ⟨-, h1⟩
    · obtain rfl := zb_eq e1
      split at h2
      · unfold zo_getc at h2
        split at h2
        · obtain ⟨g1, g2⟩ := zif_some h2
          obtain ⟨ob, g3, g4⟩ := zob_some g2
          obtain ⟨g5, g6⟩ := zif_some g4
          obtain ⟨g7, g8⟩ := zif_some g6
          exact zst_same g8 fun ad0 n0 p l e R s m args below meth c Q F r1 r2 hh => zs_getc F r1 r2 hc h70 hc70 (zb_eq g1) g3 (zb_eq g5) g7 hh
        · cases h2
      · cases h2
    obtain ⟨e1, h2⟩ := zif_some h1
    obtain rfl := zb_eq e1
    split at h2
    · exact zst_same h2 fun ad0 n0 p l e R s m args below meth c Q F _ _ hh => zs_ldcm F hc hh
    · cases h2
  · rcases zif_or h1 with ⟨e1, h2⟩ | ⟨-, h1⟩
    · obtain rfl := zb_eq e1
      split at h2
      · unfold zo_cast at h2
        split at h2
        · obtain ⟨g1, g2⟩ := zif_some h2
          obtain ⟨ob, g3, g4⟩ := zob_some g2
          obtain ⟨g5, g6⟩ := zif_some g4
          exact zst_same g6 fun ad0 n0 p l e R s m args below meth c Q F _ _ hh => zs_cast F hc (by decide) h70 hc70 (zb_eq g1) g3 (zb_eq g5) hh
        · cases h2
      · cases h2
    rcases zif_or h1 with ⟨e1, h2⟩ | ⟨-, h1⟩
    · obtain rfl := zb_eq e1
      split at h2
      · unfold zo_acpy at h2
        split at h2
        · rename_i n dp d sp a9 r0 heq9
          obtain ⟨g1, k1⟩ := zif_some h2
          obtain ⟨g2, k2⟩ := zif_some k1
          obtain ⟨g3, k3⟩ := zif_some k2
          obtain ⟨g4, k4⟩ := zif_some k3
          obtain ⟨g5, k5⟩ := zif_some k4
          obtain ⟨od, g6, k6⟩ := zob_some k5
          obtain ⟨oa, g7, k7⟩ := zob_some k6
          obtain ⟨g8, k8⟩ := zif_some k7
          obtain ⟨g9, k9⟩ := zif_some k8
          obtain ⟨g10, k10⟩ := zif_some k9
          obtain ⟨g11, k11⟩ := zif_some k10
          obtain ⟨g12, k12⟩ := zif_some k11
          obtain ⟨g13, k13⟩ := zif_some k12
          obtain ⟨g14, k14⟩ := zif_some k13
          obtain ⟨g15, k15⟩ := zif_some k14
          obtain ⟨t', g16, k16⟩ := zob_some k15
          obtain ⟨h', g17, k17⟩ := zob_some k16
          obtain ⟨n1, n2⟩ := n
          obtain ⟨dp1, dp2⟩ := dp
          obtain ⟨d1, d2⟩ := d
          obtain ⟨sp1, sp2⟩ := sp
          obtain ⟨a1, a2⟩ := a9
          have g1 : n1 = 0 := zb_eq g1
          have g2 : dp1 = 0 := zb_eq g2
          have g3 : sp1 = 0 := zb_eq g3
          have g4 : d1 = 3 := zb_eq g4
          have g5 : a1 = 3 := zb_eq g5
          subst g1 g2 g3 g4 g5
          exact ⟨_, _, _, _, k17, Nat.le_refl _, Nat.le_refl _, Nat.le_refl _, fun ad0 n0 p l e R s m args below meth c Q F _ r1 r2 _ _ hh => zs_acpy F r1 r2 hc h70 hc70 g6 g7 (zb_eq g8) (zb_eq g9) (zl_le g10) (zl_le g11) (zl_le g12) (zl_le g13) g14 g15 g16 g17 hh⟩
        · cases h2
      · cases h2
    obtain ⟨e1, h2⟩ := zif_some h1
    obtain rfl := zb_eq e1
    split at h2
    · unfold zo_lsw at h2
      split at h2
      · obtain ⟨g1, k1⟩ := zif_some h2
        obtain ⟨g2, k2⟩ := zif_some k1
        exact zst_same k2 fun ad0 n0 p l e R s m args below meth c Q F _ _ hh => zs_lswx F hc (zb_eq g1) (zl_le g2) hh
      · cases h2
    · cases h2
end ZS
