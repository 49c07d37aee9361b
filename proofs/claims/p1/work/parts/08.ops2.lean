/-! Arithmetic, branches, the operand stack. -/
/-- 0 iadd 1 isub 2 imul 3 iand 4 ior 5 ixor 6 ishl 7 ishr 8 iushr 9 idiv 10 irem -/
def zibI (kind : Nat) : Instr := match kind with
  | 0 => .iadd
  | 1 => .isub
  | 2 => .imul
  | 3 => .iand
  | 4 => .ior
  | 5 => .ixor
  | 6 => .ishl
  | 7 => .ishr
  | 8 => .iushr
  | 9 => .idiv
  | _ => .irem
noncomputable def zibc (kind a b : Nat) : Option Nat := match kind with
  | 0 => some (Nat.mod (Nat.add a b) 4294967296)
  | 1 => some (Nat.mod (Nat.sub (Nat.add a 4294967296) (Nat.mod b 4294967296)) 4294967296)
  | 2 => some (Nat.mod (Nat.mul a b) 4294967296)
  | 3 => some (Nat.land a b)
  | 7 => zif (Nat.ble 2147483648 a) none (zif (Nat.ble 32 b) none (some (Nat.div a (Nat.pow 2 b))))
  | 10 => zif (Nat.ble 2147483648 a) none (zif (Nat.beq b 0) none (zif (Nat.ble 2147483648 b) none (some (Nat.mod a b))))
  | _ => none
/-- total ones, of any two ints -/
def zibt (kind : Nat) : Bool := match kind with
  | 0 => true
  | 1 => true
  | 2 => true
  | 3 => true
  | 4 => true
  | 5 => true
  | 6 => true
  | 7 => true
  | 8 => true
  | _ => false
noncomputable def zib (N : ZN) (kind : Nat) (x y : ZV) : Option ZV :=
  zif (Nat.beq x.1 0) (zif (Nat.beq y.1 0) (zob (zibc kind x.2 y.2) fun u => some (0, u)) (zif (zint y) (zif (zibt kind) (some (6, 0)) none) none))
    (zif (Nat.beq x.1 5) (zif (Nat.beq y.1 0) (zif (Nat.beq kind 3) (zif (Nat.beq x.2 0) (zif (Nat.beq y.2 15) (zob N.2 fun u => some (0, u)) (some (6, 0))) (some (6, 0))) (zif (zibt kind) (some (6, 0)) none)) (zif (zint y) (zif (zibt kind) (some (6, 0)) none) none))
      (zif (zint x) (zif (zint y) (zif (zibt kind) (some (6, 0)) none) none) none))
def zrelI (c : Nat) : Jvm.ClassFile.Cond := match c with
  | 0 => .eq
  | 1 => .ne
  | 2 => .lt
  | 3 => .ge
  | 4 => .gt
  | _ => .le
noncomputable def znot (o : Option Bool) : Option Bool := zob o fun b => some (zif b false true)
noncomputable def zrel (c : Nat) (a b : ZI) : Option Bool := match c with
  | 0 => zeq a b
  | 1 => znot (zeq a b)
  | 2 => zlt a b
  | 3 => znot (zlt a b)
  | 4 => zlt b a
  | 5 => znot (zlt b a)
  | _ => none
theorem znot_some {o : Option Bool} {t : Bool} (h : znot o = some t) : ∃ b, o = some b ∧ (t = true ↔ ¬ b = true) := by
  obtain ⟨b, h1, h2⟩ := zob_some h
  refine ⟨b, h1, ?_⟩
  cases b with
  | true =>
    have e : false = t := Option.some.inj h2
    rw [← e]
    simp
  | false =>
    have e : true = t := Option.some.inj h2
    rw [← e]
    simp
theorem zin_self (n : Nat) : zin (n, n) n := ⟨Nat.le_refl n, Nat.le_refl n⟩
noncomputable def ziv (N : ZN) (v : ZV) : Option ZI := zif (Nat.beq v.1 0) (some (zk v.2, zk v.2)) (zif (Nat.beq v.1 5) (some (N.1 v.2)) none)
theorem ziv_ok {X : ZX} {N : ZN} {ad : Nat → Nat} {n : Nat} {v : ZV} {w : Value} {a : ZI} (hN : zNok X N) (h : ziv N v = some a) (hv : zv X ad n v w) : ∃ x : Int32, w = .int x ∧ zin a (zkI x) := by
  obtain ⟨t, u⟩ := v
  unfold ziv at h
  rcases zif_or h with ⟨e, h1⟩ | ⟨-, h1⟩
  · have e : t = 0 := zb_eq e
    subst e
    have h2 : (zk u, zk u) = a := Option.some.inj h1
    rw [← h2]
    exact ⟨_, hv, by rw [zk_nI]; exact zin_self _⟩
  · obtain ⟨e, h1⟩ := zif_some h1
    have e : t = 5 := zb_eq e
    subst e
    have h2 : N.1 u = a := Option.some.inj h1
    rw [← h2]
    exact ⟨_, hv, hN.1 u⟩
section ZS
variable {B0 Ls : Nat} {X : ZX} {p : Program} {l : Launch} {e : Env} {R : Room} {s : State} {m : MethodId} {args : Array Value} {below : List Frame} {meth : Method} {c : Code} {Q : State → Prop} {own : String} {cc : ByteArray} {nL : Nat} {ad0 : Nat → Nat} {n0 : Nat}
theorem zs_ib0 {kind pc : Nat} {x y : Int32} {H : Heap} {locs : List Loc} {cells slots : Nat} {ls : Array Slot} {rest : List Value} (F : zF B0 Ls X p l s m args meth c own cc nL) (ht : zibt kind = true) (hd : decode cc pc = .ok (zibI kind, 1)) (h : ∀ z : Int32, W p l e R s m args below meth c H locs cells slots Q (F0 m (pc + 1) ls (.int z :: rest))) : W p l e R s m args below meth c H locs cells slots Q (F0 m pc ls (.int y :: .int x :: rest)) := by
  obtain ⟨hx, hb, hml, hown, hts, hlk, hK, hF, hB, hst⟩ := F
  match kind, ht, hd with
  | 0, _, hd => exact lv_iadd hx hb hd (h _)
  | 1, _, hd => exact lv_isub hx hb hd (h _)
  | 2, _, hd => exact lv_imul hx hb hd (h _)
  | 3, _, hd => exact lv_iand hx hb hd (h _)
  | 4, _, hd => exact lv_ior hx hb hd (h _)
  | 5, _, hd => exact lv_ixor hx hb hd (h _)
  | 6, _, hd => exact lv_ishl hx hb hd (h _)
  | 7, _, hd => exact lv_ishr hx hb hd (h _)
  | 8, _, hd => exact lv_iushr hx hb hd rfl (h _)
theorem zs_ibc {kind pc a b r : Nat} {H : Heap} {locs : List Loc} {cells slots : Nat} {ls : Array Slot} {rest : List Value} (F : zF B0 Ls X p l s m args meth c own cc nL) (hc : zibc kind a b = some r) (hd : decode cc pc = .ok (zibI kind, 1)) (h : W p l e R s m args below meth c H locs cells slots Q (F0 m (pc + 1) ls (.int (nI r) :: rest))) : W p l e R s m args below meth c H locs cells slots Q (F0 m pc ls (.int (nI b) :: .int (nI a) :: rest)) := by
  obtain ⟨hx, hb, hml, hown, hts, hlk, hK, hF, hB, hst⟩ := F
  unfold zibc at hc
  split at hc
  · cases hc
    exact lv_iadd hx hb hd (by rw [zia]; exact h)
  · cases hc
    exact lv_isub hx hb hd (by rw [zis]; exact h)
  · cases hc
    exact lv_imul hx hb hd (by rw [zim]; exact h)
  · cases hc
    exact lv_iand hx hb hd (by rw [zand]; exact h)
  · rcases zif_or hc with ⟨-, hc⟩ | ⟨h1, hc⟩
    · cases hc
    rcases zif_or hc with ⟨-, hc⟩ | ⟨h2, hc⟩
    · cases hc
    cases hc
    exact lv_ishr hx hb hd (by rw [zshr h1 h2]; exact h)
  · rcases zif_or hc with ⟨-, hc⟩ | ⟨h1, hc⟩
    · cases hc
    rcases zif_or hc with ⟨-, hc⟩ | ⟨h2, hc⟩
    · cases hc
    rcases zif_or hc with ⟨-, hc⟩ | ⟨h3, hc⟩
    · cases hc
    cases hc
    exact lv_irem hx hb hd (zne0 h2 h3) (by rw [zrem h1 h2 h3]; exact h)
  · cases hc
noncomputable def zo_ibin (N : ZN) (k : ZK) (nx kind : Nat) (L : ZL) (st : List ZV) (G : ZG) : Option ZRes := match st with
  | y :: x :: r => zob (zib N kind x y) fun v => k nx L (v :: r) G
  | _ => none
theorem zs_ibin {N : ZN} {pc nx kind : Nat} {x y v : ZV} {L : ZL} {r : List ZV} {G : ZG} (F : zF B0 Ls X p l s m args meth c own cc nL) (hN : zNok X N) (hc : decide (nx = pc + 1 ∧ decode cc pc = .ok (zibI kind, 1)) = true) (hv : zib N kind x y = some v) (h : zHd B0 X ad0 n0 p l e R s m args below meth c Q nL nx L (v :: r) G) : zHd B0 X ad0 n0 p l e R s m args below meth c Q nL pc L (y :: x :: r) G := by
  obtain ⟨rfl, hd⟩ := of_decide_eq_true hc
  intro ad hag H locs ls sv hW hS hL hT
  obtain ⟨wy, s1, rfl, hy, wx, sr, rfl, hx, hr⟩ := hT
  have any : ∀ {x y : ZV} {wx wy : Value}, zv X ad G.2.1 x wx → zv X ad G.2.1 y wy → zint x = true → zint y = true → zibt kind = true → some (6, 0) = some v → W p l e R s m args below meth c H locs G.2.2.1 G.2.2.2 Q (F0 m pc ls (wy :: wx :: sr)) := by
    intro x y wx wy hx hy h1 h2 h3 h4
    cases h4
    obtain ⟨a, rfl⟩ := zint_ok h1 hx
    obtain ⟨b, rfl⟩ := zint_ok h2 hy
    exact zs_ib0 F h3 hd fun z => h ad hag H locs ls _ hW hS hL ⟨_, _, rfl, ⟨z, rfl⟩, hr⟩
  obtain ⟨tx, ux⟩ := x
  obtain ⟨ty, uy⟩ := y
  unfold zib at hv
  rcases zif_or hv with ⟨e1, hv⟩ | ⟨-, hv⟩
  · have e1 : tx = 0 := zb_eq e1
    subst e1
    rcases zif_or hv with ⟨e2, hv⟩ | ⟨-, hv⟩
    · have e2 : ty = 0 := zb_eq e2
      subst e2
      obtain ⟨u, hu, hv⟩ := zob_some hv
      cases hv
      have hx : wx = .int (nI ux) := hx
      have hy : wy = .int (nI uy) := hy
      subst hx hy
      exact zs_ibc F hu hd (h ad hag H locs ls _ hW hS hL ⟨_, _, rfl, rfl, hr⟩)
    · obtain ⟨h2, hv⟩ := zif_some hv
      obtain ⟨h3, hv⟩ := zif_some hv
      exact any hx hy rfl h2 h3 hv
  · rcases zif_or hv with ⟨e1, hv1⟩ | ⟨-, hv1⟩
    · have f1 : tx = 5 := zb_eq e1
      rcases zif_or hv1 with ⟨e2, hv2⟩ | ⟨-, hv2⟩
      · have f2 : ty = 0 := zb_eq e2
        have i1 : zint (tx, ux) = true := by rw [f1]; rfl
        have i2 : zint (ty, uy) = true := by rw [f2]; rfl
        rcases zif_or hv2 with ⟨e3, hv3⟩ | ⟨-, hv3⟩
        · have f3 : kind = 3 := zb_eq e3
          have i3 : zibt kind = true := by rw [f3]; rfl
          rcases zif_or hv3 with ⟨e4, hv4⟩ | ⟨-, hv4⟩
          · have f4 : ux = 0 := zb_eq e4
            rcases zif_or hv4 with ⟨e5, hv5⟩ | ⟨-, hv5⟩
            · have f5 : uy = 15 := zb_eq e5
              obtain ⟨u, hu, hv6⟩ := zob_some hv5
              have hv7 : (0, u) = v := Option.some.inj hv6
              subst f1 f2 f3 f4 f5 hv7
              have hx : wx = .int (X.2.2.2 0) := hx
              have hy : wy = .int (nI 15) := hy
              subst hx hy
              obtain ⟨hx0, hb, -⟩ := F
              exact lv_iand hx0 hb hd (h ad hag H locs ls _ hW hS hL ⟨_, _, rfl, congrArg Value.int (hN.2 u hu), hr⟩)
            · exact any hx hy i1 i2 i3 hv5
          · exact any hx hy i1 i2 i3 hv4
        · obtain ⟨h3, hv4⟩ := zif_some hv3
          exact any hx hy i1 i2 h3 hv4
      · obtain ⟨h2, hv3⟩ := zif_some hv2
        obtain ⟨h3, hv4⟩ := zif_some hv3
        exact any hx hy (by rw [f1]; rfl) h2 h3 hv4
    · obtain ⟨h1, hv2⟩ := zif_some hv1
      obtain ⟨h2, hv3⟩ := zif_some hv2
      obtain ⟨h3, hv4⟩ := zif_some hv3
      exact any hx hy h1 h2 h3 hv4
/-- 0 i2b 1 i2c 2 i2l 3 l2i -/
def zunI (kind : Nat) : Instr := match kind with
  | 0 => .i2b
  | 1 => .i2c
  | 2 => .i2l
  | _ => .l2i
noncomputable def zun (kind : Nat) (v : ZV) : Option ZV := match kind with
  | 0 => zif (Nat.beq v.1 0) (some (0, zsb v.2)) (zif (zint v) (some (6, 0)) none)
  | 1 => zif (Nat.beq v.1 0) (some (0, Nat.mod (Nat.mod v.2 4294967296) 65536)) (zif (zint v) (some (6, 0)) none)
  | 2 => zif (Nat.beq v.1 0) (some (1, zsl v.2)) (zif (Nat.beq v.1 5) (some (8, v.2)) none)
  | 3 => zif (Nat.beq v.1 1) (some (0, Nat.mod v.2 4294967296)) none
  | _ => none
noncomputable def zo_un (k : ZK) (nx kind : Nat) (L : ZL) (st : List ZV) (G : ZG) : Option ZRes := match st with
  | x :: r => zob (zun kind x) fun v => k nx L (v :: r) G
  | _ => none
theorem zs_un {pc nx kind : Nat} {x v : ZV} {L : ZL} {r : List ZV} {G : ZG} (F : zF B0 Ls X p l s m args meth c own cc nL) (hc : decide (nx = pc + 1 ∧ decode cc pc = .ok (zunI kind, 1)) = true) (hv : zun kind x = some v) (h : zHd B0 X ad0 n0 p l e R s m args below meth c Q nL nx L (v :: r) G) : zHd B0 X ad0 n0 p l e R s m args below meth c Q nL pc L (x :: r) G := by
  obtain ⟨rfl, hd⟩ := of_decide_eq_true hc
  obtain ⟨hx0, hb, hml, hown, hts, hlk, hK, hF, hB, hst⟩ := F
  intro ad hag H locs ls sv hW hS hL hT
  obtain ⟨wx, sr, rfl, hx, hr⟩ := hT
  have go : ∀ w : Value, zv X ad G.2.1 v w → W p l e R s m args below meth c H locs G.2.2.1 G.2.2.2 Q (F0 m (pc + 1) ls (w :: sr)) := fun w hw => h ad hag H locs ls _ hW hS hL ⟨_, _, rfl, hw, hr⟩
  have goI : ∀ u : Nat, v = (0, u) → W p l e R s m args below meth c H locs G.2.2.1 G.2.2.2 Q (F0 m (pc + 1) ls (.int (nI u) :: sr)) := fun u hu => go _ (by rw [hu]; rfl)
  have goL : ∀ u : Nat, v = (1, u) → W p l e R s m args below meth c H locs G.2.2.1 G.2.2.2 Q (F0 m (pc + 1) ls (.long (lN u) :: sr)) := fun u hu => go _ (by rw [hu]; rfl)
  obtain ⟨tx, ux⟩ := x
  unfold zun at hv
  split at hv
  · rcases zif_or hv with ⟨e1, hv⟩ | ⟨-, hv⟩
    · have e1 : tx = 0 := zb_eq e1
      subst e1
      have hx : wx = .int (nI ux) := hx
      subst hx
      exact lv_i2b hx0 hb hd (zi2b ux) (goI (zsb ux) (Option.some.inj hv).symm)
    · obtain ⟨h1, hv⟩ := zif_some hv
      cases hv
      obtain ⟨a, rfl⟩ := zint_ok h1 hx
      exact lv_i2b hx0 hb hd rfl (go _ ⟨_, rfl⟩)
  · rcases zif_or hv with ⟨e1, hv⟩ | ⟨-, hv⟩
    · have e1 : tx = 0 := zb_eq e1
      subst e1
      have hx : wx = .int (nI ux) := hx
      subst hx
      exact lv_i2c hx0 hb hd (zi2c ux) (goI _ (Option.some.inj hv).symm)
    · obtain ⟨h1, hv⟩ := zif_some hv
      cases hv
      obtain ⟨a, rfl⟩ := zint_ok h1 hx
      exact lv_i2c hx0 hb hd rfl (go _ ⟨_, rfl⟩)
  · rcases zif_or hv with ⟨e1, hv⟩ | ⟨-, hv⟩
    · have e1 : tx = 0 := zb_eq e1
      subst e1
      have hx : wx = .int (nI ux) := hx
      subst hx
      exact lv_i2l hx0 hb hd (zi2l ux) (goL (zsl ux) (Option.some.inj hv).symm)
    · obtain ⟨e1, hv⟩ := zif_some hv
      have e1 : tx = 5 := zb_eq e1
      subst e1
      cases hv
      have hx : wx = .int (X.2.2.2 ux) := hx
      subst hx
      exact lv_i2l hx0 hb hd rfl (go _ rfl)
  · obtain ⟨e1, hv⟩ := zif_some hv
    have e1 : tx = 1 := zb_eq e1
    subst e1
    have hx : wx = .long (lN ux) := hx
    subst hx
    exact lv_l2i hx0 hb hd ((lN_i ux).trans (znI_mod ux).symm) (goI _ (Option.some.inj hv).symm)
  · cases hv
/-- lcmp -/
noncomputable def zivl (N : ZN) (v : ZV) : Option ZI := zif (Nat.beq v.1 1) (some (zkl v.2, zkl v.2)) (zif (Nat.beq v.1 8) (some (Nat.add (N.1 v.2).1 9223372034707292160, Nat.add (N.1 v.2).2 9223372034707292160)) none)
theorem zivl_ok {N : ZN} {ad : Nat → Nat} {n : Nat} {v : ZV} {w : Value} {a : ZI} (hN : zNok X N) (h : zivl N v = some a) (hv : zv X ad n v w) : ∃ x : Int64, w = .long x ∧ zin a (zkL x) := by
  obtain ⟨t, u⟩ := v
  unfold zivl at h
  rcases zif_or h with ⟨e, h1⟩ | ⟨-, h1⟩
  · have e : t = 1 := zb_eq e
    subst e
    have h2 : (zkl u, zkl u) = a := Option.some.inj h1
    rw [← h2]
    exact ⟨_, hv, by rw [zkl_lN]; exact zin_self _⟩
  · obtain ⟨e, h1⟩ := zif_some h1
    have e : t = 8 := zb_eq e
    subst e
    have h2 : (Nat.add (N.1 u).1 9223372034707292160, Nat.add (N.1 u).2 9223372034707292160) = a := Option.some.inj h1
    rw [← h2]
    have k := hN.1 u
    exact ⟨_, hv, by rw [zkl_i]; exact ⟨Nat.add_le_add_right k.1 _, Nat.add_le_add_right k.2 _⟩⟩
noncomputable def zlc (a b : ZI) : Option Nat := zob (zlt a b) fun t => zif t (some 4294967295) (zob (zeq a b) fun t2 => zif t2 (some 0) (some 1))
theorem zlc_ok {a b : ZI} {x y : Int64} {r : Nat} (h : zlc a b = some r) (hx : zin a (zkL x)) (hy : zin b (zkL y)) : lg_cmp x y = nI r := by
  obtain ⟨t, h1, h⟩ := zob_some h
  have e1 := zlt_ok h1 hx hy
  unfold lg_cmp
  rcases zif_or h with ⟨rfl, h⟩ | ⟨rfl, h⟩
  · cases h
    have k := e1.mpr rfl
    rw [if_neg (fun z => absurd (zkl_lt.mp z) (by omega)), if_neg (fun z => absurd (zkl_eq.mp z) (by omega))]
    decide
  · obtain ⟨t2, h2, h⟩ := zob_some h
    have e2 := zeq_ok h2 hx hy
    have k : ¬ zkL x < zkL y := fun z => by cases e1.mp z
    rcases zif_or h with ⟨rfl, h⟩ | ⟨rfl, h⟩
    · cases h
      have k2 := e2.mpr rfl
      rw [if_neg (fun z => absurd (zkl_lt.mp z) (by omega)), if_pos (zkl_eq.mpr k2)]
      rfl
    · cases h
      have k2 : ¬ zkL x = zkL y := fun z => by cases e2.mp z
      rw [if_pos (zkl_lt.mpr (by omega))]
      rfl
noncomputable def zo_lcmp (N : ZN) (k : ZK) (nx : Nat) (L : ZL) (st : List ZV) (G : ZG) : Option ZRes := match st with
  | y :: x :: r => zob (zivl N x) fun a => zob (zivl N y) fun b => zob (zlc a b) fun u => k nx L ((0, u) :: r) G
  | _ => none
theorem zs_lcmp {N : ZN} {pc nx u : Nat} {x y : ZV} {a b : ZI} {L : ZL} {r : List ZV} {G : ZG} (F : zF B0 Ls X p l s m args meth c own cc nL) (hN : zNok X N) (hc : decide (nx = pc + 1 ∧ decode cc pc = .ok (.lcmp, 1)) = true) (h1 : zivl N x = some a) (h2 : zivl N y = some b) (h3 : zlc a b = some u) (h : zHd B0 X ad0 n0 p l e R s m args below meth c Q nL nx L ((0, u) :: r) G) : zHd B0 X ad0 n0 p l e R s m args below meth c Q nL pc L (y :: x :: r) G := by
  obtain ⟨rfl, hd⟩ := of_decide_eq_true hc
  obtain ⟨hx0, hb, hml, hown, hts, hlk, hK, hF, hB, hst⟩ := F
  intro ad hag H locs ls sv hW hS hL hT
  obtain ⟨wy, s1, rfl, hy, wx, sr, rfl, hx, hr⟩ := hT
  obtain ⟨x1, rfl, k1⟩ := zivl_ok hN h1 hx
  obtain ⟨y1, rfl, k2⟩ := zivl_ok hN h2 hy
  exact W.lcmp hx0 hb hd (by rw [zlc_ok h3 k1 k2]; exact h ad hag H locs ls _ hW hS hL ⟨_, _, rfl, rfl, hr⟩)
/-- branches -/
theorem zs_rel {N : ZN} {pc tgt cnd : Nat} {x y : Int32} {a b : ZI} {t : Bool} {H : Heap} {locs : List Loc} {cells slots : Nat} {ls : Array Slot} {rest : List Value} (F : zF B0 Ls X p l s m args meth c own cc nL) (hd : decode cc pc = .ok (.if_icmp (zrelI cnd) ((tgt : Int) - pc), 3)) (ha : zin a (zkI x)) (hbb : zin b (zkI y)) (ht : zrel cnd a b = some t)
    (h1 : t = true → W p l e R s m args below meth c H locs cells slots Q (F0 m tgt ls rest)) (h2 : t = false → W p l e R s m args below meth c H locs cells slots Q (F0 m (pc + 3) ls rest)) : W p l e R s m args below meth c H locs cells slots Q (F0 m pc ls (.int y :: .int x :: rest)) := by
  obtain ⟨hx, hb, hml, hown, hts, hlk, hK, hF, hB, hst⟩ := F
  have h2 : ¬ t = true → W p l e R s m args below meth c H locs cells slots Q (F0 m (pc + 3) ls rest) := fun z => h2 (by cases t <;> simp_all)
  have ho : (pc : Int) + ((tgt : Int) - pc) = (tgt : Int) := by omega
  unfold zrel at ht
  split at ht
  · have k := zeq_ok ht ha hbb
    exact lv_icmp_eq hx hb hd ho (fun z => h1 (k.mp (zk_eq.mp z))) (fun z => h2 fun w => z (zk_eq.mpr (k.mpr w)))
  · obtain ⟨b1, e1, e2⟩ := znot_some ht
    have k := zeq_ok e1 ha hbb
    exact lv_icmp_ne hx hb hd ho (fun z => h1 (e2.mpr fun w => z (zk_eq.mpr (k.mpr w)))) (fun z => h2 fun w => e2.mp w (k.mp (zk_eq.mp z)))
  · have k := zlt_ok ht ha hbb
    exact lv_icmp_lt hx hb hd ho (fun z => h1 (k.mp (zk_lt.mp z))) (fun z => h2 fun w => z (zk_lt.mpr (k.mpr w)))
  · obtain ⟨b1, e1, e2⟩ := znot_some ht
    have k := zlt_ok e1 ha hbb
    exact lv_icmp_ge hx hb hd ho (fun z => h1 (e2.mpr fun w => by have := zk_le.mp z; have := k.mpr w; omega)) (fun z => h2 fun w => z (zk_le.mpr (by rcases Nat.lt_or_ge (zkI x) (zkI y) with q | q; exact absurd (k.mp q) (e2.mp w); exact q)))
  · have k := zlt_ok ht hbb ha
    exact lv_icmp_gt hx hb hd ho (fun z => h1 (k.mp (zk_lt.mp z))) (fun z => h2 fun w => z (zk_lt.mpr (k.mpr w)))
  · obtain ⟨b1, e1, e2⟩ := znot_some ht
    have k := zlt_ok e1 hbb ha
    exact lv_icmp_le hx hb hd ho (fun z => h1 (e2.mpr fun w => by have := zk_le.mp z; have := k.mpr w; omega)) (fun z => h2 fun w => z (zk_le.mpr (by rcases Nat.lt_or_ge (zkI y) (zkI x) with q | q; exact absurd (k.mp q) (e2.mp w); exact q)))
  · cases ht
theorem zs_rel0 {N : ZN} {pc tgt cnd : Nat} {x : Int32} {a : ZI} {t : Bool} {H : Heap} {locs : List Loc} {cells slots : Nat} {ls : Array Slot} {rest : List Value} (F : zF B0 Ls X p l s m args meth c own cc nL) (hd : decode cc pc = .ok (.ifCond (zrelI cnd) ((tgt : Int) - pc), 3)) (ha : zin a (zkI x)) (ht : zrel cnd a (2147483648, 2147483648) = some t)
    (h1 : t = true → W p l e R s m args below meth c H locs cells slots Q (F0 m tgt ls rest)) (h2 : t = false → W p l e R s m args below meth c H locs cells slots Q (F0 m (pc + 3) ls rest)) : W p l e R s m args below meth c H locs cells slots Q (F0 m pc ls (.int x :: rest)) := by
  obtain ⟨hx, hb, hml, hown, hts, hlk, hK, hF, hB, hst⟩ := F
  have h2 : ¬ t = true → W p l e R s m args below meth c H locs cells slots Q (F0 m (pc + 3) ls rest) := fun z => h2 (by cases t <;> simp_all)
  have ho : (pc : Int) + ((tgt : Int) - pc) = (tgt : Int) := by omega
  have hbb : zin (2147483648, 2147483648) (zkI 0) := by
    rw [show zkI 0 = 2147483648 by decide]
    exact ⟨Nat.le_refl _, Nat.le_refl _⟩
  unfold zrel at ht
  split at ht
  · have k := zeq_ok ht ha hbb
    exact lv_if_eq hx hb hd ho (fun z => h1 (k.mp (zk_eq.mp z))) (fun z => h2 fun w => z (zk_eq.mpr (k.mpr w)))
  · obtain ⟨b1, e1, e2⟩ := znot_some ht
    have k := zeq_ok e1 ha hbb
    exact lv_if_ne hx hb hd ho (fun z => h1 (e2.mpr fun w => z (zk_eq.mpr (k.mpr w)))) (fun z => h2 fun w => e2.mp w (k.mp (zk_eq.mp z)))
  · have k := zlt_ok ht ha hbb
    exact lv_if_lt hx hb hd ho (fun z => h1 (k.mp (zk_lt.mp z))) (fun z => h2 fun w => z (zk_lt.mpr (k.mpr w)))
  · obtain ⟨b1, e1, e2⟩ := znot_some ht
    have k := zlt_ok e1 ha hbb
    exact lv_if_ge hx hb hd ho (fun z => h1 (e2.mpr fun w => by have := zk_le.mp z; have := k.mpr w; omega)) (fun z => h2 fun w => z (zk_le.mpr (by rcases Nat.lt_or_ge (zkI x) (zkI 0) with q | q; exact absurd (k.mp q) (e2.mp w); exact q)))
  · have k := zlt_ok ht hbb ha
    exact lv_if_gt hx hb hd ho (fun z => h1 (k.mp (zk_lt.mp z))) (fun z => h2 fun w => z (zk_lt.mpr (k.mpr w)))
  · obtain ⟨b1, e1, e2⟩ := znot_some ht
    have k := zlt_ok e1 hbb ha
    exact lv_if_le hx hb hd ho (fun z => h1 (e2.mpr fun w => by have := zk_le.mp z; have := k.mpr w; omega)) (fun z => h2 fun w => z (zk_le.mpr (by rcases Nat.lt_or_ge (zkI 0) (zkI x) with q | q; exact absurd (k.mp q) (e2.mp w); exact q)))
  · cases ht
noncomputable def zo_if (N : ZN) (k : ZK) (nx cnd tgt : Nat) (L : ZL) (st : List ZV) (G : ZG) : Option ZRes := match st with
  | x :: r => zob (ziv N x) fun a => zob (zrel cnd a (2147483648, 2147483648)) fun t => k (zif t tgt nx) L r G
  | _ => none
theorem zs_if {N : ZN} {pc nx cnd tgt : Nat} {x : ZV} {a : ZI} {t : Bool} {L : ZL} {r : List ZV} {G : ZG} (F : zF B0 Ls X p l s m args meth c own cc nL) (hN : zNok X N) (hc : decide (nx = pc + 3 ∧ decode cc pc = .ok (.ifCond (zrelI cnd) ((tgt : Int) - pc), 3)) = true) (h1 : ziv N x = some a) (h2 : zrel cnd a (2147483648, 2147483648) = some t) (h : zHd B0 X ad0 n0 p l e R s m args below meth c Q nL (zif t tgt nx) L r G) : zHd B0 X ad0 n0 p l e R s m args below meth c Q nL pc L (x :: r) G := by
  obtain ⟨rfl, hd⟩ := of_decide_eq_true hc
  intro ad hag H locs ls sv hW hS hL hT
  obtain ⟨wx, sr, rfl, hx, hr⟩ := hT
  obtain ⟨x1, rfl, k1⟩ := ziv_ok hN h1 hx
  have g := h ad hag H locs ls _ hW hS hL hr
  exact zs_rel0 (N := N) F hd k1 h2 (fun z => by rw [z] at g; exact g) (fun z => by rw [z] at g; exact g)
noncomputable def zo_icmp (N : ZN) (k : ZK) (nx cnd tgt : Nat) (L : ZL) (st : List ZV) (G : ZG) : Option ZRes := match st with
  | y :: x :: r => zob (ziv N x) fun a => zob (ziv N y) fun b => zob (zrel cnd a b) fun t => k (zif t tgt nx) L r G
  | _ => none
theorem zs_icmp {N : ZN} {pc nx cnd tgt : Nat} {x y : ZV} {a b : ZI} {t : Bool} {L : ZL} {r : List ZV} {G : ZG} (F : zF B0 Ls X p l s m args meth c own cc nL) (hN : zNok X N) (hc : decide (nx = pc + 3 ∧ decode cc pc = .ok (.if_icmp (zrelI cnd) ((tgt : Int) - pc), 3)) = true) (h1 : ziv N x = some a) (h2 : ziv N y = some b) (h3 : zrel cnd a b = some t) (h : zHd B0 X ad0 n0 p l e R s m args below meth c Q nL (zif t tgt nx) L r G) : zHd B0 X ad0 n0 p l e R s m args below meth c Q nL pc L (y :: x :: r) G := by
  obtain ⟨rfl, hd⟩ := of_decide_eq_true hc
  intro ad hag H locs ls sv hW hS hL hT
  obtain ⟨wy, s1, rfl, hy, wx, sr, rfl, hx, hr⟩ := hT
  obtain ⟨x1, rfl, k1⟩ := ziv_ok hN h1 hx
  obtain ⟨y1, rfl, k2⟩ := ziv_ok hN h2 hy
  have g := h ad hag H locs ls _ hW hS hL hr
  exact zs_rel (N := N) F hd k1 k2 h3 (fun z => by rw [z] at g; exact g) (fun z => by rw [z] at g; exact g)
theorem zs_goto {pc tgt : Nat} {L : ZL} {st : List ZV} {G : ZG} (F : zF B0 Ls X p l s m args meth c own cc nL) (hc : decide (decode cc pc = .ok (.goto ((tgt : Int) - pc), 3)) = true) (h : zHd B0 X ad0 n0 p l e R s m args below meth c Q nL tgt L st G) : zHd B0 X ad0 n0 p l e R s m args below meth c Q nL pc L st G := by
  have hd := of_decide_eq_true hc
  obtain ⟨hx0, hb, hml, hown, hts, hlk, hK, hF, hB, hst⟩ := F
  intro ad hag H locs ls sv hW hS hL hT
  exact lv_goto hx0 hb hd (by omega) (h ad hag H locs ls sv hW hS hL hT)
/-- null or not: 0 ifnull, 1 ifnonnull -/
noncomputable def znul (v : ZV) : Option Bool := match v.1 with
  | 2 => some true
  | 3 => some false
  | 4 => some false
  | _ => none
def znulI (kind : Nat) (off : Int) : Instr := match kind with
  | 0 => .ifnull off
  | _ => .ifnonnull off
noncomputable def zo_ifn (k : ZK) (nx kind tgt : Nat) (L : ZL) (st : List ZV) (G : ZG) : Option ZRes := match st with
  | x :: r => zob (znul x) fun t => k (zif (zif (Nat.beq kind 0) t (zif t false true)) tgt nx) L r G
  | _ => none
theorem zs_ifn {pc nx kind tgt : Nat} {x : ZV} {t : Bool} {L : ZL} {r : List ZV} {G : ZG} (F : zF B0 Ls X p l s m args meth c own cc nL) (hc : decide (nx = pc + 3 ∧ kind < 2 ∧ decode cc pc = .ok (znulI kind ((tgt : Int) - pc), 3)) = true) (h1 : znul x = some t) (h : zHd B0 X ad0 n0 p l e R s m args below meth c Q nL (zif (zif (Nat.beq kind 0) t (zif t false true)) tgt nx) L r G) : zHd B0 X ad0 n0 p l e R s m args below meth c Q nL pc L (x :: r) G := by
  obtain ⟨rfl, hk, hd⟩ := of_decide_eq_true hc
  obtain ⟨hx0, hb, hml, hown, hts, hlk, hK, hF, hB, hst⟩ := F
  intro ad hag H locs ls sv hW hS hL hT
  obtain ⟨wx, sr, rfl, hx, hr⟩ := hT
  have g := h ad hag H locs ls _ hW hS hL hr
  obtain ⟨tx, ux⟩ := x
  have ho : (pc : Int) + ((tgt : Int) - pc) = (tgt : Int) := by omega
  match kind, hk, hd with
  | 0, _, hd =>
    match tx, h1, hx with
    | 2, h1, hx =>
      cases h1
      rw [show wx = .null from hx]
      exact lv_ifnullN hx0 hb hd ho g
    | 3, h1, hx =>
      cases h1
      rw [show wx = .ref _ from hx.2]
      exact lv_ifnull hx0 hb hd g
    | 4, h1, hx =>
      cases h1
      rw [show wx = .ref _ from hx]
      exact lv_ifnull hx0 hb hd g
  | 1, _, hd =>
    match tx, h1, hx with
    | 2, h1, hx =>
      cases h1
      rw [show wx = .null from hx]
      exact lv_ifnonnullN hx0 hb hd g
    | 3, h1, hx =>
      cases h1
      rw [show wx = .ref _ from hx.2]
      exact lv_ifnonnull hx0 hb hd ho g
    | 4, h1, hx =>
      cases h1
      rw [show wx = .ref _ from hx]
      exact lv_ifnonnull hx0 hb hd ho g
/-- 0 dup 1 pop 2 dup_x1 3 dup2 of two ints -/
def zstI (kind : Nat) : Instr := match kind with
  | 0 => .dup
  | 1 => .pop
  | _ => .dup_x1
noncomputable def zstk (kind : Nat) (st : List ZV) : Option (List ZV) := match kind, st with
  | 0, x :: r => zif (zlong x) none (some (x :: x :: r))
  | 1, x :: r => zif (zlong x) none (some r)
  | 2, x :: y :: r => zif (zlong x) none (zif (zlong y) none (some (x :: y :: x :: r)))
  | _, _ => none
noncomputable def zo_stk (k : ZK) (nx kind : Nat) (L : ZL) (st : List ZV) (G : ZG) : Option ZRes := zob (zstk kind st) fun st' => k nx L st' G
theorem zs_stk {pc nx kind : Nat} {st st' : List ZV} {L : ZL} {G : ZG} (F : zF B0 Ls X p l s m args meth c own cc nL) (hc : decide (nx = pc + 1 ∧ decode cc pc = .ok (zstI kind, 1)) = true) (h1 : zstk kind st = some st') (h : zHd B0 X ad0 n0 p l e R s m args below meth c Q nL nx L st' G) : zHd B0 X ad0 n0 p l e R s m args below meth c Q nL pc L st G := by
  obtain ⟨rfl, hd⟩ := of_decide_eq_true hc
  obtain ⟨hx0, hb, hml, hown, hts, hlk, hK, hF, hB, hst⟩ := F
  intro ad hag H locs ls sv hW hS hL hT
  have cat : ∀ {v : ZV} {w : Value}, zlong v = false → zv X ad G.2.1 v w → w.category = 1 := fun h h2 => by rw [zv_cat h2, h]; rfl
  unfold zstk at h1
  split at h1
  · obtain ⟨wx, sr, rfl, hx, hr⟩ := hT
    rcases zif_or h1 with ⟨-, h1⟩ | ⟨e1, h1⟩
    · cases h1
    cases h1
    exact lv_dup hx0 hb hd (cat e1 hx) (h ad hag H locs ls _ hW hS hL ⟨_, _, rfl, hx, _, _, rfl, hx, hr⟩)
  · obtain ⟨wx, sr, rfl, hx, hr⟩ := hT
    rcases zif_or h1 with ⟨-, h1⟩ | ⟨e1, h1⟩
    · cases h1
    cases h1
    exact lv_pop hx0 hb hd (cat e1 hx) (h ad hag H locs ls _ hW hS hL hr)
  · obtain ⟨wx, s1, rfl, hx, wy, sr, rfl, hy, hr⟩ := hT
    rcases zif_or h1 with ⟨-, h1⟩ | ⟨e1, h1⟩
    · cases h1
    rcases zif_or h1 with ⟨-, h1⟩ | ⟨e2, h1⟩
    · cases h1
    cases h1
    exact lv_dup_x1 hx0 hb hd (cat e1 hx) (cat e2 hy) (h ad hag H locs ls _ hW hS hL ⟨_, _, rfl, hx, _, _, rfl, hy, _, _, rfl, hx, hr⟩)
  · cases h1
end ZS
