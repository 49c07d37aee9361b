/-! Arithmetic, branches, the operand stack. -/
/-- 0 iadd 1 isub 2 imul 3 iand 4 ior 5 ixor 6 ishl 7 ishr 8 iushr 9 idiv 10 irem -/
def zibI (kind : Nat) : Instr := match kind with
  | 0 => .iadd
  | 1 => .isub
  | 2 => .imul
  | 3 => .iand
  | 4 => .ior
  | 5 => .ixor
  | 6 => .ishl
  | 7 => .ishr
  | 8 => .iushr
  | 9 => .idiv
  | _ => .irem
noncomputable def zibc (kind a b : Nat) : Option Nat := match kind with
  | 0 => some (Nat.mod (Nat.add a b) 4294967296)
  | 1 => some (Nat.mod (Nat.sub (Nat.add a 4294967296) (Nat.mod b 4294967296)) 4294967296)
  | 2 => some (Nat.mod (Nat.mul a b) 4294967296)
  | 3 => some (Nat.land a b)
  | 4 => some (Nat.lor a b)
  | 7 => zif (Nat.ble 2147483648 a) none (zif (Nat.ble 32 b) none (some (Nat.div a (Nat.pow 2 b))))
  | 8 => zif (Nat.ble 32 b) none (some (Nat.div (Nat.mod a 4294967296) (Nat.pow 2 b)))
  | 9 => zif (Nat.ble 2147483648 a) none (zif (Nat.beq b 0) none (zif (Nat.ble 2147483648 b) none (some (Nat.div a b))))
  | 10 => zif (Nat.ble 2147483648 a) none (zif (Nat.beq b 0) none (zif (Nat.ble 2147483648 b) none (some (Nat.mod a b))))
  | _ => none
/-- total ones, of any two ints -/
def zibt (kind : Nat) : Bool := match kind with
  | 0 => true
  | 1 => true
  | 2 => true
  | 3 => true
  | 4 => true
  | 5 => true
  | 6 => true
  | 7 => true
  | 8 => true
  | _ => false
noncomputable def zanyb (kind : Nat) (x y : ZV) : Option ZV := zif (zint x) (zif (zint y) (zif (zibt kind) (some (6, 0)) none) none) none
noncomputable def zaffa (x y : ZV) : Option ZV := zif (Nat.beq x.1 5) (zif (Nat.beq y.1 0) (zob (zoff 4294967296 x.2 y.2) fun z => some (5, z)) (zanyb 0 x y)) (zif (Nat.beq x.1 0) (zif (Nat.beq y.1 5) (zob (zoff 4294967296 y.2 x.2) fun z => some (5, z)) (zanyb 0 x y)) (zanyb 0 x y))
noncomputable def zaffs (x y : ZV) : Option ZV := zif (Nat.beq x.1 5) (zif (Nat.beq y.1 0) (zob (zoff 4294967296 x.2 (Nat.sub 4294967296 (Nat.mod y.2 4294967296))) fun z => some (5, z)) (zanyb 1 x y)) (zanyb 1 x y)
noncomputable def zsib (N : ZN) (kind : Nat) (x y : ZV) : Option ZV :=
  @Option.rec ZV (fun _ => Option ZV) (zif (Nat.beq kind 0) (zaffa x y) (zif (Nat.beq kind 1) (zaffs x y) (zanyb kind x y)))
    (fun r => zif (Nat.ble kind 10) (zif (zisi x) (zif (zisi y) (zif (zisi r) (some r) none) none) none) none) (zfo kind x y N.2.2.1)
noncomputable def zib (N : ZN) (kind : Nat) (x y : ZV) : Option ZV :=
  zif (Nat.beq x.1 0) (zif (Nat.beq y.1 0) (@Option.rec Nat (fun _ => Option ZV) (zsib N kind x y) (fun u => some (0, u)) (zibc kind x.2 y.2)) (zsib N kind x y)) (zsib N kind x y)
def zrelI (c : Nat) : Jvm.ClassFile.Cond := match c with
  | 0 => .eq
  | 1 => .ne
  | 2 => .lt
  | 3 => .ge
  | 4 => .gt
  | _ => .le
noncomputable def znot (o : Option Bool) : Option Bool := zob o fun b => some (zif b false true)
noncomputable def zrel (c : Nat) (a b : ZI) : Option Bool := match c with
  | 0 => zeq a b
  | 1 => znot (zeq a b)
  | 2 => zlt a b
  | 3 => znot (zlt a b)
  | 4 => zlt b a
  | 5 => znot (zlt b a)
  | _ => none
theorem znot_some {o : Option Bool} {t : Bool} (h : znot o = some t) : ∃ b, o = some b ∧ (t = true ↔ ¬ b = true) := by
  obtain ⟨b, h1, h2⟩ := zob_some h
  refine ⟨b, h1, ?_⟩
  cases b with
  | true =>
    have e : false = t := Option.some.inj h2
    rw [← e]
    simp
  | false =>
    have e : true = t := Option.some.inj h2
    rw [← e]
    simp
theorem zin_self (n : Nat) : zin (n, n) n := ⟨Nat.le_refl n, Nat.le_refl n⟩
/-- a symbol's interval, its offset with it, moved by 2^63 + 2^39 -/
noncomputable def zrg (N : ZN) (u : Nat) : ZI := (Nat.add (N.1 (Nat.div u 1099511627776)).1 (Nat.mod u 1099511627776), Nat.add (N.1 (Nat.div u 1099511627776)).2 (Nat.mod u 1099511627776))
theorem zrg_ok {X : ZX} {Ls : Nat} {N : ZN} (hN : zNok X Ls N) (u : Nat) : ((zrg N u).1 : Int) ≤ zd (zsg X) u + 9223372586610589696 ∧ zd (zsg X) u + 9223372586610589696 ≤ ((zrg N u).2 : Int) := by
  have k := hN.1 (u / 1099511627776)
  obtain ⟨k1, k2⟩ := k
  have e1 : (zrg N u).1 = (N.1 (u / 1099511627776)).1 + u % 1099511627776 := rfl
  have e2 : (zrg N u).2 = (N.1 (u / 1099511627776)).2 + u % 1099511627776 := rfl
  rw [e1, e2]
  unfold zd
  omega
/-- an int's interval, moved by 2^31: none if it may be no int -/
noncomputable def ziv (N : ZN) (v : ZV) : Option ZI := zif (Nat.beq v.1 0) (some (zk v.2, zk v.2)) (zif (Nat.beq v.1 5) (zif (Nat.ble 9223372584463106048 (zrg N v.2).1) (zif (Nat.ble (Nat.succ (zrg N v.2).2) 9223372588758073344) (some (Nat.sub (zrg N v.2).1 9223372584463106048, Nat.sub (zrg N v.2).2 9223372584463106048)) none) none) none)
theorem zofI_in {x : Int} (h1 : -2147483648 ≤ x) (h2 : x < 2147483648) : (Int32.ofInt x).toInt = x := by
  rw [Int32.toInt_ofInt, Int.bmod_def, show Int32.size = 4294967296 from rfl]
  omega
theorem zofL_in {x : Int} (h1 : -9223372036854775808 ≤ x) (h2 : x < 9223372036854775808) : (Int64.ofInt x).toInt = x := by
  rw [Int64.toInt_ofInt, Int.bmod_def, show Int64.size = 18446744073709551616 from rfl]
  omega
theorem ziv5 {X : ZX} {Ls : Nat} {N : ZN} {u : Nat} {a : ZI} (hN : zNok X Ls N) (h : ziv N (5, u) = some a) : (a.1 : Int) ≤ zd (zsg X) u + 2147483648 ∧ zd (zsg X) u + 2147483648 ≤ (a.2 : Int) ∧ -2147483648 ≤ zd (zsg X) u ∧ zd (zsg X) u < 2147483648 := by
  have h : zif (Nat.ble 9223372584463106048 (zrg N u).1) (zif (Nat.ble (Nat.succ (zrg N u).2) 9223372588758073344) (some (Nat.sub (zrg N u).1 9223372584463106048, Nat.sub (zrg N u).2 9223372584463106048)) none) none = some a := h
  obtain ⟨e1, h⟩ := zif_some h
  obtain ⟨e2, h⟩ := zif_some h
  have e1 : 9223372584463106048 ≤ (zrg N u).1 := zl_le e1
  have e2 : (zrg N u).2 + 1 ≤ 9223372588758073344 := zl_le e2
  obtain ⟨k1, k2⟩ := zrg_ok hN u
  have h := Option.some.inj h
  rw [← h]
  simp only [Nat.sub_eq]
  omega
theorem ziv_or {N : ZN} {v : ZV} {a : ZI} (h : ziv N v = some a) : v.1 = 0 ∨ v.1 = 5 := by
  rcases zif_or h with ⟨e, h1⟩ | ⟨-, h1⟩
  · exact Or.inl (zb_eq e)
  · obtain ⟨e, h1⟩ := zif_some h1
    exact Or.inr (zb_eq e)
theorem ziv_ok {X : ZX} {Ls : Nat} {N : ZN} {ad : Nat → Nat} {n : Nat} {v : ZV} {w : Value} {a : ZI} (hN : zNok X Ls N) (h : ziv N v = some a) (hv : zv X ad n v w) : ∃ x : Int32, w = .int x ∧ zin a (zkI x) := by
  obtain ⟨t, u⟩ := v
  rcases ziv_or h with e | e
  · have e : t = 0 := e
    subst e
    have h2 : (zk u, zk u) = a := Option.some.inj h
    rw [← h2]
    exact ⟨_, hv, by rw [zk_nI]; exact zin_self _⟩
  · have e : t = 5 := e
    subst e
    obtain ⟨k1, k2, k3, k4⟩ := ziv5 hN h
    refine ⟨_, hv, ?_⟩
    unfold zin zkI
    rw [zofI_in k3 k4]
    omega
/-- what a comparison is -/
def zRp (c : Nat) (x y : Int) : Prop := match c with
  | 0 => x = y
  | 1 => x ≠ y
  | 2 => x < y
  | 3 => y ≤ x
  | 4 => y < x
  | 5 => x ≤ y
  | _ => False
theorem zrel_ok {c : Nat} {a b : ZI} {t : Bool} (h : zrel c a b = some t) {x y : Int32} (hx : zin a (zkI x)) (hy : zin b (zkI y)) : zRp c x.toInt y.toInt ↔ t = true := by
  have x1 := Int32.le_toInt x
  have y1 := Int32.le_toInt y
  have ex : (zkI x : Int) = x.toInt + 2147483648 := by unfold zkI; omega
  have ey : (zkI y : Int) = y.toInt + 2147483648 := by unfold zkI; omega
  unfold zrel at h
  split at h
  · have k := zeq_ok h hx hy
    rw [← k]
    show x.toInt = y.toInt ↔ _
    omega
  · obtain ⟨b1, e1, e2⟩ := znot_some h
    have k := zeq_ok e1 hx hy
    rw [e2, ← k]
    show x.toInt ≠ y.toInt ↔ _
    omega
  · have k := zlt_ok h hx hy
    rw [← k]
    show x.toInt < y.toInt ↔ _
    omega
  · obtain ⟨b1, e1, e2⟩ := znot_some h
    have k := zlt_ok e1 hx hy
    rw [e2, ← k]
    show y.toInt ≤ x.toInt ↔ _
    omega
  · have k := zlt_ok h hy hx
    rw [← k]
    show y.toInt < x.toInt ↔ _
    omega
  · obtain ⟨b1, e1, e2⟩ := znot_some h
    have k := zlt_ok e1 hy hx
    rw [e2, ← k]
    show x.toInt ≤ y.toInt ↔ _
    omega
  · cases h
/-- what a known order says of a comparison -/
noncomputable def zcc (c k : Nat) : Option Bool := match k, c with
  | 0, 0 => some false
  | 0, 1 => some true
  | 0, 2 => some true
  | 0, 3 => some false
  | 0, 4 => some false
  | 0, 5 => some true
  | 1, 0 => some true
  | 1, 1 => some false
  | 1, 2 => some false
  | 1, 3 => some true
  | 1, 4 => some false
  | 1, 5 => some true
  | 2, 0 => some false
  | 2, 1 => some true
  | 2, 2 => some false
  | 2, 3 => some true
  | 2, 4 => some true
  | 2, 5 => some false
  | 3, 4 => some false
  | 3, 5 => some true
  | 4, 2 => some false
  | 4, 3 => some true
  | 5, 0 => some false
  | 5, 1 => some true
  | _, _ => none
theorem zcc_ok {c k : Nat} {t : Bool} {x y : Int} (h : zcc c k = some t) (hk : zcmd k x y) : zRp c x y ↔ t = true := by
  unfold zcc at h
  split at h <;> cases h <;> simp only [zcmd, zRp, Bool.false_eq_true, iff_false, iff_true] at hk ⊢ <;> omega
noncomputable def zor2 (u v : Nat) : Nat := zif (Nat.beq u v) 1 (zif (Nat.ble u v) 0 2)
theorem zor2_ok {σ : Nat → Int} {u v : Nat} (hb : u / 1099511627776 = v / 1099511627776) : zcmd (zor2 u v) (zd σ u) (zd σ v) := by
  have key : ∀ k : Nat, zor2 u v = k → zcmd k (zd σ u) (zd σ v) := by
    intro k hk
    unfold zor2 at hk
    unfold zd
    rw [hb]
    rcases zif_or hk with ⟨e, h⟩ | ⟨e, h⟩
    · have e := zb_eq e
      subst e
      subst h
      exact rfl
    · have e := zb_ne e
      cases e2 : Nat.ble u v with
      | true =>
        rw [e2] at h
        have h : (0 : Nat) = k := h
        subst h
        have := zl_le e2
        show _ < _
        omega
      | false =>
        rw [e2] at h
        have h : (2 : Nat) = k := h
        subst h
        have := zl_nle e2
        show _ < _
        omega
  exact key _ rfl
noncomputable def zsame (t : Nat) (x y : ZV) : Bool := zif (Nat.beq x.1 t) (zif (Nat.beq y.1 t) (Nat.beq (Nat.div x.2 1099511627776) (Nat.div y.2 1099511627776)) false) false
noncomputable def zrels (N : ZN) (c : Nat) (x y : ZV) : Option Bool :=
  @Option.rec Nat (fun _ => Option Bool) (zob (ziv N x) fun a => zob (ziv N y) fun b => zif (zsame 5 x y) (zcc c (zor2 x.2 y.2)) (zrel c a b))
    (fun k => zif (zisi x) (zif (zisi y) (zcc c k) none) none) (zfc x y N.2.1)
noncomputable def zrelv (N : ZN) (c : Nat) (x y : ZV) : Option Bool := zif (Nat.beq x.1 0) (zif (Nat.beq y.1 0) (zrel c (zk x.2, zk x.2) (zk y.2, zk y.2)) (zrels N c x y)) (zrels N c x y)
theorem zci_i {X : ZX} {v : ZV} (h : zisi v = true) : zci X v = (zvi X v).toInt := by
  obtain ⟨t, u⟩ := v
  rcases zisi_or h with e | e
  · have e : t = 0 := e
    subst e
    rfl
  · have e : t = 5 := e
    subst e
    rfl
theorem zci_l {X : ZX} {v : ZV} (h : zisl v = true) : zci X v = (zvl X v).toInt := by
  obtain ⟨t, u⟩ := v
  rcases zisl_or h with e | e
  · have e : t = 1 := e
    subst e
    rfl
  · have e : t = 8 := e
    subst e
    rfl
theorem zsame_ok {t : Nat} {x y : ZV} (h : zsame t x y = true) : x.1 = t ∧ y.1 = t ∧ x.2 / 1099511627776 = y.2 / 1099511627776 := by
  rcases zif_or h with ⟨e1, h⟩ | ⟨-, h⟩
  · rcases zif_or h with ⟨e2, h⟩ | ⟨-, h⟩
    · exact ⟨zb_eq e1, zb_eq e2, zb_eq h⟩
    · cases h
  · cases h
theorem zrels_ok {X : ZX} {Ls : Nat} {N : ZN} {ad : Nat → Nat} {n c : Nat} {x y : ZV} {wx wy : Value} {t : Bool} (hN : zNok X Ls N) (h : zrels N c x y = some t) (hx : zv X ad n x wx) (hy : zv X ad n y wy) : ∃ a b : Int32, wx = .int a ∧ wy = .int b ∧ (zRp c a.toInt b.toInt ↔ t = true) := by
  unfold zrels at h
  cases hq : zfc x y N.2.1 with
  | some k =>
    rw [hq] at h
    have h : zif (zisi x) (zif (zisi y) (zcc c k) none) none = some t := h
    obtain ⟨e1, h⟩ := zif_some h
    obtain ⟨e2, h⟩ := zif_some h
    have kk := hN.2.1 _ (zfc_ok _ hq)
    have kk : zcmd k (zci X x) (zci X y) := kk
    rw [zci_i e1, zci_i e2] at kk
    exact ⟨_, _, zvi_ok e1 hx, zvi_ok e2 hy, zcc_ok h kk⟩
  | none =>
    rw [hq] at h
    have h : (zob (ziv N x) fun a => zob (ziv N y) fun b => zif (zsame 5 x y) (zcc c (zor2 x.2 y.2)) (zrel c a b)) = some t := h
    obtain ⟨a, ha, h⟩ := zob_some h
    obtain ⟨b, hb, h⟩ := zob_some h
    rcases zif_or h with ⟨e, h⟩ | ⟨-, h⟩
    · obtain ⟨tx, ux⟩ := x
      obtain ⟨ty, uy⟩ := y
      obtain ⟨e1, e2, e3⟩ := zsame_ok e
      have e1 : tx = 5 := e1
      have e2 : ty = 5 := e2
      have e3 : ux / 1099511627776 = uy / 1099511627776 := e3
      subst e1 e2
      obtain ⟨-, -, k3, k4⟩ := ziv5 hN ha
      obtain ⟨-, -, k5, k6⟩ := ziv5 hN hb
      refine ⟨_, _, hx, hy, ?_⟩
      rw [zofI_in k3 k4, zofI_in k5 k6]
      exact zcc_ok h (zor2_ok e3)
    · obtain ⟨x1, e1, k1⟩ := ziv_ok hN ha hx
      obtain ⟨y1, e2, k2⟩ := ziv_ok hN hb hy
      exact ⟨x1, y1, e1, e2, zrel_ok h k1 k2⟩
theorem zrelv_ok {X : ZX} {Ls : Nat} {N : ZN} {ad : Nat → Nat} {n c : Nat} {x y : ZV} {wx wy : Value} {t : Bool} (hN : zNok X Ls N) (h : zrelv N c x y = some t) (hx : zv X ad n x wx) (hy : zv X ad n y wy) : ∃ a b : Int32, wx = .int a ∧ wy = .int b ∧ (zRp c a.toInt b.toInt ↔ t = true) := by
  rcases zif_or h with ⟨e1, h⟩ | ⟨-, h⟩
  · rcases zif_or h with ⟨e2, h⟩ | ⟨-, h⟩
    · obtain ⟨tx, ux⟩ := x
      obtain ⟨ty, uy⟩ := y
      have e1 : tx = 0 := zb_eq e1
      have e2 : ty = 0 := zb_eq e2
      subst e1 e2
      refine ⟨_, _, hx, hy, zrel_ok h ?_ ?_⟩
      · rw [zk_nI]
        exact zin_self _
      · rw [zk_nI]
        exact zin_self _
    · exact zrels_ok hN h hx hy
  · exact zrels_ok hN h hx hy
def zopr (k : Nat) (a b r : Int32) : Prop := match k with
  | 0 => r = a + b
  | 1 => r = a - b
  | 2 => r = a * b
  | 3 => r = a &&& b
  | 4 => r = a ||| b
  | 5 => r = a ^^^ b
  | 7 => r = a >>> (b &&& 31)
  | 9 => ¬ b = 0 ∧ r = a / b
  | 10 => ¬ b = 0 ∧ r = a - a / b * b
  | _ => False
theorem zopd_r {X : ZX} {Ls k : Nat} {x y r : ZV} (h : zopd X Ls k x y r) (hk : k ≤ 10) : zopr k (zvi X x) (zvi X y) (zvi X r) := by
  match k, hk, h with
  | 0, _, h => exact h
  | 1, _, h => exact h
  | 2, _, h => exact h
  | 3, _, h => exact h
  | 4, _, h => exact h
  | 5, _, h => exact h
  | 6, _, h => exact h
  | 7, _, h => exact h
  | 8, _, h => exact h
  | 9, _, h => exact h
  | 10, _, h => exact h
theorem zior (a b : Nat) : nI a ||| nI b = nI (Nat.lor a b) := by
  show (⟨⟨BitVec.ofNat 32 a ||| BitVec.ofNat 32 b⟩⟩ : Int32) = ⟨⟨BitVec.ofNat 32 (a ||| b)⟩⟩
  rw [BitVec.ofNat_or]
theorem zushk : ∀ b : Nat, b < 32 → ((nI b).toUInt32 &&& Int32.toUInt32 31).toNat = b := by decide
theorem zushr {a b : Nat} (hb : Nat.ble 32 b = false) : ((nI a).toUInt32 >>> ((nI b).toUInt32 &&& Int32.toUInt32 31)).toInt32 = nI (Nat.div (Nat.mod a 4294967296) (Nat.pow 2 b)) := by
  have hb := zl_nle hb
  have h1 : ((nI a).toUInt32 >>> ((nI b).toUInt32 &&& Int32.toUInt32 31)).toNat = a % 4294967296 / 2 ^ b := by
    rw [UInt32.toNat_shiftRight, zushk b hb, Nat.shiftRight_eq_div_pow, Nat.mod_eq_of_lt hb]
    rfl
  have h2 : ((nI a).toUInt32 >>> ((nI b).toUInt32 &&& Int32.toUInt32 31)) = UInt32.ofNat (a % 4294967296 / 2 ^ b) := by
    rw [← UInt32.toNat_inj, h1, UInt32.toNat_ofNat']
    exact (Nat.mod_eq_of_lt (Nat.lt_of_le_of_lt (Nat.div_le_self _ _) (Nat.mod_lt a (show 0 < 4294967296 by decide)))).symm
  rw [h2]
  rfl
theorem zdivN {a d : Nat} (ha : Nat.ble 2147483648 a = false) (h0 : Nat.beq d 0 = false) (hd : Nat.ble 2147483648 d = false) : nI a / nI d = nI (Nat.div a d) := pk_div (zl_nle ha) (Nat.pos_of_ne_zero (zb_ne h0)) (zl_nle hd)
section ZS
variable {B0 Ls : Nat} {X : ZX} {p : Program} {l : Launch} {e : Env} {R : Room} {s : State} {m : MethodId} {args : Array Value} {below : List Frame} {meth : Method} {c : Code} {Q : State → Prop} {own : String} {cc : ByteArray} {nL : Nat} {ad0 : Nat → Nat} {n0 : Nat}
theorem zs_ib0 {kind pc : Nat} {x y : Int32} {H : Heap} {locs : List Loc} {cells slots : Nat} {ls : Array Slot} {rest : List Value} (F : zF B0 Ls X p l s m args meth c own cc nL) (ht : zibt kind = true) (hd : decode cc pc = .ok (zibI kind, 1)) (h : ∀ z : Int32, W p l e R s m args below meth c H locs cells slots Q (F0 m (pc + 1) ls (.int z :: rest))) : W p l e R s m args below meth c H locs cells slots Q (F0 m pc ls (.int y :: .int x :: rest)) := by
  obtain ⟨hx, hb, hml, hown, hts, hlk, hK, hF, hB, hst⟩ := F
  match kind, ht, hd with
  | 0, _, hd => exact lv_iadd hx hb hd (h _)
  | 1, _, hd => exact lv_isub hx hb hd (h _)
  | 2, _, hd => exact lv_imul hx hb hd (h _)
  | 3, _, hd => exact lv_iand hx hb hd (h _)
  | 4, _, hd => exact lv_ior hx hb hd (h _)
  | 5, _, hd => exact lv_ixor hx hb hd (h _)
  | 6, _, hd => exact lv_ishl hx hb hd (h _)
  | 7, _, hd => exact lv_ishr hx hb hd (h _)
  | 8, _, hd => exact lv_iushr hx hb hd rfl (h _)
theorem zs_ibc {kind pc a b r : Nat} {H : Heap} {locs : List Loc} {cells slots : Nat} {ls : Array Slot} {rest : List Value} (F : zF B0 Ls X p l s m args meth c own cc nL) (hc : zibc kind a b = some r) (hd : decode cc pc = .ok (zibI kind, 1)) (h : W p l e R s m args below meth c H locs cells slots Q (F0 m (pc + 1) ls (.int (nI r) :: rest))) : W p l e R s m args below meth c H locs cells slots Q (F0 m pc ls (.int (nI b) :: .int (nI a) :: rest)) := by
  obtain ⟨hx, hb, hml, hown, hts, hlk, hK, hF, hB, hst⟩ := F
  unfold zibc at hc
  split at hc
  · cases hc
    exact lv_iadd hx hb hd (by rw [zia]; exact h)
  · cases hc
    exact lv_isub hx hb hd (by rw [zis]; exact h)
  · cases hc
    exact lv_imul hx hb hd (by rw [zim]; exact h)
  · cases hc
    exact lv_iand hx hb hd (by rw [zand]; exact h)
  · cases hc
    exact lv_ior hx hb hd (by rw [zior]; exact h)
  · rcases zif_or hc with ⟨-, hc⟩ | ⟨h1, hc⟩
    · cases hc
    rcases zif_or hc with ⟨-, hc⟩ | ⟨h2, hc⟩
    · cases hc
    cases hc
    exact lv_ishr hx hb hd (by rw [zshr h1 h2]; exact h)
  · rcases zif_or hc with ⟨-, hc⟩ | ⟨h1, hc⟩
    · cases hc
    cases hc
    exact lv_iushr hx hb hd (zushr h1) h
  · rcases zif_or hc with ⟨-, hc⟩ | ⟨h1, hc⟩
    · cases hc
    rcases zif_or hc with ⟨-, hc⟩ | ⟨h2, hc⟩
    · cases hc
    rcases zif_or hc with ⟨-, hc⟩ | ⟨h3, hc⟩
    · cases hc
    cases hc
    exact lv_idiv hx hb hd (zne0 h2 h3) (by rw [zdivN h1 h2 h3]; exact h)
  · rcases zif_or hc with ⟨-, hc⟩ | ⟨h1, hc⟩
    · cases hc
    rcases zif_or hc with ⟨-, hc⟩ | ⟨h2, hc⟩
    · cases hc
    rcases zif_or hc with ⟨-, hc⟩ | ⟨h3, hc⟩
    · cases hc
    cases hc
    exact lv_irem hx hb hd (zne0 h2 h3) (by rw [zrem h1 h2 h3]; exact h)
  · cases hc
theorem zs_ibr {kind pc : Nat} {a b r : Int32} {H : Heap} {locs : List Loc} {cells slots : Nat} {ls : Array Slot} {rest : List Value} (F : zF B0 Ls X p l s m args meth c own cc nL) (hk : zopr kind a b r) (hd : decode cc pc = .ok (zibI kind, 1)) (h : W p l e R s m args below meth c H locs cells slots Q (F0 m (pc + 1) ls (.int r :: rest))) : W p l e R s m args below meth c H locs cells slots Q (F0 m pc ls (.int b :: .int a :: rest)) := by
  obtain ⟨hx, hb, hml, hown, hts, hlk, hK, hF, hB, hst⟩ := F
  unfold zopr at hk
  split at hk
  · exact lv_iadd hx hb hd (by rw [← hk]; exact h)
  · exact lv_isub hx hb hd (by rw [← hk]; exact h)
  · exact lv_imul hx hb hd (by rw [← hk]; exact h)
  · exact lv_iand hx hb hd (by rw [← hk]; exact h)
  · exact lv_ior hx hb hd (by rw [← hk]; exact h)
  · exact lv_ixor hx hb hd (by rw [← hk]; exact h)
  · exact lv_ishr hx hb hd (by rw [← hk]; exact h)
  · exact lv_idiv hx hb hd hk.1 (by rw [← hk.2]; exact h)
  · exact lv_irem hx hb hd hk.1 (by rw [← hk.2]; exact h)
  · exact hk.elim
noncomputable def zo_ibin (N : ZN) (k : ZK) (nx kind : Nat) (L : ZL) (st : List ZV) (G : ZG) : Option ZRes := match st with
  | y :: x :: r => zob (zib N kind x y) fun v => k nx L (v :: r) G
  | _ => none
theorem zaddc (a b : Int32) : a + b = b + a := Int32.add_comm a b
theorem zsubn (x : Int32) (c : Nat) : x + nI (Nat.sub 4294967296 (Nat.mod c 4294967296)) = x - nI c := by
  have e : nI (Nat.sub 4294967296 (Nat.mod c 4294967296)) = -nI c := by
    rw [← Int32.toInt_inj, Int32.toInt_neg, znI_toInt, znI_toInt]
    have h1 : c % 4294967296 < 4294967296 := Nat.mod_lt _ (by decide)
    show ((4294967296 - c % 4294967296 : Nat) : Int).bmod (2 ^ 32) = _
    simp only [Int.bmod_def]
    omega
  rw [e, Int32.sub_eq_add_neg]
theorem zs_ibin {N : ZN} {pc nx kind : Nat} {x y v : ZV} {L : ZL} {r : List ZV} {G : ZG} (F : zF B0 Ls X p l s m args meth c own cc nL) (hN : zNok X Ls N) (hc : decide (nx = pc + 1 ∧ decode cc pc = .ok (zibI kind, 1)) = true) (hv : zib N kind x y = some v) (h : zHd B0 X ad0 n0 p l e R s m args below meth c Q nL nx L (v :: r) G) : zHd B0 X ad0 n0 p l e R s m args below meth c Q nL pc L (y :: x :: r) G := by
  obtain ⟨rfl, hd⟩ := of_decide_eq_true hc
  intro ad hag H locs ls sv hW hS hL hT
  obtain ⟨wy, s1, rfl, hy, wx, sr, rfl, hx, hr⟩ := hT
  have any : ∀ kind : Nat, decode cc pc = .ok (zibI kind, 1) → zanyb kind x y = some v → W p l e R s m args below meth c H locs G.2.2.1 G.2.2.2 Q (F0 m pc ls (wy :: wx :: sr)) := by
    intro kind hd hv
    obtain ⟨h1, hv⟩ := zif_some hv
    obtain ⟨h2, hv⟩ := zif_some hv
    obtain ⟨h3, hv⟩ := zif_some hv
    have h4 : (6, 0) = v := Option.some.inj hv
    obtain ⟨a, rfl⟩ := zint_ok h1 hx
    obtain ⟨b, rfl⟩ := zint_ok h2 hy
    exact zs_ib0 F h3 hd fun z => h ad hag H locs ls _ hW hS hL ⟨_, _, rfl, by rw [← h4]; exact ⟨z, rfl⟩, hr⟩
  have go : ∀ (a b z : Int32), wx = .int a → wy = .int b → zopr kind a b z → zv X ad G.2.1 v (.int z) → W p l e R s m args below meth c H locs G.2.2.1 G.2.2.2 Q (F0 m pc ls (wy :: wx :: sr)) := by
    intro a b z e1 e2 h1 h2
    subst e1 e2
    exact zs_ibr F h1 hd (h ad hag H locs ls _ hW hS hL ⟨_, _, rfl, h2, hr⟩)
  have sy : zsib N kind x y = some v → W p l e R s m args below meth c H locs G.2.2.1 G.2.2.2 Q (F0 m pc ls (wy :: wx :: sr)) := by
    intro hv
    unfold zsib at hv
    cases hq : zfo kind x y N.2.2.1 with
    | some r1 =>
      rw [hq] at hv
      have hv : zif (Nat.ble kind 10) (zif (zisi x) (zif (zisi y) (zif (zisi r1) (some r1) none) none) none) none = some v := hv
      obtain ⟨e0, hv⟩ := zif_some hv
      obtain ⟨e1, hv⟩ := zif_some hv
      obtain ⟨e2, hv⟩ := zif_some hv
      obtain ⟨e3, hv⟩ := zif_some hv
      have hv : r1 = v := Option.some.inj hv
      subst hv
      exact go _ _ _ (zvi_ok e1 hx) (zvi_ok e2 hy) (zopd_r (hN.2.2.1 _ (zfo_ok _ hq)) (zl_le e0)) (zvi_is e3)
    | none =>
      rw [hq] at hv
      have a1 : zif (Nat.beq kind 0) (zaffa x y) (zif (Nat.beq kind 1) (zaffs x y) (zanyb kind x y)) = some v := hv
      obtain ⟨tx, ux⟩ := x
      obtain ⟨ty, uy⟩ := y
      rcases zif_or a1 with ⟨e0, a2⟩ | ⟨-, a2⟩
      · have e0 := zb_eq e0
        have hd0 : decode cc pc = .ok (zibI 0, 1) := by rw [← e0]; exact hd
        have go0 : ∀ (a b z : Int32), wx = .int a → wy = .int b → z = a + b → zv X ad G.2.1 v (.int z) → W p l e R s m args below meth c H locs G.2.2.1 G.2.2.2 Q (F0 m pc ls (wy :: wx :: sr)) := fun a b z q1 q2 q3 q4 => go a b z q1 q2 (by rw [e0]; exact q3) q4
        rcases zif_or a2 with ⟨e1, a3⟩ | ⟨-, a3⟩
        · rcases zif_or a3 with ⟨e2, a4⟩ | ⟨-, a4⟩
          · have e1 : tx = 5 := zb_eq e1
            have e2 : ty = 0 := zb_eq e2
            obtain ⟨z, hz, a5⟩ := zob_some a4
            have a6 : (5, z) = v := Option.some.inj a5
            rw [e1] at hx
            rw [e2] at hy
            exact go0 _ _ _ hx hy rfl (by rw [← a6]; exact congrArg Value.int (zoffI hz).symm)
          · exact any 0 hd0 a4
        · rcases zif_or a3 with ⟨e1, a4⟩ | ⟨-, a4⟩
          · rcases zif_or a4 with ⟨e2, a5⟩ | ⟨-, a5⟩
            · have e1 : tx = 0 := zb_eq e1
              have e2 : ty = 5 := zb_eq e2
              obtain ⟨z, hz, a6⟩ := zob_some a5
              have a7 : (5, z) = v := Option.some.inj a6
              rw [e1] at hx
              rw [e2] at hy
              exact go0 _ _ _ hx hy rfl (by rw [← a7]; exact congrArg Value.int ((zaddc _ _).trans (zoffI hz).symm))
            · exact any 0 hd0 a5
          · exact any 0 hd0 a4
      · rcases zif_or a2 with ⟨e0, a3⟩ | ⟨-, a3⟩
        · have e0 := zb_eq e0
          have hd0 : decode cc pc = .ok (zibI 1, 1) := by rw [e0] at hd; exact hd
          have go0 : ∀ (a b z : Int32), wx = .int a → wy = .int b → z = a - b → zv X ad G.2.1 v (.int z) → W p l e R s m args below meth c H locs G.2.2.1 G.2.2.2 Q (F0 m pc ls (wy :: wx :: sr)) := fun a b z q1 q2 q3 q4 => go a b z q1 q2 (by rw [e0]; exact q3) q4
          rcases zif_or a3 with ⟨e1, a4⟩ | ⟨-, a4⟩
          · rcases zif_or a4 with ⟨e2, a5⟩ | ⟨-, a5⟩
            · have e1 : tx = 5 := zb_eq e1
              have e2 : ty = 0 := zb_eq e2
              obtain ⟨z, hz, a6⟩ := zob_some a5
              have a7 : (5, z) = v := Option.some.inj a6
              rw [e1] at hx
              rw [e2] at hy
              exact go0 _ _ _ hx hy rfl (by rw [← a7]; exact congrArg Value.int ((zsubn _ _).symm.trans (zoffI hz).symm))
            · exact any 1 hd0 a5
          · exact any 1 hd0 a4
        · exact any kind hd a3
  unfold zib at hv
  rcases zif_or hv with ⟨e1, hv⟩ | ⟨-, hv⟩
  · rcases zif_or hv with ⟨e2, hv⟩ | ⟨-, hv⟩
    · cases hq : zibc kind x.2 y.2 with
      | none =>
        rw [hq] at hv
        exact sy hv
      | some u =>
        rw [hq] at hv
        have a9 : (0, u) = v := Option.some.inj hv
        obtain ⟨tx, ux⟩ := x
        obtain ⟨ty, uy⟩ := y
        have e1 : tx = 0 := zb_eq e1
        have e2 : ty = 0 := zb_eq e2
        rw [e1] at hx
        rw [e2] at hy
        have hx : wx = .int (nI ux) := hx
        have hy : wy = .int (nI uy) := hy
        rw [hx, hy]
        exact zs_ibc F hq hd (h ad hag H locs ls _ hW hS hL ⟨_, _, rfl, by rw [← a9]; rfl, hr⟩)
    · exact sy hv
  · exact sy hv
/-- 0 i2b 1 i2c 2 i2l 3 l2i 4 ineg 5 lneg -/
def zunI (kind : Nat) : Instr := match kind with
  | 0 => .i2b
  | 1 => .i2c
  | 2 => .i2l
  | 3 => .l2i
  | 4 => .ineg
  | _ => .lneg
/-- an int symbol that lies between two numbers -/
noncomputable def zwith (N : ZN) (v : ZV) (lo hi : Nat) : Bool := @Option.rec ZI (fun _ => Bool) false (fun a => zif (Nat.ble lo a.1) (Nat.ble a.2 hi) false) (ziv N v)
noncomputable def zopi (N : ZN) (k : Nat) (x : ZV) : Option ZV := zob (zfo k x (0, 0) N.2.2.1) fun r => zif (zisi x) (zif (zisi r) (some r) none) none
noncomputable def zun (N : ZN) (kind : Nat) (v : ZV) : Option ZV := match kind with
  | 0 => zif (Nat.beq v.1 0) (some (0, zsb v.2)) (zif (Nat.beq v.1 5) (zif (zwith N v 2147483520 2147483775) (some v) (zopi N 40 v)) (zif (zint v) (some (6, 0)) none))
  | 1 => zif (Nat.beq v.1 0) (some (0, Nat.mod (Nat.mod v.2 4294967296) 65536)) (zif (zint v) (some (6, 0)) none)
  | 2 => zif (Nat.beq v.1 0) (some (1, zsl v.2)) (zif (Nat.beq v.1 5) (@Option.rec ZI (fun _ => Option ZV) none (fun _ => some (8, v.2)) (ziv N v)) none)
  | 3 => zif (Nat.beq v.1 1) (some (0, Nat.mod v.2 4294967296)) (zif (Nat.beq v.1 8) (some (5, v.2)) none)
  | 4 => zif (Nat.beq v.1 0) (some (0, Nat.mod (Nat.sub 4294967296 (Nat.mod v.2 4294967296)) 4294967296)) (zopi N 44 v)
  | 5 => zif (Nat.beq v.1 1) (some (1, Nat.mod (Nat.sub 18446744073709551616 (Nat.mod v.2 18446744073709551616)) 18446744073709551616)) (zob (zfo 45 v (0, 0) N.2.2.1) fun r => zif (zisl v) (zif (zisl r) (some r) none) none)
  | _ => none
noncomputable def zo_un (N : ZN) (k : ZK) (nx kind : Nat) (L : ZL) (st : List ZV) (G : ZG) : Option ZRes := match st with
  | x :: r => zob (zun N kind x) fun v => k nx L (v :: r) G
  | _ => none
theorem zwith_ok {N : ZN} {u lo hi : Nat} (hN : zNok X Ls N) (h : zwith N (5, u) lo hi = true) : (lo : Int) ≤ zd (zsg X) u + 2147483648 ∧ zd (zsg X) u + 2147483648 ≤ (hi : Int) ∧ -2147483648 ≤ zd (zsg X) u ∧ zd (zsg X) u < 2147483648 := by
  unfold zwith at h
  cases hq : ziv N (5, u) with
  | none =>
    rw [hq] at h
    exact absurd (show false = true from h) (by decide)
  | some a =>
    rw [hq] at h
    have h : zif (Nat.ble lo a.1) (Nat.ble a.2 hi) false = true := h
    rcases zif_or h with ⟨e1, h⟩ | ⟨-, h⟩
    · have e1 := zl_le e1
      have e2 := zl_le h
      obtain ⟨k1, k2, k3, k4⟩ := ziv5 hN hq
      omega
    · cases h
theorem znegI (u : Nat) : -nI u = nI (Nat.mod (Nat.sub 4294967296 (Nat.mod u 4294967296)) 4294967296) := by
  rw [znI_mod, ← Int32.toInt_inj, Int32.toInt_neg, znI_toInt, znI_toInt]
  have h1 : u % 4294967296 < 4294967296 := Nat.mod_lt _ (by decide)
  show _ = ((4294967296 - u % 4294967296 : Nat) : Int).bmod (2 ^ 32)
  simp only [Int.bmod_def]
  omega
theorem zlN_mod (u : Nat) : lN (Nat.mod u 18446744073709551616) = lN u := by
  rw [← Int64.toInt_inj, zlN_toInt, zlN_toInt]
  show ((u % 18446744073709551616 : Nat) : Int).bmod (2 ^ 64) = _
  simp only [Int.bmod_def]
  omega
theorem znegL (u : Nat) : -lN u = lN (Nat.mod (Nat.sub 18446744073709551616 (Nat.mod u 18446744073709551616)) 18446744073709551616) := by
  rw [zlN_mod, ← Int64.toInt_inj, Int64.toInt_neg, zlN_toInt, zlN_toInt]
  have h1 : u % 18446744073709551616 < 18446744073709551616 := Nat.mod_lt _ (by decide)
  show _ = ((18446744073709551616 - u % 18446744073709551616 : Nat) : Int).bmod (2 ^ 64)
  simp only [Int.bmod_def]
  omega
theorem zi2bI {x : Int} (h1 : -128 ≤ x) (h2 : x < 128) : (Int32.ofInt x).toInt8.toInt32 = Int32.ofInt x := by
  rw [← Int32.toInt_inj, lg_i2b_toInt, Int32.toInt_ofInt]
  simp only [Int.bmod_def, show Int32.size = 4294967296 from rfl]
  omega
theorem zi2lI {x : Int} (h1 : -2147483648 ≤ x) (h2 : x < 2147483648) : (Int32.ofInt x).toInt64 = Int64.ofInt x := by
  rw [← Int64.toInt_inj, Int32.toInt_toInt64, zofI_in h1 h2, zofL_in (by omega) (by omega)]
theorem zl2iI (x : Int) : (Int64.ofInt x).toInt32 = Int32.ofInt x := by
  rw [← Int32.toInt_inj, Int64.toInt_toInt32, Int64.toInt_ofInt, Int32.toInt_ofInt]
  simp only [Int.bmod_def, show Int32.size = 4294967296 from rfl, show Int64.size = 18446744073709551616 from rfl]
  omega
theorem zs_un {N : ZN} {pc nx kind : Nat} {x v : ZV} {L : ZL} {r : List ZV} {G : ZG} (F : zF B0 Ls X p l s m args meth c own cc nL) (hN : zNok X Ls N) (hc : decide (nx = pc + 1 ∧ decode cc pc = .ok (zunI kind, 1)) = true) (hv : zun N kind x = some v) (h : zHd B0 X ad0 n0 p l e R s m args below meth c Q nL nx L (v :: r) G) : zHd B0 X ad0 n0 p l e R s m args below meth c Q nL pc L (x :: r) G := by
  obtain ⟨rfl, hd⟩ := of_decide_eq_true hc
  obtain ⟨hx0, hb, hml, hown, hts, hlk, hK, hF, hB, hst⟩ := F
  intro ad hag H locs ls sv hW hS hL hT
  obtain ⟨wx, sr, rfl, hx, hr⟩ := hT
  have go : ∀ w : Value, zv X ad G.2.1 v w → W p l e R s m args below meth c H locs G.2.2.1 G.2.2.2 Q (F0 m (pc + 1) ls (w :: sr)) := fun w hw => h ad hag H locs ls _ hW hS hL ⟨_, _, rfl, hw, hr⟩
  have goI : ∀ u : Nat, v = (0, u) → W p l e R s m args below meth c H locs G.2.2.1 G.2.2.2 Q (F0 m (pc + 1) ls (.int (nI u) :: sr)) := fun u hu => go _ (by rw [hu]; rfl)
  have goL : ∀ u : Nat, v = (1, u) → W p l e R s m args below meth c H locs G.2.2.1 G.2.2.2 Q (F0 m (pc + 1) ls (.long (lN u) :: sr)) := fun u hu => go _ (by rw [hu]; rfl)
  have opi : ∀ k : Nat, zopi N k x = some v → ∃ a b : Int32, wx = .int a ∧ zv X ad G.2.1 v (.int b) ∧ zopd X Ls k x (0, 0) v ∧ zvi X x = a ∧ zvi X v = b := by
    intro k h1
    obtain ⟨r1, hr1, h1⟩ := zob_some h1
    obtain ⟨e1, h1⟩ := zif_some h1
    obtain ⟨e2, h1⟩ := zif_some h1
    have h1 : r1 = v := Option.some.inj h1
    subst h1
    exact ⟨_, _, zvi_ok e1 hx, zvi_is e2, hN.2.2.1 _ (zfo_ok _ hr1), rfl, rfl⟩
  unfold zun at hv
  split at hv
  · rcases zif_or hv with ⟨e1, hv⟩ | ⟨-, hv⟩
    · obtain ⟨tx, ux⟩ := x
      have e1 : tx = 0 := zb_eq e1
      subst e1
      have hx : wx = .int (nI ux) := hx
      subst hx
      exact lv_i2b hx0 hb hd (zi2b ux) (goI (zsb ux) (Option.some.inj hv).symm)
    · rcases zif_or hv with ⟨e1, hv⟩ | ⟨-, hv⟩
      · rcases zif_or hv with ⟨e2, hv⟩ | ⟨-, hv⟩
        · obtain ⟨tx, ux⟩ := x
          have e1 : tx = 5 := zb_eq e1
          subst e1
          obtain ⟨k1, k2, -, -⟩ := zwith_ok hN e2
          have hv : (5, ux) = v := Option.some.inj hv
          have hx2 : wx = .int (Int32.ofInt (zd (zsg X) ux)) := hx
          subst hx2
          exact lv_i2b hx0 hb hd (zi2bI (by omega) (by omega)) (go _ (by rw [← hv]; rfl))
        · obtain ⟨a, b, e3, e4, e5, e6, e7⟩ := opi 40 hv
          subst e3
          have e5 : zvi X v = (zvi X x).toInt8.toInt32 := e5
          exact lv_i2b hx0 hb hd (by rw [← e6, ← e5]) (go _ (by rw [e7]; exact e4))
      · obtain ⟨h1, hv⟩ := zif_some hv
        have hv : (6, 0) = v := Option.some.inj hv
        obtain ⟨a, rfl⟩ := zint_ok h1 hx
        exact lv_i2b hx0 hb hd rfl (go _ (by rw [← hv]; exact ⟨_, rfl⟩))
  · rcases zif_or hv with ⟨e1, hv⟩ | ⟨-, hv⟩
    · obtain ⟨tx, ux⟩ := x
      have e1 : tx = 0 := zb_eq e1
      subst e1
      have hx : wx = .int (nI ux) := hx
      subst hx
      exact lv_i2c hx0 hb hd (zi2c ux) (goI _ (Option.some.inj hv).symm)
    · obtain ⟨h1, hv⟩ := zif_some hv
      have hv : (6, 0) = v := Option.some.inj hv
      obtain ⟨a, rfl⟩ := zint_ok h1 hx
      exact lv_i2c hx0 hb hd rfl (go _ (by rw [← hv]; exact ⟨_, rfl⟩))
  · rcases zif_or hv with ⟨e1, hv⟩ | ⟨-, hv⟩
    · obtain ⟨tx, ux⟩ := x
      have e1 : tx = 0 := zb_eq e1
      subst e1
      have hx : wx = .int (nI ux) := hx
      subst hx
      exact lv_i2l hx0 hb hd (zi2l ux) (goL (zsl ux) (Option.some.inj hv).symm)
    · obtain ⟨e1, hv⟩ := zif_some hv
      obtain ⟨tx, ux⟩ := x
      have e1 : tx = 5 := zb_eq e1
      subst e1
      cases hq : ziv N (5, ux) with
      | none =>
        rw [hq] at hv
        exact absurd (show (none : Option ZV) = some v from hv) (by intro q; cases q)
      | some a =>
        rw [hq] at hv
        have hv : (8, ux) = v := Option.some.inj hv
        obtain ⟨-, -, k3, k4⟩ := ziv5 hN hq
        have hx : wx = .int (Int32.ofInt (zd (zsg X) ux)) := hx
        subst hx
        exact lv_i2l hx0 hb hd (zi2lI k3 k4) (go _ (by rw [← hv]; rfl))
  · rcases zif_or hv with ⟨e1, hv⟩ | ⟨-, hv⟩
    · obtain ⟨tx, ux⟩ := x
      have e1 : tx = 1 := zb_eq e1
      subst e1
      have hx : wx = .long (lN ux) := hx
      subst hx
      exact lv_l2i hx0 hb hd ((lN_i ux).trans (znI_mod ux).symm) (goI _ (Option.some.inj hv).symm)
    · obtain ⟨e1, hv⟩ := zif_some hv
      obtain ⟨tx, ux⟩ := x
      have e1 : tx = 8 := zb_eq e1
      subst e1
      have hv : (5, ux) = v := Option.some.inj hv
      have hx : wx = .long (Int64.ofInt (zd (zsg X) ux)) := hx
      subst hx
      exact lv_l2i hx0 hb hd (zl2iI _) (go _ (by rw [← hv]; rfl))
  · rcases zif_or hv with ⟨e1, hv⟩ | ⟨-, hv⟩
    · obtain ⟨tx, ux⟩ := x
      have e1 : tx = 0 := zb_eq e1
      subst e1
      have hx : wx = .int (nI ux) := hx
      subst hx
      refine lv_ineg hx0 hb hd ?_
      rw [znegI]
      exact goI _ (Option.some.inj hv).symm
    · obtain ⟨a, b, e3, e4, e5, e6, e7⟩ := opi 44 hv
      subst e3
      have e5 : zvi X v = -zvi X x := e5
      refine lv_ineg hx0 hb hd ?_
      rw [← e6, ← e5]
      exact go _ (by rw [e7]; exact e4)
  · rcases zif_or hv with ⟨e1, hv⟩ | ⟨-, hv⟩
    · obtain ⟨tx, ux⟩ := x
      have e1 : tx = 1 := zb_eq e1
      subst e1
      have hx : wx = .long (lN ux) := hx
      subst hx
      refine lv_lneg hx0 hb hd ?_
      rw [znegL]
      exact goL _ (Option.some.inj hv).symm
    · obtain ⟨r1, hr1, h1⟩ := zob_some hv
      obtain ⟨e1, h1⟩ := zif_some h1
      obtain ⟨e2, h1⟩ := zif_some h1
      have h1 : r1 = v := Option.some.inj h1
      subst h1
      have e5 : zvl X r1 = -zvl X x := hN.2.2.1 _ (zfo_ok _ hr1)
      have hx2 := zvl_ok e1 hx
      subst hx2
      refine lv_lneg hx0 hb hd ?_
      rw [← e5]
      exact go _ (zvl_is e2)
  · cases hv
/-- longs: 0 ladd 1 lsub 2 lmul 3 land 9 ldiv 10 lrem -/
def zlbI (kind : Nat) : Instr := match kind with
  | 0 => .ladd
  | 1 => .lsub
  | 2 => .lmul
  | 3 => .land
  | 9 => .ldiv
  | _ => .lrem
noncomputable def zlbc (kind a b : Nat) : Option Nat := match kind with
  | 0 => some (Nat.mod (Nat.add a b) 18446744073709551616)
  | 1 => some (Nat.mod (Nat.add a (Nat.sub 18446744073709551616 (Nat.mod b 18446744073709551616))) 18446744073709551616)
  | 2 => some (Nat.mod (Nat.mul a b) 18446744073709551616)
  | 3 => some (Nat.land a b)
  | _ => none
noncomputable def zlba (x y : ZV) : Option ZV := zif (Nat.beq x.1 8) (zif (Nat.beq y.1 1) (zob (zoff 18446744073709551616 x.2 y.2) fun z => some (8, z)) none) (zif (Nat.beq x.1 1) (zif (Nat.beq y.1 8) (zob (zoff 18446744073709551616 y.2 x.2) fun z => some (8, z)) none) none)
noncomputable def zlbs (x y : ZV) : Option ZV := zif (Nat.beq x.1 8) (zif (Nat.beq y.1 1) (zob (zoff 18446744073709551616 x.2 (Nat.sub 18446744073709551616 (Nat.mod y.2 18446744073709551616))) fun z => some (8, z)) none) none
noncomputable def zlbt (N : ZN) (kind : Nat) (x y : ZV) : Option ZV :=
  @Option.rec ZV (fun _ => Option ZV) (zif (Nat.beq kind 0) (zlba x y) (zif (Nat.beq kind 1) (zlbs x y) none))
    (fun r => zif (Nat.ble kind 10) (zif (zisl x) (zif (zisl y) (zif (zisl r) (some r) none) none) none) none) (zfo (Nat.add 20 kind) x y N.2.2.1)
noncomputable def zlb (N : ZN) (kind : Nat) (x y : ZV) : Option ZV :=
  zif (Nat.beq x.1 1) (zif (Nat.beq y.1 1) (@Option.rec Nat (fun _ => Option ZV) (zlbt N kind x y) (fun u => some (1, u)) (zlbc kind x.2 y.2)) (zlbt N kind x y)) (zlbt N kind x y)
noncomputable def zo_lbin (N : ZN) (k : ZK) (nx kind : Nat) (L : ZL) (st : List ZV) (G : ZG) : Option ZRes := match st with
  | y :: x :: r => zob (zlb N kind x y) fun v => k nx L (v :: r) G
  | _ => none
def zoprl (k : Nat) (a b r : Int64) : Prop := match k with
  | 0 => r = a + b
  | 1 => r = a - b
  | 2 => r = a * b
  | 3 => r = a &&& b
  | 9 => ¬ b = 0 ∧ r = a / b
  | 10 => ¬ b = 0 ∧ r = a - a / b * b
  | _ => False
theorem zopd_l {k : Nat} {x y r : ZV} (h : zopd X Ls (20 + k) x y r) (hk : k ≤ 10) : zoprl k (zvl X x) (zvl X y) (zvl X r) := by
  match k, hk, h with
  | 0, _, h => exact h
  | 1, _, h => exact h
  | 2, _, h => exact h
  | 3, _, h => exact h
  | 4, _, h => exact h
  | 5, _, h => exact h
  | 6, _, h => exact h
  | 7, _, h => exact h
  | 8, _, h => exact h
  | 9, _, h => exact h
  | 10, _, h => exact h
theorem zs_lbr {kind pc : Nat} {a b r : Int64} {H : Heap} {locs : List Loc} {cells slots : Nat} {ls : Array Slot} {rest : List Value} (F : zF B0 Ls X p l s m args meth c own cc nL) (hk : zoprl kind a b r) (hd : decode cc pc = .ok (zlbI kind, 1)) (h : W p l e R s m args below meth c H locs cells slots Q (F0 m (pc + 1) ls (.long r :: rest))) : W p l e R s m args below meth c H locs cells slots Q (F0 m pc ls (.long b :: .long a :: rest)) := by
  obtain ⟨hx, hb, hml, hown, hts, hlk, hK, hF, hB, hst⟩ := F
  unfold zoprl at hk
  split at hk
  · exact lv_ladd hx hb hd (by rw [← hk]; exact h)
  · exact lv_lsub hx hb hd (by rw [← hk]; exact h)
  · exact lv_lmul hx hb hd (by rw [← hk]; exact h)
  · exact lv_land hx hb hd (by rw [← hk]; exact h)
  · exact lv_ldiv hx hb hd hk.1 (by rw [← hk.2]; exact h)
  · exact lv_lrem hx hb hd hk.1 (by rw [← hk.2]; exact h)
  · exact hk.elim
theorem zlaN (a b : Nat) : lN a + lN b = lN (a + b) := (Int64.ofNat_add a b).symm
theorem zlmN (a b : Nat) : lN a * lN b = lN (a * b) := (Int64.ofNat_mul a b).symm
theorem zlandN (a b : Nat) : lN a &&& lN b = lN (Nat.land a b) := by
  show (⟨⟨BitVec.ofNat 64 a &&& BitVec.ofNat 64 b⟩⟩ : Int64) = ⟨⟨BitVec.ofNat 64 (a &&& b)⟩⟩
  rw [BitVec.ofNat_and]
theorem zlsubn (x : Int64) (c : Nat) : x + lN (Nat.sub 18446744073709551616 (Nat.mod c 18446744073709551616)) = x - lN c := by
  have e : lN (Nat.sub 18446744073709551616 (Nat.mod c 18446744073709551616)) = -lN c := by
    rw [← Int64.toInt_inj, Int64.toInt_neg, zlN_toInt, zlN_toInt]
    have h1 : c % 18446744073709551616 < 18446744073709551616 := Nat.mod_lt _ (by decide)
    show ((18446744073709551616 - c % 18446744073709551616 : Nat) : Int).bmod (2 ^ 64) = _
    simp only [Int.bmod_def]
    omega
  rw [e, Int64.sub_eq_add_neg]
theorem zs_lbin {N : ZN} {pc nx kind : Nat} {x y v : ZV} {L : ZL} {r : List ZV} {G : ZG} (F : zF B0 Ls X p l s m args meth c own cc nL) (hN : zNok X Ls N) (hc : decide (nx = pc + 1 ∧ decode cc pc = .ok (zlbI kind, 1)) = true) (hv : zlb N kind x y = some v) (h : zHd B0 X ad0 n0 p l e R s m args below meth c Q nL nx L (v :: r) G) : zHd B0 X ad0 n0 p l e R s m args below meth c Q nL pc L (y :: x :: r) G := by
  obtain ⟨rfl, hd⟩ := of_decide_eq_true hc
  intro ad hag H locs ls sv hW hS hL hT
  obtain ⟨wy, s1, rfl, hy, wx, sr, rfl, hx, hr⟩ := hT
  have go : ∀ (a b z : Int64), wx = .long a → wy = .long b → zoprl kind a b z → zv X ad G.2.1 v (.long z) → W p l e R s m args below meth c H locs G.2.2.1 G.2.2.2 Q (F0 m pc ls (wy :: wx :: sr)) := by
    intro a b z e1 e2 h1 h2
    subst e1 e2
    exact zs_lbr F h1 hd (h ad hag H locs ls _ hW hS hL ⟨_, _, rfl, h2, hr⟩)
  have sy : zlbt N kind x y = some v → W p l e R s m args below meth c H locs G.2.2.1 G.2.2.2 Q (F0 m pc ls (wy :: wx :: sr)) := by
    intro hv
    unfold zlbt at hv
    cases hq : zfo (Nat.add 20 kind) x y N.2.2.1 with
    | some r1 =>
      rw [hq] at hv
      have hv : zif (Nat.ble kind 10) (zif (zisl x) (zif (zisl y) (zif (zisl r1) (some r1) none) none) none) none = some v := hv
      obtain ⟨e0, hv⟩ := zif_some hv
      obtain ⟨e1, hv⟩ := zif_some hv
      obtain ⟨e2, hv⟩ := zif_some hv
      obtain ⟨e3, hv⟩ := zif_some hv
      have hv : r1 = v := Option.some.inj hv
      subst hv
      exact go _ _ _ (zvl_ok e1 hx) (zvl_ok e2 hy) (zopd_l (hN.2.2.1 _ (zfo_ok _ hq)) (zl_le e0)) (zvl_is e3)
    | none =>
      rw [hq] at hv
      have a1 : zif (Nat.beq kind 0) (zlba x y) (zif (Nat.beq kind 1) (zlbs x y) none) = some v := hv
      obtain ⟨tx, ux⟩ := x
      obtain ⟨ty, uy⟩ := y
      rcases zif_or a1 with ⟨e0, a2⟩ | ⟨-, a2⟩
      · have e0 := zb_eq e0
        have go0 : ∀ (a b z : Int64), wx = .long a → wy = .long b → z = a + b → zv X ad G.2.1 v (.long z) → W p l e R s m args below meth c H locs G.2.2.1 G.2.2.2 Q (F0 m pc ls (wy :: wx :: sr)) := fun a b z q1 q2 q3 q4 => go a b z q1 q2 (by rw [e0]; exact q3) q4
        rcases zif_or a2 with ⟨e1, a3⟩ | ⟨-, a3⟩
        · obtain ⟨e2, a4⟩ := zif_some a3
          have e1 : tx = 8 := zb_eq e1
          have e2 : ty = 1 := zb_eq e2
          obtain ⟨z, hz, a5⟩ := zob_some a4
          have a6 : (8, z) = v := Option.some.inj a5
          rw [e1] at hx
          rw [e2] at hy
          exact go0 _ _ _ hx hy rfl (by rw [← a6]; exact congrArg Value.long (zoffL hz).symm)
        · obtain ⟨e1, a4⟩ := zif_some a3
          obtain ⟨e2, a5⟩ := zif_some a4
          have e1 : tx = 1 := zb_eq e1
          have e2 : ty = 8 := zb_eq e2
          obtain ⟨z, hz, a6⟩ := zob_some a5
          have a7 : (8, z) = v := Option.some.inj a6
          rw [e1] at hx
          rw [e2] at hy
          exact go0 _ _ _ hx hy rfl (by rw [← a7]; exact congrArg Value.long ((Int64.add_comm _ _).trans (zoffL hz).symm))
      · obtain ⟨e0, a3⟩ := zif_some a2
        have e0 := zb_eq e0
        obtain ⟨e1, a4⟩ := zif_some a3
        obtain ⟨e2, a5⟩ := zif_some a4
        have e1 : tx = 8 := zb_eq e1
        have e2 : ty = 1 := zb_eq e2
        obtain ⟨z, hz, a6⟩ := zob_some a5
        have a7 : (8, z) = v := Option.some.inj a6
        rw [e1] at hx
        rw [e2] at hy
        exact go _ _ _ hx hy (by rw [e0]; rfl) (by rw [← a7]; exact congrArg Value.long ((zlsubn _ _).symm.trans (zoffL hz).symm))
  unfold zlb at hv
  rcases zif_or hv with ⟨e1, hv⟩ | ⟨-, hv⟩
  · rcases zif_or hv with ⟨e2, hv⟩ | ⟨-, hv⟩
    · cases hq : zlbc kind x.2 y.2 with
      | none =>
        rw [hq] at hv
        exact sy hv
      | some u =>
        rw [hq] at hv
        have a9 : (1, u) = v := Option.some.inj hv
        obtain ⟨tx, ux⟩ := x
        obtain ⟨ty, uy⟩ := y
        have e1 : tx = 1 := zb_eq e1
        have e2 : ty = 1 := zb_eq e2
        rw [e1] at hx
        rw [e2] at hy
        refine go (lN ux) (lN uy) (lN u) hx hy ?_ (by rw [← a9]; rfl)
        have hq : zlbc kind ux uy = some u := hq
        unfold zlbc at hq
        split at hq
        · cases hq
          show lN (Nat.mod (ux + uy) 18446744073709551616) = _
          rw [zlN_mod, zlaN]
        · cases hq
          show lN (Nat.mod (ux + (Nat.sub 18446744073709551616 (Nat.mod uy 18446744073709551616))) 18446744073709551616) = _
          rw [zlN_mod, ← zlaN, zlsubn]
        · cases hq
          show lN (Nat.mod (ux * uy) 18446744073709551616) = _
          rw [zlN_mod, zlmN]
        · cases hq
          exact (zlandN ux uy).symm
        · cases hq
    · exact sy hv
  · exact sy hv
/-- lcmp -/
noncomputable def zivl (N : ZN) (v : ZV) : Option ZI := zif (Nat.beq v.1 1) (some (zkl v.2, zkl v.2)) (zif (Nat.beq v.1 8) (zif (Nat.ble 549755813888 (zrg N v.2).1) (zif (Nat.ble (Nat.succ (zrg N v.2).2) 18446744623465365504) (some (Nat.sub (zrg N v.2).1 549755813888, Nat.sub (zrg N v.2).2 549755813888)) none) none) none)
theorem zivl8 {N : ZN} {u : Nat} {a : ZI} (hN : zNok X Ls N) (h : zivl N (8, u) = some a) : (a.1 : Int) ≤ zd (zsg X) u + 9223372036854775808 ∧ zd (zsg X) u + 9223372036854775808 ≤ (a.2 : Int) ∧ -9223372036854775808 ≤ zd (zsg X) u ∧ zd (zsg X) u < 9223372036854775808 := by
  have h : zif (Nat.ble 549755813888 (zrg N u).1) (zif (Nat.ble (Nat.succ (zrg N u).2) 18446744623465365504) (some (Nat.sub (zrg N u).1 549755813888, Nat.sub (zrg N u).2 549755813888)) none) none = some a := h
  obtain ⟨e1, h⟩ := zif_some h
  obtain ⟨e2, h⟩ := zif_some h
  have e1 : 549755813888 ≤ (zrg N u).1 := zl_le e1
  have e2 : (zrg N u).2 + 1 ≤ 18446744623465365504 := zl_le e2
  obtain ⟨k1, k2⟩ := zrg_ok hN u
  have h := Option.some.inj h
  rw [← h]
  simp only [Nat.sub_eq]
  omega
theorem zivl_ok {N : ZN} {ad : Nat → Nat} {n : Nat} {v : ZV} {w : Value} {a : ZI} (hN : zNok X Ls N) (h : zivl N v = some a) (hv : zv X ad n v w) : ∃ x : Int64, w = .long x ∧ zin a (zkL x) := by
  obtain ⟨t, u⟩ := v
  rcases zif_or h with ⟨e, h1⟩ | ⟨-, h1⟩
  · have e : t = 1 := zb_eq e
    subst e
    have h2 : (zkl u, zkl u) = a := Option.some.inj h1
    rw [← h2]
    exact ⟨_, hv, by rw [zkl_lN]; exact zin_self _⟩
  · obtain ⟨e, -⟩ := zif_some h1
    have e : t = 8 := zb_eq e
    subst e
    obtain ⟨k1, k2, k3, k4⟩ := zivl8 hN h
    refine ⟨_, hv, ?_⟩
    unfold zin zkL
    rw [zofL_in k3 k4]
    omega
noncomputable def zlc (a b : ZI) : Option Nat := zob (zlt a b) fun t => zif t (some 4294967295) (zob (zeq a b) fun t2 => zif t2 (some 0) (some 1))
theorem zlc_ok {a b : ZI} {x y : Int64} {r : Nat} (h : zlc a b = some r) (hx : zin a (zkL x)) (hy : zin b (zkL y)) : lg_cmp x y = nI r := by
  obtain ⟨t, h1, h⟩ := zob_some h
  have e1 := zlt_ok h1 hx hy
  unfold lg_cmp
  rcases zif_or h with ⟨rfl, h⟩ | ⟨rfl, h⟩
  · cases h
    have k := e1.mpr rfl
    rw [if_neg (fun z => absurd (zkl_lt.mp z) (by omega)), if_neg (fun z => absurd (zkl_eq.mp z) (by omega))]
    decide
  · obtain ⟨t2, h2, h⟩ := zob_some h
    have e2 := zeq_ok h2 hx hy
    have k : ¬ zkL x < zkL y := fun z => by cases e1.mp z
    rcases zif_or h with ⟨rfl, h⟩ | ⟨rfl, h⟩
    · cases h
      have k2 := e2.mpr rfl
      rw [if_neg (fun z => absurd (zkl_lt.mp z) (by omega)), if_pos (zkl_eq.mpr k2)]
      rfl
    · cases h
      have k2 : ¬ zkL x = zkL y := fun z => by cases e2.mp z
      rw [if_pos (zkl_lt.mpr (by omega))]
      rfl
noncomputable def zcmu (k : Nat) : Option Nat := match k with
  | 0 => some 4294967295
  | 1 => some 0
  | 2 => some 1
  | _ => none
theorem zcmu_ok {k r : Nat} {x y : Int64} (h : zcmu k = some r) (hk : zcmd k x.toInt y.toInt) : lg_cmp x y = nI r := by
  unfold lg_cmp
  unfold zcmu at h
  split at h
  · cases h
    have hk : x.toInt < y.toInt := hk
    rw [if_neg (fun z => absurd (Int64.lt_iff_toInt_lt.mp z) (by omega)), if_neg (fun z => by rw [z] at hk; omega)]
    decide
  · cases h
    have hk : x = y := Int64.toInt_inj.mp hk
    rw [if_neg (fun z => absurd (Int64.lt_iff_toInt_lt.mp z) (by rw [hk]; omega)), if_pos hk]
    rfl
  · cases h
    have hk : y.toInt < x.toInt := hk
    rw [if_pos (Int64.lt_iff_toInt_lt.mpr hk)]
    rfl
  · cases h
noncomputable def zlcs (N : ZN) (x y : ZV) : Option ZV :=
  @Option.rec ZV (fun _ => Option ZV)
    (@Option.rec Nat (fun _ => Option ZV) (zob (zivl N x) fun a => zob (zivl N y) fun b => zob (zif (zsame 8 x y) (zcmu (zor2 x.2 y.2)) (zlc a b)) fun u => some (0, u))
      (fun k => zif (zisl x) (zif (zisl y) (zob (zcmu k) fun u => some (0, u)) none) none) (zfc x y N.2.1))
    (fun r => zif (zisl x) (zif (zisl y) (zif (zisi r) (some r) none) none) none) (zfo 50 x y N.2.2.1)
noncomputable def zlcv (N : ZN) (x y : ZV) : Option ZV := zif (Nat.beq x.1 1) (zif (Nat.beq y.1 1) (zob (zlc (zkl x.2, zkl x.2) (zkl y.2, zkl y.2)) fun u => some (0, u)) (zlcs N x y)) (zlcs N x y)
theorem zlcv_ok {N : ZN} {ad : Nat → Nat} {n : Nat} {x y v : ZV} {wx wy : Value} (hN : zNok X Ls N) (h : zlcv N x y = some v) (hx : zv X ad n x wx) (hy : zv X ad n y wy) : ∃ a b : Int64, wx = .long a ∧ wy = .long b ∧ zv X ad n v (.int (lg_cmp a b)) := by
  have sy : zlcs N x y = some v → ∃ a b : Int64, wx = .long a ∧ wy = .long b ∧ zv X ad n v (.int (lg_cmp a b)) := by
    intro h
    unfold zlcs at h
    cases ho : zfo 50 x y N.2.2.1 with
    | some r =>
      rw [ho] at h
      have h : zif (zisl x) (zif (zisl y) (zif (zisi r) (some r) none) none) none = some v := h
      obtain ⟨e1, h⟩ := zif_some h
      obtain ⟨e2, h⟩ := zif_some h
      obtain ⟨e3, h⟩ := zif_some h
      have h : r = v := Option.some.inj h
      subst h
      have kk : zvi X r = lg_cmp (zvl X x) (zvl X y) := hN.2.2.1 _ (zfo_ok _ ho)
      exact ⟨_, _, zvl_ok e1 hx, zvl_ok e2 hy, by rw [← kk]; exact zvi_is e3⟩
    | none =>
      rw [ho] at h
      cases hq : zfc x y N.2.1 with
      | some k =>
        rw [hq] at h
        have h : zif (zisl x) (zif (zisl y) (zob (zcmu k) fun u => some (0, u)) none) none = some v := h
        obtain ⟨e1, h⟩ := zif_some h
        obtain ⟨e2, h⟩ := zif_some h
        obtain ⟨u, hu, h⟩ := zob_some h
        have h : (0, u) = v := Option.some.inj h
        have kk : zcmd k (zci X x) (zci X y) := hN.2.1 _ (zfc_ok _ hq)
        rw [zci_l e1, zci_l e2] at kk
        exact ⟨_, _, zvl_ok e1 hx, zvl_ok e2 hy, by rw [← h, zcmu_ok hu kk]; rfl⟩
      | none =>
        rw [hq] at h
        have h : (zob (zivl N x) fun a => zob (zivl N y) fun b => zob (zif (zsame 8 x y) (zcmu (zor2 x.2 y.2)) (zlc a b)) fun u => some ((0, u) : ZV)) = some v := h
        obtain ⟨a, ha, h⟩ := zob_some h
        obtain ⟨b, hb, h⟩ := zob_some h
        obtain ⟨u, hu, h⟩ := zob_some h
        have a9 : (0, u) = v := Option.some.inj h
        rcases zif_or hu with ⟨e, hu⟩ | ⟨-, hu⟩
        · obtain ⟨tx, ux⟩ := x
          obtain ⟨ty, uy⟩ := y
          obtain ⟨e1, e2, e3⟩ := zsame_ok e
          have e1 : tx = 8 := e1
          have e2 : ty = 8 := e2
          have e3 : ux / 1099511627776 = uy / 1099511627776 := e3
          rw [e1] at hx ha
          rw [e2] at hy hb
          obtain ⟨-, -, k3, k4⟩ := zivl8 hN ha
          obtain ⟨-, -, k5, k6⟩ := zivl8 hN hb
          refine ⟨_, _, hx, hy, ?_⟩
          show zv X ad n v (.int (lg_cmp (Int64.ofInt (zd (zsg X) ux)) (Int64.ofInt (zd (zsg X) uy))))
          rw [← a9, zcmu_ok hu (x := Int64.ofInt (zd (zsg X) ux)) (y := Int64.ofInt (zd (zsg X) uy)) (by rw [zofL_in k3 k4, zofL_in k5 k6]; exact zor2_ok e3)]
          rfl
        · obtain ⟨x1, e1, k1⟩ := zivl_ok hN ha hx
          obtain ⟨y1, e2, k2⟩ := zivl_ok hN hb hy
          exact ⟨x1, y1, e1, e2, by rw [← a9, zlc_ok hu k1 k2]; rfl⟩
  rcases zif_or h with ⟨e1, h⟩ | ⟨-, h⟩
  · rcases zif_or h with ⟨e2, h⟩ | ⟨-, h⟩
    · obtain ⟨u, hu, h⟩ := zob_some h
      have a9 : (0, u) = v := Option.some.inj h
      obtain ⟨tx, ux⟩ := x
      obtain ⟨ty, uy⟩ := y
      have e1 : tx = 1 := zb_eq e1
      have e2 : ty = 1 := zb_eq e2
      rw [e1] at hx
      rw [e2] at hy
      refine ⟨_, _, hx, hy, ?_⟩
      show zv X ad n v (.int (lg_cmp (lN ux) (lN uy)))
      rw [← a9, zlc_ok hu (x := lN ux) (y := lN uy) (by rw [zkl_lN]; exact zin_self _) (by rw [zkl_lN]; exact zin_self _)]
      rfl
    · exact sy h
  · exact sy h
noncomputable def zo_lcmp (N : ZN) (k : ZK) (nx : Nat) (L : ZL) (st : List ZV) (G : ZG) : Option ZRes := match st with
  | y :: x :: r => zob (zlcv N x y) fun v => k nx L (v :: r) G
  | _ => none
theorem zs_lcmp {N : ZN} {pc nx : Nat} {x y v : ZV} {L : ZL} {r : List ZV} {G : ZG} (F : zF B0 Ls X p l s m args meth c own cc nL) (hN : zNok X Ls N) (hc : decide (nx = pc + 1 ∧ decode cc pc = .ok (.lcmp, 1)) = true) (h1 : zlcv N x y = some v) (h : zHd B0 X ad0 n0 p l e R s m args below meth c Q nL nx L (v :: r) G) : zHd B0 X ad0 n0 p l e R s m args below meth c Q nL pc L (y :: x :: r) G := by
  obtain ⟨rfl, hd⟩ := of_decide_eq_true hc
  obtain ⟨hx0, hb, hml, hown, hts, hlk, hK, hF, hB, hst⟩ := F
  intro ad hag H locs ls sv hW hS hL hT
  obtain ⟨wy, s1, rfl, hy, wx, sr, rfl, hx, hr⟩ := hT
  obtain ⟨a, b, rfl, rfl, k⟩ := zlcv_ok hN h1 hx hy
  exact W.lcmp hx0 hb hd (h ad hag H locs ls _ hW hS hL ⟨_, _, rfl, k, hr⟩)
/-- branches -/
theorem zs_rel {pc tgt cnd : Nat} {x y : Int32} {t : Bool} {H : Heap} {locs : List Loc} {cells slots : Nat} {ls : Array Slot} {rest : List Value} (F : zF B0 Ls X p l s m args meth c own cc nL) (hd : decode cc pc = .ok (.if_icmp (zrelI cnd) ((tgt : Int) - pc), 3)) (ht : zRp cnd x.toInt y.toInt ↔ t = true) (hcn : cnd ≤ 5)
    (h1 : t = true → W p l e R s m args below meth c H locs cells slots Q (F0 m tgt ls rest)) (h2 : t = false → W p l e R s m args below meth c H locs cells slots Q (F0 m (pc + 3) ls rest)) : W p l e R s m args below meth c H locs cells slots Q (F0 m pc ls (.int y :: .int x :: rest)) := by
  obtain ⟨hx, hb, hml, hown, hts, hlk, hK, hF, hB, hst⟩ := F
  have h2 : ¬ t = true → W p l e R s m args below meth c H locs cells slots Q (F0 m (pc + 3) ls rest) := fun z => h2 (by cases t <;> simp_all)
  have ho : (pc : Int) + ((tgt : Int) - pc) = (tgt : Int) := by omega
  match cnd, hcn, ht, hd with
  | 0, _, ht, hd => exact lv_icmp_eq hx hb hd ho (fun z => h1 (ht.mp (Int32.toInt_inj.mpr z))) (fun z => h2 fun w => z (Int32.toInt_inj.mp (ht.mpr w)))
  | 1, _, ht, hd => exact lv_icmp_ne hx hb hd ho (fun z => h1 (ht.mp fun w => z (Int32.toInt_inj.mp w))) (fun z => h2 fun w => ht.mpr w (Int32.toInt_inj.mpr z))
  | 2, _, ht, hd => exact lv_icmp_lt hx hb hd ho (fun z => h1 (ht.mp (Int32.lt_iff_toInt_lt.mp z))) (fun z => h2 fun w => z (Int32.lt_iff_toInt_lt.mpr (ht.mpr w)))
  | 3, _, ht, hd => exact lv_icmp_ge hx hb hd ho (fun z => h1 (ht.mp (Int32.le_iff_toInt_le.mp z))) (fun z => h2 fun w => z (Int32.le_iff_toInt_le.mpr (ht.mpr w)))
  | 4, _, ht, hd => exact lv_icmp_gt hx hb hd ho (fun z => h1 (ht.mp (Int32.lt_iff_toInt_lt.mp z))) (fun z => h2 fun w => z (Int32.lt_iff_toInt_lt.mpr (ht.mpr w)))
  | 5, _, ht, hd => exact lv_icmp_le hx hb hd ho (fun z => h1 (ht.mp (Int32.le_iff_toInt_le.mp z))) (fun z => h2 fun w => z (Int32.le_iff_toInt_le.mpr (ht.mpr w)))
theorem zs_rel0 {pc tgt cnd : Nat} {x : Int32} {t : Bool} {H : Heap} {locs : List Loc} {cells slots : Nat} {ls : Array Slot} {rest : List Value} (F : zF B0 Ls X p l s m args meth c own cc nL) (hd : decode cc pc = .ok (.ifCond (zrelI cnd) ((tgt : Int) - pc), 3)) (ht : zRp cnd x.toInt (0 : Int32).toInt ↔ t = true) (hcn : cnd ≤ 5)
    (h1 : t = true → W p l e R s m args below meth c H locs cells slots Q (F0 m tgt ls rest)) (h2 : t = false → W p l e R s m args below meth c H locs cells slots Q (F0 m (pc + 3) ls rest)) : W p l e R s m args below meth c H locs cells slots Q (F0 m pc ls (.int x :: rest)) := by
  obtain ⟨hx, hb, hml, hown, hts, hlk, hK, hF, hB, hst⟩ := F
  have h2 : ¬ t = true → W p l e R s m args below meth c H locs cells slots Q (F0 m (pc + 3) ls rest) := fun z => h2 (by cases t <;> simp_all)
  have ho : (pc : Int) + ((tgt : Int) - pc) = (tgt : Int) := by omega
  match cnd, hcn, ht, hd with
  | 0, _, ht, hd => exact lv_if_eq hx hb hd ho (fun z => h1 (ht.mp (Int32.toInt_inj.mpr z))) (fun z => h2 fun w => z (Int32.toInt_inj.mp (ht.mpr w)))
  | 1, _, ht, hd => exact lv_if_ne hx hb hd ho (fun z => h1 (ht.mp fun w => z (Int32.toInt_inj.mp w))) (fun z => h2 fun w => ht.mpr w (Int32.toInt_inj.mpr z))
  | 2, _, ht, hd => exact lv_if_lt hx hb hd ho (fun z => h1 (ht.mp (Int32.lt_iff_toInt_lt.mp z))) (fun z => h2 fun w => z (Int32.lt_iff_toInt_lt.mpr (ht.mpr w)))
  | 3, _, ht, hd => exact lv_if_ge hx hb hd ho (fun z => h1 (ht.mp (Int32.le_iff_toInt_le.mp z))) (fun z => h2 fun w => z (Int32.le_iff_toInt_le.mpr (ht.mpr w)))
  | 4, _, ht, hd => exact lv_if_gt hx hb hd ho (fun z => h1 (ht.mp (Int32.lt_iff_toInt_lt.mp z))) (fun z => h2 fun w => z (Int32.lt_iff_toInt_lt.mpr (ht.mpr w)))
  | 5, _, ht, hd => exact lv_if_le hx hb hd ho (fun z => h1 (ht.mp (Int32.le_iff_toInt_le.mp z))) (fun z => h2 fun w => z (Int32.le_iff_toInt_le.mpr (ht.mpr w)))
noncomputable def zo_if (N : ZN) (k : ZK) (nx cnd tgt : Nat) (L : ZL) (st : List ZV) (G : ZG) : Option ZRes := match st with
  | x :: r => zob (zrelv N cnd x (0, 0)) fun t => k (zif t tgt nx) L r G
  | _ => none
theorem zs_if {N : ZN} {pc nx cnd tgt : Nat} {x : ZV} {t : Bool} {L : ZL} {r : List ZV} {G : ZG} (F : zF B0 Ls X p l s m args meth c own cc nL) (hN : zNok X Ls N) (hc : decide (nx = pc + 3 ∧ cnd ≤ 5 ∧ decode cc pc = .ok (.ifCond (zrelI cnd) ((tgt : Int) - pc), 3)) = true) (h1 : zrelv N cnd x (0, 0) = some t) (h : zHd B0 X ad0 n0 p l e R s m args below meth c Q nL (zif t tgt nx) L r G) : zHd B0 X ad0 n0 p l e R s m args below meth c Q nL pc L (x :: r) G := by
  obtain ⟨rfl, hcn, hd⟩ := of_decide_eq_true hc
  intro ad hag H locs ls sv hW hS hL hT
  obtain ⟨wx, sr, rfl, hx, hr⟩ := hT
  obtain ⟨x1, y1, rfl, e2, k1⟩ := zrelv_ok (wy := .int (nI 0)) hN h1 hx rfl
  have e2 : nI 0 = y1 := Value.int.inj e2
  rw [← e2, nI_0] at k1
  have g := h ad hag H locs ls _ hW hS hL hr
  exact zs_rel0 F hd k1 hcn (fun z => by rw [z] at g; exact g) (fun z => by rw [z] at g; exact g)
noncomputable def zo_icmp (N : ZN) (k : ZK) (nx cnd tgt : Nat) (L : ZL) (st : List ZV) (G : ZG) : Option ZRes := match st with
  | y :: x :: r => zob (zrelv N cnd x y) fun t => k (zif t tgt nx) L r G
  | _ => none
theorem zs_icmp {N : ZN} {pc nx cnd tgt : Nat} {x y : ZV} {t : Bool} {L : ZL} {r : List ZV} {G : ZG} (F : zF B0 Ls X p l s m args meth c own cc nL) (hN : zNok X Ls N) (hc : decide (nx = pc + 3 ∧ cnd ≤ 5 ∧ decode cc pc = .ok (.if_icmp (zrelI cnd) ((tgt : Int) - pc), 3)) = true) (h3 : zrelv N cnd x y = some t) (h : zHd B0 X ad0 n0 p l e R s m args below meth c Q nL (zif t tgt nx) L r G) : zHd B0 X ad0 n0 p l e R s m args below meth c Q nL pc L (y :: x :: r) G := by
  obtain ⟨rfl, hcn, hd⟩ := of_decide_eq_true hc
  intro ad hag H locs ls sv hW hS hL hT
  obtain ⟨wy, s1, rfl, hy, wx, sr, rfl, hx, hr⟩ := hT
  obtain ⟨x1, y1, rfl, rfl, k1⟩ := zrelv_ok hN h3 hx hy
  have g := h ad hag H locs ls _ hW hS hL hr
  exact zs_rel F hd k1 hcn (fun z => by rw [z] at g; exact g) (fun z => by rw [z] at g; exact g)
theorem zs_goto {pc tgt : Nat} {L : ZL} {st : List ZV} {G : ZG} (F : zF B0 Ls X p l s m args meth c own cc nL) (hc : decide (decode cc pc = .ok (.goto ((tgt : Int) - pc), 3)) = true) (h : zHd B0 X ad0 n0 p l e R s m args below meth c Q nL tgt L st G) : zHd B0 X ad0 n0 p l e R s m args below meth c Q nL pc L st G := by
  have hd := of_decide_eq_true hc
  obtain ⟨hx0, hb, hml, hown, hts, hlk, hK, hF, hB, hst⟩ := F
  intro ad hag H locs ls sv hW hS hL hT
  exact lv_goto hx0 hb hd (by omega) (h ad hag H locs ls sv hW hS hL hT)
/-- null or not: 0 ifnull, 1 ifnonnull -/
noncomputable def znul (v : ZV) : Option Bool := match v.1 with
  | 2 => some true
  | 3 => some false
  | 4 => some false
  | _ => none
def znulI (kind : Nat) (off : Int) : Instr := match kind with
  | 0 => .ifnull off
  | _ => .ifnonnull off
noncomputable def zo_ifn (k : ZK) (nx kind tgt : Nat) (L : ZL) (st : List ZV) (G : ZG) : Option ZRes := match st with
  | x :: r => zob (znul x) fun t => k (zif (zif (Nat.beq kind 0) t (zif t false true)) tgt nx) L r G
  | _ => none
theorem zs_ifn {pc nx kind tgt : Nat} {x : ZV} {t : Bool} {L : ZL} {r : List ZV} {G : ZG} (F : zF B0 Ls X p l s m args meth c own cc nL) (hc : decide (nx = pc + 3 ∧ kind < 2 ∧ decode cc pc = .ok (znulI kind ((tgt : Int) - pc), 3)) = true) (h1 : znul x = some t) (h : zHd B0 X ad0 n0 p l e R s m args below meth c Q nL (zif (zif (Nat.beq kind 0) t (zif t false true)) tgt nx) L r G) : zHd B0 X ad0 n0 p l e R s m args below meth c Q nL pc L (x :: r) G := by
  obtain ⟨rfl, hk, hd⟩ := of_decide_eq_true hc
  obtain ⟨hx0, hb, hml, hown, hts, hlk, hK, hF, hB, hst⟩ := F
  intro ad hag H locs ls sv hW hS hL hT
  obtain ⟨wx, sr, rfl, hx, hr⟩ := hT
  have g := h ad hag H locs ls _ hW hS hL hr
  obtain ⟨tx, ux⟩ := x
  have ho : (pc : Int) + ((tgt : Int) - pc) = (tgt : Int) := by omega
  match kind, hk, hd with
  | 0, _, hd =>
    match tx, h1, hx with
    | 2, h1, hx =>
      cases h1
      rw [show wx = .null from hx]
      exact lv_ifnullN hx0 hb hd ho g
    | 3, h1, hx =>
      cases h1
      rw [show wx = .ref _ from hx.2]
      exact lv_ifnull hx0 hb hd g
    | 4, h1, hx =>
      cases h1
      rw [show wx = .ref _ from hx]
      exact lv_ifnull hx0 hb hd g
  | 1, _, hd =>
    match tx, h1, hx with
    | 2, h1, hx =>
      cases h1
      rw [show wx = .null from hx]
      exact lv_ifnonnullN hx0 hb hd g
    | 3, h1, hx =>
      cases h1
      rw [show wx = .ref _ from hx.2]
      exact lv_ifnonnull hx0 hb hd ho g
    | 4, h1, hx =>
      cases h1
      rw [show wx = .ref _ from hx]
      exact lv_ifnonnull hx0 hb hd ho g
/-- 0 dup 1 pop 2 dup_x1 3 dup2 4 pop2 -/
def zstI (kind : Nat) : Instr := match kind with
  | 0 => .dup
  | 1 => .pop
  | 2 => .dup_x1
  | 3 => .dup2
  | _ => .pop2
noncomputable def zstk (kind : Nat) (st : List ZV) : Option (List ZV) := match kind, st with
  | 0, x :: r => zif (zlong x) none (some (x :: x :: r))
  | 1, x :: r => zif (zlong x) none (some r)
  | 2, x :: y :: r => zif (zlong x) none (zif (zlong y) none (some (x :: y :: x :: r)))
  | 3, x :: r => zif (zlong x) (some (x :: x :: r)) (match r with
    | y :: r2 => zif (zlong y) none (some (x :: y :: x :: y :: r2))
    | [] => none)
  | 4, x :: r => zif (zlong x) (some r) (match r with
    | y :: r2 => zif (zlong y) none (some r2)
    | [] => none)
  | _, _ => none
noncomputable def zo_stk (k : ZK) (nx kind : Nat) (L : ZL) (st : List ZV) (G : ZG) : Option ZRes := zob (zstk kind st) fun st' => k nx L st' G
theorem zs_stk {pc nx kind : Nat} {st st' : List ZV} {L : ZL} {G : ZG} (F : zF B0 Ls X p l s m args meth c own cc nL) (hc : decide (nx = pc + 1 ∧ decode cc pc = .ok (zstI kind, 1)) = true) (h1 : zstk kind st = some st') (h : zHd B0 X ad0 n0 p l e R s m args below meth c Q nL nx L st' G) : zHd B0 X ad0 n0 p l e R s m args below meth c Q nL pc L st G := by
  obtain ⟨rfl, hd⟩ := of_decide_eq_true hc
  obtain ⟨hx0, hb, hml, hown, hts, hlk, hK, hF, hB, hst⟩ := F
  intro ad hag H locs ls sv hW hS hL hT
  have cat : ∀ {v : ZV} {w : Value}, zlong v = false → zv X ad G.2.1 v w → w.category = 1 := fun h h2 => by rw [zv_cat h2, h]; rfl
  have cat2 : ∀ {v : ZV} {w : Value}, zlong v = true → zv X ad G.2.1 v w → w.category = 2 := fun h h2 => by rw [zv_cat h2, h]; rfl
  unfold zstk at h1
  split at h1
  · obtain ⟨wx, sr, rfl, hx, hr⟩ := hT
    rcases zif_or h1 with ⟨-, h1⟩ | ⟨e1, h1⟩
    · cases h1
    cases h1
    exact lv_dup hx0 hb hd (cat e1 hx) (h ad hag H locs ls _ hW hS hL ⟨_, _, rfl, hx, _, _, rfl, hx, hr⟩)
  · obtain ⟨wx, sr, rfl, hx, hr⟩ := hT
    rcases zif_or h1 with ⟨-, h1⟩ | ⟨e1, h1⟩
    · cases h1
    cases h1
    exact lv_pop hx0 hb hd (cat e1 hx) (h ad hag H locs ls _ hW hS hL hr)
  · obtain ⟨wx, s1, rfl, hx, wy, sr, rfl, hy, hr⟩ := hT
    rcases zif_or h1 with ⟨-, h1⟩ | ⟨e1, h1⟩
    · cases h1
    rcases zif_or h1 with ⟨-, h1⟩ | ⟨e2, h1⟩
    · cases h1
    cases h1
    exact lv_dup_x1 hx0 hb hd (cat e1 hx) (cat e2 hy) (h ad hag H locs ls _ hW hS hL ⟨_, _, rfl, hx, _, _, rfl, hy, _, _, rfl, hx, hr⟩)
  · obtain ⟨wx, s1, rfl, hx, hT2⟩ := hT
    rcases zif_or h1 with ⟨e1, h1⟩ | ⟨e1, h1⟩
    · cases h1
      exact lv_dup2_2 hx0 hb hd (cat2 e1 hx) (h ad hag H locs ls _ hW hS hL ⟨_, _, rfl, hx, _, _, rfl, hx, hT2⟩)
    · split at h1
      · obtain ⟨wy, sr, rfl, hy, hr⟩ := hT2
        rcases zif_or h1 with ⟨-, h1⟩ | ⟨e2, h1⟩
        · cases h1
        cases h1
        exact lv_dup2_11 hx0 hb hd (cat e1 hx) (cat e2 hy) (h ad hag H locs ls _ hW hS hL ⟨_, _, rfl, hx, _, _, rfl, hy, _, _, rfl, hx, _, _, rfl, hy, hr⟩)
      · cases h1
  · obtain ⟨wx, s1, rfl, hx, hT2⟩ := hT
    rcases zif_or h1 with ⟨e1, h1⟩ | ⟨e1, h1⟩
    · cases h1
      exact lv_pop2_2 hx0 hb hd (cat2 e1 hx) (h ad hag H locs ls _ hW hS hL hT2)
    · split at h1
      · obtain ⟨wy, sr, rfl, hy, hr⟩ := hT2
        rcases zif_or h1 with ⟨-, h1⟩ | ⟨e2, h1⟩
        · cases h1
        cases h1
        exact lv_pop2_11 hx0 hb hd (cat e1 hx) (cat e2 hy) (h ad hag H locs ls _ hW hS hL hr)
      · cases h1
  · cases h1
end ZS
