/-! Ints as natural numbers: nI u stands for u; the kernel counts with natural numbers alone. zk u: u with the sign turned, so that 'less' of ints is less of numbers. -/
def zk (u : Nat) : Nat := Nat.mod (Nat.add u 2147483648) 4294967296
def zkI (x : Int32) : Nat := (x.toInt + 2147483648).toNat
theorem znI_toInt (u : Nat) : (nI u).toInt = (u : Int).bmod (2 ^ 32) := Int32.toInt_ofNat'
theorem zlN_toInt (u : Nat) : (lN u).toInt = (u : Int).bmod (2 ^ 64) := Int64.toInt_ofNat'
theorem zkI_in (x : Int32) : zkI x < 4294967296 := by
  unfold zkI
  have h1 := Int32.le_toInt x
  have h2 := Int32.toInt_lt x
  omega
theorem zk_nI (u : Nat) : zkI (nI u) = zk u := by
  unfold zkI
  rw [znI_toInt, Int.bmod_def, show zk u = (u + 2147483648) % 4294967296 from rfl]
  omega
theorem zk_lt {x y : Int32} : x < y ↔ zkI x < zkI y := by
  rw [Int32.lt_iff_toInt_lt]
  unfold zkI
  have h1 := Int32.le_toInt x
  have h2 := Int32.le_toInt y
  omega
theorem zk_eq {x y : Int32} : x = y ↔ zkI x = zkI y := by
  rw [← Int32.toInt_inj]
  unfold zkI
  have h1 := Int32.le_toInt x
  have h2 := Int32.le_toInt y
  omega
theorem zk_le {x y : Int32} : x ≤ y ↔ zkI x ≤ zkI y := by
  rw [Int32.le_iff_toInt_le]
  unfold zkI
  have h1 := Int32.le_toInt x
  have h2 := Int32.le_toInt y
  omega
theorem znI_mod (u : Nat) : nI (Nat.mod u 4294967296) = nI u := by
  rw [zk_eq, zk_nI, zk_nI]
  show (u % 4294967296 + 2147483648) % 4294967296 = (u + 2147483648) % 4294967296
  omega
theorem zia (a b : Nat) : nI a + nI b = nI (Nat.mod (Nat.add a b) 4294967296) := by rw [znI_mod]; exact nI_add a b
theorem zis (a b : Nat) : nI a - nI b = nI (Nat.mod (Nat.sub (Nat.add a 4294967296) (Nat.mod b 4294967296)) 4294967296) := by
  have e1 : nI b = nI (b % 4294967296) := (znI_mod b).symm
  have e2 : nI a = nI (a + 4294967296) := by
    rw [zk_eq, zk_nI, zk_nI]
    show (a + 2147483648) % 4294967296 = (a + 4294967296 + 2147483648) % 4294967296
    omega
  rw [znI_mod, e1, e2]
  exact pk_sub (a := a + 4294967296) (b := b % 4294967296) (by omega)
theorem zim (a b : Nat) : nI a * nI b = nI (Nat.mod (Nat.mul a b) 4294967296) := by rw [znI_mod]; exact pk_mul a b
theorem zand (a b : Nat) : nI a &&& nI b = nI (Nat.land a b) := by
  show (⟨⟨BitVec.ofNat 32 a &&& BitVec.ofNat 32 b⟩⟩ : Int32) = ⟨⟨BitVec.ofNat 32 (a &&& b)⟩⟩
  rw [BitVec.ofNat_and]
theorem zshk : ∀ b : Nat, b < 32 → ((nI b &&& 31).toBitVec.smod 32).toNat = b := by decide
theorem zshr {a b : Nat} (ha : Nat.ble 2147483648 a = false) (hb : Nat.ble 32 b = false) : nI a >>> (nI b &&& 31) = nI (Nat.div a (Nat.pow 2 b)) := pk_shrN (zl_nle ha) _ b (zshk b (zl_nle hb))
theorem zrem {a d : Nat} (ha : Nat.ble 2147483648 a = false) (h0 : Nat.beq d 0 = false) (hd : Nat.ble 2147483648 d = false) : nI a - nI a / nI d * nI d = nI (Nat.mod a d) := pk_rem (zl_nle ha) (Nat.pos_of_ne_zero (zb_ne h0)) (zl_nle hd)
theorem zne0 {d : Nat} (h0 : Nat.beq d 0 = false) (hd : Nat.ble 2147483648 d = false) : ¬ nI d = 0 := by
  rw [zk_eq, zk_nI]
  have h1 := zb_ne h0
  have h2 := zl_nle hd
  show ¬ (d + 2147483648) % 4294967296 = (0 + 2147483648 : Int).toNat
  omega
def zsb (u : Nat) : Nat := Nat.mod (Nat.add (Nat.mod (Nat.add u 128) 256) 4294967168) 4294967296
theorem zi2b (u : Nat) : (nI u).toInt8.toInt32 = nI (zsb u) := by
  rw [← Int32.toInt_inj, lg_i2b_toInt, znI_toInt, znI_toInt]
  rw [show zsb u = ((u + 128) % 256 + 4294967168) % 4294967296 from rfl]
  simp only [Int.bmod_def]
  omega
theorem zi2c (u : Nat) : ((nI u).toUInt32 % 65536).toInt32 = nI (Nat.mod (Nat.mod u 4294967296) 65536) := by
  rw [pk_char]
  rfl
noncomputable def zsl (u : Nat) : Nat := zif (Nat.ble 2147483648 (u % 4294967296)) (u % 4294967296 + 18446744069414584320) (u % 4294967296)
theorem zi2l (u : Nat) : (nI u).toInt64 = lN (zsl u) := by
  rw [← Int64.toInt_inj, Int32.toInt_toInt64, znI_toInt, zlN_toInt]
  cases h : Nat.ble 2147483648 (u % 4294967296) with
  | true =>
    have h1 : 2147483648 ≤ u % 4294967296 := zl_le h
    have e : zsl u = u % 4294967296 + 18446744069414584320 := by
      unfold zsl
      rw [h]
      rfl
    rw [e]
    simp only [Int.bmod_def]
    omega
  | false =>
    have h1 : u % 4294967296 < 2147483648 := zl_nle h
    have e : zsl u = u % 4294967296 := by
      unfold zsl
      rw [h]
      rfl
    rw [e]
    simp only [Int.bmod_def]
    omega
/-! longs -/
def zkl (u : Nat) : Nat := Nat.mod (Nat.add u 9223372036854775808) 18446744073709551616
def zkL (x : Int64) : Nat := (x.toInt + 9223372036854775808).toNat
theorem zkl_lN (u : Nat) : zkL (lN u) = zkl u := by
  unfold zkL
  rw [zlN_toInt, Int.bmod_def, show zkl u = (u + 9223372036854775808) % 18446744073709551616 from rfl]
  omega
theorem zkl_i (x : Int32) : zkL x.toInt64 = zkI x + 9223372034707292160 := by
  unfold zkL zkI
  rw [Int32.toInt_toInt64]
  have h1 := Int32.le_toInt x
  omega
theorem zkl_lt {x y : Int64} : x < y ↔ zkL x < zkL y := by
  rw [Int64.lt_iff_toInt_lt]
  unfold zkL
  have h1 := Int64.le_toInt x
  have h2 := Int64.le_toInt y
  omega
theorem zkl_eq {x y : Int64} : x = y ↔ zkL x = zkL y := by
  rw [← Int64.toInt_inj]
  unfold zkL
  have h1 := Int64.le_toInt x
  have h2 := Int64.le_toInt y
  omega
/-! intervals: what a comparison comes to -/
abbrev ZI : Type := Nat × Nat
def zin (a : ZI) (n : Nat) : Prop := a.1 ≤ n ∧ n ≤ a.2
noncomputable def zlt (a b : ZI) : Option Bool := zif (Nat.ble (Nat.succ a.2) b.1) (some true) (zif (Nat.ble b.2 a.1) (some false) none)
noncomputable def zeq (a b : ZI) : Option Bool := zif (Nat.ble (Nat.succ a.2) b.1) (some false) (zif (Nat.ble (Nat.succ b.2) a.1) (some false) (zif (Nat.beq a.1 a.2) (zif (Nat.beq b.1 b.2) (zif (Nat.beq a.1 b.1) (some true) none) none) none))
theorem zlt_ok {a b : ZI} {t : Bool} (h : zlt a b = some t) {x y : Nat} (hx : zin a x) (hy : zin b y) : x < y ↔ t = true := by
  obtain ⟨a1, a2⟩ := hx
  obtain ⟨b1, b2⟩ := hy
  unfold zlt at h
  rcases zif_or h with ⟨e, h⟩ | ⟨-, h⟩
  · cases h
    have := zl_le e
    exact ⟨fun _ => rfl, fun _ => by omega⟩
  · obtain ⟨e, h⟩ := zif_some h
    cases h
    have := zl_le e
    exact ⟨fun _ => by omega, fun z => by cases z⟩
theorem zeq_ok {a b : ZI} {t : Bool} (h : zeq a b = some t) {x y : Nat} (hx : zin a x) (hy : zin b y) : x = y ↔ t = true := by
  obtain ⟨a1, a2⟩ := hx
  obtain ⟨b1, b2⟩ := hy
  unfold zeq at h
  rcases zif_or h with ⟨e, h⟩ | ⟨-, h⟩
  · cases h
    have := zl_le e
    exact ⟨fun _ => by omega, fun z => by cases z⟩
  rcases zif_or h with ⟨e, h⟩ | ⟨-, h⟩
  · cases h
    have := zl_le e
    exact ⟨fun _ => by omega, fun z => by cases z⟩
  obtain ⟨e1, h⟩ := zif_some h
  obtain ⟨e2, h⟩ := zif_some h
  obtain ⟨e3, h⟩ := zif_some h
  cases h
  have e1 := zb_eq e1
  have e2 := zb_eq e2
  have e3 := zb_eq e3
  exact ⟨fun _ => rfl, fun _ => by omega⟩
