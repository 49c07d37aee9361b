/-! A block as its user wants it. -/
noncomputable def zrgs (l : List (Nat × Nat × Nat)) : Nat → ZI := fun b => @List.rec (Nat × Nat × Nat) (fun _ => ZI) (9223372036854775808, 9223372036854775808) (fun q _ ih => zif (Nat.beq q.1 b) q.2 ih) l
noncomputable def zmkN (rg : List (Nat × Nat × Nat)) (cm : List (ZV × ZV × Nat)) (op : List (Nat × ZV × ZV × ZV)) (ky : List ZKy) : ZN := (zrgs rg, cm, op, ky.map fun q => (q.1, q.2.2.1, q.2.1))
noncomputable abbrev zN0 (rg : List (Nat × Nat × Nat)) : ZN := (zrgs rg, [], [], [])
noncomputable def zbo {α : Type} (o : Option α) : Bool := @Option.rec α (fun _ => Bool) false (fun _ => true) o
theorem zbo_some {α : Type} {o : Option α} (h : zbo o = true) : ∃ a, o = some a := by
  cases o with
  | none => exact absurd (show false = true from h) (by decide)
  | some a => exact ⟨a, rfl⟩
noncomputable def zfitB (rg : List (Nat × Nat × Nat)) (v : ZV) : Bool := zif (zisi v) (zbo (ziv (zN0 rg) v)) (zif (zisl v) (zbo (zivl (zN0 rg) v)) false)
theorem zvn_nI {u : Nat} : -2147483648 ≤ (nI u).toInt ∧ (nI u).toInt < 2147483648 := ⟨Int32.le_toInt _, Int32.toInt_lt _⟩
theorem zvn_lN {u : Nat} : -9223372036854775808 ≤ (lN u).toInt ∧ (lN u).toInt < 9223372036854775808 := ⟨Int64.le_toInt _, Int64.toInt_lt _⟩
theorem zfit_i {X : ZX} {Ls : Nat} {rg : List (Nat × Nat × Nat)} {v : ZV} (hN : zNok X Ls (zN0 rg)) (h : zfitB rg v = true) (hi : zisi v = true) : -2147483648 ≤ zvn (zsg X) v ∧ zvn (zsg X) v < 2147483648 ∧ (zvi X v).toInt = zvn (zsg X) v := by
  unfold zfitB at h
  rw [hi] at h
  obtain ⟨a, ha⟩ := zbo_some (show zbo (ziv (zN0 rg) v) = true from h)
  obtain ⟨t, u⟩ := v
  rcases zisi_or hi with e | e
  · have e : t = 0 := e
    subst e
    exact ⟨zvn_nI.1, zvn_nI.2, rfl⟩
  · have e : t = 5 := e
    subst e
    obtain ⟨-, -, k3, k4⟩ := ziv5 hN ha
    exact ⟨k3, k4, zofI_in k3 k4⟩
theorem zisl_i {v : ZV} (h : zisl v = true) : zisi v = false := by
  obtain ⟨t, u⟩ := v
  rcases zisl_or h with e | e
  · have e : t = 1 := e
    subst e
    rfl
  · have e : t = 8 := e
    subst e
    rfl
theorem zfit_l {X : ZX} {Ls : Nat} {rg : List (Nat × Nat × Nat)} {v : ZV} (hN : zNok X Ls (zN0 rg)) (h : zfitB rg v = true) (hi : zisl v = true) : -9223372036854775808 ≤ zvn (zsg X) v ∧ zvn (zsg X) v < 9223372036854775808 ∧ (zvl X v).toInt = zvn (zsg X) v := by
  unfold zfitB at h
  rw [hi, zisl_i hi] at h
  obtain ⟨a, ha⟩ := zbo_some (show zbo (zivl (zN0 rg) v) = true from h)
  obtain ⟨t, u⟩ := v
  rcases zisl_or hi with e | e
  · have e : t = 1 := e
    subst e
    exact ⟨zvn_lN.1, zvn_lN.2, rfl⟩
  · have e : t = 8 := e
    subst e
    obtain ⟨-, -, k3, k4⟩ := zivl8 hN ha
    exact ⟨k3, k4, zofL_in k3 k4⟩
theorem zci_zvn {X : ZX} {Ls : Nat} {rg : List (Nat × Nat × Nat)} {v : ZV} (hN : zNok X Ls (zN0 rg)) (h : zfitB rg v = true) : zci X v = zvn (zsg X) v := by
  cases hi : zisi v with
  | true =>
    obtain ⟨-, -, k⟩ := zfit_i hN h hi
    rw [← k]
    obtain ⟨t, u⟩ := v
    rcases zisi_or hi with e | e
    · have e : t = 0 := e
      subst e
      rfl
    · have e : t = 5 := e
      subst e
      rfl
  | false =>
    cases hl : zisl v with
    | true =>
      obtain ⟨-, -, k⟩ := zfit_l hN h hl
      rw [← k]
      obtain ⟨t, u⟩ := v
      rcases zisl_or hl with e | e
      · have e : t = 1 := e
        subst e
        rfl
      · have e : t = 8 := e
        subst e
        rfl
    | false =>
      unfold zfitB at h
      rw [hi, hl] at h
      exact absurd (show false = true from h) (by decide)
/-- what an operation says, in Ints -/
def zopZ (k : Nat) (x y r : Int) : Prop := match k with
  | 0 => r = x + y
  | 1 => r = x - y
  | 2 => r = x * y
  | 9 => 0 ≤ x ∧ 0 < y ∧ r = x / y
  | 10 => 0 ≤ x ∧ 0 < y ∧ r = x % y
  | 20 => r = x + y
  | 21 => r = x - y
  | 22 => r = x * y
  | 29 => 0 ≤ x ∧ 0 < y ∧ r = x / y
  | 30 => 0 ≤ x ∧ 0 < y ∧ r = x % y
  | 42 => r = x
  | 43 => r = x
  | 44 => r = -x
  | 45 => r = -x
  | 50 => (x < y ∧ r = -1) ∨ (x = y ∧ r = 0) ∨ (y < x ∧ r = 1)
  | _ => False
noncomputable def zopB (rg : List (Nat × Nat × Nat)) (q : Nat × ZV × ZV × ZV) : Bool := zif (zfitB rg q.2.1) (zif (zfitB rg q.2.2.1) (zif (zfitB rg q.2.2.2) (match q.1 with
  | 42 => zif (zisi q.2.1) (zisl q.2.2.2) false
  | 43 => zif (zisl q.2.1) (zisi q.2.2.2) false
  | 44 => zif (zisi q.2.1) (zisi q.2.2.2) false
  | 45 => zif (zisl q.2.1) (zisl q.2.2.2) false
  | 50 => zif (zisl q.2.1) (zif (zisl q.2.2.1) (zisi q.2.2.2) false) false
  | _ => zif (Nat.ble q.1 19) (zif (zisi q.2.1) (zif (zisi q.2.2.1) (zisi q.2.2.2) false) false) (zif (zisl q.2.1) (zif (zisl q.2.2.1) (zisl q.2.2.2) false) false)) false) false) false
theorem zI32_div {a b : Int32} {x y : Int} (ha : a.toInt = x) (hb : b.toInt = y) (h0 : 0 ≤ x) (h1 : 0 < y) : ¬ b = 0 ∧ (a / b).toInt = x / y := by
  refine ⟨fun e => ?_, ?_⟩
  · rw [e] at hb
    have : (0 : Int32).toInt = 0 := rfl
    omega
  · rw [Int32.toInt_div, ha, hb, Int.tdiv_eq_ediv_of_nonneg h0]
    have k1 : x / y ≤ x := Int.ediv_le_self _ h0
    have k2 : 0 ≤ x / y := Int.ediv_nonneg h0 (Int.le_of_lt h1)
    have k3 := Int32.toInt_lt a
    rw [Int.bmod_def]
    omega
theorem zI64_div {a b : Int64} {x y : Int} (ha : a.toInt = x) (hb : b.toInt = y) (h0 : 0 ≤ x) (h1 : 0 < y) : ¬ b = 0 ∧ (a / b).toInt = x / y := by
  refine ⟨fun e => ?_, ?_⟩
  · rw [e] at hb
    have : (0 : Int64).toInt = 0 := rfl
    omega
  · rw [Int64.toInt_div, ha, hb, Int.tdiv_eq_ediv_of_nonneg h0]
    have k1 : x / y ≤ x := Int.ediv_le_self _ h0
    have k2 : 0 ≤ x / y := Int.ediv_nonneg h0 (Int.le_of_lt h1)
    have k3 := Int64.toInt_lt a
    rw [Int.bmod_def]
    omega
theorem zopd_of {X : ZX} {Ls : Nat} {rg : List (Nat × Nat × Nat)} {k : Nat} {x y r : ZV} (hN : zNok X Ls (zN0 rg)) (h : zopB rg (k, x, y, r) = true) (hz : zopZ k (zvn (zsg X) x) (zvn (zsg X) y) (zvn (zsg X) r)) : zopd X Ls k x y r := by
  obtain ⟨fx, h⟩ := zif_and h
  obtain ⟨fy, h⟩ := zif_and h
  obtain ⟨fr, h⟩ := zif_and h
  have ii : zif (zisi x) (zif (zisi y) (zisi r) false) false = true → zisi x = true ∧ zisi y = true ∧ zisi r = true := fun h => by
    obtain ⟨a1, h⟩ := zif_and h
    obtain ⟨a2, h⟩ := zif_and h
    exact ⟨a1, a2, h⟩
  have ll : zif (zisl x) (zif (zisl y) (zisl r) false) false = true → zisl x = true ∧ zisl y = true ∧ zisl r = true := fun h => by
    obtain ⟨a1, h⟩ := zif_and h
    obtain ⟨a2, h⟩ := zif_and h
    exact ⟨a1, a2, h⟩
  unfold zopZ at hz
  split at hz
  · obtain ⟨a1, a2, a3⟩ := ii h
    show zvi X r = zvi X x + zvi X y
    rw [zvn_i a1, zvn_i a2, zvn_i a3, hz, Int32.ofInt_add]
  · obtain ⟨a1, a2, a3⟩ := ii h
    show zvi X r = zvi X x - zvi X y
    rw [zvn_i a1, zvn_i a2, zvn_i a3, hz, Int32.ofInt_sub]
  · obtain ⟨a1, a2, a3⟩ := ii h
    show zvi X r = zvi X x * zvi X y
    rw [zvn_i a1, zvn_i a2, zvn_i a3, hz, Int32.ofInt_mul]
  · obtain ⟨a1, a2, a3⟩ := ii h
    obtain ⟨-, -, e1⟩ := zfit_i hN fx a1
    obtain ⟨-, -, e2⟩ := zfit_i hN fy a2
    obtain ⟨-, -, e3⟩ := zfit_i hN fr a3
    obtain ⟨k1, k2⟩ := zI32_div e1 e2 hz.1 hz.2.1
    exact ⟨k1, Int32.toInt_inj.mp (by rw [k2, e3]; exact hz.2.2)⟩
  · obtain ⟨a1, a2, a3⟩ := ii h
    obtain ⟨-, -, e1⟩ := zfit_i hN fx a1
    obtain ⟨-, -, e2⟩ := zfit_i hN fy a2
    obtain ⟨k1, k2⟩ := zI32_div e1 e2 hz.1 hz.2.1
    refine ⟨k1, ?_⟩
    have e4 : zvi X x / zvi X y = Int32.ofInt (zvn (zsg X) x / zvn (zsg X) y) := by rw [← k2, Int32.ofInt_toInt]
    rw [e4, zvn_i a1, zvn_i a2, zvn_i a3, hz.2.2, ← Int32.ofInt_mul, ← Int32.ofInt_sub]
    congr 1
    have := Int.mul_ediv_add_emod (zvn (zsg X) x) (zvn (zsg X) y)
    rw [Int.mul_comm] at this
    omega
  · obtain ⟨a1, a2, a3⟩ := ll h
    show zvl X r = zvl X x + zvl X y
    rw [zvn_l a1, zvn_l a2, zvn_l a3, hz, Int64.ofInt_add]
  · obtain ⟨a1, a2, a3⟩ := ll h
    show zvl X r = zvl X x - zvl X y
    rw [zvn_l a1, zvn_l a2, zvn_l a3, hz, Int64.ofInt_sub]
  · obtain ⟨a1, a2, a3⟩ := ll h
    show zvl X r = zvl X x * zvl X y
    rw [zvn_l a1, zvn_l a2, zvn_l a3, hz, Int64.ofInt_mul]
  · obtain ⟨a1, a2, a3⟩ := ll h
    obtain ⟨-, -, e1⟩ := zfit_l hN fx a1
    obtain ⟨-, -, e2⟩ := zfit_l hN fy a2
    obtain ⟨-, -, e3⟩ := zfit_l hN fr a3
    obtain ⟨k1, k2⟩ := zI64_div e1 e2 hz.1 hz.2.1
    exact ⟨k1, Int64.toInt_inj.mp (by rw [k2, e3]; exact hz.2.2)⟩
  · obtain ⟨a1, a2, a3⟩ := ll h
    obtain ⟨-, -, e1⟩ := zfit_l hN fx a1
    obtain ⟨-, -, e2⟩ := zfit_l hN fy a2
    obtain ⟨k1, k2⟩ := zI64_div e1 e2 hz.1 hz.2.1
    refine ⟨k1, ?_⟩
    have e4 : zvl X x / zvl X y = Int64.ofInt (zvn (zsg X) x / zvn (zsg X) y) := by rw [← k2, Int64.ofInt_toInt]
    rw [e4, zvn_l a1, zvn_l a2, zvn_l a3, hz.2.2, ← Int64.ofInt_mul, ← Int64.ofInt_sub]
    congr 1
    have := Int.mul_ediv_add_emod (zvn (zsg X) x) (zvn (zsg X) y)
    rw [Int.mul_comm] at this
    omega
  · obtain ⟨a1, a3⟩ := zif_and (show zif (zisi x) (zisl r) false = true from h)
    obtain ⟨-, -, e1⟩ := zfit_i hN fx a1
    obtain ⟨-, -, e3⟩ := zfit_l hN fr a3
    show zvl X r = (zvi X x).toInt64
    exact Int64.toInt_inj.mp (by rw [Int32.toInt_toInt64, e1, e3]; exact hz)
  · obtain ⟨a1, a3⟩ := zif_and (show zif (zisl x) (zisi r) false = true from h)
    obtain ⟨-, -, e1⟩ := zfit_l hN fx a1
    obtain ⟨k1, k2, e3⟩ := zfit_i hN fr a3
    show zvi X r = (zvl X x).toInt32
    have k1 : -2147483648 ≤ zvn (zsg X) r := k1
    have k2 : zvn (zsg X) r < 2147483648 := k2
    have hz : zvn (zsg X) r = zvn (zsg X) x := hz
    exact Int32.toInt_inj.mp (by
      rw [Int64.toInt_toInt32, e1, e3]
      show zvn (zsg X) r = Int.bmod (zvn (zsg X) x) (2 ^ 32)
      rw [Int.bmod_def, show ((2 ^ 32 : Nat) : Int) = 4294967296 from rfl]
      omega)
  · obtain ⟨a1, a3⟩ := zif_and (show zif (zisi x) (zisi r) false = true from h)
    show zvi X r = -zvi X x
    rw [zvn_i a1, zvn_i a3, hz, Int32.ofInt_neg]
  · obtain ⟨a1, a3⟩ := zif_and (show zif (zisl x) (zisl r) false = true from h)
    show zvl X r = -zvl X x
    rw [zvn_l a1, zvn_l a3, hz, Int64.ofInt_neg]
  · obtain ⟨a1, h⟩ := zif_and (show zif (zisl x) (zif (zisl y) (zisi r) false) false = true from h)
    obtain ⟨a2, a3⟩ := zif_and h
    obtain ⟨-, -, e1⟩ := zfit_l hN fx a1
    obtain ⟨-, -, e2⟩ := zfit_l hN fy a2
    show zvi X r = lg_cmp (zvl X x) (zvl X y)
    rw [zvn_i a3]
    rcases hz with ⟨k, e⟩ | ⟨k, e⟩ | ⟨k, e⟩
    · rw [zcmu_ok (k := 0) rfl (show (zvl X x).toInt < (zvl X y).toInt by rw [e1, e2]; exact k), e]; rfl
    · rw [zcmu_ok (k := 1) rfl (show (zvl X x).toInt = (zvl X y).toInt by rw [e1, e2]; exact k), e]; rfl
    · rw [zcmu_ok (k := 2) rfl (show (zvl X y).toInt < (zvl X x).toInt by rw [e1, e2]; exact k), e]; rfl
  · exact hz.elim

/-- the run's tables hold -/
theorem zNok_mk {X : ZX} {Ls : Nat} {rg : List (Nat × Nat × Nat)} {cm : List (ZV × ZV × Nat)} {op : List (Nat × ZV × ZV × ZV)} {ky : List ZKy} (hN : zNok X Ls (zN0 rg)) (c1 : cm.all (fun q => zif (zfitB rg q.1) (zfitB rg q.2.1) false) = true) (c2 : op.all (zopB rg) = true)
    (hcm : ∀ q ∈ cm, zcmd q.2.2 (zvn (zsg X) q.1) (zvn (zsg X) q.2.1)) (hop : ∀ q ∈ op, zopZ q.1 (zvn (zsg X) q.2.1) (zvn (zsg X) q.2.2.1) (zvn (zsg X) q.2.2.2)) (hky : ∀ q ∈ ky, zvi X q.2.2.1 = nI (zkv X q.1 q.2.1) ∧ zkv X q.1 q.2.1 < 2147483648) : zNok X Ls (zmkN rg cm op ky) := by
  refine ⟨hN.1, fun q hq => ?_, fun q hq => ?_, fun q hq => ?_, hN.2.2.2.2⟩
  · obtain ⟨k1, k2⟩ := zif_and (List.all_eq_true.mp c1 q hq)
    rw [zci_zvn hN k1, zci_zvn hN k2]
    exact hcm q hq
  · exact zopd_of hN (List.all_eq_true.mp c2 q hq) (hop q hq)
  · obtain ⟨q', h1, h2⟩ := List.mem_map.mp (show q ∈ ky.map fun q => (q.1, q.2.2.1, q.2.1) from hq)
    rw [← h2]
    exact hky q' h1
/-- values of the bases out of a list -/
noncomputable def zas (l : List (Nat × Int)) : Nat → Int := fun b => @List.rec (Nat × Int) (fun _ => Int) 0 (fun q _ ih => zif (Nat.beq q.1 b) q.2 ih) l
def zRgs : List (Nat × Nat × Nat) → List (Nat × Int) → Prop
  | [], [] => True
  | q :: rg, p :: as => q.1 = p.1 ∧ ((q.2.1 : Int) ≤ p.2 + 9223372036854775808 ∧ p.2 + 9223372036854775808 ≤ (q.2.2 : Int)) ∧ zRgs rg as
  | _, _ => False
theorem zRgs_ok : ∀ (rg : List (Nat × Nat × Nat)) (as : List (Nat × Int)), zRgs rg as → ∀ b, zinI (zrgs rg b) (zas as b)
  | [], [], _, b => by
    show ((9223372036854775808 : Nat) : Int) ≤ (0 : Int) + 9223372036854775808 ∧ (0 : Int) + 9223372036854775808 ≤ ((9223372036854775808 : Nat) : Int)
    omega
  | q :: rg, p :: as, h, b => by
    obtain ⟨h1, h2, h3⟩ := h
    show zinI (zif (Nat.beq q.1 b) q.2 (zrgs rg b)) (zif (Nat.beq p.1 b) p.2 (zas as b))
    rw [h1]
    cases Nat.beq p.1 b with
    | true => exact h2
    | false => exact zRgs_ok rg as h3 b
  | [], _ :: _, h, _ => h.elim
  | _ :: _, [], h, _ => h.elim
/-- places of one array that are apart -/
noncomputable def zneB (rg : List (Nat × Nat × Nat)) (sp : List (Nat × Nat × Nat × Nat)) (x y : ZV) : Bool :=
  zif (zif (Nat.beq x.1 5) (zif (Nat.beq y.1 5) (Nat.beq (Nat.div x.2 1099511627776) (Nat.div y.2 1099511627776)) false) false) (zif (Nat.beq x.2 y.2) false true)
    (zif (zbo (zob (ziv (zN0 rg) x) fun a => zob (ziv (zN0 rg) y) fun b => zif (Nat.blt a.2 b.1) (some 0) (zif (Nat.blt b.2 a.1) (some 0) none))) true
      (zif (Nat.beq x.1 5) (zif (Nat.beq y.1 5) (sp.any fun s =>
        zif (zif (Nat.beq s.1 (Nat.div x.2 1099511627776)) (Nat.beq s.2.1 (Nat.div y.2 1099511627776)) false) (zif (Nat.ble (s.2.2.1 + Nat.mod x.2 1099511627776) (Nat.mod y.2 1099511627776 + 549755813888)) (Nat.ble (Nat.mod y.2 1099511627776 + 549755813888) (s.2.2.2 + Nat.mod x.2 1099511627776)) false)
        (zif (zif (Nat.beq s.1 (Nat.div y.2 1099511627776)) (Nat.beq s.2.1 (Nat.div x.2 1099511627776)) false) (zif (Nat.ble (s.2.2.1 + Nat.mod y.2 1099511627776) (Nat.mod x.2 1099511627776 + 549755813888)) (Nat.ble (Nat.mod x.2 1099511627776 + 549755813888) (s.2.2.2 + Nat.mod y.2 1099511627776)) false) false)) false) false))
def zspP (σ : Nat → Int) (s : Nat × Nat × Nat × Nat) : Prop := σ s.1 - σ s.2.1 < (s.2.2.1 : Int) - 549755813888 ∨ (s.2.2.2 : Int) - 549755813888 < σ s.1 - σ s.2.1
theorem zneB_ok {X : ZX} {Ls : Nat} {rg : List (Nat × Nat × Nat)} {sp : List (Nat × Nat × Nat × Nat)} {x y : ZV} (hN : zNok X Ls (zN0 rg)) (hs : ∀ s ∈ sp, zspP (zsg X) s) (h : zneB rg sp x y = true) : zvn (zsg X) x ≠ zvn (zsg X) y := by
  have i5 : ∀ {v : ZV} {a : ZI}, ziv (zN0 rg) v = some a → (a.1 : Int) ≤ zvn (zsg X) v + 2147483648 ∧ zvn (zsg X) v + 2147483648 ≤ (a.2 : Int) := by
    intro v a hv
    obtain ⟨t, u⟩ := v
    rcases ziv_or hv with e | e
    · have e : t = 0 := e
      subst e
      obtain ⟨w, hw, hz⟩ := ziv_ok (ad := fun n => n) (n := 0) hN hv (w := .int (nI u)) rfl
      cases hw
      unfold zin zkI at hz
      obtain ⟨z1, z2⟩ := hz
      have := Int32.le_toInt (nI u)
      show (a.1 : Int) ≤ (nI u).toInt + 2147483648 ∧ (nI u).toInt + 2147483648 ≤ (a.2 : Int)
      omega
    · have e : t = 5 := e
      subst e
      obtain ⟨k1, k2, -, -⟩ := ziv5 hN hv
      exact ⟨k1, k2⟩
  have z5 : ∀ {v : ZV}, Nat.beq v.1 5 = true → zvn (zsg X) v = zd (zsg X) v.2 := by
    intro v hv
    obtain ⟨t, u⟩ := v
    have hv : t = 5 := zb_eq hv
    subst hv
    rfl
  rcases zif_or h with ⟨e, h⟩ | ⟨-, h⟩
  · obtain ⟨e1, e⟩ := zif_and e
    obtain ⟨e2, e3⟩ := zif_and e
    have e3 : x.2 / 1099511627776 = y.2 / 1099511627776 := zb_eq e3
    rcases zif_or h with ⟨-, h⟩ | ⟨e4, -⟩
    · cases h
    · have e4 := zb_ne e4
      rw [z5 e1, z5 e2]
      unfold zd
      rw [e3]
      omega
  · rcases zif_or h with ⟨e, -⟩ | ⟨-, h⟩
    · obtain ⟨w, hw⟩ := zbo_some e
      obtain ⟨a, ha, hw⟩ := zob_some hw
      obtain ⟨b, hb, hw⟩ := zob_some hw
      obtain ⟨k1, k2⟩ := i5 ha
      obtain ⟨k3, k4⟩ := i5 hb
      rcases zif_or hw with ⟨e1, -⟩ | ⟨-, hw⟩
      · have e1 : a.2 + 1 ≤ b.1 := zl_le e1
        omega
      · rcases zif_or hw with ⟨e1, -⟩ | ⟨-, hw⟩
        · have e1 : b.2 + 1 ≤ a.1 := zl_le e1
          omega
        · cases hw
    · obtain ⟨e1, h⟩ := zif_and h
      obtain ⟨e2, h⟩ := zif_and h
      rw [z5 e1, z5 e2]
      obtain ⟨s, hs1, h⟩ := List.any_eq_true.mp h
      have hp := hs s hs1
      unfold zspP at hp
      unfold zd
      rcases zif_or h with ⟨e, h⟩ | ⟨-, h⟩
      · obtain ⟨e3, e4⟩ := zif_and e
        obtain ⟨e5, e6⟩ := zif_and h
        have e3 : s.1 = x.2 / 1099511627776 := zb_eq e3
        have e4 : s.2.1 = y.2 / 1099511627776 := zb_eq e4
        have e5 : s.2.2.1 + x.2 % 1099511627776 ≤ y.2 % 1099511627776 + 549755813888 := zl_le e5
        have e6 : y.2 % 1099511627776 + 549755813888 ≤ s.2.2.2 + x.2 % 1099511627776 := zl_le e6
        rw [e3, e4] at hp
        generalize zsg X (x.2 / 1099511627776) = A at *
        generalize zsg X (y.2 / 1099511627776) = B at *
        omega
      · obtain ⟨e, h⟩ := zif_and h
        obtain ⟨e3, e4⟩ := zif_and e
        obtain ⟨e5, e6⟩ := zif_and h
        have e3 : s.1 = y.2 / 1099511627776 := zb_eq e3
        have e4 : s.2.1 = x.2 / 1099511627776 := zb_eq e4
        have e5 : s.2.2.1 + y.2 % 1099511627776 ≤ x.2 % 1099511627776 + 549755813888 := zl_le e5
        have e6 : x.2 % 1099511627776 + 549755813888 ≤ s.2.2.2 + y.2 % 1099511627776 := zl_le e6
        rw [e3, e4] at hp
        generalize zsg X (x.2 / 1099511627776) = A at *
        generalize zsg X (y.2 / 1099511627776) = B at *
        omega

/-- the places of a block's run -/
def zkvf (σ : Nat → Int) (ky : List ZKy) (a sl : Nat) : Nat := match ky.find? fun q => q.1 == a && q.2.1 == sl with
  | some q => (zvn σ q.2.2.1).toNat
  | none => 2147483648 + sl
/-- what a block writes -/
noncomputable def zwkf (ky : List ZKy) : List (Nat × ZV × ZV) := @List.rec ZKy (fun _ => List (Nat × ZV × ZV)) [] (fun q _ ih => zif (zv_eqb q.2.2.2.1 q.2.2.2.2) ih ((q.1, q.2.2.1, q.2.2.2.2) :: ih)) ky
noncomputable def zupd (σ : Nat → Int) (w : List (Nat × ZV × ZV)) (a : Nat) (j d : Int) : Int := @List.rec (Nat × ZV × ZV) (fun _ => Int) d (fun q _ ih => zif (Nat.beq q.1 a) (@ite Int (zvn σ q.2.1 = j) _ (zvn σ q.2.2) ih) ih) w
theorem zupd_out {σ : Nat → Int} {a : Nat} {j d : Int} : ∀ ky : List ZKy, (∀ q ∈ ky, q.1 = a → zvn σ q.2.2.1 ≠ j) → zupd σ (zwkf ky) a j d = d
  | [], _ => rfl
  | q :: ky, h => by
    have ih := zupd_out (d := d) ky fun q hq => h q (List.mem_cons_of_mem _ hq)
    show zupd σ (zif (zv_eqb q.2.2.2.1 q.2.2.2.2) (zwkf ky) ((q.1, q.2.2.1, q.2.2.2.2) :: zwkf ky)) a j d = d
    cases zv_eqb q.2.2.2.1 q.2.2.2.2 with
    | true => exact ih
    | false =>
      show zif (Nat.beq q.1 a) (@ite Int (zvn σ q.2.2.1 = j) _ (zvn σ q.2.2.2.2) (zupd σ (zwkf ky) a j d)) (zupd σ (zwkf ky) a j d) = d
      cases e : Nat.beq q.1 a with
      | false => exact ih
      | true =>
        show @ite Int (zvn σ q.2.2.1 = j) _ (zvn σ q.2.2.2.2) (zupd σ (zwkf ky) a j d) = d
        rw [if_neg (h q List.mem_cons_self (zb_eq e))]
        exact ih
theorem zupd_in {σ : Nat → Int} {a : Nat} {j d x : Int} : ∀ ky : List ZKy, (∀ q ∈ ky, q.1 = a → zvn σ q.2.2.1 = j → zvn σ q.2.2.2.2 = x) → (d = x ∨ ∃ q ∈ ky, q.1 = a ∧ zvn σ q.2.2.1 = j ∧ zv_eqb q.2.2.2.1 q.2.2.2.2 = false) → zupd σ (zwkf ky) a j d = x
  | [], _, h => by
    rcases h with h | ⟨q, hq, -⟩
    · exact h
    · cases hq
  | q :: ky, h1, h2 => by
    have ih := zupd_in (d := d) ky fun q hq => h1 q (List.mem_cons_of_mem _ hq)
    show zupd σ (zif (zv_eqb q.2.2.2.1 q.2.2.2.2) (zwkf ky) ((q.1, q.2.2.1, q.2.2.2.2) :: zwkf ky)) a j d = x
    cases e0 : zv_eqb q.2.2.2.1 q.2.2.2.2 with
    | true =>
      refine ih ?_
      rcases h2 with h2 | ⟨q', hq', b1, b2, b3⟩
      · exact Or.inl h2
      · rcases List.mem_cons.mp hq' with e | hq'
        · rw [e, e0] at b3
          cases b3
        · exact Or.inr ⟨q', hq', b1, b2, b3⟩
    | false =>
      show zif (Nat.beq q.1 a) (@ite Int (zvn σ q.2.2.1 = j) _ (zvn σ q.2.2.2.2) (zupd σ (zwkf ky) a j d)) (zupd σ (zwkf ky) a j d) = x
      have nx : ¬ (q.1 = a ∧ zvn σ q.2.2.1 = j) → zupd σ (zwkf ky) a j d = x := fun hn => by
        refine ih ?_
        rcases h2 with h2 | ⟨q', hq', b1, b2, b3⟩
        · exact Or.inl h2
        · rcases List.mem_cons.mp hq' with e | hq'
          · rw [e] at b1 b2
            exact absurd ⟨b1, b2⟩ hn
          · exact Or.inr ⟨q', hq', b1, b2, b3⟩
      cases e : Nat.beq q.1 a with
      | false => exact nx fun z => zb_ne e z.1
      | true =>
        show @ite Int (zvn σ q.2.2.1 = j) _ (zvn σ q.2.2.2.2) (zupd σ (zwkf ky) a j d) = x
        by_cases hj : zvn σ q.2.2.1 = j
        · rw [if_pos hj]
          exact h1 q List.mem_cons_self (zb_eq e) hj
        · rw [if_neg hj]
          exact nx fun z => hj z.2
/-- places: apart where they should be -/
noncomputable def zdsB (rg : List (Nat × Nat × Nat)) (sp : List (Nat × Nat × Nat × Nat)) (ky : List ZKy) : Bool := ky.all fun q => ky.all fun q' => zif (Nat.beq q.1 q'.1) (zif (Nat.beq q.2.1 q'.2.1) (zif (zv_eqb q.2.2.1 q'.2.2.1) (zif (zv_eqb q.2.2.2.1 q'.2.2.2.1) (zv_eqb q.2.2.2.2 q'.2.2.2.2) false) false) (zneB rg sp q.2.2.1 q'.2.2.1)) true
noncomputable def zixB (C : ZCn) (h : ZH) (rg : List (Nat × Nat × Nat)) (q : ZKy) : Bool := zif (zisi q.2.2.1) (@Option.rec ZI (fun _ => Bool) false (fun a => zif (Nat.ble 2147483648 a.1) (@Option.rec ZO (fun _ => Bool) false (fun o => Nat.blt a.2 (2147483648 + o.2.1)) (zt_get 10 h (zaob C q.1))) false) (ziv (zN0 rg) q.2.2.1)) false
noncomputable def zstB (C : ZCn) (h : ZH) (rg : List (Nat × Nat × Nat)) (cm : List (ZV × ZV × Nat)) (op : List (Nat × ZV × ZV × ZV)) (ky : List ZKy) (sp : List (Nat × Nat × Nat × Nat)) : Bool :=
  zif (cm.all fun q => zif (zfitB rg q.1) (zfitB rg q.2.1) false) (zif (op.all (zopB rg)) (zif (ky.all (zixB C h rg)) (zdsB rg sp ky) false) false) false
theorem zdsB_ne {X : ZX} {Ls : Nat} {rg : List (Nat × Nat × Nat)} {sp : List (Nat × Nat × Nat × Nat)} {ky : List ZKy} (hN : zNok X Ls (zN0 rg)) (hs : ∀ s ∈ sp, zspP (zsg X) s) (h : zdsB rg sp ky = true) {q q' : ZKy} (hq : q ∈ ky) (hq' : q' ∈ ky) (e : q.1 = q'.1) : q = q' ∨ (q.2.1 ≠ q'.2.1 ∧ zvn (zsg X) q.2.2.1 ≠ zvn (zsg X) q'.2.2.1) := by
  have k := List.all_eq_true.mp (List.all_eq_true.mp h q hq) q' hq'
  rw [zb_t e] at k
  rcases zif_or (show zif (Nat.beq q.2.1 q'.2.1) (zif (zv_eqb q.2.2.1 q'.2.2.1) (zif (zv_eqb q.2.2.2.1 q'.2.2.2.1) (zv_eqb q.2.2.2.2 q'.2.2.2.2) false) false) (zneB rg sp q.2.2.1 q'.2.2.1) = true from k) with ⟨e1, k⟩ | ⟨e1, k⟩
  · obtain ⟨e2, k⟩ := zif_and k
    obtain ⟨e3, e4⟩ := zif_and k
    exact Or.inl (Prod.ext e (Prod.ext (zb_eq e1) (Prod.ext (zv_eqb_ok e2) (Prod.ext (zv_eqb_ok e3) (zv_eqb_ok e4)))))
  · exact Or.inr ⟨zb_ne e1, zneB_ok hN hs k⟩

noncomputable def zSg' (f : Nat → Int) (g : Nat → Int → Int) : ZSg := (f, fun a j => g a (j : Int), fun _ sl => sl)
/-- the head of run's loop, with the fields f and the rows g -/
def zAt (C : ZCn) (h : ZH) (n rm : Nat) (B0 : Nat) (X : ZX) (ad0 : Nat → Nat) (n0 : Nat) (p : Program) (l : Launch) (e : Env) (R : Room) (s : State) (m : MethodId) (args : Array Value) (below : List Frame) (meth : Method) (c : Code) (Q : State → Prop) (f : Nat → Int) (g : Nat → Int → Int) : Prop :=
  zHd B0 (zXS X (zSg' f g)) ad0 n0 p l e R s m args below meth c Q (zm_nfo rm).1 12 (zc16 (8, zsb0 16)) [] (h, n, 0, 0)
def zFis (σ f : Nat → Int) : List (Nat × Nat × Nat) → List ZV → Prop
  | c :: cf, v :: fv => f c.1 = zvn σ v ∧ zFis σ f cf fv
  | _, _ => True
theorem zFis_ok {σ f : Nat → Int} : ∀ (cf : List (Nat × Nat × Nat)) (fv : List ZV), zFis σ f cf fv → ∀ q ∈ List.zip cf fv, f q.1.1 = zvn σ q.2
  | [], _, _, q, hq => by cases hq
  | _ :: _, [], _, q, hq => by cases hq
  | c :: cf, v :: fv, h, q, hq => by
    rcases List.mem_cons.mp (show q ∈ (c, v) :: List.zip cf fv from hq) with e | hq
    · rw [e]
      exact h.1
    · exact zFis_ok cf fv h.2 q hq
def zBd (g : Nat → Int → Int) : Prop := ∀ a j, -9223372036854775808 ≤ g a j ∧ g a j < 9223372036854775808
theorem zupd_bd {σ : Nat → Int} {a : Nat} {j d : Int} : ∀ w : List (Nat × ZV × ZV), (∀ q ∈ w, -9223372036854775808 ≤ zvn σ q.2.2 ∧ zvn σ q.2.2 < 9223372036854775808) → (-9223372036854775808 ≤ d ∧ d < 9223372036854775808) → -9223372036854775808 ≤ zupd σ w a j d ∧ zupd σ w a j d < 9223372036854775808
  | [], _, hd => hd
  | q :: w, h, hd => by
    have ih := zupd_bd (a := a) (j := j) (d := d) w (fun q' hq' => h q' (List.mem_cons_of_mem _ hq')) hd
    show -9223372036854775808 ≤ zif (Nat.beq q.1 a) (@ite Int (zvn σ q.2.1 = j) _ (zvn σ q.2.2) (zupd σ w a j d)) (zupd σ w a j d) ∧ zif (Nat.beq q.1 a) (@ite Int (zvn σ q.2.1 = j) _ (zvn σ q.2.2) (zupd σ w a j d)) (zupd σ w a j d) < 9223372036854775808
    cases Nat.beq q.1 a with
    | false => exact ih
    | true =>
      show -9223372036854775808 ≤ @ite Int (zvn σ q.2.1 = j) _ (zvn σ q.2.2) (zupd σ w a j d) ∧ @ite Int (zvn σ q.2.1 = j) _ (zvn σ q.2.2) (zupd σ w a j d) < 9223372036854775808
      by_cases hj : zvn σ q.2.1 = j
      · rw [if_pos hj]
        exact h q List.mem_cons_self
      · rw [if_neg hj]
        exact ih
def zEv {α : Type} (P : α → Prop) : List α → Prop
  | [] => True
  | q :: l => P q ∧ zEv P l
theorem zEv_ok {α : Type} (P : α → Prop) : ∀ l : List α, zEv P l → ∀ q ∈ l, P q
  | [], _, q, hq => by cases hq
  | a :: l, h, q, hq => by
    rcases List.mem_cons.mp hq with e | hq
    · rw [e]
      exact h.1
    · exact zEv_ok P l h.2 q hq
theorem zblock_pre (X : ZX) (Ls : Nat) {C : ZCn} {h : ZH}
    {rg : List (Nat × Nat × Nat)} {cm : List (ZV × ZV × Nat)} {op : List (Nat × ZV × ZV × ZV)} {ky : List ZKy} {sp : List (Nat × Nat × Nat × Nat)} {w : List (Nat × ZV × ZV)}
    (hst : zstB C h rg cm op ky sp = true) (hwf : w.all (fun q => zfitB rg q.2.2) = true) (hw : zwkf ky = w)
    (as : List (Nat × Int)) (σ : Nat → Int) (hσ : σ = zas as) (f' : Nat → Int) (g : Nat → Int → Int) (hbd : zBd g)
    (hrg : zRgs rg as)
    (hcm : zEv (fun q => zcmd q.2.2 (zvn σ q.1) (zvn σ q.2.1)) cm) (hop : zEv (fun q => zopZ q.1 (zvn σ q.2.1) (zvn σ q.2.2.1) (zvn σ q.2.2.2)) op) (hsp : zEv (fun s => zspP σ s) sp)
    (hK : zEv (fun q => g q.1 (zvn σ q.2.2.1) = zvn σ q.2.2.2.1) ky) : ∃ kv : Nat → Nat → Nat, zNok (zXS X (σ, fun a j => g a (j : Int), kv)) Ls (zmkN rg cm op ky) ∧
      (∀ q ∈ ky, ∀ o, zt_get 10 h (zaob C q.1) = some o → kv q.1 q.2.1 < o.2.1 ∧ (zSg' f' g).2.1 q.1 (kv q.1 q.2.1) = zvn σ q.2.2.2.1) ∧
      (∀ q ∈ ky, (zSg' f' (fun a j => zupd σ w a j (g a j))).2.1 q.1 (kv q.1 q.2.1) = zvn σ q.2.2.2.2) ∧
      (∀ a j, (∀ q ∈ ky, q.1 = a → kv a q.2.1 ≠ j) → (zSg' f' (fun a j => zupd σ w a j (g a j))).2.1 a j = g a (j : Int)) ∧ zBd (fun a j => zupd σ w a j (g a j)) := by
  have hcm := zEv_ok _ _ hcm
  have hop := zEv_ok _ _ hop
  have hsp := zEv_ok _ _ hsp
  have hK := zEv_ok _ _ hK
  obtain ⟨s1, hst⟩ := zif_and hst
  obtain ⟨s2, hst⟩ := zif_and hst
  obtain ⟨s3, s4⟩ := zif_and hst
  have ix : ∀ q ∈ ky, zisi q.2.2.1 = true ∧ ∃ (a : ZI) (o : ZO), ziv (zN0 rg) q.2.2.1 = some a ∧ 2147483648 ≤ a.1 ∧ zt_get 10 h (zaob C q.1) = some o ∧ a.2 < 2147483648 + o.2.1 := by
    intro q hq
    obtain ⟨k1, k2⟩ := zif_and (List.all_eq_true.mp s3 q hq)
    refine ⟨k1, ?_⟩
    cases e1 : ziv (zN0 rg) q.2.2.1 with
    | none =>
      rw [e1] at k2
      exact absurd (show false = true from k2) (by decide)
    | some a =>
      rw [e1] at k2
      obtain ⟨k3, k4⟩ := zif_and (show zif (Nat.ble 2147483648 a.1) (@Option.rec ZO (fun _ => Bool) false (fun o => Nat.blt a.2 (2147483648 + o.2.1)) (zt_get 10 h (zaob C q.1))) false = true from k2)
      cases e2 : zt_get 10 h (zaob C q.1) with
      | none =>
        rw [e2] at k4
        exact absurd (show false = true from k4) (by decide)
      | some o =>
        rw [e2] at k4
        exact ⟨a, o, rfl, zl_le k3, rfl, zl_le k4⟩
  have hN1 : ∀ kv : Nat → Nat → Nat, (∀ a sl sl' : Nat, kv a sl = kv a sl' → sl = sl') → zNok (zXS X (σ, fun a j => g a (j : Int), kv)) Ls (zN0 rg) := fun kv hkv => ⟨hσ ▸ zRgs_ok rg as hrg, fun _ hq => (by cases hq), fun _ hq => (by cases hq), fun _ hq => (by cases hq), hkv⟩
  have hN0 := hN1 (fun _ sl => sl) (fun _ _ _ z => z)
  have ixb : ∀ q ∈ ky, ∃ o : ZO, zt_get 10 h (zaob C q.1) = some o ∧ 0 ≤ zvn σ q.2.2.1 ∧ zvn σ q.2.2.1 < o.2.1 ∧ zvn σ q.2.2.1 < 2147483648 := by
    intro q hq
    obtain ⟨k1, a, o, k2, k3, k4, k5⟩ := ix q hq
    refine ⟨o, k4, ?_⟩
    generalize q.2.2.1 = v at k1 k2
    obtain ⟨t, u⟩ := v
    rcases zisi_or k1 with e1 | e1
    · have e1 : t = 0 := e1
      subst e1
      obtain ⟨w1, hw1, hz⟩ := ziv_ok (ad := fun n => n) (n := 0) hN0 k2 (w := .int (nI u)) rfl
      cases hw1
      unfold zin zkI at hz
      obtain ⟨z1, z2⟩ := hz
      have l1 := Int32.le_toInt (nI u)
      have l2 := Int32.toInt_lt (nI u)
      show 0 ≤ (nI u).toInt ∧ (nI u).toInt < (o.2.1 : Int) ∧ (nI u).toInt < 2147483648
      omega
    · have e1 : t = 5 := e1
      subst e1
      obtain ⟨z1, z2, z3, z4⟩ := ziv5 hN0 k2
      have z1 : (a.1 : Int) ≤ zd σ u + 2147483648 := z1
      have z2 : zd σ u + 2147483648 ≤ (a.2 : Int) := z2
      have z4 : zd σ u < 2147483648 := z4
      show 0 ≤ zd σ u ∧ zd σ u < (o.2.1 : Int) ∧ zd σ u < 2147483648
      omega
  have kvq : ∀ q ∈ ky, zkvf σ ky q.1 q.2.1 = (zvn σ q.2.2.1).toNat := by
    intro q hq
    unfold zkvf
    cases e1 : ky.find? fun q' => q'.1 == q.1 && q'.2.1 == q.2.1 with
    | none =>
      have := List.find?_eq_none.mp e1 q hq
      simp at this
    | some q' =>
      have m1 := List.mem_of_find?_eq_some e1
      have m2 := List.find?_some e1
      obtain ⟨m3, m4⟩ := (Bool.and_eq_true _ _).mp m2
      have m3 : q'.1 = q.1 := eq_of_beq m3
      have m4 : q'.2.1 = q.2.1 := eq_of_beq m4
      rcases zdsB_ne hN0 hsp s4 m1 hq m3 with z | z
      · rw [z]
      · exact absurd m4 z.1
  have kvi : ∀ a sl sl' : Nat, zkvf σ ky a sl = zkvf σ ky a sl' → sl = sl' := by
    intro a sl sl' hz
    unfold zkvf at hz
    cases e1 : ky.find? fun q' => q'.1 == a && q'.2.1 == sl with
    | none =>
      cases e2 : ky.find? fun q' => q'.1 == a && q'.2.1 == sl' with
      | none =>
        rw [e1, e2] at hz
        have hz : 2147483648 + sl = 2147483648 + sl' := hz
        omega
      | some q' =>
        rw [e1, e2] at hz
        have hz : 2147483648 + sl = (zvn σ q'.2.2.1).toNat := hz
        obtain ⟨o, b1, b2, b3, b4⟩ := ixb q' (List.mem_of_find?_eq_some e2)
        omega
    | some q =>
      cases e2 : ky.find? fun q' => q'.1 == a && q'.2.1 == sl' with
      | none =>
        rw [e1, e2] at hz
        have hz : (zvn σ q.2.2.1).toNat = 2147483648 + sl' := hz
        obtain ⟨o, b1, b2, b3, b4⟩ := ixb q (List.mem_of_find?_eq_some e1)
        omega
      | some q' =>
        rw [e1, e2] at hz
        have hz : (zvn σ q.2.2.1).toNat = (zvn σ q'.2.2.1).toNat := hz
        have p1 := List.find?_some e1
        have p2 := List.find?_some e2
        obtain ⟨m3, m4⟩ := (Bool.and_eq_true _ _).mp p1
        obtain ⟨m5, m6⟩ := (Bool.and_eq_true _ _).mp p2
        have m3 : q.1 = a := eq_of_beq m3
        have m4 : q.2.1 = sl := eq_of_beq m4
        have m5 : q'.1 = a := eq_of_beq m5
        have m6 : q'.2.1 = sl' := eq_of_beq m6
        obtain ⟨o, b1, b2, b3, b4⟩ := ixb q (List.mem_of_find?_eq_some e1)
        obtain ⟨o', b1', b2', b3', b4'⟩ := ixb q' (List.mem_of_find?_eq_some e2)
        rcases zdsB_ne hN0 hsp s4 (List.mem_of_find?_eq_some e1) (List.mem_of_find?_eq_some e2) (m3.trans m5.symm) with z | z
        · rw [← m4, ← m6, z]
        · exfalso
          have z2 : zvn σ q.2.2.1 ≠ zvn σ q'.2.2.1 := z.2
          omega
  have hN := hN1 (zkvf σ ky) kvi
  have cast : ∀ q ∈ ky, ((zkvf σ ky q.1 q.2.1 : Nat) : Int) = zvn σ q.2.2.1 := by
    intro q hq
    obtain ⟨o, b1, b2, b3, b4⟩ := ixb q hq
    rw [kvq q hq]
    omega
  refine ⟨zkvf σ ky, zNok_mk hN s1 s2 hcm hop fun q hq => ?_, fun q hq o ho => ?_, fun q hq => ?_, fun a j hne => ?_, fun a j => zupd_bd w (fun q hq => ?_) (hbd a j)⟩
  · obtain ⟨o, b1, b2, b3, b4⟩ := ixb q hq
    have k1 := (ix q hq).1
    refine ⟨?_, ?_⟩
    · show zvi (zXS X (σ, fun a j => g a (j : Int), zkvf σ ky)) q.2.2.1 = nI (zkvf σ ky q.1 q.2.1)
      rw [zvn_i k1, kvq q hq]
      show Int32.ofInt (zvn σ q.2.2.1) = nI (zvn σ q.2.2.1).toNat
      refine Int32.toInt_inj.mp ?_
      rw [zofI_in (by omega) b4, znI_toInt, Int.bmod_def, show ((2 ^ 32 : Nat) : Int) = 4294967296 from rfl]
      omega
    · show zkvf σ ky q.1 q.2.1 < 2147483648
      rw [kvq q hq]
      omega
  · obtain ⟨o', b1, b2, b3, b4⟩ := ixb q hq
    have eo : o' = o := Option.some.inj (b1.symm.trans ho)
    rw [eo] at b3
    have k3 := cast q hq
    refine ⟨?_, ?_⟩
    · show zkvf σ ky q.1 q.2.1 < o.2.1
      omega
    · show g q.1 ((zkvf σ ky q.1 q.2.1 : Nat) : Int) = zvn σ q.2.2.2.1
      rw [k3]
      exact hK q hq
  · show zupd σ w q.1 ((zkvf σ ky q.1 q.2.1 : Nat) : Int) (g q.1 ((zkvf σ ky q.1 q.2.1 : Nat) : Int)) = zvn σ q.2.2.2.2
    rw [cast q hq, ← hw]
    refine zupd_in ky (fun q' hq' e1 e2 => ?_) ?_
    · rcases zdsB_ne hN0 hsp s4 hq' hq e1 with z | z
      · rw [z]
      · exact absurd e2 z.2
    · cases e0 : zv_eqb q.2.2.2.1 q.2.2.2.2 with
      | true =>
        refine Or.inl ?_
        rw [hK q hq, zv_eqb_ok e0]
      | false => exact Or.inr ⟨q, hq, rfl, rfl, e0⟩
  · show zupd σ w a (j : Int) (g a (j : Int)) = g a (j : Int)
    rw [← hw]
    refine zupd_out ky fun q hq e1 e2 => ?_
    refine hne q hq e1 ?_
    have k3 := cast q hq
    rw [e1, e2] at k3
    show zkvf σ ky a q.2.1 = j
    omega
  · have k := List.all_eq_true.mp hwf q hq
    cases hi : zisi q.2.2 with
    | true =>
      obtain ⟨z1, z2, -⟩ := zfit_i hN0 k hi
      have z1 : -2147483648 ≤ zvn σ q.2.2 := z1
      have z2 : zvn σ q.2.2 < 2147483648 := z2
      omega
    | false =>
      cases hl : zisl q.2.2 with
      | true =>
        obtain ⟨z1, z2, -⟩ := zfit_l hN0 k hl
        exact ⟨z1, z2⟩
      | false =>
        unfold zfitB at k
        rw [hi, hl] at k
        exact absurd (show false = true from k) (by decide)
theorem zblockF {B0 Ls : Nat} {X : ZX} {C : ZCn} {h : ZH} {n fu rm mm : Nat} {ad0 : Nat → Nat} {n0 : Nat} {p : Program} {l : Launch} {e : Env} {R : Room} {s : State} {m : MethodId} {args : Array Value} {below : List Frame} {meth : Method} {c : Code} {Q : State → Prop}
    {rg : List (Nat × Nat × Nat)} {cm : List (ZV × ZV × Nat)} {op : List (Nat × ZV × ZV × ZV)} {ky : List ZKy} {fi ff : List ZV} {sp : List (Nat × Nat × Nat × Nat)} {w : List (Nat × ZV × ZV)}
    (hb : zblkB C h n (zmkN rg cm op ky) fu 30 rm mm fi ff ky = true) (hl : zblkL C h fi ff ky = true) (hst : zstB C h rg cm op ky sp = true) (hwf : w.all (fun q => zfitB rg q.2.2) = true) (hw : zwkf ky = w) (hmm : mm < 1000000)
    (hA : zAll) (hC : zCok C) (hc : zcnB C h = true) (hcf : zcfB C h = true) (F : zFr B0 Ls X rm 30 p l R s m args meth c)
    (as : List (Nat × Int)) (σ : Nat → Int) (hσ : σ = zas as) (f f' : Nat → Int) (g : Nat → Int → Int) (hbd : zBd g)
    (hrg : zRgs rg as) (h16 : σ 16 = f 16) (h16' : f' 16 = f 16 + mm) (hF : zFis σ f C.1 fi) (hF' : zFis σ f' C.1 ff)
    (hcm : zEv (fun q => zcmd q.2.2 (zvn σ q.1) (zvn σ q.2.1)) cm) (hop : zEv (fun q => zopZ q.1 (zvn σ q.2.1) (zvn σ q.2.2.1) (zvn σ q.2.2.2)) op) (hsp : zEv (fun s => zspP σ s) sp)
    (hK : zEv (fun q => g q.1 (zvn σ q.2.2.1) = zvn σ q.2.2.2.1) ky)
    (go : zBd (fun a j => zupd σ w a j (g a j)) → zAt C h n rm B0 X ad0 n0 p l e R s m args below meth c Q f' (fun a j => zupd σ w a j (g a j))) : zAt C h n rm B0 X ad0 n0 p l e R s m args below meth c Q f g := by
  obtain ⟨kv, p1, p2, p3, p4, p5⟩ := zblock_pre X Ls hst hwf hw as σ hσ f' g hbd hrg hcm hop hsp hK
  exact zblock (S := zSg' f g) (Sb := (σ, fun a j => g a (j : Int), kv)) (S' := zSg' f' (fun a j => zupd σ w a j (g a j))) hb hl hA hC hc hcf F hmm p1 rfl h16 (fun q hq => (zFis_ok _ _ hF q hq).symm) p2
    (by rw [show (zSg' f' (fun a j => zupd σ w a j (g a j))).1 16 = f' 16 from rfl, h16', ← h16]) (fun q hq => zFis_ok _ _ hF' q hq) p3 p4 (go p5)
theorem zblockFE {B0 Ls : Nat} {X : ZX} {C : ZCn} {h he : ZH} {n fu rm : Nat} {ad0 : Nat → Nat} {n0 : Nat} {p : Program} {l : Launch} {e : Env} {R : Room} {s : State} {m : MethodId} {args : Array Value} {below : List Frame} {meth : Method} {c : Code} {Q : State → Prop}
    {rg : List (Nat × Nat × Nat)} {cm : List (ZV × ZV × Nat)} {op : List (Nat × ZV × ZV × ZV)} {ky : List ZKy} {fi ff : List ZV} {sp : List (Nat × Nat × Nat × Nat)} {w : List (Nat × ZV × ZV)}
    (hb : zblkE C h he n (zmkN rg cm op ky) fu 30 rm fi ff ky = true) (hl : zblkL C h fi ff ky = true) (hle : zkyT he C ky = true) (hst : zstB C h rg cm op ky sp = true) (hwf : w.all (fun q => zfitB rg q.2.2) = true) (hw : zwkf ky = w)
    (hA : zAll) (hC : zCok C) (hc : zcnB C h = true) (hcf : zcfB C h = true) (hc' : zcnB C he = true) (hcf' : zcfB C he = true) (F : zFr B0 Ls X rm 30 p l R s m args meth c)
    (as : List (Nat × Int)) (σ : Nat → Int) (hσ : σ = zas as) (f f' : Nat → Int) (g : Nat → Int → Int) (hbd : zBd g)
    (hrg : zRgs rg as) (h16 : σ 16 = f 16) (hF : zFis σ f C.1 fi) (hF' : zFis σ f' C.1 ff)
    (hcm : zEv (fun q => zcmd q.2.2 (zvn σ q.1) (zvn σ q.2.1)) cm) (hop : zEv (fun q => zopZ q.1 (zvn σ q.2.1) (zvn σ q.2.2.1) (zvn σ q.2.2.2)) op) (hsp : zEv (fun s => zspP σ s) sp)
    (hK : zEv (fun q => g q.1 (zvn σ q.2.2.1) = zvn σ q.2.2.2.1) ky)
    (go : zAtE he n rm B0 X ad0 n0 p l e R s m args below meth c Q (zSg' f' (fun a j => zupd σ w a j (g a j)))) : zAt C h n rm B0 X ad0 n0 p l e R s m args below meth c Q f g := by
  obtain ⟨kv, p1, p2, p3, p4, p5⟩ := zblock_pre X Ls hst hwf hw as σ hσ f' g hbd hrg hcm hop hsp hK
  exact zblockE (S := zSg' f g) (Sb := (σ, fun a j => g a (j : Int), kv)) (S' := zSg' f' (fun a j => zupd σ w a j (g a j))) hb hl hle hA hC hc hcf hc' hcf' F p1 rfl h16 (fun q hq => (zFis_ok _ _ hF q hq).symm) p2 (fun q hq => zFis_ok _ _ hF' q hq) p3 p4 go

/-! for the printed blocks -/
theorem zEc {α : Type} {P : α → Prop} (q : α) {l : List α} (h : P q) (t : zEv P l) : zEv P (q :: l) := ⟨h, t⟩
theorem zRc (b lo hi : Nat) (x : Int) {rg : List (Nat × Nat × Nat)} {as : List (Nat × Int)} (h1 : (lo : Int) ≤ x + 9223372036854775808) (h2 : x + 9223372036854775808 ≤ (hi : Int)) (t : zRgs rg as) : zRgs ((b, lo, hi) :: rg) ((b, x) :: as) := ⟨rfl, ⟨h1, h2⟩, t⟩
theorem zFc {σ f : Nat → Int} (c : Nat × Nat × Nat) (v : ZV) {cf : List (Nat × Nat × Nat)} {fv : List ZV} (h : f c.1 = zvn σ v) (t : zFis σ f cf fv) : zFis σ f (c :: cf) (v :: fv) := ⟨h, t⟩
theorem zvd5 {σ : Nat → Int} (u b o : Nat) (hu : u = b * 1099511627776 + o) (ho : o < 1099511627776) : zvn σ (5, u) = σ b + ((o : Int) - 549755813888) := by
  show σ (u / 1099511627776) + ((u % 1099511627776 : Nat) : Int) - 549755813888 = _
  rw [hu, show (b * 1099511627776 + o) / 1099511627776 = b by omega, show (b * 1099511627776 + o) % 1099511627776 = o by omega]
  omega
theorem zvd8 {σ : Nat → Int} (u b o : Nat) (hu : u = b * 1099511627776 + o) (ho : o < 1099511627776) : zvn σ (8, u) = σ b + ((o : Int) - 549755813888) := zvd5 u b o hu ho
noncomputable def zL3 (x y : Int) : Int := @ite Int (x < y) _ (-1) (@ite Int (x = y) _ 0 1)
theorem zL3_op (x y : Int) : zopZ 50 x y (zL3 x y) := by
  show (x < y ∧ zL3 x y = -1) ∨ (x = y ∧ zL3 x y = 0) ∨ (y < x ∧ zL3 x y = 1)
  unfold zL3
  by_cases h : x < y
  · rw [if_pos h]
    exact Or.inl ⟨h, rfl⟩
  · rw [if_neg h]
    by_cases h2 : x = y
    · rw [if_pos h2]
      exact Or.inr (Or.inl ⟨h2, rfl⟩)
    · rw [if_neg h2]
      exact Or.inr (Or.inr ⟨by omega, rfl⟩)
theorem zL3_r (x y : Int) : -1 ≤ zL3 x y ∧ zL3 x y ≤ 1 ∧ (x ≤ y → zL3 x y ≤ 0) ∧ (y ≤ x → 0 ≤ zL3 x y) := by
  rcases zL3_op x y with ⟨a, b⟩ | ⟨a, b⟩ | ⟨a, b⟩ <;> rw [b] <;> refine ⟨by omega, by omega, fun _ => by omega, fun _ => by omega⟩
