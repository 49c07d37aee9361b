/-! Constants, locals, numbers, branches: each a function of the picture, and the row that it stands for. -/
/-- of a run: the symbols' intervals (moved by 2^63); comparisons; what operations come to; the listed places of symbolic arrays -/
abbrev ZN : Type := (Nat → ZI) × List (ZV × ZV × Nat) × List (Nat × ZV × ZV × ZV) × List (Nat × ZV × Nat)
def zinI (a : ZI) (x : Int) : Prop := (a.1 : Int) ≤ x + 9223372036854775808 ∧ x + 9223372036854775808 ≤ (a.2 : Int)
/-- 0 less, 1 equal, 2 greater, 3 not greater, 4 not less, 5 not equal -/
def zcmd (k : Nat) (x y : Int) : Prop := match k with
  | 0 => x < y
  | 1 => x = y
  | 2 => y < x
  | 3 => x ≤ y
  | 4 => y ≤ x
  | 5 => x ≠ y
  | _ => False
def zci (X : ZX) (v : ZV) : Int := match v.1 with
  | 0 => (zvi X v).toInt
  | 5 => (zvi X v).toInt
  | _ => (zvl X v).toInt
/-- ints: 0 + 1 - 2 * 3 and 4 or 5 xor 7 shr 9 div 10 rem; longs: 20 + 21 - 22 * 23 and 29 div 30 rem; 40 i2b 42 i2l 43 l2i 44 ineg 45 lneg 50 lcmp; 90 an element of the script, 91 its length -/
def zopd (X : ZX) (Ls : Nat) (k : Nat) (x y r : ZV) : Prop := match k with
  | 0 => zvi X r = zvi X x + zvi X y
  | 1 => zvi X r = zvi X x - zvi X y
  | 2 => zvi X r = zvi X x * zvi X y
  | 3 => zvi X r = zvi X x &&& zvi X y
  | 4 => zvi X r = zvi X x ||| zvi X y
  | 5 => zvi X r = zvi X x ^^^ zvi X y
  | 7 => zvi X r = zvi X x >>> (zvi X y &&& 31)
  | 9 => ¬ zvi X y = 0 ∧ zvi X r = zvi X x / zvi X y
  | 10 => ¬ zvi X y = 0 ∧ zvi X r = zvi X x - zvi X x / zvi X y * zvi X y
  | 20 => zvl X r = zvl X x + zvl X y
  | 21 => zvl X r = zvl X x - zvl X y
  | 22 => zvl X r = zvl X x * zvl X y
  | 23 => zvl X r = zvl X x &&& zvl X y
  | 29 => ¬ zvl X y = 0 ∧ zvl X r = zvl X x / zvl X y
  | 30 => ¬ zvl X y = 0 ∧ zvl X r = zvl X x - zvl X x / zvl X y * zvl X y
  | 40 => zvi X r = (zvi X x).toInt8.toInt32
  | 42 => zvl X r = (zvi X x).toInt64
  | 43 => zvi X r = (zvl X x).toInt32
  | 44 => zvi X r = -zvi X x
  | 45 => zvl X r = -zvl X x
  | 50 => zvi X r = lg_cmp (zvl X x) (zvl X y)
  | 90 => ∃ j : Nat, j < Ls ∧ Ls ≤ 2147483647 ∧ zvi X x = nI j ∧ zvi X r = X.2.2.2.1 j
  | 91 => zvi X r = nI Ls
  | _ => False
def zNok (X : ZX) (Ls : Nat) (N : ZN) : Prop := (∀ b, zinI (N.1 b) (zsg X b)) ∧ (∀ q ∈ N.2.1, zcmd q.2.2 (zci X q.1) (zci X q.2.1)) ∧ (∀ q ∈ N.2.2.1, zopd X Ls q.1 q.2.1 q.2.2.1 q.2.2.2) ∧
  (∀ q ∈ N.2.2.2, zvi X q.2.1 = nI (zkv X q.1 q.2.2) ∧ zkv X q.1 q.2.2 < 2147483648) ∧ ∀ a sl sl' : Nat, zkv X a sl = zkv X a sl' → sl = sl'
noncomputable def zv_eqb (a b : ZV) : Bool := zif (Nat.beq a.1 b.1) (Nat.beq a.2 b.2) false
theorem zv_eqb_ok {a b : ZV} (h : zv_eqb a b = true) : a = b := by
  rcases zif_or h with ⟨h1, h2⟩ | ⟨-, h2⟩
  · exact Prod.ext (zb_eq h1) (zb_eq h2)
  · cases h2
/-- looking up -/
noncomputable def zfc (x y : ZV) : List (ZV × ZV × Nat) → Option Nat := @List.rec (ZV × ZV × Nat) (fun _ => Option Nat) none (fun q _ ih => zif (zv_eqb q.1 x) (zif (zv_eqb q.2.1 y) (some q.2.2) ih) ih)
theorem zfc_ok {x y : ZV} {c : Nat} : ∀ l : List (ZV × ZV × Nat), zfc x y l = some c → (x, y, c) ∈ l
  | [], h => by
    have h : (none : Option Nat) = some c := h
    cases h
  | q :: l, h => by
    have h : zif (zv_eqb q.1 x) (zif (zv_eqb q.2.1 y) (some q.2.2) (zfc x y l)) (zfc x y l) = some c := h
    rcases zif_or h with ⟨h1, h2⟩ | ⟨-, h2⟩
    · rcases zif_or h2 with ⟨h3, h4⟩ | ⟨-, h4⟩
      · obtain ⟨q1, q2, q3⟩ := q
        have e1 : q1 = x := zv_eqb_ok h1
        have e2 : q2 = y := zv_eqb_ok h3
        have e3 : q3 = c := Option.some.inj h4
        subst e1 e2 e3
        exact List.mem_cons_self
      · exact List.mem_cons_of_mem _ (zfc_ok l h4)
    · exact List.mem_cons_of_mem _ (zfc_ok l h2)
noncomputable def zfo (k : Nat) (x y : ZV) : List (Nat × ZV × ZV × ZV) → Option ZV := @List.rec (Nat × ZV × ZV × ZV) (fun _ => Option ZV) none (fun q _ ih => zif (Nat.beq q.1 k) (zif (zv_eqb q.2.1 x) (zif (zv_eqb q.2.2.1 y) (some q.2.2.2) ih) ih) ih)
theorem zfo_ok {k : Nat} {x y r : ZV} : ∀ l : List (Nat × ZV × ZV × ZV), zfo k x y l = some r → (k, x, y, r) ∈ l
  | [], h => by
    have h : (none : Option ZV) = some r := h
    cases h
  | q :: l, h => by
    have h : zif (Nat.beq q.1 k) (zif (zv_eqb q.2.1 x) (zif (zv_eqb q.2.2.1 y) (some q.2.2.2) (zfo k x y l)) (zfo k x y l)) (zfo k x y l) = some r := h
    rcases zif_or h with ⟨h1, h2⟩ | ⟨-, h2⟩
    · rcases zif_or h2 with ⟨h3, h4⟩ | ⟨-, h4⟩
      · rcases zif_or h4 with ⟨h5, h6⟩ | ⟨-, h6⟩
        · obtain ⟨q1, q2, q3, q4⟩ := q
          have e1 : q1 = k := zb_eq h1
          have e2 : q2 = x := zv_eqb_ok h3
          have e3 : q3 = y := zv_eqb_ok h5
          have e4 : q4 = r := Option.some.inj h6
          subst e1 e2 e3 e4
          exact List.mem_cons_self
        · exact List.mem_cons_of_mem _ (zfo_ok l h6)
      · exact List.mem_cons_of_mem _ (zfo_ok l h4)
    · exact List.mem_cons_of_mem _ (zfo_ok l h2)
noncomputable def zfk (a : Nat) (x : ZV) : List (Nat × ZV × Nat) → Option Nat := @List.rec (Nat × ZV × Nat) (fun _ => Option Nat) none (fun q _ ih => zif (Nat.beq q.1 a) (zif (zv_eqb q.2.1 x) (some q.2.2) ih) ih)
theorem zfk_ok {a sl : Nat} {x : ZV} : ∀ l : List (Nat × ZV × Nat), zfk a x l = some sl → (a, x, sl) ∈ l
  | [], h => by
    have h : (none : Option Nat) = some sl := h
    cases h
  | q :: l, h => by
    have h : zif (Nat.beq q.1 a) (zif (zv_eqb q.2.1 x) (some q.2.2) (zfk a x l)) (zfk a x l) = some sl := h
    rcases zif_or h with ⟨h1, h2⟩ | ⟨-, h2⟩
    · rcases zif_or h2 with ⟨h3, h4⟩ | ⟨-, h4⟩
      · obtain ⟨q1, q2, q3⟩ := q
        have e1 : q1 = a := zb_eq h1
        have e2 : q2 = x := zv_eqb_ok h3
        have e3 : q3 = sl := Option.some.inj h4
        subst e1 e2 e3
        exact List.mem_cons_self
      · exact List.mem_cons_of_mem _ (zfk_ok l h4)
    · exact List.mem_cons_of_mem _ (zfk_ok l h2)
/-- a symbol's offset moved by a known int (long): c as a number below 2^32 (2^64) -/
noncomputable def zoff (m u c : Nat) : Option Nat := zif (Nat.ble (Nat.mul 2 (Nat.mod c m)) m) (zif (Nat.ble (Nat.succ (Nat.add (Nat.mod u 1099511627776) (Nat.mod c m))) 1099511627776) (some (Nat.add u (Nat.mod c m))) none) (zif (Nat.ble (Nat.sub m (Nat.mod c m)) (Nat.mod u 1099511627776)) (some (Nat.sub u (Nat.sub m (Nat.mod c m)))) none)
theorem zoff_ok {σ : Nat → Int} {m u c v : Nat} (hm : 0 < m) (h : zoff m u c = some v) : ∃ k : Int, zd σ v = zd σ u + ((c : Int) + m * k) := by
  have hc : c % m < m := Nat.mod_lt c hm
  have hcm : (c : Int) = m * ((c / m : Nat) : Int) + ((c % m : Nat) : Int) := by
    have := Nat.div_add_mod c m
    rw [← Int.natCast_mul, ← Int.natCast_add, this]
  unfold zd
  rcases zif_or h with ⟨e1, h⟩ | ⟨e1, h⟩
  · obtain ⟨e2, h⟩ := zif_some h
    have e2 : u % 1099511627776 + c % m + 1 ≤ 1099511627776 := zl_le e2
    have h : some (u + c % m) = some v := h
    cases h
    refine ⟨-((c / m : Nat) : Int), ?_⟩
    rw [show (u + c % m) / 1099511627776 = u / 1099511627776 by omega, show (u + c % m) % 1099511627776 = u % 1099511627776 + c % m by omega, Int.mul_neg]
    generalize (m : Int) * ((c / m : Nat) : Int) = z at *
    omega
  · obtain ⟨e2, h⟩ := zif_some h
    have e2 : m - c % m ≤ u % 1099511627776 := zl_le e2
    have h : some (u - (m - c % m)) = some v := h
    cases h
    refine ⟨-((c / m : Nat) : Int) - 1, ?_⟩
    rw [show (u - (m - c % m)) / 1099511627776 = u / 1099511627776 by omega, show (u - (m - c % m)) % 1099511627776 = u % 1099511627776 - (m - c % m) by omega, Int.mul_sub, Int.mul_neg, Int.mul_one]
    generalize (m : Int) * ((c / m : Nat) : Int) = z at *
    omega
theorem zofI_add (x y : Int) : Int32.ofInt (x + y) = Int32.ofInt x + Int32.ofInt y := Int32.ofInt_add x y
theorem zofI_mod (x k : Int) : Int32.ofInt (x + 4294967296 * k) = Int32.ofInt x := by
  rw [← Int32.toInt_inj, Int32.toInt_ofInt, Int32.toInt_ofInt]
  simp only [Int.bmod_def, show Int32.size = 4294967296 from rfl]
  omega
theorem zofL_mod (x k : Int) : Int64.ofInt (x + 18446744073709551616 * k) = Int64.ofInt x := by
  rw [← Int64.toInt_inj, Int64.toInt_ofInt, Int64.toInt_ofInt]
  simp only [Int.bmod_def, show Int64.size = 18446744073709551616 from rfl]
  omega
theorem zofI_n (c : Nat) : Int32.ofInt (c : Int) = nI c := by
  rw [← Int32.toInt_inj, Int32.toInt_ofInt, znI_toInt]
theorem zofL_n (c : Nat) : Int64.ofInt (c : Int) = lN c := by
  rw [← Int64.toInt_inj, Int64.toInt_ofInt, zlN_toInt]
theorem zoffI {σ : Nat → Int} {u c v : Nat} (h : zoff 4294967296 u c = some v) : Int32.ofInt (zd σ v) = Int32.ofInt (zd σ u) + nI c := by
  obtain ⟨k, e⟩ := zoff_ok (σ := σ) (by decide) h
  rw [e, ← Int.add_assoc, show ((4294967296 : Nat) : Int) = 4294967296 from rfl, zofI_mod, zofI_add, zofI_n]
theorem zoffL {σ : Nat → Int} {u c v : Nat} (h : zoff 18446744073709551616 u c = some v) : Int64.ofInt (zd σ v) = Int64.ofInt (zd σ u) + lN c := by
  obtain ⟨k, e⟩ := zoff_ok (σ := σ) (by decide) h
  rw [e, ← Int.add_assoc, show ((18446744073709551616 : Nat) : Int) = 18446744073709551616 from rfl, zofL_mod, Int64.ofInt_add, zofL_n]
noncomputable def zln (L : ZL) : Nat → Option ZV := @List.rec (Option ZV) (fun _ => Nat → Option ZV) (fun _ => none) (fun v _ ih i => @Nat.rec (fun _ => Option ZV) v (fun j _ => ih j) i) L
noncomputable def zls (L : ZL) : Nat → Option ZV → ZL := @List.rec (Option ZV) (fun _ => Nat → Option ZV → ZL) (fun _ _ => []) (fun v L' ih i x => @Nat.rec (fun _ => ZL) (x :: L') (fun j _ => v :: ih j x) i) L
theorem zln_ok : ∀ (L : ZL) (i : Nat) (v : ZV), zln L i = some v ↔ L[i]? = some (some v)
  | [], i, v => ⟨fun h => absurd (show (none : Option ZV) = some v from h) (by intro z; cases z), fun h => by simp at h⟩
  | a :: L, 0, v => ⟨fun h => by rw [List.getElem?_cons_zero]; exact congrArg some h, fun h => by rw [List.getElem?_cons_zero] at h; exact Option.some.inj h⟩
  | a :: L, i + 1, v => by
    rw [List.getElem?_cons_succ]
    exact zln_ok L i v
theorem zls_self : ∀ (L : ZL) (i : Nat) (x v : Option ZV), (zls L i x)[i]? = some v → v = x
  | [], i, x, v, h => by simp [zls] at h
  | a :: L, 0, x, v, h => by
    have h : (x :: L)[0]? = some v := h
    rw [List.getElem?_cons_zero] at h
    exact (Option.some.inj h).symm
  | a :: L, i + 1, x, v, h => by
    have h : (a :: zls L i x)[i + 1]? = some v := h
    rw [List.getElem?_cons_succ] at h
    exact zls_self L i x v h
theorem zls_ne : ∀ (L : ZL) (i j : Nat) (x : Option ZV), j ≠ i → (zls L i x)[j]? = L[j]?
  | [], i, j, x, h => rfl
  | a :: L, 0, 0, x, h => absurd rfl h
  | a :: L, 0, j + 1, x, h => by
    show (x :: L)[j + 1]? = _
    rw [List.getElem?_cons_succ, List.getElem?_cons_succ]
  | a :: L, i + 1, 0, x, h => by
    show (a :: zls L i x)[0]? = _
    rw [List.getElem?_cons_zero, List.getElem?_cons_zero]
  | a :: L, i + 1, j + 1, x, h => by
    show (a :: zls L i x)[j + 1]? = _
    rw [List.getElem?_cons_succ, List.getElem?_cons_succ]
    exact zls_ne L i j x (by omega)
def zkd (kind : Nat) (v : ZV) : Bool := match kind with
  | 0 => zint v
  | 1 => zref v
  | 2 => zlong v
  | _ => false
def zs32 (u : Nat) : Int := if u < 2147483648 then (u : Int) else (u : Int) - 4294967296
/-- all that the locals hold -/
def zlv (ls : Array Slot) (n : Nat) : List (Nat × Value) := (List.range n).filterMap fun j => match (ls[j]? : Option Slot) with
  | some (Slot.val w) => some (j, w)
  | _ => none
theorem zlv_in {ls : Array Slot} {n j : Nat} {w : Value} (hj : j < n) (h : ls[j]? = some (.val w)) : (j, w) ∈ zlv ls n := by
  unfold zlv
  rw [List.mem_filterMap]
  exact ⟨j, List.mem_range.mpr hj, by rw [h]⟩
theorem zlv_has {ls : Array Slot} {n : Nat} (hs : ls.size = n) (hw : lv_wf ls) : lv_has ls n (zlv ls n) := by
  refine ⟨hs, hw, fun q hq => ?_⟩
  unfold zlv at hq
  rw [List.mem_filterMap] at hq
  obtain ⟨j, -, h⟩ := hq
  split at h
  · rename_i w hw'
    cases h
    exact hw'
  · cases h
theorem zlt_size {ls : Array Slot} {i : Nat} {x : Slot} (h : ls[i]? = some x) : i < ls.size := (Array.getElem?_eq_some_iff.mp h).1
section ZS
variable {B0 Ls : Nat} {X : ZX} {p : Program} {l : Launch} {e : Env} {R : Room} {s : State} {m : MethodId} {args : Array Value} {below : List Frame} {meth : Method} {c : Code} {Q : State → Prop} {own : String} {cc : ByteArray} {nL : Nat} {ad0 : Nat → Nat} {n0 : Nat}
/-- 0 iconst, 1 bipush, 2 sipush, 3 ldc, 4 ldc_w, 5 lconst, 6 aconst_null, 7 ldc of a text, 8 ldc2_w -/
def zc_push (own : String) (cc : ByteArray) (pc nx t u f i q : Nat) : Bool := match f with
  | 0 => decide (t = 0 ∧ nx = pc + 1 ∧ Int32.ofInt (zs32 u) = nI u ∧ decode cc pc = .ok (.iconst (zs32 u), 1))
  | 1 => decide (t = 0 ∧ nx = pc + 2 ∧ (Int8.ofInt (zs32 u)).toInt32 = nI u ∧ decode cc pc = .ok (.bipush (zs32 u), 2))
  | 2 => decide (t = 0 ∧ nx = pc + 3 ∧ (Int16.ofInt (zs32 u)).toInt32 = nI u ∧ decode cc pc = .ok (.sipush (zs32 u), 3))
  | 3 => decide (t = 0 ∧ nx = pc + 2 ∧ decode cc pc = .ok (.ldc i, 2)) && zwx q (.constant own i (nI u))
  | 4 => decide (t = 0 ∧ nx = pc + 3 ∧ decode cc pc = .ok (.ldc_w i, 3)) && zwx q (.constant own i (nI u))
  | 5 => decide (t = 1 ∧ nx = pc + 1 ∧ ((u = 0 ∧ decode cc pc = .ok (.lconst 0, 1)) ∨ (u = 1 ∧ decode cc pc = .ok (.lconst 1, 1))))
  | 6 => decide (t = 2 ∧ nx = pc + 1 ∧ decode cc pc = .ok (.aconst_null, 1))
  | 7 => decide (t = 4 ∧ nx = pc + 2 ∧ (zq_ld q).map (fun z => (z.1, z.2.1, z.2.2.2)) = some (own, i, u) ∧ decode cc pc = .ok (.ldc i, 2))
  | 8 => decide (t = 1 ∧ nx = pc + 3 ∧ decode cc pc = .ok (.ldc2_w i, 3)) && zwx q (.constantLong own i (lN u))
  | _ => false
theorem zs_push {pc nx t u f i q : Nat} {L : ZL} {st : List ZV} {G : ZG} (F : zF B0 Ls X p l s m args meth c own cc nL) (hc : zc_push own cc pc nx t u f i q = true) (h : zHd B0 X ad0 n0 p l e R s m args below meth c Q nL nx L ((t, u) :: st) G) : zHd B0 X ad0 n0 p l e R s m args below meth c Q nL pc L st G := by
  have use : ∀ {pos : Nat} {w : Jvm.Cond}, zwx pos w = true → w.before args s = true := fun h => zF_use F h
  obtain ⟨hx, hb, hml, hown, hts, hlk, hK, hF, hB, hst⟩ := F
  intro ad hag H locs ls sv hW hS hL hT
  have go : ∀ w : Value, zv X ad G.2.1 (t, u) w → W p l e R s m args below meth c H locs G.2.2.1 G.2.2.2 Q (F0 m nx ls (w :: sv)) := fun w hw => h ad hag H locs ls (w :: sv) hW hS hL ⟨w, sv, rfl, hw, hT⟩
  unfold zc_push at hc
  split at hc
  · obtain ⟨rfl, rfl, h1, hd⟩ := of_decide_eq_true hc
    exact lv_iconst hx hb hd h1 (go _ rfl)
  · obtain ⟨rfl, rfl, h1, hd⟩ := of_decide_eq_true hc
    exact lv_bipush hx hb hd h1 (go _ rfl)
  · obtain ⟨rfl, rfl, h1, hd⟩ := of_decide_eq_true hc
    exact lv_sipush hx hb hd h1 (go _ rfl)
  · rw [Bool.and_eq_true] at hc
    obtain ⟨rfl, rfl, hd⟩ := of_decide_eq_true hc.1
    exact lv_ldc hx hb hown (use hc.2) hd (go _ rfl)
  · rw [Bool.and_eq_true] at hc
    obtain ⟨rfl, rfl, hd⟩ := of_decide_eq_true hc.1
    exact lv_ldcw hx hb hown (use hc.2) hd (go _ rfl)
  · obtain ⟨rfl, rfl, ⟨rfl, hd⟩ | ⟨rfl, hd⟩⟩ := of_decide_eq_true hc
    · exact lv_lconst hx hb hd rfl (go _ rfl)
    · exact lv_lconst hx hb hd rfl (go _ rfl)
  · obtain ⟨rfl, rfl, hd⟩ := of_decide_eq_true hc
    exact lv_null hx hb hd (go _ rfl)
  · obtain ⟨rfl, rfl, hq, hd⟩ := of_decide_eq_true hc
    cases hz : zq_ld q with
    | none => rw [hz] at hq; cases hq
    | some z =>
      obtain ⟨o1, i1, tx, x1⟩ := z
      rw [hz] at hq
      cases hq
      exact va_ldcS hx hb hown (hF.2.2.2.1 q _ _ tx _ hz) hd (go _ rfl)
  · rw [Bool.and_eq_true] at hc
    obtain ⟨rfl, rfl, hd⟩ := of_decide_eq_true hc.1
    exact lv_ldc2 hx hb hown (use hc.2) hd (go _ rfl)
  · cases hc
noncomputable def zo_push (k : ZK) (nx t u : Nat) (L : ZL) (st : List ZV) (G : ZG) : Option ZRes := k nx L ((t, u) :: st) G
/-- a local: kind 0 an int, 1 a reference, 2 a long -/
def zc_load (cc : ByteArray) (pc nx i kind f : Nat) : Bool := match f, kind with
  | 0, 0 => decide (nx = pc + 1 ∧ ∃ h : i < 4, decode cc pc = .ok (.iload_n ⟨i, h⟩, 1))
  | 0, 1 => decide (nx = pc + 1 ∧ ∃ h : i < 4, decode cc pc = .ok (.aload_n ⟨i, h⟩, 1))
  | 0, 2 => decide (nx = pc + 1 ∧ ∃ h : i < 4, decode cc pc = .ok (.lload_n ⟨i, h⟩, 1))
  | 1, 0 => decide (nx = pc + 2 ∧ decode cc pc = .ok (.iload i, 2))
  | 1, 1 => decide (nx = pc + 2 ∧ decode cc pc = .ok (.aload i, 2))
  | 1, 2 => decide (nx = pc + 2 ∧ decode cc pc = .ok (.lload i, 2))
  | _, _ => false
noncomputable def zo_load (k : ZK) (nx i kind : Nat) (L : ZL) (st : List ZV) (G : ZG) : Option ZRes := zob (zln L i) fun v => zif (zkd kind v) (k nx L (v :: st) G) none
theorem zs_load {pc nx i kind f : Nat} {v : ZV} {L : ZL} {st : List ZV} {G : ZG} (F : zF B0 Ls X p l s m args meth c own cc nL) (hc : zc_load cc pc nx i kind f = true) (hv : zln L i = some v) (hk : zkd kind v = true) (h : zHd B0 X ad0 n0 p l e R s m args below meth c Q nL nx L (v :: st) G) : zHd B0 X ad0 n0 p l e R s m args below meth c Q nL pc L st G := by
  obtain ⟨hx, hb, hml, hown, hts, hlk, hK, hF, hB, hst⟩ := F
  intro ad hag H locs ls sv hW hS hL hT
  obtain ⟨w, hlw, hw⟩ := hL.2.2 i v ((zln_ok L i v).mp hv)
  have go : W p l e R s m args below meth c H locs G.2.2.1 G.2.2.2 Q (F0 m nx ls (w :: sv)) := h ad hag H locs ls (w :: sv) hW hS hL ⟨w, sv, rfl, hw, hT⟩
  unfold zc_load at hc
  split at hc
  · obtain ⟨rfl, h4, hd⟩ := of_decide_eq_true hc
    obtain ⟨x, rfl⟩ := zint_ok hk hw
    exact lv_iload_n hx hb hd rfl hlw go
  · obtain ⟨rfl, h4, hd⟩ := of_decide_eq_true hc
    rcases zref_ok hk hw with rfl | ⟨a, rfl⟩
    · exact lv_aload_nN hx hb hd rfl hlw go
    · exact lv_aload_n hx hb hd rfl hlw go
  · obtain ⟨rfl, h4, hd⟩ := of_decide_eq_true hc
    obtain ⟨x, rfl⟩ := zlong_ok hk hw
    exact lv_lload_n hx hb hd rfl hlw go
  · obtain ⟨rfl, hd⟩ := of_decide_eq_true hc
    obtain ⟨x, rfl⟩ := zint_ok hk hw
    exact lv_iload hx hb hd hlw go
  · obtain ⟨rfl, hd⟩ := of_decide_eq_true hc
    rcases zref_ok hk hw with rfl | ⟨a, rfl⟩
    · exact lv_aloadN hx hb hd hlw go
    · exact lv_aload hx hb hd hlw go
  · obtain ⟨rfl, hd⟩ := of_decide_eq_true hc
    obtain ⟨x, rfl⟩ := zlong_ok hk hw
    exact lv_lload hx hb hd hlw go
  · cases hc
/-- a local is written: what a long had begun there, or just before, is lost -/
noncomputable def zcut (L : ZL) (i : Nat) : Bool := @Nat.rec (fun _ => Bool) true (fun j _ => @Option.rec ZV (fun _ => Bool) true (fun v => zif (zlong v) false true) (zln L j)) i
theorem zcut_ok {L : ZL} {j : Nat} {v : ZV} (h : zcut L (j + 1) = true) (hv : zln L j = some v) : zlong v = false := by
  have h : @Option.rec ZV (fun _ => Bool) true (fun v => zif (zlong v) false true) (zln L j) = true := h
  rw [hv] at h
  cases e : zlong v with
  | false => rfl
  | true =>
    have h : zif (zlong v) false true = true := h
    rw [e] at h
    cases h
theorem zkeep1 {ad : Nat → Nat} {n i : Nat} {ls ls' : Array Slot} {L : ZL} {v : ZV} {w : Value} (hL : zLc X ad n ls nL L) (hi : zcut L i = true) (hw : zv X ad n v w) (h' : lv_has ls' nL ((i, w) :: (zlv ls nL).filter (fun q => !(q.1 == i) && !(q.1 + 1 == i && q.2.category == 2)))) : zLc X ad n ls' nL (zls L i (some v)) := by
  refine ⟨h'.1, h'.2.1, fun j u hu => ?_⟩
  by_cases hj : j = i
  · subst hj
    have e := zls_self L j (some v) _ hu
    cases e
    exact ⟨w, h'.2.2 (j, w) List.mem_cons_self, hw⟩
  · rw [zls_ne L i j _ hj] at hu
    obtain ⟨w1, h1, h2⟩ := hL.2.2 j u hu
    refine ⟨w1, h'.2.2 (j, w1) (List.mem_cons_of_mem _ (List.mem_filter.mpr ⟨zlv_in (by rw [← hL.1]; exact zlt_size h1) h1, ?_⟩)), h2⟩
    have e1 : (j == i) = false := by simp [hj]
    by_cases h3 : j + 1 = i
    · subst h3
      have e2 := zcut_ok hi ((zln_ok L j u).mpr hu)
      have e3 := zv_cat h2
      rw [e2] at e3
      simp [e3]
    · simp [hj, h3]
theorem zkeep2 {ad : Nat → Nat} {n i : Nat} {ls ls' : Array Slot} {L : ZL} {v : ZV} {w : Value} (hL : zLc X ad n ls nL L) (hi : zcut L i = true) (hw : zv X ad n v w) (h' : lv_has ls' nL ((i, w) :: (zlv ls nL).filter (fun q => !(q.1 == i) && (!(q.1 == i + 1) && !(q.1 + 1 == i && q.2.category == 2))))) : zLc X ad n ls' nL (zls (zls L i (some v)) (i + 1) none) := by
  refine ⟨h'.1, h'.2.1, fun j u hu => ?_⟩
  by_cases hj1 : j = i + 1
  · subst hj1
    have e := zls_self _ (i + 1) none _ hu
    cases e
  · rw [zls_ne _ (i + 1) j _ hj1] at hu
    by_cases hj : j = i
    · subst hj
      have e := zls_self L j (some v) _ hu
      cases e
      exact ⟨w, h'.2.2 (j, w) List.mem_cons_self, hw⟩
    · rw [zls_ne L i j _ hj] at hu
      obtain ⟨w1, h1, h2⟩ := hL.2.2 j u hu
      refine ⟨w1, h'.2.2 (j, w1) (List.mem_cons_of_mem _ (List.mem_filter.mpr ⟨zlv_in (by rw [← hL.1]; exact zlt_size h1) h1, ?_⟩)), h2⟩
      by_cases h3 : j + 1 = i
      · subst h3
        have e2 := zcut_ok hi ((zln_ok L j u).mpr hu)
        have e3 := zv_cat h2
        rw [e2] at e3
        simp [e3]
        try omega
      · simp [hj, h3, hj1]
def zc_store (cc : ByteArray) (nL pc nx i kind f : Nat) : Bool := match f, kind with
  | 0, 0 => decide (nx = pc + 1 ∧ i < nL ∧ ∃ h : i < 4, decode cc pc = .ok (.istore_n ⟨i, h⟩, 1))
  | 0, 1 => decide (nx = pc + 1 ∧ i < nL ∧ ∃ h : i < 4, decode cc pc = .ok (.astore_n ⟨i, h⟩, 1))
  | 0, 2 => decide (nx = pc + 1 ∧ i + 1 < nL ∧ ∃ h : i < 4, decode cc pc = .ok (.lstore_n ⟨i, h⟩, 1))
  | 1, 0 => decide (nx = pc + 2 ∧ i < nL ∧ decode cc pc = .ok (.istore i, 2))
  | 1, 1 => decide (nx = pc + 2 ∧ i < nL ∧ decode cc pc = .ok (.astore i, 2))
  | 1, 2 => decide (nx = pc + 2 ∧ i + 1 < nL ∧ decode cc pc = .ok (.lstore i, 2))
  | _, _ => false
noncomputable def zput (L : ZL) (i kind : Nat) (v : ZV) : ZL := zif (Nat.beq kind 2) (zls (zls L i (some v)) (i + 1) none) (zls L i (some v))
noncomputable def zo_store (k : ZK) (nx i kind : Nat) (L : ZL) (st : List ZV) (G : ZG) : Option ZRes := match st with
  | v :: r => zif (zkd kind v) (zif (zcut L i) (k nx (zput L i kind v) r G) none) none
  | [] => none
theorem zs_store {pc nx i kind f : Nat} {v : ZV} {L : ZL} {r : List ZV} {G : ZG} (F : zF B0 Ls X p l s m args meth c own cc nL) (hc : zc_store cc nL pc nx i kind f = true) (hk : zkd kind v = true) (hi : zcut L i = true) (h : zHd B0 X ad0 n0 p l e R s m args below meth c Q nL nx (zput L i kind v) r G) : zHd B0 X ad0 n0 p l e R s m args below meth c Q nL pc L (v :: r) G := by
  obtain ⟨hx, hb, hml, hown, hts, hlk, hK, hF, hB, hst⟩ := F
  intro ad hag H locs ls sv hW hS hL hT
  obtain ⟨w, sr, rfl, hw, hr⟩ := hT
  have hlv := zlv_has hL.1 hL.2.1
  unfold zc_store at hc
  split at hc
  · obtain ⟨rfl, hn, h4, hd⟩ := of_decide_eq_true hc
    obtain ⟨x, rfl⟩ := zint_ok hk hw
    exact lv_istore_n hx hb hd rfl hlv hn rfl fun ls' h' => h ad hag H locs ls' sr hW hS (zkeep1 hL hi hw h') hr
  · obtain ⟨rfl, hn, h4, hd⟩ := of_decide_eq_true hc
    rcases zref_ok hk hw with rfl | ⟨a, rfl⟩
    · exact lv_astore_nN hx hb hd rfl hlv hn rfl fun ls' h' => h ad hag H locs ls' sr hW hS (zkeep1 hL hi hw h') hr
    · exact lv_astore_n hx hb hd rfl hlv hn rfl fun ls' h' => h ad hag H locs ls' sr hW hS (zkeep1 hL hi hw h') hr
  · obtain ⟨rfl, hn, h4, hd⟩ := of_decide_eq_true hc
    obtain ⟨x, rfl⟩ := zlong_ok hk hw
    exact lv_lstore_n hx hb hd rfl hlv hn rfl fun ls' h' => h ad hag H locs ls' sr hW hS (zkeep2 hL hi hw h') hr
  · obtain ⟨rfl, hn, hd⟩ := of_decide_eq_true hc
    obtain ⟨x, rfl⟩ := zint_ok hk hw
    exact lv_istore hx hb hd hlv hn rfl fun ls' h' => h ad hag H locs ls' sr hW hS (zkeep1 hL hi hw h') hr
  · obtain ⟨rfl, hn, hd⟩ := of_decide_eq_true hc
    rcases zref_ok hk hw with rfl | ⟨a, rfl⟩
    · exact lv_astoreN hx hb hd hlv hn rfl fun ls' h' => h ad hag H locs ls' sr hW hS (zkeep1 hL hi hw h') hr
    · exact lv_astore hx hb hd hlv hn rfl fun ls' h' => h ad hag H locs ls' sr hW hS (zkeep1 hL hi hw h') hr
  · obtain ⟨rfl, hn, hd⟩ := of_decide_eq_true hc
    obtain ⟨x, rfl⟩ := zlong_ok hk hw
    exact lv_lstore hx hb hd hlv hn rfl fun ls' h' => h ad hag H locs ls' sr hW hS (zkeep2 hL hi hw h') hr
  · cases hc
/-- iinc of a known int -/
def zc_iinc (cc : ByteArray) (nL pc nx i u : Nat) : Bool := decide (nx = pc + 3 ∧ i < nL ∧ Int32.ofInt (zs32 u) = nI u ∧ decode cc pc = .ok (.iinc i (zs32 u), 3))
noncomputable def zinc (v : ZV) (u : Nat) : Option ZV := zif (Nat.beq v.1 0) (some (0, Nat.mod (Nat.add v.2 u) 4294967296)) (zif (Nat.beq v.1 5) (zob (zoff 4294967296 v.2 u) fun z => some (5, z)) none)
noncomputable def zo_iinc (k : ZK) (nx i u : Nat) (L : ZL) (st : List ZV) (G : ZG) : Option ZRes := zob (zln L i) fun v => zob (zinc v u) fun v' => zif (zcut L i) (k nx (zls L i (some v')) st G) none
theorem zinc_ok {ad : Nat → Nat} {n u : Nat} {v v' : ZV} {w : Value} (h : zinc v u = some v') (hv : zv X ad n v w) : ∃ x : Int32, w = .int x ∧ zv X ad n v' (.int (x + nI u)) := by
  obtain ⟨t, a⟩ := v
  rcases zif_or h with ⟨e, h⟩ | ⟨-, h⟩
  · have e : t = 0 := zb_eq e
    subst e
    have h : (0, Nat.mod (Nat.add a u) 4294967296) = v' := Option.some.inj h
    rw [← h]
    exact ⟨_, hv, congrArg Value.int (zia a u)⟩
  · obtain ⟨e, h⟩ := zif_some h
    have e : t = 5 := zb_eq e
    subst e
    obtain ⟨z, hz, h⟩ := zob_some h
    have h : (5, z) = v' := Option.some.inj h
    rw [← h]
    exact ⟨_, hv, congrArg Value.int (zoffI hz).symm⟩
theorem zs_iinc {pc nx i u : Nat} {v v' : ZV} {L : ZL} {st : List ZV} {G : ZG} (F : zF B0 Ls X p l s m args meth c own cc nL) (hc : zc_iinc cc nL pc nx i u = true) (hv : zln L i = some v) (hu : zinc v u = some v') (hi : zcut L i = true) (h : zHd B0 X ad0 n0 p l e R s m args below meth c Q nL nx (zls L i (some v')) st G) : zHd B0 X ad0 n0 p l e R s m args below meth c Q nL pc L st G := by
  obtain ⟨hx, hb, hml, hown, hts, hlk, hK, hF, hB, hst⟩ := F
  intro ad hag H locs ls sv hW hS hL hT
  obtain ⟨w, hlw, hw⟩ := hL.2.2 i _ ((zln_ok L i _).mp hv)
  obtain ⟨x, rfl, hx'⟩ := zinc_ok hu hw
  obtain ⟨rfl, hn, h1, hd⟩ := of_decide_eq_true hc
  obtain ⟨k, hk⟩ := List.getElem?_of_mem (zlv_in hn hlw)
  exact lv_iinc hx hb hd (zlv_has hL.1 hL.2.1) hk (by rw [h1]) hn rfl fun ls' h' => h ad hag H locs ls' sv hW hS (zkeep1 hL hi (v := v') hx' h') hT
end ZS
