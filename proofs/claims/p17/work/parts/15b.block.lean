/-! A block: from the canonical picture of run's loop head to itself. -/
/-- a symbol alone -/
def zsb0 (b : Nat) : Nat := b * 1099511627776 + 549755813888
theorem zd_b0 (σ : Nat → Int) (b : Nat) : zd σ (zsb0 b) = σ b := by
  unfold zd zsb0
  rw [show (b * 1099511627776 + 549755813888) / 1099511627776 = b by omega, show (b * 1099511627776 + 549755813888) % 1099511627776 = 549755813888 by omega]
  omega
/-- what is asked of the canonical objects: cf the fields with symbols (base, object, slot), ca the symbolic arrays (number, object) -/
abbrev ZCn : Type := List (Nat × Nat × Nat) × List (Nat × Nat)
noncomputable def zcn1 (cf : List (Nat × Nat × Nat)) (k j : Nat) (v : ZV) : Bool := zif (zvfr v) true (cf.any fun q => zif (Nat.beq q.2.1 k) (zif (Nat.beq q.2.2 j) (zv_eqb v (5, zsb0 q.1)) false) false)
noncomputable def zcnO (C : ZCn) (k : Nat) (o : ZO) : Bool := zif (Nat.ble o.1 99) (zif (C.2.any fun q => Nat.beq q.2 k) false (zt_all (fun j v => zcn1 C.1 k j v) 18 o.2.2 0 1))
  (zif (Nat.ble 1000 o.1) (C.2.any fun q => zif (Nat.beq q.2 k) (zif (Nat.beq q.1 (Nat.div o.1 4)) (@Option.rec (Option ZV × ZT ZV 17 × ZT ZV 17) (fun _ => Bool) true (fun _ => false) o.2.2) false) false) false)
noncomputable def zcnB (C : ZCn) (h : ZH) : Bool := zt_all (fun k o => zcnO C k o) 10 h 0 1
noncomputable def zcfB (C : ZCn) (h : ZH) : Bool := C.1.all fun q => @Option.rec ZO (fun _ => Bool) false (fun o => zo_eqb zv_eqb (zt_get 18 o.2.2 q.2.2) (some (5, zsb0 q.1))) (zt_get 10 h q.2.1)
theorem zcfB_ok {C : ZCn} {h : ZH} (hc : zcfB C h = true) {q : Nat × Nat × Nat} (hq : q ∈ C.1) {o : ZO} (ho : zt_get 10 h q.2.1 = some o) : zt_get 18 o.2.2 q.2.2 = some (5, zsb0 q.1) := by
  have k := List.all_eq_true.mp hc q hq
  rw [ho] at k
  exact zo_eqb_ok (fun _ _ => zv_eqb_ok) k
/-- keys of a block: array, slot, place, value before, value behind -/
abbrev ZKy : Type := Nat × Nat × ZV × ZV × ZV
def zaob (C : ZCn) (a : Nat) : Nat := ((C.2.find? fun q => q.1 == a).map (fun q => q.2)).getD 0
def zwF (C : ZCn) (fv : List ZV) : List ZWr := List.zipWith (fun c v => (c.2.1, c.2.2, v)) C.1 fv
def zwK0 (C : ZCn) (ky : List ZKy) : List ZWr := ky.map fun q => (zaob C q.1, q.2.1, q.2.2.2.1)
def zwK1 (C : ZCn) (ky : List ZKy) : List ZWr := ky.map fun q => (zaob C q.1, q.2.1, q.2.2.2.2)
theorem zwl_mem {k j : Nat} {v : ZV} : ∀ W : List ZWr, zwl k j W = some v → (k, j, v) ∈ W
  | [], h => by cases h
  | q :: W, h => by
    have h : (match zwl k j W with
      | some v => some v
      | none => if q.1 = k ∧ q.2.1 = j then some q.2.2 else none) = some v := h
    cases hz : zwl k j W with
    | some v1 =>
      rw [hz] at h
      have h : some v1 = some v := h
      rw [h] at hz
      exact List.mem_cons_of_mem _ (zwl_mem W hz)
    | none =>
      rw [hz] at h
      have h : (if q.1 = k ∧ q.2.1 = j then some q.2.2 else none) = some v := h
      by_cases e : q.1 = k ∧ q.2.1 = j
      · rw [if_pos e] at h
        obtain ⟨q1, q2, q3⟩ := q
        have h : q3 = v := Option.some.inj h
        obtain ⟨e1, e2⟩ := e
        have e1 : q1 = k := e1
        have e2 : q2 = j := e2
        rw [e1, e2, h]
        exact List.mem_cons_self
      · rw [if_neg e] at h
        cases h
theorem zwl_some {k j : Nat} {v : ZV} : ∀ W : List ZWr, (k, j, v) ∈ W → ∃ v', zwl k j W = some v'
  | [], h => by cases h
  | q :: W, h => by
    show ∃ v', (match zwl k j W with
      | some v => some v
      | none => if q.1 = k ∧ q.2.1 = j then some q.2.2 else none) = some v'
    cases hz : zwl k j W with
    | some v1 => exact ⟨v1, rfl⟩
    | none =>
      rcases List.mem_cons.mp h with h | h
      · rw [← h]
        exact ⟨v, if_pos ⟨rfl, rfl⟩⟩
      · obtain ⟨v', h'⟩ := zwl_some W h
        rw [hz] at h'
        cases h'
def zc16 (v : ZV) : ZL := [some (3, 63), some (0, 20000), some v, none, none]
/-- the tables are as they should be -/
def zCok (C : ZCn) : Prop := (∀ q ∈ C.1, ∀ q' ∈ C.1, q.2 = q'.2 → q = q') ∧ (∀ q ∈ C.2, zaob C q.1 = q.2) ∧ (∀ q ∈ C.2, ∀ q' ∈ C.2, q.2 = q'.2 → q = q') ∧ ∀ q ∈ C.1, ∀ q' ∈ C.2, q.2.1 ≠ q'.2
def zkyA (C : ZCn) (ky : List ZKy) : Prop := ∀ q ∈ ky, ∃ c ∈ C.2, c.1 = q.1
/-- a key's values are of its array's sort: 1 of ints, 2 of longs -/
noncomputable def zkyT (h : ZH) (C : ZCn) (ky : List ZKy) : Bool := ky.all fun q => @Option.rec ZO (fun _ => Bool) false (fun o => zif (Nat.beq (Nat.mod o.1 4) 2) (zif (zisl q.2.2.2.1) (zisl q.2.2.2.2) false) (zif (zisi q.2.2.2.1) (zisi q.2.2.2.2) false)) (zt_get 10 h (zaob C q.1))
section ZB
variable {B0 : Nat} {X : ZX} {C : ZCn} {h h0 : ZH} {n : Nat} {S S' : ZSg} {ad : Nat → Nat} {ky : List ZKy} {fv : List ZV}
theorem zcn_o (hc : zcnB C h = true) {k : Nat} {o : ZO} (ho : zt_get 10 h k = some o) : zcnO C k o = true := by
  have k1 := zt_all_get 10 h 0 1 k o hc ho
  rw [Nat.zero_add, Nat.one_mul] at k1
  exact k1
theorem zwF_mem {k j : Nat} {v : ZV} (hm : (k, j, v) ∈ zwF C fv) : ∃ q ∈ List.zip C.1 fv, q.1.2.1 = k ∧ q.1.2.2 = j ∧ q.2 = v := by
  unfold zwF at hm
  rw [← List.map_uncurry_zip_eq_zipWith] at hm
  obtain ⟨q, hq, e⟩ := List.mem_map.mp hm
  have e : (q.1.2.1, q.1.2.2, q.2) = (k, j, v) := e
  exact ⟨q, hq, (Prod.ext_iff.mp e).1, (Prod.ext_iff.mp (Prod.ext_iff.mp e).2).1, (Prod.ext_iff.mp (Prod.ext_iff.mp e).2).2⟩
theorem zip_left {α β : Type} {q : α} : ∀ (l : List α) (r : List β), l.length = r.length → q ∈ l → ∃ v, (q, v) ∈ List.zip l r
  | [], _, _, h => by cases h
  | a :: l, [], hl, _ => by cases hl
  | a :: l, b :: r, hl, h => by
    rcases List.mem_cons.mp h with rfl | h
    · exact ⟨b, List.mem_cons_self⟩
    · obtain ⟨v, hv⟩ := zip_left l r (Nat.succ.inj hl) h
      exact ⟨v, List.mem_cons_of_mem _ hv⟩
/-- into a block: the canonical picture under S is the block's under S' -/
theorem zin_block (hC : zCok C) (hc : zcnB C h = true) (hcf : zcfB C h = true) (hl : C.1.length = fv.length) (hfv : ∀ v ∈ fv, zisi v = true) (hka : zkyA C ky) (hkt : zkyT h C ky = true) (hw : zwr (zwF C fv ++ zwK0 C ky) h = some h0)
    (hph : zph (zXS X S') = zph (zXS X S)) (hF : ∀ q ∈ List.zip C.1 fv, zvn S'.1 q.2 = S.1 q.1.1)
    (hK : ∀ q ∈ ky, ∀ o, zt_get 10 h (zaob C q.1) = some o → S'.2.2 q.1 q.2.1 < o.2.1 ∧ S.2.1 q.1 (S'.2.2 q.1 q.2.1) = zvn S'.1 q.2.2.2.1) {H : Heap} (hW : zW1 B0 (zXS X S) ad (h, n, 0, 0) H) : zW1 B0 (zXS X S') ad (h0, n, 0, 0) H := by
  refine zW1_shift (G := (h, n, 0, 0)) (G' := (h0, n, 0, 0)) rfl (fun k o e hk ho hz => ?_) hW
  have ho : zt_get 10 h k = some o := ho
  obtain ⟨o', g1, g2, g3, g4⟩ := zwr_ok _ h h0 hw k o ho
  refine ⟨o', g1, ?_⟩
  have g4 : ∀ j, zt_get 18 o'.2.2 j = match zwl k j (zwF C fv ++ zwK0 C ky) with
    | some v => some v
    | none => zt_get 18 o.2.2 j := g4
  have ck := zcn_o hc ho
  rcases zif_or ck with ⟨e1, ck⟩ | ⟨e1, ck⟩
  · have e1 := zl_le e1
    rcases zif_or ck with ⟨-, ck⟩ | ⟨e2, ck⟩
    · cases ck
    have noarr : ∀ q ∈ C.2, q.2 ≠ k := fun q hq e => by
      have : (C.2.any fun q => Nat.beq q.2 k) = true := List.any_eq_true.mpr ⟨q, hq, zb_t e⟩
      rw [this] at e2
      cases e2
    have wf : ∀ {j : Nat} {v : ZV}, zwl k j (zwF C fv ++ zwK0 C ky) = some v → ∃ q ∈ List.zip C.1 fv, q.1.2.1 = k ∧ q.1.2.2 = j ∧ q.2 = v := by
      intro j v hv
      rcases List.mem_append.mp (zwl_mem _ hv) with m | m
      · exact zwF_mem m
      · exfalso
        obtain ⟨q, hq, e⟩ := List.mem_map.mp m
        have e : (zaob C q.1, q.2.1, q.2.2.2.1) = (k, j, v) := e
        obtain ⟨c, hc1, hc2⟩ := hka q hq
        have := hC.2.1 c hc1
        rw [hc2] at this
        exact noarr c hc1 (this.symm.trans (Prod.ext_iff.mp e).1)
    have nofr : ∀ {j : Nat} {v : ZV}, zwl k j (zwF C fv ++ zwK0 C ky) = some v → ∃ b, zt_get 18 o.2.2 j = some (5, b) := by
      intro j v hv
      obtain ⟨q, hq, a1, a2, -⟩ := wf hv
      have := zcfB_ok hcf (List.of_mem_zip hq).1 (o := o) (by rw [a1]; exact ho)
      rw [a2] at this
      exact ⟨_, this⟩
    have conv : ∀ (q : (Nat × Nat × Nat) × ZV), q ∈ List.zip C.1 fv → ∀ w : Value, zv (zXS X S) ad n (5, zsb0 q.1.1) w → zv (zXS X S') ad n q.2 w := by
      intro q hq w hw5
      have hi := hfv q.2 (List.of_mem_zip hq).2
      have e5 : w = .int (Int32.ofInt (zd S.1 (zsb0 q.1.1))) := hw5
      rw [zd_b0, ← hF q hq] at e5
      rw [e5]
      show zv (zXS X S') ad n q.2 (.int (Int32.ofInt (zvn (zsg (zXS X S')) q.2)))
      rw [← zvn_i (X := zXS X S') hi]
      exact zvi_is hi
    refine zob1_by (by omega) g2 g3 (fun j v w hv hwv => ?_) (fun j hj => ?_) hz
    · have cv := zt_all_get 18 o.2.2 0 1 j v ck hv
      rw [Nat.zero_add, Nat.one_mul] at cv
      rw [g4 j]
      rcases zif_or cv with ⟨e3, -⟩ | ⟨-, cv⟩
      · cases hz2 : zwl k j (zwF C fv ++ zwK0 C ky) with
        | none => exact ⟨v, hv, (zv_free e3).mpr ((zv_free e3).mp hwv)⟩
        | some v' =>
          exfalso
          obtain ⟨b, hb⟩ := nofr hz2
          rw [hb] at hv
          cases hv
          cases e3
      · obtain ⟨q, hq, e4⟩ := List.any_eq_true.mp cv
        obtain ⟨e5, e6⟩ := zif_and e4
        obtain ⟨e7, e8⟩ := zif_and e6
        have e5 := zb_eq e5
        have e7 := zb_eq e7
        have e8 := zv_eqb_ok e8
        obtain ⟨v9, hv9⟩ := zip_left C.1 fv hl hq
        have m9 : (k, j, v9) ∈ zwF C fv ++ zwK0 C ky := by
          refine List.mem_append_left _ ?_
          unfold zwF
          rw [← List.map_uncurry_zip_eq_zipWith]
          exact List.mem_map.mpr ⟨_, hv9, by rw [← e5, ← e7]; rfl⟩
        obtain ⟨v', hv'⟩ := zwl_some _ m9
        rw [hv']
        obtain ⟨q', hq', a1, a2, a3⟩ := wf hv'
        have eq1 : q'.1 = q := hC.1 _ (List.of_mem_zip hq').1 q hq (Prod.ext (a1.trans e5.symm) (a2.trans e7.symm))
        refine ⟨v', rfl, ?_⟩
        rw [← a3]
        refine conv q' hq' w ?_
        rw [eq1, ← e8]
        exact hwv
    · rw [g4 j, hj]
      cases hz2 : zwl k j (zwF C fv ++ zwK0 C ky) with
      | none => rfl
      | some v' =>
        exfalso
        obtain ⟨b, hb⟩ := nofr hz2
        rw [hb] at hj
        cases hj
  · obtain ⟨e2, ck⟩ := zif_and ck
    have e2 := zl_le e2
    obtain ⟨c, hc2, ck⟩ := List.any_eq_true.mp ck
    obtain ⟨e3, ck⟩ := zif_and ck
    obtain ⟨e4, ck⟩ := zif_and ck
    have e3 := zb_eq e3
    have e4 : c.1 = o.1 / 4 := zb_eq e4
    have hnil : ∀ j, zt_get 18 o.2.2 j = none := by
      intro j
      obtain ⟨o1, o2, o3⟩ := o
      cases o3 with
      | none => exact zt_getN 18 j
      | some _ => exact absurd (show false = true from ck) (by decide)
    have hao : zaob C c.1 = k := (hC.2.1 c hc2).trans e3
    have wk : ∀ {j : Nat} {v : ZV}, zt_get 18 o'.2.2 j = some v → ∃ q ∈ ky, q.1 = o.1 / 4 ∧ q.2.1 = j ∧ q.2.2.2.1 = v := by
      intro j v hv
      rw [g4 j] at hv
      cases hz2 : zwl k j (zwF C fv ++ zwK0 C ky) with
      | none =>
        rw [hz2, hnil] at hv
        cases hv
      | some v' =>
        rw [hz2] at hv
        have hv : v' = v := Option.some.inj hv
        subst hv
        rcases List.mem_append.mp (zwl_mem _ hz2) with m | m
        · exfalso
          obtain ⟨q, hq, a1, -, -⟩ := zwF_mem m
          exact hC.2.2.2 _ (List.of_mem_zip hq).1 c hc2 (a1.trans e3.symm)
        · obtain ⟨q, hq, e⟩ := List.mem_map.mp m
          have e : (zaob C q.1, q.2.1, q.2.2.2.1) = (k, j, v') := e
          obtain ⟨c9, hc9, hc8⟩ := hka q hq
          have a1 := hC.2.1 c9 hc9
          have ek : zaob C q.1 = k := (Prod.ext_iff.mp e).1
          rw [hc8, ek] at a1
          have a2 := hC.2.2.1 c9 hc9 c hc2 (a1.symm.trans e3.symm)
          exact ⟨q, hq, by rw [← hc8, a2]; exact e4, (Prod.ext_iff.mp (Prod.ext_iff.mp e).2).1, (Prod.ext_iff.mp (Prod.ext_iff.mp e).2).2⟩
    have hz := zsya_of hz e2 (by decide)
    refine Or.inr ?_
    have ty : ∀ q ∈ ky, q.1 = o.1 / 4 → (zif (Nat.beq (Nat.mod o.1 4) 2) (zif (zisl q.2.2.2.1) (zisl q.2.2.2.2) false) (zif (zisi q.2.2.2.1) (zisi q.2.2.2.2) false)) = true := by
      intro q hq e
      have t := List.all_eq_true.mp hkt q hq
      have : zaob C q.1 = k := by rw [e, ← e4]; exact hao
      rw [this, ho] at t
      exact t
    have ko : ∀ q ∈ ky, q.1 = o.1 / 4 → S'.2.2 q.1 q.2.1 < o.2.1 ∧ S.2.1 q.1 (S'.2.2 q.1 q.2.1) = zvn S'.1 q.2.2.2.1 := by
      intro q hq e
      exact hK q hq o (by rw [e, ← e4, hao]; exact ho)
    have ph : S'.2.1 = S.2.1 := hph
    obtain ⟨h1k, ⟨m1, f, b1, b2, b3⟩ | ⟨m1, f, b1, b2, b3⟩⟩ := hz
    · refine ⟨by rw [g2]; exact e2, Or.inl ⟨by rw [g2]; exact m1, f, by rw [g2, g3]; exact b1, fun sl v hv => ?_, fun j hj hno => ?_⟩⟩
      · obtain ⟨q, hq, q1, q2, q3⟩ := wk hv
        obtain ⟨k1, k2⟩ := ko q hq q1
        have t := ty q hq q1
        rw [show Nat.beq (Nat.mod o.1 4) 2 = false from zb_f (show o.1 % 4 ≠ 2 by omega)] at t
        obtain ⟨t1, -⟩ := zif_and (show zif (zisi q.2.2.2.1) (zisi q.2.2.2.2) false = true from t)
        rw [g2, g3]
        show S'.2.2 (o.1 / 4) sl < o.2.1 ∧ zv (zXS X S') ad n v (.int (f (S'.2.2 (o.1 / 4) sl)))
        rw [← q1, ← q2]
        refine ⟨k1, ?_⟩
        have b4 := b3 (S'.2.2 q.1 q.2.1) k1 (fun sl2 v2 z => by rw [hnil] at z; cases z)
        rw [b4, q1.symm]
        show zv (zXS X S') ad n v (.int (Int32.ofInt (S.2.1 q.1 (S'.2.2 q.1 q.2.1))))
        rw [k2, ← q3]
        show zv (zXS X S') ad n q.2.2.2.1 (.int (Int32.ofInt (zvn (zsg (zXS X S')) q.2.2.2.1)))
        rw [← zvn_i (X := zXS X S') t1]
        exact zvi_is t1
      · rw [g3] at hj
        rw [b3 j hj (fun sl2 v2 z => by rw [hnil] at z; cases z), g2]
        show Int32.ofInt (S.2.1 (o.1 / 4) j) = Int32.ofInt (S'.2.1 (o.1 / 4) j)
        rw [ph]
    · refine ⟨by rw [g2]; exact e2, Or.inr ⟨by rw [g2]; exact m1, f, by rw [g2, g3]; exact b1, fun sl v hv => ?_, fun j hj hno => ?_⟩⟩
      · obtain ⟨q, hq, q1, q2, q3⟩ := wk hv
        obtain ⟨k1, k2⟩ := ko q hq q1
        have t := ty q hq q1
        rw [show Nat.beq (Nat.mod o.1 4) 2 = true from zb_t m1] at t
        obtain ⟨t1, -⟩ := zif_and (show zif (zisl q.2.2.2.1) (zisl q.2.2.2.2) false = true from t)
        rw [g2, g3]
        show S'.2.2 (o.1 / 4) sl < o.2.1 ∧ zv (zXS X S') ad n v (.long (f (S'.2.2 (o.1 / 4) sl)))
        rw [← q1, ← q2]
        refine ⟨k1, ?_⟩
        have b4 := b3 (S'.2.2 q.1 q.2.1) k1 (fun sl2 v2 z => by rw [hnil] at z; cases z)
        rw [b4, q1.symm]
        show zv (zXS X S') ad n v (.long (Int64.ofInt (S.2.1 q.1 (S'.2.2 q.1 q.2.1))))
        rw [k2, ← q3]
        show zv (zXS X S') ad n q.2.2.2.1 (.long (Int64.ofInt (zvn (zsg (zXS X S')) q.2.2.2.1)))
        rw [← zvn_l (X := zXS X S') t1]
        exact zvl_is t1
      · rw [g3] at hj
        rw [b3 j hj (fun sl2 v2 z => by rw [hnil] at z; cases z), g2]
        show Int64.ofInt (S.2.1 (o.1 / 4) j) = Int64.ofInt (S'.2.1 (o.1 / 4) j)
        rw [ph]
theorem zwr_back : ∀ (W : List ZWr) (h h' : ZH), zwr W h = some h' → ∀ (k : Nat) (o' : ZO), zt_get 10 h' k = some o' → ∃ o, zt_get 10 h k = some o
  | [], h, h', e, k, o', ho => by
    have e : some h = some h' := e
    cases e
    exact ⟨o', ho⟩
  | q :: W, h, h', e, k, o', ho => by
    have ea : (zob (zt_get 10 h q.1) fun o => zob (zt_set 18 o.2.2 q.2.1 q.2.2) fun t => zob (zt_set 10 h q.1 (o.1, o.2.1, t)) fun h' => zwr W h') = some h' := e
    obtain ⟨o1, e1, eb⟩ := zob_some ea
    obtain ⟨t, e2, ec⟩ := zob_some eb
    obtain ⟨h1, e3, ed⟩ := zob_some ec
    obtain ⟨o, k1⟩ := zwr_back W h1 h' ed k o' ho
    rw [zt_gs 10 _ _ _ _ _ e3] at k1
    by_cases hk : k = q.1
    · exact ⟨o1, by rw [hk]; exact e1⟩
    · rw [if_neg hk] at k1
      exact ⟨o, k1⟩
/-- out of a block: its last picture under S is the canonical one under S' -/
theorem zout_block (hC : zCok C) (hc : zcnB C h = true) (hcf : zcfB C h = true) (hl : C.1.length = fv.length) (hfv : ∀ v ∈ fv, zisi v = true) (hka : zkyA C ky) (hkt : zkyT h C ky = true) (hw : zwr (zwF C fv ++ zwK1 C ky) h = some h0)
    (hF : ∀ q ∈ List.zip C.1 fv, S'.1 q.1.1 = zvn S.1 q.2) (hK1 : ∀ q ∈ ky, S'.2.1 q.1 (S.2.2 q.1 q.2.1) = zvn S.1 q.2.2.2.2) (hK2 : ∀ a j, (∀ q ∈ ky, q.1 = a → S.2.2 a q.2.1 ≠ j) → S'.2.1 a j = S.2.1 a j)
    {H : Heap} (hW : zW1 B0 (zXS X S) ad (h0, n, 0, 0) H) : zW1 B0 (zXS X S') ad (h, n, 0, 0) H := by
  refine zW1_shift (G := (h0, n, 0, 0)) (G' := (h, n, 0, 0)) rfl (fun k o e hk ho hz => ?_) hW
  have ho : zt_get 10 h0 k = some o := ho
  obtain ⟨o0, ho0⟩ := zwr_back _ h h0 hw k o ho
  refine ⟨o0, ho0, ?_⟩
  obtain ⟨o2, g1, g2, g3, g4⟩ := zwr_ok _ h h0 hw k o0 ho0
  cases g1.symm.trans ho
  have g4 : ∀ j, zt_get 18 o.2.2 j = match zwl k j (zwF C fv ++ zwK1 C ky) with
    | some v => some v
    | none => zt_get 18 o0.2.2 j := g4
  have ck := zcn_o hc ho0
  rcases zif_or ck with ⟨e1, ck⟩ | ⟨e1, ck⟩
  · have e1 := zl_le e1
    rcases zif_or ck with ⟨-, ck⟩ | ⟨e2, ck⟩
    · cases ck
    have noarr : ∀ q ∈ C.2, q.2 ≠ k := fun q hq e => by
      have : (C.2.any fun q => Nat.beq q.2 k) = true := List.any_eq_true.mpr ⟨q, hq, zb_t e⟩
      rw [this] at e2
      cases e2
    have wf : ∀ {j : Nat} {v : ZV}, zwl k j (zwF C fv ++ zwK1 C ky) = some v → ∃ q ∈ List.zip C.1 fv, q.1.2.1 = k ∧ q.1.2.2 = j ∧ q.2 = v := by
      intro j v hv
      rcases List.mem_append.mp (zwl_mem _ hv) with m | m
      · exact zwF_mem m
      · exfalso
        obtain ⟨q, hq, e⟩ := List.mem_map.mp m
        have e : (zaob C q.1, q.2.1, q.2.2.2.2) = (k, j, v) := e
        obtain ⟨c, hc1, hc2⟩ := hka q hq
        have := hC.2.1 c hc1
        rw [hc2] at this
        exact noarr c hc1 (this.symm.trans (Prod.ext_iff.mp e).1)
    refine zob1_by (by omega) g2.symm g3.symm (fun j v w hv hwv => ?_) (fun j hj => ?_) hz
    · rw [g4 j] at hv
      cases hz2 : zwl k j (zwF C fv ++ zwK1 C ky) with
      | some v' =>
        rw [hz2] at hv
        have hv : v' = v := Option.some.inj hv
        obtain ⟨q, hq, a1, a2, a3⟩ := wf hz2
        have a4 := zcfB_ok hcf (List.of_mem_zip hq).1 (o := o0) (by rw [a1]; exact ho0)
        rw [a2] at a4
        refine ⟨_, a4, ?_⟩
        have hi := hfv q.2 (List.of_mem_zip hq).2
        rw [← hv, ← a3] at hwv
        have e5 := zvi_ok hi hwv
        rw [zvn_i hi] at e5
        rw [e5]
        show Value.int (Int32.ofInt (zvn S.1 q.2)) = .int (Int32.ofInt (zd S'.1 (zsb0 q.1.1)))
        rw [zd_b0, hF q hq]
      | none =>
        rw [hz2] at hv
        have hv : zt_get 18 o0.2.2 j = some v := hv
        have cv := zt_all_get 18 o0.2.2 0 1 j v ck hv
        rw [Nat.zero_add, Nat.one_mul] at cv
        rcases zif_or cv with ⟨e3, -⟩ | ⟨-, cv⟩
        · exact ⟨v, hv, (zv_free e3).mpr ((zv_free e3).mp hwv)⟩
        · exfalso
          obtain ⟨q, hq, e4⟩ := List.any_eq_true.mp cv
          obtain ⟨e5, e6⟩ := zif_and e4
          obtain ⟨e7, -⟩ := zif_and e6
          have e5 := zb_eq e5
          have e7 := zb_eq e7
          obtain ⟨v9, hv9⟩ := zip_left C.1 fv hl hq
          have m9 : (k, j, v9) ∈ zwF C fv ++ zwK1 C ky := by
            refine List.mem_append_left _ ?_
            unfold zwF
            rw [← List.map_uncurry_zip_eq_zipWith]
            exact List.mem_map.mpr ⟨_, hv9, by rw [← e5, ← e7]; rfl⟩
          obtain ⟨v', hv'⟩ := zwl_some _ m9
          rw [hz2] at hv'
          cases hv'
    · rw [g4 j] at hj
      cases hz2 : zwl k j (zwF C fv ++ zwK1 C ky) with
      | some v' =>
        rw [hz2] at hj
        cases hj
      | none =>
        rw [hz2] at hj
        exact hj
  · obtain ⟨e2, ck⟩ := zif_and ck
    have e2 := zl_le e2
    obtain ⟨c, hc2, ck⟩ := List.any_eq_true.mp ck
    obtain ⟨e3, ck⟩ := zif_and ck
    obtain ⟨e4, ck⟩ := zif_and ck
    have e3 := zb_eq e3
    have e4 : c.1 = o0.1 / 4 := zb_eq e4
    have hnil : ∀ j, zt_get 18 o0.2.2 j = none := by
      intro j
      obtain ⟨o1, o2, o3⟩ := o0
      cases o3 with
      | none => exact zt_getN 18 j
      | some _ => exact absurd (show false = true from ck) (by decide)
    have hao : zaob C c.1 = k := (hC.2.1 c hc2).trans e3
    have wk : ∀ {j : Nat} {v : ZV}, zt_get 18 o.2.2 j = some v → ∃ q ∈ ky, q.1 = o0.1 / 4 ∧ q.2.1 = j ∧ q.2.2.2.2 = v := by
      intro j v hv
      rw [g4 j] at hv
      cases hz2 : zwl k j (zwF C fv ++ zwK1 C ky) with
      | none =>
        rw [hz2] at hv
        have hv : zt_get 18 o0.2.2 j = some v := hv
        rw [hnil] at hv
        cases hv
      | some v' =>
        rw [hz2] at hv
        have hv : v' = v := Option.some.inj hv
        subst hv
        rcases List.mem_append.mp (zwl_mem _ hz2) with m | m
        · exfalso
          obtain ⟨q, hq, a1, -, -⟩ := zwF_mem m
          exact hC.2.2.2 _ (List.of_mem_zip hq).1 c hc2 (a1.trans e3.symm)
        · obtain ⟨q, hq, e⟩ := List.mem_map.mp m
          have e : (zaob C q.1, q.2.1, q.2.2.2.2) = (k, j, v') := e
          obtain ⟨c9, hc9, hc8⟩ := hka q hq
          have a1 := hC.2.1 c9 hc9
          have ek : zaob C q.1 = k := (Prod.ext_iff.mp e).1
          rw [hc8, ek] at a1
          have a2 := hC.2.2.1 c9 hc9 c hc2 (a1.symm.trans e3.symm)
          exact ⟨q, hq, by rw [← hc8, a2]; exact e4, (Prod.ext_iff.mp (Prod.ext_iff.mp e).2).1, (Prod.ext_iff.mp (Prod.ext_iff.mp e).2).2⟩
    have has : ∀ q ∈ ky, q.1 = o0.1 / 4 → ∃ v, zt_get 18 o.2.2 q.2.1 = some v := by
      intro q hq e
      have m9 : (k, q.2.1, q.2.2.2.2) ∈ zwF C fv ++ zwK1 C ky := List.mem_append_right _ (List.mem_map.mpr ⟨q, hq, by rw [e, ← e4, hao]⟩)
      obtain ⟨v', hv'⟩ := zwl_some _ m9
      exact ⟨v', by rw [g4, hv']⟩
    have hz := zsya_of hz (by rw [g2]; exact e2) (by decide)
    refine Or.inr ?_
    have ty : ∀ q ∈ ky, q.1 = o0.1 / 4 → (zif (Nat.beq (Nat.mod o0.1 4) 2) (zif (zisl q.2.2.2.1) (zisl q.2.2.2.2) false) (zif (zisi q.2.2.2.1) (zisi q.2.2.2.2) false)) = true := by
      intro q hq e
      have t := List.all_eq_true.mp hkt q hq
      have : zaob C q.1 = k := by rw [e, ← e4]; exact hao
      rw [this, ho0] at t
      exact t
    obtain ⟨h1k, ⟨m1, f, b1, b2, b3⟩ | ⟨m1, f, b1, b2, b3⟩⟩ := hz
    · rw [g2] at m1 b1 b2 b3
      rw [g3] at b1 b2 b3
      refine ⟨e2, Or.inl ⟨m1, f, b1, fun sl v hv => ?_, fun j hj hno => ?_⟩⟩
      · rw [hnil] at hv
        cases hv
      · by_cases hx : ∃ q ∈ ky, q.1 = o0.1 / 4 ∧ S.2.2 (o0.1 / 4) q.2.1 = j
        · obtain ⟨q, hq, x1, x2⟩ := hx
          obtain ⟨v, hv⟩ := has q hq x1
          obtain ⟨-, b5⟩ := b2 q.2.1 v hv
          obtain ⟨q', hq', y1, y2, y3⟩ := wk hv
          have t := ty q' hq' y1
          rw [show Nat.beq (Nat.mod o0.1 4) 2 = false from zb_f (show o0.1 % 4 ≠ 2 by omega)] at t
          obtain ⟨-, t2⟩ := zif_and (show zif (zisi q'.2.2.2.1) (zisi q'.2.2.2.2) false = true from t)
          rw [y3] at t2
          have b6 := zvi_ok t2 b5
          rw [zvn_i t2] at b6
          have b6 : f (S.2.2 (o0.1 / 4) q.2.1) = Int32.ofInt (zvn S.1 v) := Value.int.inj b6
          have b7 := hK1 q' hq'
          rw [y1, y2, y3] at b7
          rw [← x2, b6]
          show _ = Int32.ofInt (S'.2.1 (o0.1 / 4) (S.2.2 (o0.1 / 4) q.2.1))
          rw [b7]
        · rw [b3 j hj (fun sl v hv => by
            obtain ⟨q, hq, y1, y2, -⟩ := wk hv
            intro z
            exact hx ⟨q, hq, y1, by rw [y2]; exact z⟩)]
          show Int32.ofInt (S.2.1 (o0.1 / 4) j) = Int32.ofInt (S'.2.1 (o0.1 / 4) j)
          rw [hK2 (o0.1 / 4) j (fun q hq z1 z2 => hx ⟨q, hq, z1, z2⟩)]
    · rw [g2] at m1 b1 b2 b3
      rw [g3] at b1 b2 b3
      refine ⟨e2, Or.inr ⟨m1, f, b1, fun sl v hv => ?_, fun j hj hno => ?_⟩⟩
      · rw [hnil] at hv
        cases hv
      · by_cases hx : ∃ q ∈ ky, q.1 = o0.1 / 4 ∧ S.2.2 (o0.1 / 4) q.2.1 = j
        · obtain ⟨q, hq, x1, x2⟩ := hx
          obtain ⟨v, hv⟩ := has q hq x1
          obtain ⟨-, b5⟩ := b2 q.2.1 v hv
          obtain ⟨q', hq', y1, y2, y3⟩ := wk hv
          have t := ty q' hq' y1
          rw [show Nat.beq (Nat.mod o0.1 4) 2 = true from zb_t m1] at t
          obtain ⟨-, t2⟩ := zif_and (show zif (zisl q'.2.2.2.1) (zisl q'.2.2.2.2) false = true from t)
          rw [y3] at t2
          have b6 := zvl_ok t2 b5
          rw [zvn_l t2] at b6
          have b6 : f (S.2.2 (o0.1 / 4) q.2.1) = Int64.ofInt (zvn S.1 v) := Value.long.inj b6
          have b7 := hK1 q' hq'
          rw [y1, y2, y3] at b7
          rw [← x2, b6]
          show _ = Int64.ofInt (S'.2.1 (o0.1 / 4) (S.2.2 (o0.1 / 4) q.2.1))
          rw [b7]
        · rw [b3 j hj (fun sl v hv => by
            obtain ⟨q, hq, y1, y2, -⟩ := wk hv
            intro z
            exact hx ⟨q, hq, y1, by rw [y2]; exact z⟩)]
          show Int64.ofInt (S.2.1 (o0.1 / 4) j) = Int64.ofInt (S'.2.1 (o0.1 / 4) j)
          rw [hK2 (o0.1 / 4) j (fun q hq z1 z2 => hx ⟨q, hq, z1, z2⟩)]
end ZB
theorem zd_b0m (σ : Nat → Int) (b mm : Nat) (h : mm < 1000000) : zd σ (zsb0 b + mm) = σ b + mm := by
  unfold zd zsb0
  rw [show (b * 1099511627776 + 549755813888 + mm) / 1099511627776 = b by omega, show (b * 1099511627776 + 549755813888 + mm) % 1099511627776 = 549755813888 + mm by omega]
  omega
noncomputable def zhkB (rm mm : Nat) : ZHk := (rm, 12, zc16 (8, zsb0 16 + mm))
noncomputable def zblkB (C : ZCn) (h : ZH) (n : Nat) (N : ZN) (f d rm mm : Nat) (fi ff : List ZV) (ky : List ZKy) : Bool :=
  @Option.rec ZH (fun _ => Bool) false (fun h0 => @Option.rec ZH (fun _ => Bool) false (fun h1 =>
    @Option.rec ZRes (fun _ => Bool) false (fun r => zif (Nat.beq r.1 7777778) (zG_eqb r.2.2 (h1, n, 0, 0)) false) (zrunM (zhkB rm mm) [] N f d rm 12 (zc16 (8, zsb0 16)) [] (h0, n, 0, 0)))
    (zwr (zwF C ff ++ zwK1 C ky) h)) (zwr (zwF C fi ++ zwK0 C ky) h)
/-- what is asked of a block's lists -/
noncomputable def zblkL (C : ZCn) (h : ZH) (fi ff : List ZV) (ky : List ZKy) : Bool :=
  zif (Nat.beq C.1.length fi.length) (zif (Nat.beq C.1.length ff.length) (zif (fi.all zisi) (zif (ff.all zisi) (zif (ky.all fun q => C.2.any fun c => Nat.beq c.1 q.1) (zkyT h C ky) false) false) false) false) false
theorem zblkB_ok {C : ZCn} {h : ZH} {n f d rm mm : Nat} {N : ZN} {fi ff : List ZV} {ky : List ZKy} (hb : zblkB C h n N f d rm mm fi ff ky = true) : ∃ (h0 h1 : ZH) (v : Option ZV), zwr (zwF C fi ++ zwK0 C ky) h = some h0 ∧ zwr (zwF C ff ++ zwK1 C ky) h = some h1 ∧ zrunM (zhkB rm mm) [] N f d rm 12 (zc16 (8, zsb0 16)) [] (h0, n, 0, 0) = some (7777778, v, (h1, n, 0, 0)) := by
  unfold zblkB at hb
  cases e0 : zwr (zwF C fi ++ zwK0 C ky) h with
  | none =>
    rw [e0] at hb
    exact absurd (show false = true from hb) (by decide)
  | some h0 =>
    rw [e0] at hb
    cases e1 : zwr (zwF C ff ++ zwK1 C ky) h with
    | none =>
      rw [e1] at hb
      exact absurd (show false = true from hb) (by decide)
    | some h1 =>
      rw [e1] at hb
      have hb : @Option.rec ZRes (fun _ => Bool) false (fun r => zif (Nat.beq r.1 7777778) (zG_eqb r.2.2 (h1, n, 0, 0)) false) (zrunM (zhkB rm mm) [] N f d rm 12 (zc16 (8, zsb0 16)) [] (h0, n, 0, 0)) = true := hb
      cases e2 : zrunM (zhkB rm mm) [] N f d rm 12 (zc16 (8, zsb0 16)) [] (h0, n, 0, 0) with
      | none =>
        rw [e2] at hb
        exact absurd (show false = true from hb) (by decide)
      | some r =>
        rw [e2] at hb
        obtain ⟨k1, k2⟩ := zif_and (show zif (Nat.beq r.1 7777778) (zG_eqb r.2.2 (h1, n, 0, 0)) false = true from hb)
        have er : r = (7777778, r.2.1, (h1, n, 0, 0)) := Prod.ext (zb_eq k1) (Prod.ext rfl (zG_eqb_ok k2))
        exact ⟨h0, h1, r.2.1, rfl, rfl, e2.trans (congrArg some er)⟩
theorem zlc_shift {X : ZX} {S S' : ZSg} {ad : Nat → Nat} {n nL u u' : Nat} {ls : Array Slot} (h : zLc (zXS X S) ad n ls nL (zc16 (8, u))) (hu : zd S'.1 u' = zd S.1 u) : zLc (zXS X S') ad n ls nL (zc16 (8, u')) := by
  refine ⟨h.1, h.2.1, fun i v hv => ?_⟩
  match i, hv with
  | 0, hv =>
    obtain ⟨w, h1, h2⟩ := h.2.2 0 (3, 63) rfl
    cases hv
    exact ⟨w, h1, h2⟩
  | 1, hv =>
    obtain ⟨w, h1, h2⟩ := h.2.2 1 (0, 20000) rfl
    cases hv
    exact ⟨w, h1, h2⟩
  | 2, hv =>
    obtain ⟨w, h1, h2⟩ := h.2.2 2 (8, u) rfl
    cases hv
    refine ⟨w, h1, ?_⟩
    have h2 : w = .long (Int64.ofInt (zd S.1 u)) := h2
    rw [← hu] at h2
    exact h2
  | 3, hv => exact absurd (show some (none : Option ZV) = some (some v) from hv) (by intro q; cases q)
  | 4, hv => exact absurd (show some (none : Option ZV) = some (some v) from hv) (by intro q; cases q)
  | k + 5, hv => exact absurd (show (none : Option (Option ZV)) = some (some v) from hv) (by intro q; cases q)
theorem zblock {B0 Ls : Nat} {X : ZX} {C : ZCn} {h : ZH} {n f d rm mm : Nat} {N : ZN} {fi ff : List ZV} {ky : List ZKy} {S Sb S' : ZSg} {ad0 : Nat → Nat} {n0 : Nat} {p : Program} {l : Launch} {e : Env} {R : Room} {s : State} {m : MethodId} {args : Array Value} {below : List Frame} {meth : Method} {c : Code} {Q : State → Prop}
    (hb : zblkB C h n N f d rm mm fi ff ky = true) (hL : zblkL C h fi ff ky = true) (hA : zAll) (hC : zCok C) (hc : zcnB C h = true) (hcf : zcfB C h = true) (F : zFr B0 Ls X rm d p l R s m args meth c) (hrm : mm < 1000000)
    (hN : zNok (zXS X Sb) Ls N) (hph : Sb.2.1 = S.2.1) (h16 : Sb.1 16 = S.1 16) (hF : ∀ q ∈ List.zip C.1 fi, zvn Sb.1 q.2 = S.1 q.1.1)
    (hK : ∀ q ∈ ky, ∀ o, zt_get 10 h (zaob C q.1) = some o → Sb.2.2 q.1 q.2.1 < o.2.1 ∧ S.2.1 q.1 (Sb.2.2 q.1 q.2.1) = zvn Sb.1 q.2.2.2.1)
    (h16' : S'.1 16 = Sb.1 16 + mm) (hF' : ∀ q ∈ List.zip C.1 ff, S'.1 q.1.1 = zvn Sb.1 q.2) (hK1 : ∀ q ∈ ky, S'.2.1 q.1 (Sb.2.2 q.1 q.2.1) = zvn Sb.1 q.2.2.2.2) (hK2 : ∀ a j, (∀ q ∈ ky, q.1 = a → Sb.2.2 a q.2.1 ≠ j) → S'.2.1 a j = Sb.2.1 a j)
    (go : zHd B0 (zXS X S') ad0 n0 p l e R s m args below meth c Q (zm_nfo rm).1 12 (zc16 (8, zsb0 16)) [] (h, n, 0, 0)) : zHd B0 (zXS X S) ad0 n0 p l e R s m args below meth c Q (zm_nfo rm).1 12 (zc16 (8, zsb0 16)) [] (h, n, 0, 0) := by
  obtain ⟨h0, h1, v, w0, w1, hr⟩ := zblkB_ok hb
  obtain ⟨l1, hL⟩ := zif_and hL
  obtain ⟨l2, hL⟩ := zif_and hL
  obtain ⟨l3, hL⟩ := zif_and hL
  obtain ⟨l4, hL⟩ := zif_and hL
  obtain ⟨l5, l6⟩ := zif_and hL
  have hka : zkyA C ky := fun q hq => by
    obtain ⟨c9, k1, k2⟩ := List.any_eq_true.mp (List.all_eq_true.mp l5 q hq)
    exact ⟨c9, k1, zb_eq k2⟩
  obtain ⟨-, -, -, k4⟩ := zrunM_ok (B0 := B0) (hk := zhkB rm mm) (ml := []) hA hN (fun q hq => by cases hq) f d rm 12 _ _ _ _ hr
  have k5 := k4 ad0 n0 p l e R s m args below meth c Q (zFr_shift F) (Nat.zero_le _) (Nat.zero_le _) ⟨fun z => absurd (show 7777778 = 0 from z) (by decide), fun _ E h8 z => absurd (show 7777778 = E + 1 from z) (by omega), fun _ _ => ?_⟩
  · intro ad hag H locs ls sv hW hS hLc hT
    exact k5 ad hag H locs ls sv (zin_block hC hc hcf (zb_eq l1) (fun v hv => List.all_eq_true.mp l3 v hv) hka l6 w0 hph hF hK hW) hS (zlc_shift hLc (by rw [zd_b0, zd_b0, h16])) hT
  · intro ad hag H locs ls sv hW hS hLc hT
    exact go ad hag H locs ls sv (zout_block hC hc hcf (zb_eq l2) (fun v hv => List.all_eq_true.mp l4 v hv) hka l6 w1 hF' hK1 hK2 hW) hS (zlc_shift hLc (by rw [zd_b0, zd_b0m _ _ _ hrm, h16'])) hT
