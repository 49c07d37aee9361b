/-! What is made; Object.<init>; references compared; rows filled with zeros. -/
theorem zdf_ok {X : ZX} {ad : Nat → Nat} {n : Nat} {ty : FieldType} (h : zdfk ty = true) : zv X ad n (zdf ty) (defaultValue ty) := by
  unfold zdfk at h
  split at h <;> first | exact rfl | cases h
def zcats : List ZV → Nat
  | [] => 0
  | v :: r => (if zlong v = true then 2 else 1) + zcats r
theorem zcats_ok {X : ZX} {ad : Nat → Nat} {n : Nat} : ∀ (st : List ZV) (sv : List Value), zSt (zv X ad n) st sv → (sv.map fun v => v.category).sum = zcats st
  | [], sv, h => by
    have h : sv = [] := h
    subst h
    rfl
  | v :: r, sv, h => by
    obtain ⟨w, sr, rfl, hw, hr⟩ := h
    rw [List.map_cons, List.sum_cons, zcats_ok r sr hr, zv_cat hw]
    rfl
section ZS
variable {B0 Ls : Nat} {X : ZX} {p : Program} {l : Launch} {e : Env} {R : Room} {s : State} {m : MethodId} {args : Array Value} {below : List Frame} {meth : Method} {c : Code} {Q : State → Prop} {own : String} {cc : ByteArray} {nL : Nat} {ad0 : Nat → Nat} {n0 : Nat}
theorem zca {cA : ClassId} {ty : FieldType} {κ : Nat} (hK : va_K X.1 zcl (ztys X) s) (hK1 : va_K X.1 zcl (ztys X ++ [(cA, ty)]) s) (hc : κ ∈ zcodes) (hty : zty κ = ty) : cA = X.2.1 κ := by
  obtain ⟨t0, ht⟩ := ztys_at (X := X) hc
  rw [hty] at ht
  have r1 : va_RA s (X.2.1 κ) ty := (hK.2 t0 _ ht).2
  have r2 : va_RA s cA ty := (hK1.2 (ztys X).length (cA, ty) (by rw [List.getElem?_append_right (Nat.le_refl _), Nat.sub_self]; rfl)).2
  cases ty with
  | object C =>
    obtain ⟨k1, c1, x1, x2, x3, x4⟩ := r1
    obtain ⟨k2, c2, y1, y2, y3, y4⟩ := r2
    exact Option.some.inj (y4.symm.trans x4)
  | _ => exact Option.some.inj ((show s.vm.findClass _ = some cA from r2).symm.trans r1)
def zc_new (own : String) (cc : ByteArray) (pc nx ci idx pos : Nat) : Bool := match zcl[ci]? with
  | some q => decide (nx = pc + 3 ∧ ci < 50 ∧ decode cc pc = .ok (.new idx, 3)) && zwx pos (.classLink own idx q.1)
  | none => false
noncomputable def zo_new (k : ZK) (nx ci N : Nat) (L : ZL) (st : List ZV) (G : ZG) : Option ZRes := zob (zt_set 10 G.1 G.2.1 (ci, N, zk_init ci)) fun h => k nx L ((3, G.2.1) :: st) (h, Nat.succ G.2.1, Nat.succ G.2.2.1, Nat.add G.2.2.2 N)
theorem zs_new {pc nx ci idx pos : Nat} {C : String} {T : u_T} {N : Nat} {h' : ZH} {L : ZL} {st : List ZV} {G : ZG} (F : zF B0 Ls X p l s m args meth c own cc nL) (hq : zcl[ci]? = some (C, T, N)) (hc : zc_new own cc pc nx ci idx pos = true) (h5 : zt_set 10 G.1 G.2.1 (ci, N, zk_init ci) = some h') (r1 : G.2.2.1 + 1 ≤ R.cells) (r2 : G.2.2.2 + N ≤ R.slots)
    (h : zHd B0 X ad0 n0 p l e R s m args below meth c Q nL nx L ((3, G.2.1) :: st) ((h', G.2.1 + 1, G.2.2.1 + 1, G.2.2.2 + N))) : zHd B0 X ad0 n0 p l e R s m args below meth c Q nL pc L st G := by
  have use : ∀ {pos : Nat} {w : Jvm.Cond}, zwx pos w = true → w.before args s = true := fun h => zF_use F h
  obtain ⟨hx, hb, hml, hown, hts, hlk, hK, hF, hB, hst⟩ := F
  intro ad hag H locs ls sv hW hS hL hT
  unfold zc_new at hc
  rw [hq] at hc
  have hc := (Bool.and_eq_true _ _).mp hc
  obtain ⟨rfl, h50, hd⟩ := of_decide_eq_true hc.1
  obtain ⟨k1, k2, k3, k4, k5, k6, k7⟩ := zcl_ok hq
  obtain ⟨ws, hl, hw, hP, hD⟩ := hW
  refine va_new hx hb hts k1 (zfty T) k4 hown (use hc.2) (hts _ k2) (hts _ k3) hK hP hD hS (fun q hh => Nat.le_trans hB hh) hq (fs := (List.range N).map fun j => defaultValue (zfty T j)) (fun j hj => ?_) r1 r2 hd fun q H1 hP1 hD1 hS1 => ?_
  · show _ = List.getD _ _ _
    rw [List.getD_eq_getElem?_getD, List.getElem?_map, List.getElem?_range hj]
    rfl
  · refine h (zad ad G.2.1 q) (zag_push hag) H1 locs ls _ (zW1_push hl hw h5 (Or.inl (Or.inl ⟨h50, ⟨C, T, hq⟩, _, rfl, by rw [List.length_map, List.length_range], fun k hk => ?_⟩)) hP1 hD1) hS1 (zLc_mono hL (Nat.le_succ _) zad_lt) ⟨_, _, rfl, ⟨Nat.lt_succ_self _, by rw [zad_at]⟩, zSt_mono (fun v w hv => zv_mono hv (Nat.le_succ _) zad_lt) _ _ hT⟩
    exact ⟨_, _, k6 k hk, by rw [List.getElem?_map, List.getElem?_range hk]; rfl, zdf_ok (k7 k hk)⟩
def zatI (κ : Nat) : Instr := match κ with
  | 50 => .newarray .int
  | 51 => .newarray .byte
  | 52 => .newarray .boolean
  | _ => .newarray .long
def zatk (κ : Nat) : Bool := match κ with
  | 50 => true
  | 51 => true
  | 60 => true
  | _ => false
noncomputable def zo_newa (k : ZK) (nx κ : Nat) (L : ZL) (st : List ZV) (G : ZG) : Option ZRes := match st with
  | i :: r => zif (Nat.beq i.1 0) (zif (Nat.ble i.2 67108864) (zob (zt_set 10 G.1 G.2.1 (κ, i.2, zt_nil ZV 18)) fun h => k nx L ((3, G.2.1) :: r) (h, Nat.succ G.2.1, Nat.succ G.2.2.1, Nat.add G.2.2.2 i.2)) none) none
  | [] => none
theorem zs_newa {pc nx κ pos u : Nat} {h' : ZH} {L : ZL} {r : List ZV} {G : ZG} (F : zF B0 Ls X p l s m args meth c own cc nL) (hc : (decide (nx = pc + 2 ∧ decode cc pc = .ok (zatI κ, 2)) && zatk κ && zwx pos (.arrayClass (zty κ))) = true) (hu : Nat.ble u 67108864 = true) (h5 : zt_set 10 G.1 G.2.1 (κ, u, zt_nil ZV 18) = some h') (r1 : G.2.2.1 + 1 ≤ R.cells) (r2 : G.2.2.2 + u ≤ R.slots)
    (h : zHd B0 X ad0 n0 p l e R s m args below meth c Q nL nx L ((3, G.2.1) :: r) ((h', G.2.1 + 1, G.2.2.1 + 1, G.2.2.2 + u))) : zHd B0 X ad0 n0 p l e R s m args below meth c Q nL pc L ((0, u) :: r) G := by
  have use : ∀ {pos : Nat} {w : Jvm.Cond}, zwx pos w = true → w.before args s = true := fun h => zF_use F h
  obtain ⟨hx, hb, hml, hown, hts, hlk, hK, hF, hB, hst⟩ := F
  intro ad hag H locs ls sv hW hS hL hT
  obtain ⟨wi, sr, rfl, hi, hr⟩ := hT
  have hi : wi = .int (nI u) := hi
  subst hi
  have hc := (Bool.and_eq_true _ _).mp hc
  have hc1 := (Bool.and_eq_true _ _).mp hc.1
  obtain ⟨rfl, hd⟩ := of_decide_eq_true hc1.1
  have hu := zl_le hu
  have n1 : ¬ nI u < 0 := nI_pos (by omega)
  have n2 : (nI u).toNatClampNeg = u := nI_clamp (by omega)
  obtain ⟨ws, hl, hw, hP, hD⟩ := hW
  have fin : ∀ (q : Nat) (H1 : Heap) (e' : va_E), zob1 X (zad ad G.2.1 q) (G.2.1 + 1) (κ, u, zt_nil ZV 18) e' → va_P X.1 zcl (ws ++ [(q, e')]) H1 → va_D (zA B0) (ws ++ [(q, e')]) → va_S (zA B0) s.heap H1 locs → W p l e R s m args below meth c H1 locs (G.2.2.1 + 1) (G.2.2.2 + u) Q (F0 m (pc + 2) ls (.ref q :: sr)) := fun q H1 e' hz hP1 hD1 hS1 =>
    h (zad ad G.2.1 q) (zag_push hag) H1 locs ls _ (zW1_push hl hw h5 hz hP1 hD1) hS1 (zLc_mono hL (Nat.le_succ _) zad_lt) ⟨_, _, rfl, ⟨Nat.lt_succ_self _, by rw [zad_at]⟩, zSt_mono (fun v w hv => zv_mono hv (Nat.le_succ _) zad_lt) _ _ hr⟩
  have hA : ∀ q, s.heap.size ≤ q → zA B0 q := fun q hh => Nat.le_trans hB hh
  have hk := hc1.2
  have har := use hc.2
  unfold zatk at hk
  split at hk
  · refine va_newa (atype := .int) hx hb har rfl hK hP hD hS hA (a0 := (u, .inl fun _ => 0)) (fun cA => rfl) n1 n2 (by show u * 4 ≤ _; omega) r1 r2 hd fun q cA H1 hK1 hP1 hD1 hS1 => ?_
    cases zca hK hK1 (κ := 50) (by decide) rfl
    exact fin q H1 _ (Or.inl (Or.inr (Or.inl ⟨show (50 : Nat) ≤ 50 by decide, show (50 : Nat) < 60 by decide, show (50 : Nat) ∈ zcodes by decide, _, rfl, fun j hj => by rw [zt_getN]; rfl⟩))) hP1 hD1 hS1
  · refine va_newa (atype := .byte) hx hb har rfl hK hP hD hS hA (a0 := (u, .inl fun _ => 0)) (fun cA => rfl) n1 n2 (by show u * 1 ≤ _; omega) r1 r2 hd fun q cA H1 hK1 hP1 hD1 hS1 => ?_
    cases zca hK hK1 (κ := 51) (by decide) rfl
    exact fin q H1 _ (Or.inl (Or.inr (Or.inl ⟨show (50 : Nat) ≤ 51 by decide, show (51 : Nat) < 60 by decide, show (51 : Nat) ∈ zcodes by decide, _, rfl, fun j hj => by rw [zt_getN]; rfl⟩))) hP1 hD1 hS1
  · refine va_newa (atype := .long) hx hb har rfl hK hP hD hS hA (a0 := (u, .inr (.inl fun _ => 0))) (fun cA => rfl) n1 n2 (by show u * 8 ≤ _; omega) r1 r2 hd fun q cA H1 hK1 hP1 hD1 hS1 => ?_
    cases zca hK hK1 (κ := 60) (by decide) rfl
    exact fin q H1 _ (Or.inl (Or.inr (Or.inr (Or.inl ⟨rfl, _, rfl, fun j hj => by rw [zt_getN]; rfl⟩)))) hP1 hD1 hS1
  · cases hk
def zcn (κ : Nat) : String := match zty κ with
  | .object C => C
  | _ => ""
theorem zs_anewa {pc nx κ idx pos pos2 u : Nat} {h' : ZH} {L : ZL} {r : List ZV} {G : ZG} (F : zF B0 Ls X p l s m args meth c own cc nL) (hc : (decide (nx = pc + 3 ∧ 70 ≤ κ ∧ κ ∈ zcodes ∧ decode cc pc = .ok (.anewarray idx, 3)) && zwx pos (.classLink own idx (zcn κ)) && zwx pos2 (.arrayOver (.object (zcn κ)))) = true) (hu : Nat.ble u 67108864 = true) (h5 : zt_set 10 G.1 G.2.1 (κ, u, zt_nil ZV 18) = some h') (r1 : G.2.2.1 + 1 ≤ R.cells) (r2 : G.2.2.2 + u ≤ R.slots)
    (h : zHd B0 X ad0 n0 p l e R s m args below meth c Q nL nx L ((3, G.2.1) :: r) ((h', G.2.1 + 1, G.2.2.1 + 1, G.2.2.2 + u))) : zHd B0 X ad0 n0 p l e R s m args below meth c Q nL pc L ((0, u) :: r) G := by
  have use : ∀ {pos : Nat} {w : Jvm.Cond}, zwx pos w = true → w.before args s = true := fun h => zF_use F h
  obtain ⟨hx, hb, hml, hown, hts, hlk, hK, hF, hB, hst⟩ := F
  intro ad hag H locs ls sv hW hS hL hT
  obtain ⟨wi, sr, rfl, hi, hr⟩ := hT
  have hi : wi = .int (nI u) := hi
  subst hi
  have hc := (Bool.and_eq_true _ _).mp hc
  have hc1 := (Bool.and_eq_true _ _).mp hc.1
  obtain ⟨rfl, h70, hcd, hd⟩ := of_decide_eq_true hc1.1
  have hu := zl_le hu
  obtain ⟨C, hC⟩ := zty_ref h70 hcd
  have eC : zcn κ = C := by unfold zcn; rw [hC]
  have w1 := use hc1.2
  have w2 := use hc.2
  rw [eC] at w1 w2
  obtain ⟨ws, hl, hw, hP, hD⟩ := hW
  refine va_newq hx hb hown w1 (va_AO.of w2) hK hP hD hS (fun q hh => Nat.le_trans hB hh) (nI_pos (by omega)) (nI_clamp (by omega)) (by omega) r1 r2 hd fun q cA H1 hK1 hP1 hD1 hS1 => ?_
  cases zca hK hK1 hcd hC
  exact h (zad ad G.2.1 q) (zag_push hag) H1 locs ls _ (zW1_push hl hw h5 (Or.inl (Or.inr (Or.inr (Or.inr ⟨h70, hcd, _, rfl, fun j hj => by rw [zt_getN]; rfl⟩)))) hP1 hD1) hS1 (zLc_mono hL (Nat.le_succ _) zad_lt) ⟨_, _, rfl, ⟨Nat.lt_succ_self _, by rw [zad_at]⟩, zSt_mono (fun v w hv => zv_mono hv (Nat.le_succ _) zad_lt) _ _ hr⟩
/-- the same thing outside, on both sides: 0 if_acmpeq, 1 if_acmpne -/
def zacI (kind : Nat) (off : Int) : Instr := match kind with
  | 0 => .if_acmp .eq off
  | _ => .if_acmp .ne off
/-- whether two references are the same -/
noncomputable def zsam (x y : ZV) : Option Bool := match x.1, y.1 with
  | 2, 2 => some true
  | 2, 3 => some false
  | 3, 2 => some false
  | 2, 4 => some false
  | 4, 2 => some false
  | 3, 3 => some (Nat.beq x.2 y.2)
  | 4, 4 => zif (Nat.beq x.2 y.2) (some true) none
  | _, _ => none
noncomputable def zo_acmp (k : ZK) (nx kind tgt : Nat) (L : ZL) (st : List ZV) (G : ZG) : Option ZRes := match st with
  | y :: x :: r => zob (zsam x y) fun t => k (zif (zif (Nat.beq kind 0) t (zif t false true)) tgt nx) L r G
  | _ => none
theorem zsam_ok {ad : Nat → Nat} {G : ZG} {H : Heap} {x y : ZV} {wx wy : Value} {t : Bool} (hW : zW1 B0 X ad G H) (h : zsam x y = some t) (hx : zv X ad G.2.1 x wx) (hy : zv X ad G.2.1 y wy) : ∃ rx ry : Option Nat, wx = va_rf rx ∧ wy = va_rf ry ∧ (rx = ry ↔ t = true) := by
  obtain ⟨tx, ux⟩ := x
  obtain ⟨ty, uy⟩ := y
  have inj : ∀ t : Bool, Nat.beq ux uy = t → ux < G.2.1 → uy < G.2.1 → (some (ad ux) = some (ad uy) ↔ t = true) := by
    intro t ht h1 h2
    obtain ⟨ws, hl, hw, hP, hD⟩ := hW
    obtain ⟨o1, e1, a1, a2, a3⟩ := hw ux h1
    obtain ⟨o2, e2, b1, b2, b3⟩ := hw uy h2
    constructor
    · intro z
      have k := hD.1 ux uy _ _ a2 b2 (Option.some.inj z)
      rw [← ht, k]
      exact Nat.beq_refl uy
    · intro z
      rw [z] at ht
      rw [zb_eq ht]
  unfold zsam at h
  split at h
  · cases h
    rename_i q1 q2
    have q1 : tx = 2 := q1
    have q2 : ty = 2 := q2
    subst q1 q2
    exact ⟨none, none, hx, hy, fun _ => rfl, fun _ => rfl⟩
  · cases h
    rename_i q1 q2
    have q1 : tx = 2 := q1
    have q2 : ty = 3 := q2
    subst q1 q2
    exact ⟨none, some _, hx, hy.2, fun z => by (cases z), fun z => by (cases z)⟩
  · cases h
    rename_i q1 q2
    have q1 : tx = 3 := q1
    have q2 : ty = 2 := q2
    subst q1 q2
    exact ⟨some _, none, hx.2, hy, fun z => by (cases z), fun z => by (cases z)⟩
  · cases h
    rename_i q1 q2
    have q1 : tx = 2 := q1
    have q2 : ty = 4 := q2
    subst q1 q2
    exact ⟨none, some _, hx, hy, fun z => by (cases z), fun z => by (cases z)⟩
  · cases h
    rename_i q1 q2
    have q1 : tx = 4 := q1
    have q2 : ty = 2 := q2
    subst q1 q2
    exact ⟨some _, none, hx, hy, fun z => by (cases z), fun z => by (cases z)⟩
  · rename_i q1 q2
    have q1 : tx = 3 := q1
    have q2 : ty = 3 := q2
    subst q1 q2
    have h : Nat.beq ux uy = t := Option.some.inj h
    exact ⟨some _, some _, hx.2, hy.2, inj t h hx.1 hy.1⟩
  · rename_i q1 q2
    have q1 : tx = 4 := q1
    have q2 : ty = 4 := q2
    subst q1 q2
    obtain ⟨e, h9⟩ := zif_some h
    have e : ux = uy := zb_eq e
    have h9 : true = t := Option.some.inj h9
    rw [← e] at hy
    exact ⟨some _, some _, hx, hy, fun _ => h9.symm, fun _ => rfl⟩
  · cases h
theorem zs_acmp {pc nx kind tgt : Nat} {x y : ZV} {t : Bool} {L : ZL} {r : List ZV} {G : ZG} (F : zF B0 Ls X p l s m args meth c own cc nL) (hc : decide (nx = pc + 3 ∧ kind < 2 ∧ decode cc pc = .ok (zacI kind ((tgt : Int) - pc), 3)) = true) (h1 : zsam x y = some t) (h : zHd B0 X ad0 n0 p l e R s m args below meth c Q nL (zif (zif (Nat.beq kind 0) t (zif t false true)) tgt nx) L r G) : zHd B0 X ad0 n0 p l e R s m args below meth c Q nL pc L (y :: x :: r) G := by
  obtain ⟨rfl, hk, hd⟩ := of_decide_eq_true hc
  obtain ⟨hx0, hb, hml, hown, hts, hlk, hK, hF, hB, hst⟩ := F
  intro ad hag H locs ls sv hW hS hL hT
  obtain ⟨wy, s1, rfl, hy, wx, sr, rfl, hx, hr⟩ := hT
  obtain ⟨rx, ry, rfl, rfl, k1⟩ := zsam_ok hW h1 hx hy
  have g := h ad hag H locs ls _ hW hS hL hr
  have ho : (pc : Int) + ((tgt : Int) - pc) = (tgt : Int) := by omega
  match kind, hk, hd, g with
  | 0, _, hd, g =>
    refine lv_acmp_eq hx0 hb hd ho (fun z => ?_) (fun z => ?_)
    · rw [k1.mp z] at g
      exact g
    · cases t with
      | true => exact absurd (k1.mpr rfl) z
      | false => exact g
  | 1, _, hd, g =>
    refine lv_acmp_ne hx0 hb hd ho (fun z => ?_) (fun z => ?_)
    · cases t with
      | true => exact absurd (k1.mpr rfl) z
      | false => exact g
    · rw [k1.mp z] at g
      exact g
/-- a cast: of an object to its own class (ct below 50), of an array of objects (ct 70), of null -/
def zctn (ct : Nat) : String := match zcl[ct]? with
  | some q => q.1
  | none => "[Ljava/lang/Object;"
noncomputable def zo_cast (k : ZK) (nx ct : Nat) (L : ZL) (st : List ZV) (G : ZG) : Option ZRes := match st with
  | o :: r => zif (Nat.beq o.1 3) (zob (zt_get 10 G.1 o.2) fun ob => zif (Nat.beq ob.1 ct) (k nx L st G) none) none
  | [] => none
theorem zs_cast {pc nx ct idx pos : Nat} {o : ZV} {ob : ZO} {L : ZL} {r : List ZV} {G : ZG} (F : zF B0 Ls X p l s m args meth c own cc nL) (hc : (decide (nx = pc + 3 ∧ (ct < zcl.length ∨ ct = 70) ∧ decode cc pc = .ok (.checkcast idx, 3)) && zwx pos (.classLink own idx (zctn ct))) = true) (hct : zcl.length ≤ 50) (h70 : zty 70 = .object "java/lang/Object") (hc70 : 70 ∈ zcodes) (h1 : o.1 = 3) (h2 : zt_get 10 G.1 o.2 = some ob) (h3 : ob.1 = ct)
    (h : zHd B0 X ad0 n0 p l e R s m args below meth c Q nL nx L (o :: r) G) : zHd B0 X ad0 n0 p l e R s m args below meth c Q nL pc L (o :: r) G := by
  have use : ∀ {pos : Nat} {w : Jvm.Cond}, zwx pos w = true → w.before args s = true := fun h => zF_use F h
  obtain ⟨hx, hb, hml, hown, hts, hlk, hK, hF, hB, hst⟩ := F
  intro ad hag H locs ls sv hW hS hL hT
  have hc := (Bool.and_eq_true _ _).mp hc
  obtain ⟨rfl, hcc, hd⟩ := of_decide_eq_true hc.1
  have g := h ad hag H locs ls sv hW hS hL hT
  obtain ⟨wo, sr, rfl, ho, hr⟩ := hT
  obtain ⟨t, u⟩ := o
  have h1 : t = 3 := h1
  subst h1
  have ho : u < G.2.1 ∧ wo = .ref (ad u) := ho
  obtain ⟨hu, rfl⟩ := ho
  obtain ⟨ws, hl, hw, hP, hD⟩ := hW
  obtain ⟨o1, e1, a1, a2, a3⟩ := hw u hu
  have h2 : zt_get 10 G.1 u = some ob := h2
  cases a1.symm.trans h2
  have a3 := zob0_of a3 (by omega)
  have wl := use hc.2
  rcases a3 with ⟨h0, ⟨C2, T2, hC2⟩, fs, b1, b2, b3⟩ | ⟨h0, h01, -⟩ | ⟨h0, -⟩ | ⟨h0, h02, f, b1, b2⟩
  · rw [h3] at hC2
    have e0 : zctn ct = C2 := by
      unfold zctn
      rw [hC2]
    rw [e0] at wl
    rw [b1, h3] at a2
    exact va_castE hx hb hown wl (va_recv hK hP hC2 a2) hd g
  · exfalso
    omega
  · exfalso
    omega
  · have e70 : ct = 70 := by omega
    subst e70
    have e0 : zctn 70 = "[Ljava/lang/Object;" := by
      unfold zctn
      rw [List.getElem?_eq_none (by omega)]
    rw [e0] at wl
    obtain ⟨t0, ht⟩ := ztys_at (X := X) hc70
    have hra := (hK.2 t0 _ ht).2
    have hra : va_RA s (X.2.1 70) (zty 70) := hra
    rw [h70] at hra
    rw [b1, h3] at a2
    exact va_castA hx hb hown wl hP u a2 (va_nmO hra (by decide)) hd g
/-- getClass() of an array of objects -/
noncomputable def zo_getc (k : ZK) (nx : Nat) (L : ZL) (st : List ZV) (G : ZG) : Option ZRes := match st with
  | o :: r => zif (Nat.beq o.1 3) (zob (zt_get 10 G.1 o.2) fun ob => zif (Nat.beq ob.1 70) (zif (Nat.ble (zcats r) 8) (k nx L ((4, 40) :: r) G) none) none) none
  | [] => none
def zgcn : MethodName := ⟨"java/lang/Object", "getClass", "()Ljava/lang/Class;"⟩
theorem zs_getc {pc nx idx p1 p2 p3 p4 p5 : Nat} {o : ZV} {ob : ZO} {L : ZL} {r : List ZV} {G : ZG} (F : zF B0 Ls X p l s m args meth c own cc nL) (hRf : 8 ≤ R.frames) (hRl : 400 ≤ R.locals) (hc : (decide (nx = pc + 3 ∧ decode cc pc = .ok (.invokevirtual idx, 3)) && zwx p1 (.methodLink own idx zgcn) && zwx p2 (.declares zgcn) && zwx p3 (.selects "[Ljava/lang/Object;" zgcn zgcn) && zwx p4 (.instanceMethod zgcn) && zwx p5 (.native zgcn)) = true) (h70 : zty 70 = .object "java/lang/Object") (hc70 : 70 ∈ zcodes) (h1 : o.1 = 3) (h2 : zt_get 10 G.1 o.2 = some ob) (h3 : ob.1 = 70) (h4 : Nat.ble (zcats r) 8 = true)
    (h : zHd B0 X ad0 n0 p l e R s m args below meth c Q nL nx L ((4, 40) :: r) G) : zHd B0 X ad0 n0 p l e R s m args below meth c Q nL pc L (o :: r) G := by
  have use : ∀ {pos : Nat} {w : Jvm.Cond}, zwx pos w = true → w.before args s = true := fun h => zF_use F h
  obtain ⟨hx, hb, hml, hown, hts, hlk, hK, hF, hB, hst⟩ := F
  intro ad hag H locs ls sv hW hS hL hT
  have hc := (Bool.and_eq_true _ _).mp hc
  have hc1 := (Bool.and_eq_true _ _).mp hc.1
  have hc2 := (Bool.and_eq_true _ _).mp hc1.1
  have hc3 := (Bool.and_eq_true _ _).mp hc2.1
  have hc4 := (Bool.and_eq_true _ _).mp hc3.1
  obtain ⟨rfl, hd⟩ := of_decide_eq_true hc4.1
  obtain ⟨wo, sr, rfl, ho, hr⟩ := hT
  have g := h ad hag H locs ls _ hW hS hL ⟨_, _, rfl, (show zv X ad G.2.1 (4, 40) (.ref (X.2.2.1 40)) from rfl), hr⟩
  obtain ⟨t, u⟩ := o
  have h1 : t = 3 := h1
  subst h1
  have ho : u < G.2.1 ∧ wo = .ref (ad u) := ho
  obtain ⟨hu, rfl⟩ := ho
  have hcat := zcats_ok r sr hr
  have h4 := zl_le h4
  obtain ⟨ws, hl, hw, hP, hD⟩ := hW
  obtain ⟨o1, e1, a1, a2, a3⟩ := hw u hu
  have h2 : zt_get 10 G.1 u = some ob := h2
  cases a1.symm.trans h2
  have a3 := zob0_of a3 (by omega)
  rcases a3 with ⟨h0, -⟩ | ⟨h0, h01, -⟩ | ⟨h0, -⟩ | ⟨h0, h02, f, b1, b2⟩
  · exfalso
    omega
  · exfalso
    omega
  · exfalso
    omega
  · obtain ⟨t0, ht⟩ := ztys_at (X := X) hc70
    have hra : va_RA s (X.2.1 70) (zty 70) := (hK.2 t0 _ ht).2
    rw [h70] at hra
    rw [b1, h3] at a2
    refine va_getC hx hb (hml.trans hL.1.symm) hown (use hc4.2) (use hc3.2) (use hc2.2) (use hc1.2) (use hc.2) hF.2.2.2.2.2.2.2.2.2.2.2 ⟨_, hP u _ a2, rfl, va_nmO hra (by decide)⟩ (by omega) (by omega) hd g
/-- a class constant -/
theorem zs_ldcm {pc nx idx pos : Nat} {L : ZL} {st : List ZV} {G : ZG} (F : zF B0 Ls X p l s m args meth c own cc nL) (hc : (decide (nx = pc + 2 ∧ decode cc pc = .ok (.ldc idx, 2)) && zwx pos (.classLink own idx "[Ljava/lang/Object;")) = true)
    (h : zHd B0 X ad0 n0 p l e R s m args below meth c Q nL nx L ((4, 40) :: st) G) : zHd B0 X ad0 n0 p l e R s m args below meth c Q nL pc L st G := by
  have use : ∀ {pos : Nat} {w : Jvm.Cond}, zwx pos w = true → w.before args s = true := fun h => zF_use F h
  obtain ⟨hx, hb, hml, hown, hts, hlk, hK, hF, hB, hst⟩ := F
  intro ad hag H locs ls sv hW hS hL hT
  have hc := (Bool.and_eq_true _ _).mp hc
  obtain ⟨rfl, hd⟩ := of_decide_eq_true hc.1
  exact va_ldcM hx hb hown (use hc.2) hF.2.2.2.2.2.2.2.2.2.2.2 hd (h ad hag H locs ls _ hW hS hL ⟨_, _, rfl, (show zv X ad G.2.1 (4, 40) (.ref (X.2.2.1 40)) from rfl), hT⟩)
/-- System.arraycopy between arrays of objects -/
noncomputable def zcp (src : ZT ZV 18) (sp dp : Nat) (t : ZT ZV 18) (n : Nat) : Option (ZT ZV 18) := @Nat.rec (fun _ => Option (ZT ZV 18)) (some t) (fun i ih => zob ih fun t => zt_set 18 t (Nat.add dp i) (zgd (zt_get 18 src (Nat.add sp i)) (2, 0))) n
theorem zcp_ok {src t : ZT ZV 18} {sp dp : Nat} : ∀ (n : Nat) (t' : ZT ZV 18), zcp src sp dp t n = some t' → ∀ j, zt_get 18 t' j = if dp ≤ j ∧ j < dp + n then some ((zt_get 18 src (sp + (j - dp))).getD (2, 0)) else zt_get 18 t j
  | 0, t', h, j => by
    have h : some t = some t' := h
    cases h
    rw [if_neg (by omega)]
  | n + 1, t', h, j => by
    have h : (zob (zcp src sp dp t n) fun t => zt_set 18 t (Nat.add dp n) (zgd (zt_get 18 src (Nat.add sp n)) (2, 0))) = some t' := h
    obtain ⟨t1, h1, h⟩ := zob_some h
    have k := zcp_ok n t1 h1 j
    rw [zt_gs 18 _ _ _ _ _ h]
    by_cases e : j = dp + n
    · rw [if_pos (show j = Nat.add dp n from e), if_pos (by omega), e, zgd_eq, show sp + (dp + n - dp) = Nat.add sp n by show _ = sp + n; omega]
    · rw [if_neg (show ¬ j = Nat.add dp n from e), k]
      by_cases e2 : dp ≤ j ∧ j < dp + n
      · rw [if_pos e2, if_pos (by omega)]
      · rw [if_neg e2, if_neg (by omega)]
noncomputable def zcpe (G : ZG) (src : ZT ZV 18) (sp n : Nat) : Bool := @Nat.rec (fun _ => Bool) true (fun i ih => zif ih (@Option.rec ZV (fun _ => Bool) true (fun v => zif (Nat.beq v.1 2) true (zif (Nat.beq v.1 3) (@Option.rec ZO (fun _ => Bool) false (fun ov => zif (Nat.ble ov.1 49) (zcst ov.1 70) false) (zt_get 10 G.1 v.2)) false)) (zt_get 18 src (Nat.add sp i))) false) n
theorem zcpe_ok {G : ZG} {src : ZT ZV 18} {sp : Nat} : ∀ n : Nat, zcpe G src sp n = true → ∀ i, i < n → ∀ v, zt_get 18 src (sp + i) = some v → v.1 = 2 ∨ (v.1 = 3 ∧ ∃ ov : ZO, zt_get 10 G.1 v.2 = some ov ∧ ov.1 < 50 ∧ zcst ov.1 70 = true)
  | 0, _, i, hi, _, _ => absurd hi (Nat.not_lt_zero i)
  | n + 1, h, i, hi, v, hv => by
    obtain ⟨h1, h2⟩ := zif_and (show zif (zcpe G src sp n) (@Option.rec ZV (fun _ => Bool) true (fun v => zif (Nat.beq v.1 2) true (zif (Nat.beq v.1 3) (@Option.rec ZO (fun _ => Bool) false (fun ov => zif (Nat.ble ov.1 49) (zcst ov.1 70) false) (zt_get 10 G.1 v.2)) false)) (zt_get 18 src (Nat.add sp n))) false = true from h)
    by_cases e : i = n
    · subst e
      rw [show zt_get 18 src (Nat.add sp i) = some v from hv] at h2
      rcases zif_or (show zif (Nat.beq v.1 2) true (zif (Nat.beq v.1 3) (@Option.rec ZO (fun _ => Bool) false (fun ov => zif (Nat.ble ov.1 49) (zcst ov.1 70) false) (zt_get 10 G.1 v.2)) false) = true from h2) with ⟨e1, -⟩ | ⟨-, h3⟩
      · exact Or.inl (zb_eq e1)
      · obtain ⟨e1, h4⟩ := zif_and h3
        refine Or.inr ⟨zb_eq e1, ?_⟩
        cases ho : zt_get 10 G.1 v.2 with
        | none =>
          rw [ho] at h4
          exact absurd (show false = true from h4) (by decide)
        | some ov =>
          rw [ho] at h4
          obtain ⟨e2, h5⟩ := zif_and (show zif (Nat.ble ov.1 49) (zcst ov.1 70) false = true from h4)
          have := zl_le e2
          exact ⟨ov, rfl, by omega, h5⟩
    · exact zcpe_ok n h1 i (by omega) v hv
noncomputable def zo_acpy (k : ZK) (nx : Nat) (L : ZL) (st : List ZV) (G : ZG) : Option ZRes := match st with
  | n :: dp :: d :: sp :: a :: r => zif (Nat.beq n.1 0) (zif (Nat.beq dp.1 0) (zif (Nat.beq sp.1 0) (zif (Nat.beq d.1 3) (zif (Nat.beq a.1 3) (zob (zt_get 10 G.1 d.2) fun od => zob (zt_get 10 G.1 a.2) fun oa => zif (Nat.beq od.1 70) (zif (Nat.beq oa.1 70)
      (zif (Nat.ble (Nat.add sp.2 n.2) oa.2.1) (zif (Nat.ble (Nat.add dp.2 n.2) od.2.1) (zif (Nat.ble oa.2.1 2147483647) (zif (Nat.ble od.2.1 2147483647) (zif (zcpe G oa.2.2 sp.2 n.2) (zif (Nat.ble (zcats r) 8)
        (zob (zcp oa.2.2 sp.2 dp.2 od.2.2 n.2) fun t => zob (zt_set 10 G.1 d.2 (od.1, od.2.1, t)) fun h => k nx L r (h, G.2)) none) none) none) none) none) none) none) none) none) none) none) none) none
  | _ => none
theorem zs_acpy {pc nx idx p1 p2 p3 p4 n dp d sp a : Nat} {od oa : ZO} {t' : ZT ZV 18} {h' : ZH} {L : ZL} {r : List ZV} {G : ZG} (F : zF B0 Ls X p l s m args meth c own cc nL) (hRf : 8 ≤ R.frames) (hRl : 400 ≤ R.locals) (hc : (decide (nx = pc + 3 ∧ decode cc pc = .ok (.invokestatic idx, 3)) && zwx p1 (.methodLink own idx arraycopyName) && zwx p2 (.native arraycopyName) && zwx p3 (.static arraycopyName) && zwx p4 (.initialized "java/lang/System")) = true) (h70 : zty 70 = .object "java/lang/Object") (hc70 : 70 ∈ zcodes)
    (h1 : zt_get 10 G.1 d = some od) (h2 : zt_get 10 G.1 a = some oa) (h3 : od.1 = 70) (h4 : oa.1 = 70) (h5 : sp + n ≤ oa.2.1) (h6 : dp + n ≤ od.2.1) (h7 : oa.2.1 ≤ 2147483647) (h8 : od.2.1 ≤ 2147483647) (h9 : zcpe G oa.2.2 sp n = true) (h10 : Nat.ble (zcats r) 8 = true) (h11 : zcp oa.2.2 sp dp od.2.2 n = some t') (h12 : zt_set 10 G.1 d (od.1, od.2.1, t') = some h')
    (h : zHd B0 X ad0 n0 p l e R s m args below meth c Q nL nx L r ((h', G.2))) : zHd B0 X ad0 n0 p l e R s m args below meth c Q nL pc L ((0, n) :: (0, dp) :: (3, d) :: (0, sp) :: (3, a) :: r) G := by
  have use : ∀ {pos : Nat} {w : Jvm.Cond}, zwx pos w = true → w.before args s = true := fun h => zF_use F h
  obtain ⟨hx, hb, hml, hown, hts, hlk, hK, hF, hB, hst⟩ := F
  intro ad hag H locs ls sv hW hS hL hT
  have hc := (Bool.and_eq_true _ _).mp hc
  have hc1 := (Bool.and_eq_true _ _).mp hc.1
  have hc2 := (Bool.and_eq_true _ _).mp hc1.1
  have hc3 := (Bool.and_eq_true _ _).mp hc2.1
  obtain ⟨rfl, hd⟩ := of_decide_eq_true hc3.1
  obtain ⟨w1, s1, rfl, q1, w2, s2, rfl, q2, w3, s3, rfl, q3, w4, s4, rfl, q4, w5, sr, rfl, q5, hr⟩ := hT
  have q1 : w1 = .int (nI n) := q1
  have q2 : w2 = .int (nI dp) := q2
  have q4 : w4 = .int (nI sp) := q4
  have q3 : d < G.2.1 ∧ w3 = .ref (ad d) := q3
  have q5 : a < G.2.1 ∧ w5 = .ref (ad a) := q5
  obtain ⟨hd0, rfl⟩ := q3
  obtain ⟨ha0, rfl⟩ := q5
  subst q1 q2 q4
  have hcat := zcats_ok r sr hr
  have h10 := zl_le h10
  have c1 : (nI n).toNatClampNeg = n := nI_clamp (by omega)
  have c2 : (nI dp).toNatClampNeg = dp := nI_clamp (by omega)
  have c4 : (nI sp).toNatClampNeg = sp := nI_clamp (by omega)
  obtain ⟨ws, hl, hw, hP, hD⟩ := hW
  obtain ⟨o1, e1, a1, a2, a3⟩ := hw d hd0
  obtain ⟨o2, e2, b1, b2, b3⟩ := hw a ha0
  cases a1.symm.trans h1
  cases b1.symm.trans h2
  have a3 := zob0_of a3 (by omega)
  have b3 := zob0_of b3 (by omega)
  rcases a3 with ⟨g0, -⟩ | ⟨g0, g1, -⟩ | ⟨g0, -⟩ | ⟨g0, g02, g, x1, x2⟩
  · exfalso
    omega
  · exfalso
    omega
  · exfalso
    omega
  rcases b3 with ⟨f0, -⟩ | ⟨f0, f1, -⟩ | ⟨f0, -⟩ | ⟨f0, f02, f, y1, y2⟩
  · exfalso
    omega
  · exfalso
    omega
  · exfalso
    omega
  obtain ⟨t0, ht⟩ := ztys_at (X := X) hc70
  rw [h70] at ht
  rw [x1, h3] at a2
  rw [y1, h4] at b2
  have hel : ∀ i : Nat, i < (nI n).toNatClampNeg → ∀ y : Nat, f ((nI sp).toNatClampNeg + i) = some y → va_Any "java/lang/Object" s H y := by
    intro i hi y hy
    rw [c1] at hi
    rw [c4] at hy
    have k1 := y2 (sp + i) (by omega)
    rw [hy] at k1
    cases hv : zt_get 18 oa.2.2 (sp + i) with
    | none =>
      rw [hv] at k1
      have k1 : (Value.ref y) = .null := k1
      cases k1
    | some v =>
      rw [hv] at k1
      have k1 : zv X ad G.2.1 v (.ref y) := k1
      rcases zcpe_ok n h9 i hi v hv with k2 | ⟨k2, ov, k3, k4, k5⟩
      · obtain ⟨tv, uv⟩ := v
        have k2 : tv = 2 := k2
        subst k2
        have k1 : (Value.ref y) = .null := k1
        cases k1
      · obtain ⟨tv, uv⟩ := v
        have k2 : tv = 3 := k2
        subst k2
        obtain ⟨k6, k7⟩ : uv < G.2.1 ∧ Value.ref y = .ref (ad uv) := k1
        have k7 : y = ad uv := Value.ref.inj k7
        subst k7
        obtain ⟨o9, e9, z1, z2, z3⟩ := hw uv k6
        have k3 : zt_get 10 G.1 uv = some ov := k3
        cases z1.symm.trans k3
        have z3 := zob0_of z3 (by omega)
        rcases z3 with ⟨v0, ⟨C2, T2, hC2⟩, fs, d1, -⟩ | ⟨v0, -⟩ | ⟨v0, -⟩ | ⟨v0, -⟩
        · rw [d1] at z2
          obtain ⟨q, hq, hq2⟩ := List.any_eq_true.mp k5
          have hq3 := (Bool.and_eq_true _ _).mp hq2
          have hq4 := List.all_eq_true.mp zcasts_chk q hq
          unfold zcast1 at hq4
          rw [zb_eq hq3.1, zb_eq hq3.2, hC2, h70] at hq4
          rcases (Bool.or_eq_true _ _).mp hq4 with z | z
          · have z : C2 = "java/lang/Object" := of_decide_eq_true z
            subst z
            refine va_rAny hK hP z2 hC2 fun comp c0 w1 w2 => ?_
            have w2 : s.vm.findClass "java/lang/Object" = some c0 := w2
            cases w1.symm.trans w2
            exact va_asg _ _
          · refine va_rAny hK hP z2 hC2 fun comp c0 w1 w2 => ?_
            obtain ⟨c9, t9, r1, r2, r3⟩ := Cond.castable_spec (use z)
            cases w1.symm.trans r2
            have w2 : s.vm.findClass C2 = some c0 := w2
            cases w2.symm.trans r1
            exact r3
        · exfalso
          omega
        · exfalso
          omega
        · exfalso
          omega
  refine va_copyM hx hb (hml.trans hL.1.symm) hown (use hc3.2) (use hc2.2) (use hc1.2) (use hc.2) hK hP hD hS a d t0 t0 b2 a2 ht ht (nI_pos (by omega)) (nI_pos (by omega)) (nI_pos (by omega)) (by rw [c1, c4]; exact h5) (by rw [c1, c2]; exact h6) hel (by omega) (by have : nativeFrameWords "java/lang/System" "arraycopy" 5 = 7 := (by decide); omega) hd fun H1 locs1 hP1 hD1 hS1 => ?_
  refine h ad hag H1 locs1 ls sr (zW1_set hl hw hd0 h12 (Or.inl (Or.inr (Or.inr (Or.inr ⟨g0, g02, _, by rw [h3], fun j hj => ?_⟩)))) hP1 hD1) hS1 hL hr
  have hj : j < od.2.1 := hj
  rw [c1, c2, c4]
  show zv X ad G.2.1 ((zt_get 18 t' j).getD (2, 0)) (va_rf (if dp ≤ j ∧ j < dp + n then f (sp + (j - dp)) else g j))
  rw [zcp_ok n t' h11 j]
  by_cases ej : dp ≤ j ∧ j < dp + n
  · rw [if_pos ej, if_pos ej]
    exact y2 (sp + (j - dp)) (by omega)
  · rw [if_neg ej, if_neg ej]
    exact x2 j hj
noncomputable def zo_oinit (k : ZK) (nx : Nat) (L : ZL) (st : List ZV) (G : ZG) : Option ZRes := match st with
  | o :: r => zif (Nat.beq o.1 3) (zif (Nat.ble (zcats r) 8) (k nx L r G) none) none
  | [] => none
theorem zs_oinit {pc nx idx pos pos2 pos3 : Nat} {o : ZV} {L : ZL} {r : List ZV} {G : ZG} (F : zF B0 Ls X p l s m args meth c own cc nL) (hRf : 8 ≤ R.frames) (hRl : 400 ≤ R.locals) (hc : (decide (nx = pc + 3 ∧ decode cc pc = .ok (.invokespecial idx, 3)) && zwx pos (.methodLink own idx Lib.objectInit) && zwx pos2 (.instanceMethod Lib.objectInit) && zwx pos3 (.code Lib.objectInit ⟨#[0xb1]⟩ 1 none)) = true) (h1 : o.1 = 3) (h2 : Nat.ble (zcats r) 8 = true)
    (h : zHd B0 X ad0 n0 p l e R s m args below meth c Q nL nx L r G) : zHd B0 X ad0 n0 p l e R s m args below meth c Q nL pc L (o :: r) G := by
  have use : ∀ {pos : Nat} {w : Jvm.Cond}, zwx pos w = true → w.before args s = true := fun h => zF_use F h
  obtain ⟨hx, hb, hml, hown, hts, hlk, hK, hF, hB, hst⟩ := F
  intro ad hag H locs ls sv hW hS hL hT
  obtain ⟨wo, sr, rfl, ho, hr⟩ := hT
  have hc := (Bool.and_eq_true _ _).mp hc
  have hc1 := (Bool.and_eq_true _ _).mp hc.1
  have hc2 := (Bool.and_eq_true _ _).mp hc1.1
  obtain ⟨rfl, hd⟩ := of_decide_eq_true hc2.1
  obtain ⟨t, k⟩ := o
  have h1 : t = 3 := h1
  subst h1
  have ho : k < G.2.1 ∧ wo = .ref (ad k) := ho
  obtain ⟨hkn, rfl⟩ := ho
  have hcat := zcats_ok r sr hr
  have h2 := zl_le h2
  refine W.objInit hx hb hown (use hc2.2) (use hc1.2) (use hc.2) rfl (hL.1.trans hml.symm) rfl hd (by omega) ?_ (h ad hag H locs ls sr hW hS hL hr)
  have e0 : 2 * (F0 m pc ls (Value.ref (ad k) :: sr)).monitorRoom = 0 := rfl
  rw [e0, hcat]
  omega
end ZS
