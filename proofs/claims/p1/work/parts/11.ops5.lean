/-! What is made; Object.<init>; references compared; rows filled with zeros. -/
theorem zdf_ok {X : ZX} {ad : Nat → Nat} {n : Nat} {ty : FieldType} (h : zdfk ty = true) : zv X ad n (zdf ty) (defaultValue ty) := by
  unfold zdfk at h
  split at h <;> first | exact rfl | cases h
def zcats : List ZV → Nat
  | [] => 0
  | v :: r => (if zlong v = true then 2 else 1) + zcats r
theorem zcats_ok {X : ZX} {ad : Nat → Nat} {n : Nat} : ∀ (st : List ZV) (sv : List Value), zSt (zv X ad n) st sv → (sv.map fun v => v.category).sum = zcats st
  | [], sv, h => by
    have h : sv = [] := h
    subst h
    rfl
  | v :: r, sv, h => by
    obtain ⟨w, sr, rfl, hw, hr⟩ := h
    rw [List.map_cons, List.sum_cons, zcats_ok r sr hr, zv_cat hw]
    rfl
section ZS
variable {B0 Ls : Nat} {X : ZX} {p : Program} {l : Launch} {e : Env} {R : Room} {s : State} {m : MethodId} {args : Array Value} {below : List Frame} {meth : Method} {c : Code} {Q : State → Prop} {own : String} {cc : ByteArray} {nL : Nat} {ad0 : Nat → Nat} {n0 : Nat}
theorem zca {cA : ClassId} {ty : FieldType} {κ : Nat} (hK : va_K X.1 zcl (ztys X) s) (hK1 : va_K X.1 zcl (ztys X ++ [(cA, ty)]) s) (hc : κ ∈ zcodes) (hty : zty κ = ty) : cA = X.2.1 κ := by
  obtain ⟨t0, ht⟩ := ztys_at (X := X) hc
  rw [hty] at ht
  have r1 : va_RA s (X.2.1 κ) ty := (hK.2 t0 _ ht).2
  have r2 : va_RA s cA ty := (hK1.2 (ztys X).length (cA, ty) (by rw [List.getElem?_append_right (Nat.le_refl _), Nat.sub_self]; rfl)).2
  cases ty with
  | object C =>
    obtain ⟨k1, c1, x1, x2, x3, x4⟩ := r1
    obtain ⟨k2, c2, y1, y2, y3, y4⟩ := r2
    exact Option.some.inj (y4.symm.trans x4)
  | _ => exact Option.some.inj ((show s.vm.findClass _ = some cA from r2).symm.trans r1)
def zc_new (own : String) (cc : ByteArray) (pc nx ci idx pos : Nat) : Bool := match zcl[ci]? with
  | some q => decide (nx = pc + 3 ∧ ci < 50 ∧ decode cc pc = .ok (.new idx, 3)) && zwx pos (.classLink own idx q.1)
  | none => false
noncomputable def zo_new (k : ZK) (nx ci N : Nat) (L : ZL) (st : List ZV) (G : ZG) : Option ZRes := zob (zt_set 10 G.1 G.2.1 (ci, N, zk_init ci)) fun h => k nx L ((3, G.2.1) :: st) (h, Nat.succ G.2.1, Nat.succ G.2.2.1, Nat.add G.2.2.2 N)
theorem zs_new {pc nx ci idx pos : Nat} {C : String} {T : u_T} {N : Nat} {h' : ZH} {L : ZL} {st : List ZV} {G : ZG} (F : zF B0 Ls X p l s m args meth c own cc nL) (hq : zcl[ci]? = some (C, T, N)) (hc : zc_new own cc pc nx ci idx pos = true) (h5 : zt_set 10 G.1 G.2.1 (ci, N, zk_init ci) = some h') (r1 : G.2.2.1 + 1 ≤ R.cells) (r2 : G.2.2.2 + N ≤ R.slots)
    (h : zHd B0 X ad0 n0 p l e R s m args below meth c Q nL nx L ((3, G.2.1) :: st) ((h', G.2.1 + 1, G.2.2.1 + 1, G.2.2.2 + N))) : zHd B0 X ad0 n0 p l e R s m args below meth c Q nL pc L st G := by
  have use : ∀ {pos : Nat} {w : Jvm.Cond}, zwx pos w = true → w.before args s = true := fun h => zF_use F h
  obtain ⟨hx, hb, hml, hown, hts, hlk, hK, hF, hB, hst⟩ := F
  intro ad hag H locs ls sv hW hS hL hT
  unfold zc_new at hc
  rw [hq] at hc
  have hc := (Bool.and_eq_true _ _).mp hc
  obtain ⟨rfl, h50, hd⟩ := of_decide_eq_true hc.1
  obtain ⟨k1, k2, k3, k4, k5, k6, k7⟩ := zcl_ok hq
  obtain ⟨ws, hl, hw, hP, hD⟩ := hW
  refine va_new hx hb hts k1 (zfty T) k4 hown (use hc.2) (hts _ k2) (hts _ k3) hK hP hD hS (fun q hh => Nat.le_trans hB hh) hq (fs := (List.range N).map fun j => defaultValue (zfty T j)) (fun j hj => ?_) r1 r2 hd fun q H1 hP1 hD1 hS1 => ?_
  · show _ = List.getD _ _ _
    rw [List.getD_eq_getElem?_getD, List.getElem?_map, List.getElem?_range hj]
    rfl
  · refine h (zad ad G.2.1 q) (zag_push hag) H1 locs ls _ (zW1_push hl hw h5 (Or.inl ⟨h50, ⟨C, T, hq⟩, _, rfl, by rw [List.length_map, List.length_range], fun k hk => ?_⟩) hP1 hD1) hS1 (zLc_mono hL (Nat.le_succ _) zad_lt) ⟨_, _, rfl, ⟨Nat.lt_succ_self _, by rw [zad_at]⟩, zSt_mono (fun v w hv => zv_mono hv (Nat.le_succ _) zad_lt) _ _ hT⟩
    exact ⟨_, _, k6 k hk, by rw [List.getElem?_map, List.getElem?_range hk]; rfl, zdf_ok (k7 k hk)⟩
def zatI (κ : Nat) : Instr := match κ with
  | 50 => .newarray .int
  | 51 => .newarray .byte
  | 52 => .newarray .boolean
  | _ => .newarray .long
def zatk (κ : Nat) : Bool := match κ with
  | 50 => true
  | 51 => true
  | 52 => true
  | 60 => true
  | _ => false
noncomputable def zo_newa (k : ZK) (nx κ : Nat) (L : ZL) (st : List ZV) (G : ZG) : Option ZRes := match st with
  | i :: r => zif (Nat.beq i.1 0) (zif (Nat.ble i.2 67108864) (zob (zt_set 10 G.1 G.2.1 (κ, i.2, zt_nil ZV 18)) fun h => k nx L ((3, G.2.1) :: r) (h, Nat.succ G.2.1, Nat.succ G.2.2.1, Nat.add G.2.2.2 i.2)) none) none
  | [] => none
theorem zs_newa {pc nx κ pos u : Nat} {h' : ZH} {L : ZL} {r : List ZV} {G : ZG} (F : zF B0 Ls X p l s m args meth c own cc nL) (hc : (decide (nx = pc + 2 ∧ decode cc pc = .ok (zatI κ, 2)) && zatk κ && zwx pos (.arrayClass (zty κ))) = true) (hu : Nat.ble u 67108864 = true) (h5 : zt_set 10 G.1 G.2.1 (κ, u, zt_nil ZV 18) = some h') (r1 : G.2.2.1 + 1 ≤ R.cells) (r2 : G.2.2.2 + u ≤ R.slots)
    (h : zHd B0 X ad0 n0 p l e R s m args below meth c Q nL nx L ((3, G.2.1) :: r) ((h', G.2.1 + 1, G.2.2.1 + 1, G.2.2.2 + u))) : zHd B0 X ad0 n0 p l e R s m args below meth c Q nL pc L ((0, u) :: r) G := by
  have use : ∀ {pos : Nat} {w : Jvm.Cond}, zwx pos w = true → w.before args s = true := fun h => zF_use F h
  obtain ⟨hx, hb, hml, hown, hts, hlk, hK, hF, hB, hst⟩ := F
  intro ad hag H locs ls sv hW hS hL hT
  obtain ⟨wi, sr, rfl, hi, hr⟩ := hT
  have hi : wi = .int (nI u) := hi
  subst hi
  have hc := (Bool.and_eq_true _ _).mp hc
  have hc1 := (Bool.and_eq_true _ _).mp hc.1
  obtain ⟨rfl, hd⟩ := of_decide_eq_true hc1.1
  have hu := zl_le hu
  have n1 : ¬ nI u < 0 := nI_pos (by omega)
  have n2 : (nI u).toNatClampNeg = u := nI_clamp (by omega)
  obtain ⟨ws, hl, hw, hP, hD⟩ := hW
  have fin : ∀ (q : Nat) (H1 : Heap) (e' : va_E), zob1 X (zad ad G.2.1 q) (G.2.1 + 1) (κ, u, zt_nil ZV 18) e' → va_P X.1 zcl (ws ++ [(q, e')]) H1 → va_D (zA B0) (ws ++ [(q, e')]) → va_S (zA B0) s.heap H1 locs → W p l e R s m args below meth c H1 locs (G.2.2.1 + 1) (G.2.2.2 + u) Q (F0 m (pc + 2) ls (.ref q :: sr)) := fun q H1 e' hz hP1 hD1 hS1 =>
    h (zad ad G.2.1 q) (zag_push hag) H1 locs ls _ (zW1_push hl hw h5 hz hP1 hD1) hS1 (zLc_mono hL (Nat.le_succ _) zad_lt) ⟨_, _, rfl, ⟨Nat.lt_succ_self _, by rw [zad_at]⟩, zSt_mono (fun v w hv => zv_mono hv (Nat.le_succ _) zad_lt) _ _ hr⟩
  have hA : ∀ q, s.heap.size ≤ q → zA B0 q := fun q hh => Nat.le_trans hB hh
  have hk := hc1.2
  have har := use hc.2
  unfold zatk at hk
  split at hk
  · refine va_newa (atype := .int) hx hb har rfl hK hP hD hS hA (a0 := (u, .inl fun _ => 0)) (fun cA => rfl) n1 n2 (by show u * 4 ≤ _; omega) r1 r2 hd fun q cA H1 hK1 hP1 hD1 hS1 => ?_
    cases zca hK hK1 (κ := 50) (by decide) rfl
    exact fin q H1 _ (Or.inr (Or.inl ⟨show (50 : Nat) ≤ 50 by decide, show (50 : Nat) < 60 by decide, show (50 : Nat) ∈ zcodes by decide, _, rfl, fun j hj => by rw [zt_getN]; rfl⟩)) hP1 hD1 hS1
  · refine va_newa (atype := .byte) hx hb har rfl hK hP hD hS hA (a0 := (u, .inl fun _ => 0)) (fun cA => rfl) n1 n2 (by show u * 1 ≤ _; omega) r1 r2 hd fun q cA H1 hK1 hP1 hD1 hS1 => ?_
    cases zca hK hK1 (κ := 51) (by decide) rfl
    exact fin q H1 _ (Or.inr (Or.inl ⟨show (50 : Nat) ≤ 51 by decide, show (51 : Nat) < 60 by decide, show (51 : Nat) ∈ zcodes by decide, _, rfl, fun j hj => by rw [zt_getN]; rfl⟩)) hP1 hD1 hS1
  · refine va_newa (atype := .boolean) hx hb har rfl hK hP hD hS hA (a0 := (u, .inl fun _ => 0)) (fun cA => rfl) n1 n2 (by show u * 1 ≤ _; omega) r1 r2 hd fun q cA H1 hK1 hP1 hD1 hS1 => ?_
    cases zca hK hK1 (κ := 52) (by decide) rfl
    exact fin q H1 _ (Or.inr (Or.inl ⟨show (50 : Nat) ≤ 52 by decide, show (52 : Nat) < 60 by decide, show (52 : Nat) ∈ zcodes by decide, _, rfl, fun j hj => by rw [zt_getN]; rfl⟩)) hP1 hD1 hS1
  · refine va_newa (atype := .long) hx hb har rfl hK hP hD hS hA (a0 := (u, .inr (.inl fun _ => 0))) (fun cA => rfl) n1 n2 (by show u * 8 ≤ _; omega) r1 r2 hd fun q cA H1 hK1 hP1 hD1 hS1 => ?_
    cases zca hK hK1 (κ := 60) (by decide) rfl
    exact fin q H1 _ (Or.inr (Or.inr (Or.inl ⟨rfl, _, rfl, fun j hj => by rw [zt_getN]; rfl⟩))) hP1 hD1 hS1
  · cases hk
def zcn (κ : Nat) : String := match zty κ with
  | .object C => C
  | _ => ""
theorem zs_anewa {pc nx κ idx pos pos2 u : Nat} {h' : ZH} {L : ZL} {r : List ZV} {G : ZG} (F : zF B0 Ls X p l s m args meth c own cc nL) (hc : (decide (nx = pc + 3 ∧ 70 ≤ κ ∧ κ ∈ zcodes ∧ decode cc pc = .ok (.anewarray idx, 3)) && zwx pos (.classLink own idx (zcn κ)) && zwx pos2 (.arrayOver (.object (zcn κ)))) = true) (hu : Nat.ble u 67108864 = true) (h5 : zt_set 10 G.1 G.2.1 (κ, u, zt_nil ZV 18) = some h') (r1 : G.2.2.1 + 1 ≤ R.cells) (r2 : G.2.2.2 + u ≤ R.slots)
    (h : zHd B0 X ad0 n0 p l e R s m args below meth c Q nL nx L ((3, G.2.1) :: r) ((h', G.2.1 + 1, G.2.2.1 + 1, G.2.2.2 + u))) : zHd B0 X ad0 n0 p l e R s m args below meth c Q nL pc L ((0, u) :: r) G := by
  have use : ∀ {pos : Nat} {w : Jvm.Cond}, zwx pos w = true → w.before args s = true := fun h => zF_use F h
  obtain ⟨hx, hb, hml, hown, hts, hlk, hK, hF, hB, hst⟩ := F
  intro ad hag H locs ls sv hW hS hL hT
  obtain ⟨wi, sr, rfl, hi, hr⟩ := hT
  have hi : wi = .int (nI u) := hi
  subst hi
  have hc := (Bool.and_eq_true _ _).mp hc
  have hc1 := (Bool.and_eq_true _ _).mp hc.1
  obtain ⟨rfl, h70, hcd, hd⟩ := of_decide_eq_true hc1.1
  have hu := zl_le hu
  obtain ⟨C, hC⟩ := zty_ref h70 hcd
  have eC : zcn κ = C := by unfold zcn; rw [hC]
  have w1 := use hc1.2
  have w2 := use hc.2
  rw [eC] at w1 w2
  obtain ⟨ws, hl, hw, hP, hD⟩ := hW
  refine va_newq hx hb hown w1 (va_AO.of w2) hK hP hD hS (fun q hh => Nat.le_trans hB hh) (nI_pos (by omega)) (nI_clamp (by omega)) (by omega) r1 r2 hd fun q cA H1 hK1 hP1 hD1 hS1 => ?_
  cases zca hK hK1 hcd hC
  exact h (zad ad G.2.1 q) (zag_push hag) H1 locs ls _ (zW1_push hl hw h5 (Or.inr (Or.inr (Or.inr ⟨h70, hcd, _, rfl, fun j hj => by rw [zt_getN]; rfl⟩))) hP1 hD1) hS1 (zLc_mono hL (Nat.le_succ _) zad_lt) ⟨_, _, rfl, ⟨Nat.lt_succ_self _, by rw [zad_at]⟩, zSt_mono (fun v w hv => zv_mono hv (Nat.le_succ _) zad_lt) _ _ hr⟩
/-- the same thing outside, on both sides: 0 if_acmpeq, 1 if_acmpne -/
def zacI (kind : Nat) (off : Int) : Instr := match kind with
  | 0 => .if_acmp .eq off
  | _ => .if_acmp .ne off
noncomputable def zo_acmp (k : ZK) (nx kind tgt : Nat) (L : ZL) (st : List ZV) (G : ZG) : Option ZRes := match st with
  | y :: x :: r => zif (Nat.beq x.1 4) (zif (Nat.beq y.1 4) (zif (Nat.beq x.2 y.2) (k (zif (Nat.beq kind 0) tgt nx) L r G) none) none) none
  | _ => none
theorem zs_acmp {pc nx kind tgt : Nat} {x y : ZV} {L : ZL} {r : List ZV} {G : ZG} (F : zF B0 Ls X p l s m args meth c own cc nL) (hc : decide (nx = pc + 3 ∧ kind < 2 ∧ decode cc pc = .ok (zacI kind ((tgt : Int) - pc), 3)) = true) (h1 : x.1 = 4) (h2 : y.1 = 4) (h3 : x.2 = y.2) (h : zHd B0 X ad0 n0 p l e R s m args below meth c Q nL (zif (Nat.beq kind 0) tgt nx) L r G) : zHd B0 X ad0 n0 p l e R s m args below meth c Q nL pc L (y :: x :: r) G := by
  obtain ⟨rfl, hk, hd⟩ := of_decide_eq_true hc
  obtain ⟨hx0, hb, hml, hown, hts, hlk, hK, hF, hB, hst⟩ := F
  intro ad hag H locs ls sv hW hS hL hT
  obtain ⟨wy, s1, rfl, hy, wx, sr, rfl, hx, hr⟩ := hT
  obtain ⟨tx, ux⟩ := x
  obtain ⟨ty, uy⟩ := y
  have h1 : tx = 4 := h1
  have h2 : ty = 4 := h2
  have h3 : ux = uy := h3
  subst h1 h2 h3
  have hx : wx = va_rf (some (X.2.2.1 ux)) := hx
  have hy : wy = va_rf (some (X.2.2.1 ux)) := hy
  subst hx hy
  have g := h ad hag H locs ls _ hW hS hL hr
  have ho : (pc : Int) + ((tgt : Int) - pc) = (tgt : Int) := by omega
  match kind, hk, hd, g with
  | 0, _, hd, g => exact lv_acmp_eq hx0 hb hd ho (fun _ => g) (fun z => absurd rfl z)
  | 1, _, hd, g => exact lv_acmp_ne hx0 hb hd ho (fun z => absurd rfl z) (fun _ => g)
noncomputable def zo_oinit (k : ZK) (nx : Nat) (L : ZL) (st : List ZV) (G : ZG) : Option ZRes := match st with
  | o :: r => zif (Nat.beq o.1 3) (zif (Nat.ble (zcats r) 8) (k nx L r G) none) none
  | [] => none
theorem zs_oinit {pc nx idx pos pos2 pos3 : Nat} {o : ZV} {L : ZL} {r : List ZV} {G : ZG} (F : zF B0 Ls X p l s m args meth c own cc nL) (hRf : 8 ≤ R.frames) (hRl : 400 ≤ R.locals) (hc : (decide (nx = pc + 3 ∧ decode cc pc = .ok (.invokespecial idx, 3)) && zwx pos (.methodLink own idx Lib.objectInit) && zwx pos2 (.instanceMethod Lib.objectInit) && zwx pos3 (.code Lib.objectInit ⟨#[0xb1]⟩ 1 none)) = true) (h1 : o.1 = 3) (h2 : Nat.ble (zcats r) 8 = true)
    (h : zHd B0 X ad0 n0 p l e R s m args below meth c Q nL nx L r G) : zHd B0 X ad0 n0 p l e R s m args below meth c Q nL pc L (o :: r) G := by
  have use : ∀ {pos : Nat} {w : Jvm.Cond}, zwx pos w = true → w.before args s = true := fun h => zF_use F h
  obtain ⟨hx, hb, hml, hown, hts, hlk, hK, hF, hB, hst⟩ := F
  intro ad hag H locs ls sv hW hS hL hT
  obtain ⟨wo, sr, rfl, ho, hr⟩ := hT
  have hc := (Bool.and_eq_true _ _).mp hc
  have hc1 := (Bool.and_eq_true _ _).mp hc.1
  have hc2 := (Bool.and_eq_true _ _).mp hc1.1
  obtain ⟨rfl, hd⟩ := of_decide_eq_true hc2.1
  obtain ⟨t, k⟩ := o
  have h1 : t = 3 := h1
  subst h1
  have ho : k < G.2.1 ∧ wo = .ref (ad k) := ho
  obtain ⟨hkn, rfl⟩ := ho
  have hcat := zcats_ok r sr hr
  have h2 := zl_le h2
  refine W.objInit hx hb hown (use hc2.2) (use hc1.2) (use hc.2) rfl (hL.1.trans hml.symm) rfl hd (by omega) ?_ (h ad hag H locs ls sr hW hS hL hr)
  have e0 : 2 * (F0 m pc ls (Value.ref (ad k) :: sr)).monitorRoom = 0 := rfl
  rw [e0, hcat]
  omega
end ZS
