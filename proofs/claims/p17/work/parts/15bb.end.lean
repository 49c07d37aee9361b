/-! The block that comes to run's end. -/
noncomputable def zblkE (C : ZCn) (h he : ZH) (n : Nat) (N : ZN) (f d rm : Nat) (fi ff : List ZV) (ky : List ZKy) : Bool :=
  @Option.rec ZH (fun _ => Bool) false (fun h0 => @Option.rec ZH (fun _ => Bool) false (fun h1 =>
    @Option.rec ZRes (fun _ => Bool) false (fun r => zif (Nat.beq r.1 0) (zif (zo_eqb zv_eqb r.2.1 (some (0, 1))) (zG_eqb r.2.2 (h1, n, 0, 0)) false) false) (zrunM (zhkB rm 999999) [] N f d rm 12 (zc16 (8, zsb0 16)) [] (h0, n, 0, 0)))
    (zwr (zwF C ff ++ zwK1 C ky) he)) (zwr (zwF C fi ++ zwK0 C ky) h)
theorem zblkE_ok {C : ZCn} {h he : ZH} {n f d rm : Nat} {N : ZN} {fi ff : List ZV} {ky : List ZKy} (hb : zblkE C h he n N f d rm fi ff ky = true) : ∃ (h0 h1 : ZH), zwr (zwF C fi ++ zwK0 C ky) h = some h0 ∧ zwr (zwF C ff ++ zwK1 C ky) he = some h1 ∧ zrunM (zhkB rm 999999) [] N f d rm 12 (zc16 (8, zsb0 16)) [] (h0, n, 0, 0) = some (0, some (0, 1), (h1, n, 0, 0)) := by
  unfold zblkE at hb
  cases e0 : zwr (zwF C fi ++ zwK0 C ky) h with
  | none =>
    rw [e0] at hb
    exact absurd (show false = true from hb) (by decide)
  | some h0 =>
    rw [e0] at hb
    cases e1 : zwr (zwF C ff ++ zwK1 C ky) he with
    | none =>
      rw [e1] at hb
      exact absurd (show false = true from hb) (by decide)
    | some h1 =>
      rw [e1] at hb
      have hb : @Option.rec ZRes (fun _ => Bool) false (fun r => zif (Nat.beq r.1 0) (zif (zo_eqb zv_eqb r.2.1 (some (0, 1))) (zG_eqb r.2.2 (h1, n, 0, 0)) false) false) (zrunM (zhkB rm 999999) [] N f d rm 12 (zc16 (8, zsb0 16)) [] (h0, n, 0, 0)) = true := hb
      cases e2 : zrunM (zhkB rm 999999) [] N f d rm 12 (zc16 (8, zsb0 16)) [] (h0, n, 0, 0) with
      | none =>
        rw [e2] at hb
        exact absurd (show false = true from hb) (by decide)
      | some r =>
        rw [e2] at hb
        obtain ⟨k1, k2⟩ := zif_and (show zif (Nat.beq r.1 0) (zif (zo_eqb zv_eqb r.2.1 (some (0, 1))) (zG_eqb r.2.2 (h1, n, 0, 0)) false) false = true from hb)
        obtain ⟨k2, k3⟩ := zif_and k2
        have er : r = (0, some (0, 1), (h1, n, 0, 0)) := Prod.ext (zb_eq k1) (Prod.ext (zo_eqb_ok (fun _ _ => zv_eqb_ok) k2) (zG_eqb_ok k3))
        exact ⟨h0, h1, rfl, rfl, e2.trans (congrArg some er)⟩
/-- at run's return -/
def zAtE (he : ZH) (n rm : Nat) (B0 : Nat) (X : ZX) (ad0 : Nat → Nat) (n0 : Nat) (p : Program) (l : Launch) (e : Env) (R : Room) (s : State) (m : MethodId) (args : Array Value) (below : List Frame) (meth : Method) (c : Code) (Q : State → Prop) (S : ZSg) : Prop :=
  ∀ (pcR kd rty : Nat), zc_ret (zm_cc rm) (zm_ret rm) pcR kd rty = true → zrsk kd rty (some (0, 1)) = true → zHd B0 (zXS X S) ad0 n0 p l e R s m args below meth c Q (zm_nfo rm).1 pcR [] [(0, 1)] (he, n, 0, 0)
theorem zSt_01 {X X' : ZX} {ad : Nat → Nat} {n : Nat} {sv : List Value} (h : zSt (zv X ad n) [(0, 1)] sv) : zSt (zv X' ad n) [(0, 1)] sv := h
theorem zLc_nil {X X' : ZX} {ad : Nat → Nat} {n nL : Nat} {ls : Array Slot} {L : ZL} (h : zLc X ad n ls nL L) : zLc X' ad n ls nL [] := ⟨h.1, h.2.1, fun i v hv => by simp at hv⟩
theorem zblockE {B0 Ls : Nat} {X : ZX} {C : ZCn} {h he : ZH} {n f d rm : Nat} {N : ZN} {fi ff : List ZV} {ky : List ZKy} {S Sb S' : ZSg} {ad0 : Nat → Nat} {n0 : Nat} {p : Program} {l : Launch} {e : Env} {R : Room} {s : State} {m : MethodId} {args : Array Value} {below : List Frame} {meth : Method} {c : Code} {Q : State → Prop}
    (hb : zblkE C h he n N f d rm fi ff ky = true) (hL : zblkL C h fi ff ky = true) (hLe : zkyT he C ky = true) (hA : zAll) (hC : zCok C) (hc : zcnB C h = true) (hcf : zcfB C h = true) (hc' : zcnB C he = true) (hcf' : zcfB C he = true) (F : zFr B0 Ls X rm d p l R s m args meth c)
    (hN : zNok (zXS X Sb) Ls N) (hph : Sb.2.1 = S.2.1) (h16 : Sb.1 16 = S.1 16) (hF : ∀ q ∈ List.zip C.1 fi, zvn Sb.1 q.2 = S.1 q.1.1)
    (hK : ∀ q ∈ ky, ∀ o, zt_get 10 h (zaob C q.1) = some o → Sb.2.2 q.1 q.2.1 < o.2.1 ∧ S.2.1 q.1 (Sb.2.2 q.1 q.2.1) = zvn Sb.1 q.2.2.2.1)
    (hF' : ∀ q ∈ List.zip C.1 ff, S'.1 q.1.1 = zvn Sb.1 q.2) (hK1 : ∀ q ∈ ky, S'.2.1 q.1 (Sb.2.2 q.1 q.2.1) = zvn Sb.1 q.2.2.2.2) (hK2 : ∀ a j, (∀ q ∈ ky, q.1 = a → Sb.2.2 a q.2.1 ≠ j) → S'.2.1 a j = Sb.2.1 a j)
    (go : zAtE he n rm B0 X ad0 n0 p l e R s m args below meth c Q S') : zHd B0 (zXS X S) ad0 n0 p l e R s m args below meth c Q (zm_nfo rm).1 12 (zc16 (8, zsb0 16)) [] (h, n, 0, 0) := by
  obtain ⟨h0, h1, w0, w1, hr⟩ := zblkE_ok hb
  obtain ⟨l1, hL⟩ := zif_and hL
  obtain ⟨l2, hL⟩ := zif_and hL
  obtain ⟨l3, hL⟩ := zif_and hL
  obtain ⟨l4, hL⟩ := zif_and hL
  obtain ⟨l5, l6⟩ := zif_and hL
  have hka : zkyA C ky := fun q hq => by
    obtain ⟨c9, k1, k2⟩ := List.any_eq_true.mp (List.all_eq_true.mp l5 q hq)
    exact ⟨c9, k1, zb_eq k2⟩
  obtain ⟨-, -, -, k4⟩ := zrunM_ok (B0 := B0) (hk := zhkB rm 999999) (ml := []) hA hN (fun q hq => by cases hq) f d rm 12 _ _ _ _ hr
  have k5 := k4 ad0 n0 p l e R s m args below meth c Q (zFr_shift F) (Nat.zero_le _) (Nat.zero_le _) ⟨fun _ pcR L' kd rty z1 z2 => ?_, fun _ E h8 z => absurd (show 0 = E + 1 from z) (by omega), fun _ z => absurd (show 0 = 7777778 from z) (by decide)⟩
  · intro ad hag H locs ls sv hW hS hLc hT
    exact k5 ad hag H locs ls sv (zin_block hC hc hcf (zb_eq l1) (fun v hv => List.all_eq_true.mp l3 v hv) hka l6 w0 hph hF hK hW) hS (zlc_shift hLc (by rw [zd_b0, zd_b0, h16])) hT
  · intro ad hag H locs ls sv hW hS hLc hT
    exact go pcR kd rty z1 z2 ad hag H locs ls sv (zout_block hC hc' hcf' (zb_eq l2) (fun v hv => List.all_eq_true.mp l4 v hv) hka hLe w1 hF' hK1 hK2 hW) hS (zLc_nil hLc) (zSt_01 hT)
