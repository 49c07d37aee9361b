/-! The law: start, and the program's run. -/
theorem zNok_rg {X : ZX} {Ls : Nat} {rg : List (Nat × Nat × Nat)} {as : List (Nat × Int)} {φ : Nat → Nat → Int} (hrg : zRgs rg as) : zNok (zXS X (zas as, φ, fun _ sl => sl)) Ls (zmkN rg [] [] []) := ⟨zRgs_ok rg as hrg, fun q hq => (List.not_mem_nil (show q ∈ ([] : List (ZV × ZV × Nat)) from hq)).elim, fun q hq => (List.not_mem_nil (show q ∈ ([] : List (Nat × ZV × ZV × ZV)) from hq)).elim, fun q hq => (List.not_mem_nil (show q ∈ ([] : List (Nat × ZV × Nat)) from hq)).elim, fun _ _ _ z => z⟩
theorem zvn_fr {σ : Nat → Int} {v : ZV} (h : zvfr v = true) : -9223372036854775808 ≤ zvn σ v ∧ zvn σ v < 9223372036854775808 := by
  obtain ⟨t, u⟩ := v
  match t, h with
  | 0, _ =>
    have := zvn_nI (u := u)
    show -9223372036854775808 ≤ (nI u).toInt ∧ (nI u).toInt < 9223372036854775808
    omega
  | 1, _ => exact zvn_lN (u := u)
  | 2, _ => exact ⟨show -9223372036854775808 ≤ (0 : Int) by decide, show (0 : Int) < 9223372036854775808 by decide⟩
  | 3, _ => exact ⟨show -9223372036854775808 ≤ (0 : Int) by decide, show (0 : Int) < 9223372036854775808 by decide⟩
  | 4, _ => exact ⟨show -9223372036854775808 ≤ (0 : Int) by decide, show (0 : Int) < 9223372036854775808 by decide⟩
  | 5, h => exact absurd (show false = true from h) (by decide)
  | 6, _ => exact ⟨show -9223372036854775808 ≤ (0 : Int) by decide, show (0 : Int) < 9223372036854775808 by decide⟩
  | 7, _ => exact ⟨show -9223372036854775808 ≤ (0 : Int) by decide, show (0 : Int) < 9223372036854775808 by decide⟩
  | 8, h => exact absurd (show false = true from h) (by decide)
  | t + 9, _ => exact ⟨show -9223372036854775808 ≤ (0 : Int) by decide, show (0 : Int) < 9223372036854775808 by decide⟩
theorem zvn_frE {σ σ' : Nat → Int} {v : ZV} (h : zvfr v = true) : zvn σ v = zvn σ' v := by
  obtain ⟨t, u⟩ := v
  match t, h with
  | 0, _ => rfl
  | 1, _ => rfl
  | 2, _ => rfl
  | 3, _ => rfl
  | 4, _ => rfl
  | 5, h => exact absurd (show false = true from h) (by decide)
  | 6, _ => rfl
  | 7, _ => rfl
  | 8, h => exact absurd (show false = true from h) (by decide)
  | t + 9, _ => rfl
theorem zdfo_fr (k : Nat) : zvfr (zdfo k) = true := by
  unfold zdfo
  split <;> rfl
theorem zrV_fr (a j : Nat) : zvfr (zrV a j) = true := by
  by_cases h : a < 300
  · have k := List.all_eq_true.mp zrv_fr a (List.mem_range.mpr h)
    unfold zrV
    cases e : zt_get 18 (zrO a).2.2 j with
    | none => exact zdfo_fr _
    | some v => exact zt_all_get 18 (zrO a).2.2 0 1 j v k e
  · have e : zrO a = (0, 0, z0) := by
      unfold zrO
      split <;> first | omega | rfl
    unfold zrV
    rw [e]
    have : zt_get 18 (z0 : ZT ZV 18) j = none := zt_getN 18 j
    show zvfr ((zt_get 18 (z0 : ZT ZV 18) j).getD (zdfo 0)) = true
    rw [this]
    exact zdfo_fr _
noncomputable def zRg0 (g : Nat → Int → Int) : Nat → Int → Int := fun a j => zif (Nat.beq a 258) (g 258 j) (zif (Nat.beq a 262) (g 262 j) (zvn (fun _ => 0) (zrV a j.toNat)))
theorem zRg0_bd {g : Nat → Int → Int} (hbd : zBd g) : zBd (zRg0 g) := by
  intro a j
  show -9223372036854775808 ≤ zif (Nat.beq a 258) (g 258 j) (zif (Nat.beq a 262) (g 262 j) (zvn (fun _ => 0) (zrV a j.toNat))) ∧ zif (Nat.beq a 258) (g 258 j) (zif (Nat.beq a 262) (g 262 j) (zvn (fun _ => 0) (zrV a j.toNat))) < 9223372036854775808
  cases Nat.beq a 258 with
  | true => exact hbd 258 j
  | false =>
    cases Nat.beq a 262 with
    | true => exact hbd 262 j
    | false => exact zvn_fr (zrV_fr a j.toNat)
theorem zRg0_c {g : Nat → Int → Int} {σ : Nat → Int} : ∀ q ∈ zrC, ∀ o, zt_get 10 zRr q.1 = some o → ∀ j : Nat, j < o.2.1 → zRg0 g q.2 (j : Int) = zvn σ ((zt_get 18 o.2.2 j).getD (zdfo o.1)) := by
  intro q hq o ho j _
  have k1 := zo_eqb_ok (fun _ _ => zob_eqb_ok) (List.all_eq_true.mp zrv_ob q hq)
  have e := Option.some.inj (ho.symm.trans k1)
  have k2 := List.all_eq_true.mp zrv_ne q hq
  rw [e]
  show zif (Nat.beq q.2 258) (g 258 j) (zif (Nat.beq q.2 262) (g 262 j) (zvn (fun _ => 0) (zrV q.2 j))) = zvn σ (zrV q.2 j)
  rcases zif_or k2 with ⟨-, k2⟩ | ⟨e1, k2⟩
  · cases k2
  · rcases zif_or k2 with ⟨-, k2⟩ | ⟨e2, -⟩
    · cases k2
    · rw [e1, e2]
      exact zvn_frE (zrV_fr q.2 j)
/-- the rows behind the run -/
noncomputable def zRg1 (g G : Nat → Int → Int) : Nat → Int → Int := fun a j => zif (Nat.beq a 262) (g 262 j) (zif (Nat.ble 271 a) (zif (Nat.ble a 281) (G (a - 20) j) (g a j)) (g a j))
theorem zRg1_bd {g G : Nat → Int → Int} (hbd : zBd g) (hG : zBd G) : zBd (zRg1 g G) := by
  intro a j
  show -9223372036854775808 ≤ zif (Nat.beq a 262) (g 262 j) (zif (Nat.ble 271 a) (zif (Nat.ble a 281) (G (a - 20) j) (g a j)) (g a j)) ∧ zif (Nat.beq a 262) (g 262 j) (zif (Nat.ble 271 a) (zif (Nat.ble a 281) (G (a - 20) j) (g a j)) (g a j)) < 9223372036854775808
  cases Nat.beq a 262 with
  | true => exact hbd 262 j
  | false =>
    cases Nat.ble 271 a with
    | false => exact hbd a j
    | true =>
      cases Nat.ble a 281 with
      | true => exact hG (a - 20) j
      | false => exact hbd a j
theorem zRst {n : Int} {a : Int → Int} {g : Nat → Int → Int} (h0 : g 258 0 = n) (hin : ∀ j, 1 ≤ j → j ≤ n → g 258 j = a j ∧ -2147483647 ≤ a j ∧ a j ≤ 2147483647) : zSt0 n a (fun x => g 262 x) (zRf0 n) (zRg0 g) :=
  ⟨⟨rfl, rfl, rfl, rfl, rfl, rfl, rfl, rfl, rfl, rfl, rfl, rfl, rfl, rfl, rfl⟩, ⟨show (0 : Int) ≤ 0 by decide, show (0 : Int) ≤ 700000000 by decide⟩,
    ⟨(congrArg (zvn fun _ => 0) zrv_255_6).trans (zvk0 (by decide)), (congrArg (zvn fun _ => 0) zrv_255_5).trans (zvk0 (by decide)), (congrArg (zvn fun _ => 0) zrv_255_0).trans (zvk0 (by decide))⟩,
    ⟨(congrArg (zvn fun _ => 0) zrv_254_0).trans (zvk1 (by decide)), (congrArg (zvn fun _ => 0) zrv_254_5).trans (zvk1 (by decide)), (congrArg (zvn fun _ => 0) zrv_254_10).trans (zvk1 (by decide)), (congrArg (zvn fun _ => 0) zrv_254_15).trans (zvk1 (by decide)), (congrArg (zvn fun _ => 0) zrv_254_20).trans (zvk1 (by decide)), (congrArg (zvn fun _ => 0) zrv_254_25).trans (zvk1 (by decide)), (congrArg (zvn fun _ => 0) zrv_254_30).trans (zvk1 (by decide))⟩, h0, hin, fun _ => rfl⟩
theorem zRrg {n F5 F12 F13 F14 : Int} (hn : 1 ≤ n ∧ n ≤ 16) (h5 : 0 ≤ F5 ∧ F5 ≤ 1000) (h12 : F12 = n + 2) (h13 : F13 = 4 * n + 5) (h14 : F14 = 0) : zRgs zrg_R [(17, n), (205, F5), (212, F12), (213, F13), (214, F14)] :=
  zRc 17 9223372036854775809 9223372036854775824 n (by omega) (by omega) (zRc 205 9223372036854775808 9223372036854776808 F5 (by omega) (by omega) (zRc 212 9223372036854775810 9223372036854775826 F12 (by omega) (by omega) (zRc 213 9223372036854775808 9223372036854776008 F13 (by omega) (by omega) (zRc 214 9223372036854775808 9223372036854775826 F14 (by omega) (by omega) True.intro))))
/-- the run of the program as a call's prepared result -/
theorem zRgoal (hA : zAll) {B0 Ls : Nat} {X : ZX} {hk : ZHk} {n : Int} {g F0g : Nat → Int → Int} {F : Nat → Int} {G : Nat → Int → Int} (hn : 1 ≤ n ∧ n ≤ 16) (hE : zToE (zRf0 n) (zRg0 g) F G) (hF : (0 ≤ F 5 ∧ F 5 ≤ 1000) ∧ F 12 = n + 2 ∧ F 13 = 4 * n + 5 ∧ F 14 = 0) (hm : ∀ x, G 262 x = g 262 x) :
    zGoal hk B0 Ls (zXS X (zSg' (zRs n (F 5) (F 12) (F 13) (F 14)) (zRg1 g G))) 30 zRM 0 zrl_0 [] (zRh, 265, 0, 0) (0, some (0, 1), (zHf, 265, 0, 0)) := by
  have hN : zNok (zXS X (zSg' (zRs n (F 5) (F 12) (F 13) (F 14)) (zRg1 g G))) Ls (zmkN zrg_R zcm_R zop_R []) := zNok_rg (zRrg hn hF.1 hF.2.1 hF.2.2.1 hF.2.2.2)
  refine ⟨Nat.le_refl _, Nat.le_refl _, Nat.le_refl _, fun ad0 n0 p l e R s m args below meth c Q F' _ _ hC => ?_⟩
  refine zstretch (hk := (zRM, 12, zrl_e)) (ml := []) (G' := (zRr, 265, 0, 0)) hA hN (fun q hq => by cases hq) zrk_r F' (Nat.zero_le _) (Nat.zero_le _) ?_
  refine zHd_conv (X := X) (S := zSg' (zRs n (F 5) (F 12) (F 13) (F 14)) (zRg1 g G)) (S' := zSg' (zRf0 n) (zRg0 g)) (B := zc16 (8, zsb0 16)) zrc_r zrP_ok (fun q hq o ho j hj => zRg0_c q hq o ho j hj) (fun q hq j => ?_) (zLrc (Or.inl ⟨rfl, rfl⟩) (zLrc (Or.inl ⟨rfl, rfl⟩) (zLrc (Or.inr (Or.inr ⟨_, rfl, rfl, rfl, (zvk1 (show (lN 0).toInt = 0 by decide)).trans (zd_b0 (zRf0 n) 16).symm⟩)) (zLrc True.intro (zLrc True.intro zLrn))))) ?_
  · rcases List.mem_cons.mp hq with e | hq
    · rw [e]
      rfl
    · rcases List.mem_cons.mp hq with e | hq
      · rw [e]
        rfl
      · cases hq
  · refine hE _ _ ⟨B0, Ls, zXS X (zSg' (zRs n (F 5) (F 12) (F 13) (F 14)) (zRg1 g G)), ad0, n0, p, l, e, R, s, m, args, below, meth, c, Q, F', rfl, rfl⟩ (fun pcR kd rty z1 z2 => ?_)
    intro ad hag H locs ls sv hW hS hLc hT
    refine (hC.1 rfl pcR [] kd rty z1 z2) ad hag H locs ls sv (zW1_conv (X := X) (S := zSg' F G) (S' := zSg' (zRs n (F 5) (F 12) (F 13) (F 14)) (zRg1 g G)) zrc_f (zEv_ok (fun q : ZV × ZV => zvn F q.1 = zvn (zRs n (F 5) (F 12) (F 13) (F 14)) q.2) zrQ ⟨zb0w _ 205 (zb0v F 5) rfl, zb0w _ 212 (zb0v F 12) rfl, zb0w _ 213 (zb0v F 13) rfl, zb0w _ 214 (zb0v F 14) rfl, True.intro⟩) (fun q hq => by cases hq) (fun q hq j => ?_) hW) hS (zLc_nil hLc) (zSt_01 hT)
    exact zEv_ok (fun q : Nat × Nat => ∀ j : Nat, zRg1 g G q.2 (j : Int) = G q.1 (j : Int)) zrD ⟨fun _ => rfl, fun _ => rfl, fun _ => rfl, fun _ => rfl, fun _ => rfl, fun _ => rfl, fun _ => rfl, fun _ => rfl, fun _ => rfl, fun _ => rfl, fun _ => rfl, fun j => (hm j).symm, True.intro⟩ q hq j
theorem zL4 (hA : zAll) (X0 : ZX) {Ls : Nat} {xs : Nat → Int32} {n : Int} {a : Int → Int} {f : Nat → Int} {g : Nat → Int → Int} (hn : 1 ≤ n ∧ n ≤ 16) (hbd : zBd g) (hf : f 17 = n ∧ f 18 = n ∧ f 7 = n + 1) (h0 : g 258 0 = n) (hin : ∀ j, 1 ≤ j → j ≤ n → g 258 j = a j ∧ -2147483647 ≤ a j ∧ a j ≤ 2147483647) :
    ∃ (f' : Nat → Int) (g' : Nat → Int → Int) (S : List Int), zToL Ls xs 0 f g 1 f' g' ∧ zBd g' ∧ S.Pairwise (· ≤ ·) ∧ S.Perm ((List.range n.toNat).map fun (k : Nat) => a ((k : Int) + 1)) ∧ (f' 17 = n ∧ f' 212 = n + 2 ∧ f' 213 = 4 * n + 5 ∧ f' 214 = 0 ∧ 0 ≤ f' 205 ∧ f' 205 ≤ 1000) ∧ g' 276 (n + 1) = -8 ∧ zWs (fun a j => g' (a + 20) j) 0 (S ++ S) (f' 205) ∧ (∀ x, g' 262 x = g 262 x) := by
  obtain ⟨F, G, S, hE, hG, srt, prm, ⟨⟨-, -, -, -, -, -, F12, F13, F14⟩, ⟨-, -, F5, -⟩, G6, W, hm⟩⟩ := zProg hA X0 hn (zRg0_bd hbd) (zRst h0 hin)
  refine ⟨zRs n (F 5) (F 12) (F 13) (F 14), zRg1 g G, S, fun A H go => ?_, zRg1_bd hbd hG, srt, prm, ⟨rfl, F12, F13, F14, F5.1, F5.2⟩, G6, zWs_keep _ _ _ (fun x _ => rfl) W, fun _ => rfl⟩
  obtain ⟨B0, X, ad0, n0, p, l, e, R, s, m, args, below, meth, c, Q, Fr, hx, ⟨R1, R2⟩, rfl⟩ := H
  have hN : zNok (zXS X (zSg' (zRs n (F 5) (F 12) (F 13) (F 14)) (zRg1 g G))) Ls (zmkN zrg_R zcm_R zop_R []) := zNok_rg (zRrg hn F5 F12 F13 F14)
  have k : zHd B0 (zXS X (zSg' (zRs n (F 5) (F 12) (F 13) (F 14)) (zRg1 g G))) ad0 n0 p l e R s m args below meth c Q (zm_nfo 0).1 916 zrl_a [] (zRa, 265, 265, 666221) := zstretch (hk := (0, 1006, zlL 1)) (ml := [zrm_R]) (G' := (zHf, 265, 265, 666221)) hA hN (fun q hq => by
    rw [List.mem_singleton.mp hq]
    exact zRgoal hA (F0g := g) hn hE ⟨F5, F12, F13, F14⟩ hm) zrk_a (zFr_shift Fr) (Nat.le_trans (show 265 ≤ 300 by decide) R1) (Nat.le_trans (show 666221 ≤ 700000 by decide) R2) go
  refine zHd_conv (X := X) (S := zSg' f g) (S' := zSg' (zRs n (F 5) (F 12) (F 13) (F 14)) (zRg1 g G)) (B := zrl_a) zrc_a (zEv_ok (fun q : ZV × ZV => zvn f q.1 = zvn (zRs n (F 5) (F 12) (F 13) (F 14)) q.2) [((5, zsb0 7), (5, zsb0 17 + 1))] ⟨?_, True.intro⟩) (fun q hq => by cases hq) (fun q hq j => zEv_ok (fun q : Nat × Nat => ∀ j : Nat, zRg1 g G q.2 (j : Int) = g q.1 (j : Int)) [(258, 258), (262, 262)] ⟨fun _ => rfl, fun _ => rfl, True.intro⟩ q hq j) (zLrc (Or.inl ⟨rfl, rfl⟩) (zLrc (Or.inl ⟨rfl, rfl⟩) (zLrc (Or.inr (Or.inl ⟨_, rfl, rfl, rfl, zb0w _ 17 ((zb0v f 17).trans hf.1) rfl⟩)) (zLrc (Or.inl ⟨rfl, rfl⟩) (zLrc (Or.inr (Or.inl ⟨_, rfl, rfl, rfl, zb0w _ 17 ((zb0v f 18).trans hf.2.1) rfl⟩)) (zLrc True.intro (zLrc True.intro zLrn))))))) k
  show zd f (zsb0 7) = zd (zRs n (F 5) (F 12) (F 13) (F 14)) (zsb0 17 + 1)
  rw [zd_b0, zd_b0m _ 17 1 (by decide), hf.2.2]
  rfl
