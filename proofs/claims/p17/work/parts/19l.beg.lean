/-! The law: from its entry to the input loop. -/
noncomputable def zSz : ZSg := (zas [], fun _ _ => 0, fun _ sl => sl)
theorem zgetn {v : ZV} (j : Nat) : (zt_get 18 (zn (some v) z0 z0 : ZT ZV 18) j) = if j = 0 then some v else none := by
  show zif (Nat.beq j 0) (some v) (zif (Nat.beq (Nat.mod j 2) 1) (zt_get 17 (z0 : ZT ZV 17) (Nat.div j 2)) (zt_get 17 (z0 : ZT ZV 17) (Nat.sub (Nat.div j 2) 1))) = _
  have e1 : ∀ i, zt_get 17 (z0 : ZT ZV 17) i = none := fun i => zt_getN 17 i
  rw [e1, e1]
  by_cases h : j = 0
  · rw [if_pos h, zb_t h]
    rfl
  · rw [if_neg h, zb_f h]
    cases Nat.beq (Nat.mod j 2) 1 <;> rfl
noncomputable def zBg (n : Int) : Nat → Int → Int := fun a j => zif (Nat.beq a 258) (@ite Int (j = 0) _ n 0) 0
theorem zBg_bd {n : Int} (hn : 1 ≤ n ∧ n ≤ 16) : zBd (zBg n) := by
  intro a j
  show -9223372036854775808 ≤ zif (Nat.beq a 258) (@ite Int (j = 0) _ n 0) 0 ∧ zif (Nat.beq a 258) (@ite Int (j = 0) _ n 0) 0 < 9223372036854775808
  cases Nat.beq a 258 with
  | false => exact ⟨show -9223372036854775808 ≤ (0 : Int) by decide, show (0 : Int) < 9223372036854775808 by decide⟩
  | true =>
    show -9223372036854775808 ≤ @ite Int (j = 0) _ n 0 ∧ @ite Int (j = 0) _ n 0 < 9223372036854775808
    split <;> omega
noncomputable def zBf (n : Int) : Nat → Int := zas [(7, 1), (17, n), (18, 0)]
theorem zBc {σ : Nat → Int} {h : ZH} {v : ZV} {n : Int} (h1 : zo_eqb zob_eqb (zt_get 10 h 75) (some (50, 1000, zn (some v) z0 z0)) = true) (h2 : zo_eqb zob_eqb (zt_get 10 h 264) (some (50, 32, z0)) = true) (hv : zvn σ v = n) : ∀ q ∈ [(75, 258), (264, 262)], ∀ o, zt_get 10 h q.1 = some o → ∀ j : Nat, j < o.2.1 → zBg n q.2 (j : Int) = zvn σ ((zt_get 18 o.2.2 j).getD (zdfo o.1)) := by
  intro q hq o ho j _
  rcases List.mem_cons.mp hq with e | hq
  · rw [e] at ho ⊢
    have e2 := Option.some.inj (ho.symm.trans (zo_eqb_ok (fun _ _ => zob_eqb_ok) h1))
    rw [e2]
    show @ite Int ((j : Int) = 0) _ n 0 = zvn σ ((zt_get 18 (zn (some v) z0 z0 : ZT ZV 18) j).getD (0, 0))
    rw [zgetn]
    by_cases h : j = 0
    · rw [if_pos h, if_pos (by omega)]
      exact hv.symm
    · rw [if_neg h, if_neg (by omega)]
      rfl
  · rcases List.mem_cons.mp hq with e | hq
    · rw [e] at ho ⊢
      have e2 := Option.some.inj (ho.symm.trans (zo_eqb_ok (fun _ _ => zob_eqb_ok) h2))
      rw [e2]
      show (0 : Int) = zvn σ ((zt_get 18 (z0 : ZT ZV 18) j).getD (0, 0))
      rw [show zt_get 18 (z0 : ZT ZV 18) j = none from zt_getN 18 j]
      rfl
    · cases hq
theorem zlnn_out {Ls : Nat} {xs : Nat → Int32} (h : ¬ 0 < Ls) : zlnn Ls xs = 6 := by
  unfold zlnn zce
  rw [if_neg h]
  decide
theorem zlnn_in {Ls : Nat} {xs : Nat → Int32} (h : 0 < Ls) : zlnn Ls xs - 1 = (Int32.ofInt (xs 0).toInt &&& Int32.ofInt 15).toInt := by
  unfold zlnn zce
  rw [if_pos h]
  omega
theorem zLbeg (hA : zAll) {B0 Ls : Nat} {X : ZX} {xs : Nat → Int32} {ad0 : Nat → Nat} {n0 : Nat} {p : Program} {l : Launch} {e : Env} {R : Room} {s : State} {m : MethodId} {args : Array Value} {below : List Frame} {meth : Method} {c : Code} {Q : State → Prop}
    (hLs : Ls ≤ 2147483647) (F : zFr B0 Ls X 0 45 p l R s m args meth c) (hx : X.2.2.2.1 = xs) (R1 : 300 ≤ R.cells) (R2 : 700000 ≤ R.slots)
    (go : zLat B0 X ad0 n0 p l e R s m args below meth c Q 0 (zBf (zlnn Ls xs)) (zBg (zlnn Ls xs))) :
    zHd B0 (zXS X zSz) ad0 n0 p l e R s m args below meth c Q (zm_nfo 0).1 0 zpl_0 [] zpg_0 := by
  have hN : zNok (zXS X zSz) Ls (zmkN [] [] [] []) := zNok_rg (rg := []) (as := []) True.intro
  have Fz := zFr_shift (S := zSz) F
  have nb := zlnn_b Ls xs
  have c1 : 265 ≤ R.cells := Nat.le_trans (by decide) R1
  have c2 : 666221 ≤ R.slots := Nat.le_trans (by decide) R2
  refine zph_0 hA hN Fz R1 R2 (zph_1 hA hN Fz R1 R2 (zph_2 hA hN Fz R1 R2 ?_))
  have lc : ∀ σ σ' : Nat → Int, zLr σ σ' zpl_2e zpl_2e := fun σ σ' => zLrc (Or.inl ⟨rfl, rfl⟩) (zLrc (Or.inl ⟨rfl, rfl⟩) (zLrc True.intro (zLrc True.intro (zLrc True.intro (zLrc True.intro (zLrc True.intro zLrn))))))
  by_cases h : 0 < Ls
  · obtain ⟨n, hn⟩ : ∃ n, n = zlnn Ls xs := ⟨_, rfl⟩
    have hin := zlnn_in (xs := xs) h
    rw [← hn] at hin nb go
    obtain ⟨σ, hσ⟩ : ∃ σ, σ = zas [(17, n), (100, (nI Ls).toInt), (101, (xs 0).toInt)] := ⟨_, rfl⟩
    have s17 : σ 17 = n := by rw [hσ]; rfl
    have s100 : σ 100 = (nI Ls).toInt := by rw [hσ]; rfl
    have s101 : σ 101 = (xs 0).toInt := by rw [hσ]; rfl
    have lE := znI_in (u := Ls) (by omega)
    have xb : -2147483648 ≤ (xs 0).toInt ∧ (xs 0).toInt ≤ 2147483647 := by
      have h1 := Int32.le_toInt (xs 0)
      have h2 := Int32.toInt_lt (xs 0)
      omega
    obtain ⟨kv, n1, -⟩ := zblock_pre X Ls (C := ([], [])) (h := zpg_2e.1) (ky := []) (w := []) zjt_0 rfl rfl _ σ hσ (fun _ => 0) (zBg n) (zBg_bd nb) (zRc 17 9223372036854775809 9223372036854775824 n (by omega) (by omega) (zRc 100 9223372036854775808 9223372039002259455 (nI Ls).toInt (by omega) (by omega) (zRc 101 9223372034707292160 9223372039002259455 (xs 0).toInt (by omega) (by omega) True.intro))) ⟨show (nI 0).toInt < zvn σ (5, 100 * 1099511627776 + 549755813888) by rw [zb0v, s100, lE]; show (0 : Int) < (Ls : Int); omega, True.intro⟩ True.intro (sp := []) True.intro True.intro
    have hN2 := zNok_L (op := zop_J0) (X := zXS X (σ, fun a j => zBg n a (j : Int), kv)) hx n1 (zEv_ok (zopL Ls xs zrg_J0 σ) zop_J0 ⟨zopR91 rfl ((zb0v σ 100).trans s100) rfl, zopR90 rfl rfl (zvk0 (show (nI 0).toInt = 0 by decide)) ((zb0v σ 101).trans s101) ⟨0, h, hLs, rfl, rfl⟩, zopR3 rfl rfl rfl ((zb0v σ 101).trans s101) (zvk0 (show (nI 15).toInt = 15 by decide)) (zvE5 19241453486079 17 549755813887 (by decide) (by decide) s17 (show n + (((549755813887 : Nat) : Int) - 549755813888) = n - 1 by omega)) hin, True.intro⟩)
    refine zHd_conv (X := X) (S := zSz) (S' := (σ, fun a j => zBg n a (j : Int), kv)) (P := []) (cC := []) (cD := []) (h := zpg_2e.1) (h' := zpg_2e.1) (n := 264) (B := zpl_2e) zjs_0 (fun q hq => by cases hq) (fun q hq => by cases hq) (fun q hq => by cases hq) (lc _ _) ?_
    refine zstretch (hk := (0, 916, zjl_0)) (ml := []) (G' := (zJ0, 265, 265, 666221)) hA hN2 (fun q hq => by cases hq) zjk_0 (zFr_shift F) c1 c2 ?_
    exact zHd_conv (X := X) (S := (σ, fun a j => zBg n a (j : Int), kv)) (S' := zSg' (zBf n) (zBg n)) (B := zlL 0) zjc_0 (zEv_ok (fun q : ZV × ZV => zvn σ q.1 = zvn (zBf n) q.2) [((0, 1), (5, zsb0 7))] ⟨zb0w _ 7 (zvk0 (show (nI 1).toInt = 1 by decide)) rfl, True.intro⟩) (zBc zju_0 zjw_0 ((zb0v σ 17).trans s17)) (fun q hq => by cases hq) (zLrc (Or.inl ⟨rfl, rfl⟩) (zLrc (Or.inl ⟨rfl, rfl⟩) (zLrc (Or.inr (Or.inl ⟨_, rfl, rfl, rfl, zb0w _ 17 ((zb0v σ 17).trans s17) rfl⟩)) (zLrc (Or.inl ⟨rfl, rfl⟩) (zLrc (Or.inr (Or.inl ⟨_, rfl, rfl, rfl, zb0w _ 18 (zvk0 (show (nI 0).toInt = 0 by decide)) rfl⟩)) (zLrc True.intro (zLrc True.intro zLrn))))))) go
  · have e6 := zlnn_out (xs := xs) h
    rw [e6] at go
    obtain ⟨σ, hσ⟩ : ∃ σ, σ = zas [(100, (nI Ls).toInt)] := ⟨_, rfl⟩
    have s100 : σ 100 = (nI Ls).toInt := by rw [hσ]; rfl
    have lE := znI_in (u := Ls) (by omega)
    obtain ⟨kv, n1, -⟩ := zblock_pre X Ls (C := ([], [])) (h := zpg_2e.1) (ky := []) (w := []) zjt_1 rfl rfl _ σ hσ (fun _ => 0) (zBg 6) (zBg_bd (by decide)) (zRc 100 9223372036854775808 9223372039002259455 (nI Ls).toInt (by omega) (by omega) True.intro) ⟨show zvn σ (5, 100 * 1099511627776 + 549755813888) ≤ (nI 0).toInt by rw [zb0v, s100, lE]; show (Ls : Int) ≤ 0; omega, True.intro⟩ True.intro (sp := []) True.intro True.intro
    have hN2 := zNok_L (op := zop_J1) (X := zXS X (σ, fun a j => zBg 6 a (j : Int), kv)) hx n1 (zEv_ok (zopL Ls xs zrg_J1 σ) zop_J1 ⟨zopR91 rfl ((zb0v σ 100).trans s100) rfl, True.intro⟩)
    refine zHd_conv (X := X) (S := zSz) (S' := (σ, fun a j => zBg 6 a (j : Int), kv)) (P := []) (cC := []) (cD := []) (h := zpg_2e.1) (h' := zpg_2e.1) (n := 264) (B := zpl_2e) zjs_1 (fun q hq => by cases hq) (fun q hq => by cases hq) (fun q hq => by cases hq) (lc _ _) ?_
    refine zstretch (hk := (0, 916, zjl_1)) (ml := []) (G' := (zJ1, 265, 265, 666221)) hA hN2 (fun q hq => by cases hq) zjk_1 (zFr_shift F) c1 c2 ?_
    exact zHd_conv (X := X) (S := (σ, fun a j => zBg 6 a (j : Int), kv)) (S' := zSg' (zBf 6) (zBg 6)) (B := zlL 0) zjc_1 (zEv_ok (fun q : ZV × ZV => zvn σ q.1 = zvn (zBf 6) q.2) [((0, 1), (5, zsb0 7))] ⟨zb0w _ 7 (zvk0 (show (nI 1).toInt = 1 by decide)) rfl, True.intro⟩) (zBc zju_1 zjw_1 (zvk0 (show (nI 6).toInt = 6 by decide))) (fun q hq => by cases hq) (zLrc (Or.inl ⟨rfl, rfl⟩) (zLrc (Or.inl ⟨rfl, rfl⟩) (zLrc (Or.inr (Or.inl ⟨_, rfl, rfl, rfl, zb0w _ 17 (zvk0 (show (nI 6).toInt = 6 by decide)) rfl⟩)) (zLrc (Or.inl ⟨rfl, rfl⟩) (zLrc (Or.inr (Or.inl ⟨_, rfl, rfl, rfl, zb0w _ 18 (zvk0 (show (nI 0).toInt = 0 by decide)) rfl⟩)) (zLrc True.intro (zLrc True.intro zLrn))))))) go
/-- the law's frame, from its entry: it returns 1 -/
theorem zLaw (hA : zAll) {B0 Ls : Nat} {X : ZX} {ad0 : Nat → Nat} {n0 : Nat} {p : Program} {l : Launch} {e : Env} {R : Room} {s : State} {m : MethodId} {args : Array Value} {below : List Frame} {meth : Method} {c : Code} {Q : State → Prop}
    (hLs : Ls ≤ 2147483647) (F : zFr B0 Ls X 0 45 p l R s m args meth c) (R1 : 300 ≤ R.cells) (R2 : 700000 ≤ R.slots)
    (go : ∀ (S : ZSg) (G : ZG) (pcR : Nat) (L' : ZL) (kd rty : Nat), zc_ret (zm_cc 0) (zm_ret 0) pcR kd rty = true → zrsk kd rty (some (0, 1)) = true → G.2.2.1 ≤ 300 → G.2.2.2 ≤ 700000 → zHd B0 (zXS X S) ad0 n0 p l e R s m args below meth c Q (zm_nfo 0).1 pcR L' [(0, 1)] G) :
    zHd B0 (zXS X zSz) ad0 n0 p l e R s m args below meth c Q (zm_nfo 0).1 0 zpl_0 [] zpg_0 :=
  zLbeg hA hLs F rfl R1 R2 (zL_whole hA X hLs (zBg_bd (zlnn_b Ls X.2.2.2.1)) rfl rfl rfl rfl _ _ ⟨B0, X, ad0, n0, p, l, e, R, s, m, args, below, meth, c, Q, F, rfl, ⟨R1, R2⟩, rfl, rfl⟩ go)
