/-! Printed by wip/v2/lawpc.py: a stretch of the law's run. -/
noncomputable def zpl_0 : ZL := [some (4, 0), none, none, none, none, none, none]
noncomputable def zpl_0e : ZL := [some (4, 0), some (3, 0), none, none, none, none, none]
noncomputable def zpg_0 : ZG := (zt_nil ZO 10, 0, 0, 0)
noncomputable def zpg_0e : ZG := (zQh_20, 76, 76, 664098)
theorem zpk_0 : zpcB (0, 8, zpl_0e) [zqm_3159] (zmkN [] [] [] []) 24842 45 0 0 zpl_0 zpg_0 (7777778, none, zpg_0e) = true := by decide +kernel
theorem zph_0 {B0 Ls : Nat} {X : ZX} {ad0 : Nat → Nat} {n0 : Nat} {p : Program} {l : Launch} {e : Env} {R : Room} {s : State} {m : MethodId} {args : Array Value} {below : List Frame} {meth : Method} {c : Code} {Q : State → Prop} (hA : zAll) (hN : zNok X Ls (zmkN [] [] [] [])) (F : zFr B0 Ls X 0 45 p l R s m args meth c) (h1 : 300 ≤ R.cells) (h2 : 700000 ≤ R.slots)
    (go : zHd B0 X ad0 n0 p l e R s m args below meth c Q (zm_nfo 0).1 8 zpl_0e [] zpg_0e) : zHd B0 X ad0 n0 p l e R s m args below meth c Q (zm_nfo 0).1 0 zpl_0 [] zpg_0 :=
  zstretch (hk := (0, 8, zpl_0e)) (G' := zpg_0e) hA hN (fun q hq => (by
    rcases List.mem_cons.mp hq with e | hq
    · rw [e]
      exact (zGoal_hk (zqg_3159 hA hN) (by decide))
    cases hq)) zpk_0 F (Nat.le_trans (show 76 ≤ 300 by decide) h1) (Nat.le_trans (show 664098 ≤ 700000 by decide) h2) go
