/-! Printed by wip/v2/lawpc.py: a stretch of the law's run. -/
noncomputable def zpl_2 : ZL := [some (4, 0), some (3, 0), none, none, none, none, none]
noncomputable def zpl_2e : ZL := [some (4, 0), some (3, 0), none, none, none, none, none]
noncomputable def zpg_2 : ZG := (zQh_21, 76, 76, 664098)
noncomputable def zpg_2e : ZG := (zQh_22, 264, 264, 666189)
theorem zpk_2 : zpcB (0, 886, zpl_2e) [zqm_84471, zqm_109376, zqm_126293, zqm_248938, zqm_326980, zqm_343562] (zmkN [] [] [] []) 40448 45 0 877 zpl_2 zpg_2 (7777778, none, zpg_2e) = true := by decide +kernel
theorem zph_2 {B0 Ls : Nat} {X : ZX} {ad0 : Nat → Nat} {n0 : Nat} {p : Program} {l : Launch} {e : Env} {R : Room} {s : State} {m : MethodId} {args : Array Value} {below : List Frame} {meth : Method} {c : Code} {Q : State → Prop} (hA : zAll) (hN : zNok X Ls (zmkN [] [] [] [])) (F : zFr B0 Ls X 0 45 p l R s m args meth c) (h1 : 300 ≤ R.cells) (h2 : 700000 ≤ R.slots)
    (go : zHd B0 X ad0 n0 p l e R s m args below meth c Q (zm_nfo 0).1 886 zpl_2e [] zpg_2e) : zHd B0 X ad0 n0 p l e R s m args below meth c Q (zm_nfo 0).1 877 zpl_2 [] zpg_2 :=
  zstretch (hk := (0, 886, zpl_2e)) (G' := zpg_2e) hA hN (fun q hq => (by
    rcases List.mem_cons.mp hq with e | hq
    · rw [e]
      exact (zGoal_hk (zqg_84471 hA hN) (by decide))
    rcases List.mem_cons.mp hq with e | hq
    · rw [e]
      exact (zGoal_hk (zqg_109376 hA hN) (by decide))
    rcases List.mem_cons.mp hq with e | hq
    · rw [e]
      exact (zGoal_hk (zqg_126293 hA hN) (by decide))
    rcases List.mem_cons.mp hq with e | hq
    · rw [e]
      exact (zGoal_hk (zqg_248938 hA hN) (by decide))
    rcases List.mem_cons.mp hq with e | hq
    · rw [e]
      exact (zGoal_hk (zqg_326980 hA hN) (by decide))
    rcases List.mem_cons.mp hq with e | hq
    · rw [e]
      exact (zGoal_hk (zqg_343562 hA hN) (by decide))
    cases hq)) zpk_2 F (Nat.le_trans (show 264 ≤ 300 by decide) h1) (Nat.le_trans (show 666189 ≤ 700000 by decide) h2) go
