/-! Printed by wip/v2/lawpc.py: a stretch of the law's run. -/
noncomputable def zpl_1 : ZL := [some (4, 0), some (3, 0), none, none, none, none, none]
noncomputable def zpl_1e : ZL := [some (4, 0), some (3, 0), none, none, none, none, none]
noncomputable def zpg_1 : ZG := (zQh_20, 76, 76, 664098)
noncomputable def zpg_1e : ZG := (zQh_21, 76, 76, 664098)
theorem zpk_1 : zpcB (0, 877, zpl_1e) [] (zmkN [] [] [] []) 26210 45 0 8 zpl_1 zpg_1 (7777778, none, zpg_1e) = true := by decide +kernel
theorem zph_1 {B0 Ls : Nat} {X : ZX} {ad0 : Nat → Nat} {n0 : Nat} {p : Program} {l : Launch} {e : Env} {R : Room} {s : State} {m : MethodId} {args : Array Value} {below : List Frame} {meth : Method} {c : Code} {Q : State → Prop} (hA : zAll) (hN : zNok X Ls (zmkN [] [] [] [])) (F : zFr B0 Ls X 0 45 p l R s m args meth c) (h1 : 300 ≤ R.cells) (h2 : 700000 ≤ R.slots)
    (go : zHd B0 X ad0 n0 p l e R s m args below meth c Q (zm_nfo 0).1 877 zpl_1e [] zpg_1e) : zHd B0 X ad0 n0 p l e R s m args below meth c Q (zm_nfo 0).1 8 zpl_1 [] zpg_1 :=
  zstretch (hk := (0, 877, zpl_1e)) (G' := zpg_1e) hA hN (fun q hq => (by cases hq)) zpk_1 F (Nat.le_trans (show 76 ≤ 300 by decide) h1) (Nat.le_trans (show 664098 ≤ 700000 by decide) h2) go
