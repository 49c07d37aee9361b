/-! Printed by wip/v2/lawpc.py: a stretch of the law's run. -/
noncomputable def zql_179436 : ZL := [some (3, 30), some (0, 3), none, none, none]
noncomputable def zqr_179436 : ZRes := (0, none, (zQh_6, 185, 21, 231))
noncomputable def zqm_179436 : ZMm := (31, 163, zql_179436, (zQh_5, 164), zqr_179436)
theorem zqk_179436 : zpcB (0, 9999, []) [] (zmkN [] [] [] []) 28825 31 163 0 zql_179436 (zQh_5, 164, 0, 0) zqr_179436 = true := by decide +kernel
theorem zqg_179436 {B0 Ls : Nat} {X : ZX} (hA : zAll) (hN : zNok X Ls (zmkN [] [] [] [])) : zGoal (0, 9999, []) B0 Ls X 31 163 0 zql_179436 [] (zQh_5, 164, 0, 0) zqr_179436 :=
  zprep hA hN (fun q hq => (by cases hq)) zqk_179436
