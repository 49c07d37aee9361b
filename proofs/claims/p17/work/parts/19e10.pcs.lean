/-! Printed by wip/v2/lawpc.py: a stretch of the law's run. -/
noncomputable def zql_343562 : ZL := [some (3, 30), some (0, 1), some (0, 888), none, none, none, none, none]
noncomputable def zqr_343562 : ZRes := (0, none, (zQh_19, 259, 10, 110))
noncomputable def zqm_343562 : ZMm := (36, 176, zql_343562, (zQh_18, 249), zqr_343562)
theorem zqk_343562 : zpcB (0, 9999, []) [] (zmkN [] [] [] []) 21598 36 176 0 zql_343562 (zQh_18, 249, 0, 0) zqr_343562 = true := by decide +kernel
theorem zqg_343562 {B0 Ls : Nat} {X : ZX} (hA : zAll) (hN : zNok X Ls (zmkN [] [] [] [])) : zGoal (0, 9999, []) B0 Ls X 36 176 0 zql_343562 [] (zQh_18, 249, 0, 0) zqr_343562 :=
  zprep hA hN (fun q hq => (by cases hq)) zqk_343562
