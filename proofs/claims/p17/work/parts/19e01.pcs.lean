/-! Printed by wip/v2/lawpc.py: a stretch of the law's run. -/
noncomputable def zql_84471 : ZL := [some (3, 30), some (0, 0), none, none, none, none]
noncomputable def zqr_84471 : ZRes := (0, none, (zQh_3, 107, 28, 328))
noncomputable def zqm_84471 : ZMm := (39, 171, zql_84471, (zQh_2, 79), zqr_84471)
theorem zqk_84471 : zpcB (0, 9999, []) [] (zmkN [] [] [] []) 24941 39 171 0 zql_84471 (zQh_2, 79, 0, 0) zqr_84471 = true := by decide +kernel
theorem zqg_84471 {B0 Ls : Nat} {X : ZX} (hA : zAll) (hN : zNok X Ls (zmkN [] [] [] [])) : zGoal (0, 9999, []) B0 Ls X 39 171 0 zql_84471 [] (zQh_2, 79, 0, 0) zqr_84471 :=
  zprep hA hN (fun q hq => (by cases hq)) zqk_84471
