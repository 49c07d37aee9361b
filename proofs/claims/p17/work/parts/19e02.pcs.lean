/-! Printed by wip/v2/lawpc.py: a stretch of the law's run. -/
noncomputable def zql_109376 : ZL := [some (3, 30), some (0, 0), none, none, none]
noncomputable def zqr_109376 : ZRes := (0, none, (zQh_4, 122, 15, 162))
noncomputable def zqm_109376 : ZMm := (39, 174, zql_109376, (zQh_3, 107), zqr_109376)
theorem zqk_109376 : zpcB (0, 9999, []) [] (zmkN [] [] [] []) 16948 39 174 0 zql_109376 (zQh_3, 107, 0, 0) zqr_109376 = true := by decide +kernel
theorem zqg_109376 {B0 Ls : Nat} {X : ZX} (hA : zAll) (hN : zNok X Ls (zmkN [] [] [] [])) : zGoal (0, 9999, []) B0 Ls X 39 174 0 zql_109376 [] (zQh_3, 107, 0, 0) zqr_109376 :=
  zprep hA hN (fun q hq => (by cases hq)) zqk_109376
