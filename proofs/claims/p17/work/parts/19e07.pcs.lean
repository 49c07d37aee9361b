/-! Printed by wip/v2/lawpc.py: a stretch of the law's run. -/
noncomputable def zql_275204 : ZL := [some (3, 30), some (0, 3), some (0, 651), none, none, none, none, none]
noncomputable def zqr_275204 : ZRes := (0, none, (zQh_13, 235, 15, 165))
noncomputable def zqm_275204 : ZMm := (32, 176, zql_275204, (zQh_12, 220), zqr_275204)
theorem zqk_275204 : zpcB (0, 9999, []) [] (zmkN [] [] [] []) 31349 32 176 0 zql_275204 (zQh_12, 220, 0, 0) zqr_275204 = true := by decide +kernel
theorem zqg_275204 {B0 Ls : Nat} {X : ZX} (hA : zAll) (hN : zNok X Ls (zmkN [] [] [] [])) : zGoal (0, 9999, []) B0 Ls X 32 176 0 zql_275204 [] (zQh_12, 220, 0, 0) zqr_275204 :=
  zprep hA hN (fun q hq => (by cases hq)) zqk_275204
