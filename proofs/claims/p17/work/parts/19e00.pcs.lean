/-! Printed by wip/v2/lawpc.py: a stretch of the law's run. -/
noncomputable def zql_3159 : ZL := [some (3, 25), some (4, 3), none, none, none, none]
noncomputable def zqr_3159 : ZRes := (0, none, (zQh_1, 30, 0, 0))
noncomputable def zqm_3159 : ZMm := (42, 228, zql_3159, (zQh_0, 30), zqr_3159)
theorem zqk_3159 : zpcB (0, 9999, []) [] (zmkN [] [] [] []) 30344 42 228 0 zql_3159 (zQh_0, 30, 0, 0) zqr_3159 = true := by decide +kernel
theorem zqg_3159 {B0 Ls : Nat} {X : ZX} (hA : zAll) (hN : zNok X Ls (zmkN [] [] [] [])) : zGoal (0, 9999, []) B0 Ls X 42 228 0 zql_3159 [] (zQh_0, 30, 0, 0) zqr_3159 :=
  zprep hA hN (fun q hq => (by cases hq)) zqk_3159
