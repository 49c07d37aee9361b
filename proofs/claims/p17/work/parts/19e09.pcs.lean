/-! Printed by wip/v2/lawpc.py: a stretch of the law's run. -/
noncomputable def zql_326980 : ZL := [some (3, 30), some (0, 1), some (0, 836), none, none, none, none, none, none, none]
noncomputable def zqr_326980 : ZRes := (0, none, (zQh_17, 247, 5, 55))
noncomputable def zqm_326980 : ZMm := (36, 137, zql_326980, (zQh_16, 242), zqr_326980)
theorem zqk_326980 : zpcB (0, 9999, []) [] (zmkN [] [] [] []) 10883 36 137 0 zql_326980 (zQh_16, 242, 0, 0) zqr_326980 = true := by decide +kernel
theorem zqg_326980 {B0 Ls : Nat} {X : ZX} (hA : zAll) (hN : zNok X Ls (zmkN [] [] [] [])) : zGoal (0, 9999, []) B0 Ls X 36 137 0 zql_326980 [] (zQh_16, 242, 0, 0) zqr_326980 :=
  zprep hA hN (fun q hq => (by cases hq)) zqk_326980
