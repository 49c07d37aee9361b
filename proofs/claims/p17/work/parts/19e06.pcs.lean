/-! Printed by wip/v2/lawpc.py: a stretch of the law's run. -/
noncomputable def zql_126293 : ZL := [some (3, 30), some (0, 0), none, none, none, none, none, none]
noncomputable def zqr_126293 : ZRes := (0, none, (zQh_11, 201, 79, 883))
noncomputable def zqm_126293 : ZMm := (39, 159, zql_126293, (zQh_4, 122), zqr_126293)
theorem zqk_126293 : zpcB (0, 9999, []) [zqm_144537] (zmkN [] [] [] []) 20408 39 159 0 zql_126293 (zQh_4, 122, 0, 0) zqr_126293 = true := by decide +kernel
theorem zqg_126293 {B0 Ls : Nat} {X : ZX} (hA : zAll) (hN : zNok X Ls (zmkN [] [] [] [])) : zGoal (0, 9999, []) B0 Ls X 39 159 0 zql_126293 [] (zQh_4, 122, 0, 0) zqr_126293 :=
  zprep hA hN (fun q hq => (by
    rcases List.mem_cons.mp hq with e | hq
    · rw [e]
      exact (zqg_144537 hA hN)
    cases hq)) zqk_126293
