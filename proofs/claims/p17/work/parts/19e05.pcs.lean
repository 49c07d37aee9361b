/-! Printed by wip/v2/lawpc.py: a stretch of the law's run. -/
noncomputable def zql_144537 : ZL := [some (3, 30), some (0, 1), none, none, none]
noncomputable def zqr_144537 : ZRes := (0, none, (zQh_10, 200, 63, 693))
noncomputable def zqm_144537 : ZMm := (35, 164, zql_144537, (zQh_9, 137), zqr_144537)
theorem zqk_144537 : zpcB (0, 9999, []) [zqm_158942] (zmkN [] [] [] []) 34751 35 164 0 zql_144537 (zQh_9, 137, 0, 0) zqr_144537 = true := by decide +kernel
theorem zqg_144537 {B0 Ls : Nat} {X : ZX} (hA : zAll) (hN : zNok X Ls (zmkN [] [] [] [])) : zGoal (0, 9999, []) B0 Ls X 35 164 0 zql_144537 [] (zQh_9, 137, 0, 0) zqr_144537 :=
  zprep hA hN (fun q hq => (by
    rcases List.mem_cons.mp hq with e | hq
    · rw [e]
      exact (zqg_158942 hA hN)
    cases hq)) zqk_144537
