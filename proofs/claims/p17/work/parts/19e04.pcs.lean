/-! Printed by wip/v2/lawpc.py: a stretch of the law's run. -/
noncomputable def zql_158942 : ZL := [some (3, 30), some (0, 2), some (0, 293), none, none, none, none]
noncomputable def zqr_158942 : ZRes := (0, none, (zQh_8, 188, 40, 440))
noncomputable def zqm_158942 : ZMm := (33, 157, zql_158942, (zQh_7, 148), zqr_158942)
theorem zqk_158942 : zpcB (0, 9999, []) [zqm_179436] (zmkN [] [] [] []) 23439 33 157 0 zql_158942 (zQh_7, 148, 0, 0) zqr_158942 = true := by decide +kernel
theorem zqg_158942 {B0 Ls : Nat} {X : ZX} (hA : zAll) (hN : zNok X Ls (zmkN [] [] [] [])) : zGoal (0, 9999, []) B0 Ls X 33 157 0 zql_158942 [] (zQh_7, 148, 0, 0) zqr_158942 :=
  zprep hA hN (fun q hq => (by
    rcases List.mem_cons.mp hq with e | hq
    · rw [e]
      exact (zqg_179436 hA hN)
    cases hq)) zqk_158942
