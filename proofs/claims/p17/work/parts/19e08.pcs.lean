/-! Printed by wip/v2/lawpc.py: a stretch of the law's run. -/
noncomputable def zql_248938 : ZL := [some (3, 30), some (0, 1), some (0, 570), none, none, none, none, none, none, none]
noncomputable def zqr_248938 : ZRes := (0, none, (zQh_15, 239, 32, 352))
noncomputable def zqm_248938 : ZMm := (36, 137, zql_248938, (zQh_14, 207), zqr_248938)
theorem zqk_248938 : zpcB (0, 9999, []) [zqm_275204] (zmkN [] [] [] []) 38741 36 137 0 zql_248938 (zQh_14, 207, 0, 0) zqr_248938 = true := by decide +kernel
theorem zqg_248938 {B0 Ls : Nat} {X : ZX} (hA : zAll) (hN : zNok X Ls (zmkN [] [] [] [])) : zGoal (0, 9999, []) B0 Ls X 36 137 0 zql_248938 [] (zQh_14, 207, 0, 0) zqr_248938 :=
  zprep hA hN (fun q hq => (by
    rcases List.mem_cons.mp hq with e | hq
    · rw [e]
      exact (zqg_275204 hA hN)
    cases hq)) zqk_248938
