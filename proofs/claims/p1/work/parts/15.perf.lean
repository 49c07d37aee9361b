noncomputable def ztest_L : ZL := [some (4, 0), none, none, none, none, none, none, none]
noncomputable def ztest_r : Option ZRes := zrun (fun _ => (0, 4294967295), some 2) 6 400000 20 0 0 ztest_L [] (z0, 0, 0, 0)
noncomputable def ztest_b : Bool := @Option.rec ZRes (fun _ => Bool) false (fun r => zif (Nat.beq r.1 0) (Nat.beq r.2.2.2.1 216) false) ztest_r
set_option maxRecDepth 100000 in
theorem ztest : ztest_b = true := by decide +kernel
