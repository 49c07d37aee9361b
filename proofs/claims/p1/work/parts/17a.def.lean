/-! Printed by wip/vi/gen6.py: the law's run up to its loop, and its cases from there, by evaluation. -/
noncomputable def zpreB (Ls : Nat) : Bool := @Option.rec ZRes (fun _ => Bool) false (fun r => zif (Nat.beq r.1 7777778) (zG_eqb r.2.2 zG0) false) (zrunA zNf Ls 20000 20 0 0 zL0 [] (z0, 0, 0, 0))
noncomputable def zcasB (N : ZN) (Ls : Nat) : Bool := @Option.rec ZRes (fun _ => Bool) false (fun r => zif (Nat.beq r.1 0) (zif (zo_eqb zv_eqb r.2.1 (some (0, 1))) (zif (Nat.ble r.2.2.2.2.1 430828) (Nat.ble r.2.2.2.2.2 7809752) false) false) false) (zrunB N Ls 400000 20 0 23 zLx [] zG0)
noncomputable def zNc (k lo hi : Nat) : ZN := (fun i => zif (Nat.beq i 1) (lo, hi) (0, 4294967295), some k)
