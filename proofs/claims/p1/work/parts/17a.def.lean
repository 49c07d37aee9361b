/-! What is asked of the two runs' ends. -/
noncomputable def zpEnd (o : Option ZRes) : Bool := @Option.rec ZRes (fun _ => Bool) false (fun r => zif (Nat.beq r.1 7777778) (zG_eqb r.2.2 zG0) false) o
noncomputable def zpreB (Ls : Nat) : Bool := zpEnd (zrunA zNf Ls 20000 20 0 0 zL0 [] (z0, 0, 0, 0))
noncomputable def zcEnd (o : Option ZRes) : Bool := @Option.rec ZRes (fun _ => Bool) false (fun r => zif (Nat.beq r.1 0) (zif (zo_eqb zv_eqb r.2.1 (some (0, 1))) (zif (Nat.ble r.2.2.2.2.1 430828) (Nat.ble r.2.2.2.2.2 7809752) false) false) false) o
noncomputable def zcasB (N : ZN) (Ls : Nat) : Bool := zcEnd (zrunB N Ls 400000 20 0 23 zLx [] zG0)
noncomputable def zNc (k lo hi : Nat) : ZN := (fun i => zif (Nat.beq i 1) (lo, hi) (0, 4294967295), some k)
theorem zpEnd_ok : ∀ o : Option ZRes, zpEnd o = true → ∃ v : Option ZV, o = some (7777778, v, zG0)
  | none, h => absurd (show false = true from h) (by decide)
  | some r, h => by
    obtain ⟨h1, h2⟩ := zif_and (show zif (Nat.beq r.1 7777778) (zG_eqb r.2.2 zG0) false = true from h)
    exact ⟨r.2.1, congrArg some (Prod.ext (zb_eq h1) (Prod.ext rfl (zG_eqb_ok h2)))⟩
theorem zcEnd_ok : ∀ o : Option ZRes, zcEnd o = true → ∃ r : ZRes, o = some r ∧ r.1 = 0 ∧ r.2.1 = some (0, 1) ∧ r.2.2.2.2.1 ≤ 430828 ∧ r.2.2.2.2.2 ≤ 7809752
  | none, h => absurd (show false = true from h) (by decide)
  | some r, h => by
    obtain ⟨h1, h2⟩ := zif_and (show zif (Nat.beq r.1 0) (zif (zo_eqb zv_eqb r.2.1 (some (0, 1))) (zif (Nat.ble r.2.2.2.2.1 430828) (Nat.ble r.2.2.2.2.2 7809752) false) false) false = true from h)
    obtain ⟨h3, h4⟩ := zif_and h2
    obtain ⟨h5, h6⟩ := zif_and h4
    exact ⟨r, rfl, zb_eq h1, zo_eqb_ok (fun _ _ => zv_eqb_ok) h3, zl_le h5, zl_le h6⟩
