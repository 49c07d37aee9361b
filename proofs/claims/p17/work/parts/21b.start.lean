/-! The law from its entry to its end. -/
theorem zret1 {cc : ByteArray} {rt : Option FieldType} {pcR kd rty : Nat} (hc : zc_ret cc rt pcR kd rty = true) (hk : zrsk kd rty (some (0, 1)) = true) : decode cc pcR = .ok (.ireturn, 1) := by
  match kd, hk, hc with
  | 0, hk, _ => exact absurd (show false = true from hk) (by decide)
  | 1, _, hc => exact (of_decide_eq_true hc).1
  | 2, hk, _ => exact absurd (show false = true from hk) (by decide)
  | 3, hk, _ => exact absurd (show false = true from hk) (by decide)
  | k + 4, hk, _ => exact absurd (show false = true from hk) (by decide)
theorem zst_off {l : Launch} (h : l.flags = flags0) : l.stackTraces = false := by
  unfold Launch.stackTraces
  rw [h]
  decide
theorem zlaw_run {p : Program} {e : Env} {s : State} {m : MethodId} {below : List Frame} {meth : Method} {c : Code} (l : Launch) (hst : l.stackTraces = false) {b L : Nat} {xs : Nat → Int32} (hL : L ≤ 260) (C0 : lw_At p s m meth c b L xs) : W p l e room_1 s m #[Value.ref b] below meth c s.heap [] 0 0 (lw_Z below #[Value.ref b] s) (entryFrame m ([Value.ref b] : List Value).toArray 7) := by
  obtain ⟨X, hX0, hXx, hK, hSF⟩ := zlaw_facts C0
  obtain ⟨hx, hb, hr, hml, hown, hts, hX, hbl, hlk, hgv⟩ := C0
  have F : zFr s.heap.size L X 0 45 p l room_1 s m #[Value.ref b] meth c := ⟨⟨hx, hb, hml, hown, fun w hw => hts w (zW_in hw), hlk, hK, hSF, Nat.le_refl _, hst⟩, fun h => absurd h (by decide), by decide, by decide, fun h => absurd rfl h, hr⟩
  have go := zLaw zAll_ok (ad0 := fun _ => 0) (n0 := 0) (e := e) (below := below) (Q := lw_Z below #[Value.ref b] s) (Nat.le_trans hL (by decide)) F (show 300 ≤ room_1.cells by decide) (show 700000 ≤ room_1.slots by decide) (fun S G pcR L' kd rty hc hk g1 g2 => by
    intro ad hag H locs ls sv hW hS hLc hT
    obtain ⟨w, s1, e1, hv, e2⟩ := hT
    have e2 : s1 = [] := e2
    subst e2
    have hv : w = .int (nI 1) := hv
    subst hv
    subst e1
    have hd : decode code pcR = .ok (.ireturn, 1) := zret1 (cc := zm_cc 0) hc hk
    exact W.widen (Nat.le_trans g1 (by decide)) (Nat.le_trans g2 (by decide)) (va_forget (fun q hq => hS.2.2 q hq) (lw_ret hx hb hr hlk hd)))
  have hl := lv_entry ([.ref b]) (n := 7) (Nat.le_of_ble_eq_true rfl)
  show W p l e room_1 s m #[Value.ref b] below meth c s.heap [] 0 0 (lw_Z below #[Value.ref b] s) (entryFrame m ([Value.ref b] : List Value).toArray 7)
  rw [lg_entry_eq]
  refine go (fun _ => 0) ⟨Nat.le_refl _, fun _ _ => rfl⟩ s.heap [] _ [] ⟨[], rfl, fun k hk => absurd hk (Nat.not_lt_zero _), fun k q hk => by simp at hk, fun i j a c hi => by simp at hi, fun k q hk => by simp at hk⟩ va_S.rf ⟨hl.1, hl.2.1, fun i v hi => ?_⟩ rfl
  match i, hi with
  | 0, hi =>
    have hi : some (some ((4, 0) : ZV)) = some (some v) := hi
    cases hi
    exact ⟨.ref b, hl.2.2 (0, .ref b) (by simp [lv_args]), congrArg Value.ref hX0.symm⟩
  | 1, hi => exact absurd (show some (none : Option ZV) = some (some v) from hi) (by intro q; cases q)
  | 2, hi => exact absurd (show some (none : Option ZV) = some (some v) from hi) (by intro q; cases q)
  | 3, hi => exact absurd (show some (none : Option ZV) = some (some v) from hi) (by intro q; cases q)
  | 4, hi => exact absurd (show some (none : Option ZV) = some (some v) from hi) (by intro q; cases q)
  | 5, hi => exact absurd (show some (none : Option ZV) = some (some v) from hi) (by intro q; cases q)
  | 6, hi => exact absurd (show some (none : Option ZV) = some (some v) from hi) (by intro q; cases q)
  | n + 7, hi => exact absurd (show (none : Option (Option ZV)) = some (some v) from hi) (by intro q; cases q)
/-- YOUR PART: from the entry, for every script of at most 260 ints, the law comes to its end with true ('hflags': the launch's flags, for a law that throws: no stack traces) -/
theorem whole_start {p : Program} {e : Env} {s : State} {m : MethodId} {below : List Frame} {meth : Method} {c : Code} (l : Launch) (hflags : l.flags = flags0) {b L : Nat} {xs : Nat → Int32} (hL : L ≤ 260) (C0 : lw_At p s m meth c b L xs) : W p l e room_1 s m #[Value.ref b] below meth c s.heap [] 0 0 (lw_Z below #[Value.ref b] s) (entryFrame m ([Value.ref b] : List Value).toArray 7) := by
  exact zlaw_run l (zst_off hflags) hL C0
