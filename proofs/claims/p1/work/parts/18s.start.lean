/-! The law from its entry to its end. -/
theorem zst_off {l : Launch} (h : l.flags = flags0) : l.stackTraces = false := by
  unfold Launch.stackTraces
  rw [h]
  decide
theorem zlaw_run {p : Program} {e : Env} {s : State} {m : MethodId} {below : List Frame} {meth : Method} {c : Code} (l : Launch) (hst : l.stackTraces = false) {b L : Nat} {xs : Nat → Int32} (hL : L ≤ 6) (C0 : lw_At p s m meth c b L xs) : W p l e room_1 s m #[Value.ref b] below meth c s.heap [] 0 0 (lw_Z below #[Value.ref b] s) (entryFrame m ([Value.ref b] : List Value).toArray 8) := by
  obtain ⟨X, hX0, hXx, hK, hSF⟩ := zlaw_facts C0
  obtain ⟨hx, hb, hr, hml, hown, hts, hX, hbl, hlk, hgv⟩ := C0
  obtain ⟨N, hN, hcas⟩ := zcas_all (X := X) L hL
  obtain ⟨r, hrun, hr0, hr1, hr2, hr3⟩ := zcas_use hcas
  obtain ⟨v, hpre⟩ := zpre_use (zpre_all L hL)
  have F : zFr s.heap.size L X 0 20 p l room_1 s m #[Value.ref b] meth c := ⟨⟨hx, hb, hml, hown, fun w hw => hts w (zW_in hw), hlk, hK, hSF, Nat.le_refl _, hst⟩, fun h => absurd h (by decide), by decide, by decide, fun h => absurd rfl h, hr⟩
  have hC : ∀ (ad0 : Nat → Nat) (n0 : Nat), zCont s.heap.size X 0 ad0 n0 p l e room_1 s m #[Value.ref b] below meth c (lw_Z below #[Value.ref b] s) r := fun ad0 n0 => by
    refine ⟨fun _ pcR L' kd rty hc hk => ?_, fun h => absurd rfl h, fun _ h7 => by rw [hr0] at h7; cases h7⟩
    intro ad hag H locs ls sv hW hS hLc hT
    rw [hr1] at hT hk
    obtain ⟨w, s1, e1, hv, e2⟩ := hT
    have e2 : s1 = [] := e2
    subst e2
    have hv : w = .int (nI 1) := hv
    subst hv
    subst e1
    have hd : decode code pcR = .ok (.ireturn, 1) := zret1 (cc := zm_cc 0) hc hk
    exact W.widen hr2 hr3 (va_forget (fun q hq => hS.2.2 q hq) (lw_ret hx hb hr hlk hd))
  have hB := (zB_ok (B0 := s.heap.size) (Ls := L) hN 400000 20 0 23 zLx [] zG0 r hrun).2.2.2
  have hA := (zA_ok (B0 := s.heap.size) (Ls := L) (X := X) zNf_ok 20000 20 0 0 zL0 [] (z0, 0, 0, 0) _ hpre).2.2.2
  have go : zHd s.heap.size X (fun _ => 0) 0 p l e room_1 s m #[Value.ref b] below meth c (lw_Z below #[Value.ref b] s) (zm_nfo 0).1 0 zL0 [] (z0, 0, 0, 0) := hA (fun _ => 0) 0 p l e room_1 s m #[Value.ref b] below meth c _ F (show (216 : Nat) ≤ 430828 by decide) (show (3695057 : Nat) ≤ 7809752 by decide)
    ⟨fun h => absurd (show 7777778 = 0 from h) (by decide), fun h => absurd rfl h, fun _ _ => hB (fun _ => 0) 0 p l e room_1 s m #[Value.ref b] below meth c _ F hr2 hr3 (hC _ _)⟩
  have hl := lv_entry ([.ref b]) (n := 8) (Nat.le_of_ble_eq_true rfl)
  show W p l e room_1 s m #[Value.ref b] below meth c s.heap [] 0 0 (lw_Z below #[Value.ref b] s) (entryFrame m ([Value.ref b] : List Value).toArray 8)
  rw [lg_entry_eq]
  refine go (fun _ => 0) ⟨Nat.le_refl _, fun _ _ => rfl⟩ s.heap [] _ [] ⟨[], rfl, fun k hk => absurd hk (Nat.not_lt_zero _), fun k q hk => by simp at hk, fun i j a c hi => by simp at hi, fun k q hk => by simp at hk⟩ va_S.rf ⟨hl.1, hl.2.1, fun i v hi => ?_⟩ rfl
  match i, hi with
  | 0, hi =>
    have hi : some (some ((4, 0) : ZV)) = some (some v) := hi
    cases hi
    exact ⟨.ref b, hl.2.2 (0, .ref b) (by simp [lv_args]), congrArg Value.ref hX0.symm⟩
  | 1, hi => exact absurd (show some (none : Option ZV) = some (some v) from hi) (by intro q; cases q)
  | 2, hi => exact absurd (show some (none : Option ZV) = some (some v) from hi) (by intro q; cases q)
  | 3, hi => exact absurd (show some (none : Option ZV) = some (some v) from hi) (by intro q; cases q)
  | 4, hi => exact absurd (show some (none : Option ZV) = some (some v) from hi) (by intro q; cases q)
  | 5, hi => exact absurd (show some (none : Option ZV) = some (some v) from hi) (by intro q; cases q)
  | 6, hi => exact absurd (show some (none : Option ZV) = some (some v) from hi) (by intro q; cases q)
  | 7, hi => exact absurd (show some (none : Option ZV) = some (some v) from hi) (by intro q; cases q)
  | n + 8, hi => exact absurd (show (none : Option (Option ZV)) = some (some v) from hi) (by intro q; cases q)
