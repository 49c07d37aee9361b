/-! Constants, locals, numbers, branches: each a function of the picture, and the row that it stands for. -/
abbrev ZN : Type := (Nat → ZI) × Option Nat
def zNok (X : ZX) (N : ZN) : Prop := (∀ j, zin (N.1 j) (zkI (X.2.2.2 j))) ∧ ∀ k, N.2 = some k → X.2.2.2 0 &&& 15 = nI k
noncomputable def zln (L : ZL) : Nat → Option ZV := @List.rec (Option ZV) (fun _ => Nat → Option ZV) (fun _ => none) (fun v _ ih i => @Nat.rec (fun _ => Option ZV) v (fun j _ => ih j) i) L
noncomputable def zls (L : ZL) : Nat → Option ZV → ZL := @List.rec (Option ZV) (fun _ => Nat → Option ZV → ZL) (fun _ _ => []) (fun v L' ih i x => @Nat.rec (fun _ => ZL) (x :: L') (fun j _ => v :: ih j x) i) L
theorem zln_ok : ∀ (L : ZL) (i : Nat) (v : ZV), zln L i = some v ↔ L[i]? = some (some v)
  | [], i, v => ⟨fun h => absurd (show (none : Option ZV) = some v from h) (by intro z; cases z), fun h => by simp at h⟩
  | a :: L, 0, v => ⟨fun h => by rw [List.getElem?_cons_zero]; exact congrArg some h, fun h => by rw [List.getElem?_cons_zero] at h; exact Option.some.inj h⟩
  | a :: L, i + 1, v => by
    rw [List.getElem?_cons_succ]
    exact zln_ok L i v
theorem zls_self : ∀ (L : ZL) (i : Nat) (x v : Option ZV), (zls L i x)[i]? = some v → v = x
  | [], i, x, v, h => by simp [zls] at h
  | a :: L, 0, x, v, h => by
    have h : (x :: L)[0]? = some v := h
    rw [List.getElem?_cons_zero] at h
    exact (Option.some.inj h).symm
  | a :: L, i + 1, x, v, h => by
    have h : (a :: zls L i x)[i + 1]? = some v := h
    rw [List.getElem?_cons_succ] at h
    exact zls_self L i x v h
theorem zls_ne : ∀ (L : ZL) (i j : Nat) (x : Option ZV), j ≠ i → (zls L i x)[j]? = L[j]?
  | [], i, j, x, h => rfl
  | a :: L, 0, 0, x, h => absurd rfl h
  | a :: L, 0, j + 1, x, h => by
    show (x :: L)[j + 1]? = _
    rw [List.getElem?_cons_succ, List.getElem?_cons_succ]
  | a :: L, i + 1, 0, x, h => by
    show (a :: zls L i x)[0]? = _
    rw [List.getElem?_cons_zero, List.getElem?_cons_zero]
  | a :: L, i + 1, j + 1, x, h => by
    show (a :: zls L i x)[j + 1]? = _
    rw [List.getElem?_cons_succ, List.getElem?_cons_succ]
    exact zls_ne L i j x (by omega)
def zkd (kind : Nat) (v : ZV) : Bool := match kind with
  | 0 => zint v
  | 1 => zref v
  | 2 => zlong v
  | _ => false
def zs32 (u : Nat) : Int := if u < 2147483648 then (u : Int) else (u : Int) - 4294967296
/-- all that the locals hold -/
def zlv (ls : Array Slot) (n : Nat) : List (Nat × Value) := (List.range n).filterMap fun j => match (ls[j]? : Option Slot) with
  | some (Slot.val w) => some (j, w)
  | _ => none
theorem zlv_in {ls : Array Slot} {n j : Nat} {w : Value} (hj : j < n) (h : ls[j]? = some (.val w)) : (j, w) ∈ zlv ls n := by
  unfold zlv
  rw [List.mem_filterMap]
  exact ⟨j, List.mem_range.mpr hj, by rw [h]⟩
theorem zlv_has {ls : Array Slot} {n : Nat} (hs : ls.size = n) (hw : lv_wf ls) : lv_has ls n (zlv ls n) := by
  refine ⟨hs, hw, fun q hq => ?_⟩
  unfold zlv at hq
  rw [List.mem_filterMap] at hq
  obtain ⟨j, -, h⟩ := hq
  split at h
  · rename_i w hw'
    cases h
    exact hw'
  · cases h
theorem zlt_size {ls : Array Slot} {i : Nat} {x : Slot} (h : ls[i]? = some x) : i < ls.size := (Array.getElem?_eq_some_iff.mp h).1
section ZS
variable {B0 Ls : Nat} {X : ZX} {p : Program} {l : Launch} {e : Env} {R : Room} {s : State} {m : MethodId} {args : Array Value} {below : List Frame} {meth : Method} {c : Code} {Q : State → Prop} {own : String} {cc : ByteArray} {nL : Nat} {ad0 : Nat → Nat} {n0 : Nat}
/-- 0 iconst, 1 bipush, 2 sipush, 3 ldc, 4 ldc_w, 5 lconst, 6 aconst_null, 7 ldc of a text, 8 ldc2_w -/
def zc_push (own : String) (cc : ByteArray) (pc nx t u f i q : Nat) : Bool := match f with
  | 0 => decide (t = 0 ∧ nx = pc + 1 ∧ Int32.ofInt (zs32 u) = nI u ∧ decode cc pc = .ok (.iconst (zs32 u), 1))
  | 1 => decide (t = 0 ∧ nx = pc + 2 ∧ (Int8.ofInt (zs32 u)).toInt32 = nI u ∧ decode cc pc = .ok (.bipush (zs32 u), 2))
  | 2 => decide (t = 0 ∧ nx = pc + 3 ∧ (Int16.ofInt (zs32 u)).toInt32 = nI u ∧ decode cc pc = .ok (.sipush (zs32 u), 3))
  | 3 => decide (t = 0 ∧ nx = pc + 2 ∧ decode cc pc = .ok (.ldc i, 2)) && zwx q (.constant own i (nI u))
  | 4 => decide (t = 0 ∧ nx = pc + 3 ∧ decode cc pc = .ok (.ldc_w i, 3)) && zwx q (.constant own i (nI u))
  | 5 => decide (t = 1 ∧ nx = pc + 1 ∧ ((u = 0 ∧ decode cc pc = .ok (.lconst 0, 1)) ∨ (u = 1 ∧ decode cc pc = .ok (.lconst 1, 1))))
  | 6 => decide (t = 2 ∧ nx = pc + 1 ∧ decode cc pc = .ok (.aconst_null, 1))
  | 7 => decide (t = 4 ∧ nx = pc + 2 ∧ (zq_ld q).map (fun z => (z.1, z.2.1, z.2.2.2)) = some (own, i, u) ∧ decode cc pc = .ok (.ldc i, 2))
  | 8 => decide (t = 1 ∧ nx = pc + 3 ∧ decode cc pc = .ok (.ldc2_w i, 3)) && zwx q (.constantLong own i (lN u))
  | _ => false
theorem zs_push {pc nx t u f i q : Nat} {L : ZL} {st : List ZV} {G : ZG} (F : zF B0 Ls X p l s m args meth c own cc nL) (hc : zc_push own cc pc nx t u f i q = true) (h : zHd B0 X ad0 n0 p l e R s m args below meth c Q nL nx L ((t, u) :: st) G) : zHd B0 X ad0 n0 p l e R s m args below meth c Q nL pc L st G := by
  have use : ∀ {pos : Nat} {w : Jvm.Cond}, zwx pos w = true → w.before args s = true := fun h => zF_use F h
  obtain ⟨hx, hb, hml, hown, hts, hlk, hK, hF, hB, hst⟩ := F
  intro ad hag H locs ls sv hW hS hL hT
  have go : ∀ w : Value, zv X ad G.2.1 (t, u) w → W p l e R s m args below meth c H locs G.2.2.1 G.2.2.2 Q (F0 m nx ls (w :: sv)) := fun w hw => h ad hag H locs ls (w :: sv) hW hS hL ⟨w, sv, rfl, hw, hT⟩
  unfold zc_push at hc
  split at hc
  · obtain ⟨rfl, rfl, h1, hd⟩ := of_decide_eq_true hc
    exact lv_iconst hx hb hd h1 (go _ rfl)
  · obtain ⟨rfl, rfl, h1, hd⟩ := of_decide_eq_true hc
    exact lv_bipush hx hb hd h1 (go _ rfl)
  · obtain ⟨rfl, rfl, h1, hd⟩ := of_decide_eq_true hc
    exact lv_sipush hx hb hd h1 (go _ rfl)
  · rw [Bool.and_eq_true] at hc
    obtain ⟨rfl, rfl, hd⟩ := of_decide_eq_true hc.1
    exact lv_ldc hx hb hown (use hc.2) hd (go _ rfl)
  · rw [Bool.and_eq_true] at hc
    obtain ⟨rfl, rfl, hd⟩ := of_decide_eq_true hc.1
    exact lv_ldcw hx hb hown (use hc.2) hd (go _ rfl)
  · obtain ⟨rfl, rfl, ⟨rfl, hd⟩ | ⟨rfl, hd⟩⟩ := of_decide_eq_true hc
    · exact lv_lconst hx hb hd rfl (go _ rfl)
    · exact lv_lconst hx hb hd rfl (go _ rfl)
  · obtain ⟨rfl, rfl, hd⟩ := of_decide_eq_true hc
    exact lv_null hx hb hd (go _ rfl)
  · obtain ⟨rfl, rfl, hq, hd⟩ := of_decide_eq_true hc
    cases hz : zq_ld q with
    | none => rw [hz] at hq; cases hq
    | some z =>
      obtain ⟨o1, i1, tx, x1⟩ := z
      rw [hz] at hq
      cases hq
      exact va_ldcS hx hb hown (hF.2.2.2.1 q _ _ tx _ hz) hd (go _ rfl)
  · rw [Bool.and_eq_true] at hc
    obtain ⟨rfl, rfl, hd⟩ := of_decide_eq_true hc.1
    exact lv_ldc2 hx hb hown (use hc.2) hd (go _ rfl)
  · cases hc
noncomputable def zo_push (k : ZK) (nx t u : Nat) (L : ZL) (st : List ZV) (G : ZG) : Option ZRes := k nx L ((t, u) :: st) G
/-- a local: kind 0 an int, 1 a reference, 2 a long -/
def zc_load (cc : ByteArray) (pc nx i kind f : Nat) : Bool := match f, kind with
  | 0, 0 => decide (nx = pc + 1 ∧ ∃ h : i < 4, decode cc pc = .ok (.iload_n ⟨i, h⟩, 1))
  | 0, 1 => decide (nx = pc + 1 ∧ ∃ h : i < 4, decode cc pc = .ok (.aload_n ⟨i, h⟩, 1))
  | 0, 2 => decide (nx = pc + 1 ∧ ∃ h : i < 4, decode cc pc = .ok (.lload_n ⟨i, h⟩, 1))
  | 1, 0 => decide (nx = pc + 2 ∧ decode cc pc = .ok (.iload i, 2))
  | 1, 1 => decide (nx = pc + 2 ∧ decode cc pc = .ok (.aload i, 2))
  | 1, 2 => decide (nx = pc + 2 ∧ decode cc pc = .ok (.lload i, 2))
  | _, _ => false
noncomputable def zo_load (k : ZK) (nx i kind : Nat) (L : ZL) (st : List ZV) (G : ZG) : Option ZRes := zob (zln L i) fun v => zif (zkd kind v) (k nx L (v :: st) G) none
theorem zs_load {pc nx i kind f : Nat} {v : ZV} {L : ZL} {st : List ZV} {G : ZG} (F : zF B0 Ls X p l s m args meth c own cc nL) (hc : zc_load cc pc nx i kind f = true) (hv : zln L i = some v) (hk : zkd kind v = true) (h : zHd B0 X ad0 n0 p l e R s m args below meth c Q nL nx L (v :: st) G) : zHd B0 X ad0 n0 p l e R s m args below meth c Q nL pc L st G := by
  obtain ⟨hx, hb, hml, hown, hts, hlk, hK, hF, hB, hst⟩ := F
  intro ad hag H locs ls sv hW hS hL hT
  obtain ⟨w, hlw, hw⟩ := hL.2.2 i v ((zln_ok L i v).mp hv)
  have go : W p l e R s m args below meth c H locs G.2.2.1 G.2.2.2 Q (F0 m nx ls (w :: sv)) := h ad hag H locs ls (w :: sv) hW hS hL ⟨w, sv, rfl, hw, hT⟩
  unfold zc_load at hc
  split at hc
  · obtain ⟨rfl, h4, hd⟩ := of_decide_eq_true hc
    obtain ⟨x, rfl⟩ := zint_ok hk hw
    exact lv_iload_n hx hb hd rfl hlw go
  · obtain ⟨rfl, h4, hd⟩ := of_decide_eq_true hc
    rcases zref_ok hk hw with rfl | ⟨a, rfl⟩
    · exact lv_aload_nN hx hb hd rfl hlw go
    · exact lv_aload_n hx hb hd rfl hlw go
  · obtain ⟨rfl, h4, hd⟩ := of_decide_eq_true hc
    obtain ⟨x, rfl⟩ := zlong_ok hk hw
    exact lv_lload_n hx hb hd rfl hlw go
  · obtain ⟨rfl, hd⟩ := of_decide_eq_true hc
    obtain ⟨x, rfl⟩ := zint_ok hk hw
    exact lv_iload hx hb hd hlw go
  · obtain ⟨rfl, hd⟩ := of_decide_eq_true hc
    rcases zref_ok hk hw with rfl | ⟨a, rfl⟩
    · exact lv_aloadN hx hb hd hlw go
    · exact lv_aload hx hb hd hlw go
  · obtain ⟨rfl, hd⟩ := of_decide_eq_true hc
    obtain ⟨x, rfl⟩ := zlong_ok hk hw
    exact lv_lload hx hb hd hlw go
  · cases hc
/-- a local is written: what a long had begun there, or just before, is lost -/
noncomputable def zcut (L : ZL) (i : Nat) : Bool := @Nat.rec (fun _ => Bool) true (fun j _ => @Option.rec ZV (fun _ => Bool) true (fun v => zif (zlong v) false true) (zln L j)) i
theorem zcut_ok {L : ZL} {j : Nat} {v : ZV} (h : zcut L (j + 1) = true) (hv : zln L j = some v) : zlong v = false := by
  have h : @Option.rec ZV (fun _ => Bool) true (fun v => zif (zlong v) false true) (zln L j) = true := h
  rw [hv] at h
  cases e : zlong v with
  | false => rfl
  | true =>
    have h : zif (zlong v) false true = true := h
    rw [e] at h
    cases h
theorem zkeep1 {ad : Nat → Nat} {n i : Nat} {ls ls' : Array Slot} {L : ZL} {v : ZV} {w : Value} (hL : zLc X ad n ls nL L) (hi : zcut L i = true) (hw : zv X ad n v w) (h' : lv_has ls' nL ((i, w) :: (zlv ls nL).filter (fun q => !(q.1 == i) && !(q.1 + 1 == i && q.2.category == 2)))) : zLc X ad n ls' nL (zls L i (some v)) := by
  refine ⟨h'.1, h'.2.1, fun j u hu => ?_⟩
  by_cases hj : j = i
  · subst hj
    have e := zls_self L j (some v) _ hu
    cases e
    exact ⟨w, h'.2.2 (j, w) List.mem_cons_self, hw⟩
  · rw [zls_ne L i j _ hj] at hu
    obtain ⟨w1, h1, h2⟩ := hL.2.2 j u hu
    refine ⟨w1, h'.2.2 (j, w1) (List.mem_cons_of_mem _ (List.mem_filter.mpr ⟨zlv_in (by rw [← hL.1]; exact zlt_size h1) h1, ?_⟩)), h2⟩
    have e1 : (j == i) = false := by simp [hj]
    by_cases h3 : j + 1 = i
    · subst h3
      have e2 := zcut_ok hi ((zln_ok L j u).mpr hu)
      have e3 := zv_cat h2
      rw [e2] at e3
      simp [e3]
    · simp [hj, h3]
theorem zkeep2 {ad : Nat → Nat} {n i : Nat} {ls ls' : Array Slot} {L : ZL} {v : ZV} {w : Value} (hL : zLc X ad n ls nL L) (hi : zcut L i = true) (hw : zv X ad n v w) (h' : lv_has ls' nL ((i, w) :: (zlv ls nL).filter (fun q => !(q.1 == i) && (!(q.1 == i + 1) && !(q.1 + 1 == i && q.2.category == 2))))) : zLc X ad n ls' nL (zls (zls L i (some v)) (i + 1) none) := by
  refine ⟨h'.1, h'.2.1, fun j u hu => ?_⟩
  by_cases hj1 : j = i + 1
  · subst hj1
    have e := zls_self _ (i + 1) none _ hu
    cases e
  · rw [zls_ne _ (i + 1) j _ hj1] at hu
    by_cases hj : j = i
    · subst hj
      have e := zls_self L j (some v) _ hu
      cases e
      exact ⟨w, h'.2.2 (j, w) List.mem_cons_self, hw⟩
    · rw [zls_ne L i j _ hj] at hu
      obtain ⟨w1, h1, h2⟩ := hL.2.2 j u hu
      refine ⟨w1, h'.2.2 (j, w1) (List.mem_cons_of_mem _ (List.mem_filter.mpr ⟨zlv_in (by rw [← hL.1]; exact zlt_size h1) h1, ?_⟩)), h2⟩
      by_cases h3 : j + 1 = i
      · subst h3
        have e2 := zcut_ok hi ((zln_ok L j u).mpr hu)
        have e3 := zv_cat h2
        rw [e2] at e3
        simp [e3]
        try omega
      · simp [hj, h3, hj1]
def zc_store (cc : ByteArray) (nL pc nx i kind f : Nat) : Bool := match f, kind with
  | 0, 0 => decide (nx = pc + 1 ∧ i < nL ∧ ∃ h : i < 4, decode cc pc = .ok (.istore_n ⟨i, h⟩, 1))
  | 0, 1 => decide (nx = pc + 1 ∧ i < nL ∧ ∃ h : i < 4, decode cc pc = .ok (.astore_n ⟨i, h⟩, 1))
  | 0, 2 => decide (nx = pc + 1 ∧ i + 1 < nL ∧ ∃ h : i < 4, decode cc pc = .ok (.lstore_n ⟨i, h⟩, 1))
  | 1, 0 => decide (nx = pc + 2 ∧ i < nL ∧ decode cc pc = .ok (.istore i, 2))
  | 1, 1 => decide (nx = pc + 2 ∧ i < nL ∧ decode cc pc = .ok (.astore i, 2))
  | 1, 2 => decide (nx = pc + 2 ∧ i + 1 < nL ∧ decode cc pc = .ok (.lstore i, 2))
  | _, _ => false
noncomputable def zput (L : ZL) (i kind : Nat) (v : ZV) : ZL := zif (Nat.beq kind 2) (zls (zls L i (some v)) (i + 1) none) (zls L i (some v))
noncomputable def zo_store (k : ZK) (nx i kind : Nat) (L : ZL) (st : List ZV) (G : ZG) : Option ZRes := match st with
  | v :: r => zif (zkd kind v) (zif (zcut L i) (k nx (zput L i kind v) r G) none) none
  | [] => none
theorem zs_store {pc nx i kind f : Nat} {v : ZV} {L : ZL} {r : List ZV} {G : ZG} (F : zF B0 Ls X p l s m args meth c own cc nL) (hc : zc_store cc nL pc nx i kind f = true) (hk : zkd kind v = true) (hi : zcut L i = true) (h : zHd B0 X ad0 n0 p l e R s m args below meth c Q nL nx (zput L i kind v) r G) : zHd B0 X ad0 n0 p l e R s m args below meth c Q nL pc L (v :: r) G := by
  obtain ⟨hx, hb, hml, hown, hts, hlk, hK, hF, hB, hst⟩ := F
  intro ad hag H locs ls sv hW hS hL hT
  obtain ⟨w, sr, rfl, hw, hr⟩ := hT
  have hlv := zlv_has hL.1 hL.2.1
  unfold zc_store at hc
  split at hc
  · obtain ⟨rfl, hn, h4, hd⟩ := of_decide_eq_true hc
    obtain ⟨x, rfl⟩ := zint_ok hk hw
    exact lv_istore_n hx hb hd rfl hlv hn rfl fun ls' h' => h ad hag H locs ls' sr hW hS (zkeep1 hL hi hw h') hr
  · obtain ⟨rfl, hn, h4, hd⟩ := of_decide_eq_true hc
    rcases zref_ok hk hw with rfl | ⟨a, rfl⟩
    · exact lv_astore_nN hx hb hd rfl hlv hn rfl fun ls' h' => h ad hag H locs ls' sr hW hS (zkeep1 hL hi hw h') hr
    · exact lv_astore_n hx hb hd rfl hlv hn rfl fun ls' h' => h ad hag H locs ls' sr hW hS (zkeep1 hL hi hw h') hr
  · obtain ⟨rfl, hn, h4, hd⟩ := of_decide_eq_true hc
    obtain ⟨x, rfl⟩ := zlong_ok hk hw
    exact lv_lstore_n hx hb hd rfl hlv hn rfl fun ls' h' => h ad hag H locs ls' sr hW hS (zkeep2 hL hi hw h') hr
  · obtain ⟨rfl, hn, hd⟩ := of_decide_eq_true hc
    obtain ⟨x, rfl⟩ := zint_ok hk hw
    exact lv_istore hx hb hd hlv hn rfl fun ls' h' => h ad hag H locs ls' sr hW hS (zkeep1 hL hi hw h') hr
  · obtain ⟨rfl, hn, hd⟩ := of_decide_eq_true hc
    rcases zref_ok hk hw with rfl | ⟨a, rfl⟩
    · exact lv_astoreN hx hb hd hlv hn rfl fun ls' h' => h ad hag H locs ls' sr hW hS (zkeep1 hL hi hw h') hr
    · exact lv_astore hx hb hd hlv hn rfl fun ls' h' => h ad hag H locs ls' sr hW hS (zkeep1 hL hi hw h') hr
  · obtain ⟨rfl, hn, hd⟩ := of_decide_eq_true hc
    obtain ⟨x, rfl⟩ := zlong_ok hk hw
    exact lv_lstore hx hb hd hlv hn rfl fun ls' h' => h ad hag H locs ls' sr hW hS (zkeep2 hL hi hw h') hr
  · cases hc
/-- iinc of a known int -/
def zc_iinc (cc : ByteArray) (nL pc nx i u : Nat) : Bool := decide (nx = pc + 3 ∧ i < nL ∧ Int32.ofInt (zs32 u) = nI u ∧ decode cc pc = .ok (.iinc i (zs32 u), 3))
noncomputable def zo_iinc (k : ZK) (nx i u : Nat) (L : ZL) (st : List ZV) (G : ZG) : Option ZRes := zob (zln L i) fun v => zif (Nat.beq v.1 0) (zif (zcut L i) (k nx (zls L i (some (0, Nat.mod (Nat.add v.2 u) 4294967296))) st G) none) none
theorem zs_iinc {pc nx i u x : Nat} {L : ZL} {st : List ZV} {G : ZG} (F : zF B0 Ls X p l s m args meth c own cc nL) (hc : zc_iinc cc nL pc nx i u = true) (hv : zln L i = some (0, x)) (hi : zcut L i = true) (h : zHd B0 X ad0 n0 p l e R s m args below meth c Q nL nx (zls L i (some (0, Nat.mod (Nat.add x u) 4294967296))) st G) : zHd B0 X ad0 n0 p l e R s m args below meth c Q nL pc L st G := by
  obtain ⟨hx, hb, hml, hown, hts, hlk, hK, hF, hB, hst⟩ := F
  intro ad hag H locs ls sv hW hS hL hT
  obtain ⟨w, hlw, hw⟩ := hL.2.2 i _ ((zln_ok L i _).mp hv)
  have hw : w = .int (nI x) := hw
  subst hw
  obtain ⟨rfl, hn, h1, hd⟩ := of_decide_eq_true hc
  obtain ⟨k, hk⟩ := List.getElem?_of_mem (zlv_in hn hlw)
  exact lv_iinc hx hb hd (zlv_has hL.1 hL.2.1) hk (by rw [h1]; exact zia x u) hn rfl fun ls' h' => h ad hag H locs ls' sv hW hS (zkeep1 hL hi (v := (0, Nat.mod (Nat.add x u) 4294967296)) rfl h') hT
end ZS
