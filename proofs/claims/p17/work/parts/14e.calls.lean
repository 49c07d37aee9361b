/-! Calls, of all forms. -/
noncomputable def zcf (md form : Nat) : Bool := decide (0 < md ∧ md ≤ zMN) && (match form with
  | 0 => decide ((zm_nfo md).2.2 ≠ 200) && !zini md
  | 1 => decide ((zm_nfo md).2.2 = 200)
  | 2 => decide ((zm_nfo md).2.2 ≠ 200) && zini md && (zm_hx md).isNone && decide (zm_ret md = none)
  | 3 => decide ((zm_nfo md).2.2 ≠ 200) && zini md && (zm_hx md).isNone && decide (zm_ret md = none)
  | 4 => decide ((zm_nfo md).2.2 ≠ 200) && !zini md && (zm_hx md).isNone
  | _ => decide ((zm_nfo md).2.2 = 200) && (zm_hx md).isNone)
noncomputable def zmok2 (mid : Nat) : Bool := zt_all (fun _ en => match en with
  | (25, _, [md, form, _, _]) => zcf md form
  | _ => true) 12 (zm_code mid) 0 1
theorem zmk_a {md : Nat} (h : zmk md = true) : ((zm_nfo md).1 ≤ 45 ∧ (parseMethodDescriptor (zm_y md).desc).map (fun d => d.parameters.length) = some (zm_nfo md).2.1 ∧ (zm_y md).cls ≠ "java/lang/invoke/MethodHandle" ∧ (zm_y md).cls ≠ "java/lang/invoke/VarHandle") ∧ zmk_hd md (zm_nfo md).1 ∈ zW ∧ Cond.initialized (zm_y md).cls ∈ zW := by
  unfold zmk at h
  have h1 := (Bool.and_eq_true _ _).mp h
  have h2 := (Bool.and_eq_true _ _).mp h1.1
  have h3 := (Bool.and_eq_true _ _).mp h2.1
  have h4 := (Bool.and_eq_true _ _).mp h3.1
  exact ⟨of_decide_eq_true h4.1, zwk_ok h3.2, zwk_ok h2.2⟩
theorem zmk_s {md : Nat} (h : zmk md = true) (hn : (zm_nfo md).2.2 = 200) : Cond.static (zm_y md) ∈ zW := by
  unfold zmk at h
  have h1 := ((Bool.and_eq_true _ _).mp h).2
  rw [hn] at h1
  exact zwk_ok h1
theorem zmk_i {md : Nat} (h : zmk md = true) (hn : (zm_nfo md).2.2 ≠ 200) : Cond.instanceMethod (zm_y md) ∈ zW ∧ (zini md = false → Cond.selects (zm_y md).cls (zm_y md) (zm_y md) ∈ zW ∧ ((zm_nfo md).2.2 = 100 → (zm_y md).cls = "java/lang/String") ∧ ((zm_nfo md).2.2 ≠ 100 → (zcl[(zm_nfo md).2.2]?).map (fun q => q.1) = some (zm_y md).cls)) := by
  unfold zmk at h
  have h1 := ((Bool.and_eq_true _ _).mp h).2
  generalize (zm_nfo md).2.2 = ci at h1 hn ⊢
  split at h1
  · exact absurd rfl hn
  · have h1 := (Bool.and_eq_true _ _).mp h1
    refine ⟨zwk_ok h1.1, fun hi => ?_⟩
    rcases (Bool.or_eq_true _ _).mp h1.2 with k | k
    · rw [hi] at k
      cases k
    · have k := (Bool.and_eq_true _ _).mp k
      refine ⟨zwk_ok k.1, fun e => ?_, fun e => ?_⟩
      · subst e
        exact of_decide_eq_true k.2
      · have k2 := k.2
        split at k2
        · exact absurd rfl e
        · exact of_decide_eq_true k2
theorem zst_len {P : ZV → Value → Prop} : ∀ (as : List ZV) (vs : List Value), zSt P as vs → as.length = vs.length
  | [], vs, h => by
    have h : vs = [] := h
    subst h
    rfl
  | a :: as, vs, h => by
    obtain ⟨w, s1, rfl, hw, hr⟩ := h
    rw [List.length_cons, List.length_cons, zst_len as s1 hr]
section ZS
variable {B0 Ls : Nat} {X : ZX} {p : Program} {l : Launch} {e : Env} {R : Room} {s : State} {m : MethodId} {args : Array Value} {below : List Frame} {meth : Method} {c : Code} {Q : State → Prop}
/-- the object that a method is called on -/
theorem zrecv_ok {md form : Nat} {ad : Nat → Nat} {G : ZG} {as : List ZV} {vals : List Value} {H : Heap} {locs : List Loc} (hmk : zmk md = true) (hf : form = 0 ∨ form = 4) (hn : (zm_nfo md).2.2 ≠ 200) (hi : zini md = false) (hr : zrecv form (zm_nfo md).2.2 as G = true) (hW : zW1 B0 X ad G H) (hS : va_S (zA B0) s.heap H locs) (hK : va_K X.1 zcl (ztys X) s) (hF : zSF B0 Ls X s) (hv : zSt (zv X ad G.2.1) as vals) :
    ∃ (b : Nat) (As : List Value), vals = .ref b :: As ∧ ∃ cell : Cell, H[b]? = some cell ∧ cell.vm.isStatics = false ∧ s.vm.findClass (zm_y md).cls = some cell.cls := by
  obtain ⟨-, k⟩ := zmk_i hmk hn
  obtain ⟨-, k1, k2⟩ := k hi
  have h1 : zstf form = false := by rcases hf with rfl | rfl <;> rfl
  have h2 : Nat.beq form 2 = false := by rcases hf with rfl | rfl <;> rfl
  have h3 : Nat.beq form 3 = false := by rcases hf with rfl | rfl <;> rfl
  unfold zrecv at hr
  rw [h1, h2, h3] at hr
  cases as with
  | nil =>
    have hr : false = true := hr
    cases hr
  | cons o as' =>
    have hr : zif (Nat.beq o.1 3) (@Option.rec ZO (fun _ => Bool) false (fun ob => zif (Nat.ble ob.1 49) (Nat.beq ob.1 (zm_nfo md).2.2) false) (zt_get 10 G.1 o.2))
        (zif (Nat.beq form 0) (zif (Nat.beq o.1 4) (zif (Nat.beq (zm_nfo md).2.2 100) (@Option.rec Nat (fun _ => Bool) false (fun _ => true) (zq_xs o.2)) false) false) false) = true := hr
    obtain ⟨w, As, rfl, hw, -⟩ := hv
    rcases zif_or hr with ⟨e1, h⟩ | ⟨e1, h⟩
    · have e1 := zb_eq e1
      obtain ⟨t, u⟩ := o
      have e1 : t = 3 := e1
      subst e1
      obtain ⟨hlt, rfl⟩ := hw
      obtain ⟨ws, g1, g2, g3, g4⟩ := hW
      obtain ⟨ob, en, q1, q2, q3⟩ := g2 u hlt
      have h : (@Option.rec ZO (fun _ => Bool) false (fun ob => zif (Nat.ble ob.1 49) (Nat.beq ob.1 (zm_nfo md).2.2) false) (zt_get 10 G.1 u)) = true := h
      rw [q1] at h
      obtain ⟨h4, h5⟩ := zif_and (show zif (Nat.ble ob.1 49) (Nat.beq ob.1 (zm_nfo md).2.2) false = true from h)
      have h4 := zl_le h4
      have h5 := zb_eq h5
      refine ⟨ad u, As, rfl, ?_⟩
      have q3 := zob0_of q3 (by omega)
      rcases q3 with ⟨-, ⟨C, T, hcl⟩, fs, he, -⟩ | ⟨hh, -⟩ | ⟨hh, -⟩ | ⟨hh, -⟩
      · subst he
        obtain ⟨cell, a1, a2, a3⟩ := va_recv hK g3 hcl q2
        have k3 := k2 (by omega)
        rw [← h5, hcl] at k3
        have k3 : C = (zm_y md).cls := Option.some.inj k3
        exact ⟨cell, a1, a2, by rw [← k3]; exact a3⟩
      · omega
      · omega
      · omega
    · obtain ⟨e2, h⟩ := zif_and h
      obtain ⟨e3, h⟩ := zif_and h
      obtain ⟨e4, h⟩ := zif_and h
      obtain ⟨t, u⟩ := o
      have e3 : t = 4 := zb_eq e3
      subst e3
      have hw : w = .ref (X.2.2.1 u) := hw
      subst hw
      have h : (@Option.rec Nat (fun _ => Bool) false (fun _ => true) (zq_xs u)) = true := h
      cases hq : zq_xs u with
      | none =>
        rw [hq] at h
        have h : false = true := h
        cases h
      | some kv =>
        refine ⟨_, As, rfl, ?_⟩
        rw [k1 (zb_eq e4)]
        exact va_Orecv (hF.2.2.1 u kv hq).1 hS
theorem zctor_ok {form ci : Nat} {ad : Nat → Nat} {G : ZG} {as : List ZV} {vals : List Value} (hf : form = 2 ∨ form = 3) (hr : zrecv form ci as G = true) (hv : zSt (zv X ad G.2.1) as vals) : ∃ (b : Nat) (As : List Value), vals = .ref b :: As := by
  have h1 : zstf form = false := by rcases hf with rfl | rfl <;> rfl
  have h0 : Nat.beq form 0 = false := by rcases hf with rfl | rfl <;> rfl
  unfold zrecv at hr
  rw [h1, h0] at hr
  cases as with
  | nil =>
    have hr : false = true := hr
    cases hr
  | cons o as' =>
    have hr : zif (Nat.beq o.1 3) (zif (Nat.beq form 2) true (zif (Nat.beq form 3) true (@Option.rec ZO (fun _ => Bool) false (fun ob => zif (Nat.ble ob.1 49) (Nat.beq ob.1 ci) false) (zt_get 10 G.1 o.2)))) false = true := hr
    obtain ⟨w, As, rfl, hw, -⟩ := hv
    obtain ⟨e1, -⟩ := zif_and hr
    obtain ⟨t, u⟩ := o
    have e1 : t = 3 := zb_eq e1
    subst e1
    obtain ⟨hlt, rfl⟩ := hw
    exact ⟨_, As, rfl⟩
theorem zs_run {hk : ZHk} {K : Nat → Nat → ZK} {mid md d' form pc nx idx pos cells slots : Nat} {ad : Nat → Nat} {G : ZG} {as rest : List ZV} {vals sr : List Value} {r : ZRes} {H : Heap} {locs : List Loc} {ls : Array Slot} (hS : zSound hk B0 Ls X K) (hth : ∀ E, E < 4 → zthk E = true) (F : zFr B0 Ls X mid (d' + 1) p l R s m args meth c) (hmd : md ≠ 0) (hmh : md ≠ hk.1) (hmk : zmk md = true) (hcf : zcf md form = true) (hc : zc_call (zm_y mid).cls (zm_cc mid) pc nx md form idx pos = true)
    (hrun : K d' md 0 (zapp (zex as) (znone (zm_nfo md).1)) [] (G.1, G.2.1, 0, 0) = some r) (hsh : zshort (zex as) (zm_nfo md).1 = true) (hrv : zrecv form (zm_nfo md).2.2 as G = true) (hcat : zcats rest ≤ 8) (hno : form = 2 ∨ form = 3 ∨ form = 5 → r.1 = 0)
    (hW : zW1 B0 X ad G H) (hSS : va_S (zA B0) s.heap H locs) (hls : ls.size = (zm_nfo mid).1) (hv : zSt (zv X ad G.2.1) as vals) (hlen : vals.length = zif (zstf form) (zm_nfo md).2.1 (Nat.succ (zm_nfo md).2.1)) (hsr : zSt (zv X ad G.2.1) rest sr) (hRc : cells + r.2.2.2.2.1 ≤ R.cells) (hRs : slots + r.2.2.2.2.2 ≤ R.slots) :
    vx_Run p l e R s m args below meth c H locs cells slots r.2.2.2.2.1 r.2.2.2.2.2 (F0 m pc ls (vals.reverse ++ sr)) sr (fun st o t => r.1 = 0 ∧ zQc B0 X ad G.2.1 r.2.2 r.2.1 vals.toArray st o t) (fun C st t => ∃ E, r.1 = E + 1 ∧ zXC B0 X ad G.2.1 r.2.2 E C st t) (zA B0) := by
  obtain ⟨⟨hx, hb, hml, hown, hts, hlk, hK, hF, hB, hst⟩, hini, hfr, hlo, htab, hret⟩ := F
  obtain ⟨⟨a1, a2, a3, a4⟩, a5, a6⟩ := zmk_a hmk
  have hM := zmet (n := G.2.1) (h := G.1) hS hst hmd hmh hmk hth hrun hsh hv
  have hPc : ∀ U : State, U.heap = H → s.WarmedH U.vm → zPc B0 Ls X ad (G.1, G.2.1, 0, 0) vals vals.toArray U := fun U hU hWm => ⟨rfl, by rw [hU]; exact hW, va_K.moved hWm.alike hK, zSF_moved hF hWm (by rw [hU]; exact hSS.1) (fun a h1 h2 => by rw [hU]; exact hSS.2.1 a h1 h2), by rw [hU]; exact Nat.le_trans hB hSS.1⟩
  have S : CallFix p m c (zm_cc mid) (zm_nfo mid).1 s args zW (zm_y mid).cls := ⟨hx, hb, hml, hown, hts⟩
  have hroom : 2 * (F0 m pc ls (vals.reverse ++ sr)).monitorRoom + (sr.map fun v => v.category).sum ≤ 8 := by
    rw [show (F0 m pc ls (vals.reverse ++ sr)).monitorRoom = 0 from rfl, zcats_ok rest sr hsr]
    omega
  have hR : (zroom d' r.2.2.2.2.1 r.2.2.2.2.2).frames + 1 ≤ R.frames ∧ 8 + ((zm_nfo md).1 + 11) + (zroom d' r.2.2.2.2.1 r.2.2.2.2.2).locals ≤ R.locals := by
    have h1 : (zroom d' r.2.2.2.2.1 r.2.2.2.2.2).frames = d' + 8 := rfl
    have h2 : (zroom d' r.2.2.2.2.1 r.2.2.2.2.2).locals = 64 * d' + 400 := rfl
    rw [h1, h2]
    omega
  have hc := (Bool.and_eq_true _ _).mp hc
  obtain ⟨c1, c2, c3⟩ := of_decide_eq_true hc.1
  have hcw := hc.2
  have hcf := ((Bool.and_eq_true _ _).mp hcf).2
  have gws : GoodIn zW (zmk_hd md (zm_nfo md).1 :: zW) := zgoodIn fun w hw => by
    rcases List.mem_cons.mp hw with rfl | hw
    · exact a5
    · exact hw
  have nest : ∀ w : Cond, zcold w = true → goodWord w = false → zwx pos w = true → w.before #[] s = true := fun w h1 h2 h3 => by
    rcases zwx_ok h3 with h | h
    · rw [zW_good h] at h2
      cases h2
    · exact hF.2.2.2.2.2.2.2.2.2.1 w h
  have hmet0 : zm_hx md = none → zmk_hd md (zm_nfo md).1 = .code (zm_y md) (zm_cc md) (zm_nfo md).1 (zm_ret md) := fun h => by
    unfold zmk_hd
    rw [h]
  match form, hcf, hcw, hrv, hno, hlen, c2, c3 with
  | 0, hcf, hcw, hrv, hno, hlen, c2, c3 =>
    have hcf := (Bool.and_eq_true _ _).mp hcf
    have n1 := of_decide_eq_true hcf.1
    have n2 : zini md = false := by simpa using hcf.2
    obtain ⟨b, As, rfl, hcell⟩ := zrecv_ok hmk (Or.inl rfl) n1 n2 hrv hW hSS hK hF hv
    obtain ⟨i1, i2⟩ := zmk_i hmk n1
    have hlk1 : Cond.methodLink (zm_y mid).cls idx (zm_y md) ∈ zW := zwk_ok hcw
    have gV : GoodIn zW (wsV (zm_y mid).cls idx (zm_y md).cls (zm_y md) (zmk_hd md (zm_nfo md).1 :: zW)) := zgoodIn fun w hw => by
      have hw : w ∈ ([.methodLink (zm_y mid).cls idx (zm_y md), .instanceMethod (zm_y md), .selects (zm_y md).cls (zm_y md) (zm_y md), .initialized (zm_y md).cls] : List Cond) ++ (zmk_hd md (zm_nfo md).1 :: zW) := hw
      rcases List.mem_append.mp hw with hw | hw
      · rcases List.mem_cons.mp hw with rfl | hw
        · exact hlk1
        · rcases List.mem_cons.mp hw with rfl | hw
          · exact i1
          · rcases List.mem_cons.mp hw with rfl | hw
            · exact (i2 n2).1
            · rw [List.mem_singleton.mp hw]
              exact a6
      · exact (gws w hw).1
    have hlen : As.length + 1 = Nat.succ (zm_nfo md).2.1 := hlen
    have hsk : (Value.ref b :: As).reverse ++ sr = As.reverse ++ .ref b :: sr := by simp
    cases hhx : zm_hx md with
    | none =>
      rw [hmet0 hhx] at hM gV
      exact vx_runV S hM (cwV (zm_nfo md).2.1 hts gV rfl rfl rfl ⟨rfl, a3, a4, a2⟩ hR) ⟨zPc_blind, hcell, hPc⟩ rfl (Nat.succ.inj hlen) hls hsk hroom c3 ⟨hRc, hRs⟩
    | some hs =>
      have e0 : zmk_hd md (zm_nfo md).1 = .codeWith (zm_y md) (zm_cc md) (zm_nfo md).1 (zm_ret md) (hs.map fun q => q.1) := by
        unfold zmk_hd
        rw [hhx]
      rw [e0] at hM gV
      exact vx_runVX S hM (vx_cwVW (zm_nfo md).2.1 hts gV rfl rfl rfl ⟨rfl, a3, a4, a2⟩ hR) ⟨zPc_blind, hcell, hPc⟩ rfl (Nat.succ.inj hlen) hls hsk hroom c3 ⟨hRc, hRs⟩
  | 1, hcf, hcw, hrv, hno, hlen, c2, c3 =>
    have n1 := of_decide_eq_true hcf
    have i1 := zmk_s hmk n1
    have hlk1 : Cond.methodLink (zm_y mid).cls idx (zm_y md) ∈ zW := zwk_ok hcw
    have gV : GoodIn zW (va_wsS (zm_y mid).cls idx (zm_y md) (zmk_hd md (zm_nfo md).1 :: zW)) := zgoodIn fun w hw => by
      have hw : w ∈ ([.methodLink (zm_y mid).cls idx (zm_y md), .static (zm_y md), .initialized (zm_y md).cls] : List Cond) ++ (zmk_hd md (zm_nfo md).1 :: zW) := hw
      rcases List.mem_append.mp hw with hw | hw
      · rcases List.mem_cons.mp hw with rfl | hw
        · exact hlk1
        · rcases List.mem_cons.mp hw with rfl | hw
          · exact i1
          · rw [List.mem_singleton.mp hw]
            exact a6
      · exact (gws w hw).1
    have hlen : vals.length = (zm_nfo md).2.1 := hlen
    cases hhx : zm_hx md with
    | none =>
      rw [hmet0 hhx] at hM gV
      exact vx_runS S hM (va_cwS (zm_nfo md).2.1 hts gV rfl rfl rfl ⟨a3, a4, a2⟩ hR) ⟨zPc_blind, hPc⟩ rfl hlen hls rfl hroom c3 ⟨hRc, hRs⟩
    | some hs =>
      have e0 : zmk_hd md (zm_nfo md).1 = .codeWith (zm_y md) (zm_cc md) (zm_nfo md).1 (zm_ret md) (hs.map fun q => q.1) := by
        unfold zmk_hd
        rw [hhx]
      rw [e0] at hM gV
      exact vx_runSX S hM (vx_cwSW (zm_nfo md).2.1 hts gV rfl rfl rfl ⟨a3, a4, a2⟩ hR) ⟨zPc_blind, hPc⟩ rfl hlen hls rfl hroom c3 ⟨hRc, hRs⟩
  | 2, hcf, hcw, hrv, hno, hlen, c2, c3 =>
    have hcf := (Bool.and_eq_true _ _).mp hcf
    have n4 := of_decide_eq_true hcf.2
    have hcf := (Bool.and_eq_true _ _).mp hcf.1
    have n3 : zm_hx md = none := Option.isNone_iff_eq_none.mp hcf.2
    have hcf := (Bool.and_eq_true _ _).mp hcf.1
    have n1 := of_decide_eq_true hcf.1
    have n2 : (zm_y md).name = "<init>" := of_decide_eq_true hcf.2
    obtain ⟨b, As, rfl⟩ := zctor_ok (X := X) (Or.inl rfl) hrv hv
    obtain ⟨i1, -⟩ := zmk_i hmk n1
    have hlk1 : Cond.methodLink (zm_y mid).cls idx (zm_y md) ∈ zW := zwk_ok hcw
    have hlen : As.length + 1 = Nat.succ (zm_nfo md).2.1 := hlen
    have hsk : (Value.ref b :: As).reverse ++ sr = As.reverse ++ .ref b :: sr := by simp
    rw [hmet0 n3, n4] at hM gws
    have hr0 := hno (Or.inl rfl)
    have hM0 := zMet_of (zx_imp (Qc' := fun a st o t => r.1 = 0 ∧ zQc B0 X ad G.2.1 r.2.2 r.2.1 a st o t) (XC' := fun _ _ _ => False) hM (fun _ _ _ _ q => q) (fun C s t q => by
      obtain ⟨E, e1, -⟩ := q
      rw [hr0] at e1
      cases e1))
    have k := va_runI (p := p) (l := l) (e := e) (R := R) (s := s) (m := m) (args := args) (below := below) (meth := meth) (c := c) (H := H) (locs := locs) (cells := cells) (slots := slots) S hM0 (cwI (zm_nfo md).2.1 hts gws rfl rfl rfl (hts _ a6) (hts _ hlk1) (hts _ i1) n2 ⟨a3, a4, a2⟩ hR) ⟨zPc_blind, hPc⟩ (g := F0 m pc ls ((Value.ref b :: As).reverse ++ sr)) rfl (Nat.succ.inj hlen) hls hsk hroom c3 ⟨hRc, hRs⟩
    exact fun T hT Y => Or.inl (k T hT Y)
  | 3, hcf, hcw, hrv, hno, hlen, c2, c3 =>
    have hcf := (Bool.and_eq_true _ _).mp hcf
    have n4 := of_decide_eq_true hcf.2
    have hcf := (Bool.and_eq_true _ _).mp hcf.1
    have n3 : zm_hx md = none := Option.isNone_iff_eq_none.mp hcf.2
    have hcf := (Bool.and_eq_true _ _).mp hcf.1
    have n1 := of_decide_eq_true hcf.1
    have n2 : (zm_y md).name = "<init>" := of_decide_eq_true hcf.2
    obtain ⟨b, As, rfl⟩ := zctor_ok (X := X) (Or.inr rfl) hrv hv
    obtain ⟨i1, -⟩ := zmk_i hmk n1
    have hlk1 : va_Nw (.methodLinkNest (zm_y mid).cls idx (zm_y md) "SchemaPascal") s := nest _ rfl rfl hcw
    have hlen : As.length + 1 = Nat.succ (zm_nfo md).2.1 := hlen
    have hsk : (Value.ref b :: As).reverse ++ sr = As.reverse ++ .ref b :: sr := by simp
    rw [hmet0 n3, n4] at hM gws
    have hr0 := hno (Or.inr (Or.inl rfl))
    have hM0 := zMet_of (zx_imp (Qc' := fun a st o t => r.1 = 0 ∧ zQc B0 X ad G.2.1 r.2.2 r.2.1 a st o t) (XC' := fun _ _ _ => False) hM (fun _ _ _ _ q => q) (fun C s t q => by
      obtain ⟨E, e1, -⟩ := q
      rw [hr0] at e1
      cases e1))
    have k := va_runIN (p := p) (l := l) (e := e) (R := R) (s := s) (m := m) (args := args) (below := below) (meth := meth) (c := c) (H := H) (locs := locs) (cells := cells) (slots := slots) S hM0 ⟨va_cnB (zm_nfo md).2.1 hts gws rfl rfl rfl hlk1 (hts _ a6) ⟨a3, a4, a2⟩ hR, n2, hts _ i1⟩ ⟨zPc_blind, hPc⟩ (g := F0 m pc ls ((Value.ref b :: As).reverse ++ sr)) rfl (Nat.succ.inj hlen) hls hsk hroom c3 ⟨hRc, hRs⟩
    exact fun T hT Y => Or.inl (k T hT Y)
  | 4, hcf, hcw, hrv, hno, hlen, c2, c3 =>
    have hcf := (Bool.and_eq_true _ _).mp hcf
    have n3 : zm_hx md = none := Option.isNone_iff_eq_none.mp hcf.2
    have hcf := (Bool.and_eq_true _ _).mp hcf.1
    have n1 := of_decide_eq_true hcf.1
    have n2 : zini md = false := by simpa using hcf.2
    obtain ⟨b, As, rfl, hcell⟩ := zrecv_ok hmk (Or.inr rfl) n1 n2 hrv hW hSS hK hF hv
    obtain ⟨i1, i2⟩ := zmk_i hmk n1
    have hlk1 : va_Nw (.methodLinkNest (zm_y mid).cls idx (zm_y md) "SchemaPascal") s := nest _ rfl rfl hcw
    have hlen : As.length + 1 = Nat.succ (zm_nfo md).2.1 := hlen
    have hsk : (Value.ref b :: As).reverse ++ sr = As.reverse ++ .ref b :: sr := by simp
    rw [hmet0 n3] at hM gws
    exact zx_runVN S hM ⟨va_cnB (zm_nfo md).2.1 hts gws rfl rfl rfl hlk1 (hts _ a6) ⟨a3, a4, a2⟩ hR, hts _ i1, hts _ (i2 n2).1⟩ ⟨zPc_blind, hcell, hPc⟩ (g := F0 m pc ls ((Value.ref b :: As).reverse ++ sr)) rfl (Nat.succ.inj hlen) hls hsk hroom c3 ⟨hRc, hRs⟩
  | 5, hcf, hcw, hrv, hno, hlen, c2, c3 =>
    have hcf := (Bool.and_eq_true _ _).mp hcf
    have n3 : zm_hx md = none := Option.isNone_iff_eq_none.mp hcf.2
    have n1 := of_decide_eq_true hcf.1
    have i1 := zmk_s hmk n1
    have hlk1 : va_Nw (.methodLinkNest (zm_y mid).cls idx (zm_y md) "SchemaPascal") s := nest _ rfl rfl hcw
    have hlen : vals.length = (zm_nfo md).2.1 := hlen
    rw [hmet0 n3] at hM gws
    have hr0 := hno (Or.inr (Or.inr rfl))
    have hM0 := zMet_of (zx_imp (Qc' := fun a st o t => r.1 = 0 ∧ zQc B0 X ad G.2.1 r.2.2 r.2.1 a st o t) (XC' := fun _ _ _ => False) hM (fun _ _ _ _ q => q) (fun C s t q => by
      obtain ⟨E, e1, -⟩ := q
      rw [hr0] at e1
      cases e1))
    have k := va_runSN (p := p) (l := l) (e := e) (R := R) (s := s) (m := m) (args := args) (below := below) (meth := meth) (c := c) (H := H) (locs := locs) (cells := cells) (slots := slots) S hM0 ⟨va_cnB (zm_nfo md).2.1 hts gws rfl rfl rfl hlk1 (hts _ a6) ⟨a3, a4, a2⟩ hR, hts _ i1, trivial⟩ ⟨zPc_blind, hPc⟩ (g := F0 m pc ls (vals.reverse ++ sr)) rfl hlen hls rfl hroom c3 ⟨hRc, hRs⟩
    exact fun T hT Y => Or.inl (k T hT Y)
  | k + 6, hcf, hcw, hrv, hno, hlen, c2, c3 => exact absurd c2 (by omega)
/-- going on behind a call -/
theorem zs_go {pc mc ms n0 cells slots rc : Nat} {ad : Nat → Nat} {G : ZG} {r : Option ZV} {H : Heap} {locs : List Loc} {ls : Array Slot} {rest st0 : List Value} {a : Array Value} (hr : vx_Run p l e R s m args below meth c H locs cells slots mc ms (F0 m pc ls st0) rest (fun st o t => rc = 0 ∧ zQc B0 X ad n0 G r a st o t) (fun C st t => ∃ E, rc = E + 1 ∧ zXC B0 X ad n0 G E C st t) (zA B0)) (hS : va_S (zA B0) s.heap H locs)
    (kk : rc = 0 → ∀ (w : Option Value) (H1 : Heap) (locs1 : List Loc), zEnd B0 X ad n0 G r w H1 → va_S (zA B0) s.heap H1 locs1 → W p l e R s m args below meth c H1 locs1 (cells + mc) (slots + ms) Q (F0 m (pc + 3) ls (w.toList ++ rest)))
    (kx : ∀ E, rc = E + 1 → ∀ (q9 : Addr) (ce : Cell) (H1 : Heap) (locs1 : List Loc), zEnd B0 X ad n0 G none none H1 → va_S (zA B0) s.heap H1 locs1 → H1[q9]? = some ce → ce.vm = .none → s.vm.findClass (zq_ex E) = some ce.cls → vx_W p l e R s m args below meth c H1 locs1 (cells + mc) (slots + ms) Q (F0 m pc ls rest) q9) : W p l e R s m args below meth c H locs cells slots Q (F0 m pc ls st0) := by
  intro T hT Y
  rcases hr T hT Y with ⟨v, st₀, t, T', L, h0, X', hL, e1, e2, ⟨h9, ⟨w, hv, he⟩, hz, hk⟩, st⟩ | ⟨q, st₀, t, T', L, C, ce, h0, X', hL, e1, e2, ⟨E, h9, hC, he, hz, hk⟩, hc1, hc2, hc3, st⟩
  · cases hv
    rw [h0] at hz hk
    obtain ⟨t2, a1, b1⟩ := kk h9 v T'.heap (locs ++ L) (by rw [e1]; exact he)
      ⟨Nat.le_trans hS.1 (by rw [e1]; exact hz), fun q h1 h2 => by rw [e1, hk q (Nat.lt_of_lt_of_le h1 hS.1) h2]; exact hS.2.1 q h1 h2, fun q hq => by
        rcases List.mem_append.mp hq with h | h
        · exact hS.2.2 q h
        · exact hL q h⟩ T' rfl X'
    exact ⟨t2, st t2 a1, b1⟩
  · rw [h0] at hz hk
    subst hC
    obtain ⟨t2, a1, b1⟩ := kx E h9 q ce T'.heap (locs ++ L) (by rw [e1]; exact he)
      ⟨Nat.le_trans hS.1 (by rw [e1]; exact hz), fun q h1 h2 => by rw [e1, hk q (Nat.lt_of_lt_of_le h1 hS.1) h2]; exact hS.2.1 q h1 h2, fun q hq => by
        rcases List.mem_append.mp hq with h | h
        · exact hS.2.2 q h
        · exact hL q h⟩ (by rw [e1]; exact hc1) hc2 hc3 T' rfl X'
    exact ⟨t2, st.trans a1, b1⟩
end ZS
