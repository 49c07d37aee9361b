/-! A method's own contract out of its run. -/
/-- the words of a throw, by their places -/
def zpz : List Cond → List Nat → Cond → Bool
  | [], _, _ => true
  | w :: ws, q :: qs, x => (decide (w = x) || (vx_ot w && zwx q w)) && zpz ws qs x
  | _, _, _ => false
theorem zpz_ok : ∀ (l : List Cond) (ps : List Nat) (x : Cond), zpz l ps x = true → ∀ w ∈ l, w = x ∨ (vx_ot w = true ∧ (w ∈ zW ∨ w ∈ zWn))
  | [], _, _, _, w, hw => by cases hw
  | v :: ws, [], x, h, w, hw => by
    have h : false = true := h
    cases h
  | v :: ws, q :: qs, x, h, w, hw => by
    have h := (Bool.and_eq_true _ _).mp h
    rcases List.mem_cons.mp hw with rfl | hw
    · rcases (Bool.or_eq_true _ _).mp h.1 with k | k
      · exact Or.inl (of_decide_eq_true k)
      · have k := (Bool.and_eq_true _ _).mp k
        exact Or.inr ⟨k.1, zwx_ok k.2⟩
    · exact zpz_ok ws qs x h.2 w hw
theorem zthr_wt {own X : String} {ic : Nat} {names : List String} {w : Cond} (h : w ∈ vx_at0 own ic X names) : w = .methodLink own ic (Bundle.init0 X) ∨ ∀ (own' : String) (ic' : Nat), w ∈ vx_at0 own' ic' X names := by
  unfold vx_at0 at h ⊢
  rw [List.mem_filter] at h
  obtain ⟨h1, h2⟩ := h
  unfold Bundle.ownAtoms0 at h1
  rcases List.mem_append.mp h1 with h1 | h1
  · refine Or.inr fun own' ic' => List.mem_filter.mpr ⟨?_, h2⟩
    unfold Bundle.ownAtoms0
    exact List.mem_append_left _ h1
  · rcases List.mem_cons.mp h1 with h1 | h1
    · exact Or.inl h1
    · refine Or.inr fun own' ic' => List.mem_filter.mpr ⟨?_, h2⟩
      unfold Bundle.ownAtoms0
      exact List.mem_append_right _ (List.mem_cons_of_mem _ h1)
def zthk (E : Nat) : Bool := zpz (vx_at0 "" 0 (zq_ex E) zxnames) (zq_tp E) (.methodLink "" 0 (Bundle.init0 (zq_ex E))) && zpz (vx_at0 "a" 1 (zq_ex E) zxnames) (zq_tp E) (.methodLink "a" 1 (Bundle.init0 (zq_ex E))) && Bundle.fit (zq_ex E) && zwx (zq_cp E) (.castable (zq_ex E) (zq_ex E))
theorem zthk_use {E : Nat} (h : zthk E = true) {own : String} {ic : Nat} {w : Cond} (hw : w ∈ vx_at0 own ic (zq_ex E) zxnames) : w = .methodLink own ic (Bundle.init0 (zq_ex E)) ∨ (vx_ot w = true ∧ (w ∈ zW ∨ w ∈ zWn)) := by
  have h := (Bool.and_eq_true _ _).mp ((Bool.and_eq_true _ _).mp ((Bool.and_eq_true _ _).mp h).1).1
  rcases zthr_wt hw with k | k
  · exact Or.inl k
  · rcases zpz_ok _ _ _ h.1 w (k "" 0) with k1 | k1
    · rcases zpz_ok _ _ _ h.2 w (k "a" 1) with k2 | k2
      · rw [k1] at k2
        exact absurd (Cond.methodLink.inj k2).2.1 (by decide)
      · exact Or.inr k2
    · exact Or.inr k1
theorem zF_in {B0 L : Nat} {X : ZX} {p : Program} {l : Launch} {s : State} {m : MethodId} {args : Array Value} {meth : Method} {c : Code} {own : String} {cc : ByteArray} {nL : Nat} (F : zF B0 L X p l s m args meth c own cc nL) {w : Cond} (h : w ∈ zW ∨ w ∈ zWn) : w.before args s = true := by
  obtain ⟨hx, hb, hml, hown, hts, hlk, hK, hF, hB, hst⟩ := F
  rcases h with h | h
  · exact hts w h
  · exact zcold_use (List.mem_filter.mp h).2 (hF.2.2.2.2.2.2.2.2.2.1 w h)
theorem zW1_grow {B0 : Nat} {X : ZX} {ad : Nat → Nat} {G : ZG} {H H' : Heap} (h : zW1 B0 X ad G H) (hq : ∀ q : Nat, q < H.size → H'[q]? = H[q]?) : zW1 B0 X ad G H' := by
  obtain ⟨ws, h1, h2, h3, h4⟩ := h
  exact ⟨ws, h1, h2, h3.kept fun k q hk => hq _ (vx_lt h3 hk), h4⟩
theorem zlong_not {rty : Nat} {v : ZV} (h : zrk rty v = true) : zint v = true := by
  unfold zrk at h
  split at h
  · exact h
  · have h := (Bool.and_eq_true _ _).mp h
    have e := zb_eq h.1
    unfold zint
    rw [e]
    rfl
  · have h := (Bool.and_eq_true _ _).mp h
    have e := zb_eq h.1
    unfold zint
    rw [e]
    rfl
  · have h := (Bool.and_eq_true _ _).mp h
    have e := zb_eq h.1
    unfold zint
    rw [e]
    rfl
  · cases h
theorem zand1 {u : Nat} (h : u ≤ 1) : nI u &&& 1 = nI u := by
  rcases Nat.le_one_iff_eq_zero_or_eq_one.mp h with rfl | rfl <;> rfl
theorem znar {rty : Nat} {v : ZV} {X : ZX} {ad : Nat → Nat} {n : Nat} {x : Int32} (hr : rty < 4) (h : zrk rty v = true) (hv : zv X ad n v (.int x)) : narrow (zrt rty) (.int x) = .int x := by
  have key : ∀ u : Nat, v = (0, u) → x = nI u := fun u e => by
    rw [e] at hv
    have hv : Value.int x = .int (nI u) := hv
    exact Value.int.inj hv
  match rty, hr, h with
  | 0, _, _ => rfl
  | 1, _, h =>
    have h := (Bool.and_eq_true _ _).mp h
    have e := key v.2 (Prod.ext (zb_eq h.1) rfl)
    have h2 : v.2 ≤ 1 := zl_le h.2
    show Value.int (x &&& 1) = _
    rw [e, zand1 h2]
  | 2, _, h =>
    have h := (Bool.and_eq_true _ _).mp h
    have e := key v.2 (Prod.ext (zb_eq h.1) rfl)
    have h2 : v.2 ≤ 65535 := zl_le h.2
    rw [e]
    exact (pk_charN (by omega)).1
  | 3, _, h =>
    have h := (Bool.and_eq_true _ _).mp h
    have e := key v.2 (Prod.ext (zb_eq h.1) rfl)
    have h2 : v.2 ≤ 127 := zl_le h.2
    show Value.int x.toInt8.toInt32 = _
    rw [e, zi2b, show zsb v.2 = (((v.2 + 128) % 256 + 4294967168) % 4294967296) from rfl, show ((v.2 + 128) % 256 + 4294967168) % 4294967296 = v.2 by omega]
theorem zrefty_ok {t : Option FieldType} (h : zrefty t = true) : ∃ rt : FieldType, t = some rt ∧ ((∃ n, rt = .object n) ∨ ∃ u, rt = .array u) := by
  unfold zrefty at h
  split at h
  · exact ⟨_, rfl, Or.inl ⟨_, rfl⟩⟩
  · exact ⟨_, rfl, Or.inr ⟨_, rfl⟩⟩
  · cases h
section ZS
variable {B0 Ls : Nat} {X : ZX} {p : Program} {l : Launch} {e : Env} {R : Room} {s : State} {m : MethodId} {args : Array Value} {below : List Frame} {meth : Method} {c : Code}
/-- what a method that ends so owes is what its contract says -/
theorem zbody_cont {hk : ZHk} {md d' n : Nat} {ad : Nat → Nat} {r : ZRes} (hmd : md ≠ 0) (hmh : md ≠ hk.1) (hth : ∀ E, E < 4 → zthk E = true) (F : zFr B0 Ls X md d' p l R s m args meth c) (hRc : r.2.2.2.2.1 ≤ R.cells) (hRs : r.2.2.2.2.2 ≤ R.slots) :
    zCont hk B0 X md ad n p l e R s m args below meth c (vx_MQ below (fun a st o t => r.1 = 0 ∧ zQc B0 X ad n r.2.2 r.2.1 a st o t) (fun C st t => ∃ E, r.1 = E + 1 ∧ zXC B0 X ad n r.2.2 E C st t) args s r.2.2.2.2.1 r.2.2.2.2.2 (zA B0)) r := by
  have F0' := F.1
  obtain ⟨⟨hx, hb, hml, hown, hts, hlk, hK, hF, hB, hst⟩, hini, hfr, hlo, htab, hret⟩ := F
  refine ⟨fun h0 pcR L' kd rty hc hk => ?_, fun _ E _ hE => ⟨fun pcT L' st' G0 ik ic p1 p2 p3 hc hnx hcat hG => ?_, fun pcC L' st' hu => ?_⟩, fun h9 => absurd h9 hmh⟩
  · intro ad' hag H locs ls sv hW hS hL hT
    refine vx_ret ?_
    have fin : ∀ (w : Option Value), zrv X ad' r.2.2.2.1 r.2.1 w → ∀ t : State, t.heap = H → s.WarmedH t.vm → r.1 = 0 ∧ zQc B0 X ad n r.2.2 r.2.1 args s (.returned w) t := fun w hw t ht _ => ⟨h0, ⟨w, rfl, ad', hag.2, hag.1, hw, by rw [ht]; exact hW⟩, hS.F ht⟩
    cases hr : r.2.1 with
    | none =>
      rw [hr] at hk hT fin
      have hT : sv = [] := hT
      subst hT
      match kd, hk, hc with
      | 0, _, hc =>
        obtain ⟨d0, d1⟩ := of_decide_eq_true hc
        exact W.vret hx hb (hret.trans d1) (fin none rfl) hS.2.2 d0 hlk
      | 1, hk, _ => exact absurd (show false = true from hk) (by decide)
      | 2, hk, _ => exact absurd (show false = true from hk) (by decide)
      | 3, hk, _ => exact absurd (show false = true from hk) (by decide)
      | k + 4, hk, _ => exact absurd (show false = true from hk) (by decide)
    | some v =>
      rw [hr] at hk hT fin
      obtain ⟨w, s1, e1, hv, e2⟩ := hT
      have e2 : s1 = [] := e2
      subst e2
      subst e1
      have fin := fin (some w) ⟨w, rfl, hv⟩
      match kd, hk, hc with
      | 1, hk, hc =>
        obtain ⟨d0, d1, d2⟩ := of_decide_eq_true hc
        obtain ⟨x, rfl⟩ := zint_ok (zlong_not hk) hv
        exact W.zret hx hb (hret.trans d1) (znar d2 hk hv) fin hS.2.2 d0 hlk
      | 2, hk, hc =>
        obtain ⟨d0, d1⟩ := of_decide_eq_true hc
        obtain ⟨x, rfl⟩ := zlong_ok hk hv
        exact W.lret hx hb (hret.trans d1) fin hS.2.2 d0 hlk
      | 3, hk, hc =>
        have hc := (Bool.and_eq_true _ _).mp hc
        obtain ⟨rt, d1, d2⟩ := zrefty_ok hc.2
        exact W.aret hx hb (hret.trans d1) d2 (zref_ok hk hv) fin hS.2.2 (of_decide_eq_true hc.1) hlk
  · intro ad' hag H locs ls sv hW hS hL hT
    have hc := (Bool.and_eq_true _ _).mp hc
    have hc1 := (Bool.and_eq_true _ _).mp hc.1
    have hc2 := (Bool.and_eq_true _ _).mp hc1.1
    obtain ⟨hE4, d0, d3, d4, d7⟩ := of_decide_eq_true hc2.1
    have hk := hth E hE4
    have hw1 := zwk_ok hc2.2
    have hw2 := zwk_ok hc1.2
    have hw3 := zwk_ok hc.2
    have good : ∀ {w : Cond}, w ∈ zW → vx_ot w = true := fun h => by
      unfold vx_ot
      rw [zW_good h]
      exact Bool.or_true _
    have hat : ∀ w ∈ vx_at0 (zm_y md).cls ic (zq_ex E) zxnames, w.before args s = true ∧ vx_ot w = true := fun w hw => by
      rcases zthk_use hk hw with rfl | ⟨k1, k2⟩
      · exact ⟨hts _ hw2, good hw2⟩
      · exact ⟨zF_in F0' k2, k1⟩
    have hG1 : r.2.2.2.2.1 = G0.2.2.1 + 1 := by rw [hG]
    have hG2 : r.2.2.2.2.2 = G0.2.2.2 + 6 := by rw [hG]
    have hG3 : r.2.2.2.1 = G0.2.1 := by rw [hG]
    have hG4 : r.2.2.1 = G0.1 := by rw [hG]
    refine vx_throw0 (A := zA B0) (own := (zm_y md).cls) (cls := zq_ex E) (names := zxnames) (ik := ik) (ic := ic) hx hb hst hown ?_ (by decide) (hts _ hw1) (hts _ hw3) (fun w hw => (hat w hw).1) ?_ hF.2.2.2.2.1 hF.2.2.2.2.2.1 hS (hL.1.trans hml.symm) d0 d3 d4 d7 ?_ ?_ ?_ ?_ ?_ hlk ?_ hS.2.2 ?_ ?_
    · have h1 := (Bool.and_eq_true _ _).mp hk
      have h2 := (Bool.and_eq_true _ _).mp h1.1
      exact h2.2
    · intro w hw
      rcases List.mem_cons.mp hw with rfl | hw
      · exact good hw1
      · rcases List.mem_cons.mp hw with rfl | hw
        · exact good hw3
        · exact (hat w hw).2
    · intro x hx9
      rw [htab hmd] at hx9
      unfold zht at hx9
      rw [hnx] at hx9
      cases hx9
    · have : zxnames.length = 2 := rfl
      omega
    · have h8 : zcats st' ≤ 8 := zl_le hcat
      have h9 := zcats_ok st' sv hT
      have : zxnames.length = 2 := rfl
      omega
    · omega
    · omega
    · intro t hA hz hq
      refine ⟨E, hE, rfl, ⟨ad', hag.2, by rw [hG3]; exact hag.1, rfl, ?_⟩, Nat.le_trans hS.1 hz, fun q h1 h2 => ?_⟩
      · have hW' := zW1_grow hW hq
        unfold zW1 at hW' ⊢
        rw [hG3, hG4]
        exact hW'
      · rw [hq q (Nat.lt_of_lt_of_le h1 hS.1)]
        exact hS.2.1 q h1 h2
    · omega
    · omega
  · intro ad' hag H locs ls sv q9 ce hW hS hL hT hce hcv hcl
    exact vx_outP hown hlk hu hce hcv hcl (fun t ht hA => ⟨E, hE, rfl, ⟨ad', hag.2, hag.1, rfl, by rw [ht]; exact hW⟩, hS.F ht⟩) hS.2.2 (Nat.le_refl _) (Nat.le_refl _)
/-- a method's body from its entry -/
theorem zbody {hk : ZHk} {K : Nat → Nat → ZK} {md d' n : Nat} {h : ZH} {ad : Nat → Nat} {as : List ZV} {vals : List Value} {r : ZRes} (hS : zSound hk B0 Ls X K) (hmd : md ≠ 0) (hmh : md ≠ hk.1) (hth : ∀ E, E < 4 → zthk E = true) (F : zFr B0 Ls X md d' p l R s m vals.toArray meth c) (hRc : r.2.2.2.2.1 ≤ R.cells) (hRs : r.2.2.2.2.2 ≤ R.slots)
    (hrun : K d' md 0 (zapp (zex as) (znone (zm_nfo md).1)) [] (h, n, 0, 0) = some r) (hsh : zshort (zex as) (zm_nfo md).1 = true) (hv : zSt (zv X ad n) as vals) (hW : zW1 B0 X ad (h, n, 0, 0) s.heap) :
    W p l e R s m vals.toArray below meth c s.heap [] 0 0 (vx_MQ below (fun a st o t => r.1 = 0 ∧ zQc B0 X ad n r.2.2 r.2.1 a st o t) (fun C st t => ∃ E, r.1 = E + 1 ∧ zXC B0 X ad n r.2.2 E C st t) vals.toArray s r.2.2.2.2.1 r.2.2.2.2.2 (zA B0)) (entryFrame m vals.toArray (zm_nfo md).1) := by
  obtain ⟨-, -, -, k⟩ := hS d' md 0 _ _ _ _ hrun
  have k1 := k ad n p l e R s m vals.toArray below meth c _ F hRc hRs (zbody_cont hmd hmh hth F hRc hRs)
  have hlen : (lg_sl vals).length ≤ (zm_nfo md).1 := by
    rw [zex_len as vals hv]
    exact zshort_ok _ _ hsh
  obtain ⟨l1, l2, l3⟩ := lv_entry vals hlen
  rw [lg_entry_eq]
  refine k1 ad ⟨Nat.le_refl _, fun _ _ => rfl⟩ s.heap [] _ [] hW va_S.rf ⟨l1, l2, fun i v hi => ?_⟩ rfl
  rw [zapp_eq] at hi
  obtain ⟨w, g1, g2⟩ := zex_ok (i0 := 0) as vals hv i v hi
  rw [Nat.zero_add] at g1
  exact ⟨w, l3 _ g1, g2⟩
end ZS
/-- the frame of a method that is called -/
theorem zmet {hk : ZHk} {K : Nat → Nat → ZK} {B0 Ls md d' n : Nat} {X : ZX} {l : Launch} {h : ZH} {ad : Nat → Nat} {as : List ZV} {vals : List Value} {r : ZRes} (hS : zSound hk B0 Ls X K) (hst : l.stackTraces = false) (hmd : md ≠ 0) (hmh : md ≠ hk.1) (hmk : zmk md = true) (hth : ∀ E, E < 4 → zthk E = true)
    (hrun : K d' md 0 (zapp (zex as) (znone (zm_nfo md).1)) [] (h, n, 0, 0) = some r) (hsh : zshort (zex as) (zm_nfo md).1 = true) (hv : zSt (zv X ad n) as vals) :
    vx_Met l (zm_y md) (zmk_hd md (zm_nfo md).1 :: zW) (zroom d' r.2.2.2.2.1 r.2.2.2.2.2) (zPc B0 Ls X ad (h, n, 0, 0) vals) (fun a st o t => r.1 = 0 ∧ zQc B0 X ad n r.2.2 r.2.1 a st o t) (fun C st t => ∃ E, r.1 = E + 1 ∧ zXC B0 X ad n r.2.2 E C st t) r.2.2.2.2.1 r.2.2.2.2.2 (zA B0) := by
  have frame : ∀ (p : Program) (e : Env) (s : State) (m : MethodId) (args : Array Value) (below : List Frame) (meth : Method) (c : Code) (s₁ : State), BodyLoose p l (zm_y md) (headSpec (zmk_hd md (zm_nfo md).1 :: zW) (zroom d' r.2.2.2.2.1 r.2.2.2.2.2)) (zm_cc md) (zm_nfo md).1 (zm_ret md) e s m args below meth c s₁ → c.maxLocals = (zm_nfo md).1 → c.exceptionTable.toList = zht md → zPc B0 Ls X ad (h, n, 0, 0) vals args s →
      W p l e (headSpec (zmk_hd md (zm_nfo md).1 :: zW) (zroom d' r.2.2.2.2.1 r.2.2.2.2.2)).room s m args below meth c s.heap [] 0 0 (vx_MQ below (fun a st o t => r.1 = 0 ∧ zQc B0 X ad n r.2.2 r.2.1 a st o t) (fun C st t => ∃ E, r.1 = E + 1 ∧ zXC B0 X ad n r.2.2 E C st t) args s r.2.2.2.2.1 r.2.2.2.2.2 (zA B0)) (entryFrame m args (zm_nfo md).1) := by
    intro p e s m args below meth c s₁ B hml htab ⟨ha, hW, hK, hSF, hB⟩
    subst ha
    have hts := atoms_spec (ws := zmk_hd md (zm_nfo md).1 :: zW) B.pre
    exact zbody hS hmd hmh hth ⟨⟨B.exec, B.bytes, hml, findClass_of_methodNamed B.named, fun w hw => hts w (List.mem_cons_of_mem _ hw), B.notSynchronized, hK, hSF, hB, hst⟩, fun hi => (name_of_methodNamed B.named B.method).1.trans hi, Nat.le_refl _, Nat.le_refl _, fun _ => htab, B.returns⟩ (Nat.le_refl _) (Nat.le_refl _) hrun hsh hv hW
  have hy := hmk
  unfold zmk at hy
  have hy1 := ((Bool.and_eq_true _ _).mp ((Bool.and_eq_true _ _).mp ((Bool.and_eq_true _ _).mp ((Bool.and_eq_true _ _).mp hy).1).1).1).2
  unfold zmk_hd
  cases hhx : zm_hx md with
  | none =>
    rw [hhx] at hy1
    refine zofWF (cc := zm_cc md) (maxL := (zm_nfo md).1) (ret := zm_ret md) hy1 rfl ?_
    intro p e s m args below meth c s₁ B hml ht hP
    have e0 : zmk_hd md (zm_nfo md).1 = .code (zm_y md) (zm_cc md) (zm_nfo md).1 (zm_ret md) := by
      unfold zmk_hd
      rw [hhx]
    rw [← e0] at B
    have hz : zht md = [] := by
      unfold zht
      rw [hhx]
    have he : c.exceptionTable.toList = zht md := by
      rw [hz]
      cases hq : c.exceptionTable.toList with
      | nil => rfl
      | cons a b => exact (ht a (by rw [hq]; exact List.mem_cons_self)).elim
    have k := frame p e s m args below meth c s₁ B hml he hP
    rw [e0] at k
    exact k
  | some hs =>
    rw [hhx] at hy1
    have hy2 := ((Bool.and_eq_true _ _).mp hy1).1
    refine vx_ofWH (cc := zm_cc md) (maxL := (zm_nfo md).1) (ret := zm_ret md) (hh := hs.map fun q => q.1) hy2 rfl ?_
    intro p e s m args below meth c s₁ B hml hP
    have e0 : zmk_hd md (zm_nfo md).1 = .codeWith (zm_y md) (zm_cc md) (zm_nfo md).1 (zm_ret md) (hs.map fun q => q.1) := by
      unfold zmk_hd
      rw [hhx]
    have B2 : BodyLoose p l (zm_y md) (headSpec (zmk_hd md (zm_nfo md).1 :: zW) (zroom d' r.2.2.2.2.1 r.2.2.2.2.2)) (zm_cc md) (zm_nfo md).1 (zm_ret md) e s m args below meth c s₁ := by
      rw [e0]
      exact B
    have hts := atoms_spec (ws := zmk_hd md (zm_nfo md).1 :: zW) B2.pre
    have he : c.exceptionTable.toList = zht md := by
      have h9 := hts _ List.mem_cons_self
      rw [e0] at h9
      unfold zht
      rw [hhx]
      exact vx_table (x := zm_y md) B2 h9
    have k := frame p e s m args below meth c s₁ B2 hml he hP
    rw [e0] at k
    exact k
