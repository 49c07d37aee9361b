/-! Objects, arrays, statics. -/
def zad (ad : Nat → Nat) (n q : Nat) : Nat → Nat := fun k => if k = n then q else ad k
theorem zad_lt {ad : Nat → Nat} {n q : Nat} : ∀ k, k < n → zad ad n q k = ad k := fun k hk => if_neg (by omega)
theorem zad_at {ad : Nat → Nat} {n q : Nat} : zad ad n q n = q := if_pos rfl
theorem zag_push {ad0 ad : Nat → Nat} {n0 n q : Nat} (h : zAg ad0 n0 ad n) : zAg ad0 n0 (zad ad n q) (n + 1) := ⟨Nat.le_succ_of_le h.1, fun k hk => by rw [zad_lt k (Nat.lt_of_lt_of_le hk h.1)]; exact h.2 k hk⟩
def zlink (own : String) (idx : Nat) (C : String) (T : u_T) (kf fl pos pos2 : Nat) : Bool := match fl with
  | 0 => zwx pos (.fieldLink own idx (T kf).1 (T kf).2.1 (T kf).2.2.1)
  | 1 => zwx pos (.fieldLinkNest own idx (T kf).1 (T kf).2.1 (T kf).2.2.1 "SchemaPascal")
  | 2 => zwx pos (.fieldLink own idx C (T kf).2.1 (T kf).2.2.1) && zwx pos2 (.sameField C (T kf).1 (T kf).2.1 (T kf).2.2.1)
  | _ => false
def zpv (tk : Nat) (v : ZV) : Bool := match tk with
  | 0 => zint v
  | 1 => Nat.beq v.1 0 && Nat.ble v.2 1
  | 2 => zlong v
  | 3 => zref v
  | _ => false
def zpt (tk : Nat) (ty : FieldType) : Bool := match tk, ty with
  | 0, .int => true
  | 1, .boolean => true
  | 2, .long => true
  | 3, .object _ => true
  | 3, .array _ => true
  | _, _ => false
theorem zpv_ok {X : ZX} {ad : Nat → Nat} {n tk : Nat} {ty : FieldType} {v : ZV} {w : Value} (ht : zpt tk ty = true) (hv : zpv tk v = true) (hw : zv X ad n v w) : narrow ty w = w ∧ fits ty w = true := by
  unfold zpt at ht
  split at ht
  · obtain ⟨x, rfl⟩ := zint_ok hv hw
    exact ⟨rfl, rfl⟩
  · have hv : (Nat.beq v.1 0 && Nat.ble v.2 1) = true := hv
    rw [Bool.and_eq_true] at hv
    obtain ⟨t, u⟩ := v
    have e1 : t = 0 := zb_eq hv.1
    have e2 : u ≤ 1 := zl_le hv.2
    subst e1
    rw [show w = .int (nI u) from hw]
    rcases (show u = 0 ∨ u = 1 by omega) with rfl | rfl
    · exact ⟨by decide, by decide⟩
    · exact ⟨by decide, by decide⟩
  · obtain ⟨x, rfl⟩ := zlong_ok hv hw
    exact ⟨rfl, rfl⟩
  · rcases zref_ok hv hw with rfl | ⟨a, rfl⟩ <;> exact ⟨rfl, rfl⟩
  · rcases zref_ok hv hw with rfl | ⟨a, rfl⟩ <;> exact ⟨rfl, rfl⟩
  · cases ht
section ZS
variable {B0 Ls : Nat} {X : ZX} {p : Program} {l : Launch} {e : Env} {R : Room} {s : State} {m : MethodId} {args : Array Value} {below : List Frame} {meth : Method} {c : Code} {Q : State → Prop} {own : String} {cc : ByteArray} {nL : Nat} {ad0 : Nat → Nat} {n0 : Nat}
theorem zW1_set {ad : Nat → Nat} {n c1 c2 k : Nat} {h h' : ZH} {ws : va_W} {o' : ZO} {e' : va_E} {H1 : Heap} (hl : ws.length = n) (hw : ∀ k, k < n → ∃ (o : ZO) (e : va_E), zt_get 10 h k = some o ∧ ws[k]? = some (ad k, e) ∧ zob1 X ad n o e) (hk : k < n) (hs : zt_set 10 h k o' = some h') (he : zob1 X ad n o' e')
    (hP : va_P X.1 zcl (ws.set k (ad k, e')) H1) (hD : va_D (zA B0) (ws.set k (ad k, e'))) : zW1 B0 X ad (h', n, c1, c2) H1 := by
  refine ⟨ws.set k (ad k, e'), by rw [List.length_set]; exact hl, fun j hj => ?_, hP, hD⟩
  by_cases ej : j = k
  · subst ej
    exact ⟨o', e', by rw [zt_gs 10 h j j o' h' hs, if_pos rfl], by rw [List.getElem?_set_self (by omega)], he⟩
  · obtain ⟨o, e1, a, b, d⟩ := hw j hj
    exact ⟨o, e1, by rw [zt_gs 10 h k j o' h' hs, if_neg ej]; exact a, by rw [List.getElem?_set_ne (Ne.symm ej)]; exact b, d⟩
theorem zW1_push {ad : Nat → Nat} {n c1 c2 q : Nat} {h h' : ZH} {ws : va_W} {o' : ZO} {e' : va_E} {H1 : Heap} (hl : ws.length = n) (hw : ∀ k, k < n → ∃ (o : ZO) (e : va_E), zt_get 10 h k = some o ∧ ws[k]? = some (ad k, e) ∧ zob1 X ad n o e) (hs : zt_set 10 h n o' = some h') (he : zob1 X (zad ad n q) (n + 1) o' e')
    (hP : va_P X.1 zcl (ws ++ [(q, e')]) H1) (hD : va_D (zA B0) (ws ++ [(q, e')])) : zW1 B0 X (zad ad n q) (h', n + 1, c1, c2) H1 := by
  refine ⟨ws ++ [(q, e')], by rw [List.length_append, hl]; rfl, fun j hj => ?_, hP, hD⟩
  by_cases ej : j = n
  · subst ej
    exact ⟨o', e', by rw [zt_gs 10 h j j o' h' hs, if_pos rfl], by rw [List.getElem?_append_right (by omega), hl, Nat.sub_self, zad_at]; rfl, he⟩
  · have hj : j < n + 1 := hj
    have hjn : j < n := by omega
    obtain ⟨o, e1, a, b, d⟩ := hw j hjn
    exact ⟨o, e1, by rw [zt_gs 10 h n j o' h' hs, if_neg ej]; exact a, by rw [List.getElem?_append_left (by omega), zad_lt j hjn]; exact b, zob1_mono d (Nat.le_succ n) zad_lt⟩
def zc_getf (own : String) (cc : ByteArray) (pc nx ci kf idx fl pos pos2 : Nat) : Bool := match zcl[ci]? with
  | some q => decide (nx = pc + 3 ∧ ci < 50 ∧ kf < q.2.2 ∧ decode cc pc = .ok (.getfield idx, 3)) && zlink own idx q.1 q.2.1 kf fl pos pos2
  | none => false
noncomputable def zo_getf (k : ZK) (nx ci kf : Nat) (L : ZL) (st : List ZV) (G : ZG) : Option ZRes := match st with
  | o :: r => zif (Nat.beq o.1 3) (zob (zt_get 10 G.1 o.2) fun ob => zif (Nat.beq ob.1 ci) (zob (zt_get 18 ob.2.2 kf) fun v => k nx L (v :: r) G) none) none
  | [] => none
theorem zs_getf {pc nx ci kf idx fl pos pos2 : Nat} {o v : ZV} {ob : ZO} {L : ZL} {r : List ZV} {G : ZG} (F : zF B0 Ls X p l s m args meth c own cc nL) (hc : zc_getf own cc pc nx ci kf idx fl pos pos2 = true) (h1 : o.1 = 3) (h2 : zt_get 10 G.1 o.2 = some ob) (h3 : ob.1 = ci) (h4 : zt_get 18 ob.2.2 kf = some v) (h : zHd B0 X ad0 n0 p l e R s m args below meth c Q nL nx L (v :: r) G) : zHd B0 X ad0 n0 p l e R s m args below meth c Q nL pc L (o :: r) G := by
  have use : ∀ {pos : Nat} {w : Jvm.Cond}, zwx pos w = true → w.before args s = true := fun h => zF_use F h
  obtain ⟨hx, hb, hml, hown, hts, hlk, hK, hF, hB, hst⟩ := F
  intro ad hag H locs ls sv hW hS hL hT
  obtain ⟨wo, sr, rfl, ho, hr⟩ := hT
  obtain ⟨t, u⟩ := o
  have h1 : t = 3 := h1
  subst h1
  have ho : u < G.2.1 ∧ wo = .ref (ad u) := ho
  obtain ⟨hu, rfl⟩ := ho
  have go : ∀ w : Value, zv X ad G.2.1 v w → W p l e R s m args below meth c H locs G.2.2.1 G.2.2.2 Q (F0 m nx ls (w :: sr)) := fun w hw => h ad hag H locs ls _ hW hS hL ⟨_, _, rfl, hw, hr⟩
  obtain ⟨ws, hl, hw, hP, hD⟩ := hW
  obtain ⟨o1, e1, a1, a2, a3⟩ := hw u hu
  have h2 : zt_get 10 G.1 u = some ob := h2
  cases a1.symm.trans h2
  unfold zc_getf at hc
  cases hq : zcl[ci]? with
  | none => rw [hq] at hc; cases hc
  | some q =>
    obtain ⟨C, T, N⟩ := q
    rw [hq] at hc
    have hc := (Bool.and_eq_true _ _).mp hc
    obtain ⟨rfl, h50, hkf, hd⟩ := of_decide_eq_true hc.1
    have a3 := zob0_of a3 (by omega)
    rcases a3 with ⟨h0, ⟨C2, T2, hC2⟩, fs, b1, b2, b3⟩ | ⟨h0, -⟩ | ⟨h0, -⟩ | ⟨h0, -⟩
    · rw [h3, hq] at hC2
      cases hC2
      obtain ⟨v2, w, d1, d2, d3⟩ := b3 kf hkf
      cases d1.symm.trans h4
      rw [b1, h3] at a2
      obtain ⟨k1, k2, k3, k4, k5, k6, k7⟩ := zcl_ok hq
      have hlk2 := hc.2
      unfold zlink at hlk2
      split at hlk2
      · exact va_get hx hb hts k1 hown hK hP u a2 hq kf hkf (use hlk2) (fun _ h => h) d2 hd (go w d3)
      · exact va_getN hx hb hts k1 hown hK hP u a2 hq kf hkf (use hlk2) (fun _ h => h) d2 hd (go w d3)
      · have hlk3 := (Bool.and_eq_true _ _).mp hlk2
        exact va_get hx hb hts k1 hown hK hP u a2 hq kf hkf (use hlk3.1) (u_same (use hlk3.2)) d2 hd (go w d3)
      · cases hlk2
    · exact absurd h0 (by omega)
    · exact absurd h0 (by omega)
    · exact absurd h0 (by omega)
/-- fields of a text outside: 0 value, 1 coder -/
def zc_getx (own : String) (cc : ByteArray) (pc nx which idx pos : Nat) : Bool := match which with
  | 0 => decide (nx = pc + 3 ∧ decode cc pc = .ok (.getfield idx, 3)) && zwx pos (.fieldLink own idx "java/lang/String" "value" "[B")
  | 1 => decide (nx = pc + 3 ∧ decode cc pc = .ok (.getfield idx, 3)) && zwx pos (.fieldLink own idx "java/lang/String" "coder" "B")
  | _ => false
noncomputable def zo_getx (k : ZK) (nx which : Nat) (L : ZL) (st : List ZV) (G : ZG) : Option ZRes := match st with
  | o :: r => zif (Nat.beq o.1 4) (zob (zq_xs o.2) fun kv => k nx L (zif (Nat.beq which 0) (4, kv) (0, 0) :: r) G) none
  | [] => none
theorem zs_getx {pc nx which idx pos kv : Nat} {o : ZV} {L : ZL} {r : List ZV} {G : ZG} (F : zF B0 Ls X p l s m args meth c own cc nL) (hc : zc_getx own cc pc nx which idx pos = true) (h1 : o.1 = 4) (h2 : zq_xs o.2 = some kv) (h : zHd B0 X ad0 n0 p l e R s m args below meth c Q nL nx L (zif (Nat.beq which 0) (4, kv) (0, 0) :: r) G) : zHd B0 X ad0 n0 p l e R s m args below meth c Q nL pc L (o :: r) G := by
  have use : ∀ {pos : Nat} {w : Jvm.Cond}, zwx pos w = true → w.before args s = true := fun h => zF_use F h
  obtain ⟨hx, hb, hml, hown, hts, hlk, hK, hF, hB, hst⟩ := F
  intro ad hag H locs ls sv hW hS hL hT
  obtain ⟨wo, sr, rfl, ho, hr⟩ := hT
  obtain ⟨t, u⟩ := o
  have h1 : t = 4 := h1
  subst h1
  have ho : wo = .ref (X.2.2.1 u) := ho
  subst ho
  obtain ⟨-, x1, x2⟩ := hF.2.2.1 u kv h2
  unfold zc_getx at hc
  split at hc
  · have hc := (Bool.and_eq_true _ _).mp hc
    obtain ⟨rfl, hd⟩ := of_decide_eq_true hc.1
    exact vk_getf hx hb x2 hS hown (use hc.2) (fun _ h => h) hd (h ad hag H locs ls _ hW hS hL ⟨_, _, rfl, rfl, hr⟩)
  · have hc := (Bool.and_eq_true _ _).mp hc
    obtain ⟨rfl, hd⟩ := of_decide_eq_true hc.1
    exact vk_getf hx hb x1 hS hown (use hc.2) (fun _ h => h) hd (h ad hag H locs ls _ hW hS hL ⟨_, _, rfl, rfl, hr⟩)
  · cases hc
noncomputable def zc_putf (own : String) (cc : ByteArray) (pc nx ci kf tk idx fl pos pos2 : Nat) : Bool := match zcl[ci]? with
  | some q => decide (nx = pc + 3 ∧ ci < 50 ∧ kf < q.2.2 ∧ decode cc pc = .ok (.putfield idx, 3) ∧ (q.2.1 kf).2.2.2 = Nat.beq fl 3 ∧ (fl = 3 → (q.2.1 kf).1 = own)) && zpt tk (zfty q.2.1 kf) && zlink own idx q.1 q.2.1 kf (zif (Nat.beq fl 3) 0 fl) pos pos2
  | none => false
noncomputable def zo_putf (k : ZK) (nx ci kf tk : Nat) (L : ZL) (st : List ZV) (G : ZG) : Option ZRes := match st with
  | v :: o :: r => zif (Nat.beq o.1 3) (zif (zpv tk v) (zob (zt_get 10 G.1 o.2) fun ob => zif (Nat.beq ob.1 ci) (zob (zt_set 18 ob.2.2 kf v) fun t => zob (zt_set 10 G.1 o.2 (ob.1, ob.2.1, t)) fun h => k nx L r (h, G.2)) none) none) none
  | _ => none
theorem zs_putf {pc nx ci kf tk idx fl pos pos2 : Nat} {o v : ZV} {ob : ZO} {t' : ZT ZV 18} {h' : ZH} {L : ZL} {r : List ZV} {G : ZG} (F : zF B0 Ls X p l s m args meth c own cc nL) (hini : fl = 3 → meth.name = "<init>") (hc : zc_putf own cc pc nx ci kf tk idx fl pos pos2 = true) (h1 : o.1 = 3) (h0v : zpv tk v = true) (h2 : zt_get 10 G.1 o.2 = some ob) (h3 : ob.1 = ci) (h4 : zt_set 18 ob.2.2 kf v = some t') (h5 : zt_set 10 G.1 o.2 (ob.1, ob.2.1, t') = some h') (h : zHd B0 X ad0 n0 p l e R s m args below meth c Q nL nx L r ((h', G.2))) : zHd B0 X ad0 n0 p l e R s m args below meth c Q nL pc L (v :: o :: r) G := by
  have use : ∀ {pos : Nat} {w : Jvm.Cond}, zwx pos w = true → w.before args s = true := fun h => zF_use F h
  obtain ⟨hx, hb, hml, hown, hts, hlk, hK, hF, hB, hst⟩ := F
  intro ad hag H locs ls sv hW hS hL hT
  obtain ⟨wv, s1, rfl, hv, wo, sr, rfl, ho, hr⟩ := hT
  obtain ⟨t, u⟩ := o
  have h1 : t = 3 := h1
  subst h1
  have ho : u < G.2.1 ∧ wo = .ref (ad u) := ho
  obtain ⟨hu, rfl⟩ := ho
  obtain ⟨ws, hl, hw, hP, hD⟩ := hW
  obtain ⟨o1, e1, a1, a2, a3⟩ := hw u hu
  have h2 : zt_get 10 G.1 u = some ob := h2
  have h5 : zt_set 10 G.1 u (ob.1, ob.2.1, t') = some h' := h5
  cases a1.symm.trans h2
  unfold zc_putf at hc
  cases hq : zcl[ci]? with
  | none => rw [hq] at hc; cases hc
  | some q =>
    obtain ⟨C, T, N⟩ := q
    rw [hq] at hc
    have hc := (Bool.and_eq_true _ _).mp hc
    have hc1 := (Bool.and_eq_true _ _).mp hc.1
    obtain ⟨rfl, h50, hkf, hd, hfin, hdecl⟩ := of_decide_eq_true hc1.1
    obtain ⟨n1, n2⟩ := zpv_ok hc1.2 h0v hv
    have a3 := zob0_of a3 (by omega)
    rcases a3 with ⟨h0, ⟨C2, T2, hC2⟩, fs, b1, b2, b3⟩ | ⟨h0, -⟩ | ⟨h0, -⟩ | ⟨h0, -⟩
    · rw [h3, hq] at hC2
      cases hC2
      rw [b1, h3] at a2
      obtain ⟨k1, k2, k3, k4, k5, k6, k7⟩ := zcl_ok hq
      have hz : zob1 X ad G.2.1 (ob.1, ob.2.1, t') (.inr (ci, fs.set kf wv)) := by
        refine Or.inl (Or.inl ⟨h0, ⟨C, T, by rw [h3]; exact hq⟩, fs.set kf wv, by rw [h3], by rw [List.length_set]; exact b2, fun j hj => ?_⟩)
        by_cases ej : j = kf
        · subst ej
          exact ⟨v, wv, by rw [zt_gs 18 _ _ _ _ _ h4, if_pos rfl], by rw [List.getElem?_set_self (by rw [b2]; exact hj)], hv⟩
        · obtain ⟨v2, w2, d1, d2, d3⟩ := b3 j hj
          exact ⟨v2, w2, by rw [zt_gs 18 _ _ _ _ _ h4, if_neg ej]; exact d1, by rw [List.getElem?_set_ne (Ne.symm ej)]; exact d2, d3⟩
      have go : ∀ (H1 : Heap) (locs1 : List Loc), va_P X.1 zcl (ws.set u (ad u, .inr (ci, fs.set kf wv))) H1 → va_D (zA B0) (ws.set u (ad u, .inr (ci, fs.set kf wv))) → va_S (zA B0) s.heap H1 locs1 → W p l e R s m args below meth c H1 locs1 G.2.2.1 G.2.2.2 Q (F0 m (pc + 3) ls sr) := fun H1 locs1 hP1 hD1 hS1 =>
        h ad hag H1 locs1 ls sr (zW1_set hl hw hu h5 hz hP1 hD1) hS1 hL hr
      have hkl : kf < fs.length := by rw [b2]; exact hkf
      have hlk2 := hc.2
      by_cases h3f : fl = 3
      · rw [h3f] at hlk2 hfin
        have hlk2 : zwx pos (.fieldLink own idx (T kf).1 (T kf).2.1 (T kf).2.2.1) = true := hlk2
        exact va_putF hx hb hts k1 (zfty T) k4 k5 hown hK hP hD hS u a2 hq kf hkf (use hlk2) (fun _ h => h) hfin (hini h3f) (hdecl h3f) (k4 kf hkf) n1 n2 hkl hd go
      · rw [zb_f h3f] at hlk2 hfin
        have hlk2 : zlink own idx C T kf fl pos pos2 = true := hlk2
        unfold zlink at hlk2
        split at hlk2
        · exact va_put hx hb hts k1 (zfty T) k4 k5 hown hK hP hD hS u a2 hq kf hkf (use hlk2) (fun _ h => h) hfin (k4 kf hkf) n1 n2 hkl hd go
        · exact va_putN hx hb hts k1 (zfty T) k4 k5 hown hK hP hD hS u a2 hq kf hkf (use hlk2) (fun _ h => h) hfin (k4 kf hkf) n1 n2 hkl hd go
        · have hlk3 := (Bool.and_eq_true _ _).mp hlk2
          exact va_put hx hb hts k1 (zfty T) k4 k5 hown hK hP hD hS u a2 hq kf hkf (use hlk3.1) (u_same (use hlk3.2)) hfin (k4 kf hkf) n1 n2 hkl hd go
        · cases hlk2
    · exact absurd h0 (by omega)
    · exact absurd h0 (by omega)
    · exact absurd h0 (by omega)
/-- a static field outside -/
def zc_gets (own : String) (cc : ByteArray) (pc nx t u sid idx fl pos : Nat) : Bool := match zq_st sid with
  | some (C, n, d, v) => decide (nx = pc + 3 ∧ v = (t, u) ∧ decode cc pc = .ok (.getstatic idx, 3)) && (match fl with
    | 0 => zwx pos (.fieldLink own idx C n d)
    | 1 => zwx pos (.fieldLinkNest own idx C n d "SchemaPascal")
    | _ => false)
  | none => false
theorem zs_gets {pc nx t u sid idx fl pos : Nat} {L : ZL} {st : List ZV} {G : ZG} (F : zF B0 Ls X p l s m args meth c own cc nL) (hc : zc_gets own cc pc nx t u sid idx fl pos = true) (h : zHd B0 X ad0 n0 p l e R s m args below meth c Q nL nx L ((t, u) :: st) G) : zHd B0 X ad0 n0 p l e R s m args below meth c Q nL pc L st G := by
  have use : ∀ {pos : Nat} {w : Jvm.Cond}, zwx pos w = true → w.before args s = true := fun h => zF_use F h
  obtain ⟨hx, hb, hml, hown, hts, hlk, hK, hF, hB, hst⟩ := F
  intro ad hag H locs ls sv hW hS hL hT
  unfold zc_gets at hc
  cases hq : zq_st sid with
  | none => rw [hq] at hc; cases hc
  | some q =>
    obtain ⟨C, n, d, v⟩ := q
    rw [hq] at hc
    have hc := (Bool.and_eq_true _ _).mp hc
    obtain ⟨rfl, rfl, hd⟩ := of_decide_eq_true hc.1
    obtain ⟨w, w1, w2⟩ := hF.2.1 sid C n d _ hq
    have go := h ad hag H locs ls (w :: sv) hW hS hL ⟨w, sv, rfl, w1 ad G.2.1, hT⟩
    have hl2 := hc.2
    split at hl2
    · exact va_gets hx hb w2 hS hown (use hl2) (fun _ h => h) hd go
    · exact va_getsN hx hb w2 hS hown (use hl2) (fun _ h => h) hd go
    · cases hl2
noncomputable def zo_alen (N : ZN) (k : ZK) (nx : Nat) (L : ZL) (st : List ZV) (G : ZG) : Option ZRes := match st with
  | o :: r => zif (Nat.beq o.1 3) (zob (zt_get 10 G.1 o.2) fun ob => zif (Nat.ble 50 ob.1) (k nx L ((0, ob.2.1) :: r) G) none)
      (zif (Nat.beq o.1 4) (zif (Nat.beq o.2 0) (zob (zfo 91 (0, 0) (0, 0) N.2.2.1) fun v => zif (zisi v) (k nx L (v :: r) G) none) (zob (zq_xt o.2) fun q => k nx L ((0, q.2.1) :: r) G)) none)
  | [] => none
theorem zkap_in (k : Nat) : zkap k ∈ zcodes := by
  unfold zkap
  split <;> decide
theorem zs_alen {pc nx : Nat} {o : ZV} {ob : ZO} {L : ZL} {r : List ZV} {G : ZG} (F : zF B0 Ls X p l s m args meth c own cc nL) (hc : decide (nx = pc + 1 ∧ decode cc pc = .ok (.arraylength, 1)) = true) (h1 : o.1 = 3) (h2 : zt_get 10 G.1 o.2 = some ob) (h3 : 50 ≤ ob.1) (h : zHd B0 X ad0 n0 p l e R s m args below meth c Q nL nx L ((0, ob.2.1) :: r) G) : zHd B0 X ad0 n0 p l e R s m args below meth c Q nL pc L (o :: r) G := by
  obtain ⟨rfl, hd⟩ := of_decide_eq_true hc
  obtain ⟨hx, hb, hml, hown, hts, hlk, hK, hF, hB, hst⟩ := F
  intro ad hag H locs ls sv hW hS hL hT
  obtain ⟨wo, sr, rfl, ho, hr⟩ := hT
  obtain ⟨t, u⟩ := o
  have h1 : t = 3 := h1
  subst h1
  have ho : u < G.2.1 ∧ wo = .ref (ad u) := ho
  obtain ⟨hu, rfl⟩ := ho
  have go := h ad hag H locs ls (.int (nI ob.2.1) :: sr) hW hS hL ⟨_, _, rfl, rfl, hr⟩
  obtain ⟨ws, hl, hw, hP, hD⟩ := hW
  obtain ⟨o1, e1, a1, a2, a3⟩ := hw u hu
  have h2 : zt_get 10 G.1 u = some ob := h2
  cases a1.symm.trans h2
  rcases a3 with a3 | ⟨h1k, ⟨h0, f, b1, -⟩ | ⟨h0, f, b1, -⟩⟩
  rcases a3 with ⟨h0, -⟩ | ⟨h0, h01, h02, f, b1, -⟩ | ⟨h0, f, b1, -⟩ | ⟨h0, h02, f, b1, -⟩
  · exact absurd h0 (by omega)
  · obtain ⟨t0, ht⟩ := ztys_at (X := X) h02
    rw [b1] at a2
    exact va_alen hx hb hK hP u t0 a2 ht rfl hd go
  · obtain ⟨t0, ht⟩ := ztys_at (X := X) (k := ob.1) (by rw [h0]; decide)
    rw [b1] at a2
    exact va_alen hx hb hK hP u t0 a2 ht rfl hd go
  · obtain ⟨t0, ht⟩ := ztys_at (X := X) h02
    rw [b1] at a2
    exact va_alen hx hb hK hP u t0 a2 ht rfl hd go
  · obtain ⟨t0, ht⟩ := ztys_at (X := X) (k := zkap ob.1) (zkap_in ob.1)
    rw [b1] at a2
    exact va_alen hx hb hK hP u t0 a2 ht rfl hd go
  · obtain ⟨t0, ht⟩ := ztys_at (X := X) (k := zkap ob.1) (zkap_in ob.1)
    rw [b1] at a2
    exact va_alen hx hb hK hP u t0 a2 ht rfl hd go
theorem zs_alenX {pc nx : Nat} {o : ZV} {q : Nat × Nat × ZT Nat 10} {L : ZL} {r : List ZV} {G : ZG} (F : zF B0 Ls X p l s m args meth c own cc nL) (hc : decide (nx = pc + 1 ∧ decode cc pc = .ok (.arraylength, 1)) = true) (h1 : o.1 = 4) (h2 : zq_xt o.2 = some q) (h : zHd B0 X ad0 n0 p l e R s m args below meth c Q nL nx L ((0, q.2.1) :: r) G) : zHd B0 X ad0 n0 p l e R s m args below meth c Q nL pc L (o :: r) G := by
  obtain ⟨rfl, hd⟩ := of_decide_eq_true hc
  obtain ⟨hx, hb, hml, hown, hts, hlk, hK, hF, hB, hst⟩ := F
  intro ad hag H locs ls sv hW hS hL hT
  obtain ⟨wo, sr, rfl, ho, hr⟩ := hT
  obtain ⟨t, u⟩ := o
  have h1 : t = 4 := h1
  subst h1
  have ho : wo = .ref (X.2.2.1 u) := ho
  subst ho
  obtain ⟨τ, N, tr⟩ := q
  exact va_tlen hx hb (hF.1 u τ N tr h2) hS rfl hd (h ad hag H locs ls _ hW hS hL ⟨_, _, rfl, rfl, hr⟩)
theorem zs_alenS {N : ZN} {pc nx : Nat} {o v : ZV} {L : ZL} {r : List ZV} {G : ZG} (F : zF B0 Ls X p l s m args meth c own cc nL) (hc : decide (nx = pc + 1 ∧ decode cc pc = .ok (.arraylength, 1)) = true) (hN : zNok X Ls N) (hv : zfo 91 (0, 0) (0, 0) N.2.2.1 = some v) (hvi : zisi v = true) (h1 : o.1 = 4) (h2 : o.2 = 0) (h : zHd B0 X ad0 n0 p l e R s m args below meth c Q nL nx L (v :: r) G) : zHd B0 X ad0 n0 p l e R s m args below meth c Q nL pc L (o :: r) G := by
  obtain ⟨rfl, hd⟩ := of_decide_eq_true hc
  obtain ⟨hx, hb, hml, hown, hts, hlk, hK, hF, hB, hst⟩ := F
  intro ad hag H locs ls sv hW hS hL hT
  obtain ⟨wo, sr, rfl, ho, hr⟩ := hT
  obtain ⟨t, u⟩ := o
  have h1 : t = 4 := h1
  have h2 : u = 0 := h2
  subst h1 h2
  have ho : wo = .ref (X.2.2.1 0) := ho
  subst ho
  obtain ⟨-, -, -, -, -, -, f7, f8, f9, -⟩ := hF
  have e9 : zvi X v = nI Ls := hN.2.2.1 _ (zfo_ok _ hv)
  exact va_slen hx hb f7 f8 f9 hS hd (h ad hag H locs ls _ hW hS hL ⟨_, _, rfl, (by have k := zvi_is (X := X) (ad := ad) (n := G.2.1) hvi; rw [e9] at k; exact k), hr⟩)
end ZS
