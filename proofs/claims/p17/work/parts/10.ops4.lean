/-! Elements of arrays; what is made; references compared. -/
noncomputable def zgd {α : Type} (o : Option α) (d : α) : α := @Option.rec α (fun _ => α) d (fun x => x) o
theorem zgd_eq {α : Type} (o : Option α) (d : α) : zgd o d = o.getD d := by cases o <;> rfl
/-- 0 iaload 1 baload 2 laload 3 aaload -/
def zalI (lt : Nat) : Instr := match lt with
  | 0 => .iaload
  | 1 => .baload
  | 2 => .laload
  | _ => .aaload
def zalk (lt κ : Nat) : Bool := match lt with
  | 0 => Nat.beq κ 50
  | 1 => Nat.beq κ 51 || Nat.beq κ 52
  | 2 => Nat.beq κ 60
  | 3 => Nat.ble 70 κ && Nat.ble κ 99
  | _ => false
def zald (lt : Nat) : ZV := match lt with
  | 2 => (1, 0)
  | 3 => (2, 0)
  | _ => (0, 0)
theorem zalk_lt {lt κ : Nat} (h : zalk lt κ = true) : κ < 1000 := by
  unfold zalk at h
  split at h
  · have := zb_eq h; omega
  · rcases (Bool.or_eq_true _ _).mp h with q | q
    · have := zb_eq q; omega
    · have := zb_eq q; omega
  · have := zb_eq h; omega
  · have := zl_le ((Bool.and_eq_true _ _).mp h).2; omega
  · cases h
theorem zty_ref {κ : Nat} (h : 70 ≤ κ) (hc : κ ∈ zcodes) : ∃ C, zty κ = .object C := by
  have k : κ = 70 ∨ κ = 71 ∨ κ = 72 := by
    simp [zcodes] at hc
    omega
  rcases k with rfl | rfl | rfl <;> exact ⟨_, rfl⟩
theorem zin_u {u n : Nat} (h : Nat.ble (Nat.succ u) n = true) (hn : Nat.ble n 2147483647 = true) : vp_in (nI u) n ∧ (nI u).toNatClampNeg = u ∧ u < n := by
  have h1 := zl_le h
  have h2 := zl_le hn
  exact ⟨vp_in_nI h1 (by omega), nI_clamp (by omega), h1⟩
theorem zin_k {k n : Nat} (h : k < n) (h2 : k < 2147483648) : vp_in (nI k) n := by
  intro z
  rcases z with z | z
  · exact nI_pos (by omega) z
  · rw [nI_clamp (by omega)] at z
    omega
theorem zv0 {X : ZX} {ad : Nat → Nat} {n : Nat} (u : Nat) : zv X ad n (0, u) (.int (nI u)) := rfl
section ZS
variable {B0 Ls : Nat} {X : ZX} {p : Program} {l : Launch} {e : Env} {R : Room} {s : State} {m : MethodId} {args : Array Value} {below : List Frame} {meth : Method} {c : Code} {Q : State → Prop} {own : String} {cc : ByteArray} {nL : Nat} {ad0 : Nat → Nat} {n0 : Nat}
theorem zs_ald {pc nx lt u : Nat} {o : ZV} {ob : ZO} {L : ZL} {r : List ZV} {G : ZG} (F : zF B0 Ls X p l s m args meth c own cc nL) (hc : decide (nx = pc + 1 ∧ decode cc pc = .ok (zalI lt, 1)) = true) (h1 : o.1 = 3) (h2 : zt_get 10 G.1 o.2 = some ob) (hk : zalk lt ob.1 = true) (hu : Nat.ble (Nat.succ u) ob.2.1 = true) (hn : Nat.ble ob.2.1 2147483647 = true)
    (h : zHd B0 X ad0 n0 p l e R s m args below meth c Q nL nx L (zgd (zt_get 18 ob.2.2 u) (zald lt) :: r) G) : zHd B0 X ad0 n0 p l e R s m args below meth c Q nL pc L ((0, u) :: o :: r) G := by
  obtain ⟨rfl, hd⟩ := of_decide_eq_true hc
  obtain ⟨hx, hb, hml, hown, hts, hlk, hK, hF, hB, hst⟩ := F
  intro ad hag H locs ls sv hW hS hL hT
  obtain ⟨wi, s1, rfl, hi, wo, sr, rfl, ho, hr⟩ := hT
  have hi : wi = .int (nI u) := hi
  subst hi
  obtain ⟨t, k⟩ := o
  have h1 : t = 3 := h1
  subst h1
  have ho : k < G.2.1 ∧ wo = .ref (ad k) := ho
  obtain ⟨hkn, rfl⟩ := ho
  obtain ⟨i1, i2, i3⟩ := zin_u hu hn
  have go : ∀ w : Value, zv X ad G.2.1 (zgd (zt_get 18 ob.2.2 u) (zald lt)) w → W p l e R s m args below meth c H locs G.2.2.1 G.2.2.2 Q (F0 m (pc + 1) ls (w :: sr)) := fun w hw => h ad hag H locs ls _ hW hS hL ⟨_, _, rfl, hw, hr⟩
  obtain ⟨ws, hl, hw, hP, hD⟩ := hW
  obtain ⟨o1, e1, a1, a2, a3⟩ := hw k hkn
  have h2 : zt_get 10 G.1 k = some ob := h2
  cases a1.symm.trans h2
  have a3 := zob0_of a3 (zalk_lt hk)
  rcases a3 with ⟨h0, -⟩ | ⟨h0, h01, h02, f, b1, b2⟩ | ⟨h0, f, b1, b2⟩ | ⟨h0, h02, f, b1, b2⟩
  · exfalso
    unfold zalk at hk
    split at hk
    · have := zb_eq hk; omega
    · rcases (Bool.or_eq_true _ _).mp hk with q | q
      · have := zb_eq q; omega
      · have := zb_eq q; omega
    · have := zb_eq hk; omega
    · have := zl_le ((Bool.and_eq_true _ _).mp hk).1; omega
    · cases hk
  · obtain ⟨t0, ht⟩ := ztys_at (X := X) h02
    have b3 := b2 u i3
    rw [b1] at a2
    unfold zalk at hk
    split at hk
    · have q := zb_eq hk
      rw [show zty ob.1 = .int by rw [q]; rfl] at ht
      exact va_iald hx hb hK hP k t0 a2 ht i1 hd (go _ (by rw [i2, zgd_eq]; exact b3))
    · rcases (Bool.or_eq_true _ _).mp hk with q | q
      · have q := zb_eq q
        rw [show zty ob.1 = .byte by rw [q]; rfl] at ht
        exact va_bald hx hb hK hP k t0 a2 ht i1 hd (go _ (by rw [i2, zgd_eq]; exact b3))
      · have q := zb_eq q
        rw [show zty ob.1 = .boolean by rw [q]; rfl] at ht
        exact va_zald hx hb hK hP k t0 a2 ht i1 hd (go _ (by rw [i2, zgd_eq]; exact b3))
    · have := zb_eq hk; omega
    · have := zl_le ((Bool.and_eq_true _ _).mp hk).1; omega
    · cases hk
  · have b3 := b2 u i3
    obtain ⟨t0, ht⟩ := ztys_at (X := X) (k := ob.1) (by rw [h0]; decide)
    rw [b1] at a2
    unfold zalk at hk
    split at hk
    · have := zb_eq hk; omega
    · rcases (Bool.or_eq_true _ _).mp hk with q | q
      · have := zb_eq q; omega
      · have := zb_eq q; omega
    · rw [show zty ob.1 = .long by rw [h0]; rfl] at ht
      exact va_lald hx hb hK hP k t0 a2 ht i1 hd (go _ (by rw [i2, zgd_eq]; exact b3))
    · have := zl_le ((Bool.and_eq_true _ _).mp hk).1; omega
    · cases hk
  · have b3 := b2 u i3
    obtain ⟨t0, ht⟩ := ztys_at (X := X) h02
    obtain ⟨C, hC⟩ := zty_ref h0 h02
    rw [b1] at a2
    rw [hC] at ht
    unfold zalk at hk
    split at hk
    · have := zb_eq hk; omega
    · rcases (Bool.or_eq_true _ _).mp hk with q | q
      · have := zb_eq q; omega
      · have := zb_eq q; omega
    · have := zb_eq hk; omega
    · exact va_aldq hx hb hK hP k t0 a2 ht i1 hd (go _ (by rw [i2, zgd_eq]; exact b3))
    · cases hk
theorem zs_aldX {pc nx lt u τ N : Nat} {o : ZV} {tr : ZT Nat 10} {L : ZL} {r : List ZV} {G : ZG} (F : zF B0 Ls X p l s m args meth c own cc nL) (hc : decide (nx = pc + 1 ∧ decode cc pc = .ok (zalI lt, 1)) = true) (h1 : o.1 = 4) (h2 : zq_xt o.2 = some (τ, N, tr)) (hk : (lt = 0 ∧ τ = 50) ∨ (lt = 1 ∧ τ = 51)) (hu : Nat.ble (Nat.succ u) N = true) (hn : Nat.ble N 2147483647 = true)
    (h : zHd B0 X ad0 n0 p l e R s m args below meth c Q nL nx L ((0, zgd (zt_get 10 tr u) 0) :: r) G) : zHd B0 X ad0 n0 p l e R s m args below meth c Q nL pc L ((0, u) :: o :: r) G := by
  obtain ⟨rfl, hd⟩ := of_decide_eq_true hc
  obtain ⟨hx, hb, hml, hown, hts, hlk, hK, hF, hB, hst⟩ := F
  intro ad hag H locs ls sv hW hS hL hT
  obtain ⟨wi, s1, rfl, hi, wo, sr, rfl, ho, hr⟩ := hT
  have hi : wi = .int (nI u) := hi
  subst hi
  obtain ⟨t, k⟩ := o
  have h1 : t = 4 := h1
  subst h1
  have ho : wo = .ref (X.2.2.1 k) := ho
  subst ho
  obtain ⟨i1, i2, i3⟩ := zin_u hu hn
  have go := h ad hag H locs ls (.int (nI (zgd (zt_get 10 tr u) 0)) :: sr) hW hS hL ⟨_, _, rfl, rfl, hr⟩
  have hT := hF.1 k τ N tr h2
  rcases hk with ⟨rfl, rfl⟩ | ⟨rfl, rfl⟩
  · exact va_ti hx hb hT hS i1 (by rw [i2, zgd_eq]) hd go
  · exact va_tb hx hb hT hS i1 (by rw [i2, zgd_eq]) hd go
theorem zs_aldS {N : ZN} {pc nx : Nat} {o i v : ZV} {L : ZL} {r : List ZV} {G : ZG} (F : zF B0 Ls X p l s m args meth c own cc nL) (hN : zNok X Ls N) (hc : decide (nx = pc + 1 ∧ decode cc pc = .ok (.iaload, 1)) = true) (h1 : o.1 = 4) (h2 : o.2 = 0) (hi : zisi i = true) (hv : zfo 90 i (0, 0) N.2.2.1 = some v) (hvi : zisi v = true)
    (h : zHd B0 X ad0 n0 p l e R s m args below meth c Q nL nx L (v :: r) G) : zHd B0 X ad0 n0 p l e R s m args below meth c Q nL pc L (i :: o :: r) G := by
  obtain ⟨rfl, hd⟩ := of_decide_eq_true hc
  obtain ⟨hx, hb, hml, hown, hts, hlk, hK, hF, hB, hst⟩ := F
  intro ad hag H locs ls sv hW hS hL hT
  obtain ⟨wi, s1, rfl, hwi, wo, sr, rfl, ho, hr⟩ := hT
  obtain ⟨j, j1, j2, j3, j4⟩ : ∃ j : Nat, j < Ls ∧ Ls ≤ 2147483647 ∧ zvi X i = nI j ∧ zvi X v = X.2.2.2.1 j := hN.2.2.1 _ (zfo_ok _ hv)
  have hwi2 := zvi_ok hi hwi
  rw [j3] at hwi2
  subst hwi2
  obtain ⟨t, k⟩ := o
  have h1 : t = 4 := h1
  have h2 : k = 0 := h2
  subst h1 h2
  have ho : wo = .ref (X.2.2.1 0) := ho
  subst ho
  obtain ⟨-, -, -, -, -, -, f7, f8, f9, -⟩ := hF
  have ev := zvi_is (X := X) (ad := ad) (n := G.2.1) hvi
  rw [j4] at ev
  exact va_sld hx hb f7 f8 f9 hS (vp_in_nI j1 (by omega)) hd (h ad hag H locs ls _ hW hS hL ⟨_, _, rfl, by rw [nI_clamp (by omega)]; exact ev, hr⟩)
/-- an element of a symbolic array -/
def zkty (lt κ : Nat) : Bool := match lt with
  | 0 => Nat.beq (κ % 4) 0
  | 1 => Nat.beq (κ % 4) 1
  | 2 => Nat.beq (κ % 4) 2
  | _ => false
theorem zs_aldY {N : ZN} {pc nx lt sl : Nat} {o i v : ZV} {ob : ZO} {L : ZL} {r : List ZV} {G : ZG} (F : zF B0 Ls X p l s m args meth c own cc nL) (hN : zNok X Ls N) (hc : decide (nx = pc + 1 ∧ decode cc pc = .ok (zalI lt, 1)) = true) (h1 : o.1 = 3) (h2 : zt_get 10 G.1 o.2 = some ob) (hk : Nat.ble 1000 ob.1 = true) (hty : zkty lt ob.1 = true) (hi : zisi i = true) (hsl : zfk (Nat.div ob.1 4) i N.2.2.2 = some sl) (hv : zt_get 18 ob.2.2 sl = some v)
    (h : zHd B0 X ad0 n0 p l e R s m args below meth c Q nL nx L (v :: r) G) : zHd B0 X ad0 n0 p l e R s m args below meth c Q nL pc L (i :: o :: r) G := by
  obtain ⟨rfl, hd⟩ := of_decide_eq_true hc
  obtain ⟨hx, hb, hml, hown, hts, hlk, hK, hF, hB, hst⟩ := F
  intro ad hag H locs ls sv hW hS hL hT
  obtain ⟨wi, s1, rfl, hwi, wo, sr, rfl, ho, hr⟩ := hT
  obtain ⟨j1, j2⟩ := hN.2.2.2.1 _ (zfk_ok _ hsl)
  have j1 : zvi X i = nI (zkv X (ob.1 / 4) sl) := j1
  have j2 : zkv X (ob.1 / 4) sl < 2147483648 := j2
  have hwi2 := zvi_ok hi hwi
  rw [j1] at hwi2
  subst hwi2
  obtain ⟨t, k⟩ := o
  have h1 : t = 3 := h1
  subst h1
  have ho : k < G.2.1 ∧ wo = .ref (ad k) := ho
  obtain ⟨hkn, rfl⟩ := ho
  have go : ∀ w : Value, zv X ad G.2.1 v w → W p l e R s m args below meth c H locs G.2.2.1 G.2.2.2 Q (F0 m (pc + 1) ls (w :: sr)) := fun w hw => h ad hag H locs ls _ hW hS hL ⟨_, _, rfl, hw, hr⟩
  obtain ⟨ws, hl, hw, hP, hD⟩ := hW
  obtain ⟨o1, e1, a1, a2, a3⟩ := hw k hkn
  have h2 : zt_get 10 G.1 k = some ob := h2
  cases a1.symm.trans h2
  have a3 := zsya_of a3 (zl_le hk) (by decide)
  obtain ⟨t0, ht⟩ := ztys_at (X := X) (k := zkap ob.1) (zkap_in ob.1)
  obtain ⟨h1k, ⟨h0, f, b1, b2, b3⟩ | ⟨h0, f, b1, b2, b3⟩⟩ := a3
  · obtain ⟨c1, c2⟩ := b2 sl v hv
    rw [b1] at a2
    unfold zkty at hty
    split at hty
    · have e0 := zb_eq hty
      rw [show zty (zkap ob.1) = .int by unfold zkap; rw [e0]; rfl] at ht
      exact va_iald hx hb hK hP k t0 a2 ht (zin_k c1 j2) hd (go _ (by rw [nI_clamp (by omega)]; exact c2))
    · have e0 := zb_eq hty
      rw [show zty (zkap ob.1) = .byte by unfold zkap; rw [e0]; rfl] at ht
      exact va_bald hx hb hK hP k t0 a2 ht (zin_k c1 j2) hd (go _ (by rw [nI_clamp (by omega)]; exact c2))
    · have e0 := zb_eq hty; omega
    · cases hty
  · obtain ⟨c1, c2⟩ := b2 sl v hv
    rw [b1] at a2
    unfold zkty at hty
    split at hty
    · have e0 := zb_eq hty; omega
    · have e0 := zb_eq hty; omega
    · rw [show zty (zkap ob.1) = .long by unfold zkap; rw [h0]; rfl] at ht
      exact va_lald hx hb hK hP k t0 a2 ht (zin_k c1 j2) hd (go _ (by rw [nI_clamp (by omega)]; exact c2))
    · cases hty
noncomputable def zo_aldY (N : ZN) (k : ZK) (nx lt : Nat) (i : ZV) (ob : ZO) (L : ZL) (r : List ZV) (G : ZG) : Option ZRes := zif (zkty lt ob.1) (zif (zisi i) (zob (zfk (Nat.div ob.1 4) i N.2.2.2) fun sl => zob (zt_get 18 ob.2.2 sl) fun v => k nx L (v :: r) G) none) none
noncomputable def zo_aldS (N : ZN) (k : ZK) (nx lt : Nat) (i : ZV) (L : ZL) (r : List ZV) (G : ZG) : Option ZRes := zif (Nat.beq lt 0) (zif (zisi i) (zob (zfo 90 i (0, 0) N.2.2.1) fun v => zif (zisi v) (k nx L (v :: r) G) none) none) none
noncomputable def zo_ald (N : ZN) (k : ZK) (nx lt : Nat) (L : ZL) (st : List ZV) (G : ZG) : Option ZRes := match st with
  | i :: o :: r =>
      zif (Nat.beq o.1 3) (zob (zt_get 10 G.1 o.2) fun ob => zif (Nat.ble 1000 ob.1) (zo_aldY N k nx lt i ob L r G)
          (zif (Nat.beq i.1 0) (zif (zalk lt ob.1) (zif (Nat.ble (Nat.succ i.2) ob.2.1) (zif (Nat.ble ob.2.1 2147483647) (k nx L (zgd (zt_get 18 ob.2.2 i.2) (zald lt) :: r) G) none) none) none) none))
        (zif (Nat.beq o.1 4)
          (zif (Nat.beq o.2 0) (zo_aldS N k nx lt i L r G)
            (zif (Nat.beq i.1 0) (zob (zq_xt o.2) fun q => zif (zif (Nat.beq lt 0) (Nat.beq q.1 50) (zif (Nat.beq lt 1) (Nat.beq q.1 51) false)) (zif (Nat.ble (Nat.succ i.2) q.2.1) (zif (Nat.ble q.2.1 2147483647) (k nx L ((0, zgd (zt_get 10 q.2.2 i.2) 0) :: r) G) none) none) none) none))
          none)
  | _ => none
/-- stores: 0 iastore 1 bastore 2 lastore 3 aastore -/
def zasI (lt : Nat) : Instr := match lt with
  | 0 => .iastore
  | 1 => .bastore
  | 2 => .lastore
  | _ => .aastore
noncomputable def zasv (lt κ : Nat) (v : ZV) : Option ZV := match lt with
  | 0 => zif (Nat.beq κ 50) (zif (zint v) (some v) none) none
  | 1 => zif (Nat.beq κ 51) (zif (Nat.beq v.1 0) (some (0, zsb v.2)) (zif (zint v) (some (6, 0)) none)) (zif (Nat.beq κ 52) (zif (Nat.beq v.1 0) (some (0, Nat.land v.2 1)) none) none)
  | 2 => zif (Nat.beq κ 60) (zif (zlong v) (some v) none) none
  | _ => none
theorem zasv_lt {lt κ : Nat} {v v' : ZV} (h : zasv lt κ v = some v') : κ < 1000 := by
  unfold zasv at h
  split at h
  · have := zb_eq (zif_some h).1; omega
  · rcases zif_or h with ⟨e, -⟩ | ⟨-, h⟩
    · have := zb_eq e; omega
    · have := zb_eq (zif_some h).1; omega
  · have := zb_eq (zif_some h).1; omega
  · cases h
theorem zs_asi {pc nx lt u : Nat} {o v v' : ZV} {ob : ZO} {t' : ZT ZV 18} {h' : ZH} {L : ZL} {r : List ZV} {G : ZG} (F : zF B0 Ls X p l s m args meth c own cc nL) (hc : decide (nx = pc + 1 ∧ decode cc pc = .ok (zasI lt, 1)) = true) (h1 : o.1 = 3) (h2 : zt_get 10 G.1 o.2 = some ob) (hv' : zasv lt ob.1 v = some v') (hu : Nat.ble (Nat.succ u) ob.2.1 = true) (hn : Nat.ble ob.2.1 2147483647 = true) (h4 : zt_set 18 ob.2.2 u v' = some t') (h5 : zt_set 10 G.1 o.2 (ob.1, ob.2.1, t') = some h')
    (h : zHd B0 X ad0 n0 p l e R s m args below meth c Q nL nx L r ((h', G.2))) : zHd B0 X ad0 n0 p l e R s m args below meth c Q nL pc L (v :: (0, u) :: o :: r) G := by
  obtain ⟨rfl, hd⟩ := of_decide_eq_true hc
  obtain ⟨hx, hb, hml, hown, hts, hlk, hK, hF, hB, hst⟩ := F
  intro ad hag H locs ls sv hW hS hL hT
  obtain ⟨wv, s0, rfl, hv, wi, s1, rfl, hi, wo, sr, rfl, ho, hr⟩ := hT
  have hi : wi = .int (nI u) := hi
  subst hi
  obtain ⟨t, k⟩ := o
  have h1 : t = 3 := h1
  subst h1
  have ho : k < G.2.1 ∧ wo = .ref (ad k) := ho
  obtain ⟨hkn, rfl⟩ := ho
  obtain ⟨i1, i2, i3⟩ := zin_u hu hn
  obtain ⟨ws, hl, hw, hP, hD⟩ := hW
  obtain ⟨o1, e1, a1, a2, a3⟩ := hw k hkn
  have h2 : zt_get 10 G.1 k = some ob := h2
  have h5 : zt_set 10 G.1 k (ob.1, ob.2.1, t') = some h' := h5
  cases a1.symm.trans h2
  have a3 := zob0_of a3 (zasv_lt hv')
  have fin : ∀ (e' : va_E), zob1 X ad G.2.1 (ob.1, ob.2.1, t') e' → ∀ (H1 : Heap) (locs1 : List Loc), va_P X.1 zcl (ws.set k (ad k, e')) H1 → va_D (zA B0) (ws.set k (ad k, e')) → va_S (zA B0) s.heap H1 locs1 → W p l e R s m args below meth c H1 locs1 G.2.2.1 G.2.2.2 Q (F0 m (pc + 1) ls sr) := fun e' hz H1 locs1 hP1 hD1 hS1 =>
    h ad hag H1 locs1 ls sr (zW1_set hl hw hkn h5 hz hP1 hD1) hS1 hL hr
  have fi : ∀ (f : Nat → Int32) (z : Int32), 50 ≤ ob.1 → ob.1 < 60 → ob.1 ∈ zcodes → (∀ j, j < ob.2.1 → zv X ad G.2.1 ((zt_get 18 ob.2.2 j).getD (0, 0)) (.int (f j))) → zv X ad G.2.1 v' (.int z) → zob1 X ad G.2.1 (ob.1, ob.2.1, t') (.inl (X.2.1 ob.1, ob.2.1, .inl (upd f (nI u).toNatClampNeg z))) := by
    intro f z q1 q2 q3 q4 q5
    refine Or.inl (Or.inr (Or.inl ⟨q1, q2, q3, _, rfl, fun j hj => ?_⟩))
    rw [i2]
    show zv X ad G.2.1 ((zt_get 18 t' j).getD (0, 0)) (.int (if j = u then z else f j))
    rw [zt_gs 18 _ _ _ _ _ h4]
    by_cases ej : j = u
    · rw [if_pos ej, if_pos ej]; exact q5
    · rw [if_neg ej, if_neg ej]; exact q4 j hj
  unfold zasv at hv'
  split at hv'
  · obtain ⟨g1, hv1⟩ := zif_some hv'
    obtain ⟨g2, hv2⟩ := zif_some hv1
    cases hv2
    have g1 := zb_eq g1
    obtain ⟨x, rfl⟩ := zint_ok g2 hv
    rcases a3 with ⟨h0, -⟩ | ⟨h0, h01, h02, f, b1, b2⟩ | ⟨h0, -⟩ | ⟨h0, -⟩
    · exact absurd h0 (by omega)
    · obtain ⟨t0, ht⟩ := ztys_at (X := X) h02
      rw [show zty ob.1 = .int by rw [g1]; rfl] at ht
      rw [b1] at a2
      exact va_iast hx hb hK hP hD hS k t0 a2 ht i1 hd (fin _ (fi f x h0 h01 h02 b2 hv))
    · exact absurd h0 (by omega)
    · exact absurd h0 (by omega)
  · rcases zif_or hv' with ⟨g1, hv1⟩ | ⟨-, hv1⟩
    · have g1 := zb_eq g1
      obtain ⟨x, rfl, hz⟩ : ∃ x : Int32, wv = .int x ∧ zv X ad G.2.1 v' (.int (vp_nar .byte x)) := by
        obtain ⟨tv, uv⟩ := v
        rcases zif_or hv1 with ⟨g2, hv2⟩ | ⟨-, hv2⟩
        · have g2 : tv = 0 := zb_eq g2
          subst g2
          have hv : wv = .int (nI uv) := hv
          have hv3 : (0, zsb uv) = v' := Option.some.inj hv2
          refine ⟨nI uv, hv, ?_⟩
          rw [vp_nar_byte, zi2b, ← hv3]
          exact zv0 _
        · obtain ⟨g2, hv3⟩ := zif_some hv2
          have hv4 : (6, 0) = v' := Option.some.inj hv3
          obtain ⟨x, hx2⟩ := zint_ok g2 hv
          refine ⟨x, hx2, ?_⟩
          rw [← hv4]
          exact ⟨_, rfl⟩
      rcases a3 with ⟨h0, -⟩ | ⟨h0, h01, h02, f, b1, b2⟩ | ⟨h0, -⟩ | ⟨h0, -⟩
      · exact absurd h0 (by omega)
      · obtain ⟨t0, ht⟩ := ztys_at (X := X) h02
        rw [show zty ob.1 = .byte by rw [g1]; rfl] at ht
        rw [b1] at a2
        exact va_bast hx hb hK hP hD hS k t0 a2 ht i1 hd (fin _ (fi f _ h0 h01 h02 b2 hz))
      · exact absurd h0 (by omega)
      · exact absurd h0 (by omega)
    · obtain ⟨g1, hv2⟩ := zif_some hv1
      have g1 := zb_eq g1
      obtain ⟨g2, hv3⟩ := zif_some hv2
      obtain ⟨tv, uv⟩ := v
      have g2 : tv = 0 := zb_eq g2
      subst g2
      have hv : wv = .int (nI uv) := hv
      subst hv
      have hv4 : (0, Nat.land uv 1) = v' := Option.some.inj hv3
      have hz : zv X ad G.2.1 v' (.int (vp_nar .boolean (nI uv))) := by
        rw [← hv4]
        show Value.int (nI uv &&& nI 1) = .int (nI (Nat.land uv 1))
        rw [zand]
      rcases a3 with ⟨h0, -⟩ | ⟨h0, h01, h02, f, b1, b2⟩ | ⟨h0, -⟩ | ⟨h0, -⟩
      · exact absurd h0 (by omega)
      · obtain ⟨t0, ht⟩ := ztys_at (X := X) h02
        rw [show zty ob.1 = .boolean by rw [g1]; rfl] at ht
        rw [b1] at a2
        exact va_zast hx hb hK hP hD hS k t0 a2 ht i1 hd (fin _ (fi f _ h0 h01 h02 b2 hz))
      · exact absurd h0 (by omega)
      · exact absurd h0 (by omega)
  · obtain ⟨g1, hv1⟩ := zif_some hv'
    obtain ⟨g2, hv2⟩ := zif_some hv1
    cases hv2
    have g1 := zb_eq g1
    obtain ⟨x, rfl⟩ := zlong_ok g2 hv
    rcases a3 with ⟨h0, -⟩ | ⟨h0, h01, -⟩ | ⟨h0, f, b1, b2⟩ | ⟨h0, -⟩
    · exact absurd h0 (by omega)
    · exact absurd h0 (by omega)
    · obtain ⟨t0, ht⟩ := ztys_at (X := X) (k := ob.1) (by rw [h0]; decide)
      rw [show zty ob.1 = .long by rw [g1]; rfl] at ht
      rw [b1] at a2
      refine va_last hx hb hK hP hD hS k t0 a2 ht i1 hd (fin _ (Or.inl (Or.inr (Or.inr (Or.inl ⟨h0, _, rfl, fun j hj => ?_⟩)))))
      rw [i2]
      show zv X ad G.2.1 ((zt_get 18 t' j).getD (1, 0)) (.long (if j = u then x else f j))
      rw [zt_gs 18 _ _ _ _ _ h4]
      by_cases ej : j = u
      · rw [if_pos ej, if_pos ej]; exact hv
      · rw [if_neg ej, if_neg ej]; exact b2 j hj
    · exact absurd h0 (by omega)
  · cases hv'
/-- what is stored stands there already -/
theorem zs_asK {pc nx u : Nat} {o v : ZV} {ob : ZO} {L : ZL} {r : List ZV} {G : ZG} (F : zF B0 Ls X p l s m args meth c own cc nL) (hc : decide (nx = pc + 1 ∧ decode cc pc = .ok (.iastore, 1)) = true) (h1 : o.1 = 3) (h2 : zt_get 10 G.1 o.2 = some ob) (hk : ob.1 = 50) (hv' : zint v = true) (hu : Nat.ble (Nat.succ u) ob.2.1 = true) (hn : Nat.ble ob.2.1 2147483647 = true) (h4 : (zt_get 18 ob.2.2 u).getD (0, 0) = v)
    (h : zHd B0 X ad0 n0 p l e R s m args below meth c Q nL nx L r G) : zHd B0 X ad0 n0 p l e R s m args below meth c Q nL pc L (v :: (0, u) :: o :: r) G := by
  obtain ⟨rfl, hd⟩ := of_decide_eq_true hc
  obtain ⟨hx, hb, hml, hown, hts, hlk, hK, hF, hB, hst⟩ := F
  intro ad hag H locs ls sv hW hS hL hT
  obtain ⟨wv, s0, rfl, hv, wi, s1, rfl, hi, wo, sr, rfl, ho, hr⟩ := hT
  have hi : wi = .int (nI u) := hi
  subst hi
  obtain ⟨t, k⟩ := o
  have h1 : t = 3 := h1
  subst h1
  have ho : k < G.2.1 ∧ wo = .ref (ad k) := ho
  obtain ⟨hkn, rfl⟩ := ho
  obtain ⟨i1, i2, i3⟩ := zin_u hu hn
  obtain ⟨ws, hl, hw, hP, hD⟩ := hW
  obtain ⟨o1, e1, a1, a2, a3⟩ := hw k hkn
  have h2 : zt_get 10 G.1 k = some ob := h2
  cases a1.symm.trans h2
  obtain ⟨x, rfl⟩ := zint_ok hv' hv
  have a3 := zob0_of a3 (by omega)
  rcases a3 with ⟨h0, -⟩ | ⟨h0, h01, h02, f, b1, b2⟩ | ⟨h0, -⟩ | ⟨h0, -⟩
  · exact absurd h0 (by omega)
  · obtain ⟨t0, ht⟩ := ztys_at (X := X) h02
    rw [show zty ob.1 = .int by rw [hk]; rfl] at ht
    rw [b1] at a2
    refine va_iast hx hb hK hP hD hS k t0 a2 ht i1 hd fun H1 locs1 hP1 hD1 hS1 => h ad hag H1 locs1 ls sr ?_ hS1 hL hr
    refine ⟨_, by rw [List.length_set]; exact hl, fun j hj => ?_, hP1, hD1⟩
    by_cases ej : j = k
    · subst ej
      refine ⟨ob, _, a1, by rw [List.getElem?_set_self (by omega)], Or.inl (Or.inr (Or.inl ⟨h0, h01, h02, _, rfl, fun i hi => ?_⟩))⟩
      rw [i2]
      show zv X ad G.2.1 ((zt_get 18 ob.2.2 i).getD (0, 0)) (.int (if i = u then x else f i))
      by_cases ei : i = u
      · rw [if_pos ei, ei, h4]; exact hv
      · rw [if_neg ei]; exact b2 i hi
    · obtain ⟨o9, e9, g1, g2, g3⟩ := hw j hj
      exact ⟨o9, e9, g1, by rw [List.getElem?_set_ne (Ne.symm ej)]; exact g2, g3⟩
  · exact absurd h0 (by omega)
  · exact absurd h0 (by omega)
noncomputable def zcst (ci κ : Nat) : Bool := zcasts.any fun q => Nat.beq q.1 ci && Nat.beq q.2.1 κ
theorem zs_asN {pc nx u : Nat} {o v : ZV} {ob : ZO} {t' : ZT ZV 18} {h' : ZH} {L : ZL} {r : List ZV} {G : ZG} (F : zF B0 Ls X p l s m args meth c own cc nL) (hc : decide (nx = pc + 1 ∧ decode cc pc = .ok (.aastore, 1)) = true) (h1 : o.1 = 3) (h2 : zt_get 10 G.1 o.2 = some ob) (hk : 70 ≤ ob.1) (hk9 : ob.1 ≤ 99) (hv' : v.1 = 2) (hu : Nat.ble (Nat.succ u) ob.2.1 = true) (hn : Nat.ble ob.2.1 2147483647 = true) (h4 : zt_set 18 ob.2.2 u v = some t') (h5 : zt_set 10 G.1 o.2 (ob.1, ob.2.1, t') = some h')
    (h : zHd B0 X ad0 n0 p l e R s m args below meth c Q nL nx L r ((h', G.2))) : zHd B0 X ad0 n0 p l e R s m args below meth c Q nL pc L (v :: (0, u) :: o :: r) G := by
  obtain ⟨rfl, hd⟩ := of_decide_eq_true hc
  obtain ⟨hx, hb, hml, hown, hts, hlk, hK, hF, hB, hst⟩ := F
  intro ad hag H locs ls sv hW hS hL hT
  obtain ⟨wv, s0, rfl, hv, wi, s1, rfl, hi, wo, sr, rfl, ho, hr⟩ := hT
  have hi : wi = .int (nI u) := hi
  subst hi
  obtain ⟨t, k⟩ := o
  have h1 : t = 3 := h1
  subst h1
  obtain ⟨tv, uv⟩ := v
  have hv' : tv = 2 := hv'
  subst hv'
  have hv1 : wv = .null := hv
  subst hv1
  have ho : k < G.2.1 ∧ wo = .ref (ad k) := ho
  obtain ⟨hkn, rfl⟩ := ho
  obtain ⟨i1, i2, i3⟩ := zin_u hu hn
  obtain ⟨ws, hl, hw, hP, hD⟩ := hW
  obtain ⟨o1, e1, a1, a2, a3⟩ := hw k hkn
  have h2 : zt_get 10 G.1 k = some ob := h2
  have h5 : zt_set 10 G.1 k (ob.1, ob.2.1, t') = some h' := h5
  cases a1.symm.trans h2
  have a3 := zob0_of a3 (by omega)
  rcases a3 with ⟨h0, -⟩ | ⟨h0, h01, -⟩ | ⟨h0, -⟩ | ⟨h0, h02, f, b1, b2⟩
  · exact absurd h0 (by omega)
  · exact absurd h01 (by omega)
  · exact absurd h0 (by omega)
  · obtain ⟨t0, ht⟩ := ztys_at (X := X) h02
    obtain ⟨C, hC⟩ := zty_ref h0 h02
    rw [hC] at ht
    rw [b1] at a2
    refine va_astqN hx hb hK hP hD hS k t0 a2 ht i1 hd fun H1 locs1 hP1 hD1 hS1 => h ad hag H1 locs1 ls sr (zW1_set hl hw hkn h5 (Or.inl (Or.inr (Or.inr (Or.inr ⟨h0, h02, _, rfl, fun j hj => ?_⟩)))) hP1 hD1) hS1 hL hr
    rw [i2]
    show zv X ad G.2.1 ((zt_get 18 t' j).getD (2, 0)) (va_rf (if j = u then none else f j))
    rw [zt_gs 18 _ _ _ _ _ h4]
    by_cases ej : j = u
    · rw [if_pos ej, if_pos ej]; rfl
    · rw [if_neg ej, if_neg ej]; exact b2 j hj
theorem zs_asR {pc nx u : Nat} {o v : ZV} {ob ov : ZO} {t' : ZT ZV 18} {h' : ZH} {L : ZL} {r : List ZV} {G : ZG} (F : zF B0 Ls X p l s m args meth c own cc nL) (hc : decide (nx = pc + 1 ∧ decode cc pc = .ok (.aastore, 1)) = true) (h1 : o.1 = 3) (h2 : zt_get 10 G.1 o.2 = some ob) (hk : 70 ≤ ob.1) (hk9 : ob.1 ≤ 99) (hv' : v.1 = 3) (hov : zt_get 10 G.1 v.2 = some ov) (hov5 : ov.1 < 50) (hcs : zcst ov.1 ob.1 = true) (hu : Nat.ble (Nat.succ u) ob.2.1 = true) (hn : Nat.ble ob.2.1 2147483647 = true) (h4 : zt_set 18 ob.2.2 u v = some t') (h5 : zt_set 10 G.1 o.2 (ob.1, ob.2.1, t') = some h')
    (h : zHd B0 X ad0 n0 p l e R s m args below meth c Q nL nx L r ((h', G.2))) : zHd B0 X ad0 n0 p l e R s m args below meth c Q nL pc L (v :: (0, u) :: o :: r) G := by
  have use : ∀ {pos : Nat} {w : Jvm.Cond}, zwx pos w = true → w.before args s = true := fun h => zF_use F h
  obtain ⟨rfl, hd⟩ := of_decide_eq_true hc
  obtain ⟨hx, hb, hml, hown, hts, hlk, hK, hF, hB, hst⟩ := F
  intro ad hag H locs ls sv hW hS hL hT
  obtain ⟨wv, s0, rfl, hv, wi, s1, rfl, hi, wo, sr, rfl, ho, hr⟩ := hT
  have hi : wi = .int (nI u) := hi
  subst hi
  obtain ⟨t, k⟩ := o
  have h1 : t = 3 := h1
  subst h1
  obtain ⟨tv, uv⟩ := v
  have hv' : tv = 3 := hv'
  subst hv'
  have hv0 := hv
  have hv1 : uv < G.2.1 ∧ wv = .ref (ad uv) := hv
  obtain ⟨huv, rfl⟩ := hv1
  have ho : k < G.2.1 ∧ wo = .ref (ad k) := ho
  obtain ⟨hkn, rfl⟩ := ho
  obtain ⟨i1, i2, i3⟩ := zin_u hu hn
  obtain ⟨ws, hl, hw, hP, hD⟩ := hW
  obtain ⟨o1, e1, a1, a2, a3⟩ := hw k hkn
  obtain ⟨o2, e2, c1, c2, c3⟩ := hw uv huv
  have h2 : zt_get 10 G.1 k = some ob := h2
  have hov : zt_get 10 G.1 uv = some ov := hov
  have h5 : zt_set 10 G.1 k (ob.1, ob.2.1, t') = some h' := h5
  cases a1.symm.trans h2
  cases c1.symm.trans hov
  have a3 := zob0_of a3 (by omega)
  have c3 := zob0_of c3 (by omega)
  rcases a3 with ⟨h0, -⟩ | ⟨h0, h01, -⟩ | ⟨h0, -⟩ | ⟨h0, h02, f, b1, b2⟩
  · exact absurd h0 (by omega)
  · exact absurd h01 (by omega)
  · exact absurd h0 (by omega)
  · rcases c3 with ⟨g0, ⟨C2, T2, hC2⟩, fs, d1, -⟩ | ⟨g0, -⟩ | ⟨g0, -⟩ | ⟨g0, -⟩
    · obtain ⟨t0, ht⟩ := ztys_at (X := X) h02
      rw [b1] at a2
      rw [d1] at c2
      obtain ⟨q, hq, hq2⟩ := List.any_eq_true.mp hcs
      have hq3 := (Bool.and_eq_true _ _).mp hq2
      have hq4 := List.all_eq_true.mp zcasts_chk q hq
      unfold zcast1 at hq4
      rw [zb_eq hq3.1, zb_eq hq3.2, hC2] at hq4
      obtain ⟨E, hE⟩ := zty_ref h0 h02
      rw [hE] at hq4 ht
      have fin : ∀ (H1 : Heap) (locs1 : List Loc), va_P X.1 zcl (ws.set k (ad k, .inl (X.2.1 ob.1, ob.2.1, .inr (.inr (.inr (.inr (va_up f (nI u).toNatClampNeg (some (ad uv))))))))) H1 → va_D (zA B0) (ws.set k (ad k, .inl (X.2.1 ob.1, ob.2.1, .inr (.inr (.inr (.inr (va_up f (nI u).toNatClampNeg (some (ad uv))))))))) → va_S (zA B0) s.heap H1 locs1 → W p l e R s m args below meth c H1 locs1 G.2.2.1 G.2.2.2 Q (F0 m (pc + 1) ls sr) := by
        intro H1 locs1 hP1 hD1 hS1
        refine h ad hag H1 locs1 ls sr (zW1_set hl hw hkn h5 (Or.inl (Or.inr (Or.inr (Or.inr ⟨h0, h02, _, rfl, fun j hj => ?_⟩)))) hP1 hD1) hS1 hL hr
        rw [i2]
        show zv X ad G.2.1 ((zt_get 18 t' j).getD (2, 0)) (va_rf (if j = u then some (ad uv) else f j))
        rw [zt_gs 18 _ _ _ _ _ h4]
        by_cases ej : j = u
        · rw [if_pos ej, if_pos ej]; exact hv0
        · rw [if_neg ej, if_neg ej]; exact b2 j hj
      rcases (Bool.or_eq_true _ _).mp hq4 with z | z
      · have z : C2 = E := of_decide_eq_true z
        subst z
        exact va_astq hx hb hK hP hD hS k t0 uv ov.1 a2 ht c2 hC2 i1 hd fin
      · exact va_astqO hx hb hK hP hD hS k t0 uv ov.1 a2 ht (va_Nw.of rfl (use z)) c2 hC2 i1 hd fin
    · exact absurd g0 (by omega)
    · exact absurd g0 (by omega)
    · exact absurd g0 (by omega)
/-- an element of a symbolic array is written -/
noncomputable def zasy (N : ZN) (lt : Nat) (v : ZV) : Option ZV := match lt with
  | 0 => zif (zint v) (some v) none
  | 1 => zif (Nat.beq v.1 0) (some (0, zsb v.2)) (zif (Nat.beq v.1 5) (zif (zwith N v 2147483520 2147483775) (some v) none) none)
  | 2 => zif (zlong v) (some v) none
  | _ => none
theorem zs_asY {N : ZN} {pc nx lt sl : Nat} {o i v v' v0 : ZV} {ob : ZO} {t' : ZT ZV 18} {h' : ZH} {L : ZL} {r : List ZV} {G : ZG} (F : zF B0 Ls X p l s m args meth c own cc nL) (hN : zNok X Ls N) (hc : decide (nx = pc + 1 ∧ decode cc pc = .ok (zasI lt, 1)) = true) (h1 : o.1 = 3) (h2 : zt_get 10 G.1 o.2 = some ob) (hk : Nat.ble 1000 ob.1 = true) (hty : zkty lt ob.1 = true) (hi : zisi i = true) (hsl : zfk (Nat.div ob.1 4) i N.2.2.2 = some sl) (hv0 : zt_get 18 ob.2.2 sl = some v0) (hv' : zasy N lt v = some v') (h4 : zt_set 18 ob.2.2 sl v' = some t') (h5 : zt_set 10 G.1 o.2 (ob.1, ob.2.1, t') = some h')
    (h : zHd B0 X ad0 n0 p l e R s m args below meth c Q nL nx L r ((h', G.2))) : zHd B0 X ad0 n0 p l e R s m args below meth c Q nL pc L (v :: i :: o :: r) G := by
  obtain ⟨rfl, hd⟩ := of_decide_eq_true hc
  obtain ⟨hx, hb, hml, hown, hts, hlk, hK, hF, hB, hst⟩ := F
  intro ad hag H locs ls sv hW hS hL hT
  obtain ⟨wv, s0, rfl, hv, wi, s1, rfl, hwi, wo, sr, rfl, ho, hr⟩ := hT
  obtain ⟨j1, j2⟩ := hN.2.2.2.1 _ (zfk_ok _ hsl)
  have j1 : zvi X i = nI (zkv X (ob.1 / 4) sl) := j1
  have j2 : zkv X (ob.1 / 4) sl < 2147483648 := j2
  have inj := hN.2.2.2.2
  have hwi2 := zvi_ok hi hwi
  rw [j1] at hwi2
  subst hwi2
  obtain ⟨t, k⟩ := o
  have h1 : t = 3 := h1
  subst h1
  have ho : k < G.2.1 ∧ wo = .ref (ad k) := ho
  obtain ⟨hkn, rfl⟩ := ho
  obtain ⟨ws, hl, hw, hP, hD⟩ := hW
  obtain ⟨o1, e1, a1, a2, a3⟩ := hw k hkn
  have h2 : zt_get 10 G.1 k = some ob := h2
  have h5 : zt_set 10 G.1 k (ob.1, ob.2.1, t') = some h' := h5
  cases a1.symm.trans h2
  have fin : ∀ (e' : va_E), zob1 X ad G.2.1 (ob.1, ob.2.1, t') e' → ∀ (H1 : Heap) (locs1 : List Loc), va_P X.1 zcl (ws.set k (ad k, e')) H1 → va_D (zA B0) (ws.set k (ad k, e')) → va_S (zA B0) s.heap H1 locs1 → W p l e R s m args below meth c H1 locs1 G.2.2.1 G.2.2.2 Q (F0 m (pc + 1) ls sr) := fun e' hz H1 locs1 hP1 hD1 hS1 =>
    h ad hag H1 locs1 ls sr (zW1_set hl hw hkn h5 hz hP1 hD1) hS1 hL hr
  have a3 := zsya_of a3 (zl_le hk) (by decide)
  obtain ⟨t0, ht⟩ := ztys_at (X := X) (k := zkap ob.1) (zkap_in ob.1)
  obtain ⟨h1k, ⟨h0, f, b1, b2, b3⟩ | ⟨h0, f, b1, b2, b3⟩⟩ := a3
  · obtain ⟨c1, -⟩ := b2 sl v0 hv0
    have i2 : (nI (zkv X (ob.1 / 4) sl)).toNatClampNeg = zkv X (ob.1 / 4) sl := nI_clamp (by omega)
    have i1 : vp_in (nI (zkv X (ob.1 / 4) sl)) ob.2.1 := by
      intro z
      rcases z with z | z
      · exact nI_pos (by omega) z
      · rw [i2] at z
        omega
    rw [b1] at a2
    have mk : ∀ x : Int32, zv X ad G.2.1 v' (.int x) → zob1 X ad G.2.1 (ob.1, ob.2.1, t') (.inl (X.2.1 (zkap ob.1), ob.2.1, .inl (upd f (nI (zkv X (ob.1 / 4) sl)).toNatClampNeg x))) := by
      intro x hx5
      refine Or.inr ⟨h1k, Or.inl ⟨h0, _, rfl, fun sl2 v2 g2 => ?_, fun j hj hnone => ?_⟩⟩
      · have g2 : zt_get 18 t' sl2 = some v2 := g2
        rw [zt_gs 18 _ _ _ _ _ h4] at g2
        rw [i2]
        by_cases es : sl2 = sl
        · subst es
          rw [if_pos rfl] at g2
          have g2 : v' = v2 := Option.some.inj g2
          refine ⟨c1, ?_⟩
          show zv X ad G.2.1 v2 (.int (if zkv X (ob.1 / 4) sl2 = zkv X (ob.1 / 4) sl2 then x else f (zkv X (ob.1 / 4) sl2)))
          rw [if_pos rfl, ← g2]
          exact hx5
        · rw [if_neg es] at g2
          obtain ⟨d1, d2⟩ := b2 sl2 v2 g2
          refine ⟨d1, ?_⟩
          show zv X ad G.2.1 v2 (.int (if zkv X (ob.1 / 4) sl2 = zkv X (ob.1 / 4) sl then x else f (zkv X (ob.1 / 4) sl2)))
          rw [if_neg (fun z => es (inj _ _ _ z))]
          exact d2
      · have hne : zkv X (ob.1 / 4) sl ≠ j := hnone sl v' (by show zt_get 18 t' sl = some v'; rw [zt_gs 18 _ _ _ _ _ h4, if_pos rfl])
        rw [i2]
        show (if j = zkv X (ob.1 / 4) sl then x else f j) = _
        rw [if_neg (Ne.symm hne)]
        refine b3 j hj fun sl2 v2 g2 => ?_
        by_cases es : sl2 = sl
        · rw [es]
          exact hne
        · exact hnone sl2 v2 (by show zt_get 18 t' sl2 = some v2; rw [zt_gs 18 _ _ _ _ _ h4, if_neg es]; exact g2)
    unfold zkty at hty
    split at hty
    · have e0 := zb_eq hty
      obtain ⟨g1, hv2⟩ := zif_some (show zif (zint v) (some v) none = some v' from hv')
      have hv2 : v = v' := Option.some.inj hv2
      subst hv2
      obtain ⟨x, rfl⟩ := zint_ok g1 hv
      rw [show zty (zkap ob.1) = .int by unfold zkap; rw [e0]; rfl] at ht
      exact va_iast hx hb hK hP hD hS k t0 a2 ht i1 hd (fin _ (mk x hv))
    · have e0 := zb_eq hty
      have hv2 : zif (Nat.beq v.1 0) (some (0, zsb v.2)) (zif (Nat.beq v.1 5) (zif (zwith N v 2147483520 2147483775) (some v) none) none) = some v' := hv'
      obtain ⟨x, rfl, hz⟩ : ∃ x : Int32, wv = .int x ∧ zv X ad G.2.1 v' (.int (vp_nar .byte x)) := by
        obtain ⟨tv, uv⟩ := v
        rcases zif_or hv2 with ⟨g2, hv2⟩ | ⟨-, hv2⟩
        · have g2 : tv = 0 := zb_eq g2
          subst g2
          have hv : wv = .int (nI uv) := hv
          have hv3 : (0, zsb uv) = v' := Option.some.inj hv2
          refine ⟨nI uv, hv, ?_⟩
          rw [vp_nar_byte, zi2b, ← hv3]
          exact zv0 _
        · obtain ⟨g2, hv3⟩ := zif_some hv2
          obtain ⟨g3, hv4⟩ := zif_some hv3
          have g2 : tv = 5 := zb_eq g2
          subst g2
          have hv5 : (5, uv) = v' := Option.some.inj hv4
          obtain ⟨k1, k2, -, -⟩ := zwith_ok hN g3
          refine ⟨Int32.ofInt (zd (zsg X) uv), hv, ?_⟩
          rw [vp_nar_byte, zi2bI (by omega) (by omega), ← hv5]
          rfl
      rw [show zty (zkap ob.1) = .byte by unfold zkap; rw [e0]; rfl] at ht
      exact va_bast hx hb hK hP hD hS k t0 a2 ht i1 hd (fin _ (mk _ hz))
    · have e0 := zb_eq hty; omega
    · cases hty
  · obtain ⟨c1, -⟩ := b2 sl v0 hv0
    have i2 : (nI (zkv X (ob.1 / 4) sl)).toNatClampNeg = zkv X (ob.1 / 4) sl := nI_clamp (by omega)
    have i1 : vp_in (nI (zkv X (ob.1 / 4) sl)) ob.2.1 := by
      intro z
      rcases z with z | z
      · exact nI_pos (by omega) z
      · rw [i2] at z
        omega
    rw [b1] at a2
    unfold zkty at hty
    split at hty
    · have e0 := zb_eq hty; omega
    · have e0 := zb_eq hty; omega
    · obtain ⟨g1, hv2⟩ := zif_some (show zif (zlong v) (some v) none = some v' from hv')
      have hv2 : v = v' := Option.some.inj hv2
      subst hv2
      obtain ⟨x, rfl⟩ := zlong_ok g1 hv
      rw [show zty (zkap ob.1) = .long by unfold zkap; rw [h0]; rfl] at ht
      refine va_last hx hb hK hP hD hS k t0 a2 ht i1 hd (fin _ (Or.inr ⟨h1k, Or.inr ⟨h0, _, rfl, fun sl2 v2 g2 => ?_, fun j hj hnone => ?_⟩⟩))
      · have g2 : zt_get 18 t' sl2 = some v2 := g2
        rw [zt_gs 18 _ _ _ _ _ h4] at g2
        rw [i2]
        by_cases es : sl2 = sl
        · subst es
          rw [if_pos rfl] at g2
          have g2 : v = v2 := Option.some.inj g2
          refine ⟨c1, ?_⟩
          show zv X ad G.2.1 v2 (.long (if zkv X (ob.1 / 4) sl2 = zkv X (ob.1 / 4) sl2 then x else f (zkv X (ob.1 / 4) sl2)))
          rw [if_pos rfl, ← g2]
          exact hv
        · rw [if_neg es] at g2
          obtain ⟨d1, d2⟩ := b2 sl2 v2 g2
          refine ⟨d1, ?_⟩
          show zv X ad G.2.1 v2 (.long (if zkv X (ob.1 / 4) sl2 = zkv X (ob.1 / 4) sl then x else f (zkv X (ob.1 / 4) sl2)))
          rw [if_neg (fun z => es (inj _ _ _ z))]
          exact d2
      · have hne : zkv X (ob.1 / 4) sl ≠ j := hnone sl v (by show zt_get 18 t' sl = some v; rw [zt_gs 18 _ _ _ _ _ h4, if_pos rfl])
        rw [i2]
        show (if j = zkv X (ob.1 / 4) sl then x else f j) = _
        rw [if_neg (Ne.symm hne)]
        refine b3 j hj fun sl2 v2 g2 => ?_
        by_cases es : sl2 = sl
        · rw [es]
          exact hne
        · exact hnone sl2 v2 (by show zt_get 18 t' sl2 = some v2; rw [zt_gs 18 _ _ _ _ _ h4, if_neg es]; exact g2)
    · cases hty
noncomputable def zo_asY (N : ZN) (k : ZK) (nx lt : Nat) (v i o : ZV) (ob : ZO) (L : ZL) (r : List ZV) (G : ZG) : Option ZRes := zif (zkty lt ob.1) (zif (zisi i) (zob (zfk (Nat.div ob.1 4) i N.2.2.2) fun sl => zob (zt_get 18 ob.2.2 sl) fun _ => zob (zasy N lt v) fun v' => zob (zt_set 18 ob.2.2 sl v') fun t => zob (zt_set 10 G.1 o.2 (ob.1, ob.2.1, t)) fun h => k nx L r (h, G.2)) none) none
noncomputable def zo_ast (N : ZN) (k : ZK) (nx lt : Nat) (L : ZL) (st : List ZV) (G : ZG) : Option ZRes := match st with
  | v :: i :: o :: r => zif (Nat.beq o.1 3) (zob (zt_get 10 G.1 o.2) fun ob => zif (Nat.ble 1000 ob.1) (zo_asY N k nx lt v i o ob L r G) (zif (Nat.beq i.1 0) (zif (Nat.ble (Nat.succ i.2) ob.2.1) (zif (Nat.ble ob.2.1 2147483647)
      (zif (Nat.beq lt 3)
        (zif (Nat.ble 70 ob.1) (zif (Nat.beq v.1 2) (zif (Nat.ble ob.1 99) (zob (zt_set 18 ob.2.2 i.2 v) fun t => zob (zt_set 10 G.1 o.2 (ob.1, ob.2.1, t)) fun h => k nx L r (h, G.2)) none)
          (zif (Nat.beq v.1 3) (zif (Nat.ble ob.1 99) (zob (zt_get 10 G.1 v.2) fun ov => zif (Nat.ble ov.1 49) (zif (zcst ov.1 ob.1) (zob (zt_set 18 ob.2.2 i.2 v) fun t => zob (zt_set 10 G.1 o.2 (ob.1, ob.2.1, t)) fun h => k nx L r (h, G.2)) none) none) none) none)) none)
        (zob (zasv lt ob.1 v) fun v' => zob (zt_set 18 ob.2.2 i.2 v') fun t => zob (zt_set 10 G.1 o.2 (ob.1, ob.2.1, t)) fun h => k nx L r (h, G.2))) none) none) none)) none
  | _ => none
end ZS
