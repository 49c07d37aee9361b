/-- a loop that writes 0 over 0 in an array of ints, from a place on up to n -/
noncomputable def zfill (ih : Nat → Nat → ZK) (d mid hd n ci kf : Nat) (L : ZL) (st : List ZV) (G : ZG) : Option ZRes :=
  @List.rec ZV (fun _ => Option ZRes) (match L with
    | some o :: some i :: L' => zif (Nat.beq o.1 3) (zif (Nat.beq i.1 0) (zif (Nat.ble i.2 n) (zob (zt_get 10 G.1 o.2) fun ob => zif (Nat.beq ob.1 ci) (zob (zt_get 18 ob.2.2 kf) fun v => zif (Nat.beq v.1 3) (zob (zt_get 10 G.1 v.2) fun ar => zif (Nat.beq ar.1 50) (zif (Nat.ble n ar.2.1) (zif (Nat.ble ar.2.1 2147483647)
        (@Option.rec (Option ZV × ZT ZV 17 × ZT ZV 17) (fun _ => Option ZRes) (ih d mid (Nat.add hd 20) (some o :: some (0, n) :: L') [] G) (fun _ => none) ar.2.2) none) none) none) none) none) none) none) none
    | _ => none) (fun _ _ _ => none) st
section ZS
variable {B0 Ls : Nat} {X : ZX} {p : Program} {l : Launch} {e : Env} {R : Room} {s : State} {m : MethodId} {args : Array Value} {below : List Frame} {meth : Method} {c : Code} {Q : State → Prop} {own : String} {cc : ByteArray} {nL : Nat} {ad0 : Nat → Nat} {n0 : Nat}
theorem zs_fill {N : ZN} (hN : zNok X N) {hd n ci kf idx p1 p2 : Nat} {o v : ZV} {ob ar : ZO} {L' : ZL} {G : ZG} (F : zF B0 Ls X p l s m args meth c own cc nL) (hn : n ≤ 2147483647)
    (c0 : zc_load cc hd (hd + 1) 1 0 0 = true) (c1 : zc_push own cc (hd + 1) (hd + 4) 0 n 2 0 0 = true) (c2 : decide (hd + 7 = hd + 4 + 3 ∧ decode cc (hd + 4) = .ok (.if_icmp (zrelI 3) (((hd + 20 : Nat) : Int) - ((hd + 4 : Nat) : Int)), 3)) = true)
    (c3 : zc_load cc (hd + 7) (hd + 8) 0 1 0 = true) (c4 : zc_getf own cc (hd + 8) (hd + 11) ci kf idx 0 p1 p2 = true) (c5 : zc_load cc (hd + 11) (hd + 12) 1 0 0 = true) (c6 : zc_push own cc (hd + 12) (hd + 13) 0 0 0 0 0 = true) (c7 : decide (hd + 14 = hd + 13 + 1 ∧ decode cc (hd + 13) = .ok (.iastore, 1)) = true)
    (c8 : zc_iinc cc nL (hd + 14) (hd + 17) 1 1 = true) (c9 : decide (decode cc (hd + 17) = .ok (.goto ((hd : Int) - ((hd + 17 : Nat) : Int)), 3)) = true)
    (h1 : o.1 = 3) (h2 : zt_get 10 G.1 o.2 = some ob) (h3 : ob.1 = ci) (h4 : zt_get 18 ob.2.2 kf = some v) (h5 : v.1 = 3) (h6 : zt_get 10 G.1 v.2 = some ar) (h7 : ar.1 = 50) (h8 : n ≤ ar.2.1) (h9 : ar.2.1 ≤ 2147483647) (h10 : ∀ u, zt_get 18 ar.2.2 u = none)
    (hx : zHd B0 X ad0 n0 p l e R s m args below meth c Q nL (hd + 20) (some o :: some (0, n) :: L') [] G) : ∀ (k a : Nat), a + k = n → zHd B0 X ad0 n0 p l e R s m args below meth c Q nL hd (some o :: some (0, a) :: L') [] G := by
  have zkk : ∀ a : Nat, a ≤ n → zk a = a + 2147483648 := fun a ha => by
    show Nat.mod (Nat.add a 2147483648) 4294967296 = _
    exact Nat.mod_eq_of_lt (show a + 2147483648 < 4294967296 by omega)
  intro k
  induction k with
  | zero =>
    intro a ha
    have ha : a = n := ha
    subst ha
    refine zs_load (v := (0, a)) F c0 rfl rfl (zs_push F c1 (zs_icmp (N := N) (t := true) (x := (0, a)) (y := (0, a)) F hN c2 rfl rfl ?_ hx))
    show znot (zlt (zk a, zk a) (zk a, zk a)) = some true
    have e1 : Nat.ble (Nat.succ (zk a)) (zk a) = false := by
      cases hb : Nat.ble (Nat.succ (zk a)) (zk a) with
      | true => exact absurd (zl_le hb) (Nat.not_succ_le_self _)
      | false => rfl
    have e2 : Nat.ble (zk a) (zk a) = true := Nat.ble_eq.mpr (Nat.le_refl _)
    unfold zlt
    rw [e1, e2]
    rfl
  | succ k ih =>
    intro a ha
    refine zs_load (v := (0, a)) F c0 rfl rfl (zs_push F c1 (zs_icmp (N := N) (t := false) (x := (0, a)) (y := (0, n)) F hN c2 rfl rfl ?_ ?_))
    · show znot (zlt (zk a, zk a) (zk n, zk n)) = some false
      have e1 : Nat.ble (Nat.succ (zk a)) (zk n) = true := by
        rw [zkk a (by omega), zkk n (Nat.le_refl _)]
        exact Nat.ble_eq.mpr (by omega)
      unfold zlt
      rw [e1]
      rfl
    · refine zs_load (v := o) F c3 rfl ?_ (zs_getf F c4 h1 h2 h3 h4 (zs_load (v := (0, a)) F c5 rfl rfl (zs_push F c6 (zs_asK (v := (0, 0)) F c7 h5 h6 h7 rfl (Nat.ble_eq.mpr (by omega)) (Nat.ble_eq.mpr h9) (by rw [h10]; rfl) (zs_iinc (x := a) F c8 rfl ?_ (zs_goto F c9 ?_))))))
      · show zref o = true
        unfold zref
        rw [h1]
        rfl
      · show @Option.rec ZV (fun _ => Bool) true (fun v => zif (zlong v) false true) (some o) = true
        show zif (zlong o) false true = true
        have : zlong o = false := by
          unfold zlong
          rw [h1]
          rfl
        rw [this]
        rfl
      · have he9 : Nat.mod (Nat.add a 1) 4294967296 = a + 1 := Nat.mod_eq_of_lt (show a + 1 < 4294967296 by omega)
        have k9 := ih (a + 1) (by omega)
        show zHd B0 X ad0 n0 p l e R s m args below meth c Q nL hd (some o :: some (0, Nat.mod (Nat.add a 1) 4294967296) :: L') [] G
        rw [he9]
        exact k9
end ZS
/-- the rows of such a loop -/
def zfrow (mid hd n ci kf idx p1 : Nat) : Prop :=
  (zt_get 12 (zm_code mid) hd = some (1, hd + 1, [1, 0, 0]) ∧ zt_get 12 (zm_code mid) (hd + 1) = some (0, hd + 4, [0, n, 2, 0, 0]) ∧ zt_get 12 (zm_code mid) (hd + 4) = some (8, hd + 7, [3, hd + 20]) ∧ zt_get 12 (zm_code mid) (hd + 7) = some (1, hd + 8, [0, 1, 0]) ∧ zt_get 12 (zm_code mid) (hd + 8) = some (12, hd + 11, [ci, kf, idx, 0, p1, 0]) ∧
    zt_get 12 (zm_code mid) (hd + 11) = some (1, hd + 12, [1, 0, 0]) ∧ zt_get 12 (zm_code mid) (hd + 12) = some (0, hd + 13, [0, 0, 0, 0, 0]) ∧ zt_get 12 (zm_code mid) (hd + 13) = some (18, hd + 14, [0]) ∧ zt_get 12 (zm_code mid) (hd + 14) = some (3, hd + 17, [1, 1]) ∧ zt_get 12 (zm_code mid) (hd + 17) = some (9, hd + 20, [hd]))
theorem zfill_ok {N : ZN} {B0 Ls d mid hd n ci kf idx p1 : Nat} {X : ZX} {ih : Nat → Nat → ZK} {L : ZL} {st : List ZV} {G : ZG} {r : ZRes} (hN : zNok X N) (IH : zSound B0 Ls X ih) (hok : zmok mid = true) (hrow : zfrow mid hd n ci kf idx p1) (hn : n ≤ 2147483647) (h : zfill ih d mid hd n ci kf L st G = some r) : zGoal B0 Ls X d mid hd L st G r := by
  have row : ∀ {pc : Nat} {en : ZE}, zt_get 12 (zm_code mid) pc = some en → zchk (zm_y mid).cls (zm_cc mid) (zm_nfo mid).1 (zini mid) (zm_ret mid) pc en = true := fun he => by
    have k := zt_all_get 12 (zm_code mid) 0 1 _ _ hok he
    rw [Nat.zero_add, Nat.one_mul] at k
    exact k
  obtain ⟨r0, r1, r2, r3, r4, r5, r6, r7, r8, r9⟩ := hrow
  cases st with
  | cons _ _ =>
    have h : (none : Option ZRes) = some r := h
    cases h
  | nil =>
    match L, h with
    | [], h => exact absurd (show (none : Option ZRes) = some r from h) (by intro q; cases q)
    | none :: _, h => exact absurd (show (none : Option ZRes) = some r from h) (by intro q; cases q)
    | [some _], h => exact absurd (show (none : Option ZRes) = some r from h) (by intro q; cases q)
    | some _ :: none :: _, h => exact absurd (show (none : Option ZRes) = some r from h) (by intro q; cases q)
    | some o :: some i :: L', h =>
      have h : zif (Nat.beq o.1 3) (zif (Nat.beq i.1 0) (zif (Nat.ble i.2 n) (zob (zt_get 10 G.1 o.2) fun ob => zif (Nat.beq ob.1 ci) (zob (zt_get 18 ob.2.2 kf) fun v => zif (Nat.beq v.1 3) (zob (zt_get 10 G.1 v.2) fun ar => zif (Nat.beq ar.1 50) (zif (Nat.ble n ar.2.1) (zif (Nat.ble ar.2.1 2147483647)
        (@Option.rec (Option ZV × ZT ZV 17 × ZT ZV 17) (fun _ => Option ZRes) (ih d mid (Nat.add hd 20) (some o :: some (0, n) :: L') [] G) (fun _ => none) ar.2.2) none) none) none) none) none) none) none) none = some r := h
      obtain ⟨h1, h⟩ := zif_some h
      obtain ⟨hi, h⟩ := zif_some h
      obtain ⟨hin, h⟩ := zif_some h
      obtain ⟨ob, h2, h⟩ := zob_some h
      obtain ⟨h3, h⟩ := zif_some h
      obtain ⟨v, h4, h⟩ := zob_some h
      obtain ⟨h5, h⟩ := zif_some h
      obtain ⟨ar, h6, h⟩ := zob_some h
      obtain ⟨h7, h⟩ := zif_some h
      obtain ⟨h8, h⟩ := zif_some h
      obtain ⟨h9, h⟩ := zif_some h
      obtain ⟨ak, an, at0⟩ := ar
      cases at0 with
      | some _ =>
        have h : (none : Option ZRes) = some r := h
        cases h
      | none =>
        have hz : ih d mid (hd + 20) (some o :: some (0, n) :: L') [] G = some r := h
        obtain ⟨it, iu⟩ := i
        have hi : it = 0 := zb_eq hi
        subst hi
        obtain ⟨m1, m2, m3, k⟩ := IH _ _ _ _ _ _ _ hz
        refine ⟨m1, m2, m3, fun ad0 n0 p l e R s m args below meth c Q F hRc hRs hC => ?_⟩
        have hin : iu ≤ n := zl_le hin
        exact zs_fill hN F.1 hn (row r0) (row r1) (row r2) (row r3) (row r4) (row r5) (row r6) (row r7) (row r8) (row r9) (zb_eq h1) h2 (zb_eq h3) h4 (zb_eq h5) h6 (zb_eq h7) (zl_le h8) (zl_le h9) (fun u => zt_getN 18 u) (k ad0 n0 p l e R s m args below meth c Q F hRc hRs hC) (n - iu) iu (by omega)
noncomputable def zfj (ih ord : Nat → Nat → ZK) : Nat → Nat → ZK := fun d mid pc L st G => zif (Nat.beq mid 71) (zif (Nat.beq pc 10) (zfill ih d 71 10 20000 12 116 L st G) (ord d mid pc L st G)) (zif (Nat.beq mid 70) (zif (Nat.beq pc 12) (zfill ih d 70 12 4096 12 18 L st G) (ord d mid pc L st G)) (ord d mid pc L st G))
theorem zfj_ok {N : ZN} {B0 Ls : Nat} {X : ZX} {ih ord : Nat → Nat → ZK} (hN : zNok X N) (h71 : zmok 71 = true) (h70 : zmok 70 = true) (q71 : zfrow 71 10 20000 12 116 251 11215) (q70 : zfrow 70 12 4096 12 18 34 11117) (IH : zSound B0 Ls X ih) (h : zSound B0 Ls X ord) : zSound B0 Ls X (zfj ih ord) := by
  intro d mid pc L st G r hr
  rcases zif_or hr with ⟨e1, hr⟩ | ⟨-, hr⟩
  · rcases zif_or hr with ⟨e2, hr⟩ | ⟨-, hr⟩
    · have e1 := zb_eq e1
      have e2 := zb_eq e2
      subst e1
      subst e2
      exact zfill_ok hN IH h71 q71 (by decide) hr
    · exact h d mid pc L st G r hr
  · rcases zif_or hr with ⟨e1, hr⟩ | ⟨-, hr⟩
    · rcases zif_or hr with ⟨e2, hr⟩ | ⟨-, hr⟩
      · have e1 := zb_eq e1
        have e2 := zb_eq e2
        subst e1
        subst e2
        exact zfill_ok hN IH h70 q70 (by decide) hr
      · exact h d mid pc L st G r hr
    · exact h d mid pc L st G r hr
/-- the law's run up to its loop; and from there -/
noncomputable def zrunA (N : ZN) (Ls f : Nat) : Nat → Nat → ZK := @Nat.rec (fun _ => Nat → Nat → ZK) (fun _ _ _ _ _ _ => none) (fun _ ih => zhook (zord N Ls ih)) f
noncomputable def zrunB (N : ZN) (Ls f : Nat) : Nat → Nat → ZK := @Nat.rec (fun _ => Nat → Nat → ZK) (fun _ _ _ _ _ _ => none) (fun _ ih => zfj ih (zord N Ls ih)) f
theorem zrunA_ok {N : ZN} {B0 Ls : Nat} {X : ZX} (hN : zNok X N) (hth : ∀ E, E < 4 → zthk E = true) (h1 : ∀ mid, mid ≤ 122 → zmok mid = true) (h2 : ∀ mid, mid ≤ 122 → zmok2 mid = true) (h3 : ∀ mid, mid ≤ 122 → zmok3 mid = true) (hmk : ∀ md, 0 < md → md ≤ 122 → zmk md = true) : ∀ f, zSound B0 Ls X (zrunA N Ls f)
  | 0 => fun d mid pc L st G r h => absurd (show (none : Option ZRes) = some r from h) (by intro q; cases q)
  | f + 1 => zhook_ok (zsound hN hth h1 h2 h3 hmk (zrunA_ok hN hth h1 h2 h3 hmk f))
theorem zrunB_ok {N : ZN} {B0 Ls : Nat} {X : ZX} (hN : zNok X N) (hth : ∀ E, E < 4 → zthk E = true) (h1 : ∀ mid, mid ≤ 122 → zmok mid = true) (h2 : ∀ mid, mid ≤ 122 → zmok2 mid = true) (h3 : ∀ mid, mid ≤ 122 → zmok3 mid = true) (hmk : ∀ md, 0 < md → md ≤ 122 → zmk md = true) (q71 : zfrow 71 10 20000 12 116 251 11215) (q70 : zfrow 70 12 4096 12 18 34 11117) : ∀ f, zSound B0 Ls X (zrunB N Ls f)
  | 0 => fun d mid pc L st G r h => absurd (show (none : Option ZRes) = some r from h) (by intro q; cases q)
  | f + 1 => zfj_ok hN (h1 71 (by decide)) (h1 70 (by decide)) q71 q70 (zrunB_ok hN hth h1 h2 h3 hmk q71 q70 f) (zsound hN hth h1 h2 h3 hmk (zrunB_ok hN hth h1 h2 h3 hmk q71 q70 f))
