/-! The interpreter is sound. -/
noncomputable def zmok3 (mid : Nat) : Bool := match zm_hx mid with
  | none => true
  | some l => l.all fun q => decide (q.2.1 < 4)
theorem zmk_h {md : Nat} {hs : List ((Nat × Nat × Nat × Nat) × Nat × Nat)} (h : zmk md = true) (hh : zm_hx md = some hs) : ∀ q ∈ hs, q.1.2.2.2 ≠ 0 ∧ zwx q.2.2 (.classLink (zm_y md).cls q.1.2.2.2 (zq_ex q.2.1)) = true := by
  intro q hq
  unfold zmk at h
  have h1 := (Bool.and_eq_true _ _).mp h
  have h2 := (Bool.and_eq_true _ _).mp h1.1
  have h3 := (Bool.and_eq_true _ _).mp h2.1
  have h4 := ((Bool.and_eq_true _ _).mp h3.1).2
  rw [hh] at h4
  have h5 := List.all_eq_true.mp ((Bool.and_eq_true _ _).mp h4).2 q hq
  have h5 := (Bool.and_eq_true _ _).mp h5
  exact ⟨of_decide_eq_true h5.1, h5.2⟩
def zGoal (hk : ZHk) (B0 Ls : Nat) (X : ZX) (d mid pc : Nat) (L : ZL) (st : List ZV) (G : ZG) (r : ZRes) : Prop :=
  G.2.1 ≤ r.2.2.2.1 ∧ G.2.2.1 ≤ r.2.2.2.2.1 ∧ G.2.2.2 ≤ r.2.2.2.2.2 ∧
  ∀ (ad0 : Nat → Nat) (n0 : Nat) (p : Program) (l : Launch) (e : Env) (R : Room) (s : State) (m : MethodId) (args : Array Value) (below : List Frame) (meth : Method) (c : Code) (Q : State → Prop),
    zFr B0 Ls X mid d p l R s m args meth c → r.2.2.2.2.1 ≤ R.cells → r.2.2.2.2.2 ≤ R.slots → zCont hk B0 X mid ad0 n0 p l e R s m args below meth c Q r → zHd B0 X ad0 n0 p l e R s m args below meth c Q (zm_nfo mid).1 pc L st G
theorem zs_call {hk : ZHk} {K : Nat → Nat → ZK} {B0 Ls mid d pc nx md form idx pos : Nat} {X : ZX} {L : ZL} {st : List ZV} {G : ZG} {r : ZRes} (IH : zSound hk B0 Ls X K) (hth : ∀ E, E < 4 → zthk E = true) (hmk : ∀ md, 0 < md → md ≤ zMN → zmk md = true) (hmid : mid ≤ zMN) (h3 : zmok3 mid = true) (hc : zc_call (zm_y mid).cls (zm_cc mid) pc nx md form idx pos = true) (hcf : zcf md form = true)
    (h : zcall hk K d mid pc nx md form L st G = some r) : zGoal hk B0 Ls X d mid pc L st G r := by
  obtain ⟨hm0, hm1⟩ := of_decide_eq_true ((Bool.and_eq_true _ _).mp hcf).1
  unfold zcall at h
  rcases zif_or h with ⟨-, h⟩ | ⟨hmh, h⟩
  · cases h
  have hmh := zb_ne hmh
  obtain ⟨ar, har, h⟩ := zob_some h
  obtain ⟨hrv, h⟩ := zif_some h
  obtain ⟨hcat, h⟩ := zif_some h
  obtain ⟨hsh, h⟩ := zif_some h
  cases d with
  | zero =>
    have h : (none : Option ZRes) = some r := h
    cases h
  | succ d' =>
    have h : zob (K d' md 0 (zapp (zex ar.1) (znone (zm_nfo md).1)) [] (G.1, G.2.1, 0, 0)) (fun r1 =>
          @Nat.rec (fun _ => Option ZRes)
            (K (d' + 1) mid nx L (@Option.rec ZV (fun _ => List ZV) ar.2 (fun v => v :: ar.2) r1.2.1) (r1.2.2.1, r1.2.2.2.1, Nat.add G.2.2.1 r1.2.2.2.2.1, Nat.add G.2.2.2 r1.2.2.2.2.2))
            (fun E _ => zif (Nat.ble E 7) (zif (zif (Nat.beq form 0) true (Nat.beq form 4)) (zif (@Option.rec _ (fun _ => Bool) true (fun _ => false) (zm_hx md))
              (zob (zhand mid E pc) fun o => @Option.rec Nat (fun _ => Option ZRes) (some (Nat.succ E, none, (r1.2.2.1, r1.2.2.2.1, Nat.add G.2.2.1 r1.2.2.2.2.1, Nat.add G.2.2.2 r1.2.2.2.2.2)))
                (fun h => K (d' + 1) mid h L [(7, 0)] (r1.2.2.1, r1.2.2.2.1, Nat.add G.2.2.1 r1.2.2.2.2.1, Nat.add G.2.2.2 r1.2.2.2.2.2)) o) none) none) none) r1.1) = some r := h
    obtain ⟨r1, hr1, h⟩ := zob_some h
    obtain ⟨p1, -, -, -⟩ := IH d' md 0 _ _ _ _ hr1
    have p1 : G.2.1 ≤ r1.2.2.2.1 := p1
    have main : (r1.1 = 0 ∧ K (d' + 1) mid nx L (@Option.rec ZV (fun _ => List ZV) ar.2 (fun v => v :: ar.2) r1.2.1) (r1.2.2.1, r1.2.2.2.1, Nat.add G.2.2.1 r1.2.2.2.2.1, Nat.add G.2.2.2 r1.2.2.2.2.2) = some r) ∨
        ∃ E, r1.1 = E + 1 ∧ E < 8 ∧ (form = 0 ∨ form = 4) ∧ ∃ o, zhand mid E pc = some o ∧ ((o = none ∧ r = (E + 1, none, (r1.2.2.1, r1.2.2.2.1, Nat.add G.2.2.1 r1.2.2.2.2.1, Nat.add G.2.2.2 r1.2.2.2.2.2))) ∨ ∃ h', o = some h' ∧ K (d' + 1) mid h' L [(7, 0)] (r1.2.2.1, r1.2.2.2.1, Nat.add G.2.2.1 r1.2.2.2.2.1, Nat.add G.2.2.2 r1.2.2.2.2.2) = some r) := by
      clear hr1 p1 hc hcf
      generalize hz : r1.1 = z at h ⊢
      cases z with
      | zero => exact Or.inl ⟨rfl, h⟩
      | succ E =>
        have h : zif (Nat.ble E 7) (zif (zif (Nat.beq form 0) true (Nat.beq form 4)) (zif (@Option.rec _ (fun _ => Bool) true (fun _ => false) (zm_hx md))
              (zob (zhand mid E pc) fun o => @Option.rec Nat (fun _ => Option ZRes) (some (Nat.succ E, none, (r1.2.2.1, r1.2.2.2.1, Nat.add G.2.2.1 r1.2.2.2.2.1, Nat.add G.2.2.2 r1.2.2.2.2.2)))
                (fun h => K (d' + 1) mid h L [(7, 0)] (r1.2.2.1, r1.2.2.2.1, Nat.add G.2.2.1 r1.2.2.2.2.1, Nat.add G.2.2.2 r1.2.2.2.2.2)) o) none) none) none = some r := h
        obtain ⟨e0, h⟩ := zif_some h
        have e0 : E ≤ 7 := zl_le e0
        obtain ⟨e1, h⟩ := zif_some h
        obtain ⟨e2, h⟩ := zif_some h
        obtain ⟨o, ho, h⟩ := zob_some h
        have e1 : form = 0 ∨ form = 4 := by
          rcases zif_or e1 with ⟨k, -⟩ | ⟨-, k⟩
          · exact Or.inl (zb_eq k)
          · exact Or.inr (zb_eq k)
        refine Or.inr ⟨E, rfl, by omega, e1, o, ho, ?_⟩
        cases o with
        | none => exact Or.inl ⟨rfl, (Option.some.inj h).symm⟩
        | some h' => exact Or.inr ⟨h', rfl, h⟩
    have mono : r1.2.2.2.1 ≤ r.2.2.2.1 ∧ G.2.2.1 + r1.2.2.2.2.1 ≤ r.2.2.2.2.1 ∧ G.2.2.2 + r1.2.2.2.2.2 ≤ r.2.2.2.2.2 := by
      rcases main with ⟨-, k⟩ | ⟨E, -, -, -, o, -, ⟨-, rfl⟩ | ⟨h', -, k⟩⟩
      · obtain ⟨a1, a2, a3, -⟩ := IH _ _ _ _ _ _ _ k
        exact ⟨a1, a2, a3⟩
      · exact ⟨Nat.le_refl _, Nat.le_refl _, Nat.le_refl _⟩
      · obtain ⟨a1, a2, a3, -⟩ := IH _ _ _ _ _ _ _ k
        exact ⟨a1, a2, a3⟩
    obtain ⟨o1, o2, o3⟩ := mono
    refine ⟨Nat.le_trans p1 o1, by omega, by omega, ?_⟩
    intro ad0 n0 p l e R s m args below meth c Q F hRc hRs hC ad hag H locs ls sv hW hS hL hT
    have hnx : nx = pc + 3 := (of_decide_eq_true ((Bool.and_eq_true _ _).mp hc).1).1
    obtain ⟨B, sr, e1, e2, e3, e4⟩ := zpop_ok (P := zv X ad G.2.1) _ st [] ar.1 ar.2 sv [] har hT rfl
    rw [List.append_nil] at e2
    subst e1
    rw [show B ++ sr = B.reverse.reverse ++ sr by rw [List.reverse_reverse]]
    have hno : form = 2 ∨ form = 3 ∨ form = 5 → r1.1 = 0 := fun hf => by
      rcases main with ⟨k, -⟩ | ⟨E, -, -, k, -⟩
      · exact k
      · omega
    have hrn := zs_run (e := e) (below := below) IH hth F (Nat.ne_of_gt hm0) hmh (hmk md hm0 hm1) hcf hc hr1 hsh hrv (zl_le hcat) hno hW hS hL.1 e2 (by rw [List.length_reverse]; exact e4) e3 (cells := G.2.2.1) (slots := G.2.2.2) (by omega) (by omega)
    refine zs_go hrn hS (fun h0 w H1 locs1 hE hS1 => ?_) (fun E hE q9 ce H1 locs1 hE1 hS1 hc1 hc2 hc3 => ?_)
    · obtain ⟨ad', q1, q2, q3, q4⟩ := hE
      rcases main with ⟨-, k⟩ | ⟨E, k, -⟩
      · obtain ⟨-, -, -, kz⟩ := IH _ _ _ _ _ _ _ k
        have kz := kz ad0 n0 p l e R s m args below meth c Q F hRc hRs hC ad' ⟨Nat.le_trans hag.1 q2, fun k hk => (q1 k (Nat.lt_of_lt_of_le hk hag.1)).trans (hag.2 k hk)⟩ H1 locs1 ls (w.toList ++ sr) q4 hS1 (zLc_mono hL q2 q1)
        rw [hnx] at kz
        refine kz ?_
        have e3' := zSt_mono (P' := zv X ad' r1.2.2.2.1) (fun v w h => zv_mono h q2 q1) _ _ e3
        cases hv : r1.2.1 with
        | none =>
          rw [hv] at q3
          have q3 : w = none := q3
          subst q3
          exact e3'
        | some v =>
          rw [hv] at q3
          obtain ⟨x, rfl, hx⟩ := q3
          exact ⟨x, sr, rfl, hx, e3'⟩
      · rw [h0] at k
        cases k
    · obtain ⟨ad', q1, q2, q3, q4⟩ := hE1
      rcases main with ⟨k, -⟩ | ⟨E', k, k8, -, o, ho, hcase⟩
      · rw [hE] at k
        cases k
      · have hEE : E' = E := by omega
        subst hEE
        have hL' := zLc_mono hL q2 q1
        have e3' := zSt_mono (P' := zv X ad' r1.2.2.2.1) (fun v w h => zv_mono h q2 q1) _ _ e3
        have hag' : zAg ad0 n0 ad' r1.2.2.2.1 := ⟨Nat.le_trans hag.1 q2, fun k hk => (q1 k (Nat.lt_of_lt_of_le hk hag.1)).trans (hag.2 k hk)⟩
        have Fz := F.1
        obtain ⟨⟨hx, hb, hml, hown, hts, hlk, hK, hF, hB, hst⟩, hini, hfr, hlo, htab, hret⟩ := F
        unfold zhand at ho
        rcases zif_or ho with ⟨-, ho⟩ | ⟨n0', ho⟩
        · cases ho
        · have hm9 : mid ≠ 0 := zb_ne n0'
          have htab := htab hm9
          have km := hmk mid (Nat.pos_of_ne_zero hm9) hmid
          have hnc := hF.2.2.2.2.2.2.2.2.2.2.1
          have facts : (o = none ∧ zUnc (zm_y mid).cls s args c E' pc) ∨ ∃ (l1 : List ExceptionTableEntry) (x : ExceptionTableEntry) (l2 : List ExceptionTableEntry), c.exceptionTable.toList = l1 ++ x :: l2 ∧ o = some x.handlerPc ∧ covers x pc = true ∧ x.catchType ≠ 0 ∧ (Cond.classLink (zm_y mid).cls x.catchType (zq_ex E')).before args s = true ∧ E' < 4 ∧ ∀ z ∈ l1, covers z pc = false ∨ (z.catchType ≠ 0 ∧ ∃ nm : String, (Cond.classLink (zm_y mid).cls z.catchType nm).before args s = true ∧ va_Nc (zq_ex E') nm s) := by
            cases hhx : zm_hx mid with
            | none =>
              rw [hhx] at ho
              have ho : some none = some o := ho
              cases ho
              refine Or.inl ⟨rfl, fun z hz => ?_⟩
              rw [htab] at hz
              unfold zht at hz
              rw [hhx] at hz
              cases hz
            | some hs =>
              rw [hhx] at ho
              have ho : zfind E' pc hs = some o := ho
              have hz : c.exceptionTable.toList = tableOf (hs.map fun q => q.1) := by
                rw [htab]
                unfold zht
                rw [hhx]
              have kh := zmk_h km hhx
              unfold zmok3 at h3
              rw [hhx] at h3
              rcases zfind_ok (own := (zm_y mid).cls) (args := args) (s := s) hs o (fun q hq => ⟨(kh q hq).1, zF_use Fz (kh q hq).2⟩) hnc ho with ⟨g1, g2⟩ | ⟨l1, q, l2, g1, g2, g3, g4, g5⟩
              · refine Or.inl ⟨g1, fun z hz9 => ?_⟩
                rw [hz] at hz9
                exact g2 z hz9
              · have hqm : q ∈ hs := by
                  rw [g1]
                  exact List.mem_append_right _ List.mem_cons_self
                have hlt : q.2.1 < 4 := of_decide_eq_true (List.all_eq_true.mp h3 q hqm)
                refine Or.inr ⟨tableOf (l1.map fun q => q.1), ⟨q.1.1, q.1.2.1, q.1.2.2.1, q.1.2.2.2⟩, tableOf (l2.map fun q => q.1), ?_, g2, g4, (kh q hqm).1, ?_, by omega, g5⟩
                · rw [hz, g1]
                  unfold tableOf
                  simp
                · have k9 := zF_use Fz (kh q hqm).2
                  rw [g3] at k9
                  exact k9
          rcases facts with ⟨g1, g2⟩ | ⟨l1, x, l2, g1, g2, g3, g4, g5, g6, g7⟩
          · rcases hcase with ⟨-, hr⟩ | ⟨h', hh, -⟩
            · have hz := (hC.2.1 hm9 E' k8 (by rw [hr])).2 pc L ar.2 g2
              rw [hr] at hz
              exact hz ad' hag' H1 locs1 ls sr q9 ce q4 hS1 hL' e3' hc1 hc2 hc3
            · rw [g1] at hh
              cases hh
          · rcases hcase with ⟨hh, -⟩ | ⟨h', hh, k9⟩
            · rw [g2] at hh
              cases hh
            · rw [g2] at hh
              have hh : x.handlerPc = h' := Option.some.inj hh
              have k4 := hth E' g6
              have hcst := zF_use Fz ((Bool.and_eq_true _ _).mp k4).2
              obtain ⟨-, -, -, kz⟩ := IH _ _ _ _ _ _ _ k9
              have kz := kz ad0 n0 p l e R s m args below meth c Q ⟨⟨hx, hb, hml, hown, hts, hlk, hK, hF, hB, hst⟩, hini, hfr, hlo, fun _ => htab, hret⟩ hRc hRs hC ad' hag' H1 locs1 ls [.ref q9] q4 hS1 hL' ⟨.ref q9, [], rfl, Or.inr ⟨q9, rfl⟩, rfl⟩
              exact vx_catch hown l1 x l2 g1 g7 g3 g4 g5 hcst hc1 hc2 hc3 (by rw [hh]; exact kz)
theorem zs_24 {hk : ZHk} {N : ZN} {K : Nat → Nat → ZK} {B0 Ls d mid pc nx : Nat} {a : List Nat} {X : ZX} {L : ZL} {st : List ZV} {G : ZG} {r : ZRes} (hN : zNok X Ls N) (hc : zchk (zm_y mid).cls (zm_cc mid) (zm_nfo mid).1 (zini mid) (zm_ret mid) pc (24, nx, a) = true) (h : zg3 hk N K d mid pc 24 nx a L st G = some r) : zStep B0 Ls X (zm_y mid).cls (zm_cc mid) (zm_nfo mid).1 (zini mid) (K d mid) r pc L st G := by
  match a, hc, h with
  | [], hc, h => exact absurd (show false = true from hc) (by decide)
  | [_], hc, h => exact absurd (show false = true from hc) (by decide)
  | lo :: df :: ts, hc, h =>
    obtain ⟨pc', st', hk, kk⟩ := zs_tsw (B0 := B0) (Ls := Ls) (X := X) (own := (zm_y mid).cls) (nL := (zm_nfo mid).1) (N := N) (k := K d mid) hN hc h
    exact ⟨pc', L, st', G, hk, Nat.le_refl _, Nat.le_refl _, Nat.le_refl _, fun ad0 n0 p l e R s m args below meth c Q F _ _ _ _ _ hh => kk ad0 n0 p l e R s m args below meth c Q F hh⟩
theorem zs_26 {hk : ZHk} {N : ZN} {ih : Nat → Nat → ZK} {B0 Ls d mid pc nx : Nat} {a : List Nat} {X : ZX} {L : ZL} {st : List ZV} {G : ZG} {r : ZRes} (hc : zchk (zm_y mid).cls (zm_cc mid) (zm_nfo mid).1 (zini mid) (zm_ret mid) pc (26, nx, a) = true) (h : zg3 hk N ih d mid pc 26 nx a L st G = some r) : zGoal hk B0 Ls X d mid pc L st G r := by
  match a, hc, h with
  | [], hc, h => exact absurd (show false = true from hc) (by decide)
  | [_], hc, h => exact absurd (show false = true from hc) (by decide)
  | _ :: _ :: _ :: _, hc, h => exact absurd (show false = true from hc) (by decide)
  | [kd, rty], hc, h =>
    have hc : zc_ret (zm_cc mid) (zm_ret mid) pc kd rty = true := hc
    have fin : ∀ (v : Option ZV), st = zrst v → r = (0, v, G) → zrsk kd rty v = true → zGoal hk B0 Ls X d mid pc L st G r := by
      intro v hv hr hk
      subst hr
      subst hv
      exact ⟨Nat.le_refl _, Nat.le_refl _, Nat.le_refl _, fun ad0 n0 p l e R s m args below meth c Q F _ _ hC => hC.1 rfl pc L kd rty hc hk⟩
    have h : zo_ret kd rty st G = some r := h
    match kd, st, h, fin with
    | 0, [], h, fin => exact fin none rfl (Option.some.inj h).symm rfl
    | 1, [v], h, fin =>
      obtain ⟨k1, k2⟩ := zif_some (show zif (zrk rty v) (some (0, some v, G)) none = some r from h)
      exact fin (some v) rfl (Option.some.inj k2).symm k1
    | 2, [v], h, fin =>
      obtain ⟨k1, k2⟩ := zif_some (show zif (zlong v) (some (0, some v, G)) none = some r from h)
      exact fin (some v) rfl (Option.some.inj k2).symm k1
    | 3, [v], h, fin =>
      obtain ⟨k1, k2⟩ := zif_some (show zif (zref v) (some (0, some v, G)) none = some r from h)
      exact fin (some v) rfl (Option.some.inj k2).symm k1
    | k + 4, _, h, _ => exact absurd (show (none : Option ZRes) = some r from h) (by intro q; cases q)
    | 0, _ :: _, h, _ => exact absurd (show (none : Option ZRes) = some r from h) (by intro q; cases q)
    | 1, [], h, _ => exact absurd (show (none : Option ZRes) = some r from h) (by intro q; cases q)
    | 2, [], h, _ => exact absurd (show (none : Option ZRes) = some r from h) (by intro q; cases q)
    | 3, [], h, _ => exact absurd (show (none : Option ZRes) = some r from h) (by intro q; cases q)
    | 1, _ :: _ :: _, h, _ => exact absurd (show (none : Option ZRes) = some r from h) (by intro q; cases q)
    | 2, _ :: _ :: _, h, _ => exact absurd (show (none : Option ZRes) = some r from h) (by intro q; cases q)
    | 3, _ :: _ :: _, h, _ => exact absurd (show (none : Option ZRes) = some r from h) (by intro q; cases q)
theorem zs_27 {hk : ZHk} {N : ZN} {ih : Nat → Nat → ZK} {B0 Ls d mid pc nx : Nat} {a : List Nat} {X : ZX} {L : ZL} {st : List ZV} {G : ZG} {r : ZRes} (hc : zchk (zm_y mid).cls (zm_cc mid) (zm_nfo mid).1 (zini mid) (zm_ret mid) pc (27, nx, a) = true) (h : zg3 hk N ih d mid pc 27 nx a L st G = some r) : zGoal hk B0 Ls X d mid pc L st G r := by
  match a, hc, h with
  | [], hc, h => exact absurd (show false = true from hc) (by decide)
  | [_], hc, h => exact absurd (show false = true from hc) (by decide)
  | [_, _], hc, h => exact absurd (show false = true from hc) (by decide)
  | [_, _, _], hc, h => exact absurd (show false = true from hc) (by decide)
  | [_, _, _, _], hc, h => exact absurd (show false = true from hc) (by decide)
  | [_, _, _, _, _], hc, h => exact absurd (show false = true from hc) (by decide)
  | _ :: _ :: _ :: _ :: _ :: _ :: _ :: _, hc, h => exact absurd (show false = true from hc) (by decide)
  | [E, ik, ic, p1, p2, p3], hc, h =>
    have hc : zc_thr (zm_y mid).cls (zm_cc mid) pc E ik ic p1 p2 p3 = true := hc
    have hE4 : E < 4 := (of_decide_eq_true ((Bool.and_eq_true _ _).mp ((Bool.and_eq_true _ _).mp ((Bool.and_eq_true _ _).mp hc).1).1).1).1
    have h : zif (Nat.beq mid 0) none (zif (Nat.ble (zcats st) 8) (@Option.rec _ (fun _ => Option ZRes) (some (Nat.succ E, none, (G.1, G.2.1, Nat.succ G.2.2.1, Nat.add G.2.2.2 6))) (fun _ => none) (zm_hx mid)) none) = some r := h
    rcases zif_or h with ⟨-, h⟩ | ⟨hm0, h⟩
    · cases h
    have hm9 := zb_ne hm0
    obtain ⟨k1, h⟩ := zif_some h
    cases hhx : zm_hx mid with
    | some hs =>
      rw [hhx] at h
      have h : (none : Option ZRes) = some r := h
      cases h
    | none =>
      rw [hhx] at h
      have h : some (Nat.succ E, none, (G.1, G.2.1, Nat.succ G.2.2.1, Nat.add G.2.2.2 6)) = some r := h
      have h := (Option.some.inj h).symm
      subst h
      exact ⟨Nat.le_refl _, Nat.le_succ _, Nat.le_add_right _ _, fun ad0 n0 p l e R s m args below meth c Q F _ _ hC => (hC.2.1 hm9 E (by omega) rfl).1 pc L st G ik ic p1 p2 p3 hc hhx k1 rfl⟩
noncomputable def zord (hk : ZHk) (N : ZN) (K : Nat → Nat → ZK) : Nat → Nat → ZK := fun d mid pc L st G => zob (zt_get 12 (zm_code mid) pc) fun en => zstep hk N K d mid pc en.1 en.2.1 en.2.2 L st G
theorem zsound {hk : ZHk} {N : ZN} {B0 Ls : Nat} {X : ZX} {K : Nat → Nat → ZK} (hN : zNok X Ls N) (hth : ∀ E, E < 4 → zthk E = true) (h1 : ∀ mid, mid ≤ zMN → zmok mid = true) (h2 : ∀ mid, mid ≤ zMN → zmok2 mid = true) (h3 : ∀ mid, mid ≤ zMN → zmok3 mid = true) (hmk : ∀ md, 0 < md → md ≤ zMN → zmk md = true) (IH : zSound hk B0 Ls X K) : zSound hk B0 Ls X (zord hk N K) := by
    intro d mid pc L st G r h
    have h : zob (zt_get 12 (zm_code mid) pc) (fun en => zstep hk N K d mid pc en.1 en.2.1 en.2.2 L st G) = some r := h
    obtain ⟨en, hen, h⟩ := zob_some h
    have hmid : mid ≤ zMN := by
      rcases Nat.lt_or_ge zMN mid with k | k
      · exfalso
        have k0 : Nat.ble mid zMN = false := by
          cases hb : Nat.ble mid zMN with
          | true =>
            have := zl_le hb
            omega
          | false => rfl
        unfold zm_code at hen
        rw [k0] at hen
        have hen : zt_get 12 (zt_nil ZE 12) pc = some en := hen
        rw [zt_getN] at hen
        cases hen
      · exact k
    obtain ⟨op, nx, a⟩ := en
    have hc := zt_all_get 12 (zm_code mid) 0 1 pc _ (h1 mid hmid) hen
    rw [Nat.zero_add, Nat.one_mul] at hc
    have hc2 := zt_all_get 12 (zm_code mid) 0 1 pc _ (h2 mid hmid) hen
    have gen : zStep B0 Ls X (zm_y mid).cls (zm_cc mid) (zm_nfo mid).1 (zini mid) (K d mid) r pc L st G → zGoal hk B0 Ls X d mid pc L st G r := by
      intro ⟨pc', L', st', G', k1, m1, m2, m3, k2⟩
      obtain ⟨n1, n2, n3, n4⟩ := IH d mid pc' L' st' G' r k1
      refine ⟨Nat.le_trans m1 n1, Nat.le_trans m2 n2, Nat.le_trans m3 n3, fun ad0 n0 p l e R s m args below meth c Q F hRc hRs hC => ?_⟩
      have F1 := F.2.2.1
      have F2 := F.2.2.2.1
      exact k2 ad0 n0 p l e R s m args below meth c Q F.1 (fun hi => F.2.1 (of_decide_eq_true hi)) (by omega) (by omega) (Nat.le_trans n2 hRc) (Nat.le_trans n3 hRs) (n4 ad0 n0 p l e R s m args below meth c Q F hRc hRs hC)
    have goal : zGoal hk B0 Ls X d mid pc L st G r := by
      have h : zif (Nat.ble op 15) (zif (Nat.ble op 7) (zg0 N (K d mid) op nx a L st G) (zg1 N (K d mid) op nx a L st G)) (zif (Nat.ble op 23) (zg2 N (K d mid) op nx a L st G) (zif (Nat.ble op 27) (zg3 hk N K d mid pc op nx a L st G) (zg4 N (K d mid) op nx a L st G))) = some r := h
      rcases zif_or h with ⟨e1, h⟩ | ⟨e1, h⟩
      · rcases zif_or h with ⟨e2, h⟩ | ⟨e2, h⟩
        · exact gen (zg0_ok hN (zl_le e2) h hc)
        · exact gen (zg1_ok hN (zl_nle e2) (zl_le e1) h hc)
      · rcases zif_or h with ⟨e2, h⟩ | ⟨e2, h⟩
        · exact gen (zg2_ok hN (zl_nle e1) (zl_le e2) h hc)
        · rcases zif_or h with ⟨-, h⟩ | ⟨-, h⟩
          case inr.inr.inr => exact gen (zg4_ok hN h hc)
          have h0 : zg3 hk N K d mid pc op nx a L st G = some r := h
          unfold zg3 at h
          rcases zif_or h with ⟨e3, h⟩ | ⟨e3, h⟩
          · rcases zif_or h with ⟨e4, h⟩ | ⟨e4, h⟩
            · have e4 := zb_eq e4
              subst e4
              exact gen (zs_24 hN hc h0)
            · obtain ⟨e5, h⟩ := zif_some h
              have e5 := zb_eq e5
              subst e5
              match a, hc, hc2, h0 with
              | [], hc, _, _ => exact absurd (show false = true from hc) (by decide)
              | [_], hc, _, _ => exact absurd (show false = true from hc) (by decide)
              | [_, _], hc, _, _ => exact absurd (show false = true from hc) (by decide)
              | [_, _, _], hc, _, _ => exact absurd (show false = true from hc) (by decide)
              | _ :: _ :: _ :: _ :: _ :: _, hc, _, _ => exact absurd (show false = true from hc) (by decide)
              | [md, form, idx, pos], hc, hc2, h0 => exact zs_call IH hth hmk hmid (h3 mid hmid) hc hc2 h0
          · rcases zif_or h with ⟨e4, h⟩ | ⟨e4, h⟩
            · have e4 := zb_eq e4
              subst e4
              exact zs_26 hc h0
            · obtain ⟨e5, h⟩ := zif_some h
              have e5 := zb_eq e5
              subst e5
              exact zs_27 hc h0
    exact goal
