/-! The interpreter's answer is the machine's. -/
theorem zgoodIn {l : List Cond} (h : ∀ w ∈ l, w ∈ zW) : GoodIn zW l := fun w hw => ⟨h w hw, good_of_word (zW_good (h w hw))⟩
theorem zx_imp {l : Launch} {y : MethodName} {ws : List Cond} {rm : Room} {Pc : Array Value → State → Prop} {Qc Qc' : Array Value → State → Outcome → State → Prop} {XC XC' : String → State → State → Prop} {mc ms : Nat} {free : Addr → Prop} (h : vx_Met l y ws rm Pc Qc XC mc ms free) (hq : ∀ a s o t, Qc a s o t → Qc' a s o t) (hx : ∀ C s t, XC C s t → XC' C s t) : vx_Met l y ws rm Pc Qc' XC' mc ms free := by
  intro p e ha hc hk s m args below hf happ hP hK
  obtain ⟨n, o, h1, h2, h3, h4⟩ := h p e ha hc hk s m args below hf happ hP hK
  refine ⟨n, o, h1, h2, h3, ?_⟩
  rcases h4 with ⟨k1, k2⟩ | ⟨q, ho, E, ce, L, hf, k⟩
  · exact Or.inl ⟨hq _ _ _ _ k1, k2⟩
  · exact Or.inr ⟨q, ho, E, ce, L, hx _ _ _ hf, k⟩
theorem zthr_ws {own X : String} {ic : Nat} {names : List String} {w : Cond} (h : w ∈ vx_at0 own ic X names) : w = .methodLink own ic (Bundle.init0 X) ∨ w ∈ vx_at0 "" 0 X names := by
  unfold vx_at0 at h ⊢
  rw [List.mem_filter] at h ⊢
  obtain ⟨h1, h2⟩ := h
  unfold Bundle.ownAtoms0 at h1 ⊢
  rcases List.mem_append.mp h1 with h1 | h1
  · exact Or.inr ⟨List.mem_append_left _ h1, h2⟩
  · rcases List.mem_cons.mp h1 with h1 | h1
    · exact Or.inl h1
    · exact Or.inr ⟨List.mem_append_right _ (List.mem_cons_of_mem _ h1), h2⟩
/-- all words of a throw but its own link -/
def zthr_chk (E : Nat) : Bool := (vx_at0 "" 0 (zq_ex E) zxnames).all fun w => decide (w = .methodLink "" 0 (Bundle.init0 (zq_ex E))) || (vx_ot w && (lw_tbl.any fun z => decide (z = w) && (goodWord w || zcold w)))
theorem zthr_use {E : Nat} (h : zthr_chk E = true) {own : String} {ic : Nat} {w : Cond} (hw : w ∈ vx_at0 own ic (zq_ex E) zxnames) : w = .methodLink own ic (Bundle.init0 (zq_ex E)) ∨ w = .methodLink "" 0 (Bundle.init0 (zq_ex E)) ∨ (vx_ot w = true ∧ (w ∈ zW ∨ w ∈ zWn)) := by
  rcases zthr_ws hw with h1 | h1
  · exact Or.inl h1
  · rcases (Bool.or_eq_true _ _).mp (List.all_eq_true.mp h w h1) with k | k
    · exact Or.inr (Or.inl (of_decide_eq_true k))
    · have k := (Bool.and_eq_true _ _).mp k
      obtain ⟨z, hz, k2⟩ := List.any_eq_true.mp k.2
      have k2 := (Bool.and_eq_true _ _).mp k2
      have e : z = w := of_decide_eq_true k2.1
      subst e
      refine Or.inr (Or.inr ⟨k.1, ?_⟩)
      cases hg : goodWord z with
      | true => exact Or.inl (List.mem_filter.mpr ⟨hz, hg⟩)
      | false =>
        have h3 := k2.2
        rw [hg] at h3
        exact Or.inr (List.mem_filter.mpr ⟨hz, h3⟩)
section ZS
variable {B0 Ls : Nat} {X : ZX} {p : Program} {l : Launch} {e : Env} {R : Room} {s : State} {m : MethodId} {args : Array Value} {below : List Frame} {meth : Method} {c : Code} {Q : State → Prop} {own : String} {cc : ByteArray} {nL : Nat} {ad0 : Nat → Nat} {n0 : Nat}
theorem zs_tsw {N : ZN} {pc lo df len : Nat} {ts : List Nat} {k : ZK} {r : ZRes} {L : ZL} {st : List ZV} {G : ZG} (hN : zNok X Ls N) (hc : decide (lo < 2147483648 ∧ ts.length < 1000 ∧ decode cc pc = .ok (.tableswitch ((df : Int) - pc) (lo : Int) ((lo : Int) + ts.length - 1) (List.map (fun t : Nat => (t : Int) - (pc : Int)) ts).toArray, len)) = true) (h : zo_tsw N k lo df ts L st G = some r) :
    ∃ (pc' : Nat) (st' : List ZV), k pc' L st' G = some r ∧ ∀ (ad0 : Nat → Nat) (n0 : Nat) (p : Program) (l : Launch) (e : Env) (R : Room) (s : State) (m : MethodId) (args : Array Value) (below : List Frame) (meth : Method) (c : Code) (Q : State → Prop),
      zF B0 Ls X p l s m args meth c own cc nL → zHd B0 X ad0 n0 p l e R s m args below meth c Q nL pc' L st' G → zHd B0 X ad0 n0 p l e R s m args below meth c Q nL pc L st G := by
  obtain ⟨hlo, hlen, hd⟩ := of_decide_eq_true hc
  have out : ∀ (x : ZV) (r0 : List ZV) (a : ZI), ziv N x = some a → (∀ z : Int32, zin a (zkI z) → z.toInt < (lo : Int) ∨ (lo : Int) + ts.length - 1 < z.toInt) →
      ∀ (ad0 : Nat → Nat) (n0 : Nat) (p : Program) (l : Launch) (e : Env) (R : Room) (s : State) (m : MethodId) (args : Array Value) (below : List Frame) (meth : Method) (c : Code) (Q : State → Prop),
      zF B0 Ls X p l s m args meth c own cc nL → zHd B0 X ad0 n0 p l e R s m args below meth c Q nL df L r0 G → zHd B0 X ad0 n0 p l e R s m args below meth c Q nL pc L (x :: r0) G := by
    intro x r0 a ha hz ad0 n0 p l e R s m args below meth c Q F hh ad hag H locs ls sv hW hS hL hT
    obtain ⟨hx0, hb, -⟩ := F
    obtain ⟨wx, sr, rfl, hx, hr⟩ := hT
    obtain ⟨x1, rfl, k1⟩ := ziv_ok hN ha hx
    exact lv_tableOut hx0 hb hd (hz x1 k1) (by omega) (hh ad hag H locs ls sr hW hS hL hr)
  unfold zo_tsw at h
  split at h
  · rename_i x r0
    obtain ⟨a, ha, h1⟩ := zob_some h
    rcases zif_or h1 with ⟨e1, h2⟩ | ⟨e1, h2⟩
    · have e1 := zb_eq e1
      rcases zif_or h2 with ⟨e2, h3⟩ | ⟨e2, h3⟩
      · have e2 : lo + 2147483648 ≤ a.1 := zl_le e2
        cases hz : znth ts (Nat.sub a.1 (Nat.add lo 2147483648)) with
        | none =>
          rw [hz] at h3
          have h3 : k df L r0 G = some r := h3
          rw [znth_eq, List.getElem?_eq_none_iff] at hz
          have hz : ts.length ≤ a.1 - (lo + 2147483648) := hz
          exact ⟨df, r0, h3, out x r0 a ha fun z hzz => Or.inr (by
            obtain ⟨z1, z2⟩ := hzz
            have z3 : zkI z = a.1 := by omega
            unfold zkI at z3
            have := Int32.le_toInt z
            omega)⟩
        | some t =>
          rw [hz] at h3
          have h3 : k t L r0 G = some r := h3
          rw [znth_eq] at hz
          refine ⟨t, r0, h3, fun ad0 n0 p l e R s m args below meth c Q F hh ad hag H locs ls sv hW hS hL hT => ?_⟩
          obtain ⟨hx0, hb, -⟩ := F
          obtain ⟨wx, sr, rfl, hx, hr⟩ := hT
          obtain ⟨x1, rfl, z1, z2⟩ := ziv_ok hN ha hx
          have z3 : zkI x1 = a.1 := by omega
          unfold zkI at z3
          have z4 := Int32.le_toInt x1
          have hil := (List.getElem?_eq_some_iff.mp hz).1
          have hil : a.1 - (lo + 2147483648) < ts.length := hil
          refine lv_tableIn (off := (t : Int) - (pc : Int)) hx0 hb hd (by omega) (by omega) ?_ (by omega) (hh ad hag H locs ls sr hW hS hL hr)
          rw [List.getElem?_toArray, List.getElem?_map, show (x1.toInt - (lo : Int)).toNat = a.1 - (lo + 2147483648) by omega]
          rw [show ts[a.1 - (lo + 2147483648)]? = some t from hz]
          rfl
      · have e2 : a.1 < lo + 2147483648 := zl_nle e2
        exact ⟨df, r0, h3, out x r0 a ha fun z hzz => Or.inl (by
          obtain ⟨z1, z2⟩ := hzz
          have z3 : zkI z = a.1 := by omega
          unfold zkI at z3
          have := Int32.le_toInt z
          omega)⟩
    · rcases zif_or h2 with ⟨e2, h3⟩ | ⟨e2, h3⟩
      · have e2 : a.2 + 1 ≤ lo + 2147483648 := zl_le e2
        exact ⟨df, r0, h3, out x r0 a ha fun z hzz => Or.inl (by
          obtain ⟨z1, z2⟩ := hzz
          unfold zkI at z1 z2
          have := Int32.le_toInt z
          omega)⟩
      · obtain ⟨e3, h4⟩ := zif_some h3
        have e3 : lo + 2147483648 + ts.length ≤ a.1 := zl_le e3
        exact ⟨df, r0, h4, out x r0 a ha fun z hzz => Or.inr (by
          obtain ⟨z1, z2⟩ := hzz
          unfold zkI at z1 z2
          have := Int32.le_toInt z
          omega)⟩
  · cases h
/-- the handlers of a method, gone through -/
theorem zfind_ok {E pc : Nat} : ∀ (hs : List ((Nat × Nat × Nat × Nat) × Nat × Nat)) (o : Option Nat), (∀ q ∈ hs, q.1.2.2.2 ≠ 0 ∧ (Cond.classLink own q.1.2.2.2 (zq_ex q.2.1)).before args s = true) → (∀ q ∈ zq_nc, va_Nc (zq_ex q.1) (zq_ex q.2) s) → zfind E pc hs = some o →
    (o = none ∧ ∀ z ∈ tableOf (hs.map fun q => q.1), covers z pc = false ∨ (z.catchType ≠ 0 ∧ ∃ nm : String, (Cond.classLink own z.catchType nm).before args s = true ∧ va_Nc (zq_ex E) nm s)) ∨
    ∃ (l1 : List ((Nat × Nat × Nat × Nat) × Nat × Nat)) (q : (Nat × Nat × Nat × Nat) × Nat × Nat) (l2 : List ((Nat × Nat × Nat × Nat) × Nat × Nat)), hs = l1 ++ q :: l2 ∧ o = some q.1.2.2.1 ∧ q.2.1 = E ∧ covers ⟨q.1.1, q.1.2.1, q.1.2.2.1, q.1.2.2.2⟩ pc = true ∧
      ∀ z ∈ tableOf (l1.map fun q => q.1), covers z pc = false ∨ (z.catchType ≠ 0 ∧ ∃ nm : String, (Cond.classLink own z.catchType nm).before args s = true ∧ va_Nc (zq_ex E) nm s)
  | [], o, _, _, h => by
    have h : some none = some o := h
    cases h
    exact Or.inl ⟨rfl, fun z hz => by cases hz⟩
  | q :: hs, o, hk, hn, h => by
    have next : (covers ⟨q.1.1, q.1.2.1, q.1.2.2.1, q.1.2.2.2⟩ pc = false ∨ (q.1.2.2.2 ≠ 0 ∧ ∃ nm : String, (Cond.classLink own q.1.2.2.2 nm).before args s = true ∧ va_Nc (zq_ex E) nm s)) → zfind E pc hs = some o → _ := fun hp h2 => zfind_ok hs o (fun z hz => hk z (List.mem_cons_of_mem _ hz)) hn h2
    have glue : (covers ⟨q.1.1, q.1.2.1, q.1.2.2.1, q.1.2.2.2⟩ pc = false ∨ (q.1.2.2.2 ≠ 0 ∧ ∃ nm : String, (Cond.classLink own q.1.2.2.2 nm).before args s = true ∧ va_Nc (zq_ex E) nm s)) → zfind E pc hs = some o →
        (o = none ∧ ∀ z ∈ tableOf ((q :: hs).map fun q => q.1), covers z pc = false ∨ (z.catchType ≠ 0 ∧ ∃ nm : String, (Cond.classLink own z.catchType nm).before args s = true ∧ va_Nc (zq_ex E) nm s)) ∨
        ∃ (l1 : List ((Nat × Nat × Nat × Nat) × Nat × Nat)) (q' : (Nat × Nat × Nat × Nat) × Nat × Nat) (l2 : List ((Nat × Nat × Nat × Nat) × Nat × Nat)), q :: hs = l1 ++ q' :: l2 ∧ o = some q'.1.2.2.1 ∧ q'.2.1 = E ∧ covers ⟨q'.1.1, q'.1.2.1, q'.1.2.2.1, q'.1.2.2.2⟩ pc = true ∧
          ∀ z ∈ tableOf (l1.map fun q => q.1), covers z pc = false ∨ (z.catchType ≠ 0 ∧ ∃ nm : String, (Cond.classLink own z.catchType nm).before args s = true ∧ va_Nc (zq_ex E) nm s) := by
      intro hp h2
      rcases next hp h2 with ⟨g1, g2⟩ | ⟨l1, q', l2, g1, g2, g3, g4, g5⟩
      · refine Or.inl ⟨g1, fun z hz => ?_⟩
        rcases List.mem_cons.mp hz with rfl | hz
        · exact hp
        · exact g2 z hz
      · refine Or.inr ⟨q :: l1, q', l2, by rw [g1]; rfl, g2, g3, g4, fun z hz => ?_⟩
        rcases List.mem_cons.mp hz with rfl | hz
        · exact hp
        · exact g5 z hz
    have h : zif (Nat.ble q.1.1 pc) (zif (Nat.ble (Nat.succ pc) q.1.2.1) (zif (Nat.beq q.2.1 E) (some (some q.1.2.2.1)) (zif (zq_nc.any fun z => Nat.beq z.1 E && Nat.beq z.2 q.2.1) (zfind E pc hs) none)) (zfind E pc hs)) (zfind E pc hs) = some o := h
    rcases zif_or h with ⟨e1, h1⟩ | ⟨e1, h1⟩
    · rcases zif_or h1 with ⟨e2, h2⟩ | ⟨e2, h2⟩
      · rcases zif_or h2 with ⟨e3, h3⟩ | ⟨e3, h3⟩
        · cases h3
          refine Or.inr ⟨[], q, hs, rfl, rfl, zb_eq e3, ?_, fun z hz => by cases hz⟩
          have k1 := zl_le e1
          have k2 : pc + 1 ≤ q.1.2.1 := zl_le e2
          show (decide (q.1.1 ≤ pc) && decide (pc < q.1.2.1)) = true
          rw [Bool.and_eq_true, decide_eq_true_eq, decide_eq_true_eq]
          exact ⟨k1, k2⟩
        · obtain ⟨e4, h4⟩ := zif_some h3
          obtain ⟨z, hz, k⟩ := List.any_eq_true.mp e4
          have k := (Bool.and_eq_true _ _).mp k
          have kk := hn z hz
          rw [zb_eq k.1, zb_eq k.2] at kk
          exact glue (Or.inr ⟨(hk q List.mem_cons_self).1, _, (hk q List.mem_cons_self).2, kk⟩) h4
      · refine glue (Or.inl ?_) h2
        have k2 : q.1.2.1 < pc + 1 := zl_nle e2
        show (decide (q.1.1 ≤ pc) && decide (pc < q.1.2.1)) = false
        rw [show decide (pc < q.1.2.1) = false from decide_eq_false (by omega)]
        cases decide (q.1.1 ≤ pc) <;> rfl
    · refine glue (Or.inl ?_) h1
      have k1 : pc < q.1.1 := zl_nle e1
      show (decide (q.1.1 ≤ pc) && decide (pc < q.1.2.1)) = false
      rw [show decide (q.1.1 ≤ pc) = false from decide_eq_false (by omega)]
      rfl
end ZS
