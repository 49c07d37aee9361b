/-! The law's start: what it gives of the world. -/
noncomputable def zgv : List Cond := flatC (Jvm.Cond.and given_1 narrow_1)
noncomputable def zbt (k j : Nat) : Nat := match zq_xt k with
  | some (_, _, t) => (zt_get 10 t j).getD 0
  | none => 0
def zW1n : String := "SchemaPascal$Words"
def zsv (i : Nat) : Term := .field (.string zW1n i) "java/lang/String" "value" "[B"
noncomputable def zby (k n : Nat) : List Int32 := (List.range n).map fun j => nI (zbt k j)
set_option maxRecDepth 100000 in
theorem zgv39 : ((List.range 198).all fun j => decide (zgv[145 + j]? = some (.eq (.elem (zsv 39) (.int (Int32.ofNat j))) (.int (nI (zbt 4 j)))))) = true := by decide +kernel
set_option maxRecDepth 100000 in
theorem zgv45 : ((List.range 134).all fun j => decide (zgv[347 + j]? = some (.eq (.elem (zsv 45) (.int (Int32.ofNat j))) (.int (nI (zbt 6 j)))))) = true := by decide +kernel
set_option maxRecDepth 100000 in
theorem zgvC : ((List.range 16).all fun j => decide (zgv[16 + j]? = some (.eq (.elem (.static "SchemaPascal" "CODES" "[I") (.int (Int32.ofNat j))) (.int (nI (zbt 2 j)))))) = true := by decide +kernel
def zgq : List (Nat × Cond) := [(4, .isRef (.static "java/util/ArrayList" "DEFAULTCAPACITY_EMPTY_ELEMENTDATA" "[Ljava/lang/Object;")), (5, .arrayOf (.static "java/util/ArrayList" "DEFAULTCAPACITY_EMPTY_ELEMENTDATA" "[Ljava/lang/Object;") (.object "java/lang/Object")), (7, .eq (.length (.static "java/util/ArrayList" "DEFAULTCAPACITY_EMPTY_ELEMENTDATA" "[Ljava/lang/Object;")) (.int (Int32.ofNat 0))),
  (8, .eq (.static "java/lang/String" "COMPACT_STRINGS" "Z") (.int (nI 1))), (9, .isRef (.static "jdk/internal/util/Preconditions" "SIOOBE_FORMATTER" "Ljava/util/function/BiFunction;")), (14, .arrayOf (.static "SchemaPascal" "CODES" "[I") .int), (15, .eq (.length (.static "SchemaPascal" "CODES" "[I")) (.int (Int32.ofNat 16))),
  (32, .isRef (.static Bundle.tN "UNASSIGNED_STACK" Bundle.steD)), (33, .isRef (.static Bundle.tN "SUPPRESSED_SENTINEL" Bundle.listD)), (81, .not (.castable "java/lang/IllegalStateException" "java/lang/IllegalArgumentException")),
  (141, .exactly (.string zW1n 39) "java/lang/String"), (142, .eq (.field (.string zW1n 39) "java/lang/String" "coder" "B") (.int 0)), (143, .arrayOf (zsv 39) .byte), (144, .eq (.length (zsv 39)) (.int (Int32.ofNat 198))),
  (343, .exactly (.string zW1n 45) "java/lang/String"), (344, .eq (.field (.string zW1n 45) "java/lang/String" "coder" "B") (.int 0)), (345, .arrayOf (zsv 45) .byte), (346, .eq (.length (zsv 45)) (.int (Int32.ofNat 134)))]
set_option maxRecDepth 100000 in
theorem zgq_ok : (zgq.all fun q => decide (zgv[q.1]? = some q.2)) = true := by decide +kernel
def zgw : List Cond := [.laysStatic "java/util/ArrayList" "DEFAULTCAPACITY_EMPTY_ELEMENTDATA" "[Ljava/lang/Object;", .initialized "java/util/ArrayList", .laysStatic "SchemaPascal" "CODES" "[I", .initialized "SchemaPascal", .laysStatic "java/lang/String" "COMPACT_STRINGS" "Z", .initialized "java/lang/String", .laysStatic "jdk/internal/util/Preconditions" "SIOOBE_FORMATTER" "Ljava/util/function/BiFunction;", .initialized "jdk/internal/util/Preconditions",
  .laysStatic Bundle.tN "UNASSIGNED_STACK" Bundle.steD, .laysStatic Bundle.tN "SUPPRESSED_SENTINEL" Bundle.listD, .initialized Bundle.tN, .arrayClass .int, .arrayClass .byte, .arrayClass .boolean, .arrayClass .long, .arrayOver (.object "java/lang/Object"), .arrayOver (.object "SchemaPascal$Symbol"), .arrayOver (.object "SchemaPascal$Part")]
set_option maxRecDepth 100000 in
theorem zgw_ok : (zgw.all fun q => decide (q ∈ lw_tbl)) = true := by decide +kernel
def zgs : List (Nat × String) := [(39, "program const type var procedure function forward begin end if then else while do repeat until for to downto case of otherwise with array record set string nil div mod and or not in protected value "), (45, "integer boolean char true false maxint abs sqr odd ord chr succ pred length card index substr eof new dispose read write writeln halt ")]
set_option maxRecDepth 100000 in
theorem zgs_ok : (zgs.all fun q => decide (Cond.stringRef zW1n q.1 q.2 ∈ lw_tbl)) = true := by decide +kernel
theorem zT_congr {ty : FieldType} {t N : Nat} {f g : Nat → Value} {A : Nat → Prop} {U : State} {H : Heap} (h : va_T ty t N f A U H) (hfg : ∀ j, j < N → f j = g j) : va_T ty t N g A U H := by
  obtain ⟨cell, h1, h2, h3, h4, h5, h6, h7⟩ := h
  exact ⟨cell, h1, h2, h3, h4, h5, fun j hj => by rw [h6 j hj, hfg j hj], h7⟩
theorem zArr {args : Array Value} {s : State} {ty : FieldType} (h : (Cond.arrayClass ty).before args s = true) (hp : ∀ n, ty ≠ .object n) : ∃ cA : ClassId, ArrOfT s cA ty ∧ va_RA s cA ty := by
  obtain ⟨cA, kA, comp, h1, h2, h3⟩ := Cond.arrayClass_spec h
  refine ⟨cA, fun n z => ⟨(fun k h => by cases h), kA, h2, comp, h3⟩, ?_⟩
  cases ty with
  | object n => exact absurd rfl (hp n)
  | _ => exact h1
theorem zArrO {args : Array Value} {s : State} {n : String} (h : (Cond.arrayOver (.object n)).before args s = true) : ∃ cA : ClassId, ArrOfT s cA (.object n) ∧ va_RA s cA (.object n) := by
  obtain ⟨comp, cA, kA, h1, -, h2, h3, h4⟩ := Cond.arrayOver_spec h
  exact ⟨cA, fun N z => ⟨(fun k h => by cases h), kA, h2, comp, h3⟩, kA, comp, h2, h3, h1, h4⟩
theorem zcold_in {args : Array Value} {s : State} {w : Cond} (hc : zcold w = true) (h : w.before args s = true) : w.before #[] s = true := by
  unfold zcold at hc
  split at hc
  · exact va_Nw.of rfl h
  · exact va_Nw.of rfl h
  · exact va_Nw.of rfl h
  · exact va_Nw.of rfl h
  · exact va_AO.use (va_AO.of h)
  · cases hc
/-- a string of the words -/
theorem zstr {args : Array Value} {s : State} {i k n : Nat} {A : Nat → Prop} (hn : n < 2 ^ 31) (hex : (Cond.exactly (.string zW1n i) "java/lang/String").before args s = true) (hco : (Cond.eq (.field (.string zW1n i) "java/lang/String" "coder" "B") (.int 0)).before args s = true)
    (har : (Cond.arrayOf (zsv i) .byte).before args s = true) (hle : (Cond.eq (.length (zsv i)) (.int (Int32.ofNat n))).before args s = true) (hel : ∀ j, j < n → (Cond.eq (.elem (zsv i) (.int (Int32.ofNat j))) (.int (nI (zbt k j)))).before args s = true) (hA : ∀ a : Nat, a < s.heap.size → ¬ A a) :
    ∃ a v : Nat, va_O "java/lang/String" a A s s.heap ∧ va_OF "java/lang/String" "coder" "B" (.int 0) a A s s.heap ∧ va_OF "java/lang/String" "value" "[B" (.ref v) a A s s.heap ∧ va_T .byte v n (fun j => .int (nI (zbt k j))) A s s.heap ∧ (Term.string zW1n i).eval args s none [] s = some (.ref a) := by
  have hget : ∀ j, j < n → (zby k n).getD j 0 = nI (zbt k j) := fun j hj => by
    unfold zby
    rw [List.getD_eq_getElem?_getD, List.getElem?_map, List.getElem?_range hj]
    rfl
  obtain ⟨adK, adV, h1, h2⟩ := vk_Sof (N := 1) (tm := fun _ => .string zW1n i) (len := [n]) (byt := [zby k n]) (A := A) (args := args) (s := s) (fun q hq => by
      have : q = 0 := by omega
      subst this
      exact hn) (fun _ _ => hex) (fun _ _ => hco) (fun _ _ => har) (fun q hq => by
      have : q = 0 := by omega
      subst this
      exact hle) (fun q hq j hj => by
      have : q = 0 := by omega
      subst this
      have hj : j < n := hj
      show (Cond.eq (.elem (zsv i) (.int (Int32.ofNat j))) (.int ((zby k n).getD j 0))).before args s = true
      rw [hget j hj]
      exact hel j hj) (fun a b ha hb hab => by omega) hA
  obtain ⟨k1, k2, k3, k4⟩ := h1.1 0 (by decide)
  exact ⟨adK 0, adV 0, k1, k2, k3, zT_congr k4 (fun j hj => congrArg Value.int (hget j hj)), h2 0 (by decide)⟩
set_option maxRecDepth 100000 in
theorem zlaw_facts {p : Program} {s : State} {m : MethodId} {meth : Method} {c : Code} {b L : Nat} {xs : Nat → Int32} (C0 : lw_At p s m meth c b L xs) : ∃ X : ZX, X.2.2.1 0 = b ∧ X.2.2.2 = xs ∧ va_K X.1 zcl (ztys X) s ∧ zSF s.heap.size L X s := by
  obtain ⟨hx, hb, hr, hml, hown, hts, hX, hbl, hlk, hgv⟩ := C0
  have hq0 : ∀ c ∈ zgv, c.before #[Value.ref b] s = true := flat_of_before _ hgv
  have hA : ∀ a : Nat, a < s.heap.size → ¬ zA s.heap.size a := fun a h1 h2 => Nat.not_lt.mpr h2 h1
  have hg : ∀ q ∈ zgq, q.2.before #[Value.ref b] s = true := fun q hq => hq0 _ (List.mem_of_getElem? (of_decide_eq_true (List.all_eq_true.mp zgq_ok q hq)))
  have hw : ∀ w ∈ zgw, w.before #[Value.ref b] s = true := fun w hq => hts _ (of_decide_eq_true (List.all_eq_true.mp zgw_ok w hq))
  have gq : ∀ i, (h : i < zgq.length) → (zgq[i]).2.before #[Value.ref b] s = true := fun i h => hg _ (List.getElem_mem h)
  have gw : ∀ i, (h : i < zgw.length) → (zgw[i]).before #[Value.ref b] s = true := fun i h => hw _ (List.getElem_mem h)
  have hc : ∀ c : Nat, ∃ q : ClassId × (Nat → Nat), ∀ qq, zcl[c]? = some qq → u_Kn s qq.1 qq.2.1 qq.2.2 q.1 q.2 := by
    intro c
    cases h : zcl[c]? with
    | none => exact ⟨(0, fun _ => 0), fun _ h => by cases h⟩
    | some qq =>
      obtain ⟨C, T, N⟩ := qq
      obtain ⟨k1, k2, -⟩ := zcl_ok h
      obtain ⟨cC, iS, hk⟩ := u_known (ws := lw_tbl) hts (fun w hw => zW_in (k1 w hw)) (hts _ (zW_in k2))
      exact ⟨(cC, iS), fun qq e => by cases e; exact hk⟩
  have ha : ∀ κ : Nat, ∃ cA : ClassId, κ ∈ zcodes → ArrOfT s cA (zty κ) ∧ va_RA s cA (zty κ) := by
    intro κ
    by_cases hκ : κ ∈ zcodes
    · have key : ∃ cA : ClassId, ArrOfT s cA (zty κ) ∧ va_RA s cA (zty κ) := by
        rcases List.mem_cons.mp hκ with rfl | hκ
        · exact zArr (gw 11 (by decide)) (fun n h => by cases h)
        rcases List.mem_cons.mp hκ with rfl | hκ
        · exact zArr (gw 12 (by decide)) (fun n h => by cases h)
        rcases List.mem_cons.mp hκ with rfl | hκ
        · exact zArr (gw 13 (by decide)) (fun n h => by cases h)
        rcases List.mem_cons.mp hκ with rfl | hκ
        · exact zArr (gw 14 (by decide)) (fun n h => by cases h)
        rcases List.mem_cons.mp hκ with rfl | hκ
        · exact zArrO (gw 15 (by decide))
        rcases List.mem_cons.mp hκ with rfl | hκ
        · exact zArrO (gw 16 (by decide))
        rw [List.mem_singleton.mp hκ]
        exact zArrO (gw 17 (by decide))
      obtain ⟨cA, h⟩ := key
      exact ⟨cA, fun _ => h⟩
    · exact ⟨0, fun h => absurd h hκ⟩
  obtain ⟨tD, hD1, hD2⟩ := va_Tof (N := 0) (f := fun j => .int (nI (zbt 1 j))) (A := zA s.heap.size) (by decide) (gq 1 (by decide)) (Cond.eq_int (gq 2 (by decide)) rfl) (fun j hj => absurd hj (Nat.not_lt_zero j)) hA
  obtain ⟨tC, hC1, hC2⟩ := va_Tof (N := 16) (f := fun j => .int (nI (zbt 2 j))) (A := zA s.heap.size) (by decide) (gq 5 (by decide)) (Cond.eq_int (gq 6 (by decide)) rfl) (fun j hj => Cond.eq_int (hq0 _ (List.mem_of_getElem? (of_decide_eq_true (List.all_eq_true.mp zgvC j (List.mem_range.mpr hj))))) rfl) hA
  obtain ⟨a3, a4, s1, s2, s3, s4, s5⟩ := zstr (i := 39) (k := 4) (n := 198) (A := zA s.heap.size) (by decide) (gq 10 (by decide)) (gq 11 (by decide)) (gq 12 (by decide)) (gq 13 (by decide)) (fun j hj => hq0 _ (List.mem_of_getElem? (of_decide_eq_true (List.all_eq_true.mp zgv39 j (List.mem_range.mpr hj))))) hA
  obtain ⟨a5, a6, u1, u2, u3, u4, u5⟩ := zstr (i := 45) (k := 6) (n := 134) (A := zA s.heap.size) (by decide) (gq 14 (by decide)) (gq 15 (by decide)) (gq 16 (by decide)) (gq 17 (by decide)) (fun j hj => hq0 _ (List.mem_of_getElem? (of_decide_eq_true (List.all_eq_true.mp zgv45 j (List.mem_range.mpr hj))))) hA
  have hs1 : Cond.stringRef zW1n 39 _ ∈ lw_tbl := of_decide_eq_true (List.all_eq_true.mp zgs_ok _ List.mem_cons_self)
  have hs2 : Cond.stringRef zW1n 45 _ ∈ lw_tbl := of_decide_eq_true (List.all_eq_true.mp zgs_ok _ (List.mem_cons_of_mem _ List.mem_cons_self))
  have hfo : ∃ w : Value, (w = .null ∨ ∃ a : Nat, w = .ref a) ∧ va_Z "jdk/internal/util/Preconditions" "SIOOBE_FORMATTER" "Ljava/util/function/BiFunction;" w (zA s.heap.size) s s.heap := by
    rcases va_Zqof (gw 6 (by decide)) (gw 7 (by decide)) (gq 4 (by decide)) hA with h | ⟨t, h⟩
    · exact ⟨.null, Or.inl rfl, h⟩
    · exact ⟨.ref t, Or.inr ⟨t, rfl⟩, h⟩
  refine ⟨((fun c => (hc c).choose.1, fun c => (hc c).choose.2), fun κ => (ha κ).choose, fun k => match k with
    | 0 => b
    | 1 => tD
    | 2 => tC
    | 3 => a3
    | 4 => a4
    | 5 => a5
    | _ => a6, xs), rfl, rfl, ⟨fun c q hq => (hc c).choose_spec q hq, fun k q hq => ?_⟩, ?_, ?_, ?_, ?_, ?_, ?_, hX, hbl, hA b hbl, fun w hw => zcold_in (List.mem_filter.mp hw).2 (hts w (List.mem_filter.mp hw).1), fun q hq => ?_⟩
  · unfold ztys at hq
    rw [List.getElem?_map] at hq
    cases hz : zcodes[k]? with
    | none =>
      rw [hz] at hq
      cases hq
    | some κ =>
      rw [hz] at hq
      cases hq
      exact (ha κ).choose_spec (List.mem_of_getElem? hz)
  · intro k τ N t e
    unfold zq_xt at e
    split at e
    · cases e
      exact hD2
    · cases e
      exact hC2
    · cases e
      exact s4
    · cases e
      exact u4
    · cases e
  · intro k C n d v e
    unfold zq_st at e
    split at e
    · cases e
      exact ⟨.ref tD, fun _ _ => rfl, va_Zof (gw 0 (by decide)) (gw 1 (by decide)) hD1 hA⟩
    · cases e
      exact ⟨.ref tC, fun _ _ => rfl, va_Zof (gw 2 (by decide)) (gw 3 (by decide)) hC1 hA⟩
    · cases e
      exact ⟨.int (nI 1), fun _ _ => rfl, va_Zof (gw 4 (by decide)) (gw 5 (by decide)) (Cond.eq_int (gq 3 (by decide)) rfl) hA⟩
    · cases e
      obtain ⟨w, h1, h2⟩ := hfo
      exact ⟨w, fun _ _ => h1, h2⟩
    · cases e
  · intro k kv e
    unfold zq_xs at e
    split at e
    · cases e
      exact ⟨s1, s2, s3⟩
    · cases e
      exact ⟨u1, u2, u3⟩
    · cases e
  · intro k own i tx x e
    unfold zq_ld at e
    split at e
    · cases e
      exact vk_R.of (hts _ hs1) s5
    · cases e
      exact vk_R.of (hts _ hs2) u5
    · cases e
  · exact vx_Zqof (gw 8 (by decide)) (gw 10 (by decide)) (gq 7 (by decide)) hA
  · exact vx_Zqof (gw 9 (by decide)) (gw 10 (by decide)) (gq 8 (by decide)) hA
  · rw [List.mem_singleton.mp hq]
    exact va_Nc.of (gq 9 (by decide))
