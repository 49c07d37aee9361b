/-! Begun with p1's part of this name: the law's start: what it gives of the world. -/
noncomputable def zgv : List Cond := flatC (Jvm.Cond.and given_1 narrow_1)
noncomputable def zbt (k j : Nat) : Nat := match zq_xt k with
  | some (_, _, t) => (zt_get 10 t j).getD 0
  | none => 0
def zsvO (own : String) (i : Nat) : Term := .field (.string own i) "java/lang/String" "value" "[B"
noncomputable def zby (k n : Nat) : List Int32 := (List.range n).map fun j => nI (zbt k j)
set_option maxRecDepth 100000 in
theorem zgvE0 : ((List.range 198).all fun j => decide (zgv[139 + j]? = some (.eq (.elem (zsvO "SchemaPascal$Words" 39) (.int (Int32.ofNat j))) (.int (nI (zbt 4 j)))))) = true := by decide +kernel
set_option maxRecDepth 100000 in
theorem zgvE1 : ((List.range 134).all fun j => decide (zgv[341 + j]? = some (.eq (.elem (zsvO "SchemaPascal$Words" 45) (.int (Int32.ofNat j))) (.int (nI (zbt 6 j)))))) = true := by decide +kernel
set_option maxRecDepth 100000 in
theorem zgvE2 : ((List.range 15).all fun j => decide (zgv[480 + j]? = some (.eq (.elem (zsvO "SchemaPascal$Words" 173) (.int (Int32.ofNat j))) (.int (nI (zbt 8 j)))))) = true := by decide +kernel
set_option maxRecDepth 100000 in
theorem zgvE3 : ((List.range 1).all fun j => decide (zgv[501 + j]? = some (.eq (.elem (zsvO "SchemaPascal$Reader" 824) (.int (Int32.ofNat j))) (.int (nI (zbt 10 j)))))) = true := by decide +kernel
set_option maxRecDepth 100000 in
theorem zgvE4 : ((List.range 1).all fun j => decide (zgv[509 + j]? = some (.eq (.elem (zsvO "SchemaPascal$Reader" 826) (.int (Int32.ofNat j))) (.int (nI (zbt 12 j)))))) = true := by decide +kernel
set_option maxRecDepth 100000 in
theorem zgvE5 : ((List.range 1).all fun j => decide (zgv[518 + j]? = some (.eq (.elem (zsvO "SchemaPascal$Reader" 828) (.int (Int32.ofNat j))) (.int (nI (zbt 14 j)))))) = true := by decide +kernel
set_option maxRecDepth 100000 in
theorem zgvE6 : ((List.range 2).all fun j => decide (zgv[528 + j]? = some (.eq (.elem (zsvO "SchemaPascal$Reader" 830) (.int (Int32.ofNat j))) (.int (nI (zbt 16 j)))))) = true := by decide +kernel
set_option maxRecDepth 100000 in
theorem zgvE7 : ((List.range 3).all fun j => decide (zgv[540 + j]? = some (.eq (.elem (zsvO "SchemaPascal$Reader" 832) (.int (Int32.ofNat j))) (.int (nI (zbt 18 j)))))) = true := by decide +kernel
set_option maxRecDepth 100000 in
theorem zgvE8 : ((List.range 0).all fun j => decide (zgv[554 + j]? = some (.eq (.elem (zsvO "SchemaPascal$Reader" 834) (.int (Int32.ofNat j))) (.int (nI (zbt 20 j)))))) = true := by decide +kernel
set_option maxRecDepth 100000 in
theorem zgvE9 : ((List.range 1).all fun j => decide (zgv[566 + j]? = some (.eq (.elem (zsvO "SchemaPascal$Reader" 836) (.int (Int32.ofNat j))) (.int (nI (zbt 22 j)))))) = true := by decide +kernel
set_option maxRecDepth 100000 in
theorem zgvC : ((List.range 16).all fun j => decide (zgv[16 + j]? = some (.eq (.elem (.static "SchemaPascal" "CODES" "[I") (.int (Int32.ofNat j))) (.int (nI (zbt 2 j)))))) = true := by decide +kernel
def zgq : List (Nat × Cond) := [(4, .isRef (.static "java/util/ArrayList" "DEFAULTCAPACITY_EMPTY_ELEMENTDATA" "[Ljava/lang/Object;")), (5, .arrayOf (.static "java/util/ArrayList" "DEFAULTCAPACITY_EMPTY_ELEMENTDATA" "[Ljava/lang/Object;") (.object "java/lang/Object")), (7, .eq (.length (.static "java/util/ArrayList" "DEFAULTCAPACITY_EMPTY_ELEMENTDATA" "[Ljava/lang/Object;")) (.int (Int32.ofNat 0))), (8, .eq (.static "java/lang/String" "COMPACT_STRINGS" "Z") (.int (nI 1))), (9, .isRef (.static "jdk/internal/util/Preconditions" "SIOOBE_FORMATTER" "Ljava/util/function/BiFunction;")), (14, .arrayOf (.static "SchemaPascal" "CODES" "[I") .int), (15, .eq (.length (.static "SchemaPascal" "CODES" "[I")) (.int (Int32.ofNat 16))), (32, .isRef (.static Bundle.tN "UNASSIGNED_STACK" Bundle.steD)), (33, .isRef (.static Bundle.tN "SUPPRESSED_SENTINEL" Bundle.listD)), (78, .not (.castable "java/lang/IllegalStateException" "java/lang/IllegalArgumentException")), (134, .isRef (.mirror "[Ljava/lang/Object;")), (135, .exactly (.string "SchemaPascal$Words" 39) "java/lang/String"), (136, .eq (.field (.string "SchemaPascal$Words" 39) "java/lang/String" "coder" "B") (.int 0)), (137, .arrayOf (zsvO "SchemaPascal$Words" 39) .byte), (138, .eq (.length (zsvO "SchemaPascal$Words" 39)) (.int (Int32.ofNat 198))), (337, .exactly (.string "SchemaPascal$Words" 45) "java/lang/String"), (338, .eq (.field (.string "SchemaPascal$Words" 45) "java/lang/String" "coder" "B") (.int 0)), (339, .arrayOf (zsvO "SchemaPascal$Words" 45) .byte), (340, .eq (.length (zsvO "SchemaPascal$Words" 45)) (.int (Int32.ofNat 134))), (476, .exactly (.string "SchemaPascal$Words" 173) "java/lang/String"), (477, .eq (.field (.string "SchemaPascal$Words" 173) "java/lang/String" "coder" "B") (.int 0)), (478, .arrayOf (zsvO "SchemaPascal$Words" 173) .byte), (479, .eq (.length (zsvO "SchemaPascal$Words" 173)) (.int (Int32.ofNat 15))), (497, .exactly (.string "SchemaPascal$Reader" 824) "java/lang/String"), (498, .eq (.field (.string "SchemaPascal$Reader" 824) "java/lang/String" "coder" "B") (.int 0)), (499, .arrayOf (zsvO "SchemaPascal$Reader" 824) .byte), (500, .eq (.length (zsvO "SchemaPascal$Reader" 824)) (.int (Int32.ofNat 1))), (505, .exactly (.string "SchemaPascal$Reader" 826) "java/lang/String"), (506, .eq (.field (.string "SchemaPascal$Reader" 826) "java/lang/String" "coder" "B") (.int 0)), (507, .arrayOf (zsvO "SchemaPascal$Reader" 826) .byte), (508, .eq (.length (zsvO "SchemaPascal$Reader" 826)) (.int (Int32.ofNat 1))), (514, .exactly (.string "SchemaPascal$Reader" 828) "java/lang/String"), (515, .eq (.field (.string "SchemaPascal$Reader" 828) "java/lang/String" "coder" "B") (.int 0)), (516, .arrayOf (zsvO "SchemaPascal$Reader" 828) .byte), (517, .eq (.length (zsvO "SchemaPascal$Reader" 828)) (.int (Int32.ofNat 1))), (524, .exactly (.string "SchemaPascal$Reader" 830) "java/lang/String"), (525, .eq (.field (.string "SchemaPascal$Reader" 830) "java/lang/String" "coder" "B") (.int 0)), (526, .arrayOf (zsvO "SchemaPascal$Reader" 830) .byte), (527, .eq (.length (zsvO "SchemaPascal$Reader" 830)) (.int (Int32.ofNat 2))), (536, .exactly (.string "SchemaPascal$Reader" 832) "java/lang/String"), (537, .eq (.field (.string "SchemaPascal$Reader" 832) "java/lang/String" "coder" "B") (.int 0)), (538, .arrayOf (zsvO "SchemaPascal$Reader" 832) .byte), (539, .eq (.length (zsvO "SchemaPascal$Reader" 832)) (.int (Int32.ofNat 3))), (550, .exactly (.string "SchemaPascal$Reader" 834) "java/lang/String"), (551, .eq (.field (.string "SchemaPascal$Reader" 834) "java/lang/String" "coder" "B") (.int 0)), (552, .arrayOf (zsvO "SchemaPascal$Reader" 834) .byte), (553, .eq (.length (zsvO "SchemaPascal$Reader" 834)) (.int (Int32.ofNat 0))), (562, .exactly (.string "SchemaPascal$Reader" 836) "java/lang/String"), (563, .eq (.field (.string "SchemaPascal$Reader" 836) "java/lang/String" "coder" "B") (.int 0)), (564, .arrayOf (zsvO "SchemaPascal$Reader" 836) .byte), (565, .eq (.length (zsvO "SchemaPascal$Reader" 836)) (.int (Int32.ofNat 1)))]
set_option maxRecDepth 100000 in
theorem zgq_ok : (zgq.all fun q => decide (zgv[q.1]? = some q.2)) = true := by decide +kernel
def zgw : List Cond := [.laysStatic "java/util/ArrayList" "DEFAULTCAPACITY_EMPTY_ELEMENTDATA" "[Ljava/lang/Object;", .initialized "java/util/ArrayList", .laysStatic "SchemaPascal" "CODES" "[I", .initialized "SchemaPascal", .laysStatic "java/lang/String" "COMPACT_STRINGS" "Z", .initialized "java/lang/String", .laysStatic "jdk/internal/util/Preconditions" "SIOOBE_FORMATTER" "Ljava/util/function/BiFunction;", .initialized "jdk/internal/util/Preconditions",
  .laysStatic Bundle.tN "UNASSIGNED_STACK" Bundle.steD, .laysStatic Bundle.tN "SUPPRESSED_SENTINEL" Bundle.listD, .initialized Bundle.tN, .arrayClass .int, .arrayClass .byte, .arrayClass .long, .arrayOver (.object "java/lang/Object"), .arrayOver (.object "SchemaPascal$Symbol"), .arrayOver (.object "SchemaPascal$Part")]
set_option maxRecDepth 100000 in
theorem zgw_ok : (zgw.all fun q => decide (q ∈ lw_tbl)) = true := by decide +kernel
def zgs : List (String × Nat × String) := [("SchemaPascal$Words", 39, "program const type var procedure function forward begin end if then else while do repeat until for to downto case of otherwise with array record set string nil div mod and or not in protected value "), ("SchemaPascal$Words", 45, "integer boolean char true false maxint abs sqr odd ord chr succ pred length card index substr eof new dispose read write writeln halt "), ("SchemaPascal$Words", 173, "+-*=<>()[],;:^."), ("SchemaPascal$Reader", 824, "o"), ("SchemaPascal$Reader", 826, "t"), ("SchemaPascal$Reader", 828, "s"), ("SchemaPascal$Reader", 830, "tt"), ("SchemaPascal$Reader", 832, "tii"), ("SchemaPascal$Reader", 834, ""), ("SchemaPascal$Reader", 836, "i")]
set_option maxRecDepth 100000 in
theorem zgs_ok : (zgs.all fun q => decide (Cond.stringRef q.1 q.2.1 q.2.2 ∈ lw_tbl)) = true := by decide +kernel
theorem zT_congr {ty : FieldType} {t N : Nat} {f g : Nat → Value} {A : Nat → Prop} {U : State} {H : Heap} (h : va_T ty t N f A U H) (hfg : ∀ j, j < N → f j = g j) : va_T ty t N g A U H := by
  obtain ⟨cell, h1, h2, h3, h4, h5, h6, h7⟩ := h
  exact ⟨cell, h1, h2, h3, h4, h5, fun j hj => by rw [h6 j hj, hfg j hj], h7⟩
theorem zArr {args : Array Value} {s : State} {ty : FieldType} (h : (Cond.arrayClass ty).before args s = true) (hp : ∀ n, ty ≠ .object n) : ∃ cA : ClassId, ArrOfT s cA ty ∧ va_RA s cA ty := by
  obtain ⟨cA, kA, comp, h1, h2, h3⟩ := Cond.arrayClass_spec h
  refine ⟨cA, fun n z => ⟨(fun k h => by cases h), kA, h2, comp, h3⟩, ?_⟩
  cases ty with
  | object n => exact absurd rfl (hp n)
  | _ => exact h1
theorem zArrO {args : Array Value} {s : State} {n : String} (h : (Cond.arrayOver (.object n)).before args s = true) : ∃ cA : ClassId, ArrOfT s cA (.object n) ∧ va_RA s cA (.object n) := by
  obtain ⟨comp, cA, kA, h1, -, h2, h3, h4⟩ := Cond.arrayOver_spec h
  exact ⟨cA, fun N z => ⟨(fun k h => by cases h), kA, h2, comp, h3⟩, kA, comp, h2, h3, h1, h4⟩
theorem zcold_in {args : Array Value} {s : State} {w : Cond} (hc : zcold w = true) (h : w.before args s = true) : w.before #[] s = true := by
  unfold zcold at hc
  split at hc
  · exact va_Nw.of rfl h
  · exact va_Nw.of rfl h
  · exact va_Nw.of rfl h
  · exact va_Nw.of rfl h
  · exact va_AO.use (va_AO.of h)
  · cases hc
/-- a string of the words -/
theorem zstr {args : Array Value} {s : State} {own : String} {i k n : Nat} {A : Nat → Prop} (hn : n < 2 ^ 31) (hex : (Cond.exactly (.string own i) "java/lang/String").before args s = true) (hco : (Cond.eq (.field (.string own i) "java/lang/String" "coder" "B") (.int 0)).before args s = true)
    (har : (Cond.arrayOf (zsvO own i) .byte).before args s = true) (hle : (Cond.eq (.length (zsvO own i)) (.int (Int32.ofNat n))).before args s = true) (hel : ∀ j, j < n → (Cond.eq (.elem (zsvO own i) (.int (Int32.ofNat j))) (.int (nI (zbt k j)))).before args s = true) (hA : ∀ a : Nat, a < s.heap.size → ¬ A a) :
    ∃ a v : Nat, va_O "java/lang/String" a A s s.heap ∧ va_OF "java/lang/String" "coder" "B" (.int 0) a A s s.heap ∧ va_OF "java/lang/String" "value" "[B" (.ref v) a A s s.heap ∧ va_T .byte v n (fun j => .int (nI (zbt k j))) A s s.heap ∧ (Term.string own i).eval args s none [] s = some (.ref a) := by
  have hget : ∀ j, j < n → (zby k n).getD j 0 = nI (zbt k j) := fun j hj => by
    unfold zby
    rw [List.getD_eq_getElem?_getD, List.getElem?_map, List.getElem?_range hj]
    rfl
  obtain ⟨adK, adV, h1, h2⟩ := vk_Sof (N := 1) (tm := fun _ => .string own i) (len := [n]) (byt := [zby k n]) (A := A) (args := args) (s := s) (fun q hq => by
      have : q = 0 := by omega
      subst this
      exact hn) (fun _ _ => hex) (fun _ _ => hco) (fun _ _ => har) (fun q hq => by
      have : q = 0 := by omega
      subst this
      exact hle) (fun q hq j hj => by
      have : q = 0 := by omega
      subst this
      have hj : j < n := hj
      show (Cond.eq (.elem (zsvO own i) (.int (Int32.ofNat j))) (.int ((zby k n).getD j 0))).before args s = true
      rw [hget j hj]
      exact hel j hj) (fun a b ha hb hab => by omega) hA
  obtain ⟨k1, k2, k3, k4⟩ := h1.1 0 (by decide)
  exact ⟨adK 0, adV 0, k1, k2, k3, zT_congr k4 (fun j hj => congrArg Value.int (hget j hj)), h2 0 (by decide)⟩
set_option maxRecDepth 100000 in
theorem zlaw_facts {p : Program} {s : State} {m : MethodId} {meth : Method} {c : Code} {b L : Nat} {xs : Nat → Int32} (C0 : lw_At p s m meth c b L xs) : ∃ X : ZX, X.2.2.1 0 = b ∧ X.2.2.2.1 = xs ∧ va_K X.1 zcl (ztys X) s ∧ zSF s.heap.size L X s := by
  obtain ⟨hx, hb, hr, hml, hown, hts, hX, hbl, hlk, hgv⟩ := C0
  have hq0 : ∀ c ∈ zgv, c.before #[Value.ref b] s = true := flat_of_before _ hgv
  have hA : ∀ a : Nat, a < s.heap.size → ¬ zA s.heap.size a := fun a h1 h2 => Nat.not_lt.mpr h2 h1
  have hg : ∀ q ∈ zgq, q.2.before #[Value.ref b] s = true := fun q hq => hq0 _ (List.mem_of_getElem? (of_decide_eq_true (List.all_eq_true.mp zgq_ok q hq)))
  have hw : ∀ w ∈ zgw, w.before #[Value.ref b] s = true := fun w hq => hts _ (of_decide_eq_true (List.all_eq_true.mp zgw_ok w hq))
  have gq : ∀ i, (h : i < zgq.length) → (zgq[i]).2.before #[Value.ref b] s = true := fun i h => hg _ (List.getElem_mem h)
  have gw : ∀ i, (h : i < zgw.length) → (zgw[i]).before #[Value.ref b] s = true := fun i h => hw _ (List.getElem_mem h)
  have hc : ∀ c : Nat, ∃ q : ClassId × (Nat → Nat), ∀ qq, zcl[c]? = some qq → u_Kn s qq.1 qq.2.1 qq.2.2 q.1 q.2 := by
    intro c
    cases h : zcl[c]? with
    | none => exact ⟨(0, fun _ => 0), fun _ h => by cases h⟩
    | some qq =>
      obtain ⟨C, T, N⟩ := qq
      obtain ⟨k1, k2, -⟩ := zcl_ok h
      obtain ⟨cC, iS, hk⟩ := u_known (ws := lw_tbl) hts (fun w hw => zW_in (k1 w hw)) (hts _ (zW_in k2))
      exact ⟨(cC, iS), fun qq e => by cases e; exact hk⟩
  have ha : ∀ κ : Nat, ∃ cA : ClassId, κ ∈ zcodes → ArrOfT s cA (zty κ) ∧ va_RA s cA (zty κ) := by
    intro κ
    by_cases hκ : κ ∈ zcodes
    · have key : ∃ cA : ClassId, ArrOfT s cA (zty κ) ∧ va_RA s cA (zty κ) := by
        rcases List.mem_cons.mp hκ with rfl | hκ
        · exact zArr (gw 11 (by decide)) (fun n h => by cases h)
        rcases List.mem_cons.mp hκ with rfl | hκ
        · exact zArr (gw 12 (by decide)) (fun n h => by cases h)
        rcases List.mem_cons.mp hκ with rfl | hκ
        · exact zArr (gw 13 (by decide)) (fun n h => by cases h)
        rcases List.mem_cons.mp hκ with rfl | hκ
        · exact zArrO (gw 14 (by decide))
        rcases List.mem_cons.mp hκ with rfl | hκ
        · exact zArrO (gw 15 (by decide))
        rw [List.mem_singleton.mp hκ]
        exact zArrO (gw 16 (by decide))
      obtain ⟨cA, h⟩ := key
      exact ⟨cA, fun _ => h⟩
    · exact ⟨0, fun h => absurd h hκ⟩
  obtain ⟨tD, hD1, hD2⟩ := va_Tof (N := 0) (f := fun j => .int (nI (zbt 1 j))) (A := zA s.heap.size) (by decide) (gq 1 (by decide)) (Cond.eq_int (gq 2 (by decide)) rfl) (fun j hj => absurd hj (Nat.not_lt_zero j)) hA
  obtain ⟨tC, hC1, hC2⟩ := va_Tof (N := 16) (f := fun j => .int (nI (zbt 2 j))) (A := zA s.heap.size) (by decide) (gq 5 (by decide)) (Cond.eq_int (gq 6 (by decide)) rfl) (fun j hj => Cond.eq_int (hq0 _ (List.mem_of_getElem? (of_decide_eq_true (List.all_eq_true.mp zgvC j (List.mem_range.mpr hj))))) rfl) hA
  obtain ⟨a3, a4, s0_1, s0_2, s0_3, s0_4, s0_5⟩ := zstr (own := "SchemaPascal$Words") (i := 39) (k := 4) (n := 198) (A := zA s.heap.size) (by decide) (gq 11 (by decide)) (gq 12 (by decide)) (gq 13 (by decide)) (gq 14 (by decide)) (fun j hj => hq0 _ (List.mem_of_getElem? (of_decide_eq_true (List.all_eq_true.mp zgvE0 j (List.mem_range.mpr hj))))) hA
  obtain ⟨a5, a6, s1_1, s1_2, s1_3, s1_4, s1_5⟩ := zstr (own := "SchemaPascal$Words") (i := 45) (k := 6) (n := 134) (A := zA s.heap.size) (by decide) (gq 15 (by decide)) (gq 16 (by decide)) (gq 17 (by decide)) (gq 18 (by decide)) (fun j hj => hq0 _ (List.mem_of_getElem? (of_decide_eq_true (List.all_eq_true.mp zgvE1 j (List.mem_range.mpr hj))))) hA
  obtain ⟨a7, a8, s2_1, s2_2, s2_3, s2_4, s2_5⟩ := zstr (own := "SchemaPascal$Words") (i := 173) (k := 8) (n := 15) (A := zA s.heap.size) (by decide) (gq 19 (by decide)) (gq 20 (by decide)) (gq 21 (by decide)) (gq 22 (by decide)) (fun j hj => hq0 _ (List.mem_of_getElem? (of_decide_eq_true (List.all_eq_true.mp zgvE2 j (List.mem_range.mpr hj))))) hA
  obtain ⟨a9, a10, s3_1, s3_2, s3_3, s3_4, s3_5⟩ := zstr (own := "SchemaPascal$Reader") (i := 824) (k := 10) (n := 1) (A := zA s.heap.size) (by decide) (gq 23 (by decide)) (gq 24 (by decide)) (gq 25 (by decide)) (gq 26 (by decide)) (fun j hj => hq0 _ (List.mem_of_getElem? (of_decide_eq_true (List.all_eq_true.mp zgvE3 j (List.mem_range.mpr hj))))) hA
  obtain ⟨a11, a12, s4_1, s4_2, s4_3, s4_4, s4_5⟩ := zstr (own := "SchemaPascal$Reader") (i := 826) (k := 12) (n := 1) (A := zA s.heap.size) (by decide) (gq 27 (by decide)) (gq 28 (by decide)) (gq 29 (by decide)) (gq 30 (by decide)) (fun j hj => hq0 _ (List.mem_of_getElem? (of_decide_eq_true (List.all_eq_true.mp zgvE4 j (List.mem_range.mpr hj))))) hA
  obtain ⟨a13, a14, s5_1, s5_2, s5_3, s5_4, s5_5⟩ := zstr (own := "SchemaPascal$Reader") (i := 828) (k := 14) (n := 1) (A := zA s.heap.size) (by decide) (gq 31 (by decide)) (gq 32 (by decide)) (gq 33 (by decide)) (gq 34 (by decide)) (fun j hj => hq0 _ (List.mem_of_getElem? (of_decide_eq_true (List.all_eq_true.mp zgvE5 j (List.mem_range.mpr hj))))) hA
  obtain ⟨a15, a16, s6_1, s6_2, s6_3, s6_4, s6_5⟩ := zstr (own := "SchemaPascal$Reader") (i := 830) (k := 16) (n := 2) (A := zA s.heap.size) (by decide) (gq 35 (by decide)) (gq 36 (by decide)) (gq 37 (by decide)) (gq 38 (by decide)) (fun j hj => hq0 _ (List.mem_of_getElem? (of_decide_eq_true (List.all_eq_true.mp zgvE6 j (List.mem_range.mpr hj))))) hA
  obtain ⟨a17, a18, s7_1, s7_2, s7_3, s7_4, s7_5⟩ := zstr (own := "SchemaPascal$Reader") (i := 832) (k := 18) (n := 3) (A := zA s.heap.size) (by decide) (gq 39 (by decide)) (gq 40 (by decide)) (gq 41 (by decide)) (gq 42 (by decide)) (fun j hj => hq0 _ (List.mem_of_getElem? (of_decide_eq_true (List.all_eq_true.mp zgvE7 j (List.mem_range.mpr hj))))) hA
  obtain ⟨a19, a20, s8_1, s8_2, s8_3, s8_4, s8_5⟩ := zstr (own := "SchemaPascal$Reader") (i := 834) (k := 20) (n := 0) (A := zA s.heap.size) (by decide) (gq 43 (by decide)) (gq 44 (by decide)) (gq 45 (by decide)) (gq 46 (by decide)) (fun j hj => hq0 _ (List.mem_of_getElem? (of_decide_eq_true (List.all_eq_true.mp zgvE8 j (List.mem_range.mpr hj))))) hA
  obtain ⟨a21, a22, s9_1, s9_2, s9_3, s9_4, s9_5⟩ := zstr (own := "SchemaPascal$Reader") (i := 836) (k := 22) (n := 1) (A := zA s.heap.size) (by decide) (gq 47 (by decide)) (gq 48 (by decide)) (gq 49 (by decide)) (gq 50 (by decide)) (fun j hj => hq0 _ (List.mem_of_getElem? (of_decide_eq_true (List.all_eq_true.mp zgvE9 j (List.mem_range.mpr hj))))) hA
  have hsr : ∀ i, (h : i < zgs.length) → Cond.stringRef (zgs[i]).1 (zgs[i]).2.1 (zgs[i]).2.2 ∈ lw_tbl := fun i h => of_decide_eq_true (List.all_eq_true.mp zgs_ok _ (List.getElem_mem h))
  obtain ⟨mi, hmi⟩ := va_Mi.of (gq 10 (by decide))
  have hfo : ∃ w : Value, (w = .null ∨ ∃ a : Nat, w = .ref a) ∧ va_Z "jdk/internal/util/Preconditions" "SIOOBE_FORMATTER" "Ljava/util/function/BiFunction;" w (zA s.heap.size) s s.heap := by
    rcases va_Zqof (gw 6 (by decide)) (gw 7 (by decide)) (gq 4 (by decide)) hA with h | ⟨t, h⟩
    · exact ⟨.null, Or.inl rfl, h⟩
    · exact ⟨.ref t, Or.inr ⟨t, rfl⟩, h⟩
  refine ⟨((fun c => (hc c).choose.1, fun c => (hc c).choose.2), fun κ => (ha κ).choose, fun k => match k with
    | 0 => b
    | 1 => tD
    | 2 => tC
    | 3 => a3
    | 4 => a4
    | 5 => a5
    | 6 => a6
    | 7 => a7
    | 8 => a8
    | 9 => a9
    | 10 => a10
    | 11 => a11
    | 12 => a12
    | 13 => a13
    | 14 => a14
    | 15 => a15
    | 16 => a16
    | 17 => a17
    | 18 => a18
    | 19 => a19
    | 20 => a20
    | 21 => a21
    | 22 => a22
    | 40 => mi
    | _ => b, xs, zSz), rfl, rfl, ⟨fun c q hq => (hc c).choose_spec q hq, fun k q hq => ?_⟩, ?_, ?_, ?_, ?_, ?_, ?_, hX, hbl, hA b hbl, fun w hw => zcold_in (List.mem_filter.mp hw).2 (hts w (List.mem_filter.mp hw).1), fun q hq => ?_, hmi⟩
  · unfold ztys at hq
    rw [List.getElem?_map] at hq
    cases hz : zcodes[k]? with
    | none =>
      rw [hz] at hq
      cases hq
    | some κ =>
      rw [hz] at hq
      cases hq
      exact (ha κ).choose_spec (List.mem_of_getElem? hz)
  · intro k τ N t e
    unfold zq_xt at e
    split at e
    · cases e
      exact hD2
    · cases e
      exact hC2
    · cases e
      exact s0_4
    · cases e
      exact s1_4
    · cases e
      exact s2_4
    · cases e
      exact s3_4
    · cases e
      exact s4_4
    · cases e
      exact s5_4
    · cases e
      exact s6_4
    · cases e
      exact s7_4
    · cases e
      exact s8_4
    · cases e
      exact s9_4
    · cases e
  · intro k C n d v e
    unfold zq_st at e
    split at e
    · cases e
      exact ⟨.ref tD, fun _ _ => rfl, va_Zof (gw 0 (by decide)) (gw 1 (by decide)) hD1 hA⟩
    · cases e
      exact ⟨.ref tC, fun _ _ => rfl, va_Zof (gw 2 (by decide)) (gw 3 (by decide)) hC1 hA⟩
    · cases e
      exact ⟨.int (nI 1), fun _ _ => rfl, va_Zof (gw 4 (by decide)) (gw 5 (by decide)) (Cond.eq_int (gq 3 (by decide)) rfl) hA⟩
    · cases e
      obtain ⟨w, h1, h2⟩ := hfo
      exact ⟨w, fun _ _ => h1, h2⟩
    · cases e
  · intro k kv e
    unfold zq_xs at e
    split at e
    · cases e
      exact ⟨s0_1, s0_2, s0_3⟩
    · cases e
      exact ⟨s1_1, s1_2, s1_3⟩
    · cases e
      exact ⟨s2_1, s2_2, s2_3⟩
    · cases e
      exact ⟨s3_1, s3_2, s3_3⟩
    · cases e
      exact ⟨s4_1, s4_2, s4_3⟩
    · cases e
      exact ⟨s5_1, s5_2, s5_3⟩
    · cases e
      exact ⟨s6_1, s6_2, s6_3⟩
    · cases e
      exact ⟨s7_1, s7_2, s7_3⟩
    · cases e
      exact ⟨s8_1, s8_2, s8_3⟩
    · cases e
      exact ⟨s9_1, s9_2, s9_3⟩
    · cases e
  · intro k own i tx x e
    unfold zq_ld at e
    split at e
    · cases e
      exact vk_R.of (hts _ (hsr 0 (by decide))) s0_5
    · cases e
      exact vk_R.of (hts _ (hsr 1 (by decide))) s1_5
    · cases e
      exact vk_R.of (hts _ (hsr 2 (by decide))) s2_5
    · cases e
      exact vk_R.of (hts _ (hsr 3 (by decide))) s3_5
    · cases e
      exact vk_R.of (hts _ (hsr 4 (by decide))) s4_5
    · cases e
      exact vk_R.of (hts _ (hsr 5 (by decide))) s5_5
    · cases e
      exact vk_R.of (hts _ (hsr 6 (by decide))) s6_5
    · cases e
      exact vk_R.of (hts _ (hsr 7 (by decide))) s7_5
    · cases e
      exact vk_R.of (hts _ (hsr 8 (by decide))) s8_5
    · cases e
      exact vk_R.of (hts _ (hsr 9 (by decide))) s9_5
    · cases e
  · exact vx_Zqof (gw 8 (by decide)) (gw 10 (by decide)) (gq 7 (by decide)) hA
  · exact vx_Zqof (gw 9 (by decide)) (gw 10 (by decide)) (gq 8 (by decide)) hA
  · rw [List.mem_singleton.mp hq]
    exact va_Nc.of (gq 9 (by decide))
