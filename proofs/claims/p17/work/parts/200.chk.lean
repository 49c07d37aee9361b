/-! Printed by wip/v2/gen9.py: the tables' checks, by evaluation. -/
theorem zall_to {P : Nat → Bool} {a b : Nat} (h : ((List.range b).all fun i => P (a + i)) = true) : ∀ i, a ≤ i → i < a + b → P i = true := by
  intro i h1 h2
  have k := List.all_eq_true.mp h (i - a) (List.mem_range.mpr (by omega))
  rw [show a + (i - a) = i by omega] at k
  exact k
noncomputable def zmkA (mid : Nat) : Bool :=
  decide ((zm_nfo mid).1 ≤ 45 ∧ (parseMethodDescriptor (zm_y mid).desc).map (fun d => d.parameters.length) = some (zm_nfo mid).2.1 ∧ (zm_y mid).cls ≠ "java/lang/invoke/MethodHandle" ∧ (zm_y mid).cls ≠ "java/lang/invoke/VarHandle")
noncomputable def zmkB (mid : Nat) : Bool :=
  (match zm_hx mid with
    | none => plainFor (zm_y mid)
    | some l => plainName (zm_y mid).cls && l.all fun q => decide (q.1.2.2.2 ≠ 0) && zwx q.2.2 (.classLink (zm_y mid).cls q.1.2.2.2 (zq_ex q.2.1)))
noncomputable def zmkD (mid : Nat) : Bool :=
  zwk (zm_pos mid).2.2.2 (.initialized (zm_y mid).cls) &&
  (match (zm_nfo mid).2.2 with
    | 200 => zwk (zm_pos mid).2.1 (.static (zm_y mid))
    | ci => zwk (zm_pos mid).2.1 (.instanceMethod (zm_y mid)) && (zini mid || (zwk (zm_pos mid).2.2.1 (.selects (zm_y mid).cls (zm_y mid) (zm_y mid)) && (match ci with
      | 100 => decide ((zm_y mid).cls = "java/lang/String")
      | ci => decide ((zcl[ci]?).map (fun q => q.1) = some (zm_y mid).cls)))))
theorem zmk_of {md : Nat} (hA : zmkA md = true) (hB : zmkB md = true) (hD : zmkD md = true) (hC : (ztb ((zm_pos md).1 / 1000))[(zm_pos md).1 % 1000]? = some (zmk_hd md (zm_nfo md).1)) (hg : goodWord (zmk_hd md (zm_nfo md).1) = true) : zmk md = true := by
  have hD := (Bool.and_eq_true _ _).mp hD
  unfold zmk
  refine (Bool.and_eq_true _ _).mpr ⟨(Bool.and_eq_true _ _).mpr ⟨(Bool.and_eq_true _ _).mpr ⟨(Bool.and_eq_true _ _).mpr ⟨hA, hB⟩, ?_⟩, hD.1⟩, hD.2⟩
  unfold zwk
  exact (Bool.and_eq_true _ _).mpr ⟨decide_eq_true hC, hg⟩
set_option maxRecDepth 100000 in
theorem zk_thr : ((List.range 4).all fun i => zthk (0 + i)) = true := by decide +kernel
set_option maxRecDepth 100000 in
theorem zk_3_0 : ((List.range 71).all fun i => zmok3 (0 + i)) = true := by decide +kernel
set_option maxRecDepth 100000 in
theorem zk_3_71 : ((List.range 71).all fun i => zmok3 (71 + i)) = true := by decide +kernel
set_option maxRecDepth 100000 in
theorem zk_3_142 : ((List.range 71).all fun i => zmok3 (142 + i)) = true := by decide +kernel
set_option maxRecDepth 100000 in
theorem zk_3_213 : ((List.range 69).all fun i => zmok3 (213 + i)) = true := by decide +kernel
set_option maxRecDepth 100000 in
theorem zk_mA_1 : ((List.range 71).all fun i => zmkA (1 + i)) = true := by decide +kernel
set_option maxRecDepth 100000 in
theorem zk_mA_72 : ((List.range 71).all fun i => zmkA (72 + i)) = true := by decide +kernel
set_option maxRecDepth 100000 in
theorem zk_mA_143 : ((List.range 71).all fun i => zmkA (143 + i)) = true := by decide +kernel
set_option maxRecDepth 100000 in
theorem zk_mA_214 : ((List.range 68).all fun i => zmkA (214 + i)) = true := by decide +kernel
set_option maxRecDepth 100000 in
theorem zk_mB_1 : ((List.range 71).all fun i => zmkB (1 + i)) = true := by decide +kernel
set_option maxRecDepth 100000 in
theorem zk_mB_72 : ((List.range 71).all fun i => zmkB (72 + i)) = true := by decide +kernel
set_option maxRecDepth 100000 in
theorem zk_mB_143 : ((List.range 71).all fun i => zmkB (143 + i)) = true := by decide +kernel
set_option maxRecDepth 100000 in
theorem zk_mB_214 : ((List.range 68).all fun i => zmkB (214 + i)) = true := by decide +kernel
set_option maxRecDepth 100000 in
theorem zk_mD_1 : ((List.range 47).all fun i => zmkD (1 + i)) = true := by decide +kernel
set_option maxRecDepth 100000 in
theorem zk_mD_48 : ((List.range 47).all fun i => zmkD (48 + i)) = true := by decide +kernel
set_option maxRecDepth 100000 in
theorem zk_mD_95 : ((List.range 47).all fun i => zmkD (95 + i)) = true := by decide +kernel
set_option maxRecDepth 100000 in
theorem zk_mD_142 : ((List.range 47).all fun i => zmkD (142 + i)) = true := by decide +kernel
set_option maxRecDepth 100000 in
theorem zk_mD_189 : ((List.range 47).all fun i => zmkD (189 + i)) = true := by decide +kernel
set_option maxRecDepth 100000 in
theorem zk_mD_236 : ((List.range 46).all fun i => zmkD (236 + i)) = true := by decide +kernel
