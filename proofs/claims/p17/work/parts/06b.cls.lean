/-! Printed by wip/v2/gen1.py: the classes' first objects, words, checks; what may be cast. -/
noncomputable def zk_init (ci : Nat) : ZT ZV 18 := match ci with
  | 0 => (zn (some (2, 0)) (zn (some (0, 0)) (zn (some (0, 0)) (zn (some (2, 0)) z0 z0) z0) (zn (some (2, 0)) z0 z0)) (zn (some (0, 0)) (zn (some (2, 0)) z0 z0) (zn (some (2, 0)) z0 z0)))
  | 1 => (zn (some (2, 0)) (zn (some (0, 0)) (zn (some (0, 0)) (zn (some (0, 0)) z0 z0) z0) (zn (some (0, 0)) (zn (some (0, 0)) z0 z0) z0)) (zn (some (0, 0)) (zn (some (0, 0)) (zn (some (0, 0)) z0 z0) z0) (zn (some (0, 0)) (zn (some (2, 0)) z0 z0) z0)))
  | 2 => (zn (some (2, 0)) (zn (some (2, 0)) (zn (some (2, 0)) (zn (some (2, 0)) (zn (some (0, 0)) z0 z0) z0) (zn (some (0, 0)) (zn (some (0, 0)) z0 z0) z0)) (zn (some (2, 0)) (zn (some (0, 0)) (zn (some (0, 0)) z0 z0) z0) (zn (some (0, 0)) z0 z0))) (zn (some (2, 0)) (zn (some (0, 0)) (zn (some (2, 0)) (zn (some (2, 0)) z0 z0) z0) (zn (some (0, 0)) (zn (some (0, 0)) z0 z0) z0)) (zn (some (0, 0)) (zn (some (0, 0)) (zn (some (2, 0)) z0 z0) z0) (zn (some (0, 0)) z0 z0))))
  | 3 => (zn (some (2, 0)) (zn (some (2, 0)) (zn (some (2, 0)) (zn (some (0, 0)) z0 z0) z0) (zn (some (2, 0)) z0 z0)) (zn (some (0, 0)) (zn (some (2, 0)) z0 z0) (zn (some (0, 0)) z0 z0)))
  | 4 => (zn (some (2, 0)) (zn (some (2, 0)) (zn (some (2, 0)) (zn (some (2, 0)) (zn (some (2, 0)) z0 z0) z0) (zn (some (2, 0)) z0 z0)) (zn (some (2, 0)) (zn (some (2, 0)) (zn (some (0, 0)) z0 z0) z0) (zn (some (2, 0)) z0 z0))) (zn (some (2, 0)) (zn (some (2, 0)) (zn (some (2, 0)) (zn (some (2, 0)) z0 z0) z0) (zn (some (2, 0)) z0 z0)) (zn (some (2, 0)) (zn (some (2, 0)) z0 z0) (zn (some (2, 0)) z0 z0))))
  | 5 => (zn (some (2, 0)) (zn (some (2, 0)) (zn (some (2, 0)) (zn (some (2, 0)) z0 z0) (zn (some (0, 0)) z0 z0)) (zn (some (2, 0)) (zn (some (2, 0)) z0 z0) (zn (some (0, 0)) z0 z0))) (zn (some (2, 0)) (zn (some (2, 0)) (zn (some (2, 0)) z0 z0) (zn (some (0, 0)) z0 z0)) (zn (some (2, 0)) (zn (some (2, 0)) z0 z0) (zn (some (2, 0)) z0 z0))))
  | 6 => (zn (some (0, 0)) (zn (some (0, 0)) (zn (some (0, 0)) (zn (some (0, 0)) z0 z0) (zn (some (0, 0)) z0 z0)) (zn (some (2, 0)) (zn (some (0, 0)) z0 z0) z0)) (zn (some (0, 0)) (zn (some (2, 0)) (zn (some (0, 0)) z0 z0) z0) (zn (some (0, 0)) (zn (some (0, 0)) z0 z0) z0)))
  | 7 => (zn (some (2, 0)) (zn (some (0, 0)) z0 z0) z0)
  | 8 => (zn (some (2, 0)) (zn (some (2, 0)) (zn (some (2, 0)) (zn (some (0, 0)) z0 z0) (zn (some (0, 0)) z0 z0)) (zn (some (0, 0)) (zn (some (0, 0)) z0 z0) z0)) (zn (some (2, 0)) (zn (some (2, 0)) (zn (some (0, 0)) z0 z0) (zn (some (0, 0)) z0 z0)) (zn (some (0, 0)) (zn (some (0, 0)) z0 z0) z0)))
  | 9 => (zn (some (0, 0)) (zn (some (0, 0)) (zn (some (0, 0)) (zn (some (0, 0)) z0 z0) (zn (some (0, 0)) z0 z0)) (zn (some (0, 0)) (zn (some (2, 0)) z0 z0) z0)) (zn (some (2, 0)) (zn (some (0, 0)) (zn (some (2, 0)) z0 z0) (zn (some (0, 0)) z0 z0)) (zn (some (0, 0)) (zn (some (2, 0)) z0 z0) z0)))
  | 10 => (zn (some (0, 0)) (zn (some (0, 0)) (zn (some (2, 0)) (zn (some (0, 0)) (zn (some (0, 0)) z0 z0) z0) (zn (some (2, 0)) (zn (some (0, 0)) z0 z0) z0)) (zn (some (2, 0)) (zn (some (0, 0)) (zn (some (0, 0)) z0 z0) z0) (zn (some (2, 0)) (zn (some (2, 0)) z0 z0) z0))) (zn (some (2, 0)) (zn (some (2, 0)) (zn (some (0, 0)) (zn (some (0, 0)) z0 z0) z0) (zn (some (2, 0)) (zn (some (0, 0)) z0 z0) z0)) (zn (some (0, 0)) (zn (some (2, 0)) (zn (some (0, 0)) z0 z0) z0) (zn (some (0, 0)) z0 z0))))
  | 11 => (zn (some (2, 0)) (zn (some (2, 0)) (zn (some (2, 0)) (zn (some (0, 0)) (zn (some (0, 0)) z0 z0) z0) (zn (some (0, 0)) z0 z0)) (zn (some (2, 0)) (zn (some (0, 0)) (zn (some (0, 0)) z0 z0) z0) (zn (some (0, 0)) z0 z0))) (zn (some (2, 0)) (zn (some (2, 0)) (zn (some (0, 0)) (zn (some (0, 0)) z0 z0) z0) (zn (some (0, 0)) z0 z0)) (zn (some (0, 0)) (zn (some (0, 0)) z0 z0) (zn (some (0, 0)) z0 z0))))
  | 12 => (zn (some (0, 0)) (zn (some (2, 0)) z0 z0) (zn (some (0, 0)) z0 z0))
  | _ => z0
def zcl_ps (ci : Nat) : List Nat := match ci with
  | 0 => [4118, 4120, 4122, 4124, 4126, 4128, 4130, 4132]
  | 1 => [5233, 5235, 5237, 5239, 6001, 6003, 6005, 6007, 6009, 6011, 6013]
  | 2 => [4067, 4069, 4071, 4073, 4075, 4077, 4079, 4081, 4083, 4085, 4087, 4089, 4091, 4093, 4095, 4097, 4099, 4101, 4103, 4105, 4107]
  | 3 => [7171, 7173, 7175, 7177, 7179, 7181, 7183, 7185]
  | 4 => [2202, 2204, 2206, 2208, 2210, 2212, 2214, 2216, 2218, 2220, 2222, 2224, 2226, 2228, 2230, 2232, 2234, 2236]
  | 5 => [3181, 3183, 3185, 3187, 3189, 3191, 3193, 3195, 3197, 3199, 3201, 3203, 3205, 3207, 3209]
  | 6 => [2048, 2050, 2052, 2054, 2056, 2058, 2060, 2062, 2064, 2066, 2068, 2070]
  | 7 => [1058, 1060]
  | 8 => [4008, 4010, 4012, 4014, 4016, 4018, 4020, 4022, 4024, 4026, 4028, 4030, 4032]
  | 9 => [1227, 1229, 1231, 1233, 1235, 1237, 1239, 2001, 2003, 2005, 2007, 2009, 2011]
  | 10 => [1155, 1157, 1159, 1161, 1163, 1165, 1167, 1169, 1171, 1173, 1175, 1177, 1179, 1181, 1183, 1185, 1187, 1189, 1191, 1193, 1195, 1197]
  | 11 => [3107, 3109, 3111, 3113, 3115, 3117, 3119, 3121, 3123, 3125, 3127, 3129, 3131, 3133, 3135, 3137, 3139, 3141]
  | 12 => [1088, 1084, 1086]
  | _ => []
def zcl_pi (ci : Nat) : Nat × Nat := match ci with
  | 0 => (1036, 1001)
  | 1 => (5214, 1029)
  | 2 => (3213, 1020)
  | 3 => (7144, 1030)
  | 4 => (1045, 1002)
  | 5 => (3145, 1019)
  | 6 => (2015, 1009)
  | 7 => (1051, 1003)
  | 8 => (3219, 1021)
  | 9 => (1201, 1008)
  | 10 => (1092, 1007)
  | 11 => (3001, 1014)
  | 12 => (1066, 1006)
  | _ => (0, 0)
def zcasts : List (Nat × Nat × Nat) := [(0, 70, 11239), (1, 70, 12011), (2, 70, 12007), (3, 70, 11238), (4, 70, 12000), (5, 70, 12006), (6, 70, 12004), (7, 70, 12001), (8, 70, 12008), (9, 70, 11237), (10, 70, 12003), (11, 70, 12005), (12, 70, 12002), (9, 71, 0), (3, 72, 0)]
def zfty (T : u_T) (k : Nat) : FieldType := (parseFieldDescriptor (T k).2.2.1).getD .int
def zdf (ty : FieldType) : ZV := match ty with
  | .long => (1, 0)
  | .object _ => (2, 0)
  | .array _ => (2, 0)
  | _ => (0, 0)
def zdfk (ty : FieldType) : Bool := match ty with
  | .long => true
  | .object _ => true
  | .array _ => true
  | .int => true
  | .boolean => true
  | .byte => true
  | _ => false
def znd : List String → Bool
  | [] => true
  | a :: l => decide (a ∉ l) && znd l
theorem znd_inj : ∀ (l : List String), znd l = true → ∀ (i j : Nat) (a : String), l[i]? = some a → l[j]? = some a → i = j
  | [], _, i, j, a, h, _ => by simp at h
  | b :: l, hn, i, j, a, h1, h2 => by
    simp only [znd, Bool.and_eq_true, decide_eq_true_eq] at hn
    cases i with
    | zero =>
      cases j with
      | zero => rfl
      | succ j =>
        rw [List.getElem?_cons_zero] at h1
        rw [List.getElem?_cons_succ] at h2
        cases h1
        exact absurd (List.mem_of_getElem? h2) hn.1
    | succ i =>
      rw [List.getElem?_cons_succ] at h1
      cases j with
      | zero =>
        rw [List.getElem?_cons_zero] at h2
        cases h2
        exact absurd (List.mem_of_getElem? h1) hn.1
      | succ j =>
        rw [List.getElem?_cons_succ] at h2
        rw [znd_inj l hn.2 i j a h1 h2]
noncomputable def zclk (ci : Nat) (C : String) (T : u_T) (N : Nat) : Bool :=
  (List.range N).all (fun k => zwk ((zcl_ps ci).getD k 0) (u_lay C T k) && decide (parseFieldDescriptor (T k).2.2.1 = some (zfty T k) ∧ zt_get 18 (zk_init ci) k = some (zdf (zfty T k)) ∧ zdfk (zfty T k) = true)) && zwk (zcl_pi ci).1 (.instantiable C N) && zwk (zcl_pi ci).2 (.initialized C) && znd ((List.range N).map fun k => (T k).2.1)
noncomputable def zcl_all : Bool := (List.range 13).all fun ci => match zcl[ci]? with
  | some q => zclk ci q.1 q.2.1 q.2.2
  | none => false
theorem zcl_chk : zcl_all = true := by decide +kernel
theorem zcl_len : zcl.length = 13 := rfl
theorem zcl_ok1 {ci : Nat} {C : String} {T : u_T} {N : Nat} (h : zcl[ci]? = some (C, T, N)) : zclk ci C T N = true := by
  have hl : ci < 13 := by rw [← zcl_len]; exact (List.getElem?_eq_some_iff.mp h).1
  have k := List.all_eq_true.mp zcl_chk ci (List.mem_range.mpr hl)
  rw [h] at k
  exact k
theorem zcl_ok {ci : Nat} {C : String} {T : u_T} {N : Nat} (h : zcl[ci]? = some (C, T, N)) :
    (∀ w ∈ u_ws C T N, w ∈ zW) ∧ Cond.instantiable C N ∈ zW ∧ Cond.initialized C ∈ zW ∧ (∀ k, k < N → parseFieldDescriptor (T k).2.2.1 = some (zfty T k)) ∧ (∀ a, a < N → ∀ b, b < N → a ≠ b → (T a).2.1 ≠ (T b).2.1) ∧
    (∀ k, k < N → zt_get 18 (zk_init ci) k = some (zdf (zfty T k))) ∧ ∀ k, k < N → zdfk (zfty T k) = true := by
  have k := zcl_ok1 h
  unfold zclk at k
  rw [Bool.and_eq_true, Bool.and_eq_true, Bool.and_eq_true] at k
  obtain ⟨⟨⟨k1, k2⟩, k3⟩, k4⟩ := k
  have k1 : ∀ j, j < N → zwk ((zcl_ps ci).getD j 0) (u_lay C T j) = true ∧ (parseFieldDescriptor (T j).2.2.1 = some (zfty T j) ∧ zt_get 18 (zk_init ci) j = some (zdf (zfty T j)) ∧ zdfk (zfty T j) = true) := fun j hj => by
    have a := List.all_eq_true.mp k1 j (List.mem_range.mpr hj)
    rw [Bool.and_eq_true] at a
    exact ⟨a.1, of_decide_eq_true a.2⟩
  refine ⟨fun w hw => ?_, zwk_ok k2, zwk_ok k3, fun j hj => (k1 j hj).2.1, fun a ha b hb hab he => ?_, fun j hj => (k1 j hj).2.2.1, fun j hj => (k1 j hj).2.2.2⟩
  · unfold u_ws at hw
    obtain ⟨j, hj, rfl⟩ := List.mem_map.mp hw
    exact zwk_ok (k1 j (List.mem_range.mp hj)).1
  · refine hab (znd_inj _ k4 a b (T a).2.1 ?_ ?_)
    · rw [List.getElem?_map, List.getElem?_range ha]; rfl
    · rw [List.getElem?_map, List.getElem?_range hb]; exact congrArg some he.symm
noncomputable def zcast1 (q : Nat × Nat × Nat) : Bool := match zcl[q.1]?, zty q.2.1 with
  | some r, .object E => decide (r.1 = E) || zwx q.2.2 (.castable r.1 E)
  | _, _ => false
theorem zcasts_chk : zcasts.all zcast1 = true := by decide +kernel
