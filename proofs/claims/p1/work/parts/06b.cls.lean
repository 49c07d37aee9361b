/-! Printed by wip/vi/gen1.py: the classes' first objects, words, checks; what may be cast. -/
noncomputable def zk_init (ci : Nat) : ZT ZV 18 := match ci with
  | 0 => (zn (some (2, 0)) (zn (some (0, 0)) (zn (some (0, 0)) (zn (some (2, 0)) z0 z0) z0) (zn (some (2, 0)) z0 z0)) (zn (some (0, 0)) (zn (some (2, 0)) z0 z0) (zn (some (2, 0)) z0 z0)))
  | 1 => (zn (some (2, 0)) (zn (some (0, 0)) (zn (some (0, 0)) (zn (some (0, 0)) z0 z0) z0) (zn (some (0, 0)) (zn (some (0, 0)) z0 z0) z0)) (zn (some (0, 0)) (zn (some (0, 0)) (zn (some (0, 0)) z0 z0) z0) (zn (some (0, 0)) (zn (some (2, 0)) z0 z0) z0)))
  | 2 => (zn (some (2, 0)) (zn (some (2, 0)) (zn (some (2, 0)) (zn (some (2, 0)) (zn (some (0, 0)) z0 z0) z0) (zn (some (0, 0)) (zn (some (0, 0)) z0 z0) z0)) (zn (some (2, 0)) (zn (some (0, 0)) (zn (some (0, 0)) z0 z0) z0) (zn (some (0, 0)) z0 z0))) (zn (some (2, 0)) (zn (some (0, 0)) (zn (some (2, 0)) (zn (some (2, 0)) z0 z0) z0) (zn (some (0, 0)) (zn (some (0, 0)) z0 z0) z0)) (zn (some (0, 0)) (zn (some (0, 0)) (zn (some (2, 0)) z0 z0) z0) (zn (some (0, 0)) z0 z0))))
  | 3 => (zn (some (2, 0)) (zn (some (2, 0)) (zn (some (2, 0)) (zn (some (0, 0)) z0 z0) z0) (zn (some (2, 0)) z0 z0)) (zn (some (0, 0)) (zn (some (2, 0)) z0 z0) (zn (some (0, 0)) z0 z0)))
  | 4 => (zn (some (2, 0)) (zn (some (2, 0)) (zn (some (2, 0)) (zn (some (2, 0)) (zn (some (2, 0)) z0 z0) z0) (zn (some (2, 0)) z0 z0)) (zn (some (2, 0)) (zn (some (2, 0)) (zn (some (0, 0)) z0 z0) z0) (zn (some (2, 0)) z0 z0))) (zn (some (2, 0)) (zn (some (2, 0)) (zn (some (2, 0)) (zn (some (2, 0)) z0 z0) z0) (zn (some (2, 0)) z0 z0)) (zn (some (2, 0)) (zn (some (2, 0)) z0 z0) (zn (some (2, 0)) z0 z0))))
  | 5 => (zn (some (2, 0)) (zn (some (2, 0)) (zn (some (2, 0)) (zn (some (2, 0)) z0 z0) (zn (some (0, 0)) z0 z0)) (zn (some (2, 0)) (zn (some (2, 0)) z0 z0) (zn (some (0, 0)) z0 z0))) (zn (some (2, 0)) (zn (some (2, 0)) (zn (some (2, 0)) z0 z0) (zn (some (0, 0)) z0 z0)) (zn (some (2, 0)) (zn (some (2, 0)) z0 z0) (zn (some (2, 0)) z0 z0))))
  | 6 => (zn (some (0, 0)) (zn (some (0, 0)) (zn (some (0, 0)) (zn (some (0, 0)) z0 z0) (zn (some (0, 0)) z0 z0)) (zn (some (2, 0)) (zn (some (0, 0)) z0 z0) z0)) (zn (some (0, 0)) (zn (some (2, 0)) (zn (some (0, 0)) z0 z0) z0) (zn (some (0, 0)) (zn (some (0, 0)) z0 z0) z0)))
  | 7 => (zn (some (2, 0)) (zn (some (0, 0)) z0 z0) z0)
  | 8 => (zn (some (2, 0)) (zn (some (2, 0)) (zn (some (2, 0)) (zn (some (0, 0)) z0 z0) (zn (some (0, 0)) z0 z0)) (zn (some (0, 0)) (zn (some (0, 0)) z0 z0) z0)) (zn (some (2, 0)) (zn (some (2, 0)) (zn (some (0, 0)) z0 z0) (zn (some (0, 0)) z0 z0)) (zn (some (0, 0)) (zn (some (0, 0)) z0 z0) z0)))
  | 9 => (zn (some (0, 0)) (zn (some (0, 0)) (zn (some (0, 0)) (zn (some (0, 0)) z0 z0) (zn (some (0, 0)) z0 z0)) (zn (some (0, 0)) (zn (some (2, 0)) z0 z0) z0)) (zn (some (2, 0)) (zn (some (0, 0)) (zn (some (2, 0)) z0 z0) (zn (some (0, 0)) z0 z0)) (zn (some (0, 0)) (zn (some (2, 0)) z0 z0) z0)))
  | 10 => (zn (some (0, 0)) (zn (some (0, 0)) (zn (some (2, 0)) (zn (some (0, 0)) (zn (some (0, 0)) z0 z0) z0) (zn (some (2, 0)) (zn (some (0, 0)) z0 z0) z0)) (zn (some (2, 0)) (zn (some (0, 0)) (zn (some (0, 0)) z0 z0) z0) (zn (some (2, 0)) (zn (some (2, 0)) z0 z0) z0))) (zn (some (2, 0)) (zn (some (2, 0)) (zn (some (0, 0)) (zn (some (0, 0)) z0 z0) z0) (zn (some (2, 0)) (zn (some (0, 0)) z0 z0) z0)) (zn (some (0, 0)) (zn (some (2, 0)) (zn (some (0, 0)) z0 z0) z0) (zn (some (0, 0)) z0 z0))))
  | 11 => (zn (some (2, 0)) (zn (some (2, 0)) (zn (some (2, 0)) (zn (some (0, 0)) (zn (some (0, 0)) z0 z0) z0) (zn (some (0, 0)) z0 z0)) (zn (some (2, 0)) (zn (some (0, 0)) (zn (some (0, 0)) z0 z0) z0) (zn (some (0, 0)) z0 z0))) (zn (some (2, 0)) (zn (some (2, 0)) (zn (some (0, 0)) (zn (some (0, 0)) z0 z0) z0) (zn (some (0, 0)) z0 z0)) (zn (some (0, 0)) (zn (some (0, 0)) z0 z0) (zn (some (0, 0)) z0 z0))))
  | 12 => (zn (some (0, 0)) (zn (some (2, 0)) (zn (some (2, 0)) (zn (some (0, 0)) (zn (some (2, 0)) (zn (some (0, 0)) (zn (some (0, 0)) (zn (some (2, 0)) z0 z0) (zn (some (2, 0)) z0 z0)) (zn (some (2, 0)) (zn (some (2, 0)) z0 z0) z0)) (zn (some (2, 0)) (zn (some (2, 0)) (zn (some (2, 0)) z0 z0) z0) (zn (some (2, 0)) (zn (some (0, 0)) z0 z0) z0))) (zn (some (0, 0)) (zn (some (2, 0)) (zn (some (2, 0)) (zn (some (2, 0)) z0 z0) (zn (some (0, 0)) z0 z0)) (zn (some (2, 0)) (zn (some (2, 0)) z0 z0) z0)) (zn (some (2, 0)) (zn (some (2, 0)) (zn (some (2, 0)) z0 z0) z0) (zn (some (2, 0)) (zn (some (2, 0)) z0 z0) z0)))) (zn (some (0, 0)) (zn (some (2, 0)) (zn (some (0, 0)) (zn (some (2, 0)) (zn (some (2, 0)) z0 z0) (zn (some (0, 0)) z0 z0)) (zn (some (2, 0)) (zn (some (2, 0)) z0 z0) z0)) (zn (some (2, 0)) (zn (some (1, 0)) (zn (some (2, 0)) z0 z0) z0) (zn (some (2, 0)) (zn (some (2, 0)) z0 z0) z0))) (zn (some (2, 0)) (zn (some (0, 0)) (zn (some (2, 0)) (zn (some (2, 0)) z0 z0) (zn (some (0, 0)) z0 z0)) (zn (some (2, 0)) (zn (some (2, 0)) z0 z0) z0)) (zn (some (2, 0)) (zn (some (2, 0)) (zn (some (0, 0)) z0 z0) z0) (zn (some (2, 0)) (zn (some (0, 0)) z0 z0) z0))))) (zn (some (0, 0)) (zn (some (0, 0)) (zn (some (2, 0)) (zn (some (2, 0)) (zn (some (2, 0)) (zn (some (0, 0)) z0 z0) (zn (some (2, 0)) z0 z0)) (zn (some (0, 0)) (zn (some (2, 0)) z0 z0) z0)) (zn (some (2, 0)) (zn (some (1, 0)) (zn (some (2, 0)) z0 z0) z0) (zn (some (0, 0)) (zn (some (2, 0)) z0 z0) z0))) (zn (some (2, 0)) (zn (some (2, 0)) (zn (some (0, 0)) (zn (some (1, 0)) z0 z0) (zn (some (0, 0)) z0 z0)) (zn (some (2, 0)) (zn (some (2, 0)) z0 z0) z0)) (zn (some (2, 0)) (zn (some (0, 0)) (zn (some (0, 0)) z0 z0) z0) (zn (some (2, 0)) (zn (some (2, 0)) z0 z0) z0)))) (zn (some (2, 0)) (zn (some (2, 0)) (zn (some (2, 0)) (zn (some (0, 0)) (zn (some (2, 0)) z0 z0) (zn (some (0, 0)) z0 z0)) (zn (some (2, 0)) (zn (some (0, 0)) z0 z0) z0)) (zn (some (0, 0)) (zn (some (2, 0)) (zn (some (2, 0)) z0 z0) z0) (zn (some (2, 0)) (zn (some (0, 0)) z0 z0) z0))) (zn (some (2, 0)) (zn (some (2, 0)) (zn (some (0, 0)) (zn (some (2, 0)) z0 z0) (zn (some (1, 0)) z0 z0)) (zn (some (2, 0)) (zn (some (0, 0)) z0 z0) z0)) (zn (some (2, 0)) (zn (some (2, 0)) (zn (some (2, 0)) z0 z0) z0) (zn (some (1, 0)) (zn (some (2, 0)) z0 z0) z0)))))) (zn (some (0, 0)) (zn (some (0, 0)) (zn (some (0, 0)) (zn (some (2, 0)) (zn (some (2, 0)) (zn (some (2, 0)) (zn (some (2, 0)) z0 z0) (zn (some (2, 0)) z0 z0)) (zn (some (2, 0)) (zn (some (2, 0)) z0 z0) z0)) (zn (some (2, 0)) (zn (some (0, 0)) (zn (some (2, 0)) z0 z0) z0) (zn (some (0, 0)) (zn (some (2, 0)) z0 z0) z0))) (zn (some (2, 0)) (zn (some (0, 0)) (zn (some (2, 0)) (zn (some (0, 0)) z0 z0) (zn (some (0, 0)) z0 z0)) (zn (some (2, 0)) (zn (some (2, 0)) z0 z0) z0)) (zn (some (0, 0)) (zn (some (2, 0)) (zn (some (2, 0)) z0 z0) z0) (zn (some (2, 0)) (zn (some (0, 0)) z0 z0) z0)))) (zn (some (2, 0)) (zn (some (0, 0)) (zn (some (2, 0)) (zn (some (2, 0)) (zn (some (0, 0)) z0 z0) (zn (some (0, 0)) z0 z0)) (zn (some (2, 0)) (zn (some (2, 0)) z0 z0) z0)) (zn (some (2, 0)) (zn (some (1, 0)) (zn (some (2, 0)) z0 z0) z0) (zn (some (2, 0)) (zn (some (2, 0)) z0 z0) z0))) (zn (some (2, 0)) (zn (some (2, 0)) (zn (some (2, 0)) (zn (some (2, 0)) z0 z0) (zn (some (2, 0)) z0 z0)) (zn (some (0, 0)) (zn (some (2, 0)) z0 z0) z0)) (zn (some (0, 0)) (zn (some (2, 0)) (zn (some (2, 0)) z0 z0) z0) (zn (some (0, 0)) (zn (some (0, 0)) z0 z0) z0))))) (zn (some (0, 0)) (zn (some (0, 0)) (zn (some (2, 0)) (zn (some (0, 0)) (zn (some (2, 0)) (zn (some (0, 0)) z0 z0) (zn (some (2, 0)) z0 z0)) (zn (some (2, 0)) (zn (some (2, 0)) z0 z0) z0)) (zn (some (2, 0)) (zn (some (1, 0)) (zn (some (2, 0)) z0 z0) z0) (zn (some (0, 0)) (zn (some (2, 0)) z0 z0) z0))) (zn (some (2, 0)) (zn (some (2, 0)) (zn (some (2, 0)) (zn (some (0, 0)) z0 z0) (zn (some (2, 0)) z0 z0)) (zn (some (2, 0)) (zn (some (2, 0)) z0 z0) z0)) (zn (some (2, 0)) (zn (some (0, 0)) (zn (some (0, 0)) z0 z0) z0) (zn (some (2, 0)) (zn (some (2, 0)) z0 z0) z0)))) (zn (some (0, 0)) (zn (some (0, 0)) (zn (some (2, 0)) (zn (some (2, 0)) (zn (some (2, 0)) z0 z0) (zn (some (0, 0)) z0 z0)) (zn (some (2, 0)) (zn (some (0, 0)) z0 z0) z0)) (zn (some (2, 0)) (zn (some (2, 0)) (zn (some (2, 0)) z0 z0) z0) (zn (some (2, 0)) (zn (some (0, 0)) z0 z0) z0))) (zn (some (2, 0)) (zn (some (2, 0)) (zn (some (2, 0)) (zn (some (2, 0)) z0 z0) (zn (some (2, 0)) z0 z0)) (zn (some (2, 0)) (zn (some (0, 0)) z0 z0) z0)) (zn (some (2, 0)) (zn (some (2, 0)) (zn (some (2, 0)) z0 z0) z0) (zn (some (1, 0)) (zn (some (2, 0)) z0 z0) z0)))))))
  | 13 => (zn (some (0, 0)) (zn (some (2, 0)) z0 z0) (zn (some (0, 0)) z0 z0))
  | _ => z0
def zcl_ps (ci : Nat) : List Nat := match ci with
  | 0 => [4121, 4123, 4125, 4127, 4129, 4131, 4133, 4135]
  | 1 => [5236, 5238, 6000, 6002, 6004, 6006, 6008, 6010, 6012, 6014, 6016]
  | 2 => [4070, 4072, 4074, 4076, 4078, 4080, 4082, 4084, 4086, 4088, 4090, 4092, 4094, 4096, 4098, 4100, 4102, 4104, 4106, 4108, 4110]
  | 3 => [7174, 7176, 7178, 7180, 7182, 7184, 7186, 7188]
  | 4 => [2205, 2207, 2209, 2211, 2213, 2215, 2217, 2219, 2221, 2223, 2225, 2227, 2229, 2231, 2233, 2235, 2237, 2239]
  | 5 => [3184, 3186, 3188, 3190, 3192, 3194, 3196, 3198, 3200, 3202, 3204, 3206, 3208, 3210, 3212]
  | 6 => [2050, 2052, 2054, 2056, 2058, 2060, 2062, 2064, 2066, 2068, 2070, 2072]
  | 7 => [1059, 1061]
  | 8 => [4011, 4013, 4015, 4017, 4019, 4021, 4023, 4025, 4027, 4029, 4031, 4033, 4035]
  | 9 => [1228, 1230, 1232, 1234, 1236, 1238, 2000, 2002, 2004, 2006, 2008, 2010, 2012]
  | 10 => [1156, 1158, 1160, 1162, 1164, 1166, 1168, 1170, 1172, 1174, 1176, 1178, 1180, 1182, 1184, 1186, 1188, 1190, 1192, 1194, 1196, 1198]
  | 11 => [3110, 3112, 3114, 3116, 3118, 3120, 3122, 3124, 3126, 3128, 3130, 3132, 3134, 3136, 3138, 3140, 3142, 3144]
  | 12 => [12064, 12066, 12068, 12070, 12072, 12074, 12076, 12078, 12080, 12082, 12084, 12086, 12088, 12090, 12092, 12094, 12096, 12098, 12100, 12102, 12104, 12106, 12108, 12110, 12112, 12114, 12116, 12118, 12120, 12122, 12124, 12126, 12128, 12130, 12132, 12134, 12136, 12138, 12140, 12142, 12144, 12146, 12148, 12150, 12152, 12154, 12156, 12158, 12160, 12162, 12164, 12166, 12168, 12170, 12172, 12174, 12176, 12178, 12180, 12182, 12184, 12186, 12188, 12190, 12192, 12194, 12196, 12198, 12200, 12202, 12204, 12206, 12208, 12210, 12212, 12214, 12216, 12218, 12220, 12222, 12224, 12226, 12228, 12230, 12232, 12234, 12236, 12238, 13000, 13002, 13004, 13006, 13008, 13010, 13012, 13014, 13016, 13018, 13020, 13022, 13024, 13026, 13028, 13030, 13032, 13034, 13036, 13038, 13040, 13042, 13044, 13046, 13048, 13050, 13052, 13054, 13056, 13058, 13060, 13062, 13064, 13066, 13068, 13070, 13072, 13074, 13076, 13078, 13080, 13082, 13084, 13086, 13088, 13090, 13092, 13094, 13096, 13098, 13100, 13102, 13104, 13106, 13108, 13110, 13112, 13114, 13116, 13118, 13120, 13122, 13124, 13126, 13128, 13130, 13132, 13134, 13136, 13138, 13140, 13142, 13144, 13146, 13148, 13150, 13152, 13154, 13156, 13158, 13160, 13162, 13164, 13166, 13168, 13170, 13172, 13174, 13176, 13178, 13180, 13182, 13184, 13186, 13188, 13190, 13192, 13194, 13196, 13198, 13200, 13202, 13204, 13206, 13208, 13210, 13212, 13214, 13216, 13218, 13220, 13222, 13224, 13226, 13228, 13230, 13232, 13234, 13236]
  | 13 => [1089, 1085, 1087]
  | _ => []
def zcl_pi (ci : Nat) : Nat × Nat := match ci with
  | 0 => (1037, 1001)
  | 1 => (5217, 1031)
  | 2 => (3216, 1020)
  | 3 => (7147, 1032)
  | 4 => (1046, 1002)
  | 5 => (3148, 1019)
  | 6 => (2016, 1009)
  | 7 => (1052, 1003)
  | 8 => (3222, 1021)
  | 9 => (1202, 1008)
  | 10 => (1093, 1007)
  | 11 => (3004, 1014)
  | 12 => (11084, 1022)
  | 13 => (1067, 1006)
  | _ => (0, 0)
def zcasts : List (Nat × Nat × Nat) := [(0, 70, 18210), (1, 70, 18224), (2, 70, 18218), (3, 70, 18209), (4, 70, 18211), (5, 70, 18217), (6, 70, 18215), (7, 70, 18212), (8, 70, 18219), (9, 70, 18208), (10, 70, 18214), (11, 70, 18216), (12, 70, 18220), (13, 70, 18213), (9, 71, 0), (3, 72, 0)]
def zfty (T : u_T) (k : Nat) : FieldType := (parseFieldDescriptor (T k).2.2.1).getD .int
def zdf (ty : FieldType) : ZV := match ty with
  | .long => (1, 0)
  | .object _ => (2, 0)
  | .array _ => (2, 0)
  | _ => (0, 0)
def zdfk (ty : FieldType) : Bool := match ty with
  | .long => true
  | .object _ => true
  | .array _ => true
  | .int => true
  | .boolean => true
  | .byte => true
  | _ => false
def znd : List String → Bool
  | [] => true
  | a :: l => decide (a ∉ l) && znd l
theorem znd_inj : ∀ (l : List String), znd l = true → ∀ (i j : Nat) (a : String), l[i]? = some a → l[j]? = some a → i = j
  | [], _, i, j, a, h, _ => by simp at h
  | b :: l, hn, i, j, a, h1, h2 => by
    simp only [znd, Bool.and_eq_true, decide_eq_true_eq] at hn
    cases i with
    | zero =>
      cases j with
      | zero => rfl
      | succ j =>
        rw [List.getElem?_cons_zero] at h1
        rw [List.getElem?_cons_succ] at h2
        cases h1
        exact absurd (List.mem_of_getElem? h2) hn.1
    | succ i =>
      rw [List.getElem?_cons_succ] at h1
      cases j with
      | zero =>
        rw [List.getElem?_cons_zero] at h2
        cases h2
        exact absurd (List.mem_of_getElem? h1) hn.1
      | succ j =>
        rw [List.getElem?_cons_succ] at h2
        rw [znd_inj l hn.2 i j a h1 h2]
noncomputable def zclk (ci : Nat) (C : String) (T : u_T) (N : Nat) : Bool :=
  (List.range N).all (fun k => zwk ((zcl_ps ci).getD k 0) (u_lay C T k) && decide (parseFieldDescriptor (T k).2.2.1 = some (zfty T k) ∧ zt_get 18 (zk_init ci) k = some (zdf (zfty T k)) ∧ zdfk (zfty T k) = true)) && zwk (zcl_pi ci).1 (.instantiable C N) && zwk (zcl_pi ci).2 (.initialized C) && znd ((List.range N).map fun k => (T k).2.1)
noncomputable def zcl_all : Bool := (List.range 14).all fun ci => match zcl[ci]? with
  | some q => zclk ci q.1 q.2.1 q.2.2
  | none => false
theorem zcl_chk : zcl_all = true := by decide +kernel
theorem zcl_len : zcl.length = 14 := rfl
theorem zcl_ok1 {ci : Nat} {C : String} {T : u_T} {N : Nat} (h : zcl[ci]? = some (C, T, N)) : zclk ci C T N = true := by
  have hl : ci < 14 := by rw [← zcl_len]; exact (List.getElem?_eq_some_iff.mp h).1
  have k := List.all_eq_true.mp zcl_chk ci (List.mem_range.mpr hl)
  rw [h] at k
  exact k
theorem zcl_ok {ci : Nat} {C : String} {T : u_T} {N : Nat} (h : zcl[ci]? = some (C, T, N)) :
    (∀ w ∈ u_ws C T N, w ∈ zW) ∧ Cond.instantiable C N ∈ zW ∧ Cond.initialized C ∈ zW ∧ (∀ k, k < N → parseFieldDescriptor (T k).2.2.1 = some (zfty T k)) ∧ (∀ a, a < N → ∀ b, b < N → a ≠ b → (T a).2.1 ≠ (T b).2.1) ∧
    (∀ k, k < N → zt_get 18 (zk_init ci) k = some (zdf (zfty T k))) ∧ ∀ k, k < N → zdfk (zfty T k) = true := by
  have k := zcl_ok1 h
  unfold zclk at k
  rw [Bool.and_eq_true, Bool.and_eq_true, Bool.and_eq_true] at k
  obtain ⟨⟨⟨k1, k2⟩, k3⟩, k4⟩ := k
  have k1 : ∀ j, j < N → zwk ((zcl_ps ci).getD j 0) (u_lay C T j) = true ∧ (parseFieldDescriptor (T j).2.2.1 = some (zfty T j) ∧ zt_get 18 (zk_init ci) j = some (zdf (zfty T j)) ∧ zdfk (zfty T j) = true) := fun j hj => by
    have a := List.all_eq_true.mp k1 j (List.mem_range.mpr hj)
    rw [Bool.and_eq_true] at a
    exact ⟨a.1, of_decide_eq_true a.2⟩
  refine ⟨fun w hw => ?_, zwk_ok k2, zwk_ok k3, fun j hj => (k1 j hj).2.1, fun a ha b hb hab he => ?_, fun j hj => (k1 j hj).2.2.1, fun j hj => (k1 j hj).2.2.2⟩
  · unfold u_ws at hw
    obtain ⟨j, hj, rfl⟩ := List.mem_map.mp hw
    exact zwk_ok (k1 j (List.mem_range.mp hj)).1
  · refine hab (znd_inj _ k4 a b (T a).2.1 ?_ ?_)
    · rw [List.getElem?_map, List.getElem?_range ha]; rfl
    · rw [List.getElem?_map, List.getElem?_range hb]; exact congrArg some he.symm
noncomputable def zcast1 (q : Nat × Nat × Nat) : Bool := match zcl[q.1]?, zty q.2.1 with
  | some r, .object E => decide (r.1 = E) || zwx q.2.2 (.castable r.1 E)
  | _, _ => false
theorem zcasts_chk : zcasts.all zcast1 = true := by decide +kernel
