/-! Printed by wip/vi/gen6.py: the checks together. -/
theorem zkC_all : ∀ md, 0 < md → md ≤ 122 → (ztb ((zm_pos md).1 / 1000))[(zm_pos md).1 % 1000]? = some (zmk_hd md (zm_nfo md).1) ∧ goodWord (zmk_hd md (zm_nfo md).1) = true
  | 0, h, _ => absurd h (by decide)
  | 1, _, _ => zkC_1
  | 2, _, _ => zkC_2
  | 3, _, _ => zkC_3
  | 4, _, _ => zkC_4
  | 5, _, _ => zkC_5
  | 6, _, _ => zkC_6
  | 7, _, _ => zkC_7
  | 8, _, _ => zkC_8
  | 9, _, _ => zkC_9
  | 10, _, _ => zkC_10
  | 11, _, _ => zkC_11
  | 12, _, _ => zkC_12
  | 13, _, _ => zkC_13
  | 14, _, _ => zkC_14
  | 15, _, _ => zkC_15
  | 16, _, _ => zkC_16
  | 17, _, _ => zkC_17
  | 18, _, _ => zkC_18
  | 19, _, _ => zkC_19
  | 20, _, _ => zkC_20
  | 21, _, _ => zkC_21
  | 22, _, _ => zkC_22
  | 23, _, _ => zkC_23
  | 24, _, _ => zkC_24
  | 25, _, _ => zkC_25
  | 26, _, _ => zkC_26
  | 27, _, _ => zkC_27
  | 28, _, _ => zkC_28
  | 29, _, _ => zkC_29
  | 30, _, _ => zkC_30
  | 31, _, _ => zkC_31
  | 32, _, _ => zkC_32
  | 33, _, _ => zkC_33
  | 34, _, _ => zkC_34
  | 35, _, _ => zkC_35
  | 36, _, _ => zkC_36
  | 37, _, _ => zkC_37
  | 38, _, _ => zkC_38
  | 39, _, _ => zkC_39
  | 40, _, _ => zkC_40
  | 41, _, _ => zkC_41
  | 42, _, _ => zkC_42
  | 43, _, _ => zkC_43
  | 44, _, _ => zkC_44
  | 45, _, _ => zkC_45
  | 46, _, _ => zkC_46
  | 47, _, _ => zkC_47
  | 48, _, _ => zkC_48
  | 49, _, _ => zkC_49
  | 50, _, _ => zkC_50
  | 51, _, _ => zkC_51
  | 52, _, _ => zkC_52
  | 53, _, _ => zkC_53
  | 54, _, _ => zkC_54
  | 55, _, _ => zkC_55
  | 56, _, _ => zkC_56
  | 57, _, _ => zkC_57
  | 58, _, _ => zkC_58
  | 59, _, _ => zkC_59
  | 60, _, _ => zkC_60
  | 61, _, _ => zkC_61
  | 62, _, _ => zkC_62
  | 63, _, _ => zkC_63
  | 64, _, _ => zkC_64
  | 65, _, _ => zkC_65
  | 66, _, _ => zkC_66
  | 67, _, _ => zkC_67
  | 68, _, _ => zkC_68
  | 69, _, _ => zkC_69
  | 70, _, _ => zkC_70
  | 71, _, _ => zkC_71
  | 72, _, _ => zkC_72
  | 73, _, _ => zkC_73
  | 74, _, _ => zkC_74
  | 75, _, _ => zkC_75
  | 76, _, _ => zkC_76
  | 77, _, _ => zkC_77
  | 78, _, _ => zkC_78
  | 79, _, _ => zkC_79
  | 80, _, _ => zkC_80
  | 81, _, _ => zkC_81
  | 82, _, _ => zkC_82
  | 83, _, _ => zkC_83
  | 84, _, _ => zkC_84
  | 85, _, _ => zkC_85
  | 86, _, _ => zkC_86
  | 87, _, _ => zkC_87
  | 88, _, _ => zkC_88
  | 89, _, _ => zkC_89
  | 90, _, _ => zkC_90
  | 91, _, _ => zkC_91
  | 92, _, _ => zkC_92
  | 93, _, _ => zkC_93
  | 94, _, _ => zkC_94
  | 95, _, _ => zkC_95
  | 96, _, _ => zkC_96
  | 97, _, _ => zkC_97
  | 98, _, _ => zkC_98
  | 99, _, _ => zkC_99
  | 100, _, _ => zkC_100
  | 101, _, _ => zkC_101
  | 102, _, _ => zkC_102
  | 103, _, _ => zkC_103
  | 104, _, _ => zkC_104
  | 105, _, _ => zkC_105
  | 106, _, _ => zkC_106
  | 107, _, _ => zkC_107
  | 108, _, _ => zkC_108
  | 109, _, _ => zkC_109
  | 110, _, _ => zkC_110
  | 111, _, _ => zkC_111
  | 112, _, _ => zkC_112
  | 113, _, _ => zkC_113
  | 114, _, _ => zkC_114
  | 115, _, _ => zkC_115
  | 116, _, _ => zkC_116
  | 117, _, _ => zkC_117
  | 118, _, _ => zkC_118
  | 119, _, _ => zkC_119
  | 120, _, _ => zkC_120
  | 121, _, _ => zkC_121
  | 122, _, _ => zkC_122
  | n + 123, _, h => absurd h (by omega)
theorem zmk_all : ∀ md, 0 < md → md ≤ 122 → zmk md = true := fun md h1 h2 => zmk_of (zall_to zk_mA md (by omega) (by omega)) (zall_to zk_mB md (by omega) (by omega)) (zall_to zk_mD md (by omega) (by omega)) (zkC_all md h1 h2).1 (zkC_all md h1 h2).2
theorem zmok2_all : ∀ mid, mid ≤ 122 → zmok2 mid = true := fun mid h => zall_to zk_2 mid (by omega) (by omega)
theorem zmok3_all : ∀ mid, mid ≤ 122 → zmok3 mid = true := fun mid h => zall_to zk_3 mid (by omega) (by omega)
theorem zthk_all : ∀ E, E < 4 → zthk E = true := fun E h => zall_to zk_thr E (by omega) (by omega)
theorem zmok_all : ∀ mid, mid ≤ 122 → zmok mid = true := by
  intro mid h
  by_cases a0 : mid < 1
  · exact zall_to zk_1_0 mid (by omega) (by omega)
  by_cases a1 : mid < 2
  · exact zall_to zk_1_1 mid (by omega) (by omega)
  by_cases a2 : mid < 3
  · exact zall_to zk_1_2 mid (by omega) (by omega)
  by_cases a3 : mid < 4
  · exact zall_to zk_1_3 mid (by omega) (by omega)
  by_cases a4 : mid < 5
  · exact zall_to zk_1_4 mid (by omega) (by omega)
  by_cases a5 : mid < 6
  · exact zall_to zk_1_5 mid (by omega) (by omega)
  by_cases a6 : mid < 7
  · exact zall_to zk_1_6 mid (by omega) (by omega)
  by_cases a7 : mid < 8
  · exact zall_to zk_1_7 mid (by omega) (by omega)
  by_cases a8 : mid < 9
  · exact zall_to zk_1_8 mid (by omega) (by omega)
  by_cases a9 : mid < 10
  · exact zall_to zk_1_9 mid (by omega) (by omega)
  by_cases a10 : mid < 11
  · exact zall_to zk_1_10 mid (by omega) (by omega)
  by_cases a11 : mid < 12
  · exact zall_to zk_1_11 mid (by omega) (by omega)
  by_cases a12 : mid < 24
  · exact zall_to zk_1_12 mid (by omega) (by omega)
  by_cases a24 : mid < 36
  · exact zall_to zk_1_24 mid (by omega) (by omega)
  by_cases a36 : mid < 48
  · exact zall_to zk_1_36 mid (by omega) (by omega)
  by_cases a48 : mid < 60
  · exact zall_to zk_1_48 mid (by omega) (by omega)
  by_cases a60 : mid < 61
  · exact zall_to zk_1_60 mid (by omega) (by omega)
  by_cases a61 : mid < 62
  · exact zall_to zk_1_61 mid (by omega) (by omega)
  by_cases a62 : mid < 63
  · exact zall_to zk_1_62 mid (by omega) (by omega)
  by_cases a63 : mid < 64
  · exact zall_to zk_1_63 mid (by omega) (by omega)
  by_cases a64 : mid < 65
  · exact zall_to zk_1_64 mid (by omega) (by omega)
  by_cases a65 : mid < 66
  · exact zall_to zk_1_65 mid (by omega) (by omega)
  by_cases a66 : mid < 67
  · exact zall_to zk_1_66 mid (by omega) (by omega)
  by_cases a67 : mid < 68
  · exact zall_to zk_1_67 mid (by omega) (by omega)
  by_cases a68 : mid < 69
  · exact zall_to zk_1_68 mid (by omega) (by omega)
  by_cases a69 : mid < 70
  · exact zall_to zk_1_69 mid (by omega) (by omega)
  by_cases a70 : mid < 71
  · exact zall_to zk_1_70 mid (by omega) (by omega)
  by_cases a71 : mid < 72
  · exact zall_to zk_1_71 mid (by omega) (by omega)
  by_cases a72 : mid < 84
  · exact zall_to zk_1_72 mid (by omega) (by omega)
  by_cases a84 : mid < 96
  · exact zall_to zk_1_84 mid (by omega) (by omega)
  by_cases a96 : mid < 108
  · exact zall_to zk_1_96 mid (by omega) (by omega)
  by_cases a108 : mid < 120
  · exact zall_to zk_1_108 mid (by omega) (by omega)
  exact zall_to zk_1_120 mid (by omega) (by omega)
set_option maxRecDepth 100000 in
theorem zq71 : zfrow 71 10 20000 12 116 251 11215 := ⟨rfl, rfl, rfl, rfl, rfl, rfl, rfl, rfl, rfl, rfl⟩
set_option maxRecDepth 100000 in
theorem zq70 : zfrow 70 12 4096 12 18 34 11117 := ⟨rfl, rfl, rfl, rfl, rfl, rfl, rfl, rfl, rfl, rfl⟩
theorem zA_ok {B0 Ls : Nat} {X : ZX} {N : ZN} (hN : zNok X N) (f : Nat) : zSound B0 Ls X (zrunA N Ls f) := zrunA_ok hN zthk_all zmok_all zmok2_all zmok3_all zmk_all f
theorem zB_ok {B0 Ls : Nat} {X : ZX} {N : ZN} (hN : zNok X N) (f : Nat) : zSound B0 Ls X (zrunB N Ls f) := zrunB_ok hN zthk_all zmok_all zmok2_all zmok3_all zmk_all zq71 zq70 f
