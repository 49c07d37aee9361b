/-! Printed by wip/vi/gen4b.py: the rows against the bytecode. -/
noncomputable def zP (mid : Nat) : Nat → ZE → Bool := fun pc en => zchk (zm_y mid).cls (zm_cc mid) (zm_nfo mid).1 (zini mid) (zm_ret mid) pc en
theorem zt_all_zn {α : Type} {P : Nat → α → Bool} {n : Nat} {v : Option α} {l r : ZT α n} {a b : Nat} (h0 : @Option.rec α (fun _ => Bool) true (P a) v = true) (h1 : zt_all P n l (a + b) (2 * b) = true) (h2 : zt_all P n r (a + 2 * b) (2 * b) = true) : zt_all P (n + 1) (zn v l r) a b = true := by
  show zif (@Option.rec α (fun _ => Bool) true (P a) v) (zif (zt_all P n l (a + b) (2 * b)) (zt_all P n r (a + 2 * b) (2 * b)) false) false = true
  rw [h0, h1, h2]
  rfl
set_option maxRecDepth 100000 in
theorem zk_zmc_0aaa : zt_all (zP 0) 9 zmc_0aaa 7 8 = true := by decide +kernel
set_option maxRecDepth 100000 in
theorem zk_zmc_0aab : zt_all (zP 0) 9 zmc_0aab 11 8 = true := by decide +kernel
set_option maxRecDepth 100000 in
theorem zk_zmc_0aa : zt_all (zP 0) 10 zmc_0aa 3 4 = true := zt_all_zn (by decide +kernel) zk_zmc_0aaa zk_zmc_0aab
set_option maxRecDepth 100000 in
theorem zk_zmc_0aba : zt_all (zP 0) 9 zmc_0aba 9 8 = true := by decide +kernel
set_option maxRecDepth 100000 in
theorem zk_zmc_0abb : zt_all (zP 0) 9 zmc_0abb 13 8 = true := by decide +kernel
set_option maxRecDepth 100000 in
theorem zk_zmc_0ab : zt_all (zP 0) 10 zmc_0ab 5 4 = true := zt_all_zn (by decide +kernel) zk_zmc_0aba zk_zmc_0abb
set_option maxRecDepth 100000 in
theorem zk_zmc_0a : zt_all (zP 0) 11 zmc_0a 1 2 = true := zt_all_zn (by decide +kernel) zk_zmc_0aa zk_zmc_0ab
set_option maxRecDepth 100000 in
theorem zk_zmc_0baa : zt_all (zP 0) 9 zmc_0baa 8 8 = true := by decide +kernel
set_option maxRecDepth 100000 in
theorem zk_zmc_0bab : zt_all (zP 0) 9 zmc_0bab 12 8 = true := by decide +kernel
set_option maxRecDepth 100000 in
theorem zk_zmc_0ba : zt_all (zP 0) 10 zmc_0ba 4 4 = true := zt_all_zn (by decide +kernel) zk_zmc_0baa zk_zmc_0bab
set_option maxRecDepth 100000 in
theorem zk_zmc_0bba : zt_all (zP 0) 9 zmc_0bba 10 8 = true := by decide +kernel
set_option maxRecDepth 100000 in
theorem zk_zmc_0bbb : zt_all (zP 0) 9 zmc_0bbb 14 8 = true := by decide +kernel
set_option maxRecDepth 100000 in
theorem zk_zmc_0bb : zt_all (zP 0) 10 zmc_0bb 6 4 = true := zt_all_zn (by decide +kernel) zk_zmc_0bba zk_zmc_0bbb
set_option maxRecDepth 100000 in
theorem zk_zmc_0b : zt_all (zP 0) 11 zmc_0b 2 2 = true := zt_all_zn (by decide +kernel) zk_zmc_0ba zk_zmc_0bb
set_option maxRecDepth 100000 in
theorem zk_zmc_0 : zt_all (zP 0) 12 zmc_0 0 1 = true := zt_all_zn (by decide +kernel) zk_zmc_0a zk_zmc_0b
theorem zk_1_0 : ((List.range 1).all fun i => zmok (0 + i)) = true := by
  have h : zmok 0 = true := zk_zmc_0
  exact List.all_eq_true.mpr fun i hi => by
    rw [show i = 0 by have := List.mem_range.mp hi; omega]
    exact h
set_option maxRecDepth 100000 in
theorem zk_zmc_68aaaaa : zt_all (zP 68) 7 zmc_68aaaaa 31 32 = true := by decide +kernel
set_option maxRecDepth 100000 in
theorem zk_zmc_68aaaab : zt_all (zP 68) 7 zmc_68aaaab 47 32 = true := by decide +kernel
set_option maxRecDepth 100000 in
theorem zk_zmc_68aaaa : zt_all (zP 68) 8 zmc_68aaaa 15 16 = true := zt_all_zn (by decide +kernel) zk_zmc_68aaaaa zk_zmc_68aaaab
set_option maxRecDepth 100000 in
theorem zk_zmc_68aaaba : zt_all (zP 68) 7 zmc_68aaaba 39 32 = true := by decide +kernel
set_option maxRecDepth 100000 in
theorem zk_zmc_68aaabb : zt_all (zP 68) 7 zmc_68aaabb 55 32 = true := by decide +kernel
set_option maxRecDepth 100000 in
theorem zk_zmc_68aaab : zt_all (zP 68) 8 zmc_68aaab 23 16 = true := zt_all_zn (by decide +kernel) zk_zmc_68aaaba zk_zmc_68aaabb
set_option maxRecDepth 100000 in
theorem zk_zmc_68aaa : zt_all (zP 68) 9 zmc_68aaa 7 8 = true := zt_all_zn (by decide +kernel) zk_zmc_68aaaa zk_zmc_68aaab
set_option maxRecDepth 100000 in
theorem zk_zmc_68aabaa : zt_all (zP 68) 7 zmc_68aabaa 35 32 = true := by decide +kernel
set_option maxRecDepth 100000 in
theorem zk_zmc_68aabab : zt_all (zP 68) 7 zmc_68aabab 51 32 = true := by decide +kernel
set_option maxRecDepth 100000 in
theorem zk_zmc_68aaba : zt_all (zP 68) 8 zmc_68aaba 19 16 = true := zt_all_zn (by decide +kernel) zk_zmc_68aabaa zk_zmc_68aabab
set_option maxRecDepth 100000 in
theorem zk_zmc_68aabba : zt_all (zP 68) 7 zmc_68aabba 43 32 = true := by decide +kernel
set_option maxRecDepth 100000 in
theorem zk_zmc_68aabbb : zt_all (zP 68) 7 zmc_68aabbb 59 32 = true := by decide +kernel
set_option maxRecDepth 100000 in
theorem zk_zmc_68aabb : zt_all (zP 68) 8 zmc_68aabb 27 16 = true := zt_all_zn (by decide +kernel) zk_zmc_68aabba zk_zmc_68aabbb
set_option maxRecDepth 100000 in
theorem zk_zmc_68aab : zt_all (zP 68) 9 zmc_68aab 11 8 = true := zt_all_zn (by decide +kernel) zk_zmc_68aaba zk_zmc_68aabb
set_option maxRecDepth 100000 in
theorem zk_zmc_68aa : zt_all (zP 68) 10 zmc_68aa 3 4 = true := zt_all_zn (by decide +kernel) zk_zmc_68aaa zk_zmc_68aab
set_option maxRecDepth 100000 in
theorem zk_zmc_68abaaa : zt_all (zP 68) 7 zmc_68abaaa 33 32 = true := by decide +kernel
set_option maxRecDepth 100000 in
theorem zk_zmc_68abaab : zt_all (zP 68) 7 zmc_68abaab 49 32 = true := by decide +kernel
set_option maxRecDepth 100000 in
theorem zk_zmc_68abaa : zt_all (zP 68) 8 zmc_68abaa 17 16 = true := zt_all_zn (by decide +kernel) zk_zmc_68abaaa zk_zmc_68abaab
set_option maxRecDepth 100000 in
theorem zk_zmc_68ababa : zt_all (zP 68) 7 zmc_68ababa 41 32 = true := by decide +kernel
set_option maxRecDepth 100000 in
theorem zk_zmc_68ababb : zt_all (zP 68) 7 zmc_68ababb 57 32 = true := by decide +kernel
set_option maxRecDepth 100000 in
theorem zk_zmc_68abab : zt_all (zP 68) 8 zmc_68abab 25 16 = true := zt_all_zn (by decide +kernel) zk_zmc_68ababa zk_zmc_68ababb
set_option maxRecDepth 100000 in
theorem zk_zmc_68aba : zt_all (zP 68) 9 zmc_68aba 9 8 = true := zt_all_zn (by decide +kernel) zk_zmc_68abaa zk_zmc_68abab
set_option maxRecDepth 100000 in
theorem zk_zmc_68abbaa : zt_all (zP 68) 7 zmc_68abbaa 37 32 = true := by decide +kernel
set_option maxRecDepth 100000 in
theorem zk_zmc_68abbab : zt_all (zP 68) 7 zmc_68abbab 53 32 = true := by decide +kernel
set_option maxRecDepth 100000 in
theorem zk_zmc_68abba : zt_all (zP 68) 8 zmc_68abba 21 16 = true := zt_all_zn (by decide +kernel) zk_zmc_68abbaa zk_zmc_68abbab
set_option maxRecDepth 100000 in
theorem zk_zmc_68abbba : zt_all (zP 68) 7 zmc_68abbba 45 32 = true := by decide +kernel
set_option maxRecDepth 100000 in
theorem zk_zmc_68abbbb : zt_all (zP 68) 7 zmc_68abbbb 61 32 = true := by decide +kernel
set_option maxRecDepth 100000 in
theorem zk_zmc_68abbb : zt_all (zP 68) 8 zmc_68abbb 29 16 = true := zt_all_zn (by decide +kernel) zk_zmc_68abbba zk_zmc_68abbbb
set_option maxRecDepth 100000 in
theorem zk_zmc_68abb : zt_all (zP 68) 9 zmc_68abb 13 8 = true := zt_all_zn (by decide +kernel) zk_zmc_68abba zk_zmc_68abbb
set_option maxRecDepth 100000 in
theorem zk_zmc_68ab : zt_all (zP 68) 10 zmc_68ab 5 4 = true := zt_all_zn (by decide +kernel) zk_zmc_68aba zk_zmc_68abb
set_option maxRecDepth 100000 in
theorem zk_zmc_68a : zt_all (zP 68) 11 zmc_68a 1 2 = true := zt_all_zn (by decide +kernel) zk_zmc_68aa zk_zmc_68ab
set_option maxRecDepth 100000 in
theorem zk_zmc_68baaaa : zt_all (zP 68) 7 zmc_68baaaa 32 32 = true := by decide +kernel
set_option maxRecDepth 100000 in
theorem zk_zmc_68baaab : zt_all (zP 68) 7 zmc_68baaab 48 32 = true := by decide +kernel
set_option maxRecDepth 100000 in
theorem zk_zmc_68baaa : zt_all (zP 68) 8 zmc_68baaa 16 16 = true := zt_all_zn (by decide +kernel) zk_zmc_68baaaa zk_zmc_68baaab
set_option maxRecDepth 100000 in
theorem zk_zmc_68baaba : zt_all (zP 68) 7 zmc_68baaba 40 32 = true := by decide +kernel
set_option maxRecDepth 100000 in
theorem zk_zmc_68baabb : zt_all (zP 68) 7 zmc_68baabb 56 32 = true := by decide +kernel
set_option maxRecDepth 100000 in
theorem zk_zmc_68baab : zt_all (zP 68) 8 zmc_68baab 24 16 = true := zt_all_zn (by decide +kernel) zk_zmc_68baaba zk_zmc_68baabb
set_option maxRecDepth 100000 in
theorem zk_zmc_68baa : zt_all (zP 68) 9 zmc_68baa 8 8 = true := zt_all_zn (by decide +kernel) zk_zmc_68baaa zk_zmc_68baab
set_option maxRecDepth 100000 in
theorem zk_zmc_68babaa : zt_all (zP 68) 7 zmc_68babaa 36 32 = true := by decide +kernel
set_option maxRecDepth 100000 in
theorem zk_zmc_68babab : zt_all (zP 68) 7 zmc_68babab 52 32 = true := by decide +kernel
set_option maxRecDepth 100000 in
theorem zk_zmc_68baba : zt_all (zP 68) 8 zmc_68baba 20 16 = true := zt_all_zn (by decide +kernel) zk_zmc_68babaa zk_zmc_68babab
set_option maxRecDepth 100000 in
theorem zk_zmc_68babba : zt_all (zP 68) 7 zmc_68babba 44 32 = true := by decide +kernel
set_option maxRecDepth 100000 in
theorem zk_zmc_68babbb : zt_all (zP 68) 7 zmc_68babbb 60 32 = true := by decide +kernel
set_option maxRecDepth 100000 in
theorem zk_zmc_68babb : zt_all (zP 68) 8 zmc_68babb 28 16 = true := zt_all_zn (by decide +kernel) zk_zmc_68babba zk_zmc_68babbb
set_option maxRecDepth 100000 in
theorem zk_zmc_68bab : zt_all (zP 68) 9 zmc_68bab 12 8 = true := zt_all_zn (by decide +kernel) zk_zmc_68baba zk_zmc_68babb
set_option maxRecDepth 100000 in
theorem zk_zmc_68ba : zt_all (zP 68) 10 zmc_68ba 4 4 = true := zt_all_zn (by decide +kernel) zk_zmc_68baa zk_zmc_68bab
set_option maxRecDepth 100000 in
theorem zk_zmc_68bbaaa : zt_all (zP 68) 7 zmc_68bbaaa 34 32 = true := by decide +kernel
set_option maxRecDepth 100000 in
theorem zk_zmc_68bbaab : zt_all (zP 68) 7 zmc_68bbaab 50 32 = true := by decide +kernel
set_option maxRecDepth 100000 in
theorem zk_zmc_68bbaa : zt_all (zP 68) 8 zmc_68bbaa 18 16 = true := zt_all_zn (by decide +kernel) zk_zmc_68bbaaa zk_zmc_68bbaab
set_option maxRecDepth 100000 in
theorem zk_zmc_68bbaba : zt_all (zP 68) 7 zmc_68bbaba 42 32 = true := by decide +kernel
set_option maxRecDepth 100000 in
theorem zk_zmc_68bbabb : zt_all (zP 68) 7 zmc_68bbabb 58 32 = true := by decide +kernel
set_option maxRecDepth 100000 in
theorem zk_zmc_68bbab : zt_all (zP 68) 8 zmc_68bbab 26 16 = true := zt_all_zn (by decide +kernel) zk_zmc_68bbaba zk_zmc_68bbabb
set_option maxRecDepth 100000 in
theorem zk_zmc_68bba : zt_all (zP 68) 9 zmc_68bba 10 8 = true := zt_all_zn (by decide +kernel) zk_zmc_68bbaa zk_zmc_68bbab
set_option maxRecDepth 100000 in
theorem zk_zmc_68bbbaa : zt_all (zP 68) 7 zmc_68bbbaa 38 32 = true := by decide +kernel
set_option maxRecDepth 100000 in
theorem zk_zmc_68bbbab : zt_all (zP 68) 7 zmc_68bbbab 54 32 = true := by decide +kernel
set_option maxRecDepth 100000 in
theorem zk_zmc_68bbba : zt_all (zP 68) 8 zmc_68bbba 22 16 = true := zt_all_zn (by decide +kernel) zk_zmc_68bbbaa zk_zmc_68bbbab
set_option maxRecDepth 100000 in
theorem zk_zmc_68bbbba : zt_all (zP 68) 7 zmc_68bbbba 46 32 = true := by decide +kernel
set_option maxRecDepth 100000 in
theorem zk_zmc_68bbbbb : zt_all (zP 68) 7 zmc_68bbbbb 62 32 = true := by decide +kernel
set_option maxRecDepth 100000 in
theorem zk_zmc_68bbbb : zt_all (zP 68) 8 zmc_68bbbb 30 16 = true := zt_all_zn (by decide +kernel) zk_zmc_68bbbba zk_zmc_68bbbbb
set_option maxRecDepth 100000 in
theorem zk_zmc_68bbb : zt_all (zP 68) 9 zmc_68bbb 14 8 = true := zt_all_zn (by decide +kernel) zk_zmc_68bbba zk_zmc_68bbbb
set_option maxRecDepth 100000 in
theorem zk_zmc_68bb : zt_all (zP 68) 10 zmc_68bb 6 4 = true := zt_all_zn (by decide +kernel) zk_zmc_68bba zk_zmc_68bbb
set_option maxRecDepth 100000 in
theorem zk_zmc_68b : zt_all (zP 68) 11 zmc_68b 2 2 = true := zt_all_zn (by decide +kernel) zk_zmc_68ba zk_zmc_68bb
set_option maxRecDepth 100000 in
theorem zk_zmc_68 : zt_all (zP 68) 12 zmc_68 0 1 = true := zt_all_zn (by decide +kernel) zk_zmc_68a zk_zmc_68b
theorem zk_1_68 : ((List.range 1).all fun i => zmok (68 + i)) = true := by
  have h : zmok 68 = true := zk_zmc_68
  exact List.all_eq_true.mpr fun i hi => by
    rw [show i = 0 by have := List.mem_range.mp hi; omega]
    exact h
