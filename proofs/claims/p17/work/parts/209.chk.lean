/-! Printed by wip/v2/gen9.py: the rows against the bytecode. -/
noncomputable def zP (mid : Nat) : Nat → ZE → Bool := fun pc en => zchk (zm_y mid).cls (zm_cc mid) (zm_nfo mid).1 (zini mid) (zm_ret mid) pc en
theorem zt_all_zn {α : Type} {P : Nat → α → Bool} {n : Nat} {v : Option α} {l r : ZT α n} {a b : Nat} (h0 : @Option.rec α (fun _ => Bool) true (P a) v = true) (h1 : zt_all P n l (a + b) (2 * b) = true) (h2 : zt_all P n r (a + 2 * b) (2 * b) = true) : zt_all P (n + 1) (zn v l r) a b = true := by
  show zif (@Option.rec α (fun _ => Bool) true (P a) v) (zif (zt_all P n l (a + b) (2 * b)) (zt_all P n r (a + 2 * b) (2 * b)) false) false = true
  rw [h0, h1, h2]
  rfl
set_option maxRecDepth 100000 in
theorem zk_zmc_0aaaa : zt_all (zP 0) 8 zmc_0aaaa 15 16 = true := by decide +kernel
set_option maxRecDepth 100000 in
theorem zk_zmc_0aaab : zt_all (zP 0) 8 zmc_0aaab 23 16 = true := by decide +kernel
set_option maxRecDepth 100000 in
theorem zk_zmc_0aaa : zt_all (zP 0) 9 zmc_0aaa 7 8 = true := zt_all_zn (by decide +kernel) zk_zmc_0aaaa zk_zmc_0aaab
set_option maxRecDepth 100000 in
theorem zk_zmc_0aaba : zt_all (zP 0) 8 zmc_0aaba 19 16 = true := by decide +kernel
set_option maxRecDepth 100000 in
theorem zk_zmc_0aabb : zt_all (zP 0) 8 zmc_0aabb 27 16 = true := by decide +kernel
set_option maxRecDepth 100000 in
theorem zk_zmc_0aab : zt_all (zP 0) 9 zmc_0aab 11 8 = true := zt_all_zn (by decide +kernel) zk_zmc_0aaba zk_zmc_0aabb
set_option maxRecDepth 100000 in
theorem zk_zmc_0aa : zt_all (zP 0) 10 zmc_0aa 3 4 = true := zt_all_zn (by decide +kernel) zk_zmc_0aaa zk_zmc_0aab
set_option maxRecDepth 100000 in
theorem zk_zmc_0abaa : zt_all (zP 0) 8 zmc_0abaa 17 16 = true := by decide +kernel
set_option maxRecDepth 100000 in
theorem zk_zmc_0abab : zt_all (zP 0) 8 zmc_0abab 25 16 = true := by decide +kernel
set_option maxRecDepth 100000 in
theorem zk_zmc_0aba : zt_all (zP 0) 9 zmc_0aba 9 8 = true := zt_all_zn (by decide +kernel) zk_zmc_0abaa zk_zmc_0abab
set_option maxRecDepth 100000 in
theorem zk_zmc_0abba : zt_all (zP 0) 8 zmc_0abba 21 16 = true := by decide +kernel
set_option maxRecDepth 100000 in
theorem zk_zmc_0abbb : zt_all (zP 0) 8 zmc_0abbb 29 16 = true := by decide +kernel
set_option maxRecDepth 100000 in
theorem zk_zmc_0abb : zt_all (zP 0) 9 zmc_0abb 13 8 = true := zt_all_zn (by decide +kernel) zk_zmc_0abba zk_zmc_0abbb
set_option maxRecDepth 100000 in
theorem zk_zmc_0ab : zt_all (zP 0) 10 zmc_0ab 5 4 = true := zt_all_zn (by decide +kernel) zk_zmc_0aba zk_zmc_0abb
set_option maxRecDepth 100000 in
theorem zk_zmc_0a : zt_all (zP 0) 11 zmc_0a 1 2 = true := zt_all_zn (by decide +kernel) zk_zmc_0aa zk_zmc_0ab
set_option maxRecDepth 100000 in
theorem zk_zmc_0baaa : zt_all (zP 0) 8 zmc_0baaa 16 16 = true := by decide +kernel
set_option maxRecDepth 100000 in
theorem zk_zmc_0baab : zt_all (zP 0) 8 zmc_0baab 24 16 = true := by decide +kernel
set_option maxRecDepth 100000 in
theorem zk_zmc_0baa : zt_all (zP 0) 9 zmc_0baa 8 8 = true := zt_all_zn (by decide +kernel) zk_zmc_0baaa zk_zmc_0baab
set_option maxRecDepth 100000 in
theorem zk_zmc_0baba : zt_all (zP 0) 8 zmc_0baba 20 16 = true := by decide +kernel
set_option maxRecDepth 100000 in
theorem zk_zmc_0babb : zt_all (zP 0) 8 zmc_0babb 28 16 = true := by decide +kernel
set_option maxRecDepth 100000 in
theorem zk_zmc_0bab : zt_all (zP 0) 9 zmc_0bab 12 8 = true := zt_all_zn (by decide +kernel) zk_zmc_0baba zk_zmc_0babb
set_option maxRecDepth 100000 in
theorem zk_zmc_0ba : zt_all (zP 0) 10 zmc_0ba 4 4 = true := zt_all_zn (by decide +kernel) zk_zmc_0baa zk_zmc_0bab
set_option maxRecDepth 100000 in
theorem zk_zmc_0bbaa : zt_all (zP 0) 8 zmc_0bbaa 18 16 = true := by decide +kernel
set_option maxRecDepth 100000 in
theorem zk_zmc_0bbab : zt_all (zP 0) 8 zmc_0bbab 26 16 = true := by decide +kernel
set_option maxRecDepth 100000 in
theorem zk_zmc_0bba : zt_all (zP 0) 9 zmc_0bba 10 8 = true := zt_all_zn (by decide +kernel) zk_zmc_0bbaa zk_zmc_0bbab
set_option maxRecDepth 100000 in
theorem zk_zmc_0bbba : zt_all (zP 0) 8 zmc_0bbba 22 16 = true := by decide +kernel
set_option maxRecDepth 100000 in
theorem zk_zmc_0bbbb : zt_all (zP 0) 8 zmc_0bbbb 30 16 = true := by decide +kernel
set_option maxRecDepth 100000 in
theorem zk_zmc_0bbb : zt_all (zP 0) 9 zmc_0bbb 14 8 = true := zt_all_zn (by decide +kernel) zk_zmc_0bbba zk_zmc_0bbbb
set_option maxRecDepth 100000 in
theorem zk_zmc_0bb : zt_all (zP 0) 10 zmc_0bb 6 4 = true := zt_all_zn (by decide +kernel) zk_zmc_0bba zk_zmc_0bbb
set_option maxRecDepth 100000 in
theorem zk_zmc_0b : zt_all (zP 0) 11 zmc_0b 2 2 = true := zt_all_zn (by decide +kernel) zk_zmc_0ba zk_zmc_0bb
set_option maxRecDepth 100000 in
theorem zk_zmc_0 : zt_all (zP 0) 12 zmc_0 0 1 = true := zt_all_zn (by decide +kernel) zk_zmc_0a zk_zmc_0b
theorem zk_m0 : zmok 0 = true := zk_zmc_0
set_option maxRecDepth 100000 in
theorem zk_2_0 : ((List.range 1).all fun i => zmok2 (0 + i)) = true := by decide +kernel
