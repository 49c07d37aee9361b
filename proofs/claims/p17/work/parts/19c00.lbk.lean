/-! Printed by wip/v2/gen8.py: blocks of the law. -/
def zrg_yI0m : List (Nat × Nat × Nat) := [(17, 9223372036854775809, 9223372036854775824), (18, 9223372036854775808, 9223372036854775824), (100, 9223372036854775808, 9223372039002259455), (101, 9223372034707292160, 9223372039002259455), (102, 0, 18446744073709551615), (103, 0, 18446744073709551615)]
def zcm_yI0m : List (ZV × ZV × Nat) := [((5, 20340965113856), (5, 19241453486080), 0), ((5, 20340965113857), (5, 110500918591488), 0), ((5, 111600430219264), (0, 2147483648), 1)]
def zop_yI0m : List (Nat × ZV × ZV × ZV) := [(91, (0, 0), (0, 0), (5, 110500918591488)), (90, (5, 20340965113857), (0, 0), (5, 111600430219264)), (10, (5, 20340965113857), (0, 1000), (5, 20340965113857))]
def zky_yI0m : List ZKy := [(262, 0, (5, 20340965113856), (5, 112699941847040), (0, 0)), (258, 0, (5, 20340965113857), (5, 113799453474816), (0, 0))]
def zw_yI0m : List (Nat × ZV × ZV) := [(262, (5, 20340965113856), (0, 0)), (258, (5, 20340965113857), (0, 0))]
def zfi_yI0m : List ZV := [(5, 20340965113857)]
def zff_yI0m : List ZV := [(5, 20340965113858)]
noncomputable def zla_yI0m : ZL := [some (4, 0), some (3, 0), some (5, 19241453486080), some (3, 264), some (5, 20340965113856), none, none]
noncomputable def zlb_yI0m : ZL := [some (4, 0), some (3, 0), some (5, 19241453486080), some (3, 264), some (5, 20340965113857), none, none]
theorem zbk_yI0m : zlbB 0 0 (zmkN zrg_yI0m zcm_yI0m zop_yI0m zky_yI0m) 133 zla_yI0m zlb_yI0m zfi_yI0m zff_yI0m zky_yI0m = true := by decide +kernel
theorem zbl_yI0m : zblkL (zlC 0) (zlH 0) zfi_yI0m zfi_yI0m zky_yI0m = true := by decide +kernel
theorem zbm_yI0m : zblkL (zlC 0) (zlH 0) zff_yI0m zff_yI0m zky_yI0m = true := by decide +kernel
theorem zbs_yI0m : zstB (zlC 0) (zlH 0) zrg_yI0m zcm_yI0m [] zky_yI0m [] = true := by decide +kernel
theorem zbf_yI0m : zw_yI0m.all (fun q => zfitB zrg_yI0m q.2.2) = true := by decide +kernel
theorem zbw_yI0m : zwkf zky_yI0m = zw_yI0m := by decide +kernel
theorem zq_yI0m_0 (f : Nat → Int) (g : Nat → Int → Int) (r_18 : 0 ≤ f 18 ∧ f 18 ≤ 16) : ∀ x : Int, (x < (f 18 + 1) ∨ (f 18 + 1) < x) → ((f 18 + 1) : Int) ≠ x := by omega
theorem zq_yI0m_1 (f : Nat → Int) (g : Nat → Int → Int) (r_18 : 0 ≤ f 18 ∧ f 18 ≤ 16) : ∀ x : Int, (x < (f 18) ∨ (f 18) < x) → ((f 18) : Int) ≠ x := by omega
theorem zq_yI0m_2 (f : Nat → Int) (g : Nat → Int → Int) (r_18 : 0 ≤ f 18 ∧ f 18 ≤ 16) : (0 : Int) ≤ (f 18 + 1) ∧ (0 : Int) < 1000 ∧ (f 18 + 1) = ((f 18 + 1) : Int) % 1000 := by omega
theorem zW_yI0m (hA : zAll) (X : ZX) {Ls : Nat} {xs : Nat → Int32} (f : Nat → Int) (g : Nat → Int → Int) (hbd : zBd g) (x_len : Int) (x_x : Int)
    (r_17 : 1 ≤ f 17 ∧ f 17 ≤ 16) (r_18 : 0 ≤ f 18 ∧ f 18 ≤ 16) (r_len : 0 ≤ x_len ∧ x_len ≤ 2147483647) (r_x : (-2147483648) ≤ x_x ∧ x_x ≤ 2147483647) (q_7 : f 7 = (f 18 + 1)) (c_0 : (f 18) < (f 17)) (c_1 : (f 18 + 1) < x_len) (c_2 : x_x = (-2147483648)) (o_0 : x_len = (nI Ls).toInt) (o_1 : ∃ j : Nat, j < Ls ∧ Ls ≤ 2147483647 ∧ (f 18 + 1) = j ∧ x_x = (xs j).toInt)
    : ∃ (f' : Nat → Int) (g' : Nat → Int → Int), (f' 7 = (f 18 + 2)) ∧ (f' 17 = (f 17)) ∧ (f' 18 = (f 18 + 1)) ∧ (∀ x, (x < (f 18 + 1) ∨ (f 18 + 1) < x) → g' 258 x = g 258 x) ∧ (g' 258 (f 18 + 1) = 0) ∧ (∀ x, (x < (f 18) ∨ (f 18) < x) → g' 262 x = g 262 x) ∧ (g' 262 (f 18) = 0) ∧ zBd g' ∧ zToL Ls xs 0 f g 0 f' g' := by
  have hrg : zRgs zrg_yI0m [(17, f 17), (18, f 18), (100, x_len), (101, x_x), (102, (g 262 (f 18))), (103, (g 258 (f 18 + 1)))] := zRqe 17 9223372036854775809 9223372036854775824 (f 17) (1) (16) r_17 (by decide) (by decide) (zRqe 18 9223372036854775808 9223372036854775824 (f 18) (0) (16) r_18 (by decide) (by decide) (zRqe 100 9223372036854775808 9223372039002259455 (x_len) (0) (2147483647) r_len (by decide) (by decide) (zRqe 101 9223372034707292160 9223372039002259455 (x_x) ((-2147483648)) (2147483647) r_x (by decide) (by decide) (zRqh 102 ((g 262 (f 18))) (hbd 262 (f 18)) (zRqh 103 ((g 258 (f 18 + 1))) (hbd 258 (f 18 + 1)) (True.intro))))))
  obtain ⟨σ, hσ⟩ : ∃ σ, σ = zas [(17, f 17), (18, f 18), (100, x_len), (101, x_x), (102, (g 262 (f 18))), (103, (g 258 (f 18 + 1)))] := ⟨_, rfl⟩
  have b_17 : Unit → σ 17 = f 17 := fun _ => by rw [hσ]; rfl
  have b_18 : Unit → σ 18 = f 18 := fun _ => by rw [hσ]; rfl
  have b_100 : Unit → σ 100 = x_len := fun _ => by rw [hσ]; rfl
  have b_101 : Unit → σ 101 = x_x := fun _ => by rw [hσ]; rfl
  have b_102 : Unit → σ 102 = (g 262 (f 18)) := fun _ => by rw [hσ]; rfl
  have b_103 : Unit → σ 103 = (g 258 (f 18 + 1)) := fun _ => by rw [hσ]; rfl
  have e_0 : Unit → zvn σ (5, 20340965113857) = (f 18 + 1) := fun _ => zvE5p 20340965113857 18 1 rfl (by decide) (b_18 ())
  have e_1 : Unit → zvn σ (0, 0) = 0 := fun _ => zvk0 (by decide)
  have e_2 : Unit → zvn σ (5, 20340965113856) = (f 18) := fun _ => zvE50 20340965113856 18 rfl (b_18 ())
  have e_3 : Unit → zvn σ (5, 112699941847040) = (g 262 (f 18)) := fun _ => zvE50 112699941847040 102 rfl (b_102 ())
  have e_4 : Unit → zvn σ (5, 113799453474816) = (g 258 (f 18 + 1)) := fun _ => zvE50 113799453474816 103 rfl (b_103 ())
  have e_5 : Unit → zvn σ (5, 19241453486080) = (f 17) := fun _ => zvE50 19241453486080 17 rfl (b_17 ())
  have e_6 : Unit → zvn σ (5, 110500918591488) = x_len := fun _ => zvE50 110500918591488 100 rfl (b_100 ())
  have e_7 : Unit → zvn σ (5, 111600430219264) = x_x := fun _ => zvE50 111600430219264 101 rfl (b_101 ())
  have e_8 : Unit → zvn σ (0, 2147483648) = (-2147483648) := fun _ => zvk0 (by decide)
  have e_9 : Unit → zvn σ (0, 1000) = 1000 := fun _ => zvk0 (by decide)
  have e_10 : Unit → zvn σ (5, 20340965113858) = (f 18 + 2) := fun _ => zvE5p 20340965113858 18 2 rfl (by decide) (b_18 ())
  exact ⟨zas [(7, (f 18 + 2)), (17, (f 17)), (18, (f 18 + 1))], fun a j => zupd σ zw_yI0m a j (g a j), rfl, rfl, rfl, (fun x h0 => zuq rfl (zum (zne5 (e_0 ()) (zq_yI0m_0 f g r_18 x h0)) (zu0))), (zuq rfl (zuh (e_0 ()) (e_1 ()))), (fun x h0 => zum (zne5 (e_2 ()) (zq_yI0m_1 f g r_18 x h0)) (zuq rfl (zu0))), (zuh (e_2 ()) (e_1 ())), zbd_of X hσ hrg zbf_yI0m hbd, fun A H go => zlawA hA H zbk_yI0m zbl_yI0m zbm_yI0m zbs_yI0m zbf_yI0m zbw_yI0m _ σ hσ f (zas [(7, (f 18 + 2)), (17, (f 17)), (18, (f 18 + 1))]) g hbd hrg (zFc (7, 63, 20) (5, 20340965113857) (q_7.trans (e_0 ()).symm) (True.intro)) (zFc (7, 63, 20) (5, 20340965113858) ((e_10 ()).symm) (True.intro)) (zLrc (Or.inl ⟨rfl, rfl⟩) (zLrc (Or.inl ⟨rfl, rfl⟩) (zLrc (Or.inr (Or.inl ⟨_, rfl, rfl, rfl, (zb0v f 17).trans ((e_5 ()).symm)⟩)) (zLrc (Or.inl ⟨rfl, rfl⟩) (zLrc (Or.inr (Or.inl ⟨_, rfl, rfl, rfl, (zb0v f 18).trans ((e_2 ()).symm)⟩)) (zLrc (True.intro) (zLrc (True.intro) (zLrn)))))))) (zLrc (Or.inl ⟨rfl, rfl⟩) (zLrc (Or.inl ⟨rfl, rfl⟩) (zLrc (Or.inr (Or.inl ⟨_, rfl, rfl, rfl, zb0w (zas [(7, (f 18 + 2)), (17, (f 17)), (18, (f 18 + 1))]) 17 (e_5 ()) rfl⟩)) (zLrc (Or.inl ⟨rfl, rfl⟩) (zLrc (Or.inr (Or.inl ⟨_, rfl, rfl, rfl, zb0w (zas [(7, (f 18 + 2)), (17, (f 17)), (18, (f 18 + 1))]) 18 (e_0 ()) rfl⟩)) (zLrc (True.intro) (zLrc (True.intro) (zLrn)))))))) (zEc ((5, 20340965113856), (5, 19241453486080), 0) (zcmE (e_2 ()) (e_5 ()) c_0) (zEc ((5, 20340965113857), (5, 110500918591488), 0) (zcmE (e_0 ()) (e_6 ()) c_1) (zEc ((5, 111600430219264), (0, 2147483648), 1) (zcmE (e_7 ()) (e_8 ()) c_2) (True.intro)))) (zEc (91, (0, 0), (0, 0), (5, 110500918591488)) (zopR91 rfl (e_6 ()) o_0) (zEc (90, (5, 20340965113857), (0, 0), (5, 111600430219264)) (zopR90 rfl rfl (e_0 ()) (e_7 ()) o_1) (zEc (10, (5, 20340965113857), (0, 1000), (5, 20340965113857)) (Or.inl ⟨by decide +kernel, zopE (e_0 ()) (e_9 ()) (e_0 ()) (zq_yI0m_2 f g r_18)⟩) (True.intro)))) (zEc (262, 0, (5, 20340965113856), (5, 112699941847040), (0, 0)) ((congrArg (g 262) (e_2 ())).trans (e_3 ()).symm) (zEc (258, 0, (5, 20340965113857), (5, 113799453474816), (0, 0)) ((congrArg (g 258) (e_0 ())).trans (e_4 ()).symm) (True.intro))) (fun _ => go)⟩
def zrg_yI0e : List (Nat × Nat × Nat) := [(17, 9223372036854775809, 9223372036854775824), (18, 9223372036854775808, 9223372036854775824), (100, 9223372036854775808, 9223372039002259455), (101, 9223372034707292160, 9223372039002259455), (102, 9223372036854775808, 9223372036854775809), (103, 0, 18446744073709551615), (104, 0, 18446744073709551615)]
def zcm_yI0e : List (ZV × ZV × Nat) := [((5, 20340965113856), (5, 19241453486080), 0), ((5, 20340965113857), (5, 110500918591488), 0), ((5, 111600430219264), (0, 2147483648), 5), ((5, 112699941847040), (0, 0), 1), ((5, 111600430219264), (0, 2147483649), 4)]
def zop_yI0e : List (Nat × ZV × ZV × ZV) := [(91, (0, 0), (0, 0), (5, 110500918591488)), (90, (5, 20340965113857), (0, 0), (5, 111600430219264)), (3, (5, 111600430219264), (0, 1), (5, 112699941847040)), (10, (5, 20340965113857), (0, 1000), (5, 20340965113857))]
def zky_yI0e : List ZKy := [(262, 0, (5, 20340965113856), (5, 113799453474816), (5, 111600430219264)), (258, 0, (5, 20340965113857), (5, 114898965102592), (5, 111600430219264))]
def zw_yI0e : List (Nat × ZV × ZV) := [(262, (5, 20340965113856), (5, 111600430219264)), (258, (5, 20340965113857), (5, 111600430219264))]
def zfi_yI0e : List ZV := [(5, 20340965113857)]
def zff_yI0e : List ZV := [(5, 20340965113858)]
noncomputable def zla_yI0e : ZL := [some (4, 0), some (3, 0), some (5, 19241453486080), some (3, 264), some (5, 20340965113856), none, none]
noncomputable def zlb_yI0e : ZL := [some (4, 0), some (3, 0), some (5, 19241453486080), some (3, 264), some (5, 20340965113857), none, none]
theorem zbk_yI0e : zlbB 0 0 (zmkN zrg_yI0e zcm_yI0e zop_yI0e zky_yI0e) 137 zla_yI0e zlb_yI0e zfi_yI0e zff_yI0e zky_yI0e = true := by decide +kernel
theorem zbl_yI0e : zblkL (zlC 0) (zlH 0) zfi_yI0e zfi_yI0e zky_yI0e = true := by decide +kernel
theorem zbm_yI0e : zblkL (zlC 0) (zlH 0) zff_yI0e zff_yI0e zky_yI0e = true := by decide +kernel
theorem zbs_yI0e : zstB (zlC 0) (zlH 0) zrg_yI0e zcm_yI0e [] zky_yI0e [] = true := by decide +kernel
theorem zbf_yI0e : zw_yI0e.all (fun q => zfitB zrg_yI0e q.2.2) = true := by decide +kernel
theorem zbw_yI0e : zwkf zky_yI0e = zw_yI0e := by decide +kernel
theorem zq_yI0e_0 (f : Nat → Int) (g : Nat → Int → Int) (r_18 : 0 ≤ f 18 ∧ f 18 ≤ 16) : ∀ x : Int, (x < (f 18 + 1) ∨ (f 18 + 1) < x) → ((f 18 + 1) : Int) ≠ x := by omega
theorem zq_yI0e_1 (f : Nat → Int) (g : Nat → Int → Int) (r_18 : 0 ≤ f 18 ∧ f 18 ≤ 16) : ∀ x : Int, (x < (f 18) ∨ (f 18) < x) → ((f 18) : Int) ≠ x := by omega
theorem zq_yI0e_2 (f : Nat → Int) (g : Nat → Int → Int) (r_18 : 0 ≤ f 18 ∧ f 18 ≤ 16) : (0 : Int) ≤ (f 18 + 1) ∧ (0 : Int) < 1000 ∧ (f 18 + 1) = ((f 18 + 1) : Int) % 1000 := by omega
theorem zW_yI0e (hA : zAll) (X : ZX) {Ls : Nat} {xs : Nat → Int32} (f : Nat → Int) (g : Nat → Int → Int) (hbd : zBd g) (x_len : Int) (x_x : Int) (x_lo : Int)
    (r_17 : 1 ≤ f 17 ∧ f 17 ≤ 16) (r_18 : 0 ≤ f 18 ∧ f 18 ≤ 16) (r_len : 0 ≤ x_len ∧ x_len ≤ 2147483647) (r_x : (-2147483648) ≤ x_x ∧ x_x ≤ 2147483647) (r_lo : 0 ≤ x_lo ∧ x_lo ≤ 1) (q_7 : f 7 = (f 18 + 1)) (c_0 : (f 18) < (f 17)) (c_1 : (f 18 + 1) < x_len) (c_2 : x_x ≠ (-2147483648)) (c_3 : x_lo = 0) (c_4 : (-2147483647) ≤ x_x) (o_0 : x_len = (nI Ls).toInt) (o_1 : ∃ j : Nat, j < Ls ∧ Ls ≤ 2147483647 ∧ (f 18 + 1) = j ∧ x_x = (xs j).toInt) (o_2 : x_lo = (Int32.ofInt x_x &&& Int32.ofInt 1).toInt)
    : ∃ (f' : Nat → Int) (g' : Nat → Int → Int), (f' 7 = (f 18 + 2)) ∧ (f' 17 = (f 17)) ∧ (f' 18 = (f 18 + 1)) ∧ (∀ x, (x < (f 18 + 1) ∨ (f 18 + 1) < x) → g' 258 x = g 258 x) ∧ (g' 258 (f 18 + 1) = x_x) ∧ (∀ x, (x < (f 18) ∨ (f 18) < x) → g' 262 x = g 262 x) ∧ (g' 262 (f 18) = x_x) ∧ zBd g' ∧ zToL Ls xs 0 f g 0 f' g' := by
  have hrg : zRgs zrg_yI0e [(17, f 17), (18, f 18), (100, x_len), (101, x_x), (102, x_lo), (103, (g 262 (f 18))), (104, (g 258 (f 18 + 1)))] := zRqe 17 9223372036854775809 9223372036854775824 (f 17) (1) (16) r_17 (by decide) (by decide) (zRqe 18 9223372036854775808 9223372036854775824 (f 18) (0) (16) r_18 (by decide) (by decide) (zRqe 100 9223372036854775808 9223372039002259455 (x_len) (0) (2147483647) r_len (by decide) (by decide) (zRqe 101 9223372034707292160 9223372039002259455 (x_x) ((-2147483648)) (2147483647) r_x (by decide) (by decide) (zRqe 102 9223372036854775808 9223372036854775809 (x_lo) (0) (1) r_lo (by decide) (by decide) (zRqh 103 ((g 262 (f 18))) (hbd 262 (f 18)) (zRqh 104 ((g 258 (f 18 + 1))) (hbd 258 (f 18 + 1)) (True.intro)))))))
  obtain ⟨σ, hσ⟩ : ∃ σ, σ = zas [(17, f 17), (18, f 18), (100, x_len), (101, x_x), (102, x_lo), (103, (g 262 (f 18))), (104, (g 258 (f 18 + 1)))] := ⟨_, rfl⟩
  have b_17 : Unit → σ 17 = f 17 := fun _ => by rw [hσ]; rfl
  have b_18 : Unit → σ 18 = f 18 := fun _ => by rw [hσ]; rfl
  have b_100 : Unit → σ 100 = x_len := fun _ => by rw [hσ]; rfl
  have b_101 : Unit → σ 101 = x_x := fun _ => by rw [hσ]; rfl
  have b_102 : Unit → σ 102 = x_lo := fun _ => by rw [hσ]; rfl
  have b_103 : Unit → σ 103 = (g 262 (f 18)) := fun _ => by rw [hσ]; rfl
  have b_104 : Unit → σ 104 = (g 258 (f 18 + 1)) := fun _ => by rw [hσ]; rfl
  have e_0 : Unit → zvn σ (5, 20340965113857) = (f 18 + 1) := fun _ => zvE5p 20340965113857 18 1 rfl (by decide) (b_18 ())
  have e_1 : Unit → zvn σ (5, 111600430219264) = x_x := fun _ => zvE50 111600430219264 101 rfl (b_101 ())
  have e_2 : Unit → zvn σ (5, 20340965113856) = (f 18) := fun _ => zvE50 20340965113856 18 rfl (b_18 ())
  have e_3 : Unit → zvn σ (5, 113799453474816) = (g 262 (f 18)) := fun _ => zvE50 113799453474816 103 rfl (b_103 ())
  have e_4 : Unit → zvn σ (5, 114898965102592) = (g 258 (f 18 + 1)) := fun _ => zvE50 114898965102592 104 rfl (b_104 ())
  have e_5 : Unit → zvn σ (5, 19241453486080) = (f 17) := fun _ => zvE50 19241453486080 17 rfl (b_17 ())
  have e_6 : Unit → zvn σ (5, 110500918591488) = x_len := fun _ => zvE50 110500918591488 100 rfl (b_100 ())
  have e_7 : Unit → zvn σ (0, 2147483648) = (-2147483648) := fun _ => zvk0 (by decide)
  have e_8 : Unit → zvn σ (5, 112699941847040) = x_lo := fun _ => zvE50 112699941847040 102 rfl (b_102 ())
  have e_9 : Unit → zvn σ (0, 0) = 0 := fun _ => zvk0 (by decide)
  have e_10 : Unit → zvn σ (0, 2147483649) = (-2147483647) := fun _ => zvk0 (by decide)
  have e_11 : Unit → zvn σ (0, 1) = 1 := fun _ => zvk0 (by decide)
  have e_12 : Unit → zvn σ (0, 1000) = 1000 := fun _ => zvk0 (by decide)
  have e_13 : Unit → zvn σ (5, 20340965113858) = (f 18 + 2) := fun _ => zvE5p 20340965113858 18 2 rfl (by decide) (b_18 ())
  exact ⟨zas [(7, (f 18 + 2)), (17, (f 17)), (18, (f 18 + 1))], fun a j => zupd σ zw_yI0e a j (g a j), rfl, rfl, rfl, (fun x h0 => zuq rfl (zum (zne5 (e_0 ()) (zq_yI0e_0 f g r_18 x h0)) (zu0))), (zuq rfl (zuh (e_0 ()) (e_1 ()))), (fun x h0 => zum (zne5 (e_2 ()) (zq_yI0e_1 f g r_18 x h0)) (zuq rfl (zu0))), (zuh (e_2 ()) (e_1 ())), zbd_of X hσ hrg zbf_yI0e hbd, fun A H go => zlawA hA H zbk_yI0e zbl_yI0e zbm_yI0e zbs_yI0e zbf_yI0e zbw_yI0e _ σ hσ f (zas [(7, (f 18 + 2)), (17, (f 17)), (18, (f 18 + 1))]) g hbd hrg (zFc (7, 63, 20) (5, 20340965113857) (q_7.trans (e_0 ()).symm) (True.intro)) (zFc (7, 63, 20) (5, 20340965113858) ((e_13 ()).symm) (True.intro)) (zLrc (Or.inl ⟨rfl, rfl⟩) (zLrc (Or.inl ⟨rfl, rfl⟩) (zLrc (Or.inr (Or.inl ⟨_, rfl, rfl, rfl, (zb0v f 17).trans ((e_5 ()).symm)⟩)) (zLrc (Or.inl ⟨rfl, rfl⟩) (zLrc (Or.inr (Or.inl ⟨_, rfl, rfl, rfl, (zb0v f 18).trans ((e_2 ()).symm)⟩)) (zLrc (True.intro) (zLrc (True.intro) (zLrn)))))))) (zLrc (Or.inl ⟨rfl, rfl⟩) (zLrc (Or.inl ⟨rfl, rfl⟩) (zLrc (Or.inr (Or.inl ⟨_, rfl, rfl, rfl, zb0w (zas [(7, (f 18 + 2)), (17, (f 17)), (18, (f 18 + 1))]) 17 (e_5 ()) rfl⟩)) (zLrc (Or.inl ⟨rfl, rfl⟩) (zLrc (Or.inr (Or.inl ⟨_, rfl, rfl, rfl, zb0w (zas [(7, (f 18 + 2)), (17, (f 17)), (18, (f 18 + 1))]) 18 (e_0 ()) rfl⟩)) (zLrc (True.intro) (zLrc (True.intro) (zLrn)))))))) (zEc ((5, 20340965113856), (5, 19241453486080), 0) (zcmE (e_2 ()) (e_5 ()) c_0) (zEc ((5, 20340965113857), (5, 110500918591488), 0) (zcmE (e_0 ()) (e_6 ()) c_1) (zEc ((5, 111600430219264), (0, 2147483648), 5) (zcmE (e_1 ()) (e_7 ()) c_2) (zEc ((5, 112699941847040), (0, 0), 1) (zcmE (e_8 ()) (e_9 ()) c_3) (zEc ((5, 111600430219264), (0, 2147483649), 4) (zcmE (e_1 ()) (e_10 ()) c_4) (True.intro)))))) (zEc (91, (0, 0), (0, 0), (5, 110500918591488)) (zopR91 rfl (e_6 ()) o_0) (zEc (90, (5, 20340965113857), (0, 0), (5, 111600430219264)) (zopR90 rfl rfl (e_0 ()) (e_1 ()) o_1) (zEc (3, (5, 111600430219264), (0, 1), (5, 112699941847040)) (zopR3 rfl rfl rfl (e_1 ()) (e_11 ()) (e_8 ()) o_2) (zEc (10, (5, 20340965113857), (0, 1000), (5, 20340965113857)) (Or.inl ⟨by decide +kernel, zopE (e_0 ()) (e_12 ()) (e_0 ()) (zq_yI0e_2 f g r_18)⟩) (True.intro))))) (zEc (262, 0, (5, 20340965113856), (5, 113799453474816), (5, 111600430219264)) ((congrArg (g 262) (e_2 ())).trans (e_3 ()).symm) (zEc (258, 0, (5, 20340965113857), (5, 114898965102592), (5, 111600430219264)) ((congrArg (g 258) (e_0 ())).trans (e_4 ()).symm) (True.intro))) (fun _ => go)⟩
def zrg_yI0v : List (Nat × Nat × Nat) := [(17, 9223372036854775809, 9223372036854775824), (18, 9223372036854775808, 9223372036854775824), (100, 9223372036854775808, 9223372039002259455), (101, 9223372034707292160, 9223372039002259455), (102, 9223372036854775808, 9223372036854775809), (103, 9223372036854775680, 9223372036854775935), (104, 0, 18446744073709551615), (105, 0, 18446744073709551615)]
def zcm_yI0v : List (ZV × ZV × Nat) := [((5, 20340965113856), (5, 19241453486080), 0), ((5, 20340965113857), (5, 110500918591488), 0), ((5, 111600430219264), (0, 2147483648), 5), ((5, 112699941847040), (0, 0), 5)]
def zop_yI0v : List (Nat × ZV × ZV × ZV) := [(91, (0, 0), (0, 0), (5, 110500918591488)), (90, (5, 20340965113857), (0, 0), (5, 111600430219264)), (3, (5, 111600430219264), (0, 1), (5, 112699941847040)), (7, (5, 111600430219264), (0, 24), (5, 113799453474816)), (10, (5, 20340965113857), (0, 1000), (5, 20340965113857))]
def zky_yI0v : List ZKy := [(262, 0, (5, 20340965113856), (5, 114898965102592), (5, 113799453474816)), (258, 0, (5, 20340965113857), (5, 115998476730368), (5, 113799453474816))]
def zw_yI0v : List (Nat × ZV × ZV) := [(262, (5, 20340965113856), (5, 113799453474816)), (258, (5, 20340965113857), (5, 113799453474816))]
def zfi_yI0v : List ZV := [(5, 20340965113857)]
def zff_yI0v : List ZV := [(5, 20340965113858)]
noncomputable def zla_yI0v : ZL := [some (4, 0), some (3, 0), some (5, 19241453486080), some (3, 264), some (5, 20340965113856), none, none]
noncomputable def zlb_yI0v : ZL := [some (4, 0), some (3, 0), some (5, 19241453486080), some (3, 264), some (5, 20340965113857), none, none]
theorem zbk_yI0v : zlbB 0 0 (zmkN zrg_yI0v zcm_yI0v zop_yI0v zky_yI0v) 138 zla_yI0v zlb_yI0v zfi_yI0v zff_yI0v zky_yI0v = true := by decide +kernel
theorem zbl_yI0v : zblkL (zlC 0) (zlH 0) zfi_yI0v zfi_yI0v zky_yI0v = true := by decide +kernel
theorem zbm_yI0v : zblkL (zlC 0) (zlH 0) zff_yI0v zff_yI0v zky_yI0v = true := by decide +kernel
theorem zbs_yI0v : zstB (zlC 0) (zlH 0) zrg_yI0v zcm_yI0v [] zky_yI0v [] = true := by decide +kernel
theorem zbf_yI0v : zw_yI0v.all (fun q => zfitB zrg_yI0v q.2.2) = true := by decide +kernel
theorem zbw_yI0v : zwkf zky_yI0v = zw_yI0v := by decide +kernel
theorem zq_yI0v_0 (f : Nat → Int) (g : Nat → Int → Int) (r_18 : 0 ≤ f 18 ∧ f 18 ≤ 16) : ∀ x : Int, (x < (f 18 + 1) ∨ (f 18 + 1) < x) → ((f 18 + 1) : Int) ≠ x := by omega
theorem zq_yI0v_1 (f : Nat → Int) (g : Nat → Int → Int) (r_18 : 0 ≤ f 18 ∧ f 18 ≤ 16) : ∀ x : Int, (x < (f 18) ∨ (f 18) < x) → ((f 18) : Int) ≠ x := by omega
theorem zq_yI0v_2 (f : Nat → Int) (g : Nat → Int → Int) (r_18 : 0 ≤ f 18 ∧ f 18 ≤ 16) : (0 : Int) ≤ (f 18 + 1) ∧ (0 : Int) < 1000 ∧ (f 18 + 1) = ((f 18 + 1) : Int) % 1000 := by omega
theorem zW_yI0v (hA : zAll) (X : ZX) {Ls : Nat} {xs : Nat → Int32} (f : Nat → Int) (g : Nat → Int → Int) (hbd : zBd g) (x_len : Int) (x_x : Int) (x_lo : Int) (x_hi : Int)
    (r_17 : 1 ≤ f 17 ∧ f 17 ≤ 16) (r_18 : 0 ≤ f 18 ∧ f 18 ≤ 16) (r_len : 0 ≤ x_len ∧ x_len ≤ 2147483647) (r_x : (-2147483648) ≤ x_x ∧ x_x ≤ 2147483647) (r_lo : 0 ≤ x_lo ∧ x_lo ≤ 1) (r_hi : (-128) ≤ x_hi ∧ x_hi ≤ 127) (q_7 : f 7 = (f 18 + 1)) (c_0 : (f 18) < (f 17)) (c_1 : (f 18 + 1) < x_len) (c_2 : x_x ≠ (-2147483648)) (c_3 : x_lo ≠ 0) (o_0 : x_len = (nI Ls).toInt) (o_1 : ∃ j : Nat, j < Ls ∧ Ls ≤ 2147483647 ∧ (f 18 + 1) = j ∧ x_x = (xs j).toInt) (o_2 : x_lo = (Int32.ofInt x_x &&& Int32.ofInt 1).toInt) (o_3 : x_hi = (Int32.ofInt x_x >>> (Int32.ofInt 24 &&& 31)).toInt)
    : ∃ (f' : Nat → Int) (g' : Nat → Int → Int), (f' 7 = (f 18 + 2)) ∧ (f' 17 = (f 17)) ∧ (f' 18 = (f 18 + 1)) ∧ (∀ x, (x < (f 18 + 1) ∨ (f 18 + 1) < x) → g' 258 x = g 258 x) ∧ (g' 258 (f 18 + 1) = x_hi) ∧ (∀ x, (x < (f 18) ∨ (f 18) < x) → g' 262 x = g 262 x) ∧ (g' 262 (f 18) = x_hi) ∧ zBd g' ∧ zToL Ls xs 0 f g 0 f' g' := by
  have hrg : zRgs zrg_yI0v [(17, f 17), (18, f 18), (100, x_len), (101, x_x), (102, x_lo), (103, x_hi), (104, (g 262 (f 18))), (105, (g 258 (f 18 + 1)))] := zRqe 17 9223372036854775809 9223372036854775824 (f 17) (1) (16) r_17 (by decide) (by decide) (zRqe 18 9223372036854775808 9223372036854775824 (f 18) (0) (16) r_18 (by decide) (by decide) (zRqe 100 9223372036854775808 9223372039002259455 (x_len) (0) (2147483647) r_len (by decide) (by decide) (zRqe 101 9223372034707292160 9223372039002259455 (x_x) ((-2147483648)) (2147483647) r_x (by decide) (by decide) (zRqe 102 9223372036854775808 9223372036854775809 (x_lo) (0) (1) r_lo (by decide) (by decide) (zRqe 103 9223372036854775680 9223372036854775935 (x_hi) ((-128)) (127) r_hi (by decide) (by decide) (zRqh 104 ((g 262 (f 18))) (hbd 262 (f 18)) (zRqh 105 ((g 258 (f 18 + 1))) (hbd 258 (f 18 + 1)) (True.intro))))))))
  obtain ⟨σ, hσ⟩ : ∃ σ, σ = zas [(17, f 17), (18, f 18), (100, x_len), (101, x_x), (102, x_lo), (103, x_hi), (104, (g 262 (f 18))), (105, (g 258 (f 18 + 1)))] := ⟨_, rfl⟩
  have b_17 : Unit → σ 17 = f 17 := fun _ => by rw [hσ]; rfl
  have b_18 : Unit → σ 18 = f 18 := fun _ => by rw [hσ]; rfl
  have b_100 : Unit → σ 100 = x_len := fun _ => by rw [hσ]; rfl
  have b_101 : Unit → σ 101 = x_x := fun _ => by rw [hσ]; rfl
  have b_102 : Unit → σ 102 = x_lo := fun _ => by rw [hσ]; rfl
  have b_103 : Unit → σ 103 = x_hi := fun _ => by rw [hσ]; rfl
  have b_104 : Unit → σ 104 = (g 262 (f 18)) := fun _ => by rw [hσ]; rfl
  have b_105 : Unit → σ 105 = (g 258 (f 18 + 1)) := fun _ => by rw [hσ]; rfl
  have e_0 : Unit → zvn σ (5, 20340965113857) = (f 18 + 1) := fun _ => zvE5p 20340965113857 18 1 rfl (by decide) (b_18 ())
  have e_1 : Unit → zvn σ (5, 113799453474816) = x_hi := fun _ => zvE50 113799453474816 103 rfl (b_103 ())
  have e_2 : Unit → zvn σ (5, 20340965113856) = (f 18) := fun _ => zvE50 20340965113856 18 rfl (b_18 ())
  have e_3 : Unit → zvn σ (5, 114898965102592) = (g 262 (f 18)) := fun _ => zvE50 114898965102592 104 rfl (b_104 ())
  have e_4 : Unit → zvn σ (5, 115998476730368) = (g 258 (f 18 + 1)) := fun _ => zvE50 115998476730368 105 rfl (b_105 ())
  have e_5 : Unit → zvn σ (5, 19241453486080) = (f 17) := fun _ => zvE50 19241453486080 17 rfl (b_17 ())
  have e_6 : Unit → zvn σ (5, 110500918591488) = x_len := fun _ => zvE50 110500918591488 100 rfl (b_100 ())
  have e_7 : Unit → zvn σ (5, 111600430219264) = x_x := fun _ => zvE50 111600430219264 101 rfl (b_101 ())
  have e_8 : Unit → zvn σ (0, 2147483648) = (-2147483648) := fun _ => zvk0 (by decide)
  have e_9 : Unit → zvn σ (5, 112699941847040) = x_lo := fun _ => zvE50 112699941847040 102 rfl (b_102 ())
  have e_10 : Unit → zvn σ (0, 0) = 0 := fun _ => zvk0 (by decide)
  have e_11 : Unit → zvn σ (0, 1) = 1 := fun _ => zvk0 (by decide)
  have e_12 : Unit → zvn σ (0, 24) = 24 := fun _ => zvk0 (by decide)
  have e_13 : Unit → zvn σ (0, 1000) = 1000 := fun _ => zvk0 (by decide)
  have e_14 : Unit → zvn σ (5, 20340965113858) = (f 18 + 2) := fun _ => zvE5p 20340965113858 18 2 rfl (by decide) (b_18 ())
  exact ⟨zas [(7, (f 18 + 2)), (17, (f 17)), (18, (f 18 + 1))], fun a j => zupd σ zw_yI0v a j (g a j), rfl, rfl, rfl, (fun x h0 => zuq rfl (zum (zne5 (e_0 ()) (zq_yI0v_0 f g r_18 x h0)) (zu0))), (zuq rfl (zuh (e_0 ()) (e_1 ()))), (fun x h0 => zum (zne5 (e_2 ()) (zq_yI0v_1 f g r_18 x h0)) (zuq rfl (zu0))), (zuh (e_2 ()) (e_1 ())), zbd_of X hσ hrg zbf_yI0v hbd, fun A H go => zlawA hA H zbk_yI0v zbl_yI0v zbm_yI0v zbs_yI0v zbf_yI0v zbw_yI0v _ σ hσ f (zas [(7, (f 18 + 2)), (17, (f 17)), (18, (f 18 + 1))]) g hbd hrg (zFc (7, 63, 20) (5, 20340965113857) (q_7.trans (e_0 ()).symm) (True.intro)) (zFc (7, 63, 20) (5, 20340965113858) ((e_14 ()).symm) (True.intro)) (zLrc (Or.inl ⟨rfl, rfl⟩) (zLrc (Or.inl ⟨rfl, rfl⟩) (zLrc (Or.inr (Or.inl ⟨_, rfl, rfl, rfl, (zb0v f 17).trans ((e_5 ()).symm)⟩)) (zLrc (Or.inl ⟨rfl, rfl⟩) (zLrc (Or.inr (Or.inl ⟨_, rfl, rfl, rfl, (zb0v f 18).trans ((e_2 ()).symm)⟩)) (zLrc (True.intro) (zLrc (True.intro) (zLrn)))))))) (zLrc (Or.inl ⟨rfl, rfl⟩) (zLrc (Or.inl ⟨rfl, rfl⟩) (zLrc (Or.inr (Or.inl ⟨_, rfl, rfl, rfl, zb0w (zas [(7, (f 18 + 2)), (17, (f 17)), (18, (f 18 + 1))]) 17 (e_5 ()) rfl⟩)) (zLrc (Or.inl ⟨rfl, rfl⟩) (zLrc (Or.inr (Or.inl ⟨_, rfl, rfl, rfl, zb0w (zas [(7, (f 18 + 2)), (17, (f 17)), (18, (f 18 + 1))]) 18 (e_0 ()) rfl⟩)) (zLrc (True.intro) (zLrc (True.intro) (zLrn)))))))) (zEc ((5, 20340965113856), (5, 19241453486080), 0) (zcmE (e_2 ()) (e_5 ()) c_0) (zEc ((5, 20340965113857), (5, 110500918591488), 0) (zcmE (e_0 ()) (e_6 ()) c_1) (zEc ((5, 111600430219264), (0, 2147483648), 5) (zcmE (e_7 ()) (e_8 ()) c_2) (zEc ((5, 112699941847040), (0, 0), 5) (zcmE (e_9 ()) (e_10 ()) c_3) (True.intro))))) (zEc (91, (0, 0), (0, 0), (5, 110500918591488)) (zopR91 rfl (e_6 ()) o_0) (zEc (90, (5, 20340965113857), (0, 0), (5, 111600430219264)) (zopR90 rfl rfl (e_0 ()) (e_7 ()) o_1) (zEc (3, (5, 111600430219264), (0, 1), (5, 112699941847040)) (zopR3 rfl rfl rfl (e_7 ()) (e_11 ()) (e_9 ()) o_2) (zEc (7, (5, 111600430219264), (0, 24), (5, 113799453474816)) (zopR7 rfl rfl rfl (e_7 ()) (e_12 ()) (e_1 ()) o_3) (zEc (10, (5, 20340965113857), (0, 1000), (5, 20340965113857)) (Or.inl ⟨by decide +kernel, zopE (e_0 ()) (e_13 ()) (e_0 ()) (zq_yI0v_2 f g r_18)⟩) (True.intro)))))) (zEc (262, 0, (5, 20340965113856), (5, 114898965102592), (5, 113799453474816)) ((congrArg (g 262) (e_2 ())).trans (e_3 ()).symm) (zEc (258, 0, (5, 20340965113857), (5, 115998476730368), (5, 113799453474816)) ((congrArg (g 258) (e_0 ())).trans (e_4 ()).symm) (True.intro))) (fun _ => go)⟩
def zrg_yI1m : List (Nat × Nat × Nat) := [(17, 9223372036854775809, 9223372036854775824), (18, 9223372036854775808, 9223372036854775824), (100, 9223372036854775808, 9223372039002259455), (101, 9223372034707292160, 9223372039002259455), (102, 0, 18446744073709551615), (103, 0, 18446744073709551615)]
def zcm_yI1m : List (ZV × ZV × Nat) := [((5, 20340965113856), (5, 19241453486080), 0), ((5, 20340965113857), (5, 110500918591488), 4), ((5, 111600430219264), (0, 2147483648), 1)]
def zop_yI1m : List (Nat × ZV × ZV × ZV) := [(91, (0, 0), (0, 0), (5, 110500918591488)), (2, (0, 1640531527), (5, 20340965113860), (5, 111600430219264)), (10, (5, 20340965113857), (0, 1000), (5, 20340965113857))]
def zky_yI1m : List ZKy := [(262, 0, (5, 20340965113856), (5, 112699941847040), (0, 0)), (258, 0, (5, 20340965113857), (5, 113799453474816), (0, 0))]
def zw_yI1m : List (Nat × ZV × ZV) := [(262, (5, 20340965113856), (0, 0)), (258, (5, 20340965113857), (0, 0))]
def zfi_yI1m : List ZV := [(5, 20340965113857)]
def zff_yI1m : List ZV := [(5, 20340965113858)]
noncomputable def zla_yI1m : ZL := [some (4, 0), some (3, 0), some (5, 19241453486080), some (3, 264), some (5, 20340965113856), none, none]
noncomputable def zlb_yI1m : ZL := [some (4, 0), some (3, 0), some (5, 19241453486080), some (3, 264), some (5, 20340965113857), none, none]
theorem zbk_yI1m : zlbB 0 0 (zmkN zrg_yI1m zcm_yI1m zop_yI1m zky_yI1m) 134 zla_yI1m zlb_yI1m zfi_yI1m zff_yI1m zky_yI1m = true := by decide +kernel
theorem zbl_yI1m : zblkL (zlC 0) (zlH 0) zfi_yI1m zfi_yI1m zky_yI1m = true := by decide +kernel
theorem zbm_yI1m : zblkL (zlC 0) (zlH 0) zff_yI1m zff_yI1m zky_yI1m = true := by decide +kernel
theorem zbs_yI1m : zstB (zlC 0) (zlH 0) zrg_yI1m zcm_yI1m [] zky_yI1m [] = true := by decide +kernel
theorem zbf_yI1m : zw_yI1m.all (fun q => zfitB zrg_yI1m q.2.2) = true := by decide +kernel
theorem zbw_yI1m : zwkf zky_yI1m = zw_yI1m := by decide +kernel
theorem zq_yI1m_0 (f : Nat → Int) (g : Nat → Int → Int) (r_18 : 0 ≤ f 18 ∧ f 18 ≤ 16) : ∀ x : Int, (x < (f 18 + 1) ∨ (f 18 + 1) < x) → ((f 18 + 1) : Int) ≠ x := by omega
theorem zq_yI1m_1 (f : Nat → Int) (g : Nat → Int → Int) (r_18 : 0 ≤ f 18 ∧ f 18 ≤ 16) : ∀ x : Int, (x < (f 18) ∨ (f 18) < x) → ((f 18) : Int) ≠ x := by omega
theorem zq_yI1m_2 (f : Nat → Int) (g : Nat → Int → Int) (r_18 : 0 ≤ f 18 ∧ f 18 ≤ 16) : (0 : Int) ≤ (f 18 + 1) ∧ (0 : Int) < 1000 ∧ (f 18 + 1) = ((f 18 + 1) : Int) % 1000 := by omega
theorem zW_yI1m (hA : zAll) (X : ZX) {Ls : Nat} {xs : Nat → Int32} (f : Nat → Int) (g : Nat → Int → Int) (hbd : zBd g) (x_len : Int) (x_x : Int)
    (r_17 : 1 ≤ f 17 ∧ f 17 ≤ 16) (r_18 : 0 ≤ f 18 ∧ f 18 ≤ 16) (r_len : 0 ≤ x_len ∧ x_len ≤ 2147483647) (r_x : (-2147483648) ≤ x_x ∧ x_x ≤ 2147483647) (q_7 : f 7 = (f 18 + 1)) (c_0 : (f 18) < (f 17)) (c_1 : x_len ≤ (f 18 + 1)) (c_2 : x_x = (-2147483648)) (o_0 : x_len = (nI Ls).toInt) (o_1 : x_x = (Int32.ofInt 1640531527 * Int32.ofInt (f 18 + 4)).toInt)
    : ∃ (f' : Nat → Int) (g' : Nat → Int → Int), (f' 7 = (f 18 + 2)) ∧ (f' 17 = (f 17)) ∧ (f' 18 = (f 18 + 1)) ∧ (∀ x, (x < (f 18 + 1) ∨ (f 18 + 1) < x) → g' 258 x = g 258 x) ∧ (g' 258 (f 18 + 1) = 0) ∧ (∀ x, (x < (f 18) ∨ (f 18) < x) → g' 262 x = g 262 x) ∧ (g' 262 (f 18) = 0) ∧ zBd g' ∧ zToL Ls xs 0 f g 0 f' g' := by
  have hrg : zRgs zrg_yI1m [(17, f 17), (18, f 18), (100, x_len), (101, x_x), (102, (g 262 (f 18))), (103, (g 258 (f 18 + 1)))] := zRqe 17 9223372036854775809 9223372036854775824 (f 17) (1) (16) r_17 (by decide) (by decide) (zRqe 18 9223372036854775808 9223372036854775824 (f 18) (0) (16) r_18 (by decide) (by decide) (zRqe 100 9223372036854775808 9223372039002259455 (x_len) (0) (2147483647) r_len (by decide) (by decide) (zRqe 101 9223372034707292160 9223372039002259455 (x_x) ((-2147483648)) (2147483647) r_x (by decide) (by decide) (zRqh 102 ((g 262 (f 18))) (hbd 262 (f 18)) (zRqh 103 ((g 258 (f 18 + 1))) (hbd 258 (f 18 + 1)) (True.intro))))))
  obtain ⟨σ, hσ⟩ : ∃ σ, σ = zas [(17, f 17), (18, f 18), (100, x_len), (101, x_x), (102, (g 262 (f 18))), (103, (g 258 (f 18 + 1)))] := ⟨_, rfl⟩
  have b_17 : Unit → σ 17 = f 17 := fun _ => by rw [hσ]; rfl
  have b_18 : Unit → σ 18 = f 18 := fun _ => by rw [hσ]; rfl
  have b_100 : Unit → σ 100 = x_len := fun _ => by rw [hσ]; rfl
  have b_101 : Unit → σ 101 = x_x := fun _ => by rw [hσ]; rfl
  have b_102 : Unit → σ 102 = (g 262 (f 18)) := fun _ => by rw [hσ]; rfl
  have b_103 : Unit → σ 103 = (g 258 (f 18 + 1)) := fun _ => by rw [hσ]; rfl
  have e_0 : Unit → zvn σ (5, 20340965113857) = (f 18 + 1) := fun _ => zvE5p 20340965113857 18 1 rfl (by decide) (b_18 ())
  have e_1 : Unit → zvn σ (0, 0) = 0 := fun _ => zvk0 (by decide)
  have e_2 : Unit → zvn σ (5, 20340965113856) = (f 18) := fun _ => zvE50 20340965113856 18 rfl (b_18 ())
  have e_3 : Unit → zvn σ (5, 112699941847040) = (g 262 (f 18)) := fun _ => zvE50 112699941847040 102 rfl (b_102 ())
  have e_4 : Unit → zvn σ (5, 113799453474816) = (g 258 (f 18 + 1)) := fun _ => zvE50 113799453474816 103 rfl (b_103 ())
  have e_5 : Unit → zvn σ (5, 19241453486080) = (f 17) := fun _ => zvE50 19241453486080 17 rfl (b_17 ())
  have e_6 : Unit → zvn σ (5, 110500918591488) = x_len := fun _ => zvE50 110500918591488 100 rfl (b_100 ())
  have e_7 : Unit → zvn σ (5, 111600430219264) = x_x := fun _ => zvE50 111600430219264 101 rfl (b_101 ())
  have e_8 : Unit → zvn σ (0, 2147483648) = (-2147483648) := fun _ => zvk0 (by decide)
  have e_9 : Unit → zvn σ (0, 1640531527) = 1640531527 := fun _ => zvk0 (by decide)
  have e_10 : Unit → zvn σ (5, 20340965113860) = (f 18 + 4) := fun _ => zvE5p 20340965113860 18 4 rfl (by decide) (b_18 ())
  have e_11 : Unit → zvn σ (0, 1000) = 1000 := fun _ => zvk0 (by decide)
  have e_12 : Unit → zvn σ (5, 20340965113858) = (f 18 + 2) := fun _ => zvE5p 20340965113858 18 2 rfl (by decide) (b_18 ())
  exact ⟨zas [(7, (f 18 + 2)), (17, (f 17)), (18, (f 18 + 1))], fun a j => zupd σ zw_yI1m a j (g a j), rfl, rfl, rfl, (fun x h0 => zuq rfl (zum (zne5 (e_0 ()) (zq_yI1m_0 f g r_18 x h0)) (zu0))), (zuq rfl (zuh (e_0 ()) (e_1 ()))), (fun x h0 => zum (zne5 (e_2 ()) (zq_yI1m_1 f g r_18 x h0)) (zuq rfl (zu0))), (zuh (e_2 ()) (e_1 ())), zbd_of X hσ hrg zbf_yI1m hbd, fun A H go => zlawA hA H zbk_yI1m zbl_yI1m zbm_yI1m zbs_yI1m zbf_yI1m zbw_yI1m _ σ hσ f (zas [(7, (f 18 + 2)), (17, (f 17)), (18, (f 18 + 1))]) g hbd hrg (zFc (7, 63, 20) (5, 20340965113857) (q_7.trans (e_0 ()).symm) (True.intro)) (zFc (7, 63, 20) (5, 20340965113858) ((e_12 ()).symm) (True.intro)) (zLrc (Or.inl ⟨rfl, rfl⟩) (zLrc (Or.inl ⟨rfl, rfl⟩) (zLrc (Or.inr (Or.inl ⟨_, rfl, rfl, rfl, (zb0v f 17).trans ((e_5 ()).symm)⟩)) (zLrc (Or.inl ⟨rfl, rfl⟩) (zLrc (Or.inr (Or.inl ⟨_, rfl, rfl, rfl, (zb0v f 18).trans ((e_2 ()).symm)⟩)) (zLrc (True.intro) (zLrc (True.intro) (zLrn)))))))) (zLrc (Or.inl ⟨rfl, rfl⟩) (zLrc (Or.inl ⟨rfl, rfl⟩) (zLrc (Or.inr (Or.inl ⟨_, rfl, rfl, rfl, zb0w (zas [(7, (f 18 + 2)), (17, (f 17)), (18, (f 18 + 1))]) 17 (e_5 ()) rfl⟩)) (zLrc (Or.inl ⟨rfl, rfl⟩) (zLrc (Or.inr (Or.inl ⟨_, rfl, rfl, rfl, zb0w (zas [(7, (f 18 + 2)), (17, (f 17)), (18, (f 18 + 1))]) 18 (e_0 ()) rfl⟩)) (zLrc (True.intro) (zLrc (True.intro) (zLrn)))))))) (zEc ((5, 20340965113856), (5, 19241453486080), 0) (zcmE (e_2 ()) (e_5 ()) c_0) (zEc ((5, 20340965113857), (5, 110500918591488), 4) (zcmE (e_0 ()) (e_6 ()) c_1) (zEc ((5, 111600430219264), (0, 2147483648), 1) (zcmE (e_7 ()) (e_8 ()) c_2) (True.intro)))) (zEc (91, (0, 0), (0, 0), (5, 110500918591488)) (zopR91 rfl (e_6 ()) o_0) (zEc (2, (0, 1640531527), (5, 20340965113860), (5, 111600430219264)) (zopR2 rfl rfl rfl (e_9 ()) (e_10 ()) (e_7 ()) o_1) (zEc (10, (5, 20340965113857), (0, 1000), (5, 20340965113857)) (Or.inl ⟨by decide +kernel, zopE (e_0 ()) (e_11 ()) (e_0 ()) (zq_yI1m_2 f g r_18)⟩) (True.intro)))) (zEc (262, 0, (5, 20340965113856), (5, 112699941847040), (0, 0)) ((congrArg (g 262) (e_2 ())).trans (e_3 ()).symm) (zEc (258, 0, (5, 20340965113857), (5, 113799453474816), (0, 0)) ((congrArg (g 258) (e_0 ())).trans (e_4 ()).symm) (True.intro))) (fun _ => go)⟩
def zrg_yI1e : List (Nat × Nat × Nat) := [(17, 9223372036854775809, 9223372036854775824), (18, 9223372036854775808, 9223372036854775824), (100, 9223372036854775808, 9223372039002259455), (101, 9223372034707292160, 9223372039002259455), (102, 9223372036854775808, 9223372036854775809), (103, 0, 18446744073709551615), (104, 0, 18446744073709551615)]
def zcm_yI1e : List (ZV × ZV × Nat) := [((5, 20340965113856), (5, 19241453486080), 0), ((5, 20340965113857), (5, 110500918591488), 4), ((5, 111600430219264), (0, 2147483648), 5), ((5, 112699941847040), (0, 0), 1), ((5, 111600430219264), (0, 2147483649), 4)]
def zop_yI1e : List (Nat × ZV × ZV × ZV) := [(91, (0, 0), (0, 0), (5, 110500918591488)), (2, (0, 1640531527), (5, 20340965113860), (5, 111600430219264)), (3, (5, 111600430219264), (0, 1), (5, 112699941847040)), (10, (5, 20340965113857), (0, 1000), (5, 20340965113857))]
def zky_yI1e : List ZKy := [(262, 0, (5, 20340965113856), (5, 113799453474816), (5, 111600430219264)), (258, 0, (5, 20340965113857), (5, 114898965102592), (5, 111600430219264))]
def zw_yI1e : List (Nat × ZV × ZV) := [(262, (5, 20340965113856), (5, 111600430219264)), (258, (5, 20340965113857), (5, 111600430219264))]
def zfi_yI1e : List ZV := [(5, 20340965113857)]
def zff_yI1e : List ZV := [(5, 20340965113858)]
noncomputable def zla_yI1e : ZL := [some (4, 0), some (3, 0), some (5, 19241453486080), some (3, 264), some (5, 20340965113856), none, none]
noncomputable def zlb_yI1e : ZL := [some (4, 0), some (3, 0), some (5, 19241453486080), some (3, 264), some (5, 20340965113857), none, none]
theorem zbk_yI1e : zlbB 0 0 (zmkN zrg_yI1e zcm_yI1e zop_yI1e zky_yI1e) 138 zla_yI1e zlb_yI1e zfi_yI1e zff_yI1e zky_yI1e = true := by decide +kernel
theorem zbl_yI1e : zblkL (zlC 0) (zlH 0) zfi_yI1e zfi_yI1e zky_yI1e = true := by decide +kernel
theorem zbm_yI1e : zblkL (zlC 0) (zlH 0) zff_yI1e zff_yI1e zky_yI1e = true := by decide +kernel
theorem zbs_yI1e : zstB (zlC 0) (zlH 0) zrg_yI1e zcm_yI1e [] zky_yI1e [] = true := by decide +kernel
theorem zbf_yI1e : zw_yI1e.all (fun q => zfitB zrg_yI1e q.2.2) = true := by decide +kernel
theorem zbw_yI1e : zwkf zky_yI1e = zw_yI1e := by decide +kernel
theorem zq_yI1e_0 (f : Nat → Int) (g : Nat → Int → Int) (r_18 : 0 ≤ f 18 ∧ f 18 ≤ 16) : ∀ x : Int, (x < (f 18 + 1) ∨ (f 18 + 1) < x) → ((f 18 + 1) : Int) ≠ x := by omega
theorem zq_yI1e_1 (f : Nat → Int) (g : Nat → Int → Int) (r_18 : 0 ≤ f 18 ∧ f 18 ≤ 16) : ∀ x : Int, (x < (f 18) ∨ (f 18) < x) → ((f 18) : Int) ≠ x := by omega
theorem zq_yI1e_2 (f : Nat → Int) (g : Nat → Int → Int) (r_18 : 0 ≤ f 18 ∧ f 18 ≤ 16) : (0 : Int) ≤ (f 18 + 1) ∧ (0 : Int) < 1000 ∧ (f 18 + 1) = ((f 18 + 1) : Int) % 1000 := by omega
theorem zW_yI1e (hA : zAll) (X : ZX) {Ls : Nat} {xs : Nat → Int32} (f : Nat → Int) (g : Nat → Int → Int) (hbd : zBd g) (x_len : Int) (x_x : Int) (x_lo : Int)
    (r_17 : 1 ≤ f 17 ∧ f 17 ≤ 16) (r_18 : 0 ≤ f 18 ∧ f 18 ≤ 16) (r_len : 0 ≤ x_len ∧ x_len ≤ 2147483647) (r_x : (-2147483648) ≤ x_x ∧ x_x ≤ 2147483647) (r_lo : 0 ≤ x_lo ∧ x_lo ≤ 1) (q_7 : f 7 = (f 18 + 1)) (c_0 : (f 18) < (f 17)) (c_1 : x_len ≤ (f 18 + 1)) (c_2 : x_x ≠ (-2147483648)) (c_3 : x_lo = 0) (c_4 : (-2147483647) ≤ x_x) (o_0 : x_len = (nI Ls).toInt) (o_1 : x_x = (Int32.ofInt 1640531527 * Int32.ofInt (f 18 + 4)).toInt) (o_2 : x_lo = (Int32.ofInt x_x &&& Int32.ofInt 1).toInt)
    : ∃ (f' : Nat → Int) (g' : Nat → Int → Int), (f' 7 = (f 18 + 2)) ∧ (f' 17 = (f 17)) ∧ (f' 18 = (f 18 + 1)) ∧ (∀ x, (x < (f 18 + 1) ∨ (f 18 + 1) < x) → g' 258 x = g 258 x) ∧ (g' 258 (f 18 + 1) = x_x) ∧ (∀ x, (x < (f 18) ∨ (f 18) < x) → g' 262 x = g 262 x) ∧ (g' 262 (f 18) = x_x) ∧ zBd g' ∧ zToL Ls xs 0 f g 0 f' g' := by
  have hrg : zRgs zrg_yI1e [(17, f 17), (18, f 18), (100, x_len), (101, x_x), (102, x_lo), (103, (g 262 (f 18))), (104, (g 258 (f 18 + 1)))] := zRqe 17 9223372036854775809 9223372036854775824 (f 17) (1) (16) r_17 (by decide) (by decide) (zRqe 18 9223372036854775808 9223372036854775824 (f 18) (0) (16) r_18 (by decide) (by decide) (zRqe 100 9223372036854775808 9223372039002259455 (x_len) (0) (2147483647) r_len (by decide) (by decide) (zRqe 101 9223372034707292160 9223372039002259455 (x_x) ((-2147483648)) (2147483647) r_x (by decide) (by decide) (zRqe 102 9223372036854775808 9223372036854775809 (x_lo) (0) (1) r_lo (by decide) (by decide) (zRqh 103 ((g 262 (f 18))) (hbd 262 (f 18)) (zRqh 104 ((g 258 (f 18 + 1))) (hbd 258 (f 18 + 1)) (True.intro)))))))
  obtain ⟨σ, hσ⟩ : ∃ σ, σ = zas [(17, f 17), (18, f 18), (100, x_len), (101, x_x), (102, x_lo), (103, (g 262 (f 18))), (104, (g 258 (f 18 + 1)))] := ⟨_, rfl⟩
  have b_17 : Unit → σ 17 = f 17 := fun _ => by rw [hσ]; rfl
  have b_18 : Unit → σ 18 = f 18 := fun _ => by rw [hσ]; rfl
  have b_100 : Unit → σ 100 = x_len := fun _ => by rw [hσ]; rfl
  have b_101 : Unit → σ 101 = x_x := fun _ => by rw [hσ]; rfl
  have b_102 : Unit → σ 102 = x_lo := fun _ => by rw [hσ]; rfl
  have b_103 : Unit → σ 103 = (g 262 (f 18)) := fun _ => by rw [hσ]; rfl
  have b_104 : Unit → σ 104 = (g 258 (f 18 + 1)) := fun _ => by rw [hσ]; rfl
  have e_0 : Unit → zvn σ (5, 20340965113857) = (f 18 + 1) := fun _ => zvE5p 20340965113857 18 1 rfl (by decide) (b_18 ())
  have e_1 : Unit → zvn σ (5, 111600430219264) = x_x := fun _ => zvE50 111600430219264 101 rfl (b_101 ())
  have e_2 : Unit → zvn σ (5, 20340965113856) = (f 18) := fun _ => zvE50 20340965113856 18 rfl (b_18 ())
  have e_3 : Unit → zvn σ (5, 113799453474816) = (g 262 (f 18)) := fun _ => zvE50 113799453474816 103 rfl (b_103 ())
  have e_4 : Unit → zvn σ (5, 114898965102592) = (g 258 (f 18 + 1)) := fun _ => zvE50 114898965102592 104 rfl (b_104 ())
  have e_5 : Unit → zvn σ (5, 19241453486080) = (f 17) := fun _ => zvE50 19241453486080 17 rfl (b_17 ())
  have e_6 : Unit → zvn σ (5, 110500918591488) = x_len := fun _ => zvE50 110500918591488 100 rfl (b_100 ())
  have e_7 : Unit → zvn σ (0, 2147483648) = (-2147483648) := fun _ => zvk0 (by decide)
  have e_8 : Unit → zvn σ (5, 112699941847040) = x_lo := fun _ => zvE50 112699941847040 102 rfl (b_102 ())
  have e_9 : Unit → zvn σ (0, 0) = 0 := fun _ => zvk0 (by decide)
  have e_10 : Unit → zvn σ (0, 2147483649) = (-2147483647) := fun _ => zvk0 (by decide)
  have e_11 : Unit → zvn σ (0, 1640531527) = 1640531527 := fun _ => zvk0 (by decide)
  have e_12 : Unit → zvn σ (5, 20340965113860) = (f 18 + 4) := fun _ => zvE5p 20340965113860 18 4 rfl (by decide) (b_18 ())
  have e_13 : Unit → zvn σ (0, 1) = 1 := fun _ => zvk0 (by decide)
  have e_14 : Unit → zvn σ (0, 1000) = 1000 := fun _ => zvk0 (by decide)
  have e_15 : Unit → zvn σ (5, 20340965113858) = (f 18 + 2) := fun _ => zvE5p 20340965113858 18 2 rfl (by decide) (b_18 ())
  exact ⟨zas [(7, (f 18 + 2)), (17, (f 17)), (18, (f 18 + 1))], fun a j => zupd σ zw_yI1e a j (g a j), rfl, rfl, rfl, (fun x h0 => zuq rfl (zum (zne5 (e_0 ()) (zq_yI1e_0 f g r_18 x h0)) (zu0))), (zuq rfl (zuh (e_0 ()) (e_1 ()))), (fun x h0 => zum (zne5 (e_2 ()) (zq_yI1e_1 f g r_18 x h0)) (zuq rfl (zu0))), (zuh (e_2 ()) (e_1 ())), zbd_of X hσ hrg zbf_yI1e hbd, fun A H go => zlawA hA H zbk_yI1e zbl_yI1e zbm_yI1e zbs_yI1e zbf_yI1e zbw_yI1e _ σ hσ f (zas [(7, (f 18 + 2)), (17, (f 17)), (18, (f 18 + 1))]) g hbd hrg (zFc (7, 63, 20) (5, 20340965113857) (q_7.trans (e_0 ()).symm) (True.intro)) (zFc (7, 63, 20) (5, 20340965113858) ((e_15 ()).symm) (True.intro)) (zLrc (Or.inl ⟨rfl, rfl⟩) (zLrc (Or.inl ⟨rfl, rfl⟩) (zLrc (Or.inr (Or.inl ⟨_, rfl, rfl, rfl, (zb0v f 17).trans ((e_5 ()).symm)⟩)) (zLrc (Or.inl ⟨rfl, rfl⟩) (zLrc (Or.inr (Or.inl ⟨_, rfl, rfl, rfl, (zb0v f 18).trans ((e_2 ()).symm)⟩)) (zLrc (True.intro) (zLrc (True.intro) (zLrn)))))))) (zLrc (Or.inl ⟨rfl, rfl⟩) (zLrc (Or.inl ⟨rfl, rfl⟩) (zLrc (Or.inr (Or.inl ⟨_, rfl, rfl, rfl, zb0w (zas [(7, (f 18 + 2)), (17, (f 17)), (18, (f 18 + 1))]) 17 (e_5 ()) rfl⟩)) (zLrc (Or.inl ⟨rfl, rfl⟩) (zLrc (Or.inr (Or.inl ⟨_, rfl, rfl, rfl, zb0w (zas [(7, (f 18 + 2)), (17, (f 17)), (18, (f 18 + 1))]) 18 (e_0 ()) rfl⟩)) (zLrc (True.intro) (zLrc (True.intro) (zLrn)))))))) (zEc ((5, 20340965113856), (5, 19241453486080), 0) (zcmE (e_2 ()) (e_5 ()) c_0) (zEc ((5, 20340965113857), (5, 110500918591488), 4) (zcmE (e_0 ()) (e_6 ()) c_1) (zEc ((5, 111600430219264), (0, 2147483648), 5) (zcmE (e_1 ()) (e_7 ()) c_2) (zEc ((5, 112699941847040), (0, 0), 1) (zcmE (e_8 ()) (e_9 ()) c_3) (zEc ((5, 111600430219264), (0, 2147483649), 4) (zcmE (e_1 ()) (e_10 ()) c_4) (True.intro)))))) (zEc (91, (0, 0), (0, 0), (5, 110500918591488)) (zopR91 rfl (e_6 ()) o_0) (zEc (2, (0, 1640531527), (5, 20340965113860), (5, 111600430219264)) (zopR2 rfl rfl rfl (e_11 ()) (e_12 ()) (e_1 ()) o_1) (zEc (3, (5, 111600430219264), (0, 1), (5, 112699941847040)) (zopR3 rfl rfl rfl (e_1 ()) (e_13 ()) (e_8 ()) o_2) (zEc (10, (5, 20340965113857), (0, 1000), (5, 20340965113857)) (Or.inl ⟨by decide +kernel, zopE (e_0 ()) (e_14 ()) (e_0 ()) (zq_yI1e_2 f g r_18)⟩) (True.intro))))) (zEc (262, 0, (5, 20340965113856), (5, 113799453474816), (5, 111600430219264)) ((congrArg (g 262) (e_2 ())).trans (e_3 ()).symm) (zEc (258, 0, (5, 20340965113857), (5, 114898965102592), (5, 111600430219264)) ((congrArg (g 258) (e_0 ())).trans (e_4 ()).symm) (True.intro))) (fun _ => go)⟩
def zrg_yI1v : List (Nat × Nat × Nat) := [(17, 9223372036854775809, 9223372036854775824), (18, 9223372036854775808, 9223372036854775824), (100, 9223372036854775808, 9223372039002259455), (101, 9223372034707292160, 9223372039002259455), (102, 9223372036854775808, 9223372036854775809), (103, 9223372036854775680, 9223372036854775935), (104, 0, 18446744073709551615), (105, 0, 18446744073709551615)]
def zcm_yI1v : List (ZV × ZV × Nat) := [((5, 20340965113856), (5, 19241453486080), 0), ((5, 20340965113857), (5, 110500918591488), 4), ((5, 111600430219264), (0, 2147483648), 5), ((5, 112699941847040), (0, 0), 5)]
def zop_yI1v : List (Nat × ZV × ZV × ZV) := [(91, (0, 0), (0, 0), (5, 110500918591488)), (2, (0, 1640531527), (5, 20340965113860), (5, 111600430219264)), (3, (5, 111600430219264), (0, 1), (5, 112699941847040)), (7, (5, 111600430219264), (0, 24), (5, 113799453474816)), (10, (5, 20340965113857), (0, 1000), (5, 20340965113857))]
def zky_yI1v : List ZKy := [(262, 0, (5, 20340965113856), (5, 114898965102592), (5, 113799453474816)), (258, 0, (5, 20340965113857), (5, 115998476730368), (5, 113799453474816))]
def zw_yI1v : List (Nat × ZV × ZV) := [(262, (5, 20340965113856), (5, 113799453474816)), (258, (5, 20340965113857), (5, 113799453474816))]
def zfi_yI1v : List ZV := [(5, 20340965113857)]
def zff_yI1v : List ZV := [(5, 20340965113858)]
noncomputable def zla_yI1v : ZL := [some (4, 0), some (3, 0), some (5, 19241453486080), some (3, 264), some (5, 20340965113856), none, none]
noncomputable def zlb_yI1v : ZL := [some (4, 0), some (3, 0), some (5, 19241453486080), some (3, 264), some (5, 20340965113857), none, none]
theorem zbk_yI1v : zlbB 0 0 (zmkN zrg_yI1v zcm_yI1v zop_yI1v zky_yI1v) 139 zla_yI1v zlb_yI1v zfi_yI1v zff_yI1v zky_yI1v = true := by decide +kernel
theorem zbl_yI1v : zblkL (zlC 0) (zlH 0) zfi_yI1v zfi_yI1v zky_yI1v = true := by decide +kernel
theorem zbm_yI1v : zblkL (zlC 0) (zlH 0) zff_yI1v zff_yI1v zky_yI1v = true := by decide +kernel
theorem zbs_yI1v : zstB (zlC 0) (zlH 0) zrg_yI1v zcm_yI1v [] zky_yI1v [] = true := by decide +kernel
theorem zbf_yI1v : zw_yI1v.all (fun q => zfitB zrg_yI1v q.2.2) = true := by decide +kernel
theorem zbw_yI1v : zwkf zky_yI1v = zw_yI1v := by decide +kernel
theorem zq_yI1v_0 (f : Nat → Int) (g : Nat → Int → Int) (r_18 : 0 ≤ f 18 ∧ f 18 ≤ 16) : ∀ x : Int, (x < (f 18 + 1) ∨ (f 18 + 1) < x) → ((f 18 + 1) : Int) ≠ x := by omega
theorem zq_yI1v_1 (f : Nat → Int) (g : Nat → Int → Int) (r_18 : 0 ≤ f 18 ∧ f 18 ≤ 16) : ∀ x : Int, (x < (f 18) ∨ (f 18) < x) → ((f 18) : Int) ≠ x := by omega
theorem zq_yI1v_2 (f : Nat → Int) (g : Nat → Int → Int) (r_18 : 0 ≤ f 18 ∧ f 18 ≤ 16) : (0 : Int) ≤ (f 18 + 1) ∧ (0 : Int) < 1000 ∧ (f 18 + 1) = ((f 18 + 1) : Int) % 1000 := by omega
theorem zW_yI1v (hA : zAll) (X : ZX) {Ls : Nat} {xs : Nat → Int32} (f : Nat → Int) (g : Nat → Int → Int) (hbd : zBd g) (x_len : Int) (x_x : Int) (x_lo : Int) (x_hi : Int)
    (r_17 : 1 ≤ f 17 ∧ f 17 ≤ 16) (r_18 : 0 ≤ f 18 ∧ f 18 ≤ 16) (r_len : 0 ≤ x_len ∧ x_len ≤ 2147483647) (r_x : (-2147483648) ≤ x_x ∧ x_x ≤ 2147483647) (r_lo : 0 ≤ x_lo ∧ x_lo ≤ 1) (r_hi : (-128) ≤ x_hi ∧ x_hi ≤ 127) (q_7 : f 7 = (f 18 + 1)) (c_0 : (f 18) < (f 17)) (c_1 : x_len ≤ (f 18 + 1)) (c_2 : x_x ≠ (-2147483648)) (c_3 : x_lo ≠ 0) (o_0 : x_len = (nI Ls).toInt) (o_1 : x_x = (Int32.ofInt 1640531527 * Int32.ofInt (f 18 + 4)).toInt) (o_2 : x_lo = (Int32.ofInt x_x &&& Int32.ofInt 1).toInt) (o_3 : x_hi = (Int32.ofInt x_x >>> (Int32.ofInt 24 &&& 31)).toInt)
    : ∃ (f' : Nat → Int) (g' : Nat → Int → Int), (f' 7 = (f 18 + 2)) ∧ (f' 17 = (f 17)) ∧ (f' 18 = (f 18 + 1)) ∧ (∀ x, (x < (f 18 + 1) ∨ (f 18 + 1) < x) → g' 258 x = g 258 x) ∧ (g' 258 (f 18 + 1) = x_hi) ∧ (∀ x, (x < (f 18) ∨ (f 18) < x) → g' 262 x = g 262 x) ∧ (g' 262 (f 18) = x_hi) ∧ zBd g' ∧ zToL Ls xs 0 f g 0 f' g' := by
  have hrg : zRgs zrg_yI1v [(17, f 17), (18, f 18), (100, x_len), (101, x_x), (102, x_lo), (103, x_hi), (104, (g 262 (f 18))), (105, (g 258 (f 18 + 1)))] := zRqe 17 9223372036854775809 9223372036854775824 (f 17) (1) (16) r_17 (by decide) (by decide) (zRqe 18 9223372036854775808 9223372036854775824 (f 18) (0) (16) r_18 (by decide) (by decide) (zRqe 100 9223372036854775808 9223372039002259455 (x_len) (0) (2147483647) r_len (by decide) (by decide) (zRqe 101 9223372034707292160 9223372039002259455 (x_x) ((-2147483648)) (2147483647) r_x (by decide) (by decide) (zRqe 102 9223372036854775808 9223372036854775809 (x_lo) (0) (1) r_lo (by decide) (by decide) (zRqe 103 9223372036854775680 9223372036854775935 (x_hi) ((-128)) (127) r_hi (by decide) (by decide) (zRqh 104 ((g 262 (f 18))) (hbd 262 (f 18)) (zRqh 105 ((g 258 (f 18 + 1))) (hbd 258 (f 18 + 1)) (True.intro))))))))
  obtain ⟨σ, hσ⟩ : ∃ σ, σ = zas [(17, f 17), (18, f 18), (100, x_len), (101, x_x), (102, x_lo), (103, x_hi), (104, (g 262 (f 18))), (105, (g 258 (f 18 + 1)))] := ⟨_, rfl⟩
  have b_17 : Unit → σ 17 = f 17 := fun _ => by rw [hσ]; rfl
  have b_18 : Unit → σ 18 = f 18 := fun _ => by rw [hσ]; rfl
  have b_100 : Unit → σ 100 = x_len := fun _ => by rw [hσ]; rfl
  have b_101 : Unit → σ 101 = x_x := fun _ => by rw [hσ]; rfl
  have b_102 : Unit → σ 102 = x_lo := fun _ => by rw [hσ]; rfl
  have b_103 : Unit → σ 103 = x_hi := fun _ => by rw [hσ]; rfl
  have b_104 : Unit → σ 104 = (g 262 (f 18)) := fun _ => by rw [hσ]; rfl
  have b_105 : Unit → σ 105 = (g 258 (f 18 + 1)) := fun _ => by rw [hσ]; rfl
  have e_0 : Unit → zvn σ (5, 20340965113857) = (f 18 + 1) := fun _ => zvE5p 20340965113857 18 1 rfl (by decide) (b_18 ())
  have e_1 : Unit → zvn σ (5, 113799453474816) = x_hi := fun _ => zvE50 113799453474816 103 rfl (b_103 ())
  have e_2 : Unit → zvn σ (5, 20340965113856) = (f 18) := fun _ => zvE50 20340965113856 18 rfl (b_18 ())
  have e_3 : Unit → zvn σ (5, 114898965102592) = (g 262 (f 18)) := fun _ => zvE50 114898965102592 104 rfl (b_104 ())
  have e_4 : Unit → zvn σ (5, 115998476730368) = (g 258 (f 18 + 1)) := fun _ => zvE50 115998476730368 105 rfl (b_105 ())
  have e_5 : Unit → zvn σ (5, 19241453486080) = (f 17) := fun _ => zvE50 19241453486080 17 rfl (b_17 ())
  have e_6 : Unit → zvn σ (5, 110500918591488) = x_len := fun _ => zvE50 110500918591488 100 rfl (b_100 ())
  have e_7 : Unit → zvn σ (5, 111600430219264) = x_x := fun _ => zvE50 111600430219264 101 rfl (b_101 ())
  have e_8 : Unit → zvn σ (0, 2147483648) = (-2147483648) := fun _ => zvk0 (by decide)
  have e_9 : Unit → zvn σ (5, 112699941847040) = x_lo := fun _ => zvE50 112699941847040 102 rfl (b_102 ())
  have e_10 : Unit → zvn σ (0, 0) = 0 := fun _ => zvk0 (by decide)
  have e_11 : Unit → zvn σ (0, 1640531527) = 1640531527 := fun _ => zvk0 (by decide)
  have e_12 : Unit → zvn σ (5, 20340965113860) = (f 18 + 4) := fun _ => zvE5p 20340965113860 18 4 rfl (by decide) (b_18 ())
  have e_13 : Unit → zvn σ (0, 1) = 1 := fun _ => zvk0 (by decide)
  have e_14 : Unit → zvn σ (0, 24) = 24 := fun _ => zvk0 (by decide)
  have e_15 : Unit → zvn σ (0, 1000) = 1000 := fun _ => zvk0 (by decide)
  have e_16 : Unit → zvn σ (5, 20340965113858) = (f 18 + 2) := fun _ => zvE5p 20340965113858 18 2 rfl (by decide) (b_18 ())
  exact ⟨zas [(7, (f 18 + 2)), (17, (f 17)), (18, (f 18 + 1))], fun a j => zupd σ zw_yI1v a j (g a j), rfl, rfl, rfl, (fun x h0 => zuq rfl (zum (zne5 (e_0 ()) (zq_yI1v_0 f g r_18 x h0)) (zu0))), (zuq rfl (zuh (e_0 ()) (e_1 ()))), (fun x h0 => zum (zne5 (e_2 ()) (zq_yI1v_1 f g r_18 x h0)) (zuq rfl (zu0))), (zuh (e_2 ()) (e_1 ())), zbd_of X hσ hrg zbf_yI1v hbd, fun A H go => zlawA hA H zbk_yI1v zbl_yI1v zbm_yI1v zbs_yI1v zbf_yI1v zbw_yI1v _ σ hσ f (zas [(7, (f 18 + 2)), (17, (f 17)), (18, (f 18 + 1))]) g hbd hrg (zFc (7, 63, 20) (5, 20340965113857) (q_7.trans (e_0 ()).symm) (True.intro)) (zFc (7, 63, 20) (5, 20340965113858) ((e_16 ()).symm) (True.intro)) (zLrc (Or.inl ⟨rfl, rfl⟩) (zLrc (Or.inl ⟨rfl, rfl⟩) (zLrc (Or.inr (Or.inl ⟨_, rfl, rfl, rfl, (zb0v f 17).trans ((e_5 ()).symm)⟩)) (zLrc (Or.inl ⟨rfl, rfl⟩) (zLrc (Or.inr (Or.inl ⟨_, rfl, rfl, rfl, (zb0v f 18).trans ((e_2 ()).symm)⟩)) (zLrc (True.intro) (zLrc (True.intro) (zLrn)))))))) (zLrc (Or.inl ⟨rfl, rfl⟩) (zLrc (Or.inl ⟨rfl, rfl⟩) (zLrc (Or.inr (Or.inl ⟨_, rfl, rfl, rfl, zb0w (zas [(7, (f 18 + 2)), (17, (f 17)), (18, (f 18 + 1))]) 17 (e_5 ()) rfl⟩)) (zLrc (Or.inl ⟨rfl, rfl⟩) (zLrc (Or.inr (Or.inl ⟨_, rfl, rfl, rfl, zb0w (zas [(7, (f 18 + 2)), (17, (f 17)), (18, (f 18 + 1))]) 18 (e_0 ()) rfl⟩)) (zLrc (True.intro) (zLrc (True.intro) (zLrn)))))))) (zEc ((5, 20340965113856), (5, 19241453486080), 0) (zcmE (e_2 ()) (e_5 ()) c_0) (zEc ((5, 20340965113857), (5, 110500918591488), 4) (zcmE (e_0 ()) (e_6 ()) c_1) (zEc ((5, 111600430219264), (0, 2147483648), 5) (zcmE (e_7 ()) (e_8 ()) c_2) (zEc ((5, 112699941847040), (0, 0), 5) (zcmE (e_9 ()) (e_10 ()) c_3) (True.intro))))) (zEc (91, (0, 0), (0, 0), (5, 110500918591488)) (zopR91 rfl (e_6 ()) o_0) (zEc (2, (0, 1640531527), (5, 20340965113860), (5, 111600430219264)) (zopR2 rfl rfl rfl (e_11 ()) (e_12 ()) (e_7 ()) o_1) (zEc (3, (5, 111600430219264), (0, 1), (5, 112699941847040)) (zopR3 rfl rfl rfl (e_7 ()) (e_13 ()) (e_9 ()) o_2) (zEc (7, (5, 111600430219264), (0, 24), (5, 113799453474816)) (zopR7 rfl rfl rfl (e_7 ()) (e_14 ()) (e_1 ()) o_3) (zEc (10, (5, 20340965113857), (0, 1000), (5, 20340965113857)) (Or.inl ⟨by decide +kernel, zopE (e_0 ()) (e_15 ()) (e_0 ()) (zq_yI1v_2 f g r_18)⟩) (True.intro)))))) (zEc (262, 0, (5, 20340965113856), (5, 114898965102592), (5, 113799453474816)) ((congrArg (g 262) (e_2 ())).trans (e_3 ()).symm) (zEc (258, 0, (5, 20340965113857), (5, 115998476730368), (5, 113799453474816)) ((congrArg (g 258) (e_0 ())).trans (e_4 ()).symm) (True.intro))) (fun _ => go)⟩
