/-! Printed by wip/v2/gen8.py: blocks of the law. -/
def zrg_yE5 : List (Nat × Nat × Nat) := [(17, 9223372036854775809, 9223372036854775824), (100, 9223372036854775808, 9223372036854776008), (101, 9223372036854775811, 9223372036854775856), (102, 9223372036854775808, 9223372036854776008), (205, 9223372036854775808, 9223372036854776808)]
def zcm_yE5 : List (ZV × ZV × Nat) := [((5, 110500918591488), (5, 112699941847040), 1)]
def zop_yE5 : List (Nat × ZV × ZV × ZV) := [(2, (0, 3), (5, 19241453486081), (5, 111600430219267)), (0, (5, 19241453486082), (5, 111600430219267), (5, 112699941847040))]
def zky_yE5 : List ZKy := [(276, 0, (5, 19241453486081), (0, 4294967288), (0, 4294967288))]
def zw_yE5 : List (Nat × ZV × ZV) := []
def zfi_yE5 : List ZV := [(5, 225949639507968), (5, 19241453486082), (5, 110500918591488), (0, 0)]
def zff_yE5 : List ZV := [(5, 225949639507968), (5, 19241453486082), (5, 110500918591488), (0, 0)]
noncomputable def zla_yE5 : ZL := [none, some (3, 0), some (5, 19241453486080), some (3, 264), none, none, none]
noncomputable def zlb_yE5 : ZL := [none, some (3, 0), some (5, 19241453486080), some (3, 264), some (0, 1), none, none]
theorem zbk_yE5 : zlbB 1 2 (zmkN zrg_yE5 zcm_yE5 zop_yE5 zky_yE5) 188 zla_yE5 zlb_yE5 zfi_yE5 zff_yE5 zky_yE5 = true := by decide +kernel
theorem zbl_yE5 : zblkL (zlC 1) (zlH 1) zfi_yE5 zfi_yE5 zky_yE5 = true := by decide +kernel
theorem zbm_yE5 : zblkL (zlC 2) (zlH 2) zff_yE5 zff_yE5 zky_yE5 = true := by decide +kernel
theorem zbs_yE5 : zstB (zlC 1) (zlH 1) zrg_yE5 zcm_yE5 [] zky_yE5 [] = true := by decide +kernel
theorem zbf_yE5 : zw_yE5.all (fun q => zfitB zrg_yE5 q.2.2) = true := by decide +kernel
theorem zbw_yE5 : zwkf zky_yE5 = zw_yE5 := by decide +kernel
theorem zq_yE5_0 (f : Nat → Int) (g : Nat → Int → Int) (r_17 : 1 ≤ f 17 ∧ f 17 ≤ 16) : (((3 * (f 17)) + 3) : Int) = 3 * (f 17 + 1) := by omega
theorem zq_yE5_1 (f : Nat → Int) (g : Nat → Int → Int) (r_17 : 1 ≤ f 17 ∧ f 17 ≤ 16) : (((f 17 + 2) + ((3 * (f 17)) + 3)) : Int) = (f 17 + 2) + ((3 * (f 17)) + 3) := by omega
theorem zq_yE5_2 (f : Nat → Int) (g : Nat → Int → Int) (r_17 : 1 ≤ f 17 ∧ f 17 ≤ 16) : ((9223372036854775811 : Nat) : Int) ≤ (3 * (f 17)) + 9223372036854775808 ∧ (3 * (f 17)) + 9223372036854775808 ≤ ((9223372036854775856 : Nat) : Int) := by omega
theorem zq_yE5_3 (f : Nat → Int) (g : Nat → Int → Int) (r_17 : 1 ≤ f 17 ∧ f 17 ≤ 16) : ((9223372036854775808 : Nat) : Int) ≤ ((f 17 + 2) + ((3 * (f 17)) + 3)) + 9223372036854775808 ∧ ((f 17 + 2) + ((3 * (f 17)) + 3)) + 9223372036854775808 ≤ ((9223372036854776008 : Nat) : Int) := by omega
theorem zW_yE5 (hA : zAll) (X : ZX) {Ls : Nat} {xs : Nat → Int32} (f : Nat → Int) (g : Nat → Int → Int) (hbd : zBd g) (x_tk : Int)
    (r_17 : 1 ≤ f 17 ∧ f 17 ≤ 16) (r_205 : 0 ≤ f 205 ∧ f 205 ≤ 1000) (r_tk : 0 ≤ x_tk ∧ x_tk ≤ 200) (q_212 : f 212 = (f 17 + 2)) (q_213 : f 213 = x_tk) (q_214 : f 214 = 0) (c_0 : x_tk = ((f 17 + 2) + ((3 * (f 17)) + 3))) (k_0 : g 276 (f 17 + 1) = (-8))
    : ∃ (f' : Nat → Int) (g' : Nat → Int → Int), (f' 205 = (f 205)) ∧ (f' 212 = (f 17 + 2)) ∧ (f' 213 = x_tk) ∧ (f' 214 = 0) ∧ (f' 17 = (f 17)) ∧ (f' 18 = 1) ∧ (∀ x, g' 276 x = g 276 x) ∧ (∀ x, g' 277 x = g 277 x) ∧ (∀ x, g' 262 x = g 262 x) ∧ zBd g' ∧ zToL Ls xs 1 f g 2 f' g' := by
  have hrg : zRgs zrg_yE5 [(17, f 17), (100, x_tk), (101, (3 * (f 17))), (102, ((f 17 + 2) + ((3 * (f 17)) + 3))), (205, f 205)] := zRqe 17 9223372036854775809 9223372036854775824 (f 17) (1) (16) r_17 (by decide) (by decide) (zRqe 100 9223372036854775808 9223372036854776008 (x_tk) (0) (200) r_tk (by decide) (by decide) (zRqd 101 9223372036854775811 9223372036854775856 ((3 * (f 17))) (zq_yE5_2 f g r_17) (zRqd 102 9223372036854775808 9223372036854776008 (((f 17 + 2) + ((3 * (f 17)) + 3))) (zq_yE5_3 f g r_17) (zRqe 205 9223372036854775808 9223372036854776808 (f 205) (0) (1000) r_205 (by decide) (by decide) (True.intro)))))
  obtain ⟨σ, hσ⟩ : ∃ σ, σ = zas [(17, f 17), (100, x_tk), (101, (3 * (f 17))), (102, ((f 17 + 2) + ((3 * (f 17)) + 3))), (205, f 205)] := ⟨_, rfl⟩
  have b_17 : Unit → σ 17 = f 17 := fun _ => by rw [hσ]; rfl
  have b_100 : Unit → σ 100 = x_tk := fun _ => by rw [hσ]; rfl
  have b_101 : Unit → σ 101 = (3 * (f 17)) := fun _ => by rw [hσ]; rfl
  have b_102 : Unit → σ 102 = ((f 17 + 2) + ((3 * (f 17)) + 3)) := fun _ => by rw [hσ]; rfl
  have b_205 : Unit → σ 205 = f 205 := fun _ => by rw [hσ]; rfl
  have e_0 : Unit → zvn σ (5, 19241453486081) = (f 17 + 1) := fun _ => zvE5p 19241453486081 17 1 rfl (by decide) (b_17 ())
  have e_1 : Unit → zvn σ (0, 4294967288) = (-8) := fun _ => zvk0 (by decide)
  have e_2 : Unit → zvn σ (5, 110500918591488) = x_tk := fun _ => zvE50 110500918591488 100 rfl (b_100 ())
  have e_3 : Unit → zvn σ (5, 112699941847040) = ((f 17 + 2) + ((3 * (f 17)) + 3)) := fun _ => zvE50 112699941847040 102 rfl (b_102 ())
  have e_4 : Unit → zvn σ (0, 3) = 3 := fun _ => zvk0 (by decide)
  have e_5 : Unit → zvn σ (5, 111600430219267) = ((3 * (f 17)) + 3) := fun _ => zvE5p 111600430219267 101 3 rfl (by decide) (b_101 ())
  have e_6 : Unit → zvn σ (5, 19241453486082) = (f 17 + 2) := fun _ => zvE5p 19241453486082 17 2 rfl (by decide) (b_17 ())
  have e_7 : Unit → zvn σ (5, 225949639507968) = (f 205) := fun _ => zvE50 225949639507968 205 rfl (b_205 ())
  have e_8 : Unit → zvn σ (0, 0) = 0 := fun _ => zvk0 (by decide)
  have e_9 : Unit → zvn σ (5, 19241453486080) = (f 17) := fun _ => zvE50 19241453486080 17 rfl (b_17 ())
  have e_10 : Unit → zvn σ (0, 1) = 1 := fun _ => zvk0 (by decide)
  exact ⟨zas [(205, (f 205)), (212, (f 17 + 2)), (213, x_tk), (214, 0), (17, (f 17)), (18, 1)], fun a j => zupd σ zw_yE5 a j (g a j), rfl, rfl, rfl, rfl, rfl, rfl, (fun x => zu0), (fun x => zu0), (fun x => zu0), zbd_of X hσ hrg zbf_yE5 hbd, fun A H go => zlawA hA H zbk_yE5 zbl_yE5 zbm_yE5 zbs_yE5 zbf_yE5 zbw_yE5 _ σ hσ f (zas [(205, (f 205)), (212, (f 17 + 2)), (213, x_tk), (214, 0), (17, (f 17)), (18, 1)]) g hbd hrg (zFc (205, 63, 17) (5, 225949639507968) ((e_7 ()).symm) (zFc (212, 64, 9) (5, 19241453486082) (q_212.trans (e_6 ()).symm) (zFc (213, 64, 10) (5, 110500918591488) (q_213.trans (e_2 ()).symm) (zFc (214, 64, 11) (0, 0) (q_214.trans (e_8 ()).symm) (True.intro))))) (zFc (205, 63, 17) (5, 225949639507968) ((e_7 ()).symm) (zFc (212, 64, 9) (5, 19241453486082) ((e_6 ()).symm) (zFc (213, 64, 10) (5, 110500918591488) ((e_2 ()).symm) (zFc (214, 64, 11) (0, 0) ((e_8 ()).symm) (True.intro))))) (zLrc (True.intro) (zLrc (Or.inl ⟨rfl, rfl⟩) (zLrc (Or.inr (Or.inl ⟨_, rfl, rfl, rfl, (zb0v f 17).trans ((e_9 ()).symm)⟩)) (zLrc (Or.inl ⟨rfl, rfl⟩) (zLrc (True.intro) (zLrc (True.intro) (zLrc (True.intro) (zLrn)))))))) (zLrc (True.intro) (zLrc (Or.inl ⟨rfl, rfl⟩) (zLrc (Or.inr (Or.inl ⟨_, rfl, rfl, rfl, zb0w (zas [(205, (f 205)), (212, (f 17 + 2)), (213, x_tk), (214, 0), (17, (f 17)), (18, 1)]) 17 (e_9 ()) rfl⟩)) (zLrc (Or.inl ⟨rfl, rfl⟩) (zLrc (Or.inr (Or.inl ⟨_, rfl, rfl, rfl, zb0w (zas [(205, (f 205)), (212, (f 17 + 2)), (213, x_tk), (214, 0), (17, (f 17)), (18, 1)]) 18 (e_10 ()) rfl⟩)) (zLrc (True.intro) (zLrc (True.intro) (zLrn)))))))) (zEc ((5, 110500918591488), (5, 112699941847040), 1) (zcmE (e_2 ()) (e_3 ()) c_0) (True.intro)) (zEc (2, (0, 3), (5, 19241453486081), (5, 111600430219267)) (Or.inl ⟨by decide +kernel, zopE (e_4 ()) (e_0 ()) (e_5 ()) (zq_yE5_0 f g r_17)⟩) (zEc (0, (5, 19241453486082), (5, 111600430219267), (5, 112699941847040)) (Or.inl ⟨by decide +kernel, zopE (e_6 ()) (e_5 ()) (e_3 ()) (zq_yE5_1 f g r_17)⟩) (True.intro))) (zEc (276, 0, (5, 19241453486081), (0, 4294967288), (0, 4294967288)) ((congrArg (g 276) (e_0 ())).trans (k_0.trans (e_1 ()).symm)) (True.intro)) (fun _ => go)⟩
def zrg_yS0 : List (Nat × Nat × Nat) := [(17, 9223372036854775809, 9223372036854775824), (18, 9223372036854775809, 9223372036854775824), (205, 9223372036854775808, 9223372036854776808), (212, 9223372036854775808, 9223372036854775826), (213, 9223372036854775808, 9223372036854776008), (214, 9223372036854775808, 9223372036854775826)]
def zcm_yS0 : List (ZV × ZV × Nat) := [((5, 20340965113856), (5, 19241453486080), 0)]
def zop_yS0 : List (Nat × ZV × ZV × ZV) := []
def zky_yS0 : List ZKy := []
def zw_yS0 : List (Nat × ZV × ZV) := []
def zfi_yS0 : List ZV := [(5, 225949639507968), (5, 233646220902400), (5, 234745732530176), (5, 235845244157952)]
def zff_yS0 : List ZV := [(5, 225949639507968), (5, 233646220902400), (5, 234745732530176), (5, 235845244157952)]
noncomputable def zla_yS0 : ZL := [none, some (3, 0), some (5, 19241453486080), some (3, 264), some (5, 20340965113856), none, none]
noncomputable def zlb_yS0 : ZL := [none, some (3, 0), some (5, 19241453486080), some (3, 264), some (5, 20340965113856), some (5, 20340965113856), none]
theorem zbk_yS0 : zlbB 2 3 (zmkN zrg_yS0 zcm_yS0 zop_yS0 zky_yS0) 55 zla_yS0 zlb_yS0 zfi_yS0 zff_yS0 zky_yS0 = true := by decide +kernel
theorem zbl_yS0 : zblkL (zlC 2) (zlH 2) zfi_yS0 zfi_yS0 zky_yS0 = true := by decide +kernel
theorem zbm_yS0 : zblkL (zlC 3) (zlH 3) zff_yS0 zff_yS0 zky_yS0 = true := by decide +kernel
theorem zbs_yS0 : zstB (zlC 2) (zlH 2) zrg_yS0 zcm_yS0 [] zky_yS0 [] = true := by decide +kernel
theorem zbf_yS0 : zw_yS0.all (fun q => zfitB zrg_yS0 q.2.2) = true := by decide +kernel
theorem zbw_yS0 : zwkf zky_yS0 = zw_yS0 := by decide +kernel
theorem zW_yS0 (hA : zAll) (X : ZX) {Ls : Nat} {xs : Nat → Int32} (f : Nat → Int) (g : Nat → Int → Int) (hbd : zBd g)
    (r_17 : 1 ≤ f 17 ∧ f 17 ≤ 16) (r_18 : 1 ≤ f 18 ∧ f 18 ≤ 16) (r_205 : 0 ≤ f 205 ∧ f 205 ≤ 1000) (r_212 : 0 ≤ f 212 ∧ f 212 ≤ 18) (r_213 : 0 ≤ f 213 ∧ f 213 ≤ 200) (r_214 : 0 ≤ f 214 ∧ f 214 ≤ 18) (c_0 : (f 18) < (f 17))
    : ∃ (f' : Nat → Int) (g' : Nat → Int → Int), (f' 205 = (f 205)) ∧ (f' 212 = (f 212)) ∧ (f' 213 = (f 213)) ∧ (f' 214 = (f 214)) ∧ (f' 17 = (f 17)) ∧ (f' 18 = (f 18)) ∧ (f' 19 = (f 18)) ∧ (∀ x, g' 276 x = g 276 x) ∧ (∀ x, g' 277 x = g 277 x) ∧ (∀ x, g' 262 x = g 262 x) ∧ zBd g' ∧ zToL Ls xs 2 f g 3 f' g' := by
  have hrg : zRgs zrg_yS0 [(17, f 17), (18, f 18), (205, f 205), (212, f 212), (213, f 213), (214, f 214)] := zRqe 17 9223372036854775809 9223372036854775824 (f 17) (1) (16) r_17 (by decide) (by decide) (zRqe 18 9223372036854775809 9223372036854775824 (f 18) (1) (16) r_18 (by decide) (by decide) (zRqe 205 9223372036854775808 9223372036854776808 (f 205) (0) (1000) r_205 (by decide) (by decide) (zRqe 212 9223372036854775808 9223372036854775826 (f 212) (0) (18) r_212 (by decide) (by decide) (zRqe 213 9223372036854775808 9223372036854776008 (f 213) (0) (200) r_213 (by decide) (by decide) (zRqe 214 9223372036854775808 9223372036854775826 (f 214) (0) (18) r_214 (by decide) (by decide) (True.intro))))))
  obtain ⟨σ, hσ⟩ : ∃ σ, σ = zas [(17, f 17), (18, f 18), (205, f 205), (212, f 212), (213, f 213), (214, f 214)] := ⟨_, rfl⟩
  have b_17 : Unit → σ 17 = f 17 := fun _ => by rw [hσ]; rfl
  have b_18 : Unit → σ 18 = f 18 := fun _ => by rw [hσ]; rfl
  have b_205 : Unit → σ 205 = f 205 := fun _ => by rw [hσ]; rfl
  have b_212 : Unit → σ 212 = f 212 := fun _ => by rw [hσ]; rfl
  have b_213 : Unit → σ 213 = f 213 := fun _ => by rw [hσ]; rfl
  have b_214 : Unit → σ 214 = f 214 := fun _ => by rw [hσ]; rfl
  have e_0 : Unit → zvn σ (5, 20340965113856) = (f 18) := fun _ => zvE50 20340965113856 18 rfl (b_18 ())
  have e_1 : Unit → zvn σ (5, 19241453486080) = (f 17) := fun _ => zvE50 19241453486080 17 rfl (b_17 ())
  have e_2 : Unit → zvn σ (5, 225949639507968) = (f 205) := fun _ => zvE50 225949639507968 205 rfl (b_205 ())
  have e_3 : Unit → zvn σ (5, 233646220902400) = (f 212) := fun _ => zvE50 233646220902400 212 rfl (b_212 ())
  have e_4 : Unit → zvn σ (5, 234745732530176) = (f 213) := fun _ => zvE50 234745732530176 213 rfl (b_213 ())
  have e_5 : Unit → zvn σ (5, 235845244157952) = (f 214) := fun _ => zvE50 235845244157952 214 rfl (b_214 ())
  exact ⟨zas [(205, (f 205)), (212, (f 212)), (213, (f 213)), (214, (f 214)), (17, (f 17)), (18, (f 18)), (19, (f 18))], fun a j => zupd σ zw_yS0 a j (g a j), rfl, rfl, rfl, rfl, rfl, rfl, rfl, (fun x => zu0), (fun x => zu0), (fun x => zu0), zbd_of X hσ hrg zbf_yS0 hbd, fun A H go => zlawA hA H zbk_yS0 zbl_yS0 zbm_yS0 zbs_yS0 zbf_yS0 zbw_yS0 _ σ hσ f (zas [(205, (f 205)), (212, (f 212)), (213, (f 213)), (214, (f 214)), (17, (f 17)), (18, (f 18)), (19, (f 18))]) g hbd hrg (zFc (205, 63, 17) (5, 225949639507968) ((e_2 ()).symm) (zFc (212, 64, 9) (5, 233646220902400) ((e_3 ()).symm) (zFc (213, 64, 10) (5, 234745732530176) ((e_4 ()).symm) (zFc (214, 64, 11) (5, 235845244157952) ((e_5 ()).symm) (True.intro))))) (zFc (205, 63, 17) (5, 225949639507968) ((e_2 ()).symm) (zFc (212, 64, 9) (5, 233646220902400) ((e_3 ()).symm) (zFc (213, 64, 10) (5, 234745732530176) ((e_4 ()).symm) (zFc (214, 64, 11) (5, 235845244157952) ((e_5 ()).symm) (True.intro))))) (zLrc (True.intro) (zLrc (Or.inl ⟨rfl, rfl⟩) (zLrc (Or.inr (Or.inl ⟨_, rfl, rfl, rfl, (zb0v f 17).trans ((e_1 ()).symm)⟩)) (zLrc (Or.inl ⟨rfl, rfl⟩) (zLrc (Or.inr (Or.inl ⟨_, rfl, rfl, rfl, (zb0v f 18).trans ((e_0 ()).symm)⟩)) (zLrc (True.intro) (zLrc (True.intro) (zLrn)))))))) (zLrc (True.intro) (zLrc (Or.inl ⟨rfl, rfl⟩) (zLrc (Or.inr (Or.inl ⟨_, rfl, rfl, rfl, zb0w (zas [(205, (f 205)), (212, (f 212)), (213, (f 213)), (214, (f 214)), (17, (f 17)), (18, (f 18)), (19, (f 18))]) 17 (e_1 ()) rfl⟩)) (zLrc (Or.inl ⟨rfl, rfl⟩) (zLrc (Or.inr (Or.inl ⟨_, rfl, rfl, rfl, zb0w (zas [(205, (f 205)), (212, (f 212)), (213, (f 213)), (214, (f 214)), (17, (f 17)), (18, (f 18)), (19, (f 18))]) 18 (e_0 ()) rfl⟩)) (zLrc (Or.inr (Or.inl ⟨_, rfl, rfl, rfl, zb0w (zas [(205, (f 205)), (212, (f 212)), (213, (f 213)), (214, (f 214)), (17, (f 17)), (18, (f 18)), (19, (f 18))]) 19 (e_0 ()) rfl⟩)) (zLrc (True.intro) (zLrn)))))))) (zEc ((5, 20340965113856), (5, 19241453486080), 0) (zcmE (e_0 ()) (e_1 ()) c_0) (True.intro)) (True.intro) (True.intro) (fun _ => go)⟩
def zrg_yS4 : List (Nat × Nat × Nat) := [(17, 9223372036854775809, 9223372036854775824), (205, 9223372036854775808, 9223372036854776808), (212, 9223372036854775808, 9223372036854775826), (213, 9223372036854775808, 9223372036854776008), (214, 9223372036854775808, 9223372036854775826)]
def zcm_yS4 : List (ZV × ZV × Nat) := []
def zop_yS4 : List (Nat × ZV × ZV × ZV) := []
def zky_yS4 : List ZKy := []
def zw_yS4 : List (Nat × ZV × ZV) := []
def zfi_yS4 : List ZV := [(5, 225949639507968), (5, 233646220902400), (5, 234745732530176), (5, 235845244157952)]
def zff_yS4 : List ZV := [(5, 225949639507968), (5, 233646220902400), (5, 234745732530176), (5, 235845244157952)]
noncomputable def zla_yS4 : ZL := [none, some (3, 0), some (5, 19241453486080), some (3, 264), some (5, 19241453486080), none, none]
noncomputable def zlb_yS4 : ZL := [none, some (3, 0), some (5, 19241453486080), some (3, 264), some (0, 0), some (0, 0), none]
theorem zbk_yS4 : zlbB 2 4 (zmkN zrg_yS4 zcm_yS4 zop_yS4 zky_yS4) 57 zla_yS4 zlb_yS4 zfi_yS4 zff_yS4 zky_yS4 = true := by decide +kernel
theorem zbl_yS4 : zblkL (zlC 2) (zlH 2) zfi_yS4 zfi_yS4 zky_yS4 = true := by decide +kernel
theorem zbm_yS4 : zblkL (zlC 4) (zlH 4) zff_yS4 zff_yS4 zky_yS4 = true := by decide +kernel
theorem zbs_yS4 : zstB (zlC 2) (zlH 2) zrg_yS4 zcm_yS4 [] zky_yS4 [] = true := by decide +kernel
theorem zbf_yS4 : zw_yS4.all (fun q => zfitB zrg_yS4 q.2.2) = true := by decide +kernel
theorem zbw_yS4 : zwkf zky_yS4 = zw_yS4 := by decide +kernel
theorem zW_yS4 (hA : zAll) (X : ZX) {Ls : Nat} {xs : Nat → Int32} (f : Nat → Int) (g : Nat → Int → Int) (hbd : zBd g)
    (r_17 : 1 ≤ f 17 ∧ f 17 ≤ 16) (r_205 : 0 ≤ f 205 ∧ f 205 ≤ 1000) (r_212 : 0 ≤ f 212 ∧ f 212 ≤ 18) (r_213 : 0 ≤ f 213 ∧ f 213 ≤ 200) (r_214 : 0 ≤ f 214 ∧ f 214 ≤ 18) (q_18 : f 18 = (f 17))
    : ∃ (f' : Nat → Int) (g' : Nat → Int → Int), (f' 205 = (f 205)) ∧ (f' 212 = (f 212)) ∧ (f' 213 = (f 213)) ∧ (f' 214 = (f 214)) ∧ (f' 17 = (f 17)) ∧ (f' 20 = 0) ∧ (f' 19 = 0) ∧ (∀ x, g' 276 x = g 276 x) ∧ (∀ x, g' 277 x = g 277 x) ∧ (∀ x, g' 262 x = g 262 x) ∧ zBd g' ∧ zToL Ls xs 2 f g 4 f' g' := by
  have hrg : zRgs zrg_yS4 [(17, f 17), (205, f 205), (212, f 212), (213, f 213), (214, f 214)] := zRqe 17 9223372036854775809 9223372036854775824 (f 17) (1) (16) r_17 (by decide) (by decide) (zRqe 205 9223372036854775808 9223372036854776808 (f 205) (0) (1000) r_205 (by decide) (by decide) (zRqe 212 9223372036854775808 9223372036854775826 (f 212) (0) (18) r_212 (by decide) (by decide) (zRqe 213 9223372036854775808 9223372036854776008 (f 213) (0) (200) r_213 (by decide) (by decide) (zRqe 214 9223372036854775808 9223372036854775826 (f 214) (0) (18) r_214 (by decide) (by decide) (True.intro)))))
  obtain ⟨σ, hσ⟩ : ∃ σ, σ = zas [(17, f 17), (205, f 205), (212, f 212), (213, f 213), (214, f 214)] := ⟨_, rfl⟩
  have b_17 : Unit → σ 17 = f 17 := fun _ => by rw [hσ]; rfl
  have b_205 : Unit → σ 205 = f 205 := fun _ => by rw [hσ]; rfl
  have b_212 : Unit → σ 212 = f 212 := fun _ => by rw [hσ]; rfl
  have b_213 : Unit → σ 213 = f 213 := fun _ => by rw [hσ]; rfl
  have b_214 : Unit → σ 214 = f 214 := fun _ => by rw [hσ]; rfl
  have e_0 : Unit → zvn σ (5, 225949639507968) = (f 205) := fun _ => zvE50 225949639507968 205 rfl (b_205 ())
  have e_1 : Unit → zvn σ (5, 233646220902400) = (f 212) := fun _ => zvE50 233646220902400 212 rfl (b_212 ())
  have e_2 : Unit → zvn σ (5, 234745732530176) = (f 213) := fun _ => zvE50 234745732530176 213 rfl (b_213 ())
  have e_3 : Unit → zvn σ (5, 235845244157952) = (f 214) := fun _ => zvE50 235845244157952 214 rfl (b_214 ())
  have e_4 : Unit → zvn σ (5, 19241453486080) = (f 17) := fun _ => zvE50 19241453486080 17 rfl (b_17 ())
  have e_5 : Unit → zvn σ (0, 0) = 0 := fun _ => zvk0 (by decide)
  exact ⟨zas [(205, (f 205)), (212, (f 212)), (213, (f 213)), (214, (f 214)), (17, (f 17)), (20, 0), (19, 0)], fun a j => zupd σ zw_yS4 a j (g a j), rfl, rfl, rfl, rfl, rfl, rfl, rfl, (fun x => zu0), (fun x => zu0), (fun x => zu0), zbd_of X hσ hrg zbf_yS4 hbd, fun A H go => zlawA hA H zbk_yS4 zbl_yS4 zbm_yS4 zbs_yS4 zbf_yS4 zbw_yS4 _ σ hσ f (zas [(205, (f 205)), (212, (f 212)), (213, (f 213)), (214, (f 214)), (17, (f 17)), (20, 0), (19, 0)]) g hbd hrg (zFc (205, 63, 17) (5, 225949639507968) ((e_0 ()).symm) (zFc (212, 64, 9) (5, 233646220902400) ((e_1 ()).symm) (zFc (213, 64, 10) (5, 234745732530176) ((e_2 ()).symm) (zFc (214, 64, 11) (5, 235845244157952) ((e_3 ()).symm) (True.intro))))) (zFc (205, 63, 17) (5, 225949639507968) ((e_0 ()).symm) (zFc (212, 64, 9) (5, 233646220902400) ((e_1 ()).symm) (zFc (213, 64, 10) (5, 234745732530176) ((e_2 ()).symm) (zFc (214, 64, 11) (5, 235845244157952) ((e_3 ()).symm) (True.intro))))) (zLrc (True.intro) (zLrc (Or.inl ⟨rfl, rfl⟩) (zLrc (Or.inr (Or.inl ⟨_, rfl, rfl, rfl, (zb0v f 17).trans ((e_4 ()).symm)⟩)) (zLrc (Or.inl ⟨rfl, rfl⟩) (zLrc (Or.inr (Or.inl ⟨_, rfl, rfl, rfl, (zb0v f 18).trans (q_18.trans (e_4 ()).symm)⟩)) (zLrc (True.intro) (zLrc (True.intro) (zLrn)))))))) (zLrc (True.intro) (zLrc (Or.inl ⟨rfl, rfl⟩) (zLrc (Or.inr (Or.inl ⟨_, rfl, rfl, rfl, zb0w (zas [(205, (f 205)), (212, (f 212)), (213, (f 213)), (214, (f 214)), (17, (f 17)), (20, 0), (19, 0)]) 17 (e_4 ()) rfl⟩)) (zLrc (Or.inl ⟨rfl, rfl⟩) (zLrc (Or.inr (Or.inl ⟨_, rfl, rfl, rfl, zb0w (zas [(205, (f 205)), (212, (f 212)), (213, (f 213)), (214, (f 214)), (17, (f 17)), (20, 0), (19, 0)]) 20 (e_5 ()) rfl⟩)) (zLrc (Or.inr (Or.inl ⟨_, rfl, rfl, rfl, zb0w (zas [(205, (f 205)), (212, (f 212)), (213, (f 213)), (214, (f 214)), (17, (f 17)), (20, 0), (19, 0)]) 19 (e_5 ()) rfl⟩)) (zLrc (True.intro) (zLrn)))))))) (True.intro) (True.intro) (True.intro) (fun _ => go)⟩
def zrg_yS1 : List (Nat × Nat × Nat) := [(17, 9223372036854775809, 9223372036854775824), (18, 9223372036854775809, 9223372036854775823), (205, 9223372036854775808, 9223372036854776808), (212, 9223372036854775808, 9223372036854775826), (213, 9223372036854775808, 9223372036854776008), (214, 9223372036854775808, 9223372036854775826)]
def zcm_yS1 : List (ZV × ZV × Nat) := []
def zop_yS1 : List (Nat × ZV × ZV × ZV) := []
def zky_yS1 : List ZKy := []
def zw_yS1 : List (Nat × ZV × ZV) := []
def zfi_yS1 : List ZV := [(5, 225949639507968), (5, 233646220902400), (5, 234745732530176), (5, 235845244157952)]
def zff_yS1 : List ZV := [(5, 225949639507968), (5, 233646220902400), (5, 234745732530176), (5, 235845244157952)]
noncomputable def zla_yS1 : ZL := [none, some (3, 0), some (5, 19241453486080), some (3, 264), some (5, 20340965113856), some (0, 0), none]
noncomputable def zlb_yS1 : ZL := [none, some (3, 0), some (5, 19241453486080), some (3, 264), some (5, 20340965113857), none, none]
theorem zbk_yS1 : zlbB 3 2 (zmkN zrg_yS1 zcm_yS1 zop_yS1 zky_yS1) 54 zla_yS1 zlb_yS1 zfi_yS1 zff_yS1 zky_yS1 = true := by decide +kernel
theorem zbl_yS1 : zblkL (zlC 3) (zlH 3) zfi_yS1 zfi_yS1 zky_yS1 = true := by decide +kernel
theorem zbm_yS1 : zblkL (zlC 2) (zlH 2) zff_yS1 zff_yS1 zky_yS1 = true := by decide +kernel
theorem zbs_yS1 : zstB (zlC 3) (zlH 3) zrg_yS1 zcm_yS1 [] zky_yS1 [] = true := by decide +kernel
theorem zbf_yS1 : zw_yS1.all (fun q => zfitB zrg_yS1 q.2.2) = true := by decide +kernel
theorem zbw_yS1 : zwkf zky_yS1 = zw_yS1 := by decide +kernel
theorem zW_yS1 (hA : zAll) (X : ZX) {Ls : Nat} {xs : Nat → Int32} (f : Nat → Int) (g : Nat → Int → Int) (hbd : zBd g)
    (r_17 : 1 ≤ f 17 ∧ f 17 ≤ 16) (r_18 : 1 ≤ f 18 ∧ f 18 ≤ 15) (r_205 : 0 ≤ f 205 ∧ f 205 ≤ 1000) (r_212 : 0 ≤ f 212 ∧ f 212 ≤ 18) (r_213 : 0 ≤ f 213 ∧ f 213 ≤ 200) (r_214 : 0 ≤ f 214 ∧ f 214 ≤ 18) (q_19 : f 19 = 0)
    : ∃ (f' : Nat → Int) (g' : Nat → Int → Int), (f' 205 = (f 205)) ∧ (f' 212 = (f 212)) ∧ (f' 213 = (f 213)) ∧ (f' 214 = (f 214)) ∧ (f' 17 = (f 17)) ∧ (f' 18 = (f 18 + 1)) ∧ (∀ x, g' 276 x = g 276 x) ∧ (∀ x, g' 277 x = g 277 x) ∧ (∀ x, g' 262 x = g 262 x) ∧ zBd g' ∧ zToL Ls xs 3 f g 2 f' g' := by
  have hrg : zRgs zrg_yS1 [(17, f 17), (18, f 18), (205, f 205), (212, f 212), (213, f 213), (214, f 214)] := zRqe 17 9223372036854775809 9223372036854775824 (f 17) (1) (16) r_17 (by decide) (by decide) (zRqe 18 9223372036854775809 9223372036854775823 (f 18) (1) (15) r_18 (by decide) (by decide) (zRqe 205 9223372036854775808 9223372036854776808 (f 205) (0) (1000) r_205 (by decide) (by decide) (zRqe 212 9223372036854775808 9223372036854775826 (f 212) (0) (18) r_212 (by decide) (by decide) (zRqe 213 9223372036854775808 9223372036854776008 (f 213) (0) (200) r_213 (by decide) (by decide) (zRqe 214 9223372036854775808 9223372036854775826 (f 214) (0) (18) r_214 (by decide) (by decide) (True.intro))))))
  obtain ⟨σ, hσ⟩ : ∃ σ, σ = zas [(17, f 17), (18, f 18), (205, f 205), (212, f 212), (213, f 213), (214, f 214)] := ⟨_, rfl⟩
  have b_17 : Unit → σ 17 = f 17 := fun _ => by rw [hσ]; rfl
  have b_18 : Unit → σ 18 = f 18 := fun _ => by rw [hσ]; rfl
  have b_205 : Unit → σ 205 = f 205 := fun _ => by rw [hσ]; rfl
  have b_212 : Unit → σ 212 = f 212 := fun _ => by rw [hσ]; rfl
  have b_213 : Unit → σ 213 = f 213 := fun _ => by rw [hσ]; rfl
  have b_214 : Unit → σ 214 = f 214 := fun _ => by rw [hσ]; rfl
  have e_0 : Unit → zvn σ (5, 225949639507968) = (f 205) := fun _ => zvE50 225949639507968 205 rfl (b_205 ())
  have e_1 : Unit → zvn σ (5, 233646220902400) = (f 212) := fun _ => zvE50 233646220902400 212 rfl (b_212 ())
  have e_2 : Unit → zvn σ (5, 234745732530176) = (f 213) := fun _ => zvE50 234745732530176 213 rfl (b_213 ())
  have e_3 : Unit → zvn σ (5, 235845244157952) = (f 214) := fun _ => zvE50 235845244157952 214 rfl (b_214 ())
  have e_4 : Unit → zvn σ (5, 19241453486080) = (f 17) := fun _ => zvE50 19241453486080 17 rfl (b_17 ())
  have e_5 : Unit → zvn σ (5, 20340965113856) = (f 18) := fun _ => zvE50 20340965113856 18 rfl (b_18 ())
  have e_6 : Unit → zvn σ (0, 0) = 0 := fun _ => zvk0 (by decide)
  have e_7 : Unit → zvn σ (5, 20340965113857) = (f 18 + 1) := fun _ => zvE5p 20340965113857 18 1 rfl (by decide) (b_18 ())
  exact ⟨zas [(205, (f 205)), (212, (f 212)), (213, (f 213)), (214, (f 214)), (17, (f 17)), (18, (f 18 + 1))], fun a j => zupd σ zw_yS1 a j (g a j), rfl, rfl, rfl, rfl, rfl, rfl, (fun x => zu0), (fun x => zu0), (fun x => zu0), zbd_of X hσ hrg zbf_yS1 hbd, fun A H go => zlawA hA H zbk_yS1 zbl_yS1 zbm_yS1 zbs_yS1 zbf_yS1 zbw_yS1 _ σ hσ f (zas [(205, (f 205)), (212, (f 212)), (213, (f 213)), (214, (f 214)), (17, (f 17)), (18, (f 18 + 1))]) g hbd hrg (zFc (205, 63, 17) (5, 225949639507968) ((e_0 ()).symm) (zFc (212, 64, 9) (5, 233646220902400) ((e_1 ()).symm) (zFc (213, 64, 10) (5, 234745732530176) ((e_2 ()).symm) (zFc (214, 64, 11) (5, 235845244157952) ((e_3 ()).symm) (True.intro))))) (zFc (205, 63, 17) (5, 225949639507968) ((e_0 ()).symm) (zFc (212, 64, 9) (5, 233646220902400) ((e_1 ()).symm) (zFc (213, 64, 10) (5, 234745732530176) ((e_2 ()).symm) (zFc (214, 64, 11) (5, 235845244157952) ((e_3 ()).symm) (True.intro))))) (zLrc (True.intro) (zLrc (Or.inl ⟨rfl, rfl⟩) (zLrc (Or.inr (Or.inl ⟨_, rfl, rfl, rfl, (zb0v f 17).trans ((e_4 ()).symm)⟩)) (zLrc (Or.inl ⟨rfl, rfl⟩) (zLrc (Or.inr (Or.inl ⟨_, rfl, rfl, rfl, (zb0v f 18).trans ((e_5 ()).symm)⟩)) (zLrc (Or.inr (Or.inl ⟨_, rfl, rfl, rfl, (zb0v f 19).trans (q_19.trans (e_6 ()).symm)⟩)) (zLrc (True.intro) (zLrn)))))))) (zLrc (True.intro) (zLrc (Or.inl ⟨rfl, rfl⟩) (zLrc (Or.inr (Or.inl ⟨_, rfl, rfl, rfl, zb0w (zas [(205, (f 205)), (212, (f 212)), (213, (f 213)), (214, (f 214)), (17, (f 17)), (18, (f 18 + 1))]) 17 (e_4 ()) rfl⟩)) (zLrc (Or.inl ⟨rfl, rfl⟩) (zLrc (Or.inr (Or.inl ⟨_, rfl, rfl, rfl, zb0w (zas [(205, (f 205)), (212, (f 212)), (213, (f 213)), (214, (f 214)), (17, (f 17)), (18, (f 18 + 1))]) 18 (e_7 ()) rfl⟩)) (zLrc (True.intro) (zLrc (True.intro) (zLrn)))))))) (True.intro) (True.intro) (True.intro) (fun _ => go)⟩
def zrg_yS2 : List (Nat × Nat × Nat) := [(17, 9223372036854775809, 9223372036854775824), (18, 9223372036854775809, 9223372036854775823), (19, 9223372036854775809, 9223372036854775823), (100, 9223372034707292161, 9223372039002259455), (101, 9223372034707292161, 9223372039002259455), (205, 9223372036854775808, 9223372036854776808), (212, 9223372036854775808, 9223372036854775826), (213, 9223372036854775808, 9223372036854776008), (214, 9223372036854775808, 9223372036854775826)]
def zcm_yS2 : List (ZV × ZV × Nat) := [((5, 110500918591488), (5, 111600430219264), 3)]
def zop_yS2 : List (Nat × ZV × ZV × ZV) := []
def zky_yS2 : List ZKy := [(262, 0, (5, 21440476741631), (5, 110500918591488), (5, 110500918591488)), (262, 1, (5, 21440476741632), (5, 111600430219264), (5, 111600430219264))]
def zw_yS2 : List (Nat × ZV × ZV) := []
def zfi_yS2 : List ZV := [(5, 225949639507968), (5, 233646220902400), (5, 234745732530176), (5, 235845244157952)]
def zff_yS2 : List ZV := [(5, 225949639507968), (5, 233646220902400), (5, 234745732530176), (5, 235845244157952)]
noncomputable def zla_yS2 : ZL := [none, some (3, 0), some (5, 19241453486080), some (3, 264), some (5, 20340965113856), some (5, 21440476741632), none]
noncomputable def zlb_yS2 : ZL := [none, some (3, 0), some (5, 19241453486080), some (3, 264), some (5, 20340965113857), none, none]
theorem zbk_yS2 : zlbB 3 2 (zmkN zrg_yS2 zcm_yS2 zop_yS2 zky_yS2) 63 zla_yS2 zlb_yS2 zfi_yS2 zff_yS2 zky_yS2 = true := by decide +kernel
theorem zbl_yS2 : zblkL (zlC 3) (zlH 3) zfi_yS2 zfi_yS2 zky_yS2 = true := by decide +kernel
theorem zbm_yS2 : zblkL (zlC 2) (zlH 2) zff_yS2 zff_yS2 zky_yS2 = true := by decide +kernel
theorem zbs_yS2 : zstB (zlC 3) (zlH 3) zrg_yS2 zcm_yS2 [] zky_yS2 [] = true := by decide +kernel
theorem zbf_yS2 : zw_yS2.all (fun q => zfitB zrg_yS2 q.2.2) = true := by decide +kernel
theorem zbw_yS2 : zwkf zky_yS2 = zw_yS2 := by decide +kernel
theorem zW_yS2 (hA : zAll) (X : ZX) {Ls : Nat} {xs : Nat → Int32} (f : Nat → Int) (g : Nat → Int → Int) (hbd : zBd g) (x_v0 : Int) (x_v1 : Int)
    (r_17 : 1 ≤ f 17 ∧ f 17 ≤ 16) (r_18 : 1 ≤ f 18 ∧ f 18 ≤ 15) (r_19 : 1 ≤ f 19 ∧ f 19 ≤ 15) (r_205 : 0 ≤ f 205 ∧ f 205 ≤ 1000) (r_212 : 0 ≤ f 212 ∧ f 212 ≤ 18) (r_213 : 0 ≤ f 213 ∧ f 213 ≤ 200) (r_214 : 0 ≤ f 214 ∧ f 214 ≤ 18) (r_v0 : (-2147483647) ≤ x_v0 ∧ x_v0 ≤ 2147483647) (r_v1 : (-2147483647) ≤ x_v1 ∧ x_v1 ≤ 2147483647) (c_0 : x_v0 ≤ x_v1) (k_0 : g 262 (f 19 - 1) = x_v0) (k_1 : g 262 (f 19) = x_v1)
    : ∃ (f' : Nat → Int) (g' : Nat → Int → Int), (f' 205 = (f 205)) ∧ (f' 212 = (f 212)) ∧ (f' 213 = (f 213)) ∧ (f' 214 = (f 214)) ∧ (f' 17 = (f 17)) ∧ (f' 18 = (f 18 + 1)) ∧ (∀ x, g' 276 x = g 276 x) ∧ (∀ x, g' 277 x = g 277 x) ∧ (∀ x, g' 262 x = g 262 x) ∧ zBd g' ∧ zToL Ls xs 3 f g 2 f' g' := by
  have hrg : zRgs zrg_yS2 [(17, f 17), (18, f 18), (19, f 19), (100, x_v0), (101, x_v1), (205, f 205), (212, f 212), (213, f 213), (214, f 214)] := zRqe 17 9223372036854775809 9223372036854775824 (f 17) (1) (16) r_17 (by decide) (by decide) (zRqe 18 9223372036854775809 9223372036854775823 (f 18) (1) (15) r_18 (by decide) (by decide) (zRqe 19 9223372036854775809 9223372036854775823 (f 19) (1) (15) r_19 (by decide) (by decide) (zRqe 100 9223372034707292161 9223372039002259455 (x_v0) ((-2147483647)) (2147483647) r_v0 (by decide) (by decide) (zRqe 101 9223372034707292161 9223372039002259455 (x_v1) ((-2147483647)) (2147483647) r_v1 (by decide) (by decide) (zRqe 205 9223372036854775808 9223372036854776808 (f 205) (0) (1000) r_205 (by decide) (by decide) (zRqe 212 9223372036854775808 9223372036854775826 (f 212) (0) (18) r_212 (by decide) (by decide) (zRqe 213 9223372036854775808 9223372036854776008 (f 213) (0) (200) r_213 (by decide) (by decide) (zRqe 214 9223372036854775808 9223372036854775826 (f 214) (0) (18) r_214 (by decide) (by decide) (True.intro)))))))))
  obtain ⟨σ, hσ⟩ : ∃ σ, σ = zas [(17, f 17), (18, f 18), (19, f 19), (100, x_v0), (101, x_v1), (205, f 205), (212, f 212), (213, f 213), (214, f 214)] := ⟨_, rfl⟩
  have b_17 : Unit → σ 17 = f 17 := fun _ => by rw [hσ]; rfl
  have b_18 : Unit → σ 18 = f 18 := fun _ => by rw [hσ]; rfl
  have b_19 : Unit → σ 19 = f 19 := fun _ => by rw [hσ]; rfl
  have b_100 : Unit → σ 100 = x_v0 := fun _ => by rw [hσ]; rfl
  have b_101 : Unit → σ 101 = x_v1 := fun _ => by rw [hσ]; rfl
  have b_205 : Unit → σ 205 = f 205 := fun _ => by rw [hσ]; rfl
  have b_212 : Unit → σ 212 = f 212 := fun _ => by rw [hσ]; rfl
  have b_213 : Unit → σ 213 = f 213 := fun _ => by rw [hσ]; rfl
  have b_214 : Unit → σ 214 = f 214 := fun _ => by rw [hσ]; rfl
  have e_0 : Unit → zvn σ (5, 21440476741631) = (f 19 - 1) := fun _ => zvE5m 21440476741631 19 1 rfl (by decide) (b_19 ())
  have e_1 : Unit → zvn σ (5, 110500918591488) = x_v0 := fun _ => zvE50 110500918591488 100 rfl (b_100 ())
  have e_2 : Unit → zvn σ (5, 21440476741632) = (f 19) := fun _ => zvE50 21440476741632 19 rfl (b_19 ())
  have e_3 : Unit → zvn σ (5, 111600430219264) = x_v1 := fun _ => zvE50 111600430219264 101 rfl (b_101 ())
  have e_4 : Unit → zvn σ (5, 225949639507968) = (f 205) := fun _ => zvE50 225949639507968 205 rfl (b_205 ())
  have e_5 : Unit → zvn σ (5, 233646220902400) = (f 212) := fun _ => zvE50 233646220902400 212 rfl (b_212 ())
  have e_6 : Unit → zvn σ (5, 234745732530176) = (f 213) := fun _ => zvE50 234745732530176 213 rfl (b_213 ())
  have e_7 : Unit → zvn σ (5, 235845244157952) = (f 214) := fun _ => zvE50 235845244157952 214 rfl (b_214 ())
  have e_8 : Unit → zvn σ (5, 19241453486080) = (f 17) := fun _ => zvE50 19241453486080 17 rfl (b_17 ())
  have e_9 : Unit → zvn σ (5, 20340965113856) = (f 18) := fun _ => zvE50 20340965113856 18 rfl (b_18 ())
  have e_10 : Unit → zvn σ (5, 20340965113857) = (f 18 + 1) := fun _ => zvE5p 20340965113857 18 1 rfl (by decide) (b_18 ())
  exact ⟨zas [(205, (f 205)), (212, (f 212)), (213, (f 213)), (214, (f 214)), (17, (f 17)), (18, (f 18 + 1))], fun a j => zupd σ zw_yS2 a j (g a j), rfl, rfl, rfl, rfl, rfl, rfl, (fun x => zu0), (fun x => zu0), (fun x => zu0), zbd_of X hσ hrg zbf_yS2 hbd, fun A H go => zlawA hA H zbk_yS2 zbl_yS2 zbm_yS2 zbs_yS2 zbf_yS2 zbw_yS2 _ σ hσ f (zas [(205, (f 205)), (212, (f 212)), (213, (f 213)), (214, (f 214)), (17, (f 17)), (18, (f 18 + 1))]) g hbd hrg (zFc (205, 63, 17) (5, 225949639507968) ((e_4 ()).symm) (zFc (212, 64, 9) (5, 233646220902400) ((e_5 ()).symm) (zFc (213, 64, 10) (5, 234745732530176) ((e_6 ()).symm) (zFc (214, 64, 11) (5, 235845244157952) ((e_7 ()).symm) (True.intro))))) (zFc (205, 63, 17) (5, 225949639507968) ((e_4 ()).symm) (zFc (212, 64, 9) (5, 233646220902400) ((e_5 ()).symm) (zFc (213, 64, 10) (5, 234745732530176) ((e_6 ()).symm) (zFc (214, 64, 11) (5, 235845244157952) ((e_7 ()).symm) (True.intro))))) (zLrc (True.intro) (zLrc (Or.inl ⟨rfl, rfl⟩) (zLrc (Or.inr (Or.inl ⟨_, rfl, rfl, rfl, (zb0v f 17).trans ((e_8 ()).symm)⟩)) (zLrc (Or.inl ⟨rfl, rfl⟩) (zLrc (Or.inr (Or.inl ⟨_, rfl, rfl, rfl, (zb0v f 18).trans ((e_9 ()).symm)⟩)) (zLrc (Or.inr (Or.inl ⟨_, rfl, rfl, rfl, (zb0v f 19).trans ((e_2 ()).symm)⟩)) (zLrc (True.intro) (zLrn)))))))) (zLrc (True.intro) (zLrc (Or.inl ⟨rfl, rfl⟩) (zLrc (Or.inr (Or.inl ⟨_, rfl, rfl, rfl, zb0w (zas [(205, (f 205)), (212, (f 212)), (213, (f 213)), (214, (f 214)), (17, (f 17)), (18, (f 18 + 1))]) 17 (e_8 ()) rfl⟩)) (zLrc (Or.inl ⟨rfl, rfl⟩) (zLrc (Or.inr (Or.inl ⟨_, rfl, rfl, rfl, zb0w (zas [(205, (f 205)), (212, (f 212)), (213, (f 213)), (214, (f 214)), (17, (f 17)), (18, (f 18 + 1))]) 18 (e_10 ()) rfl⟩)) (zLrc (True.intro) (zLrc (True.intro) (zLrn)))))))) (zEc ((5, 110500918591488), (5, 111600430219264), 3) (zcmE (e_1 ()) (e_3 ()) c_0) (True.intro)) (True.intro) (zEc (262, 0, (5, 21440476741631), (5, 110500918591488), (5, 110500918591488)) ((congrArg (g 262) (e_0 ())).trans (k_0.trans (e_1 ()).symm)) (zEc (262, 1, (5, 21440476741632), (5, 111600430219264), (5, 111600430219264)) ((congrArg (g 262) (e_2 ())).trans (k_1.trans (e_3 ()).symm)) (True.intro))) (fun _ => go)⟩
def zrg_yS3 : List (Nat × Nat × Nat) := [(17, 9223372036854775809, 9223372036854775824), (18, 9223372036854775809, 9223372036854775823), (19, 9223372036854775809, 9223372036854775823), (100, 9223372034707292161, 9223372039002259455), (101, 9223372034707292161, 9223372039002259455), (205, 9223372036854775808, 9223372036854776808), (212, 9223372036854775808, 9223372036854775826), (213, 9223372036854775808, 9223372036854776008), (214, 9223372036854775808, 9223372036854775826)]
def zcm_yS3 : List (ZV × ZV × Nat) := [((5, 110500918591488), (5, 111600430219264), 2)]
def zop_yS3 : List (Nat × ZV × ZV × ZV) := []
def zky_yS3 : List ZKy := [(262, 0, (5, 21440476741631), (5, 110500918591488), (5, 111600430219264)), (262, 1, (5, 21440476741632), (5, 111600430219264), (5, 110500918591488))]
def zw_yS3 : List (Nat × ZV × ZV) := [(262, (5, 21440476741631), (5, 111600430219264)), (262, (5, 21440476741632), (5, 110500918591488))]
def zfi_yS3 : List ZV := [(5, 225949639507968), (5, 233646220902400), (5, 234745732530176), (5, 235845244157952)]
def zff_yS3 : List ZV := [(5, 225949639507968), (5, 233646220902400), (5, 234745732530176), (5, 235845244157952)]
noncomputable def zla_yS3 : ZL := [none, some (3, 0), some (5, 19241453486080), some (3, 264), some (5, 20340965113856), some (5, 21440476741632), none]
noncomputable def zlb_yS3 : ZL := [none, some (3, 0), some (5, 19241453486080), some (3, 264), some (5, 20340965113856), some (5, 21440476741631), none]
theorem zbk_yS3 : zlbB 3 3 (zmkN zrg_yS3 zcm_yS3 zop_yS3 zky_yS3) 81 zla_yS3 zlb_yS3 zfi_yS3 zff_yS3 zky_yS3 = true := by decide +kernel
theorem zbl_yS3 : zblkL (zlC 3) (zlH 3) zfi_yS3 zfi_yS3 zky_yS3 = true := by decide +kernel
theorem zbm_yS3 : zblkL (zlC 3) (zlH 3) zff_yS3 zff_yS3 zky_yS3 = true := by decide +kernel
theorem zbs_yS3 : zstB (zlC 3) (zlH 3) zrg_yS3 zcm_yS3 [] zky_yS3 [] = true := by decide +kernel
theorem zbf_yS3 : zw_yS3.all (fun q => zfitB zrg_yS3 q.2.2) = true := by decide +kernel
theorem zbw_yS3 : zwkf zky_yS3 = zw_yS3 := by decide +kernel
theorem zq_yS3_0 (f : Nat → Int) (g : Nat → Int → Int) (r_19 : 1 ≤ f 19 ∧ f 19 ≤ 15) : ∀ x : Int, (x < (f 19) ∨ (f 19) < x) → ((f 19) : Int) ≠ x := by omega
theorem zq_yS3_1 (f : Nat → Int) (g : Nat → Int → Int) (r_19 : 1 ≤ f 19 ∧ f 19 ≤ 15) : ∀ x : Int, (x < (f 19 - 1) ∨ (f 19 - 1) < x) → ((f 19 - 1) : Int) ≠ x := by omega
theorem zq_yS3_2 (f : Nat → Int) (g : Nat → Int → Int) (r_19 : 1 ≤ f 19 ∧ f 19 ≤ 15) : ((f 19 - 1) : Int) ≠ (f 19) := by omega
theorem zW_yS3 (hA : zAll) (X : ZX) {Ls : Nat} {xs : Nat → Int32} (f : Nat → Int) (g : Nat → Int → Int) (hbd : zBd g) (x_v0 : Int) (x_v1 : Int)
    (r_17 : 1 ≤ f 17 ∧ f 17 ≤ 16) (r_18 : 1 ≤ f 18 ∧ f 18 ≤ 15) (r_19 : 1 ≤ f 19 ∧ f 19 ≤ 15) (r_205 : 0 ≤ f 205 ∧ f 205 ≤ 1000) (r_212 : 0 ≤ f 212 ∧ f 212 ≤ 18) (r_213 : 0 ≤ f 213 ∧ f 213 ≤ 200) (r_214 : 0 ≤ f 214 ∧ f 214 ≤ 18) (r_v0 : (-2147483647) ≤ x_v0 ∧ x_v0 ≤ 2147483647) (r_v1 : (-2147483647) ≤ x_v1 ∧ x_v1 ≤ 2147483647) (c_0 : x_v1 < x_v0) (k_0 : g 262 (f 19 - 1) = x_v0) (k_1 : g 262 (f 19) = x_v1)
    : ∃ (f' : Nat → Int) (g' : Nat → Int → Int), (f' 205 = (f 205)) ∧ (f' 212 = (f 212)) ∧ (f' 213 = (f 213)) ∧ (f' 214 = (f 214)) ∧ (f' 17 = (f 17)) ∧ (f' 18 = (f 18)) ∧ (f' 19 = (f 19 - 1)) ∧ (∀ x, g' 276 x = g 276 x) ∧ (∀ x, g' 277 x = g 277 x) ∧ (∀ x, (x < (f 19 - 1) ∨ (f 19 - 1) < x) → (x < (f 19) ∨ (f 19) < x) → g' 262 x = g 262 x) ∧ (g' 262 (f 19 - 1) = x_v1) ∧ (g' 262 (f 19) = x_v0) ∧ zBd g' ∧ zToL Ls xs 3 f g 3 f' g' := by
  have hrg : zRgs zrg_yS3 [(17, f 17), (18, f 18), (19, f 19), (100, x_v0), (101, x_v1), (205, f 205), (212, f 212), (213, f 213), (214, f 214)] := zRqe 17 9223372036854775809 9223372036854775824 (f 17) (1) (16) r_17 (by decide) (by decide) (zRqe 18 9223372036854775809 9223372036854775823 (f 18) (1) (15) r_18 (by decide) (by decide) (zRqe 19 9223372036854775809 9223372036854775823 (f 19) (1) (15) r_19 (by decide) (by decide) (zRqe 100 9223372034707292161 9223372039002259455 (x_v0) ((-2147483647)) (2147483647) r_v0 (by decide) (by decide) (zRqe 101 9223372034707292161 9223372039002259455 (x_v1) ((-2147483647)) (2147483647) r_v1 (by decide) (by decide) (zRqe 205 9223372036854775808 9223372036854776808 (f 205) (0) (1000) r_205 (by decide) (by decide) (zRqe 212 9223372036854775808 9223372036854775826 (f 212) (0) (18) r_212 (by decide) (by decide) (zRqe 213 9223372036854775808 9223372036854776008 (f 213) (0) (200) r_213 (by decide) (by decide) (zRqe 214 9223372036854775808 9223372036854775826 (f 214) (0) (18) r_214 (by decide) (by decide) (True.intro)))))))))
  obtain ⟨σ, hσ⟩ : ∃ σ, σ = zas [(17, f 17), (18, f 18), (19, f 19), (100, x_v0), (101, x_v1), (205, f 205), (212, f 212), (213, f 213), (214, f 214)] := ⟨_, rfl⟩
  have b_17 : Unit → σ 17 = f 17 := fun _ => by rw [hσ]; rfl
  have b_18 : Unit → σ 18 = f 18 := fun _ => by rw [hσ]; rfl
  have b_19 : Unit → σ 19 = f 19 := fun _ => by rw [hσ]; rfl
  have b_100 : Unit → σ 100 = x_v0 := fun _ => by rw [hσ]; rfl
  have b_101 : Unit → σ 101 = x_v1 := fun _ => by rw [hσ]; rfl
  have b_205 : Unit → σ 205 = f 205 := fun _ => by rw [hσ]; rfl
  have b_212 : Unit → σ 212 = f 212 := fun _ => by rw [hσ]; rfl
  have b_213 : Unit → σ 213 = f 213 := fun _ => by rw [hσ]; rfl
  have b_214 : Unit → σ 214 = f 214 := fun _ => by rw [hσ]; rfl
  have e_0 : Unit → zvn σ (5, 21440476741632) = (f 19) := fun _ => zvE50 21440476741632 19 rfl (b_19 ())
  have e_1 : Unit → zvn σ (5, 21440476741631) = (f 19 - 1) := fun _ => zvE5m 21440476741631 19 1 rfl (by decide) (b_19 ())
  have e_2 : Unit → zvn σ (5, 111600430219264) = x_v1 := fun _ => zvE50 111600430219264 101 rfl (b_101 ())
  have e_3 : Unit → zvn σ (5, 110500918591488) = x_v0 := fun _ => zvE50 110500918591488 100 rfl (b_100 ())
  have e_4 : Unit → zvn σ (5, 225949639507968) = (f 205) := fun _ => zvE50 225949639507968 205 rfl (b_205 ())
  have e_5 : Unit → zvn σ (5, 233646220902400) = (f 212) := fun _ => zvE50 233646220902400 212 rfl (b_212 ())
  have e_6 : Unit → zvn σ (5, 234745732530176) = (f 213) := fun _ => zvE50 234745732530176 213 rfl (b_213 ())
  have e_7 : Unit → zvn σ (5, 235845244157952) = (f 214) := fun _ => zvE50 235845244157952 214 rfl (b_214 ())
  have e_8 : Unit → zvn σ (5, 19241453486080) = (f 17) := fun _ => zvE50 19241453486080 17 rfl (b_17 ())
  have e_9 : Unit → zvn σ (5, 20340965113856) = (f 18) := fun _ => zvE50 20340965113856 18 rfl (b_18 ())
  exact ⟨zas [(205, (f 205)), (212, (f 212)), (213, (f 213)), (214, (f 214)), (17, (f 17)), (18, (f 18)), (19, (f 19 - 1))], fun a j => zupd σ zw_yS3 a j (g a j), rfl, rfl, rfl, rfl, rfl, rfl, rfl, (fun x => zuq rfl (zuq rfl (zu0))), (fun x => zuq rfl (zuq rfl (zu0))), (fun x h0 h1 => zum (zne5 (e_1 ()) (zq_yS3_1 f g r_19 x h0)) (zum (zne5 (e_0 ()) (zq_yS3_0 f g r_19 x h1)) (zu0))), (zuh (e_1 ()) (e_2 ())), (zum (zne5 (e_1 ()) (zq_yS3_2 f g r_19)) (zuh (e_0 ()) (e_3 ()))), zbd_of X hσ hrg zbf_yS3 hbd, fun A H go => zlawA hA H zbk_yS3 zbl_yS3 zbm_yS3 zbs_yS3 zbf_yS3 zbw_yS3 _ σ hσ f (zas [(205, (f 205)), (212, (f 212)), (213, (f 213)), (214, (f 214)), (17, (f 17)), (18, (f 18)), (19, (f 19 - 1))]) g hbd hrg (zFc (205, 63, 17) (5, 225949639507968) ((e_4 ()).symm) (zFc (212, 64, 9) (5, 233646220902400) ((e_5 ()).symm) (zFc (213, 64, 10) (5, 234745732530176) ((e_6 ()).symm) (zFc (214, 64, 11) (5, 235845244157952) ((e_7 ()).symm) (True.intro))))) (zFc (205, 63, 17) (5, 225949639507968) ((e_4 ()).symm) (zFc (212, 64, 9) (5, 233646220902400) ((e_5 ()).symm) (zFc (213, 64, 10) (5, 234745732530176) ((e_6 ()).symm) (zFc (214, 64, 11) (5, 235845244157952) ((e_7 ()).symm) (True.intro))))) (zLrc (True.intro) (zLrc (Or.inl ⟨rfl, rfl⟩) (zLrc (Or.inr (Or.inl ⟨_, rfl, rfl, rfl, (zb0v f 17).trans ((e_8 ()).symm)⟩)) (zLrc (Or.inl ⟨rfl, rfl⟩) (zLrc (Or.inr (Or.inl ⟨_, rfl, rfl, rfl, (zb0v f 18).trans ((e_9 ()).symm)⟩)) (zLrc (Or.inr (Or.inl ⟨_, rfl, rfl, rfl, (zb0v f 19).trans ((e_0 ()).symm)⟩)) (zLrc (True.intro) (zLrn)))))))) (zLrc (True.intro) (zLrc (Or.inl ⟨rfl, rfl⟩) (zLrc (Or.inr (Or.inl ⟨_, rfl, rfl, rfl, zb0w (zas [(205, (f 205)), (212, (f 212)), (213, (f 213)), (214, (f 214)), (17, (f 17)), (18, (f 18)), (19, (f 19 - 1))]) 17 (e_8 ()) rfl⟩)) (zLrc (Or.inl ⟨rfl, rfl⟩) (zLrc (Or.inr (Or.inl ⟨_, rfl, rfl, rfl, zb0w (zas [(205, (f 205)), (212, (f 212)), (213, (f 213)), (214, (f 214)), (17, (f 17)), (18, (f 18)), (19, (f 19 - 1))]) 18 (e_9 ()) rfl⟩)) (zLrc (Or.inr (Or.inl ⟨_, rfl, rfl, rfl, zb0w (zas [(205, (f 205)), (212, (f 212)), (213, (f 213)), (214, (f 214)), (17, (f 17)), (18, (f 18)), (19, (f 19 - 1))]) 19 (e_1 ()) rfl⟩)) (zLrc (True.intro) (zLrn)))))))) (zEc ((5, 110500918591488), (5, 111600430219264), 2) (zcmE (e_3 ()) (e_2 ()) c_0) (True.intro)) (True.intro) (zEc (262, 0, (5, 21440476741631), (5, 110500918591488), (5, 111600430219264)) ((congrArg (g 262) (e_1 ())).trans (k_0.trans (e_3 ()).symm)) (zEc (262, 1, (5, 21440476741632), (5, 111600430219264), (5, 110500918591488)) ((congrArg (g 262) (e_0 ())).trans (k_1.trans (e_2 ()).symm)) (True.intro))) (fun _ => go)⟩
