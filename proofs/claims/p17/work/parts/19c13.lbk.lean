/-! Printed by wip/v2/gen8.py: blocks of the law. -/
def zrg_yZ : List (Nat × Nat × Nat) := [(17, 9223372036854775809, 9223372036854775824), (20, 9223372036854775808, 9223372036854776808), (100, 9223372036854775810, 9223372036854775840), (212, 9223372036854775808, 9223372036854775826), (213, 9223372036854775808, 9223372036854776008), (214, 9223372036854775808, 9223372036854775826)]
def zcm_yZ : List (ZV × ZV × Nat) := []
def zop_yZ : List (Nat × ZV × ZV × ZV) := [(2, (0, 2), (5, 19241453486080), (5, 110500918591488))]
def zky_yZ : List ZKy := []
def zw_yZ : List (Nat × ZV × ZV) := []
def zfi_yZ : List ZV := [(5, 22539988369408), (5, 233646220902400), (5, 234745732530176), (5, 235845244157952)]
noncomputable def zla_yZ : ZL := [none, some (3, 0), some (5, 19241453486080), some (3, 264), some (5, 22539988369408), some (5, 110500918591488), none]
theorem zbk_yZ : zlbE 4 (zmkN zrg_yZ zcm_yZ zop_yZ zky_yZ) 73 zla_yZ zfi_yZ zky_yZ = true := by decide +kernel
theorem zbl_yZ : zblkL (zlC 4) (zlH 4) zfi_yZ zfi_yZ zky_yZ = true := by decide +kernel
theorem zbs_yZ : zstB (zlC 4) (zlH 4) zrg_yZ zcm_yZ [] zky_yZ [] = true := by decide +kernel
theorem zbf_yZ : zw_yZ.all (fun q => zfitB zrg_yZ q.2.2) = true := by decide +kernel
theorem zbw_yZ : zwkf zky_yZ = zw_yZ := by decide +kernel
theorem zq_yZ_0 (f : Nat → Int) (g : Nat → Int → Int) (r_17 : 1 ≤ f 17 ∧ f 17 ≤ 16) : ((2 * (f 17)) : Int) = 2 * (f 17) := by omega
theorem zq_yZ_1 (f : Nat → Int) (g : Nat → Int → Int) (r_17 : 1 ≤ f 17 ∧ f 17 ≤ 16) : ((9223372036854775810 : Nat) : Int) ≤ (2 * (f 17)) + 9223372036854775808 ∧ (2 * (f 17)) + 9223372036854775808 ≤ ((9223372036854775840 : Nat) : Int) := by omega
theorem zW_yZ (hA : zAll) (X : ZX) {Ls : Nat} {xs : Nat → Int32} (f : Nat → Int) (g : Nat → Int → Int) (hbd : zBd g)
    (r_17 : 1 ≤ f 17 ∧ f 17 ≤ 16) (r_20 : 0 ≤ f 20 ∧ f 20 ≤ 1000) (r_212 : 0 ≤ f 212 ∧ f 212 ≤ 18) (r_213 : 0 ≤ f 213 ∧ f 213 ≤ 200) (r_214 : 0 ≤ f 214 ∧ f 214 ≤ 18) (q_205 : f 205 = (f 20)) (q_19 : f 19 = (2 * (f 17)))
    : zToF Ls xs f g := by
  have hrg : zRgs zrg_yZ [(17, f 17), (20, f 20), (100, (2 * (f 17))), (212, f 212), (213, f 213), (214, f 214)] := zRqe 17 9223372036854775809 9223372036854775824 (f 17) (1) (16) r_17 (by decide) (by decide) (zRqe 20 9223372036854775808 9223372036854776808 (f 20) (0) (1000) r_20 (by decide) (by decide) (zRqd 100 9223372036854775810 9223372036854775840 ((2 * (f 17))) (zq_yZ_1 f g r_17) (zRqe 212 9223372036854775808 9223372036854775826 (f 212) (0) (18) r_212 (by decide) (by decide) (zRqe 213 9223372036854775808 9223372036854776008 (f 213) (0) (200) r_213 (by decide) (by decide) (zRqe 214 9223372036854775808 9223372036854775826 (f 214) (0) (18) r_214 (by decide) (by decide) (True.intro))))))
  obtain ⟨σ, hσ⟩ : ∃ σ, σ = zas [(17, f 17), (20, f 20), (100, (2 * (f 17))), (212, f 212), (213, f 213), (214, f 214)] := ⟨_, rfl⟩
  have b_17 : Unit → σ 17 = f 17 := fun _ => by rw [hσ]; rfl
  have b_20 : Unit → σ 20 = f 20 := fun _ => by rw [hσ]; rfl
  have b_100 : Unit → σ 100 = (2 * (f 17)) := fun _ => by rw [hσ]; rfl
  have b_212 : Unit → σ 212 = f 212 := fun _ => by rw [hσ]; rfl
  have b_213 : Unit → σ 213 = f 213 := fun _ => by rw [hσ]; rfl
  have b_214 : Unit → σ 214 = f 214 := fun _ => by rw [hσ]; rfl
  have e_0 : Unit → zvn σ (0, 2) = 2 := fun _ => zvk0 (by decide)
  have e_1 : Unit → zvn σ (5, 19241453486080) = (f 17) := fun _ => zvE50 19241453486080 17 rfl (b_17 ())
  have e_2 : Unit → zvn σ (5, 110500918591488) = (2 * (f 17)) := fun _ => zvE50 110500918591488 100 rfl (b_100 ())
  have e_3 : Unit → zvn σ (5, 22539988369408) = (f 20) := fun _ => zvE50 22539988369408 20 rfl (b_20 ())
  have e_4 : Unit → zvn σ (5, 233646220902400) = (f 212) := fun _ => zvE50 233646220902400 212 rfl (b_212 ())
  have e_5 : Unit → zvn σ (5, 234745732530176) = (f 213) := fun _ => zvE50 234745732530176 213 rfl (b_213 ())
  have e_6 : Unit → zvn σ (5, 235845244157952) = (f 214) := fun _ => zvE50 235845244157952 214 rfl (b_214 ())
  exact fun A AE H go => zlawA_E hA H zbk_yZ zbl_yZ zbs_yZ zbf_yZ zbw_yZ _ σ hσ f g hbd hrg (zFc (205, 63, 17) (5, 22539988369408) (q_205.trans (e_3 ()).symm) (zFc (212, 64, 9) (5, 233646220902400) ((e_4 ()).symm) (zFc (213, 64, 10) (5, 234745732530176) ((e_5 ()).symm) (zFc (214, 64, 11) (5, 235845244157952) ((e_6 ()).symm) (True.intro))))) (zLrc (True.intro) (zLrc (Or.inl ⟨rfl, rfl⟩) (zLrc (Or.inr (Or.inl ⟨_, rfl, rfl, rfl, (zb0v f 17).trans ((e_1 ()).symm)⟩)) (zLrc (Or.inl ⟨rfl, rfl⟩) (zLrc (Or.inr (Or.inl ⟨_, rfl, rfl, rfl, (zb0v f 20).trans ((e_3 ()).symm)⟩)) (zLrc (Or.inr (Or.inl ⟨_, rfl, rfl, rfl, (zb0v f 19).trans (q_19.trans (e_2 ()).symm)⟩)) (zLrc (True.intro) (zLrn)))))))) (True.intro) (zEc (2, (0, 2), (5, 19241453486080), (5, 110500918591488)) (Or.inl ⟨by decide +kernel, zopE (e_0 ()) (e_1 ()) (e_2 ()) (zq_yZ_0 f g r_17)⟩) (True.intro)) (True.intro) go
