/-! Printed by wip/vi/gen6.py: the law out of its cases. -/
theorem zNf_ok {X : ZX} : zNok X zNf := ⟨fun j => ⟨Nat.zero_le _, by have := zkI_in (X.2.2.2 j); show zkI _ ≤ 4294967295; omega⟩, fun k h => by cases h⟩
theorem zNc_ok {X : ZX} {k lo hi : Nat} (h0 : X.2.2.2 0 &&& 15 = nI k) (h1 : lo ≤ zkI (X.2.2.2 1)) (h2 : zkI (X.2.2.2 1) ≤ hi) : zNok X (zNc k lo hi) := by
  refine ⟨fun j => ?_, fun q h => ?_⟩
  · show zin (zif (Nat.beq j 1) (lo, hi) (0, 4294967295)) _
    cases hb : Nat.beq j 1 with
    | true =>
      have e := zb_eq hb
      subst e
      exact ⟨h1, h2⟩
    | false => exact ⟨Nat.zero_le _, by have := zkI_in (X.2.2.2 j); show zkI _ ≤ 4294967295; omega⟩
  · have h : some k = some q := h
    cases h
    exact h0
theorem zand15 (x : Int32) : ∃ k, k < 16 ∧ x &&& 15 = nI k := by
  refine ⟨(x &&& 15).toBitVec.toNat, ?_, ?_⟩
  · rw [Int32.toBitVec_and, BitVec.toNat_and]
    exact Nat.lt_of_le_of_lt (Nat.and_le_right) (by decide)
  · apply Int32.toBitVec_inj.mp
    apply BitVec.eq_of_toNat_eq
    show _ = (x &&& 15).toBitVec.toNat % 2 ^ 32
    exact (Nat.mod_eq_of_lt (x &&& 15).toBitVec.isLt).symm
theorem zcases {X : ZX} : ∃ N : ZN, zNok X N ∧ zcasB N 6 = true := by
  obtain ⟨k, hk, h0⟩ := zand15 (X.2.2.2 0)
  have hy := zkI_in (X.2.2.2 1)
  match k, hk, h0 with
  | 0, _, h0 =>
    exact ⟨_, zNc_ok h0 (Nat.zero_le _) (by omega), zc_0_0⟩
  | 1, _, h0 =>
    by_cases h1 : zkI (X.2.2.2 1) ≤ 2147483647
    · exact ⟨_, zNc_ok h0 (Nat.zero_le _) h1, zc_1_0⟩
    by_cases h2 : zkI (X.2.2.2 1) ≤ 2147483648
    · exact ⟨_, zNc_ok h0 (by omega) h2, zc_1_1⟩
    exact ⟨_, zNc_ok h0 (by omega) (by omega), zc_1_2⟩
  | 2, _, h0 =>
    exact ⟨_, zNc_ok h0 (Nat.zero_le _) (by omega), zc_2_0⟩
  | 3, _, h0 =>
    exact ⟨_, zNc_ok h0 (Nat.zero_le _) (by omega), zc_3_0⟩
  | 4, _, h0 =>
    exact ⟨_, zNc_ok h0 (Nat.zero_le _) (by omega), zc_4_0⟩
  | 5, _, h0 =>
    by_cases h1 : zkI (X.2.2.2 1) ≤ 0
    · exact ⟨_, zNc_ok h0 (Nat.zero_le _) h1, zc_5_0⟩
    exact ⟨_, zNc_ok h0 (by omega) (by omega), zc_5_1⟩
  | 6, _, h0 =>
    by_cases h1 : zkI (X.2.2.2 1) ≤ 2147483647
    · exact ⟨_, zNc_ok h0 (Nat.zero_le _) h1, zc_6_0⟩
    by_cases h2 : zkI (X.2.2.2 1) ≤ 2147503648
    · exact ⟨_, zNc_ok h0 (by omega) h2, zc_6_1⟩
    exact ⟨_, zNc_ok h0 (by omega) (by omega), zc_6_2⟩
  | 7, _, h0 =>
    by_cases h1 : zkI (X.2.2.2 1) ≤ 2147483647
    · exact ⟨_, zNc_ok h0 (Nat.zero_le _) h1, zc_7_0⟩
    by_cases h2 : zkI (X.2.2.2 1) ≤ 2147483648
    · exact ⟨_, zNc_ok h0 (by omega) h2, zc_7_1⟩
    by_cases h3 : zkI (X.2.2.2 1) ≤ 2147483649
    · exact ⟨_, zNc_ok h0 (by omega) h3, zc_7_2⟩
    by_cases h4 : zkI (X.2.2.2 1) ≤ 2147483650
    · exact ⟨_, zNc_ok h0 (by omega) h4, zc_7_3⟩
    by_cases h5 : zkI (X.2.2.2 1) ≤ 2147483651
    · exact ⟨_, zNc_ok h0 (by omega) h5, zc_7_4⟩
    by_cases h6 : zkI (X.2.2.2 1) ≤ 2147483652
    · exact ⟨_, zNc_ok h0 (by omega) h6, zc_7_5⟩
    by_cases h7 : zkI (X.2.2.2 1) ≤ 2147483653
    · exact ⟨_, zNc_ok h0 (by omega) h7, zc_7_6⟩
    by_cases h8 : zkI (X.2.2.2 1) ≤ 2147483654
    · exact ⟨_, zNc_ok h0 (by omega) h8, zc_7_7⟩
    by_cases h9 : zkI (X.2.2.2 1) ≤ 2147483655
    · exact ⟨_, zNc_ok h0 (by omega) h9, zc_7_8⟩
    by_cases h10 : zkI (X.2.2.2 1) ≤ 2147483656
    · exact ⟨_, zNc_ok h0 (by omega) h10, zc_7_9⟩
    by_cases h11 : zkI (X.2.2.2 1) ≤ 2147483657
    · exact ⟨_, zNc_ok h0 (by omega) h11, zc_7_10⟩
    by_cases h12 : zkI (X.2.2.2 1) ≤ 2147483658
    · exact ⟨_, zNc_ok h0 (by omega) h12, zc_7_11⟩
    by_cases h13 : zkI (X.2.2.2 1) ≤ 2147483659
    · exact ⟨_, zNc_ok h0 (by omega) h13, zc_7_12⟩
    exact ⟨_, zNc_ok h0 (by omega) (by omega), zc_7_13⟩
  | 8, _, h0 =>
    by_cases h1 : zkI (X.2.2.2 1) ≤ 2147483647
    · exact ⟨_, zNc_ok h0 (Nat.zero_le _) h1, zc_8_0⟩
    exact ⟨_, zNc_ok h0 (by omega) (by omega), zc_8_1⟩
  | 9, _, h0 =>
    by_cases h1 : zkI (X.2.2.2 1) ≤ 2147483647
    · exact ⟨_, zNc_ok h0 (Nat.zero_le _) h1, zc_9_0⟩
    exact ⟨_, zNc_ok h0 (by omega) (by omega), zc_9_1⟩
  | 10, _, h0 =>
    by_cases h1 : zkI (X.2.2.2 1) ≤ 2147483647
    · exact ⟨_, zNc_ok h0 (Nat.zero_le _) h1, zc_10_0⟩
    exact ⟨_, zNc_ok h0 (by omega) (by omega), zc_10_1⟩
  | 11, _, h0 =>
    by_cases h1 : zkI (X.2.2.2 1) ≤ 2147483648
    · exact ⟨_, zNc_ok h0 (Nat.zero_le _) h1, zc_11_0⟩
    exact ⟨_, zNc_ok h0 (by omega) (by omega), zc_11_1⟩
  | 12, _, h0 =>
    by_cases h1 : zkI (X.2.2.2 1) ≤ 2147483648
    · exact ⟨_, zNc_ok h0 (Nat.zero_le _) h1, zc_12_0⟩
    exact ⟨_, zNc_ok h0 (by omega) (by omega), zc_12_1⟩
  | 13, _, h0 =>
    by_cases h1 : zkI (X.2.2.2 1) ≤ 2147483647
    · exact ⟨_, zNc_ok h0 (Nat.zero_le _) h1, zc_13_0⟩
    by_cases h2 : zkI (X.2.2.2 1) ≤ 2147483648
    · exact ⟨_, zNc_ok h0 (by omega) h2, zc_13_1⟩
    by_cases h3 : zkI (X.2.2.2 1) ≤ 2147503647
    · exact ⟨_, zNc_ok h0 (by omega) h3, zc_13_2⟩
    exact ⟨_, zNc_ok h0 (by omega) (by omega), zc_13_3⟩
  | 14, _, h0 =>
    exact ⟨_, zNc_ok h0 (Nat.zero_le _) (by omega), zc_14_0⟩
  | 15, _, h0 =>
    exact ⟨_, zNc_ok h0 (Nat.zero_le _) (by omega), zc_15_0⟩
  | n + 16, h, _ => exact absurd h (by omega)
theorem zpre_all : ∀ Ls, Ls ≤ 6 → zpreB Ls = true
  | 0, _ => zp_0
  | 1, _ => zp_1
  | 2, _ => zp_2
  | 3, _ => zp_3
  | 4, _ => zp_4
  | 5, _ => zp_5
  | 6, _ => zp_6
  | n + 7, h => absurd h (by omega)
theorem zcas_all {X : ZX} : ∀ Ls, Ls ≤ 6 → ∃ N : ZN, zNok X N ∧ zcasB N Ls = true
  | 0, _ => ⟨_, zNf_ok, zc_L0⟩
  | 1, _ => ⟨_, zNf_ok, zc_L1⟩
  | 2, _ => ⟨_, zNf_ok, zc_L2⟩
  | 3, _ => ⟨_, zNf_ok, zc_L3⟩
  | 4, _ => ⟨_, zNf_ok, zc_L4⟩
  | 5, _ => ⟨_, zNf_ok, zc_L5⟩
  | 6, _ => zcases
  | n + 7, h => absurd h (by omega)
theorem zpre_use {Ls : Nat} (h : zpreB Ls = true) : ∃ v : Option ZV, zrunA zNf Ls 20000 20 0 0 zL0 [] (z0, 0, 0, 0) = some (7777778, v, zG0) := zpEnd_ok _ h
theorem zcas_use {N : ZN} {Ls : Nat} (h : zcasB N Ls = true) : ∃ r : ZRes, zrunB N Ls 400000 20 0 23 zLx [] zG0 = some r ∧ r.1 = 0 ∧ r.2.1 = some (0, 1) ∧ r.2.2.2.2.1 ≤ 430828 ∧ r.2.2.2.2.2 ≤ 7809752 := zcEnd_ok _ h
theorem zret1 {cc : ByteArray} {rt : Option FieldType} {pcR kd rty : Nat} (hc : zc_ret cc rt pcR kd rty = true) (hk : zrsk kd rty (some (0, 1)) = true) : decode cc pcR = .ok (.ireturn, 1) := by
  match kd, hk, hc with
  | 0, hk, _ => exact absurd (show false = true from hk) (by decide)
  | 1, _, hc => exact (of_decide_eq_true hc).1
  | 2, hk, _ => exact absurd (show false = true from hk) (by decide)
  | 3, hk, _ => exact absurd (show false = true from hk) (by decide)
  | k + 4, hk, _ => exact absurd (show false = true from hk) (by decide)
