/-! The law: behind the run, to its answer. -/
theorem zL_told (hA : zAll) (X : ZX) {Ls : Nat} {xs : Nat → Int32} {n : Int} (hn : 1 ≤ n ∧ n ≤ 16) : ∀ (W : List Int) (f : Nat → Int) (g : Nat → Int → Int), zBd g → zPf f → f 17 = n → 0 ≤ f 19 → f 19 + (W.length : Int) = 2 * n → 0 ≤ f 20 → (∀ (i : Nat) (v : Int), W[i]? = some v → g 262 ((f 19 + (i : Int)) % n) = v) → zWs (fun a j => g (a + 20) j) (f 20) W (f 205) → zToF Ls xs f g
  | [], f, g, hbd, hP, h17, h19, hl, h20, hv, hW => by
    have hl : f 19 = 2 * n := by
      rw [List.length_nil] at hl
      omega
    have hW : f 205 = f 20 := hW
    obtain ⟨⟨r205, r205b⟩, ⟨r212, r212b⟩, ⟨r213, r213b⟩, ⟨r214, r214b⟩⟩ := hP
    have ht1 := zW_yZ hA X (Ls := Ls) (xs := xs) f g hbd (by first | assumption | omega | exact ⟨by omega, by omega⟩) (by first | assumption | omega | exact ⟨by omega, by omega⟩) (by first | assumption | omega | exact ⟨by omega, by omega⟩) (by first | assumption | omega | exact ⟨by omega, by omega⟩) (by first | assumption | omega | exact ⟨by omega, by omega⟩) (by first | assumption | omega | exact ⟨by omega, by omega⟩) (by first | assumption | omega | exact ⟨by omega, by omega⟩)
    exact ht1
  | v :: W, f, g, hbd, hP, h17, h19, hl, h20, hv, hW => by
    obtain ⟨T, ⟨t1, t2, t3⟩, t4, t5⟩ := hW
    have le := (zWs_le W _ _ t5).1
    rw [List.length_cons] at hl
    have hv0 := hv 0 v rfl
    obtain ⟨f1, g1, u1, u2, u3, u4, u5, u6⟩ := zL_T hA X (Ls := Ls) (xs := xs) hbd hP (by rw [h17]; exact hn) ⟨h19, by omega⟩ h20 t1 (by rw [h17]; rw [show f 19 + ((0 : Nat) : Int) = f 19 by omega] at hv0; exact hv0) t2 t4 (by omega)
    have rec_ := zL_told hA X (Ls := Ls) (xs := xs) hn W f1 g1 u2 (zPk_Pf hP u3) (u3.1.2.2.2.2.trans h17) (by omega) (by omega) (by omega) (fun i w hw => by
      rw [u4, u6]
      have := hv (i + 1) w (by rw [List.getElem?_cons_succ]; exact hw)
      rw [show f 19 + ((i + 1 : Nat) : Int) = f 19 + 1 + (i : Int) by omega] at this
      exact this) (by
      rw [u5, u3.1.1]
      exact zWs_keep W _ _ (fun x _ => u3.2.2 x) t5)
    exact fun A AE H go => u1 A (zGdF_L H) (rec_ A AE H go)
theorem zsh_at {n : Int} {g : Nat → Int → Int} {i : Nat} {v : Int} (h : (zVl n (zsh g))[i]? = some v) : i < n.toNat ∧ g 262 (i : Int) = v := by
  unfold zVl at h
  rw [List.getElem?_map] at h
  by_cases hi : i < n.toNat
  · rw [List.getElem?_range hi] at h
    have h : zsh g 252 ((i : Int) + 20000) = v := Option.some.inj h
    refine ⟨hi, ?_⟩
    rw [← h]
    show g 262 (i : Int) = g 262 ((i : Int) + 20000 - 20000)
    rw [show (i : Int) + 20000 - 20000 = (i : Int) by omega]
  · rw [List.getElem?_eq_none (by rw [List.length_range]; omega)] at h
    cases h
theorem zL_fin (hA : zAll) (X : ZX) {Ls : Nat} {xs : Nat → Int32} {n : Int} {S : List Int} {f : Nat → Int} {g : Nat → Int → Int} (hn : 1 ≤ n ∧ n ≤ 16) (hbd : zBd g) (hs : S.Pairwise (· ≤ ·)) (hp : S.Perm (zVl n (zsh g))) (h17 : f 17 = n) (h212 : f 212 = n + 2) (h213 : f 213 = 4 * n + 5) (h214 : f 214 = 0) (h205 : 0 ≤ f 205) (h6 : g 276 (n + 1) = -8) (hW : zWs (fun a j => g (a + 20) j) 0 (S ++ S) (f 205)) (hm : zMb n g) : ∀ A AE, zGdF Ls xs A AE → AE → A 1 f g := by
  have hlen : S.length = n.toNat := by
    rw [hp.length_eq]
    unfold zVl
    rw [List.length_map, List.length_range]
  have le := zWs_le _ _ _ hW
  rw [List.length_append, hlen] at le
  have k0 : g 276 (f 17 + 1) = -8 := by rw [h17]; exact h6
  have hP : zPf f := ⟨⟨h205, by omega⟩, ⟨by omega, by omega⟩, ⟨by omega, by omega⟩, ⟨by omega, by omega⟩⟩
  obtain ⟨tk, htk⟩ : ∃ tk, tk = f 213 := ⟨_, rfl⟩
  have hb205 : f 205 ≤ 384 := hP.1.2
  have q213 : f 213 = tk := htk.symm
  obtain ⟨f1, g1, p1_0, p1_1, p1_2, p1_3, p1_4, p1_5, F1_276, F1_277, F1_262, hb1, ht1⟩ := zW_yE5 hA X (Ls := Ls) (xs := xs) f g hbd (tk) (by first | assumption | omega | exact ⟨by omega, by omega⟩) (by first | assumption | omega | exact ⟨by omega, by omega⟩) (by first | assumption | omega | exact ⟨by omega, by omega⟩) (by first | assumption | omega | exact ⟨by omega, by omega⟩) (by first | assumption | omega | exact ⟨by omega, by omega⟩) (by first | assumption | omega | exact ⟨by omega, by omega⟩) (by first | assumption | omega | exact ⟨by omega, by omega⟩) (by first | assumption | omega | exact ⟨by omega, by omega⟩)
  have pk : zPk f g f1 g1 := ⟨⟨by assumption, by omega, by omega, by omega, by assumption⟩, F1_276, F1_277⟩
  obtain ⟨f2, g2, u1, u2, u3, u4, u5, u6, u7, u8⟩ := zL_out hA X (Ls := Ls) (xs := xs) hn (n - 1).toNat 1 f1 g1 rfl (by omega) (by omega) hb1 (zPk_Pf hP pk) (by omega) (by assumption) (fun x y1 y2 => by rw [F1_262]; exact hm x y1 y2) (fun x y y1 y2 y3 => absurd y2 (by omega))
  have e1 : zVl n (zsh g1) = zVl n (zsh g) := zVl_eq fun x _ => F1_262 _
  rw [e1] at u8
  have s2 : (zVl n (zsh g2)).Pairwise (· ≤ ·) := by
    refine List.pairwise_map.mpr (List.pairwise_lt_range.imp_of_mem fun {x y} hx hy hxy => ?_)
    have hx := List.mem_range.mp hx
    have hy := List.mem_range.mp hy
    show g2 262 ((x : Int) + 20000 - 20000) ≤ g2 262 ((y : Int) + 20000 - 20000)
    rw [show (x : Int) + 20000 - 20000 = (x : Int) by omega, show (y : Int) + 20000 - 20000 = (y : Int) by omega]
    exact u7 x y (by omega) (by omega) (by omega)
  have eS : S = zVl n (zsh g2) := (hp.trans u8.symm).eq_of_pairwise (fun x y _ _ h1 h2 => Int.le_antisymm h1 h2) hs s2
  have fin := zL_told hA X (Ls := Ls) (xs := xs) hn (S ++ S) f2 g2 u2 (zPk_Pf (zPk_Pf hP pk) u3) (by have := u3.1.2.2.2.2; have := pk.1.2.2.2.2; omega) (by omega) (by rw [List.length_append, hlen]; omega) (by omega) (fun i v hv => by
    rw [u5]
    by_cases hi : i < S.length
    · rw [List.getElem?_append_left hi, eS] at hv
      have := zsh_at hv
      rw [show (0 : Int) + (i : Int) = (i : Int) by omega, Int.emod_eq_of_lt (by omega) (by omega)]
      exact this.2
    · rw [List.getElem?_append_right (by omega), hlen, eS] at hv
      have := zsh_at hv
      rw [show (0 : Int) + (i : Int) = ((i - n.toNat : Nat) : Int) + n by omega, Int.add_emod_right, Int.emod_eq_of_lt (by omega) (by omega)]
      exact this.2) (by
    rw [u4, u3.1.1, pk.1.1]
    exact zWs_keep _ _ _ (fun x _ => (u3.2.2 x).trans (pk.2.2 x)) hW)
  exact fun A AE H go => ht1 A (zGdF_L H) (u1 A (zGdF_L H) (fin A AE H go))
/-- from the input loop's first head to the law's answer -/
theorem zL_whole (hA : zAll) (X : ZX) {Ls : Nat} {xs : Nat → Int32} (hLs : Ls ≤ 2147483647) {f : Nat → Int} {g : Nat → Int → Int} (hbd : zBd g) (h17 : f 17 = zlnn Ls xs) (h18 : f 18 = 0) (h7 : f 7 = 1) (h0 : g 258 0 = zlnn Ls xs) : ∀ A AE, zGdF Ls xs A AE → AE → A 0 f g := by
  have hn := zlnn_b Ls xs
  obtain ⟨f1, g1, t1, t2, t3, t4, t5, t6, t7, t8⟩ := zL_all hA X (Ls := Ls) (xs := xs) hLs hn (zlnn Ls xs).toNat 0 f g (by omega) hbd h17 (by rw [h18]; rfl) (by rw [h7]; rfl) h0 (fun j a b => absurd b (by omega)) (fun j a b => absurd b (by omega))
  obtain ⟨f2, g2, S, u1, u2, u3, u4, ⟨u5, u6, u7, u8, u9, u10⟩, u11, u12, u13⟩ := zL4 hA X (Ls := Ls) (xs := xs) (a := zlvv Ls xs) hn t2 ⟨t3, t4, t5⟩ t6 (fun j a b => ⟨t7 j a b, zvx_b (zce_b Ls xs j.toNat)⟩)
  have e : zVl (zlnn Ls xs) (zsh g2) = ((List.range (zlnn Ls xs).toNat).map fun (k : Nat) => zlvv Ls xs ((k : Int) + 1)) := List.map_congr_left fun (k : Nat) hk => by
    have hk := List.mem_range.mp hk
    show g2 262 ((k : Int) + 20000 - 20000) = zlvv Ls xs ((k : Int) + 1)
    rw [show (k : Int) + 20000 - 20000 = (k : Int) by omega, u13]
    exact t8 k (by omega) (by omega)
  have fin := zL_fin hA X (Ls := Ls) (xs := xs) hn u2 u3 (by rw [e]; exact u4) u5 u6 u7 u8 u9 u11 u12 (fun j a b => by
    rw [u13, t8 j a b]
    exact zvx_b (zce_b Ls xs _))
  exact fun A AE H go => t1 A (zGdF_L H) (u1 A (zGdF_L H) (fin A AE H go))
