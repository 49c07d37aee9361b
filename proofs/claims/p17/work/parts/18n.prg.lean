/-! The program: from its start to its end. -/
theorem zPig : ∀ (m : Nat) (L : List Int), L.Nodup → (∀ t ∈ L, 3 ≤ t ∧ t < 3 + (m : Int)) → L.length ≤ m
  | 0, [], _, _ => Nat.le_refl 0
  | 0, t :: L, _, h => by
    have := h t List.mem_cons_self
    omega
  | m + 1, L, hn, h => by
    have ih := zPig m (L.erase (3 + (m : Int))) (hn.erase _) (fun t ht => by
      have h1 := h t (List.mem_of_mem_erase ht)
      have h2 := ((List.Nodup.mem_erase_iff hn).mp ht).1
      omega)
    rw [List.length_erase] at ih
    split at ih <;> omega
theorem zProg (hA : zAll) (X : ZX) {n : Int} {a m0 : Int → Int} {f : Nat → Int} {g : Nat → Int → Int} (hn : 1 ≤ n ∧ n ≤ 16) (hbd : zBd g) (h : zSt0 n a m0 f g) :
    ∃ (f' : Nat → Int) (g' : Nat → Int → Int) (S : List Int), zToE f g f' g' ∧ zBd g' ∧ S.Pairwise (· ≤ ·) ∧ S.Perm ((List.range n.toNat).map fun (k : Nat) => a ((k : Int) + 1)) ∧ zFin n m0 (S ++ S) f' g' := by
  obtain ⟨f1, g1, t1, t2, t3, t4, t5, t6, t7, t8⟩ := zM_first hA X hn hbd h
  obtain ⟨f2, g2, L, u1, u2, u3, u4, u5⟩ := zM_all hA X (n.toNat - 1) 0 [] f1 g1 (by omega) t2 t3 (by omega) t4 t5 (by rw [t6]; rfl) t7 t8
  have srt := u3.2.2.2.2.2.2.2.2.2.2.1
  have prm := u3.2.2.2.2.2.2.2.2.2.2.2.1
  obtain ⟨f3, g3, b, v1, v2, v3, v4, v5, v6, v7, v8, v9, v10⟩ := zM_sort hA X u2 u3 u4 u5
  have r16 := v3.2.1.2.2.2.2.2.2.2.2.1
  obtain ⟨f4, g4, w1, w2, w3, ⟨w4, w5, w6, w7, w8⟩, w9, w10, w11⟩ := zM_V0 hA X v2 v3.1 v3.2.1 (by omega) v6 v7
  have rm4 := zVk_Rm v3.2.1 w3 (by omega) (by omega) (by omega)
  have sd4 := zSd_Fr v3 w3.2.1 (zVk_Ms v3.1 w3) rm4 ⟨w3.1.2.2.2.2.2.2.1, w3.1.2.2.2.2.2.2.2.1, w3.1.2.2.2.2.2.2.2.2.1⟩
  obtain ⟨f5, g5, x1, x2, x3, x4, x5, x6, x7, x8⟩ := zM_vec hA X (n.toNat - 1) 0 f4 g4 (by omega) w2 sd4 (zVc_Vk v4 w3) (by omega) (by omega) w4 w5 (by rw [w9]; rfl) w10 w11 (show f4 5 = 0 by omega)
  rw [v5] at x8
  have lw := zWs_le _ _ _ x8
  obtain ⟨hM5, hr5, ⟨e12, e13, e14⟩, ⟨th, lk⟩, ⟨nd, mem, len⟩, key, hm⟩ := x3
  rw [List.length_map] at lw
  have r16' := hr5.2.2.2.2.2.2.2.2.1
  have hd := zLk_hd L lk
  obtain ⟨f6, g6, y1, y2, y3, ⟨y4, y5, y6, y7, y8⟩, y9, y10⟩ := zM_P0 hA X x2 hM5 hr5 (by omega) x4 x5 th hd (zhd_b (by omega) L mem)
  have rm6 := zVk_Rm hr5 y3 (by omega) (by omega) (by omega)
  have fr := y3.2.1
  have Q : zQi n (fun t => a (t - 2)) m0 L f6 g6 := by
    have c := y3.1
    refine ⟨zVk_Ms hM5 y3, rm6, ⟨c.2.2.2.2.2.2.1.trans e12, c.2.2.2.2.2.2.2.1.trans e13, ?_⟩, zFq_Th fr (by decide) th, zQr_of L (zFq_Lk fr L 2 (by decide) (fun t ht => by have := (mem t ht).1; omega) lk), nd, fun t ht => ⟨mem t ht, ?_, (key t ht).2⟩, fun x => (fr.2.2.2.2.2.2.2.2.2 x).trans (hm x), ⟨y9, y10⟩, fun t z1 z2 z3 => ?_⟩
    · rw [c.2.2.2.2.2.2.2.2.1, e14, len]
    · exact (zFq_c fr (by have := (mem t ht).1; omega)).1.1.trans (key t ht).1
    · have := zPig n.toNat (t :: L) (List.nodup_cons.mpr ⟨z3, nd⟩) (fun s hs => by
        rcases List.mem_cons.mp hs with e | hs
        · omega
        · have := mem s hs
          omega)
      rw [List.length_cons] at this
      omega
  have W6 : zWs g6 0 (L.map fun t => a (t - 2)) (f6 5) := by
    rw [y7]
    exact zWs_keep _ 0 (f5 5) y3.2.2.2.2 x8
  obtain ⟨f7, g7, z1, z2, z3, z4, z5, z6, z7, z8⟩ := zM_list hA X L (L.map fun t => a (t - 2)) f6 g6 y2 Q y4 y5 (by omega) (by omega) W6 (by rw [List.length_map]; omega)
  obtain ⟨f8, g8, q1, q2, q3⟩ := zM_last hA X hn z2 z3 z4 z5 z6 z7 z8
  exact ⟨f8, g8, _, zTo_end (zTo_trans (zTo_trans (zTo_trans (zTo_trans (zTo_trans (zTo_trans t1 u1) v1) w1) x1) y1) z1) q1, q2, srt, prm, q3⟩
