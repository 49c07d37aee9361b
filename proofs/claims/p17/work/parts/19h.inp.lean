/-! The law: its numbers, and their reading. -/
def zce (Ls : Nat) (xs : Nat → Int32) (k : Nat) : Int := if k < Ls then (xs k).toInt else (Int32.ofInt 1640531527 * Int32.ofInt ((k : Int) + 3)).toInt
def zlnn (Ls : Nat) (xs : Nat → Int32) : Int := 1 + (Int32.ofInt (zce Ls xs 0) &&& Int32.ofInt 15).toInt
def zvx (x : Int) : Int := if x = -2147483648 then 0 else if (Int32.ofInt x &&& Int32.ofInt 1).toInt = 0 then x else (Int32.ofInt x >>> (Int32.ofInt 24 &&& 31)).toInt
def zlvv (Ls : Nat) (xs : Nat → Int32) (j : Int) : Int := zvx (zce Ls xs j.toNat)
theorem znI_in {u : Nat} (h : u < 2147483648) : (nI u).toInt = u := by
  rw [znI_toInt, Int.bmod_def, show ((2 ^ 32 : Nat) : Int) = 4294967296 from rfl]
  omega
theorem zce_b (Ls : Nat) (xs : Nat → Int32) (k : Nat) : -2147483648 ≤ zce Ls xs k ∧ zce Ls xs k ≤ 2147483647 := by
  have key : ∀ x : Int32, -2147483648 ≤ x.toInt ∧ x.toInt ≤ 2147483647 := fun x => by
    have h1 := Int32.le_toInt x
    have h2 := Int32.toInt_lt x
    omega
  unfold zce
  split
  · exact key _
  · exact key _
theorem zlnn_b (Ls : Nat) (xs : Nat → Int32) : 1 ≤ zlnn Ls xs ∧ zlnn Ls xs ≤ 16 := by
  obtain ⟨j, hj, e⟩ := pk_andE (Int32.ofInt (zce Ls xs 0)) (m := Int32.ofInt 15) 4 (by decide)
  unfold zlnn
  rw [e, znI_in (by omega)]
  omega
theorem zlo_b (x : Int) : 0 ≤ (Int32.ofInt x &&& Int32.ofInt 1).toInt ∧ (Int32.ofInt x &&& Int32.ofInt 1).toInt ≤ 1 := by
  obtain ⟨j, hj, e⟩ := pk_andE (Int32.ofInt x) (m := Int32.ofInt 1) 1 (by decide)
  rw [e, znI_in (by omega)]
  omega
theorem zhi_b (x : Int) : -128 ≤ (Int32.ofInt x >>> (Int32.ofInt 24 &&& 31)).toInt ∧ (Int32.ofInt x >>> (Int32.ofInt 24 &&& 31)).toInt ≤ 127 := by
  rw [pk_shr (Int32.ofInt x) (Int32.ofInt 24 &&& 31) 24 (by decide), Int.shiftRight_eq_div_pow, show ((2 ^ 24 : Nat) : Int) = 16777216 from rfl]
  have h1 := Int32.le_toInt (Int32.ofInt x)
  have h2 := Int32.toInt_lt (Int32.ofInt x)
  omega
theorem zvx_b {x : Int} (h : -2147483648 ≤ x ∧ x ≤ 2147483647) : -2147483647 ≤ zvx x ∧ zvx x ≤ 2147483647 := by
  unfold zvx
  split
  · omega
  · split
    · omega
    · have := zhi_b x
      omega
theorem zL_in (hA : zAll) (X : ZX) {Ls : Nat} {xs : Nat → Int32} (hLs : Ls ≤ 2147483647) {f : Nat → Int} {g : Nat → Int → Int} (hbd : zBd g) {k : Nat} {n : Int} (hn : 1 ≤ n ∧ n ≤ 16) (f17 : f 17 = n) (f18 : f 18 = k) (f7 : f 7 = (k : Int) + 1) (hk : (k : Int) < n) :
    ∃ (f' : Nat → Int) (g' : Nat → Int → Int), zToL Ls xs 0 f g 0 f' g' ∧ zBd g' ∧ f' 17 = n ∧ f' 18 = (k : Int) + 1 ∧ f' 7 = (k : Int) + 2 ∧ (∀ x, x ≠ (k : Int) + 1 → g' 258 x = g 258 x) ∧ g' 258 ((k : Int) + 1) = zlvv Ls xs ((k : Int) + 1) ∧ (∀ x, x ≠ (k : Int) → g' 262 x = g 262 x) ∧ g' 262 (k : Int) = zlvv Ls xs ((k : Int) + 1) := by
  have e0 : zlvv Ls xs ((k : Int) + 1) = zvx (zce Ls xs (k + 1)) := by
    unfold zlvv
    rw [show ((k : Int) + 1).toNat = k + 1 by omega]
  obtain ⟨x, hx⟩ : ∃ x, x = zce Ls xs (k + 1) := ⟨_, rfl⟩
  have xb := zce_b Ls xs (k + 1)
  rw [← hx] at e0 xb
  obtain ⟨lo, hlo⟩ : ∃ lo, lo = (Int32.ofInt x &&& Int32.ofInt 1).toInt := ⟨_, rfl⟩
  obtain ⟨hi, hhi⟩ : ∃ hi, hi = (Int32.ofInt x >>> (Int32.ofInt 24 &&& 31)).toInt := ⟨_, rfl⟩
  obtain ⟨len, hlen⟩ : ∃ len, len = (nI Ls).toInt := ⟨_, rfl⟩
  have lob := zlo_b x
  have hib := zhi_b x
  rw [← hlo] at lob
  rw [← hhi] at hib
  have ev : zvx x = if x = -2147483648 then 0 else if lo = 0 then x else hi := by
    unfold zvx
    rw [← hlo, ← hhi]
  have lenE : len = Ls := by
    rw [hlen, znI_in (by omega)]
  rw [e0]
  by_cases hin : k + 1 < Ls
  · have hxx : x = (xs (k + 1)).toInt := by
      rw [hx]
      unfold zce
      rw [if_pos hin]
    have o1 : ∃ j : Nat, j < Ls ∧ Ls ≤ 2147483647 ∧ (f 18 + 1) = j ∧ x = (xs j).toInt := ⟨k + 1, hin, hLs, by rw [f18]; rfl, hxx⟩
    by_cases hm : x = -2147483648
    · rw [if_pos hm] at ev
      rw [ev]
      obtain ⟨f1, g1, p1_0, p1_1, p1_2, F1_258, p1_3, F1_262, p1_4, hb1, ht1⟩ := zW_yI0m hA X (Ls := Ls) (xs := xs) f g hbd (len) (x) (by first | assumption | omega | exact ⟨by omega, by omega⟩) (by first | assumption | omega | exact ⟨by omega, by omega⟩) (by first | assumption | omega | exact ⟨by omega, by omega⟩) (by first | assumption | omega | exact ⟨by omega, by omega⟩) (by first | assumption | omega | exact ⟨by omega, by omega⟩) (by first | assumption | omega | exact ⟨by omega, by omega⟩) (by first | assumption | omega | exact ⟨by omega, by omega⟩) (by first | assumption | omega | exact ⟨by omega, by omega⟩) (by first | assumption | omega | exact ⟨by omega, by omega⟩) (by first | assumption | omega | exact ⟨by omega, by omega⟩)
      exact ⟨f1, g1, ht1, hb1, by omega, by omega, by omega, fun y hy => F1_258 y (by omega), by rw [← f18]; exact p1_3, fun y hy => F1_262 y (by omega), by rw [← f18]; exact p1_4⟩
    · rw [if_neg hm] at ev
      by_cases he : lo = 0
      · rw [if_pos he] at ev
        rw [ev]
        obtain ⟨f1, g1, p1_0, p1_1, p1_2, F1_258, p1_3, F1_262, p1_4, hb1, ht1⟩ := zW_yI0e hA X (Ls := Ls) (xs := xs) f g hbd (len) (x) (lo) (by first | assumption | omega | exact ⟨by omega, by omega⟩) (by first | assumption | omega | exact ⟨by omega, by omega⟩) (by first | assumption | omega | exact ⟨by omega, by omega⟩) (by first | assumption | omega | exact ⟨by omega, by omega⟩) (by first | assumption | omega | exact ⟨by omega, by omega⟩) (by first | assumption | omega | exact ⟨by omega, by omega⟩) (by first | assumption | omega | exact ⟨by omega, by omega⟩) (by first | assumption | omega | exact ⟨by omega, by omega⟩) (by first | assumption | omega | exact ⟨by omega, by omega⟩) (by first | assumption | omega | exact ⟨by omega, by omega⟩) (by first | assumption | omega | exact ⟨by omega, by omega⟩) (by first | assumption | omega | exact ⟨by omega, by omega⟩) (by first | assumption | omega | exact ⟨by omega, by omega⟩) (by first | assumption | omega | exact ⟨by omega, by omega⟩)
        exact ⟨f1, g1, ht1, hb1, by omega, by omega, by omega, fun y hy => F1_258 y (by omega), by rw [← f18]; exact p1_3, fun y hy => F1_262 y (by omega), by rw [← f18]; exact p1_4⟩
      · rw [if_neg he] at ev
        rw [ev]
        obtain ⟨f1, g1, p1_0, p1_1, p1_2, F1_258, p1_3, F1_262, p1_4, hb1, ht1⟩ := zW_yI0v hA X (Ls := Ls) (xs := xs) f g hbd (len) (x) (lo) (hi) (by first | assumption | omega | exact ⟨by omega, by omega⟩) (by first | assumption | omega | exact ⟨by omega, by omega⟩) (by first | assumption | omega | exact ⟨by omega, by omega⟩) (by first | assumption | omega | exact ⟨by omega, by omega⟩) (by first | assumption | omega | exact ⟨by omega, by omega⟩) (by first | assumption | omega | exact ⟨by omega, by omega⟩) (by first | assumption | omega | exact ⟨by omega, by omega⟩) (by first | assumption | omega | exact ⟨by omega, by omega⟩) (by first | assumption | omega | exact ⟨by omega, by omega⟩) (by first | assumption | omega | exact ⟨by omega, by omega⟩) (by first | assumption | omega | exact ⟨by omega, by omega⟩) (by first | assumption | omega | exact ⟨by omega, by omega⟩) (by first | assumption | omega | exact ⟨by omega, by omega⟩) (by first | assumption | omega | exact ⟨by omega, by omega⟩) (by first | assumption | omega | exact ⟨by omega, by omega⟩)
        exact ⟨f1, g1, ht1, hb1, by omega, by omega, by omega, fun y hy => F1_258 y (by omega), by rw [← f18]; exact p1_3, fun y hy => F1_262 y (by omega), by rw [← f18]; exact p1_4⟩
  · have hxx : x = (Int32.ofInt 1640531527 * Int32.ofInt (f 18 + 4)).toInt := by
      rw [hx]
      unfold zce
      rw [if_neg hin, f18, show (((k + 1 : Nat) : Int) + 3) = (k : Int) + 4 by omega]
    by_cases hm : x = -2147483648
    · rw [if_pos hm] at ev
      rw [ev]
      obtain ⟨f1, g1, p1_0, p1_1, p1_2, F1_258, p1_3, F1_262, p1_4, hb1, ht1⟩ := zW_yI1m hA X (Ls := Ls) (xs := xs) f g hbd (len) (x) (by first | assumption | omega | exact ⟨by omega, by omega⟩) (by first | assumption | omega | exact ⟨by omega, by omega⟩) (by first | assumption | omega | exact ⟨by omega, by omega⟩) (by first | assumption | omega | exact ⟨by omega, by omega⟩) (by first | assumption | omega | exact ⟨by omega, by omega⟩) (by first | assumption | omega | exact ⟨by omega, by omega⟩) (by first | assumption | omega | exact ⟨by omega, by omega⟩) (by first | assumption | omega | exact ⟨by omega, by omega⟩) (by first | assumption | omega | exact ⟨by omega, by omega⟩) (by first | assumption | omega | exact ⟨by omega, by omega⟩)
      exact ⟨f1, g1, ht1, hb1, by omega, by omega, by omega, fun y hy => F1_258 y (by omega), by rw [← f18]; exact p1_3, fun y hy => F1_262 y (by omega), by rw [← f18]; exact p1_4⟩
    · rw [if_neg hm] at ev
      by_cases he : lo = 0
      · rw [if_pos he] at ev
        rw [ev]
        obtain ⟨f1, g1, p1_0, p1_1, p1_2, F1_258, p1_3, F1_262, p1_4, hb1, ht1⟩ := zW_yI1e hA X (Ls := Ls) (xs := xs) f g hbd (len) (x) (lo) (by first | assumption | omega | exact ⟨by omega, by omega⟩) (by first | assumption | omega | exact ⟨by omega, by omega⟩) (by first | assumption | omega | exact ⟨by omega, by omega⟩) (by first | assumption | omega | exact ⟨by omega, by omega⟩) (by first | assumption | omega | exact ⟨by omega, by omega⟩) (by first | assumption | omega | exact ⟨by omega, by omega⟩) (by first | assumption | omega | exact ⟨by omega, by omega⟩) (by first | assumption | omega | exact ⟨by omega, by omega⟩) (by first | assumption | omega | exact ⟨by omega, by omega⟩) (by first | assumption | omega | exact ⟨by omega, by omega⟩) (by first | assumption | omega | exact ⟨by omega, by omega⟩) (by first | assumption | omega | exact ⟨by omega, by omega⟩) (by first | assumption | omega | exact ⟨by omega, by omega⟩) (by first | assumption | omega | exact ⟨by omega, by omega⟩)
        exact ⟨f1, g1, ht1, hb1, by omega, by omega, by omega, fun y hy => F1_258 y (by omega), by rw [← f18]; exact p1_3, fun y hy => F1_262 y (by omega), by rw [← f18]; exact p1_4⟩
      · rw [if_neg he] at ev
        rw [ev]
        obtain ⟨f1, g1, p1_0, p1_1, p1_2, F1_258, p1_3, F1_262, p1_4, hb1, ht1⟩ := zW_yI1v hA X (Ls := Ls) (xs := xs) f g hbd (len) (x) (lo) (hi) (by first | assumption | omega | exact ⟨by omega, by omega⟩) (by first | assumption | omega | exact ⟨by omega, by omega⟩) (by first | assumption | omega | exact ⟨by omega, by omega⟩) (by first | assumption | omega | exact ⟨by omega, by omega⟩) (by first | assumption | omega | exact ⟨by omega, by omega⟩) (by first | assumption | omega | exact ⟨by omega, by omega⟩) (by first | assumption | omega | exact ⟨by omega, by omega⟩) (by first | assumption | omega | exact ⟨by omega, by omega⟩) (by first | assumption | omega | exact ⟨by omega, by omega⟩) (by first | assumption | omega | exact ⟨by omega, by omega⟩) (by first | assumption | omega | exact ⟨by omega, by omega⟩) (by first | assumption | omega | exact ⟨by omega, by omega⟩) (by first | assumption | omega | exact ⟨by omega, by omega⟩) (by first | assumption | omega | exact ⟨by omega, by omega⟩) (by first | assumption | omega | exact ⟨by omega, by omega⟩)
        exact ⟨f1, g1, ht1, hb1, by omega, by omega, by omega, fun y hy => F1_258 y (by omega), by rw [← f18]; exact p1_3, fun y hy => F1_262 y (by omega), by rw [← f18]; exact p1_4⟩
theorem zL_all (hA : zAll) (X : ZX) {Ls : Nat} {xs : Nat → Int32} (hLs : Ls ≤ 2147483647) {n : Int} (hn : 1 ≤ n ∧ n ≤ 16) : ∀ (w k : Nat) (f : Nat → Int) (g : Nat → Int → Int), n.toNat = k + w → zBd g → f 17 = n → f 18 = k → f 7 = (k : Int) + 1 → g 258 0 = n → (∀ j : Int, 1 ≤ j → j ≤ k → g 258 j = zlvv Ls xs j) → (∀ j : Int, 0 ≤ j → j < k → g 262 j = zlvv Ls xs (j + 1)) →
    ∃ (f' : Nat → Int) (g' : Nat → Int → Int), zToL Ls xs 0 f g 0 f' g' ∧ zBd g' ∧ f' 17 = n ∧ f' 18 = n ∧ f' 7 = n + 1 ∧ g' 258 0 = n ∧ (∀ j : Int, 1 ≤ j → j ≤ n → g' 258 j = zlvv Ls xs j) ∧ (∀ j : Int, 0 ≤ j → j < n → g' 262 j = zlvv Ls xs (j + 1))
  | 0, k, f, g, hw, hbd, f17, f18, f7, h0, h1, h2 => ⟨f, g, fun _ _ h => h, hbd, f17, by omega, by omega, h0, fun j a b => h1 j a (by omega), fun j a b => h2 j a (by omega)⟩
  | w + 1, k, f, g, hw, hbd, f17, f18, f7, h0, h1, h2 => by
    obtain ⟨f1, g1, t1, t2, t3, t4, t5, t6, t7, t8, t9⟩ := zL_in hA X hLs hbd hn f17 f18 f7 (by omega)
    obtain ⟨f2, g2, u1, u2⟩ := zL_all hA X hLs hn w (k + 1) f1 g1 (by omega) t2 t3 (by rw [t4]; rfl) (by rw [t5]; omega) (by rw [t6 _ (by omega)]; exact h0) (fun j a b => by
      by_cases e : j = (k : Int) + 1
      · rw [e]
        exact t7
      · rw [t6 _ e]
        exact h1 j a (by omega)) (fun j a b => by
      by_cases e : j = (k : Int)
      · rw [e]
        exact t9
      · rw [t8 _ e]
        exact h2 j a (by omega))
    exact ⟨f2, g2, zToL_trans t1 u1, u2⟩
