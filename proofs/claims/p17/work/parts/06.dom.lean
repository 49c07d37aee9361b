/-! The picture: values (tag, number): 0 an int, 1 a long, 2 null, 3 the pool's object of that number, 4 what lies outside, 5 an int of the script, 6 any int, 7 any reference or null, 8 an int of the script as a long. Objects (kind, length, tree): kinds below 50 are classes of zcl, the others arrays. -/
abbrev ZO : Type := Nat × Nat × ZT ZV 18
abbrev ZH : Type := ZT ZO 10
abbrev ZG : Type := ZH × Nat × Nat × Nat
abbrev ZL : Type := List (Option ZV)
abbrev ZRes : Type := Nat × Option ZV × ZG
abbrev ZK : Type := Nat → ZL → List ZV → ZG → Option ZRes
abbrev ZE : Type := Nat × Nat × List Nat
/-- the valuation of the symbols; what the symbolic arrays hold; where their listed places are -/
abbrev ZSg : Type := (Nat → Int) × (Nat → Nat → Int) × (Nat → Nat → Nat)
abbrev ZX : Type := va_G × (Nat → ClassId) × (Nat → Nat) × (Nat → Int32) × ZSg
def zsg (X : ZX) : Nat → Int := X.2.2.2.2.1
def zph (X : ZX) : Nat → Nat → Int := X.2.2.2.2.2.1
def zkv (X : ZX) : Nat → Nat → Nat := X.2.2.2.2.2.2
/-- a symbol and an offset, as one number -/
def zd (σ : Nat → Int) (u : Nat) : Int := σ (u / 1099511627776) + ((u % 1099511627776 : Nat) : Int) - 549755813888
def zv (X : ZX) (ad : Nat → Nat) (n : Nat) (v : ZV) (w : Value) : Prop := match v.1 with
  | 0 => w = .int (nI v.2)
  | 1 => w = .long (lN v.2)
  | 2 => w = .null
  | 3 => v.2 < n ∧ w = .ref (ad v.2)
  | 4 => w = .ref (X.2.2.1 v.2)
  | 5 => w = .int (Int32.ofInt (zd (zsg X) v.2))
  | 6 => ∃ x : Int32, w = .int x
  | 7 => w = .null ∨ ∃ a : Nat, w = .ref a
  | 8 => w = .long (Int64.ofInt (zd (zsg X) v.2))
  | 9 => ∃ x : Int64, w = .long x
  | _ => False
theorem zv_mono {X : ZX} {ad ad' : Nat → Nat} {n n' : Nat} {v : ZV} {w : Value} (h : zv X ad n v w) (hn : n ≤ n') (ha : ∀ k, k < n → ad' k = ad k) : zv X ad' n' v w := by
  obtain ⟨t, u⟩ := v
  match t, h with
  | 0, h => exact h
  | 1, h => exact h
  | 2, h => exact h
  | 3, ⟨h1, h2⟩ => exact ⟨Nat.lt_of_lt_of_le h1 hn, by rw [ha u h1]; exact h2⟩
  | 4, h => exact h
  | 5, h => exact h
  | 6, h => exact h
  | 7, h => exact h
  | 8, h => exact h
  | 9, h => exact h
  | (t + 10), h => exact h
def zint (v : ZV) : Bool := match v.1 with
  | 0 => true
  | 5 => true
  | 6 => true
  | _ => false
def zlong (v : ZV) : Bool := match v.1 with
  | 1 => true
  | 8 => true
  | 9 => true
  | _ => false
def zref (v : ZV) : Bool := match v.1 with
  | 2 => true
  | 3 => true
  | 4 => true
  | 7 => true
  | _ => false
theorem zint_ok {X : ZX} {ad : Nat → Nat} {n : Nat} {v : ZV} {w : Value} (h : zint v = true) (hv : zv X ad n v w) : ∃ x : Int32, w = .int x := by
  obtain ⟨t, u⟩ := v
  match t, h, hv with
  | 0, _, hv => exact ⟨_, hv⟩
  | 5, _, hv => exact ⟨_, hv⟩
  | 6, _, hv => exact hv
theorem zlong_ok {X : ZX} {ad : Nat → Nat} {n : Nat} {v : ZV} {w : Value} (h : zlong v = true) (hv : zv X ad n v w) : ∃ x : Int64, w = .long x := by
  obtain ⟨t, u⟩ := v
  match t, h, hv with
  | 1, _, hv => exact ⟨_, hv⟩
  | 8, _, hv => exact ⟨_, hv⟩
  | 9, _, hv => exact hv
theorem zref_ok {X : ZX} {ad : Nat → Nat} {n : Nat} {v : ZV} {w : Value} (h : zref v = true) (hv : zv X ad n v w) : w = .null ∨ ∃ a : Nat, w = .ref a := by
  obtain ⟨t, u⟩ := v
  match t, h, hv with
  | 2, _, hv => exact Or.inl hv
  | 3, _, hv => exact Or.inr ⟨_, hv.2⟩
  | 4, _, hv => exact Or.inr ⟨_, hv⟩
  | 7, _, hv => exact hv
theorem zv_cat {X : ZX} {ad : Nat → Nat} {n : Nat} {v : ZV} {w : Value} (hv : zv X ad n v w) : w.category = if zlong v = true then 2 else 1 := by
  obtain ⟨t, u⟩ := v
  match t, hv with
  | 0, hv => rw [show w = _ from hv]; rfl
  | 1, hv => rw [show w = _ from hv]; rfl
  | 2, hv => rw [show w = _ from hv]; rfl
  | 3, hv => rw [show w = _ from hv.2]; rfl
  | 4, hv => rw [show w = _ from hv]; rfl
  | 5, hv => rw [show w = _ from hv]; rfl
  | 6, ⟨x, hv⟩ => rw [hv]; rfl
  | 7, hv =>
    rcases hv with hv | ⟨a, hv⟩ <;> rw [hv] <;> rfl
  | 8, hv => rw [show w = _ from hv]; rfl
  | 9, ⟨x, hv⟩ => rw [hv]; rfl
/-- an object of the picture and a cell of the world -/
def zob0 (X : ZX) (ad : Nat → Nat) (n : Nat) (o : ZO) (e : va_E) : Prop :=
  (o.1 < 50 ∧ (∃ (C : String) (T : u_T), zcl[o.1]? = some (C, T, o.2.1)) ∧ ∃ fs : List Value, e = .inr (o.1, fs) ∧ fs.length = o.2.1 ∧ ∀ k, k < o.2.1 → ∃ (v : ZV) (w : Value), zt_get 18 o.2.2 k = some v ∧ fs[k]? = some w ∧ zv X ad n v w) ∨
  (50 ≤ o.1 ∧ o.1 < 60 ∧ o.1 ∈ zcodes ∧ ∃ f : Nat → Int32, e = .inl (X.2.1 o.1, o.2.1, .inl f) ∧ ∀ j, j < o.2.1 → zv X ad n ((zt_get 18 o.2.2 j).getD (0, 0)) (.int (f j))) ∨
  (o.1 = 60 ∧ ∃ f : Nat → Int64, e = .inl (X.2.1 o.1, o.2.1, .inr (.inl f)) ∧ ∀ j, j < o.2.1 → zv X ad n ((zt_get 18 o.2.2 j).getD (1, 0)) (.long (f j))) ∨
  (70 ≤ o.1 ∧ o.1 ∈ zcodes ∧ ∃ f : Nat → Option Nat, e = .inl (X.2.1 o.1, o.2.1, .inr (.inr (.inr (.inr f)))) ∧ ∀ j, j < o.2.1 → zv X ad n ((zt_get 18 o.2.2 j).getD (2, 0)) (va_rf (f j)))
theorem zob0_mono {X : ZX} {ad ad' : Nat → Nat} {n n' : Nat} {o : ZO} {e : va_E} (h : zob0 X ad n o e) (hn : n ≤ n') (ha : ∀ k, k < n → ad' k = ad k) : zob0 X ad' n' o e := by
  rcases h with ⟨h0, h00, fs, h1, h2, h3⟩ | ⟨h0, h0', h0'', f, h1, h2⟩ | ⟨h0, f, h1, h2⟩ | ⟨h0, h0', f, h1, h2⟩
  · exact Or.inl ⟨h0, h00, fs, h1, h2, fun k hk => by obtain ⟨v, w, a, b, d⟩ := h3 k hk; exact ⟨v, w, a, b, zv_mono d hn ha⟩⟩
  · exact Or.inr (Or.inl ⟨h0, h0', h0'', f, h1, fun j hj => zv_mono (h2 j hj) hn ha⟩)
  · exact Or.inr (Or.inr (Or.inl ⟨h0, f, h1, fun j hj => zv_mono (h2 j hj) hn ha⟩))
  · exact Or.inr (Or.inr (Or.inr ⟨h0, h0', f, h1, fun j hj => zv_mono (h2 j hj) hn ha⟩))
/-- a symbolic array: 1000 + 4 times its number + 0 of ints, 1 of bytes, 2 of longs -/
def zkap (k : Nat) : Nat := match k % 4 with
  | 0 => 50
  | 1 => 51
  | _ => 60
def zsya (X : ZX) (ad : Nat → Nat) (n : Nat) (o : ZO) (e : va_E) : Prop :=
  1000 ≤ o.1 ∧ ((o.1 % 4 < 2 ∧ ∃ f : Nat → Int32, e = .inl (X.2.1 (zkap o.1), o.2.1, .inl f) ∧ (∀ (sl : Nat) (v : ZV), zt_get 18 o.2.2 sl = some v → zkv X (o.1 / 4) sl < o.2.1 ∧ zv X ad n v (.int (f (zkv X (o.1 / 4) sl)))) ∧ ∀ j, j < o.2.1 → (∀ (sl : Nat) (v : ZV), zt_get 18 o.2.2 sl = some v → zkv X (o.1 / 4) sl ≠ j) → f j = Int32.ofInt (zph X (o.1 / 4) j)) ∨
    (o.1 % 4 = 2 ∧ ∃ f : Nat → Int64, e = .inl (X.2.1 (zkap o.1), o.2.1, .inr (.inl f)) ∧ (∀ (sl : Nat) (v : ZV), zt_get 18 o.2.2 sl = some v → zkv X (o.1 / 4) sl < o.2.1 ∧ zv X ad n v (.long (f (zkv X (o.1 / 4) sl)))) ∧ ∀ j, j < o.2.1 → (∀ (sl : Nat) (v : ZV), zt_get 18 o.2.2 sl = some v → zkv X (o.1 / 4) sl ≠ j) → f j = Int64.ofInt (zph X (o.1 / 4) j)))
theorem zsya_mono {X : ZX} {ad ad' : Nat → Nat} {n n' : Nat} {o : ZO} {e : va_E} (h : zsya X ad n o e) (hn : n ≤ n') (ha : ∀ k, k < n → ad' k = ad k) : zsya X ad' n' o e := by
  obtain ⟨h0, ⟨h1, f, h2, h3, h4⟩ | ⟨h1, f, h2, h3, h4⟩⟩ := h
  · exact ⟨h0, Or.inl ⟨h1, f, h2, fun sl v q => ⟨(h3 sl v q).1, zv_mono (h3 sl v q).2 hn ha⟩, h4⟩⟩
  · exact ⟨h0, Or.inr ⟨h1, f, h2, fun sl v q => ⟨(h3 sl v q).1, zv_mono (h3 sl v q).2 hn ha⟩, h4⟩⟩
def zob1 (X : ZX) (ad : Nat → Nat) (n : Nat) (o : ZO) (e : va_E) : Prop := zob0 X ad n o e ∨ zsya X ad n o e
theorem zob1_mono {X : ZX} {ad ad' : Nat → Nat} {n n' : Nat} {o : ZO} {e : va_E} (h : zob1 X ad n o e) (hn : n ≤ n') (ha : ∀ k, k < n → ad' k = ad k) : zob1 X ad' n' o e := by
  rcases h with h | h
  · exact Or.inl (zob0_mono h hn ha)
  · exact Or.inr (zsya_mono h hn ha)
theorem zob0_of {X : ZX} {ad : Nat → Nat} {n : Nat} {o : ZO} {e : va_E} (h : zob1 X ad n o e) (h2 : o.1 < 1000) : zob0 X ad n o e := by
  rcases h with h | h
  · exact h
  · exact absurd h.1 (Nat.not_le.mpr h2)
theorem zsya_of {X : ZX} {ad : Nat → Nat} {n : Nat} {o : ZO} {e : va_E} (h : zob1 X ad n o e) (h2 : 1000 ≤ o.1) (hc : ∀ k ∈ zcodes, k < 1000) : zsya X ad n o e := by
  rcases h with h | h
  · exfalso
    rcases h with ⟨h0, -⟩ | ⟨-, h0, -⟩ | ⟨h0, -⟩ | ⟨-, h0, -⟩
    · omega
    · omega
    · omega
    · exact absurd (hc _ h0) (by omega)
  · exact h
abbrev zA (B0 : Nat) : Nat → Prop := fun q => B0 ≤ q
def zW1 (B0 : Nat) (X : ZX) (ad : Nat → Nat) (G : ZG) (H : Heap) : Prop := ∃ ws : va_W, ws.length = G.2.1 ∧ (∀ k, k < G.2.1 → ∃ (o : ZO) (e : va_E), zt_get 10 G.1 k = some o ∧ ws[k]? = some (ad k, e) ∧ zob1 X ad G.2.1 o e) ∧ va_P X.1 zcl ws H ∧ va_D (zA B0) ws
def zLc (X : ZX) (ad : Nat → Nat) (n : Nat) (ls : Array Slot) (nL : Nat) (L : ZL) : Prop := ls.size = nL ∧ lv_wf ls ∧ ∀ (i : Nat) (v : ZV), L[i]? = some (some v) → ∃ w : Value, ls[i]? = some (.val w) ∧ zv X ad n v w
def zSt (P : ZV → Value → Prop) : List ZV → List Value → Prop
  | [], ws => ws = []
  | v :: vs, ws => ∃ (w : Value) (ws' : List Value), ws = w :: ws' ∧ P v w ∧ zSt P vs ws'
theorem zSt_mono {P P' : ZV → Value → Prop} (h : ∀ v w, P v w → P' v w) : ∀ (st : List ZV) (sv : List Value), zSt P st sv → zSt P' st sv
  | [], _, h1 => h1
  | v :: vs, _, ⟨w, ws', e, hp, h1⟩ => ⟨w, ws', e, h v w hp, zSt_mono h vs ws' h1⟩
theorem zLc_mono {X : ZX} {ad ad' : Nat → Nat} {n n' nL : Nat} {ls : Array Slot} {L : ZL} (h : zLc X ad n ls nL L) (hn : n ≤ n') (ha : ∀ k, k < n → ad' k = ad k) : zLc X ad' n' ls nL L :=
  ⟨h.1, h.2.1, fun i v hv => by obtain ⟨w, a, b⟩ := h.2.2 i v hv; exact ⟨w, a, zv_mono b hn ha⟩⟩
/-- the tables' words that every method may use -/
def zW : List Cond := lw_tbl.filter goodWord
theorem zW_in {w : Cond} (h : w ∈ zW) : w ∈ lw_tbl := (List.mem_filter.mp h).1
theorem zW_good {w : Cond} (h : w ∈ zW) : goodWord w = true := (List.mem_filter.mp h).2
def zwk (pos : Nat) (w : Cond) : Bool := decide ((ztb (pos / 1000))[pos % 1000]? = some w) && goodWord w
theorem zwk_ok {pos : Nat} {w : Cond} (h : zwk pos w = true) : w ∈ zW := by
  unfold zwk at h
  rw [Bool.and_eq_true] at h
  exact List.mem_filter.mpr ⟨ztb_in _ w (List.mem_of_getElem? (of_decide_eq_true h.1)), h.2⟩
/-- words that a method's own list can't hold, though the tables decide them: they are kept as facts of the state -/
def zcold (w : Cond) : Bool := match w with
  | .fieldLinkNest _ _ _ _ _ _ => true
  | .methodLinkNest _ _ _ _ => true
  | .castable _ _ => true
  | .declares _ => true
  | .arrayOver (.object _) => true
  | _ => false
theorem zcold_use {U : State} {A : Array Value} {w : Cond} (hc : zcold w = true) (h : w.before #[] U = true) : w.before A U = true := by
  unfold zcold at hc
  split at hc
  · exact va_Nw.use rfl h
  · exact va_Nw.use rfl h
  · exact va_Nw.use rfl h
  · exact va_Nw.use rfl h
  · exact va_AO.use h
  · cases hc
theorem zcold_calling {U : State} {g : JFrame} {mk : MethodId} {a : Array Value} {w : Cond} (hc : zcold w = true) (h : w.before #[] U = true) : w.before #[] (U.calling g mk a) = true := by
  unfold zcold at hc
  split at hc
  · exact va_Nw.same rfl (u := U) (U := U.calling g mk a) rfl h
  · exact va_Nw.same rfl (u := U) (U := U.calling g mk a) rfl h
  · exact va_Nw.same rfl (u := U) (U := U.calling g mk a) rfl h
  · exact va_Nw.same rfl (u := U) (U := U.calling g mk a) rfl h
  · exact va_AO.moved (U := U.calling g mk a) (Vm.Alike.refl U.vm) h
  · cases hc
def zWn : List Cond := lw_tbl.filter zcold
theorem zcold_moved {s U : State} {w : Cond} (hW : s.WarmedH U.vm) (hc : zcold w = true) (h : w.before #[] s = true) : w.before #[] U = true := by
  unfold zcold at hc
  split at hc
  · exact va_Nw.warmF hW h
  · exact va_Nw.warmM hW h
  · exact va_Nw.warmC hW h
  · exact va_Nw.warmD hW h
  · exact va_AO.moved hW.alike h
  · cases hc
def zwx (pos : Nat) (w : Cond) : Bool := decide ((ztb (pos / 1000))[pos % 1000]? = some w) && (goodWord w || zcold w)
theorem zwx_ok {pos : Nat} {w : Cond} (h : zwx pos w = true) : w ∈ zW ∨ w ∈ zWn := by
  unfold zwx at h
  rw [Bool.and_eq_true] at h
  have hm := ztb_in _ w (List.mem_of_getElem? (of_decide_eq_true h.1))
  cases hg : goodWord w with
  | true => exact Or.inl (List.mem_filter.mpr ⟨hm, hg⟩)
  | false =>
    have h2 := h.2
    rw [hg] at h2
    exact Or.inr (List.mem_filter.mpr ⟨hm, h2⟩)
/-- what is known of the cells outside the pool, in a method's first state -/
def zSF (B0 L : Nat) (X : ZX) (s : State) : Prop :=
  (∀ (k τ N : Nat) (t : ZT Nat 10), zq_xt k = some (τ, N, t) → va_T (zty τ) (X.2.2.1 k) N (fun j => .int (nI ((zt_get 10 t j).getD 0))) (zA B0) s s.heap) ∧
  (∀ (k : Nat) (C n d : String) (v : ZV), zq_st k = some (C, n, d, v) → ∃ w : Value, (∀ (ad : Nat → Nat) (m : Nat), zv X ad m v w) ∧ va_Z C n d w (zA B0) s s.heap) ∧
  (∀ k kv : Nat, zq_xs k = some kv → va_O "java/lang/String" (X.2.2.1 k) (zA B0) s s.heap ∧ va_OF "java/lang/String" "coder" "B" (.int 0) (X.2.2.1 k) (zA B0) s s.heap ∧ va_OF "java/lang/String" "value" "[B" (.ref (X.2.2.1 kv)) (X.2.2.1 k) (zA B0) s s.heap) ∧
  (∀ (k : Nat) (own : String) (i : Nat) (tx : String) (x : Nat), zq_ld k = some (own, i, tx, x) → vk_R own i tx (X.2.2.1 x) s) ∧
  vx_Zq Bundle.tN "UNASSIGNED_STACK" Bundle.steD (zA B0) s s.heap ∧ vx_Zq Bundle.tN "SUPPRESSED_SENTINEL" Bundle.listD (zA B0) s s.heap ∧
  va_X (X.2.2.1 0) L X.2.2.2.1 s s.heap ∧ X.2.2.1 0 < s.heap.size ∧ ¬ B0 ≤ X.2.2.1 0 ∧ (∀ w ∈ zWn, w.before #[] s = true) ∧ (∀ q ∈ zq_nc, va_Nc (zq_ex q.1) (zq_ex q.2) s) ∧ va_Mi "[Ljava/lang/Object;" (X.2.2.1 40) s
theorem zSF_moved {B0 L : Nat} {X : ZX} {s U : State} (h : zSF B0 L X s) (hW : s.WarmedH U.vm) (hz : s.heap.size ≤ U.heap.size) (hq : ∀ a : Nat, a < s.heap.size → ¬ B0 ≤ a → U.heap[a]? = s.heap[a]?) : zSF B0 L X U := by
  obtain ⟨h1, h2, h3, h4, h5, h6, h7, h8, h9, h10, h11, h12⟩ := h
  have hvm := hW.alike
  refine ⟨fun k τ N t e => ((h1 k τ N t e).kept hq).moved hvm, fun k C n d v e => ?_, fun k kv e => ?_, fun k own i tx x e => (h4 k own i tx x e).warm hW, (h5.kept hq).moved hvm, (h6.kept hq).moved hvm, (h7.kept (hq _ h8 h9)).moved hvm, Nat.lt_of_lt_of_le h8 hz, h9, fun w hw => zcold_moved hW (List.mem_filter.mp hw).2 (h10 w hw), fun q hq => (h11 q hq).moved hvm, h12.moved hvm⟩
  · obtain ⟨w, a, b⟩ := h2 k C n d v e
    exact ⟨w, a, (b.kept hq).moved hvm⟩
  · obtain ⟨a, b, c⟩ := h3 k kv e
    exact ⟨(a.kept hq).moved hvm, (b.kept hq).moved hvm, (c.kept hq).moved hvm⟩
theorem zSF_calling {B0 L : Nat} {X : ZX} {U : State} {g : JFrame} {mk : MethodId} {a : Array Value} (h : zSF B0 L X U) : zSF B0 L X (U.calling g mk a) := by
  obtain ⟨h1, h2, h3, h4, h5, h6, h7, h8, h9, h10, h11, h12⟩ := h
  have hvm : U.vm.Alike (U.calling g mk a).vm := Vm.Alike.refl U.vm
  refine ⟨fun k τ N t e => (h1 k τ N t e).moved hvm, fun k C n d v e => ?_, fun k kv e => ?_, fun k own i tx x e => vk_R.same (u := U) (U := U.calling g mk a) rfl (h4 k own i tx x e), h5.moved hvm, h6.moved hvm, h7.moved hvm, h8, h9, fun w hw => zcold_calling (List.mem_filter.mp hw).2 (h10 w hw), fun q hq => (h11 q hq).moved (U := U.calling g mk a) hvm, h12.moved (U := U.calling g mk a) hvm⟩
  · obtain ⟨w, a, b⟩ := h2 k C n d v e
    exact ⟨w, a, b.moved hvm⟩
  · obtain ⟨a, b, c⟩ := h3 k kv e
    exact ⟨a.moved hvm, b.moved hvm, c.moved hvm⟩
def ztys (X : ZX) : List (ClassId × FieldType) := zcodes.map fun k => (X.2.1 k, zty k)
theorem ztys_at {X : ZX} {k : Nat} (h : k ∈ zcodes) : ∃ t0 : Nat, (ztys X)[t0]? = some (X.2.1 k, zty k) := by
  obtain ⟨i, hi⟩ := List.getElem?_of_mem h
  exact ⟨i, by unfold ztys; rw [List.getElem?_map, hi]; rfl⟩
/-- what a frame knows from its start -/
def zF (B0 L : Nat) (X : ZX) (p : Program) (l : Launch) (s : State) (m : MethodId) (args : Array Value) (meth : Method) (c : Code) (own : String) (cc : ByteArray) (nL : Nat) : Prop :=
  p.tables.exec = Jvm.exec ∧ c.code = cc ∧ c.maxLocals = nL ∧ s.vm.findClass own = some m.cls ∧ (∀ w ∈ zW, w.before args s = true) ∧ meth.locks = false ∧ va_K X.1 zcl (ztys X) s ∧ zSF B0 L X s ∧ B0 ≤ s.heap.size ∧ l.stackTraces = false
/-- the addresses go on from those of the method's start -/
def zAg (ad0 : Nat → Nat) (n0 : Nat) (ad : Nat → Nat) (n : Nat) : Prop := n0 ≤ n ∧ ∀ k, k < n0 → ad k = ad0 k
/-- the frame comes to Q from every state that the picture shows -/
def zHd (B0 : Nat) (X : ZX) (ad0 : Nat → Nat) (n0 : Nat) (p : Program) (l : Launch) (e : Env) (R : Room) (s : State) (m : MethodId) (args : Array Value) (below : List Frame) (meth : Method) (c : Code) (Q : State → Prop) (nL : Nat) (pc : Nat) (L : ZL) (st : List ZV) (G : ZG) : Prop :=
  ∀ (ad : Nat → Nat), zAg ad0 n0 ad G.2.1 → ∀ (H : Heap) (locs : List Loc) (ls : Array Slot) (sv : List Value), zW1 B0 X ad G H → va_S (zA B0) s.heap H locs → zLc X ad G.2.1 ls nL L → zSt (zv X ad G.2.1) st sv → W p l e R s m args below meth c H locs G.2.2.1 G.2.2.2 Q (F0 m pc ls sv)
theorem zF_use {B0 L : Nat} {X : ZX} {p : Program} {l : Launch} {s : State} {m : MethodId} {args : Array Value} {meth : Method} {c : Code} {own : String} {cc : ByteArray} {nL : Nat} (F : zF B0 L X p l s m args meth c own cc nL) {pos : Nat} {w : Cond} (h : zwx pos w = true) : w.before args s = true := by
  obtain ⟨hx, hb, hml, hown, hts, hlk, hK, hF, hB, hst⟩ := F
  rcases zwx_ok h with h | h
  · exact hts w h
  · exact zcold_use (List.mem_filter.mp h).2 (hF.2.2.2.2.2.2.2.2.2.1 w h)
/-! what a value stands for -/
def zvi (X : ZX) (v : ZV) : Int32 := match v.1 with
  | 0 => nI v.2
  | 5 => Int32.ofInt (zd (zsg X) v.2)
  | _ => 0
def zvl (X : ZX) (v : ZV) : Int64 := match v.1 with
  | 1 => lN v.2
  | 8 => Int64.ofInt (zd (zsg X) v.2)
  | _ => 0
noncomputable def zisi (v : ZV) : Bool := zif (Nat.beq v.1 0) true (Nat.beq v.1 5)
noncomputable def zisl (v : ZV) : Bool := zif (Nat.beq v.1 1) true (Nat.beq v.1 8)
theorem zisi_or {v : ZV} (h : zisi v = true) : v.1 = 0 ∨ v.1 = 5 := by
  rcases zif_or h with ⟨e, -⟩ | ⟨-, e⟩
  · exact Or.inl (zb_eq e)
  · exact Or.inr (zb_eq e)
theorem zisl_or {v : ZV} (h : zisl v = true) : v.1 = 1 ∨ v.1 = 8 := by
  rcases zif_or h with ⟨e, -⟩ | ⟨-, e⟩
  · exact Or.inl (zb_eq e)
  · exact Or.inr (zb_eq e)
theorem zvi_ok {X : ZX} {ad : Nat → Nat} {n : Nat} {v : ZV} {w : Value} (h : zisi v = true) (hv : zv X ad n v w) : w = .int (zvi X v) := by
  obtain ⟨t, u⟩ := v
  rcases zisi_or h with e | e
  · have e : t = 0 := e
    subst e
    exact hv
  · have e : t = 5 := e
    subst e
    exact hv
theorem zvl_ok {X : ZX} {ad : Nat → Nat} {n : Nat} {v : ZV} {w : Value} (h : zisl v = true) (hv : zv X ad n v w) : w = .long (zvl X v) := by
  obtain ⟨t, u⟩ := v
  rcases zisl_or h with e | e
  · have e : t = 1 := e
    subst e
    exact hv
  · have e : t = 8 := e
    subst e
    exact hv
theorem zvi_is {X : ZX} {ad : Nat → Nat} {n : Nat} {v : ZV} (h : zisi v = true) : zv X ad n v (.int (zvi X v)) := by
  obtain ⟨t, u⟩ := v
  rcases zisi_or h with e | e
  · have e : t = 0 := e
    subst e
    rfl
  · have e : t = 5 := e
    subst e
    rfl
theorem zvl_is {X : ZX} {ad : Nat → Nat} {n : Nat} {v : ZV} (h : zisl v = true) : zv X ad n v (.long (zvl X v)) := by
  obtain ⟨t, u⟩ := v
  rcases zisl_or h with e | e
  · have e : t = 1 := e
    subst e
    rfl
  · have e : t = 8 := e
    subst e
    rfl
