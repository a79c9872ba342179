/-! WHAT BOTH SIDES TELL: numbers, sets of arguments, the state in naturals -/
abbrev rng (x : Int32) (a b : Int) : Prop := a ≤ x.toInt ∧ x.toInt ≤ b
abbrev inN (x : Int32) (n : Nat) : Prop := 0 ≤ x.toInt ∧ x.toInt < (n : Int)
theorem i32_nat {x : Int32} (h : 0 ≤ x.toInt) : ∃ j : Nat, j < 2 ^ 31 ∧ x = nI j ∧ x.toInt = (j : Int) := by
  have h1 : ¬ x < 0 := by rw [Int32.lt_iff_toInt_lt, Int32.toInt_zero]; omega
  obtain ⟨j, hj, e⟩ := nI_of h1
  exact ⟨j, hj, e, by rw [e, nI_toInt hj]⟩
theorem rng_nat {x : Int32} {a b : Int} (h : rng x a b) (ha : 0 ≤ a) : ∃ j : Nat, x = nI j ∧ a ≤ (j : Int) ∧ (j : Int) ≤ b := by
  obtain ⟨j, hj, e, e2⟩ := i32_nat (x := x) (by omega)
  exact ⟨j, e, by omega, by omega⟩
theorem inN_nat {x : Int32} {n : Nat} (h : inN x n) : ∃ j : Nat, x = nI j ∧ j < n := by
  obtain ⟨j, hj, e, e2⟩ := i32_nat (x := x) (by omega)
  exact ⟨j, e, by omega⟩
theorem rng_nI {j : Nat} {a b : Int} (h : j < 2 ^ 31) : rng (nI j) a b ↔ a ≤ (j : Int) ∧ (j : Int) ≤ b := by
  unfold rng; rw [nI_toInt h]
theorem inN_nI {j n : Nat} (h : j < 2 ^ 31) : inN (nI j) n ↔ j < n := by
  unfold inN; rw [nI_toInt h]; omega
theorem nI_dec {a : Nat} (h : 1 ≤ a) : nI a + Int32.ofInt (-1) = nI (a - 1) := by
  obtain ⟨c, rfl⟩ := Nat.exists_eq_add_of_le h
  rw [litm1, Nat.add_comm 1 c, pk_m1, Nat.add_sub_cancel]
theorem nI_inc1 (a : Nat) : nI a + Int32.ofInt 1 = nI (a + 1) := by rw [← nI_add]; rfl
theorem nI_inc8 (a : Nat) : nI a + Int32.ofInt 8 = nI (a + 8) := by rw [← nI_add]; rfl
theorem le_toI (x y : Int32) : x ≤ y ↔ x.toInt ≤ y.toInt := Int32.le_iff_toInt_le
theorem lt_toI (x y : Int32) : x < y ↔ x.toInt < y.toInt := Int32.lt_iff_toInt_lt
/-- a natural, or nothing (-9; -1) -/
def oI (o : Option Nat) : Int32 := match o with
  | none => -9
  | some a => nI a
def mI (o : Option Nat) : Int32 := match o with
  | none => -1
  | some a => nI a
/-- what the scale shows; what is paid -/
def shw (k w : Nat) : Nat := (if k = 0 then w else w + 3) + (if k = 2 then w / 2 else 0)
def pys (law own oth : Nat) : Nat := if law = 2 ∨ own = oth then own else if (own < oth ↔ law = 0) then own + oth else 0
theorem shw_le {k w : Nat} (h : w ≤ 99) : shw k w ≤ 151 := by unfold shw; split <;> split <;> omega
theorem shw_ge {k w : Nat} (h : 1 ≤ w) : 1 ≤ shw k w := by unfold shw; split <;> split <;> omega
theorem pys_le (law own oth : Nat) : pys law own oth ≤ own + oth := by unfold pys; split; omega; split <;> omega
/-- the state: persons; letters; sheets -/
def PI (g : wG) (pc : Nat) (lf : Nat → Nat) : Prop := pc ≤ 6 ∧ pc ≤ wm g ∧ wm g ≤ 6 ∧ (pc = 0 ∨ 2 ≤ pc) ∧ ∀ p, p < pc → wK g p ≤ 2 ∧ 1 ≤ lf p ∧ lf p ≤ 40
def PC (F : wF) (pc : Nat) (lf : Nat → Nat) : Prop := F 0 7 = nI pc ∧ ∀ p, p < pc → F (79 + p) 0 = nI p ∧ F (79 + p) 1 = nI (lf p)
def PM (g : wG) (F : wF) (pc : Nat) (lf : Nat → Nat) : Prop := F 58 5 = nI pc ∧ ∀ p, p < pc → F 62 p = nI (wK g p) ∧ F 63 p = nI (lf p)
def LI (pc cn : Nat) (fr to hv dy : Nat → Nat) (an af : Nat → Option Nat) : Prop := cn ≤ 24 ∧ ∀ k, k < cn → (fr k < pc ∧ to k < pc ∧ fr k ≠ to k ∧ 1 ≤ hv k ∧ hv k ≤ 99 ∧ dy k ≤ 99) ∧
  (∀ a, an k = some a → a < cn ∧ fr a = to k ∧ to a = fr k ∧ af a = some k ∧ k < a) ∧ (∀ x, af k = some x → x < k ∧ an x = some k)
def LC (g : wG) (F : wF) (cn : Nat) (fr to hv dy : Nat → Nat) (an af : Nat → Option Nat) : Prop := F 11 7 = nI cn ∧
  ∀ k, k < cn → F 12 k = nI (fr k) ∧ F 13 k = nI (to k) ∧ F 14 k = nI (hv k) ∧ F 15 k = nI (dy k) ∧ F 16 k = nI (shw (wK g (fr k)) (hv k)) ∧ F 17 k = oI (an k) ∧ F 18 k = oI (af k)
def LM (F : wF) (cn : Nat) (fr to hv dy : Nat → Nat) (an af : Nat → Option Nat) : Prop := F 58 13 = nI cn ∧
  ∀ k, k < cn → F 66 k = nI (fr k) ∧ F 67 k = nI (to k) ∧ F 68 k = nI (hv k) ∧ F 69 k = nI (dy k) ∧ F 70 k = oI (an k) ∧ F 71 k = oI (af k)
def SI (ln : Nat → Option Nat) (sz : Nat → Nat) : Prop := ∀ k, k < 4 → sz k ≤ 40 ∧ ∀ x, ln k = some x → x ≤ 2
def SC (F : wF) (ln : Nat → Option Nat) (sz : Nat → Nat) (ce : Nat → Nat → Int32) : Prop := ∀ k, k < 4 → F (2 * k + 2) 1 = mI (ln k) ∧ F (2 * k + 2) 2 = nI (sz k) ∧ ∀ i, i < 40 → F (2 * k + 3) i = ce k i
def SM (F : wF) (ln : Nat → Option Nat) (sz : Nat → Nat) (ce : Nat → Nat → Int32) : Prop := ∀ k, k < 4 → F 59 k = oI (ln k) ∧ F 60 k = nI (sz k) ∧ ∀ i, i < 40 → F 61 (40 * k + i) = ce k i
theorem nI_toNat {j : Nat} (h : j < 2 ^ 31) : (nI j).toInt.toNat = j := by rw [nI_toInt h]; rfl
theorem nI_tI {j : Nat} (h : j < 2 ^ 31) : (nI j).toInt = (j : Int) := nI_toInt h
/-- what a cell of a lane holds -/
def cutI (ln : Option Nat) (x : Int32) : Int32 := if ln = some 0 then x.toInt8.toInt32 else if ln = some 1 then x.toInt16.toInt32 else x
theorem mI_toI {ln : Option Nat} (hln : ∀ x, ln = some x → x ≤ 2) : ((mI ln).toInt = -1 ↔ ln = none) ∧ ∀ k : Nat, ((mI ln).toInt = (k : Int) ↔ ln = some k) := by
  cases ln with
  | none =>
    have e : (mI none).toInt = -1 := by decide
    rw [e]
    exact ⟨⟨fun _ => rfl, fun _ => rfl⟩, fun k => ⟨fun h => by omega, fun h => by cases h⟩⟩
  | some x =>
    have hx := hln x rfl
    have e : (mI (some x)).toInt = (x : Int) := nI_tI (by omega)
    rw [e]
    exact ⟨⟨fun h => by omega, fun h => by cases h⟩, fun k => ⟨fun h => by congr 1; omega, fun h => by cases h; rfl⟩⟩
theorem oI_toI {o : Option Nat} {n : Nat} (hn : n < 2 ^ 31) (ho : ∀ x, o = some x → x < n) : ((oI o).toInt = -9 ↔ o = none) ∧ ∀ k : Nat, ((oI o).toInt = (k : Int) ↔ o = some k) := by
  cases o with
  | none =>
    have e : (oI none).toInt = -9 := by decide
    rw [e]
    exact ⟨⟨fun _ => rfl, fun _ => rfl⟩, fun k => ⟨fun h => by omega, fun h => by cases h⟩⟩
  | some x =>
    have hx := ho x rfl
    have e : (oI (some x)).toInt = (x : Int) := nI_tI (by omega)
    rw [e]
    exact ⟨⟨fun h => by omega, fun h => by cases h⟩, fun k => ⟨fun h => by congr 1; omega, fun h => by cases h; rfl⟩⟩
theorem cut_0 {ln : Option Nat} {x : Int32} (h : mI ln = 0) (hln : ∀ x, ln = some x → x ≤ 2) : cutI ln x = x.toInt8.toInt32 := by
  have : ln = some 0 := ((mI_toI hln).2 0).mp (by rw [h]; rfl)
  rw [this]; rfl
theorem cut_1 {ln : Option Nat} {x : Int32} (h : mI ln = 1) (hln : ∀ x, ln = some x → x ≤ 2) : cutI ln x = x.toInt16.toInt32 := by
  have : ln = some 1 := ((mI_toI hln).2 1).mp (by rw [h]; rfl)
  rw [this]; rfl
theorem cut_2 {ln : Option Nat} {x : Int32} (h0 : ¬ mI ln = 0) (h1 : ¬ mI ln = 1) : cutI ln x = x := by
  unfold cutI
  rw [if_neg (fun q => h0 (by rw [q]; rfl)), if_neg (fun q => h1 (by rw [q]; rfl))]
/-- the text: how it goes on; the first place where it doesn't -/
def sec (t c : Int32) : Bool := if t.toInt = 52 then decide (c.toInt = 48) else decide ((if t.toInt = 48 then 49 else 48) ≤ c.toInt ∧ c.toInt ≤ 57)
def gos (c : Nat → Int32) (a : Nat) : Bool := if a = 0 then decide ((c 0).toInt = 112) else if 6 ≤ (a - 1) / 3 then false else
  if (a - 1) % 3 = 0 then decide ((c a).toInt = 119 ∨ (c a).toInt = 109 ∨ (c a).toInt = 108) else if (a - 1) % 3 = 1 then decide (48 ≤ (c a).toInt ∧ (c a).toInt ≤ 52) else sec (c (a - 1)) (c a)
theorem gos_2 {c : Nat → Int32} {a : Nat} (h0 : a ≠ 0) (h6 : (a - 1) / 3 < 6) (h1 : ¬ (a - 1) % 3 = 0) (h2 : ¬ (a - 1) % 3 = 1) : gos c a = sec (c (a - 1)) (c a) := by
  unfold gos; rw [if_neg h0, if_neg (by omega), if_neg h1, if_neg h2]
def ffr (c : Nat → Int32) (n : Nat) : Nat → Nat → Option Nat
  | 0, _ => if n = 1 + 3 * ((n - 1) / 3) ∧ 2 ≤ (n - 1) / 3 then none else some n
  | f + 1, a => if gos c a then ffr c n f (a + 1) else some a
def ff (c : Nat → Int32) (n : Nat) : Option Nat := ffr c n n 0
theorem ff_to {c : Nat → Int32} {n : Nat} : ∀ {k : Nat}, k ≤ n → (∀ a, a < k → gos c a = true) → ff c n = ffr c n (n - k) k := by
  intro k
  induction k with
  | zero => intro _ _; rfl
  | succ k ih =>
    intro hk h
    rw [ih (by omega) (fun a ha => h a (by omega)), show n - k = (n - (k + 1)) + 1 by omega]
    show (if gos c k then _ else _) = _
    rw [if_pos (h k (by omega))]
theorem ff_at {c : Nat → Int32} {n k : Nat} (hk : k < n) (h : ∀ a, a < k → gos c a = true) (hn : ¬ gos c k = true) : ff c n = some k := by
  rw [ff_to (Nat.le_of_lt hk) h, show n - k = (n - (k + 1)) + 1 by omega]
  show (if gos c k then _ else _) = _
  rw [if_neg hn]
theorem ff_end {c : Nat → Int32} {n : Nat} (h : ∀ a, a < n → gos c a = true) : ff c n = if n = 1 + 3 * ((n - 1) / 3) ∧ 2 ≤ (n - 1) / 3 then none else some n := by
  rw [ff_to (Nat.le_refl n) h, Nat.sub_self]; rfl
/-- what the machine has against cells -/
def flt (ln : Option Nat) (sz : Nat) (s i n : Int32) : Nat := if ln = none then 1 else if ¬ (mI ln).toInt = s.toInt then 2 else if n.toInt < 0 then 4 else if rng i 0 sz ∧ rng n 0 (sz - i.toInt) then 0 else 3
def fI (k : Nat) : Int32 := -10 - nI k
