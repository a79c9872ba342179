/-! more of what calls answer; rows for instanceof and arraycopy -/
theorem pdS_le {lw pj d cn B : Nat} {fr to dy : Nat → Nat} {an : Nat → Option Nat} {sc : Nat → Nat} (h : ∀ k a, k < cn → an k = some a → sc k ≤ B ∧ sc a ≤ B) : ∀ n, n ≤ cn → pdS lw pj d fr to dy an sc n ≤ 2 * B * n := by
  intro n
  induction n with
  | zero => intro _; exact Nat.le_refl 0
  | succ n ih =>
    intro hn
    have h1 := ih (by omega)
    have h2 : pdT lw pj d fr to dy an sc n ≤ 2 * B := by
      cases e : an n with
      | none => rw [pdT_n e]; omega
      | some a =>
        obtain ⟨b1, b2⟩ := h n a (by omega) e
        rw [pdT_s e]
        have q1 := pys_le lw (sc n) (sc a)
        have q2 := pys_le lw (sc a) (sc n)
        (repeat' split) <;> omega
    show pdS lw pj d fr to dy an sc n + pdT lw pj d fr to dy an sc n ≤ 2 * B * (n + 1)
    rw [Nat.mul_succ]
    omega
theorem pd_le {pc cn : Nat} {g : wG} {fr to hv dy : Nat → Nat} {an af : Nat → Option Nat} (hI : LI pc cn fr to hv dy an af) (lw pj d : Nat) : pdS lw pj d fr to dy an (lsc g fr hv) cn ≤ 9600 := by
  have h := pdS_le (lw := lw) (pj := pj) (d := d) (cn := cn) (B := 200) (fr := fr) (to := to) (dy := dy) (an := an) (sc := lsc g fr hv) (fun k a hk ha => ⟨Nat.le_trans (lsc_le hI k hk) (by decide), Nat.le_trans (lsc_le hI a ((hI.2 k hk).2.1 a ha).1) (by decide)⟩) cn (Nat.le_refl _)
  have := hI.1
  omega
theorem pd_leX {pc cn : Nat} {g : wG} {fr to hv dy : Nat → Nat} {an af : Nat → Option Nat} (hI : LI pc cn fr to hv dy an af) (lw pj d x o : Nat) (ho : o ≤ 200) : pdS lw pj d fr to dy an (fun i => if i = x then o else lsc g fr hv i) cn ≤ 9600 := by
  have hb : ∀ k, k < cn → (if k = x then o else lsc g fr hv k) ≤ 200 := fun k hk => by
    have := lsc_le (g := g) hI k hk
    split <;> omega
  have h := pdS_le (lw := lw) (pj := pj) (d := d) (cn := cn) (B := 200) (fr := fr) (to := to) (dy := dy) (an := an) (sc := fun i => if i = x then o else lsc g fr hv i) (fun k a hk ha => ⟨hb k hk, hb a ((hI.2 k hk).2.1 a ha).1⟩) cn (Nat.le_refl _)
  have := hI.1
  omega
/-- the best of 1 .. n + 1 -/
def bsN (q : Nat → Nat) : Nat → Nat × Nat
  | 0 => (1, q 1)
  | n + 1 => if q (n + 2) < (bsN q n).2 then (n + 2, q (n + 2)) else bsN q n
theorem bsN_le {q : Nat → Nat} {B : Nat} : ∀ n, (∀ v, v ≤ n + 1 → q v ≤ B) → (bsN q n).2 ≤ B ∧ 1 ≤ (bsN q n).1 ∧ (bsN q n).1 ≤ n + 1 ∧ (bsN q n).2 = q (bsN q n).1 := by
  intro n
  induction n with
  | zero => intro h; exact ⟨h 1 (by omega), Nat.le_refl 1, Nat.le_refl 1, rfl⟩
  | succ n ih =>
    intro h
    obtain ⟨h1, h2, h3, h4⟩ := ih (fun v hv => h v (by omega))
    unfold bsN
    split
    · exact ⟨h _ (by omega), by show 1 ≤ n + 2; omega, by show n + 2 ≤ _; omega, rfl⟩
    · exact ⟨h1, h2, by omega, h4⟩
def s_best (K : Nat → Nat) (P : PSt) (lw : Nat) (x sc w : Int32) : Int32 := if inN x P.1 then (if rng sc 1 200 ∧ rng w 0 1 then (if w.toInt = 0 then nI (bsN (fun v => pys lw (shw (K (tn x)) v) (tn sc)) (P.2 (tn x) - 1)).1 else nI (bsN (fun v => pys lw (shw (K (tn x)) v) (tn sc)) (P.2 (tn x) - 1)).2) else -2) else -1
/-- how many of 1 .. n fit; the k-th -/
def ctN (ok : Nat → Bool) : Nat → Nat
  | 0 => 0
  | n + 1 => ctN ok n + if ok (n + 1) then 1 else 0
def kth (ok : Nat → Bool) (k : Int) : Nat → Option Nat
  | 0 => none
  | n + 1 => if ok (n + 1) ∧ (ctN ok n : Int) = k then some (n + 1) else kth ok k n
theorem ctN_mono {ok : Nat → Bool} {a b : Nat} (h : a ≤ b) : ctN ok a ≤ ctN ok b := by
  induction b with
  | zero => have : a = 0 := by omega
            subst this; exact Nat.le_refl _
  | succ b ih =>
    by_cases h1 : a = b + 1
    · subst h1; exact Nat.le_refl _
    · have := ih (by omega)
      show _ ≤ ctN ok b + _
      omega
theorem ctN_le {ok : Nat → Bool} : ∀ n, ctN ok n ≤ n := by
  intro n
  induction n with
  | zero => exact Nat.le_refl 0
  | succ n ih => show ctN ok n + _ ≤ _; split <;> omega
theorem kth_of {ok : Nat → Bool} {k : Int} {w : Nat} (h1 : ok (w + 1) = true) (h2 : (ctN ok w : Int) = k) : ∀ n, w + 1 ≤ n → kth ok k n = some (w + 1) := by
  intro n hn
  induction n with
  | zero => omega
  | succ n ih =>
    unfold kth
    by_cases h : n = w
    · subst h; rw [if_pos ⟨h1, h2⟩]
    · have hm := ctN_mono (ok := ok) (show w + 1 ≤ n by omega)
      have e : ctN ok (w + 1) = ctN ok w + 1 := by show ctN ok w + _ = _; rw [if_pos h1]
      rw [if_neg (fun z => by have := z.2; omega), ih (by omega)]
theorem kth_no {ok : Nat → Bool} {k : Int} : ∀ n, (∀ v, v < n → ok (v + 1) = true → (ctN ok v : Int) ≠ k) → kth ok k n = none := by
  intro n
  induction n with
  | zero => intro _; rfl
  | succ n ih =>
    intro h
    unfold kth
    rw [if_neg (fun z => h n (by omega) z.1 z.2)]
    exact ih (fun v hv => h v (by omega))
def okW (K : Nat → Nat) (lw : Nat) (L : LSt) (x j d : Nat) (v : Int32) (w : Nat) : Bool := decide (((pdS lw j d L.2.1 L.2.2.1 L.2.2.2.2.1 L.2.2.2.2.2.1 (fun i => if i = x then shw (K (L.2.1 x)) w else Lsc K L i) L.1 : Nat) : Int) = v.toInt)
def s_weights (K : Nat → Nat) (P : PSt) (lw : Nat) (L : LSt) (x p d v k : Int32) : Int32 := if inN x L.1 ∧ inN p P.1 ∧ -1 ≤ k.toInt then (if rng d 0 99 then (if L.2.2.2.2.2.1 (tn x) = none then -3 else if k.toInt = -1 then nI (ctN (okW K lw L (tn x) (tn p) (tn d) v) 99) else oI (kth (okW K lw L (tn x) (tn p) (tn d) v) k.toInt 99)) else -2) else -1
-- sheets
def s_sheet (S : SSt) (k lane n : Int32) : Int32 × SSt × Int32 := if rng k 0 3 then (if rng lane 0 2 ∧ n.toInt ≤ 40 then (if n.toInt < 0 then (fI 4, S, nI 4) else (nI 1, (va_up S.1 (tn k) (some (tn lane)), va_up S.2.1 (tn k) (tn n), va_up S.2.2 (tn k) (fun _ => 0)), nI 0)) else (-2, S, nI 0)) else (-1, S, nI 0)
def s_lose (S : SSt) (k : Int32) : Int32 × SSt := if rng k 0 3 then (nI (if S.1 (tn k) = none then 0 else 1), (va_up S.1 (tn k) none, S.2)) else (-1, S)
def s_put (S : SSt) (k i v : Int32) : Int32 × SSt × Int32 := if rng k 0 3 then (if S.1 (tn k) = none then (fI 1, S, nI 1) else if rng i 0 ((S.2.1 (tn k) : Int) - 1) then (nI 1, (S.1, S.2.1, va_up S.2.2 (tn k) (va_up (S.2.2 (tn k)) (tn i) (cutI (S.1 (tn k)) v))), nI 0) else (fI 3, S, nI 3)) else (-1, S, nI 0)
def LOST64 : Int64 := -9223372036854775808
def s_cell (S : SSt) (k i lane : Int32) : Int64 × Int32 := if rng k 0 3 ∧ rng lane 0 2 then (if flt (S.1 (tn k)) (S.2.1 (tn k)) lane i (nI 1) = 0 then ((S.2.2 (tn k) (tn i)).toInt64, nI 0) else (LOST64, nI (flt (S.1 (tn k)) (S.2.1 (tn k)) lane i (nI 1)))) else (LOST64, nI 0)
def s_copy (S : SSt) (k i o j n : Int32) : Int32 × SSt × Int32 := if rng k 0 3 ∧ rng o 0 3 then (if S.1 (tn k) = none then (fI 1, S, nI 1) else if S.1 (tn o) = none then (fI 1, S, nI 1) else if S.1 (tn k) = S.1 (tn o) then (if (rng i 0 (S.2.1 (tn k)) ∧ rng n 0 ((S.2.1 (tn k) : Int) - i.toInt)) ∧ rng j 0 (S.2.1 (tn o)) ∧ rng n 0 ((S.2.1 (tn o) : Int) - j.toInt) then (n, (S.1, S.2.1, va_up S.2.2 (tn o) (va_cpy (S.2.2 (tn k)) (S.2.2 (tn o)) (tn i) (tn j) (tn n))), nI 0) else (fI 3, S, nI 3)) else (fI 2, S, nI 2)) else (-1, S, nI 0)
theorem SC_1 {F : wF} {ln : Nat → Option Nat} {sz : Nat → Nat} {ce : Nat → Nat → Int32} (h : SC F ln sz ce) {k : Nat} (hk : k < 4) {u : wF} {x : Option Nat} {n : Nat} {f : Nat → Int32} (h1 : u (2 * k + 2) 1 = mI x) (h2 : u (2 * k + 2) 2 = nI n) (h3 : ∀ i, i < 40 → u (2 * k + 3) i = f i) (ho : ∀ a, a ≠ 2 * k + 2 → a ≠ 2 * k + 3 → u a = F a) : SC u (va_up ln k x) (va_up sz k n) (va_up ce k f) := by
  intro j hj
  by_cases hjk : j = k
  · subst hjk
    rw [va_up_self, va_up_self, va_up_self]
    exact ⟨h1, h2, h3⟩
  · rw [va_up_ne _ _ hjk, va_up_ne _ _ hjk, va_up_ne _ _ hjk, ho (2 * j + 2) (by omega) (by omega), ho (2 * j + 3) (by omega) (by omega)]
    exact h j hj
theorem up_id {α : Type} (f : Nat → α) (k : Nat) : va_up f k (f k) = f := by
  funext j
  by_cases h : j = k
  · subst h; exact va_up_self _ _ _
  · exact va_up_ne _ _ h
/-- a row copied into a row -/
def ucp (F : wF) (a b sp dp n : Nat) : wF := fun h i => if h = b then va_cpy (F a) (F b) sp dp n i else F h i
section W2
variable {p : Program} {l : Launch} {e : Env} {R : Room} {s : State} {m : MethodId} {args : Array Value} {below : List Frame} {meth : Method} {c : Code} {H : Heap} {locs : List Loc} {cells slots : Nat} {Q : State → Prop}
variable {cc : ByteArray} {pc : Nat} {ls : Array Slot} {lv : List (Nat × Value)} {rest st : List Value} {D : va_G} {A : Nat → Prop} {H0 : Heap} {nL : Nat} {own : String} {g : wG} {F : wF}
theorem r_copy (hc : CallFix p m c cc nL s args gws R_AP) (hw : Wd D g F A H0 H locs s) {a b : Nat} (ha : a < 4) (hb4 : b < 4) {i j n : Nat} (h1 : i + n ≤ 40) (h2 : j + n ≤ 40) (hl : lv_has ls nL lv) (hR : 1 ≤ R.frames ∧ 64 ≤ R.locals) (hdg : decode cc pc = .ok (.invokestatic 236, 3))
    (kk : ∀ (H1 : Heap) (locs1 : List Loc), Wd D g (ucp F (2 * a + 3) (2 * b + 3) i j n) A H0 H1 locs1 s → W p l e R s m args below meth c H1 locs1 cells slots Q (F0 m (pc + 3) ls [])) : W p l e R s m args below meth c H locs cells slots Q (F0 m pc ls [.int (nI n), .int (nI j), .ref (wad g (2 * b + 3)), .int (nI i), .ref (wad g (2 * a + 3))]) := by
  obtain ⟨hK, hP, hD, hS, hA, hN⟩ := hw
  have e0 : (wl g F)[2 * a + 3]? = some (wad g (2 * a + 3), .inl (wcI g, 40, .inl (F (2 * a + 3)))) := (wl_at (by omega)).trans (by rw [wt_cells g ha]; rfl)
  have e1 : (wl g F)[2 * b + 3]? = some (wad g (2 * b + 3), .inl (wcI g, 40, .inl (F (2 * b + 3)))) := (wl_at (by omega)).trans (by rw [wt_cells g hb4]; rfl)
  have ei : (nI i).toNatClampNeg = i := nI_clamp (by omega)
  have ej : (nI j).toNatClampNeg = j := nI_clamp (by omega)
  have en : (nI n).toNatClampNeg = n := nI_clamp (by omega)
  refine va_copyi hc.1 hc.2.1 (hc.2.2.1.trans hl.1.symm) hc.2.2.2.1 (hc.2.2.2.2 _ g_543) (hc.2.2.2.2 _ g_545) (hc.2.2.2.2 _ g_544) (hc.2.2.2.2 _ g_14) hK hP hD hS (2 * a + 3) (2 * b + 3) 0 0 e0 e1 rfl rfl rfl (nI_pos (by omega)) (nI_pos (by omega)) (nI_pos (by omega)) (by rw [ei, en]; exact h1) (by rw [ej, en]; exact h2) (fun _ _ => rfl) hR.1 (Nat.le_trans (Nat.le_of_ble_eq_true rfl) hR.2) hdg (fun H1 locs1 hP hD hS => ?_)
  rw [ei, ej, en] at hP hD
  have e2 := wl_set (F := F) (F' := ucp F (2 * a + 3) (2 * b + 3) i j n) (g := g) (h := 2 * b + 3) (by omega) (fun k hk => funext fun z => by unfold ucp; rw [if_neg hk])
  rw [wt_cells g hb4, show ucp F (2 * a + 3) (2 * b + 3) i j n (2 * b + 3) = va_cpy (F (2 * a + 3)) (F (2 * b + 3)) i j n from funext fun z => if_pos rfl] at e2
  exact kk H1 locs1 ⟨hK, e2 ▸ hP, e2 ▸ hD, hS, hA, hN⟩
theorem io_256 (hc : CallFix p m c cc nL s args gws R_AP) (hw : Wd D g F A H0 H locs s) {j : Nat} (hj : j < wm g) (h2 : wK g j ≤ 2) (hdg : decode cc pc = .ok (.instanceof 256, 3))
    (kk : W p l e R s m args below meth c H locs cells slots Q (F0 m (pc + 3) ls (.int (bI (1 ≤ wK g j)) :: rest))) : W p l e R s m args below meth c H locs cells slots Q (F0 m pc ls (.ref (wad g (79 + j)) :: rest)) := by
  rcases (show wK g j = 0 ∨ wK g j = 1 ∨ wK g j = 2 by omega) with h0 | h0 | h0
  · rw [bI_f (show ¬ 1 ≤ wK g j by omega)] at kk
    exact va_instNo hc.1 hc.2.1 hc.2.2.2.1 (hc.2.2.2.2 _ g_270) (hw.2.2.2.2.2.2 (R_WR, R_MI) (List.mem_of_getElem? (i := 0) rfl)) (rc_WR hw hj h0) hdg kk
  · rw [bI_t (show 1 ≤ wK g j by omega)] at kk
    exact va_instS hc.1 hc.2.1 hc.2.2.2.1 (hc.2.2.2.2 _ g_270) (cat_MI hw) (rc_MI hw hj h0) hdg kk
  · rw [bI_t (show 1 ≤ wK g j by omega)] at kk
    exact va_instY hc.1 hc.2.1 hc.2.2.2.1 (hc.2.2.2.2 _ g_270) (hw.2.2.2.2.2.1 _ (List.mem_of_getElem? (i := 11) rfl)) (rc_LA hw hj h0) hdg kk
theorem io_258 (hc : CallFix p m c cc nL s args gws R_AP) (hw : Wd D g F A H0 H locs s) {j : Nat} (hj : j < wm g) (h2 : wK g j ≤ 2) (hdg : decode cc pc = .ok (.instanceof 258, 3))
    (kk : W p l e R s m args below meth c H locs cells slots Q (F0 m (pc + 3) ls (.int (bI (2 ≤ wK g j)) :: rest))) : W p l e R s m args below meth c H locs cells slots Q (F0 m pc ls (.ref (wad g (79 + j)) :: rest)) := by
  rcases (show wK g j = 0 ∨ wK g j = 1 ∨ wK g j = 2 by omega) with h0 | h0 | h0
  · rw [bI_f (show ¬ 2 ≤ wK g j by omega)] at kk
    exact va_instNo hc.1 hc.2.1 hc.2.2.2.1 (hc.2.2.2.2 _ g_289) (hw.2.2.2.2.2.2 (R_WR, R_LA) (List.mem_of_getElem? (i := 1) rfl)) (rc_WR hw hj h0) hdg kk
  · rw [bI_f (show ¬ 2 ≤ wK g j by omega)] at kk
    exact va_instNo hc.1 hc.2.1 hc.2.2.2.1 (hc.2.2.2.2 _ g_289) (hw.2.2.2.2.2.2 (R_MI, R_LA) (List.mem_of_getElem? (i := 2) rfl)) (rc_MI hw hj h0) hdg kk
  · rw [bI_t (show 2 ≤ wK g j by omega)] at kk
    exact va_instS hc.1 hc.2.1 hc.2.2.2.1 (hc.2.2.2.2 _ g_289) (cat_LA hw) (rc_LA hw hj h0) hdg kk
end W2
