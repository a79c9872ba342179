/-! THE STATE of both sides, in one set of words; what each call answers and makes of it -/
/-- persons: how many, lifts; letters: how many, from, to, weight, day, answer, answered; sheets: lane, length, cells -/
abbrev PSt : Type := Nat × (Nat → Nat)
abbrev LSt : Type := Nat × (Nat → Nat) × (Nat → Nat) × (Nat → Nat) × (Nat → Nat) × (Nat → Option Nat) × (Nat → Option Nat)
abbrev SSt : Type := (Nat → Option Nat) × (Nat → Nat) × (Nat → Nat → Int32)
def GI (g : wG) (P : PSt) (lw : Nat) (L : LSt) (S : SSt) : Prop := PI g P.1 P.2 ∧ lw ≤ 2 ∧ LI P.1 L.1 L.2.1 L.2.2.1 L.2.2.2.1 L.2.2.2.2.1 L.2.2.2.2.2.1 L.2.2.2.2.2.2 ∧ SI S.1 S.2.1
def LCs (g : wG) (F : wF) (L : LSt) : Prop := LC g F L.1 L.2.1 L.2.2.1 L.2.2.2.1 L.2.2.2.2.1 L.2.2.2.2.2.1 L.2.2.2.2.2.2
def LMs (F : wF) (L : LSt) : Prop := LM F L.1 L.2.1 L.2.2.1 L.2.2.2.1 L.2.2.2.2.1 L.2.2.2.2.2.1 L.2.2.2.2.2.2
def CI (g : wG) (F : wF) (P : PSt) (lw : Nat) (L : LSt) (S : SSt) (tr ft : Int32) : Prop := PC F P.1 P.2 ∧ F 0 8 = nI lw ∧ LCs g F L ∧ SC F S.1 S.2.1 S.2.2 ∧ F 57 0 = tr ∧ F 0 9 = ft ∧ F 21 0 = 0 ∧ F 22 0 = 0
def MI (g : wG) (F : wF) (P : PSt) (lw : Nat) (L : LSt) (S : SSt) (tr ft : Int32) : Prop := PM g F P.1 P.2 ∧ F 58 6 = nI lw ∧ LMs F L ∧ SM F S.1 S.2.1 S.2.2 ∧ F 58 1 = tr ∧ F 58 0 = ft
-- each part looks at its own cells alone
theorem PC_c {F u : wF} {pc : Nat} {lf : Nat → Nat} (h : PC F pc lf) (h0 : u 0 7 = F 0 7) (hp : ∀ k, 79 ≤ k → u k = F k) : PC u pc lf := ⟨h0.trans h.1, fun p hp2 => by rw [hp _ (by omega)]; exact h.2 p hp2⟩
theorem PM_c {g : wG} {F u : wF} {pc : Nat} {lf : Nat → Nat} (h : PM g F pc lf) (h0 : u 58 5 = F 58 5) (h2 : u 62 = F 62) (h3 : u 63 = F 63) : PM g u pc lf := ⟨h0.trans h.1, fun p hp2 => by rw [h2, h3]; exact h.2 p hp2⟩
theorem LC_c {g : wG} {F u : wF} {cn : Nat} {fr to hv dy : Nat → Nat} {an af : Nat → Option Nat} (h : LC g F cn fr to hv dy an af) (hu : ∀ k, 11 ≤ k → k ≤ 18 → u k = F k) : LC g u cn fr to hv dy an af := by
  refine ⟨by rw [hu 11 (by decide) (by decide)]; exact h.1, fun k hk => ?_⟩
  rw [hu 12 (by decide) (by decide), hu 13 (by decide) (by decide), hu 14 (by decide) (by decide), hu 15 (by decide) (by decide), hu 16 (by decide) (by decide), hu 17 (by decide) (by decide), hu 18 (by decide) (by decide)]
  exact h.2 k hk
theorem LM_c {F u : wF} {cn : Nat} {fr to hv dy : Nat → Nat} {an af : Nat → Option Nat} (h : LM F cn fr to hv dy an af) (h0 : u 58 13 = F 58 13) (hu : ∀ k, 66 ≤ k → k ≤ 71 → u k = F k) : LM u cn fr to hv dy an af := by
  refine ⟨h0.trans h.1, fun k hk => ?_⟩
  rw [hu 66 (by decide) (by decide), hu 67 (by decide) (by decide), hu 68 (by decide) (by decide), hu 69 (by decide) (by decide), hu 70 (by decide) (by decide), hu 71 (by decide) (by decide)]
  exact h.2 k hk
theorem SC_c {F u : wF} {ln : Nat → Option Nat} {sz : Nat → Nat} {ce : Nat → Nat → Int32} (h : SC F ln sz ce) (hu : ∀ k, 2 ≤ k → k ≤ 9 → u k = F k) : SC u ln sz ce := fun k hk => by
  rw [hu (2 * k + 2) (by omega) (by omega), hu (2 * k + 3) (by omega) (by omega)]
  exact h k hk
theorem SM_c {F u : wF} {ln : Nat → Option Nat} {sz : Nat → Nat} {ce : Nat → Nat → Int32} (h : SM F ln sz ce) (hu : ∀ k, 59 ≤ k → k ≤ 61 → u k = F k) : SM u ln sz ce := fun k hk => by
  rw [hu 59 (by omega) (by omega), hu 60 (by omega) (by omega), hu 61 (by omega) (by omega)]
  exact h k hk
section CIS
variable {g : wG} {F u : wF} {P : PSt} {lw : Nat} {L : LSt} {S : SSt} {tr ft : Int32}
theorem CI_c (h : CI g F P lw L S tr ft) (hu : ∀ k, k < 58 ∨ 78 < k → u k = F k) : CI g u P lw L S tr ft := by
  obtain ⟨h1, h2, h3, h4, h5, h6, h7, h8⟩ := h
  exact ⟨PC_c h1 (by rw [hu 0 (by omega)]) (fun k hk => hu k (by omega)), by rw [hu 0 (by omega)]; exact h2, LC_c h3 (fun k _ hk => hu k (by omega)), SC_c h4 (fun k _ hk => hu k (by omega)), by rw [hu 57 (by omega)]; exact h5, by rw [hu 0 (by omega)]; exact h6, by rw [hu 21 (by omega)]; exact h7, by rw [hu 22 (by omega)]; exact h8⟩
theorem MI_c (h : MI g F P lw L S tr ft) (hu : ∀ k, 58 ≤ k → k ≤ 78 → u k = F k) : MI g u P lw L S tr ft := by
  obtain ⟨h1, h2, h3, h4, h5, h6⟩ := h
  exact ⟨PM_c h1 (by rw [hu 58 (by omega) (by omega)]) (hu 62 (by omega) (by omega)) (hu 63 (by omega) (by omega)), by rw [hu 58 (by omega) (by omega)]; exact h2, LM_c h3 (by rw [hu 58 (by omega) (by omega)]) (fun k _ hk => hu k (by omega) (by omega)), SM_c h4 (fun k _ hk => hu k (by omega) (by omega)), by rw [hu 58 (by omega) (by omega)]; exact h5, by rw [hu 58 (by omega) (by omega)]; exact h6⟩
theorem CI_ft (h : CI g F P lw L S tr ft) (x : Int32) : CI g (u2 F 0 9 x) P lw L S tr x := by
  obtain ⟨h1, h2, h3, h4, h5, h6, h7, h8⟩ := h
  exact ⟨PC_c h1 (u2_i (by decide)) (fun k hk => u2_ne k (by omega)), (u2_i (by decide)).trans h2, LC_c h3 (fun k hk _ => u2_ne k (by omega)), SC_c h4 (fun k hk _ => u2_ne k (by omega)), (u2_h (by decide)).trans h5, u2_same _ _ _ _, (u2_h (by decide)).trans h7, (u2_h (by decide)).trans h8⟩
theorem CI_lw (h : CI g F P lw L S tr ft) (v : Nat) : CI g (u2 F 0 8 (nI v)) P v L S tr ft := by
  obtain ⟨h1, h2, h3, h4, h5, h6, h7, h8⟩ := h
  exact ⟨PC_c h1 (u2_i (by decide)) (fun k hk => u2_ne k (by omega)), u2_same _ _ _ _, LC_c h3 (fun k hk _ => u2_ne k (by omega)), SC_c h4 (fun k hk _ => u2_ne k (by omega)), (u2_h (by decide)).trans h5, (u2_i (by decide)).trans h6, (u2_h (by decide)).trans h7, (u2_h (by decide)).trans h8⟩
theorem CI_tr (h : CI g F P lw L S tr ft) (x : Int32) : CI g (u2 F 57 0 x) P lw L S x ft := by
  obtain ⟨h1, h2, h3, h4, h5, h6, h7, h8⟩ := h
  exact ⟨PC_c h1 (u2_h (by decide)) (fun k hk => u2_ne k (by omega)), (u2_h (by decide)).trans h2, LC_c h3 (fun k _ hk => u2_ne k (by omega)), SC_c h4 (fun k _ hk => u2_ne k (by omega)), u2_same _ _ _ _, (u2_h (by decide)).trans h6, (u2_h (by decide)).trans h7, (u2_h (by decide)).trans h8⟩
theorem CI_L (h : CI g F P lw L S tr ft) {L2 : LSt} (hL : LCs g u L2) (hF : FrO 11 18 F u) : CI g u P lw L2 S tr ft := by
  obtain ⟨h1, h2, h3, h4, h5, h6, h7, h8⟩ := h
  exact ⟨PC_c h1 (by rw [hF 0 (by omega)]) (fun k hk => hF k (by omega)), by rw [hF 0 (by omega)]; exact h2, hL, SC_c h4 (fun k _ hk => hF k (by omega)), by rw [hF 57 (by omega)]; exact h5, by rw [hF 0 (by omega)]; exact h6, by rw [hF 21 (by omega)]; exact h7, by rw [hF 22 (by omega)]; exact h8⟩
theorem CI_S (h : CI g F P lw L S tr ft) {S2 : SSt} (hS : SC u S2.1 S2.2.1 S2.2.2) (hF : FrO 2 9 F u) : CI g u P lw L S2 tr ft := by
  obtain ⟨h1, h2, h3, h4, h5, h6, h7, h8⟩ := h
  exact ⟨PC_c h1 (by rw [hF 0 (by omega)]) (fun k hk => hF k (by omega)), by rw [hF 0 (by omega)]; exact h2, LC_c h3 (fun k hk _ => hF k (by omega)), hS, by rw [hF 57 (by omega)]; exact h5, by rw [hF 0 (by omega)]; exact h6, by rw [hF 21 (by omega)]; exact h7, by rw [hF 22 (by omega)]; exact h8⟩
theorem CI_x (h : CI g F P lw L S tr ft) (hF : FrO 19 56 F u) (h21 : u 21 0 = 0) (h22 : u 22 0 = 0) : CI g u P lw L S tr ft := by
  obtain ⟨h1, h2, h3, h4, h5, h6, h7, h8⟩ := h
  exact ⟨PC_c h1 (by rw [hF 0 (by omega)]) (fun k hk => hF k (by omega)), by rw [hF 0 (by omega)]; exact h2, LC_c h3 (fun k _ hk => hF k (by omega)), SC_c h4 (fun k _ hk => hF k (by omega)), by rw [hF 57 (by omega)]; exact h5, by rw [hF 0 (by omega)]; exact h6, h21, h22⟩
theorem MI_ft (h : MI g F P lw L S tr ft) (x : Int32) : MI g (u2 F 58 0 x) P lw L S tr x := by
  obtain ⟨h1, h2, h3, h4, h5, h6⟩ := h
  exact ⟨PM_c h1 (u2_i (by decide)) (u2_ne 62 (by decide)) (u2_ne 63 (by decide)), (u2_i (by decide)).trans h2, LM_c h3 (u2_i (by decide)) (fun k hk _ => u2_ne k (by omega)), SM_c h4 (fun k hk _ => u2_ne k (by omega)), (u2_i (by decide)).trans h5, u2_same _ _ _ _⟩
theorem MI_lw (h : MI g F P lw L S tr ft) (v : Nat) : MI g (u2 F 58 6 (nI v)) P v L S tr ft := by
  obtain ⟨h1, h2, h3, h4, h5, h6⟩ := h
  exact ⟨PM_c h1 (u2_i (by decide)) (u2_ne 62 (by decide)) (u2_ne 63 (by decide)), u2_same _ _ _ _, LM_c h3 (u2_i (by decide)) (fun k hk _ => u2_ne k (by omega)), SM_c h4 (fun k hk _ => u2_ne k (by omega)), (u2_i (by decide)).trans h5, (u2_i (by decide)).trans h6⟩
theorem MI_tr (h : MI g F P lw L S tr ft) (x : Int32) : MI g (u2 F 58 1 x) P lw L S x ft := by
  obtain ⟨h1, h2, h3, h4, h5, h6⟩ := h
  exact ⟨PM_c h1 (u2_i (by decide)) (u2_ne 62 (by decide)) (u2_ne 63 (by decide)), (u2_i (by decide)).trans h2, LM_c h3 (u2_i (by decide)) (fun k hk _ => u2_ne k (by omega)), SM_c h4 (fun k hk _ => u2_ne k (by omega)), u2_same _ _ _ _, (u2_i (by decide)).trans h6⟩
/-- the letters alone: cells 66 .. 71 and the count -/
theorem MI_L (h : MI g F P lw L S tr ft) {L2 : LSt} (hL : LMs u L2) (hF : ∀ k i, ¬ (k = 58 ∧ i = 13) → (k < 66 ∨ 71 < k) → u k i = F k i) : MI g u P lw L2 S tr ft := by
  obtain ⟨h1, h2, h3, h4, h5, h6⟩ := h
  have hr : ∀ k, k ≠ 58 → (k < 66 ∨ 71 < k) → u k = F k := fun k hk hk2 => funext fun i => hF k i (fun q => hk q.1) hk2
  exact ⟨PM_c h1 (hF 58 5 (by decide) (by decide)) (hr 62 (by decide) (by decide)) (hr 63 (by decide) (by decide)), (hF 58 6 (by decide) (by decide)).trans h2, hL, SM_c h4 (fun k hk hk2 => hr k (by omega) (by omega)), (hF 58 1 (by decide) (by decide)).trans h5, (hF 58 0 (by decide) (by decide)).trans h6⟩
theorem MI_S (h : MI g F P lw L S tr ft) {S2 : SSt} (hS : SM u S2.1 S2.2.1 S2.2.2) (hF : FrO 59 61 F u) : MI g u P lw L S2 tr ft := by
  obtain ⟨h1, h2, h3, h4, h5, h6⟩ := h
  exact ⟨PM_c h1 (by rw [hF 58 (by omega)]) (hF 62 (by omega)) (hF 63 (by omega)), by rw [hF 58 (by omega)]; exact h2, LM_c h3 (by rw [hF 58 (by omega)]) (fun k hk _ => hF k (by omega)), hS, by rw [hF 58 (by omega)]; exact h5, by rw [hF 58 (by omega)]; exact h6⟩
/-- scratch cells: 64, 65, 72 .. 78 and four fields -/
theorem MI_x (h : MI g F P lw L S tr ft) (hF : ∀ k i, (k < 58 ∨ 59 ≤ k ∧ k ≤ 63 ∨ 66 ≤ k ∧ k ≤ 71 ∨ k = 58 ∧ i ≠ 9 ∧ i ≠ 10 ∧ i ≠ 22 ∧ i ≠ 23) → u k i = F k i) : MI g u P lw L S tr ft := by
  obtain ⟨h1, h2, h3, h4, h5, h6⟩ := h
  have hr : ∀ k, (59 ≤ k ∧ k ≤ 63 ∨ 66 ≤ k ∧ k ≤ 71) → u k = F k := fun k hk => funext fun i => hF k i (by omega)
  exact ⟨PM_c h1 (hF 58 5 (by decide)) (hr 62 (by decide)) (hr 63 (by decide)), (hF 58 6 (by decide)).trans h2, LM_c h3 (hF 58 13 (by decide)) (fun k hk hk2 => hr k (by omega)), SM_c h4 (fun k hk hk2 => hr k (by omega)), (hF 58 1 (by decide)).trans h5, (hF 58 0 (by decide)).trans h6⟩
end CIS
-- ARGUMENTS that are told as naturals
def tn (x : Int32) : Nat := x.toInt.toNat
theorem tn_nI {j : Nat} (h : j < 2 ^ 31) : tn (nI j) = j := nI_toNat h
-- what calls answer (-1 UNKNOWN, -2 OUTSIDE, -3 STATE, -4 FULL)
def s_ofPerson (K : Nat → Nat) (P : PSt) (x w : Int32) : Int32 := if inN x P.1 then (if w.toInt = 0 then nI (K (tn x)) else if w.toInt = 1 then nI (P.2 (tn x)) else -2) else -1
def s_scale (K : Nat → Nat) (P : PSt) (x w : Int32) : Int32 := if inN x P.1 then (if rng w 1 99 then nI (shw (K (tn x)) (tn w)) else -2) else -1
def s_ofLetter (K : Nat → Nat) (L : LSt) (x w : Int32) : Int32 := if inN x L.1 then (if w.toInt = 0 then nI (L.2.1 (tn x)) else if w.toInt = 1 then nI (L.2.2.1 (tn x)) else if w.toInt = 2 then nI (L.2.2.2.1 (tn x)) else if w.toInt = 3 then nI (L.2.2.2.2.1 (tn x)) else if w.toInt = 4 then oI (L.2.2.2.2.2.1 (tn x)) else if w.toInt = 5 then oI (L.2.2.2.2.2.2 (tn x)) else if w.toInt = 6 then nI (shw (K (L.2.1 (tn x))) (L.2.2.2.1 (tn x))) else -2) else -1
def Lsc (K : Nat → Nat) (L : LSt) (k : Nat) : Nat := shw (K (L.2.1 k)) (L.2.2.2.1 k)
def Lpd (K : Nat → Nat) (lw : Nat) (L : LSt) (j d : Nat) : Nat := pdS lw j d L.2.1 L.2.2.1 L.2.2.2.2.1 L.2.2.2.2.2.1 (Lsc K L) L.1
def Low (K : Nat → Nat) (L : LSt) (j o d : Nat) : Nat := owS j o d L.2.1 L.2.2.1 L.2.2.2.2.1 L.2.2.2.2.2.1 (Lsc K L) L.1
def Lnt (K : Nat → Nat) (L : LSt) (j d : Nat) : Int32 := ntS j d L.2.1 L.2.2.1 L.2.2.2.2.1 L.2.2.2.2.2.1 (Lsc K L) L.1
def s_paid (K : Nat → Nat) (P : PSt) (lw : Nat) (L : LSt) (x d : Int32) : Int32 := if inN x P.1 then (if rng d 0 99 then nI (Lpd K lw L (tn x) (tn d)) else -2) else -1
def s_owes (K : Nat → Nat) (P : PSt) (L : LSt) (x y d : Int32) : Int32 := if inN x P.1 ∧ inN y P.1 then (if rng d 0 99 then nI (Low K L (tn x) (tn y) (tn d)) else -2) else -1
def s_net (K : Nat → Nat) (P : PSt) (L : LSt) (x d : Int32) : Int32 := if inN x P.1 then (if rng d 0 99 then Lnt K L (tn x) (tn d) + nI 1000000 else -2) else -1
def s_law (P : PSt) (lw : Nat) (v : Int32) : Int32 × Nat := if rng v 0 2 then (if P.1 = 0 then (-3, lw) else (nI lw, tn v)) else (-2, lw)
def s_many (P : PSt) (lw : Nat) (L : LSt) (w : Int32) : Int32 := if w.toInt = 0 then nI P.1 else if w.toInt = 1 then nI L.1 else if w.toInt = 2 then nI lw else -2
def s_send (P : PSt) (L : LSt) (x y w d : Int32) : Int32 × LSt := if inN x P.1 ∧ inN y P.1 ∧ ¬ x.toInt = y.toInt then (if rng w 1 99 ∧ rng d 0 99 then (if L.1 = 24 then (-4, L) else (nI L.1, (L.1 + 1, va_up L.2.1 L.1 (tn x), va_up L.2.2.1 L.1 (tn y), va_up L.2.2.2.1 L.1 (tn w), va_up L.2.2.2.2.1 L.1 (tn d), va_up L.2.2.2.2.2.1 L.1 none, va_up L.2.2.2.2.2.2 L.1 none))) else (-2, L)) else (-1, L)
def s_answer (L : LSt) (x w d : Int32) : Int32 × LSt := if inN x L.1 then (if rng w 1 99 ∧ rng d 0 99 ∧ ((L.2.2.2.2.1 (tn x) : Nat) : Int) ≤ d.toInt then (if (L.2.2.2.2.2.1 (tn x)).isSome = true then (-3, L) else if L.1 = 24 then (-4, L) else (nI L.1, (L.1 + 1, va_up L.2.1 L.1 (L.2.2.1 (tn x)), va_up L.2.2.1 L.1 (L.2.1 (tn x)), va_up L.2.2.2.1 L.1 (tn w), va_up L.2.2.2.2.1 L.1 (tn d), va_up (va_up L.2.2.2.2.2.1 L.1 none) (tn x) (some L.1), va_up L.2.2.2.2.2.2 L.1 (some (tn x))))) else (-2, L)) else (-1, L)
def s_burn (L : LSt) (k : Int32) : Int32 × LSt := if rng k 0 L.1 then (nI (L.1 - tn k), (L.1 - tn k, L.2.1, L.2.2.1, L.2.2.2.1, L.2.2.2.2.1, anC L.2.2.2.2.2.1 (L.1 - tn k), L.2.2.2.2.2.2)) else (-2, L)
def tlN (k lf : Nat) : Nat := if k = 0 then lf else if k = 1 then lf + 100 else lf + 100 + lf
def tlT (k : Nat) (tr : Int32) : Int32 := if k = 0 then 31 * tr + nI 1 else if k = 1 then 31 * (31 * tr + nI 2) + nI 1 else 31 * (31 * (31 * (31 * tr + nI 3) + nI 2) + nI 1) + nI 1
def s_tell (K : Nat → Nat) (P : PSt) (tr x : Int32) : Int32 × Int32 := if inN x P.1 then (nI (tlN (K (tn x)) (P.2 (tn x))), tlT (K (tn x)) tr) else (-1, tr)
def s_greet (K : Nat → Nat) (P : PSt) (tr x : Int32) : Int32 × Int32 := if inN x P.1 then (if K (tn x) = 2 then (nI 90, 31 * tr + nI 5) else (nI (tn x), 31 * tr + nI 4)) else (-1, tr)
def s_as (K : Nat → Nat) (P : PSt) (x k : Int32) : Int32 × Int32 := if inN x P.1 then (if rng k 0 2 then (if tn k ≤ K (tn x) then (nI 1, nI 0) else (fI 2, nI 2)) else (-2, nI 0)) else (-1, nI 0)
def s_least (K : Nat → Nat) (P : PSt) (L : LSt) (x d w : Int32) : Int32 := if inN x P.1 then (if rng d 0 99 ∧ rng w 0 1 then
    (let q := fun v => Lpd K v L (tn x) (tn d); let b := if q 1 < q 0 then 1 else 0; let c := if q 2 < q b then 2 else b; if w.toInt = 0 then nI c else nI (q c)) else -2) else -1
