/-! LETTERS: what is paid, owed, net; what writing, answering, burning do -/
def lsc (g : wG) (fr hv : Nat → Nat) (k : Nat) : Nat := shw (wK g (fr k)) (hv k)
def pdT (lw pj d : Nat) (fr to dy : Nat → Nat) (an : Nat → Option Nat) (sc : Nat → Nat) (k : Nat) : Nat := match an k with
  | none => 0
  | some a => if dy a ≤ d then (if fr k = pj then pys lw (sc k) (sc a) else if to k = pj then pys lw (sc a) (sc k) else 0) else 0
def pdS (lw pj d : Nat) (fr to dy : Nat → Nat) (an : Nat → Option Nat) (sc : Nat → Nat) : Nat → Nat
  | 0 => 0
  | k + 1 => pdS lw pj d fr to dy an sc k + pdT lw pj d fr to dy an sc k
theorem pdT_n {lw pj d : Nat} {fr to dy : Nat → Nat} {an : Nat → Option Nat} {sc : Nat → Nat} {k : Nat} (h : an k = none) : pdT lw pj d fr to dy an sc k = 0 := by unfold pdT; rw [h]
theorem pdT_s {lw pj d : Nat} {fr to dy : Nat → Nat} {an : Nat → Option Nat} {sc : Nat → Nat} {k a : Nat} (h : an k = some a) : pdT lw pj d fr to dy an sc k = if dy a ≤ d then (if fr k = pj then pys lw (sc k) (sc a) else if to k = pj then pys lw (sc a) (sc k) else 0) else 0 := by unfold pdT; rw [h]
/-- what is owed for one letter on a day -/
def owT (d : Nat) (dy : Nat → Nat) (an : Nat → Option Nat) (sc : Nat → Nat) (k : Nat) : Nat := match an k with
  | none => if d < dy k then 0 else (d - dy k) * sc k
  | some a => if d < dy k then 0 else if dy a ≤ d then 0 else (d - dy k) * sc k
def owS (pj o d : Nat) (fr to dy : Nat → Nat) (an : Nat → Option Nat) (sc : Nat → Nat) : Nat → Nat
  | 0 => 0
  | k + 1 => owS pj o d fr to dy an sc k + (if to k = pj ∧ fr k = o then owT d dy an sc k else 0)
def ntS (pj d : Nat) (fr to dy : Nat → Nat) (an : Nat → Option Nat) (sc : Nat → Nat) : Nat → Int32
  | 0 => 0
  | k + 1 => if fr k = pj then ntS pj d fr to dy an sc k + nI (owT d dy an sc k) else if to k = pj then ntS pj d fr to dy an sc k - nI (owT d dy an sc k) else ntS pj d fr to dy an sc k
/-- the same, person by person -/
def ntM (pj d : Nat) (fr to dy : Nat → Nat) (an : Nat → Option Nat) (sc : Nat → Nat) (cn : Nat) : Nat → Int32
  | 0 => 0
  | q + 1 => ntM pj d fr to dy an sc cn q + (nI (owS q pj d fr to dy an sc cn) - nI (owS pj q d fr to dy an sc cn))
theorem ntM_0 {pj d : Nat} {fr to dy : Nat → Nat} {an : Nat → Option Nat} {sc : Nat → Nat} : ∀ q, ntM pj d fr to dy an sc 0 q = 0 := by
  intro q
  induction q with
  | zero => rfl
  | succ q ih =>
    unfold ntM; rw [ih]
    show (0 : Int32) + (nI 0 - nI 0) = 0
    decide
theorem ite_s {c : Prop} [Decidable c] {t q : Nat} {w : Int32} : (if c ∧ t < q + 1 then w else 0) = (if c ∧ t < q then w else 0) + (if t = q ∧ c then w else 0) := by
  by_cases h : c
  · by_cases h1 : t < q
    · rw [if_pos ⟨h, by omega⟩, if_pos ⟨h, h1⟩, if_neg (by omega), Int32.add_zero]
    · by_cases h2 : t = q
      · rw [if_pos ⟨h, by omega⟩, if_neg (fun z => h1 z.2), if_pos ⟨h2, h⟩, Int32.zero_add]
      · rw [if_neg (by omega), if_neg (fun z => h1 z.2), if_neg (fun z => h2 z.1), Int32.zero_add]
  · rw [if_neg (fun z => h z.1), if_neg (fun z => h z.1), if_neg (fun z => h z.2), Int32.zero_add]
theorem nI_ite {c : Prop} [Decidable c] (a : Nat) : nI (if c then a else 0) = if c then nI a else 0 := by
  by_cases h : c
  · rw [if_pos h, if_pos h]
  · rw [if_neg h, if_neg h, nI_0]
theorem ntM_s {pj d : Nat} {fr to dy : Nat → Nat} {an : Nat → Option Nat} {sc : Nat → Nat} {cn : Nat} : ∀ q, ntM pj d fr to dy an sc (cn + 1) q = ntM pj d fr to dy an sc cn q + ((if fr cn = pj ∧ to cn < q then nI (owT d dy an sc cn) else 0) - (if to cn = pj ∧ fr cn < q then nI (owT d dy an sc cn) else 0)) := by
  intro q
  induction q with
  | zero => simp [ntM]
  | succ q ih =>
    rw [ite_s, ite_s]
    show ntM pj d fr to dy an sc (cn + 1) q + (nI (owS q pj d fr to dy an sc cn + (if to cn = q ∧ fr cn = pj then owT d dy an sc cn else 0)) - nI (owS pj q d fr to dy an sc cn + (if to cn = pj ∧ fr cn = q then owT d dy an sc cn else 0))) = ntM pj d fr to dy an sc cn q + (nI (owS q pj d fr to dy an sc cn) - nI (owS pj q d fr to dy an sc cn)) + _
    rw [ih, ← nI_add, ← nI_add, nI_ite, nI_ite]
    have e : (if to cn = pj ∧ fr cn = q then nI (owT d dy an sc cn) else 0) = (if fr cn = q ∧ to cn = pj then nI (owT d dy an sc cn) else 0) := by
      by_cases h1 : to cn = pj <;> by_cases h2 : fr cn = q <;> simp [h1, h2]
    rw [e]
    generalize (if fr cn = pj ∧ to cn < q then nI (owT d dy an sc cn) else 0) = a1
    generalize (if to cn = pj ∧ fr cn < q then nI (owT d dy an sc cn) else 0) = a2
    generalize (if to cn = q ∧ fr cn = pj then nI (owT d dy an sc cn) else 0) = a3
    generalize (if fr cn = q ∧ to cn = pj then nI (owT d dy an sc cn) else 0) = a4
    grind
/-- both ways of telling NET agree -/
theorem nt_same {pc pj d : Nat} {fr to dy : Nat → Nat} {an : Nat → Option Nat} {sc : Nat → Nat} : ∀ cn, (∀ k, k < cn → fr k < pc ∧ to k < pc ∧ fr k ≠ to k) → ntM pj d fr to dy an sc cn pc = ntS pj d fr to dy an sc cn := by
  intro cn
  induction cn with
  | zero => intro _; exact ntM_0 pc
  | succ cn ih =>
    intro h
    obtain ⟨h1, h2, h3⟩ := h cn (by omega)
    rw [ntM_s, ih (fun k hk => h k (by omega))]
    show _ = if fr cn = pj then _ else _
    by_cases a1 : fr cn = pj
    · rw [if_pos ⟨a1, h2⟩, if_pos a1, if_neg (fun z => h3 (a1.trans z.1.symm))]
      grind
    · rw [if_neg (fun z => a1 z.1), if_neg a1]
      by_cases a2 : to cn = pj
      · rw [if_pos ⟨a2, h1⟩, if_pos a2]; grind
      · rw [if_neg (fun z => a2 z.1), if_neg a2]; grind
/-- frames: nothing outside the handles lo .. hi has changed -/
def FrO (lo hi : Nat) (F u : wF) : Prop := ∀ h, (h < lo ∨ hi < h) → u h = F h
theorem FrO.rf (lo hi : Nat) (F : wF) : FrO lo hi F F := fun _ _ => rfl
theorem FrO.tr {lo hi : Nat} {F u v : wF} (h1 : FrO lo hi F u) (h2 : FrO lo hi u v) : FrO lo hi F v := fun h hh => (h2 h hh).trans (h1 h hh)
theorem FrO.up {lo hi : Nat} {F u : wF} (h1 : FrO lo hi F u) {h i : Nat} {x : Int32} (hl : lo ≤ h) (hh : h ≤ hi) : FrO lo hi F (u2 u h i x) := fun k hk => (u2_ne k (by omega)).trans (h1 k hk)
theorem FrO.wide {lo hi lo2 hi2 : Nat} {F u : wF} (h1 : FrO lo hi F u) (hl : lo2 ≤ lo) (hh : hi ≤ hi2) : FrO lo2 hi2 F u := fun k hk => h1 k (by omega)
/-- letters: one more is written; one is answered; the last ones are burnt -/
def anC (an : Nat → Option Nat) (c : Nat) (k : Nat) : Option Nat := match an k with
  | none => none
  | some a => if a < c then some a else none
theorem LC_w {g : wG} {F : wF} {cn j t w d : Nat} {fr to hv dy : Nat → Nat} {an af : Nat → Option Nat} (h : LC g F cn fr to hv dy an af) : LC g (u2 (u2 (u2 (u2 (u2 (u2 (u2 (u2 F 12 cn (nI j)) 13 cn (nI t)) 14 cn (nI w)) 15 cn (nI d)) 16 cn (nI (shw (wK g j) w))) 17 cn (-9)) 18 cn (-9)) 11 7 (nI (cn + 1))) (cn + 1) (va_up fr cn j) (va_up to cn t) (va_up hv cn w) (va_up dy cn d) (va_up an cn none) (va_up af cn none) := by
  refine ⟨u2_same _ _ _ _, fun k hk => ?_⟩
  by_cases hc : k = cn
  · subst hc
    simp [u2, va_up, oI]
  · obtain ⟨h1, h2, h3, h4, h5, h6, h7⟩ := h.2 k (by omega)
    simp [u2, va_up, hc, h1, h2, h3, h4, h5, h6, h7]
theorem LM_w {F : wF} {cn j t w d : Nat} {z : Option Nat} {fr to hv dy : Nat → Nat} {an af : Nat → Option Nat} (h : LM F cn fr to hv dy an af) : LM (u2 (u2 (u2 (u2 (u2 (u2 (u2 F 66 cn (nI j)) 67 cn (nI t)) 68 cn (nI w)) 69 cn (nI d)) 70 cn (-9)) 71 cn (oI z)) 58 13 (nI (cn + 1))) (cn + 1) (va_up fr cn j) (va_up to cn t) (va_up hv cn w) (va_up dy cn d) (va_up an cn none) (va_up af cn z) := by
  refine ⟨u2_same _ _ _ _, fun k hk => ?_⟩
  by_cases hc : k = cn
  · subst hc
    simp [u2, va_up, oI]
  · obtain ⟨h1, h2, h3, h4, h5, h6⟩ := h.2 k (by omega)
    simp [u2, va_up, hc, h1, h2, h3, h4, h5, h6]
theorem LC_p {g : wG} {F : wF} {cn x y : Nat} {fr to hv dy : Nat → Nat} {an af : Nat → Option Nat} (h : LC g F cn fr to hv dy an af) : LC g (u2 (u2 F 17 x (nI y)) 18 y (nI x)) cn fr to hv dy (va_up an x (some y)) (va_up af y (some x)) := by
  refine ⟨(u2_h (by decide)).trans ((u2_h (by decide)).trans h.1), fun k hk => ?_⟩
  obtain ⟨h1, h2, h3, h4, h5, h6, h7⟩ := h.2 k hk
  refine ⟨by simp [u2, h1], by simp [u2, h2], by simp [u2, h3], by simp [u2, h4], by simp [u2, h5], ?_, ?_⟩
  · by_cases hc : k = x
    · subst hc; simp [u2, va_up, oI]
    · simp [u2, va_up, hc, h6]
  · by_cases hc : k = y
    · subst hc; simp [u2, va_up, oI]
    · simp [u2, va_up, hc, h7]
/-- one letter fewer: the one that it answered is open again -/
theorem anC_n {pc cn : Nat} {fr to hv dy : Nat → Nat} {an af : Nat → Option Nat} (hI : LI pc cn fr to hv dy an af) {c : Nat} (hc : c < cn) (h : af c = none) : ∀ k, k < c → anC an c k = anC an (c + 1) k := by
  intro k hk
  unfold anC
  cases e : an k with
  | none => rfl
  | some a =>
    by_cases h1 : a = c
    · have := ((hI.2 k (by omega)).2.1 a e).2.2.2.1
      rw [h1, h] at this
      cases this
    · by_cases h2 : a < c
      · simp [h2, Nat.lt_succ_of_lt h2]
      · simp [h2, show ¬ a < c + 1 by omega]
theorem anC_s {pc cn : Nat} {fr to hv dy : Nat → Nat} {an af : Nat → Option Nat} (hI : LI pc cn fr to hv dy an af) {c x : Nat} (hc : c < cn) (h : af c = some x) : ∀ k, k < c → anC an c k = va_up (anC an (c + 1)) x none k := by
  intro k hk
  obtain ⟨h1, h2⟩ := (hI.2 c hc).2.2 x h
  by_cases hx : k = x
  · subst hx
    rw [va_up_self]
    unfold anC
    rw [h2]
    simp
  · rw [va_up_ne _ _ hx]
    unfold anC
    cases e : an k with
    | none => rfl
    | some a =>
      by_cases h3 : a = c
      · have := ((hI.2 k (by omega)).2.1 a e).2.2.2.1
        rw [h3, h] at this
        cases this
        exact absurd rfl hx
      · by_cases h4 : a < c
        · simp [h4, Nat.lt_succ_of_lt h4]
        · simp [h4, show ¬ a < c + 1 by omega]
theorem anC_id {pc cn : Nat} {fr to hv dy : Nat → Nat} {an af : Nat → Option Nat} (hI : LI pc cn fr to hv dy an af) : ∀ k, k < cn → anC an cn k = an k := by
  intro k hk
  unfold anC
  cases e : an k with
  | none => rfl
  | some a => simp [((hI.2 k hk).2.1 a e).1]
theorem LC_an {g : wG} {F : wF} {cn : Nat} {fr to hv dy : Nat → Nat} {an an2 af : Nat → Option Nat} (h : LC g F cn fr to hv dy an af) (e : ∀ k, k < cn → an2 k = an k) : LC g F cn fr to hv dy an2 af := ⟨h.1, fun k hk => by rw [e k hk]; exact h.2 k hk⟩
theorem LM_an {F : wF} {cn : Nat} {fr to hv dy : Nat → Nat} {an an2 af : Nat → Option Nat} (h : LM F cn fr to hv dy an af) (e : ∀ k, k < cn → an2 k = an k) : LM F cn fr to hv dy an2 af := ⟨h.1, fun k hk => by rw [e k hk]; exact h.2 k hk⟩
theorem LC_d {g : wG} {F : wF} {c : Nat} {fr to hv dy : Nat → Nat} {an af : Nat → Option Nat} (h : LC g F (c + 1) fr to hv dy an af) : LC g (u2 F 11 7 (nI c)) c fr to hv dy an af := ⟨u2_same _ _ _ _, fun k hk => by obtain ⟨h1, h2, h3, h4, h5, h6, h7⟩ := h.2 k (by omega); simp [u2, h1, h2, h3, h4, h5, h6, h7]⟩
theorem LC_x {g : wG} {F : wF} {c x : Nat} {fr to hv dy : Nat → Nat} {an af : Nat → Option Nat} (h : LC g F c fr to hv dy an af) : LC g (u2 F 17 x (-9)) c fr to hv dy (va_up an x none) af := by
  refine ⟨(u2_h (by decide)).trans h.1, fun k hk => ?_⟩
  obtain ⟨h1, h2, h3, h4, h5, h6, h7⟩ := h.2 k hk
  refine ⟨by simp [u2, h1], by simp [u2, h2], by simp [u2, h3], by simp [u2, h4], by simp [u2, h5], ?_, by simp [u2, h7]⟩
  by_cases hc : k = x
  · subst hc; simp [u2, va_up, oI]
  · simp [u2, va_up, hc, h6]
theorem LM_d {F : wF} {c : Nat} {fr to hv dy : Nat → Nat} {an af : Nat → Option Nat} (h : LM F (c + 1) fr to hv dy an af) : LM (u2 F 58 13 (nI c)) c fr to hv dy an af := ⟨u2_same _ _ _ _, fun k hk => by obtain ⟨h1, h2, h3, h4, h5, h6⟩ := h.2 k (by omega); simp [u2, h1, h2, h3, h4, h5, h6]⟩
theorem LM_x {F : wF} {c x : Nat} {fr to hv dy : Nat → Nat} {an af : Nat → Option Nat} (h : LM F c fr to hv dy an af) : LM (u2 F 70 x (-9)) c fr to hv dy (va_up an x none) af := by
  refine ⟨(u2_h (by decide)).trans h.1, fun k hk => ?_⟩
  obtain ⟨h1, h2, h3, h4, h5, h6⟩ := h.2 k hk
  refine ⟨by simp [u2, h1], by simp [u2, h2], by simp [u2, h3], by simp [u2, h4], ?_, by simp [u2, h6]⟩
  by_cases hc : k = x
  · subst hc; simp [u2, va_up, oI]
  · simp [u2, va_up, hc, h5]
