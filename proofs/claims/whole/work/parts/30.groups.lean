/-! groups of sum 0, bits -/
def sX (nn : Nat → Int32) (X : Nat → Bool) : Nat → Int32
  | 0 => 0
  | n + 1 => sX nn X n + (if X n = true then nn n else 0)
def dfX (X Y : Nat → Bool) : Nat → Bool := fun q => X q && !Y q
/-- a set is split into v groups, each with some, each of sum 0 -/
def PPp (nn : Nat → Int32) (n : Nat) : Nat → (Nat → Bool) → Prop
  | 0, X => ∀ q, q < n → X q = false
  | v + 1, X => ∃ Y : Nat → Bool, (∀ q, q < n → Y q = true → X q = true) ∧ (∃ q, q < n ∧ Y q = true) ∧ sX nn Y n = 0 ∧ PPp nn n v (dfX X Y)
theorem sX_c {nn : Nat → Int32} {X Y : Nat → Bool} : ∀ n, (∀ q, q < n → X q = Y q) → sX nn X n = sX nn Y n := by
  intro n
  induction n with
  | zero => intro _; rfl
  | succ n ih =>
    intro h
    unfold sX
    rw [ih (fun q hq => h q (by omega)), h n (by omega)]
theorem sX_0 {nn : Nat → Int32} {X : Nat → Bool} : ∀ n, (∀ q, q < n → X q = false) → sX nn X n = 0 := by
  intro n
  induction n with
  | zero => intro _; rfl
  | succ n ih =>
    intro h
    unfold sX
    rw [ih (fun q hq => h q (by omega)), h n (by omega)]
    rfl
theorem PPp_c {nn : Nat → Int32} {n : Nat} : ∀ v {X Y : Nat → Bool}, (∀ q, q < n → X q = Y q) → PPp nn n v X → PPp nn n v Y := by
  intro v
  induction v with
  | zero => intro X Y h hX q hq; rw [← h q hq]; exact hX q hq
  | succ v ih =>
    intro X Y h hX
    obtain ⟨Z, h1, h2, h3, h4⟩ := hX
    refine ⟨Z, fun q hq hz => by rw [← h q hq]; exact h1 q hq hz, h2, h3, ih (fun q hq => ?_) h4⟩
    unfold dfX
    rw [h q hq]
theorem i32_4 (a b c d : Int32) : (a + b) + (c + d) = (a + c) + (b + d) := by
  rw [Int32.add_assoc, Int32.add_assoc, ← Int32.add_assoc b c d, Int32.add_comm b c, Int32.add_assoc c b d]
theorem sX_df {nn : Nat → Int32} {X Y : Nat → Bool} : ∀ n, (∀ q, q < n → Y q = true → X q = true) → sX nn X n = sX nn Y n + sX nn (dfX X Y) n := by
  intro n
  induction n with
  | zero => intro _; rfl
  | succ n ih =>
    intro h
    have h1 := ih (fun q hq => h q (by omega))
    have h2 := h n (by omega)
    unfold sX
    rw [h1, i32_4]
    congr 1
    unfold dfX
    cases hX : X n <;> cases hY : Y n
    · exact (Int32.add_zero _).symm
    · rw [hX, hY] at h2; exact absurd (h2 rfl) (by decide)
    · exact (Int32.zero_add _).symm
    · exact (Int32.add_zero _).symm
theorem PPp_sum {nn : Nat → Int32} {n : Nat} : ∀ v {X : Nat → Bool}, PPp nn n v X → sX nn X n = 0 := by
  intro v
  induction v with
  | zero => intro X h; exact sX_0 n h
  | succ v ih =>
    intro X h
    obtain ⟨Y, h1, h2, h3, h4⟩ := h
    rw [sX_df n h1, h3, ih h4]
    rfl
theorem PPp_add {nn : Nat → Int32} {n v : Nat} {X T : Nat → Bool} (h1 : ∀ q, q < n → T q = true → X q = true) (h2 : PPp nn n v T) (h3 : sX nn X n = 0) (h4 : ∃ q, q < n ∧ X q = true ∧ T q = false) : PPp nn n (v + 1) X := by
  refine ⟨dfX X T, fun q hq h => ?_, ?_, ?_, ?_⟩
  · unfold dfX at h
    cases hX : X q
    · rw [hX, Bool.false_and] at h; exact absurd h (by decide)
    · rfl
  · obtain ⟨q, hq, a, b⟩ := h4
    exact ⟨q, hq, by unfold dfX; rw [a, b]; rfl⟩
  · have h := sX_df (nn := nn) n h1
    rw [h3, PPp_sum v h2, Int32.zero_add] at h
    exact h.symm
  · refine PPp_c v (fun q hq => ?_) h2
    have h := h1 q hq
    unfold dfX
    cases hX : X q <;> cases hT : T q
    · rfl
    · rw [hX, hT] at h; exact absurd (h rfl) (by decide)
    · rfl
    · rfl
theorem PPp_full {nn : Nat → Int32} {n v : Nat} {X T : Nat → Bool} (h1 : ∀ q, q < n → T q = true → X q = true) (h2 : PPp nn n v T) (h3 : sX nn X n = 0) : PPp nn n v X ∨ PPp nn n (v + 1) X := by
  by_cases h : ∃ q, q < n ∧ X q = true ∧ T q = false
  · exact Or.inr (PPp_add h1 h2 h3 h)
  · refine Or.inl (PPp_c v (fun q hq => ?_) h2)
    have h9 := h1 q hq
    cases hX : X q <;> cases hT : T q
    · rfl
    · rw [hX, hT] at h9; exact absurd (h9 rfl) (by decide)
    · exact absurd ⟨q, hq, hX, hT⟩ h
    · rfl
/-- the most groups inside a set -/
def FM (nn : Nat → Int32) (n : Nat) (X : Nat → Bool) (f : Nat) : Prop := (∃ T : Nat → Bool, (∀ q, q < n → T q = true → X q = true) ∧ PPp nn n f T) ∧ ∀ (T : Nat → Bool) (v : Nat), (∀ q, q < n → T q = true → X q = true) → PPp nn n v T → v ≤ f
theorem FM_c {nn : Nat → Int32} {n f : Nat} {X Y : Nat → Bool} (h : ∀ q, q < n → X q = Y q) (hf : FM nn n X f) : FM nn n Y f := by
  obtain ⟨⟨T, h1, h2⟩, h3⟩ := hf
  exact ⟨⟨T, fun q hq ht => by rw [← h q hq]; exact h1 q hq ht, h2⟩, fun T v ht hv => h3 T v (fun q hq hz => by rw [h q hq]; exact ht q hq hz) hv⟩
theorem FM_0 {nn : Nat → Int32} {n : Nat} {X : Nat → Bool} (h : ∀ q, q < n → X q = false) : FM nn n X 0 := by
  refine ⟨⟨X, fun _ _ h => h, h⟩, fun T v ht hv => ?_⟩
  cases v with
  | zero => exact Nat.le_refl _
  | succ v =>
    obtain ⟨Y, h1, ⟨q, hq, hy⟩, h3, h4⟩ := hv
    have := ht q hq (h1 q hq hy)
    rw [h q hq] at this
    exact absurd this (by decide)
def rmX (X : Nat → Bool) (p : Nat) : Nat → Bool := fun q => X q && !decide (q = p)
theorem FM_s {nn : Nat → Int32} {n b : Nat} {X : Nat → Bool} (h1 : ∀ p, p < n → X p = true → ∃ f, FM nn n (rmX X p) f ∧ f ≤ b) (h2 : ∃ p, p < n ∧ X p = true ∧ FM nn n (rmX X p) b) : FM nn n X (if sX nn X n = 0 then b + 1 else b) := by
  obtain ⟨p, hp, hXp, ⟨T, ht, hv⟩, hu⟩ := h2
  have hTX : ∀ q, q < n → T q = true → X q = true := fun q hq hz => by
    have h := ht q hq hz
    unfold rmX at h
    cases hX : X q
    · rw [hX, Bool.false_and] at h; exact absurd h (by decide)
    · rfl
  have hTp : T p = false := by
    cases hT : T p
    · rfl
    · have h := ht p hp hT
      unfold rmX at h
      rw [hXp, decide_eq_true (show p = p from rfl)] at h
      exact absurd h (by decide)
  refine ⟨?_, fun T2 v hs hv2 => ?_⟩
  · by_cases h0 : sX nn X n = 0
    · rw [if_pos h0]
      exact ⟨X, fun _ _ h => h, PPp_add hTX hv h0 ⟨p, hp, hXp, hTp⟩⟩
    · rw [if_neg h0]
      exact ⟨T, hTX, hv⟩
  · have hb : b ≤ (if sX nn X n = 0 then b + 1 else b) := by split <;> omega
    by_cases h : ∃ q, q < n ∧ X q = true ∧ T2 q = false
    · obtain ⟨q, hq, hXq, hTq⟩ := h
      obtain ⟨f, hf, hfb⟩ := h1 q hq hXq
      have := hf.2 T2 v (fun z hz hT => by
        unfold rmX
        rw [hs z hz hT]
        by_cases e : z = q
        · rw [e, hTq] at hT; exact absurd hT (by decide)
        · rw [decide_eq_false e]; rfl) hv2
      omega
    · have hXT : ∀ q, q < n → X q = T2 q := fun q hq => by
        have h9 := hs q hq
        cases hX : X q <;> cases hT : T2 q
        · rfl
        · rw [hX, hT] at h9; exact absurd (h9 rfl) (by decide)
        · exact absurd ⟨q, hq, hX, hT⟩ h
        · rfl
      rw [if_pos (by rw [sX_c n hXT]; exact PPp_sum v hv2)]
      cases v with
      | zero => omega
      | succ v =>
        obtain ⟨Y, y1, ⟨q, hq, hy⟩, y3, y4⟩ := hv2
        obtain ⟨f, hf, hfb⟩ := h1 q hq (hs q hq (y1 q hq hy))
        have := hf.2 (dfX T2 Y) v (fun z hz hT => by
          unfold dfX at hT
          unfold rmX
          cases hT2 : T2 z
          · rw [hT2, Bool.false_and] at hT; exact absurd hT (by decide)
          · rw [hs z hz hT2]
            by_cases e : z = q
            · rw [e, hy, Bool.not_true, Bool.and_false] at hT; exact absurd hT (by decide)
            · rw [decide_eq_false e]; rfl) y4
        omega
/-- how many of the first are not 0 -/
def cz (nn : Nat → Int32) : Nat → Nat
  | 0 => 0
  | n + 1 => if nn n = 0 then cz nn n else cz nn n + 1
theorem cz_z {nn : Nat → Int32} {n : Nat} (h : nn n = 0) : cz nn (n + 1) = cz nn n := by show (if _ then _ else _) = _; rw [if_pos h]
theorem cz_n {nn : Nat → Int32} {n : Nat} (h : ¬ nn n = 0) : cz nn (n + 1) = cz nn n + 1 := by show (if _ then _ else _) = _; rw [if_neg h]
theorem cz_up {nn : Nat → Int32} : ∀ b a, a ≤ b → cz nn a ≤ cz nn b := by
  intro b
  induction b with
  | zero => intro a h; rw [show a = 0 by omega]; exact Nat.le_refl _
  | succ b ih =>
    intro a h
    rcases (show a = b + 1 ∨ a ≤ b by omega) with e | e
    · rw [e]; exact Nat.le_refl _
    · have := ih a e
      by_cases hz : nn b = 0
      · rw [cz_z hz]; exact this
      · rw [cz_n hz]; omega
theorem cz_lt {nn : Nat → Int32} {q n : Nat} (h : q < n) (hq : ¬ nn q = 0) : cz nn q < cz nn n := by
  have := cz_up (nn := nn) n (q + 1) (by omega)
  rw [cz_n hq] at this
  omega
theorem cz_inj {nn : Nat → Int32} {q r : Nat} (hq : ¬ nn q = 0) (hr : ¬ nn r = 0) (h : cz nn q = cz nn r) : q = r := by
  rcases (show q < r ∨ r < q ∨ q = r by omega) with a | a | a
  · have := cz_lt a hq; omega
  · have := cz_lt a hr; omega
  · exact a
theorem cz_sur {nn : Nat → Int32} : ∀ n i, i < cz nn n → ∃ q, q < n ∧ ¬ nn q = 0 ∧ cz nn q = i := by
  intro n
  induction n with
  | zero => intro i h; exact absurd h (Nat.not_lt_zero _)
  | succ n ih =>
    intro i h
    by_cases hz : nn n = 0
    · rw [cz_z hz] at h
      obtain ⟨q, a, b, c⟩ := ih i h
      exact ⟨q, by omega, b, c⟩
    · rw [cz_n hz] at h
      rcases (show i < cz nn n ∨ cz nn n = i by omega) with e | e
      · obtain ⟨q, a, b, c⟩ := ih i e
        exact ⟨q, by omega, b, c⟩
      · exact ⟨n, by omega, hz, e⟩
theorem cz_le {nn : Nat → Int32} : ∀ n, cz nn n ≤ n := by
  intro n
  induction n with
  | zero => exact Nat.le_refl _
  | succ n ih => unfold cz; split <;> omega
def trX (nn : Nat → Int32) (X : Nat → Bool) : Nat → Bool := fun q => !decide (nn q = 0) && X (cz nn q)
theorem trX_z {nn : Nat → Int32} {X : Nat → Bool} {q : Nat} (h : nn q = 0) : trX nn X q = false := by unfold trX; rw [decide_eq_true h]; rfl
theorem trX_n {nn : Nat → Int32} {X : Nat → Bool} {q : Nat} (h : ¬ nn q = 0) : trX nn X q = X (cz nn q) := by unfold trX; rw [decide_eq_false h]; rfl
def NT (nn nets : Nat → Int32) (n : Nat) : Prop := ∀ q, q < n → ¬ nn q = 0 → nets (cz nn q) = nn q
theorem sX_tr {nn nets : Nat → Int32} {X : Nat → Bool} : ∀ n, NT nn nets n → sX nn (trX nn X) n = sX nets X (cz nn n) := by
  intro n
  induction n with
  | zero => intro _; rfl
  | succ n ih =>
    intro h
    have h1 := ih (fun q hq => h q (by omega))
    by_cases hz : nn n = 0
    · rw [cz_z hz, ← h1]
      show _ + (if _ then _ else _) = _
      rw [trX_z hz]
      exact Int32.add_zero _
    · rw [cz_n hz]
      show _ + (if _ then _ else _) = _ + (if _ then _ else _)
      rw [h1, trX_n hz, h n (by omega) hz]
theorem PPp_tr {nn nets : Nat → Int32} {n : Nat} (hn : NT nn nets n) : ∀ v {X : Nat → Bool}, PPp nets (cz nn n) v X → PPp nn n v (trX nn X) := by
  intro v
  induction v with
  | zero =>
    intro X h q hq
    by_cases hz : nn q = 0
    · exact trX_z hz
    · rw [trX_n hz]; exact h _ (cz_lt hq hz)
  | succ v ih =>
    intro X h
    obtain ⟨Y, h1, ⟨i, hi, hy⟩, h3, h4⟩ := h
    refine ⟨trX nn Y, fun q hq hz => ?_, ?_, ?_, PPp_c v (fun q hq => ?_) (ih h4)⟩
    · by_cases h0 : nn q = 0
      · rw [trX_z h0] at hz; exact absurd hz (by decide)
      · rw [trX_n h0] at hz ⊢; exact h1 _ (cz_lt hq h0) hz
    · obtain ⟨q, a, b, c⟩ := cz_sur n i hi
      exact ⟨q, a, by rw [trX_n b, c]; exact hy⟩
    · rw [sX_tr n hn]; exact h3
    · unfold dfX
      by_cases h0 : nn q = 0
      · rw [trX_z h0, trX_z h0]; rfl
      · rw [trX_n h0, trX_n h0, trX_n h0]
theorem PPp_rt {nn nets : Nat → Int32} {n : Nat} (hn : NT nn nets n) : ∀ v {X : Nat → Bool}, PPp nn n v (trX nn X) → PPp nets (cz nn n) v X := by
  intro v
  induction v with
  | zero =>
    intro X h i hi
    obtain ⟨q, a, b, c⟩ := cz_sur n i hi
    have := h q a
    rw [trX_n b, c] at this
    exact this
  | succ v ih =>
    intro X h
    obtain ⟨Y, h1, ⟨q, hq, hy⟩, h3, h4⟩ := h
    have hnz : ∀ q, q < n → Y q = true → ¬ nn q = 0 := fun q hq hy h0 => by
      have := h1 q hq hy
      rw [trX_z h0] at this
      exact absurd this (by decide)
    let Z : Nat → Bool := fun i => decide (∃ q, q < n ∧ ¬ nn q = 0 ∧ cz nn q = i ∧ Y q = true)
    have hZ : ∀ q, q < n → trX nn Z q = Y q := fun q hq => by
      by_cases h0 : nn q = 0
      · rw [trX_z h0]
        cases hY : Y q
        · rfl
        · exact absurd h0 (hnz q hq hY)
      · rw [trX_n h0]
        cases hY : Y q
        · refine decide_eq_false ?_
          intro hex
          obtain ⟨r, a, b, c, d⟩ := hex
          rw [cz_inj b h0 c, hY] at d
          exact absurd d (by decide)
        · exact decide_eq_true ⟨q, hq, h0, rfl, hY⟩
    refine ⟨Z, fun i hi hz => ?_, ⟨cz nn q, cz_lt hq (hnz q hq hy), decide_eq_true ⟨q, hq, hnz q hq hy, rfl, hy⟩⟩, ?_, ih (PPp_c v (fun r hr => ?_) h4)⟩
    · obtain ⟨r, a, b, c, d⟩ := of_decide_eq_true hz
      have := h1 r a d
      rw [trX_n b, c] at this
      exact this
    · rw [← sX_tr n hn, sX_c n hZ]; exact h3
    · have h9 := hZ r hr
      unfold dfX
      by_cases h0 : nn r = 0
      · rw [trX_z h0, trX_z h0]; rfl
      · rw [trX_n h0] at h9 ⊢
        rw [trX_n h0, h9]
noncomputable def mxv (P : Nat → Prop) : Nat := @dite Nat (∃ v, P v ∧ ∀ w, P w → w ≤ v) (Classical.propDecidable _) (fun h => Classical.choose h) (fun _ => 0)
theorem mx_eq {P : Nat → Prop} {v : Nat} (h1 : P v) (h2 : ∀ w, P w → w ≤ v) : mxv P = v := by
  have h : ∃ v, P v ∧ ∀ w, P w → w ≤ v := ⟨v, h1, h2⟩
  have e : mxv P = Classical.choose h := by unfold mxv; rw [dif_pos h]
  obtain ⟨a, b⟩ := Classical.choose_spec h
  rw [e]
  exact Nat.le_antisymm (h2 _ a) (b _ h1)
def nzX (nn : Nat → Int32) : Nat → Bool := fun q => !decide (nn q = 0)
theorem nzX_tr (nn : Nat → Int32) (q : Nat) : trX nn (fun _ => true) q = nzX nn q := by unfold trX nzX; rw [Bool.and_true]
/-- the table of Settling at its last set -/
theorem mx_class {nn nets : Nat → Int32} {n f : Nat} {X : Nat → Bool} (hn : NT nn nets n) (h0 : sX nn (nzX nn) n = 0) (hX : ∀ i, i < cz nn n → X i = true) (hf : FM nets (cz nn n) X f) : mxv (fun v => PPp nn n v (nzX nn)) = f := by
  have hs : sX nets X (cz nn n) = 0 := by
    rw [← h0, ← sX_c n (fun q _ => nzX_tr nn q), sX_tr n hn]
    exact sX_c _ (fun q hq => hX q hq)
  have hq : ∀ v, PPp nn n v (nzX nn) → PPp nets (cz nn n) v X := fun v h => PPp_c v (fun q hq => (hX q hq).symm) (PPp_rt hn v (PPp_c v (fun q _ => (nzX_tr nn q).symm) h))
  refine mx_eq ?_ (fun w hw => hf.2 X w (fun _ _ h => h) (hq w hw))
  obtain ⟨⟨T, h1, h2⟩, h3⟩ := hf
  have hF : PPp nets (cz nn n) f X := by
    rcases PPp_full h1 h2 hs with a | a
    · exact a
    · have := h3 X (f + 1) (fun _ _ h => h) a; omega
  exact PPp_c f (fun q _ => nzX_tr nn q) (PPp_tr hn f (PPp_c f (fun q hq => hX q hq) hF))
/-- an entry of the model's table -/
def EN (nn : Nat → Int32) (n : Nat) (X : Nat → Bool) (a : Option Nat) : Prop := (∀ v, a = some v → PPp nn n v X) ∧ ∀ v, PPp nn n v X → ∃ w, a = some w ∧ v ≤ w
theorem mx_model {nn : Nat → Int32} {n : Nat} {X : Nat → Bool} {a : Option Nat} (h0 : sX nn (nzX nn) n = 0) (hX : ∀ q, q < n → X q = nzX nn q) (h : EN nn n X a) : a = some (mxv (fun v => PPp nn n v (nzX nn))) := by
  have hex : ∃ v, PPp nn n v X := by
    have hs : sX nn X n = 0 := by rw [sX_c n hX]; exact h0
    rcases PPp_full (T := fun _ => false) (v := 0) (fun q hq h => absurd h (by decide)) (fun _ _ => rfl) hs with h | h
    · exact ⟨_, h⟩
    · exact ⟨_, h⟩
  obtain ⟨v, hv⟩ := hex
  obtain ⟨w, hw, _⟩ := h.2 v hv
  rw [hw]
  congr 1
  refine (mx_eq (PPp_c w hX (h.1 w hw)) (fun u hu => ?_)).symm
  obtain ⟨w2, e, hle⟩ := h.2 u (PPp_c u (fun q hq => (hX q hq).symm) hu)
  rw [hw] at e
  cases e
  exact hle
theorem sX_add {a b : Nat → Int32} {X : Nat → Bool} : ∀ n, sX (fun p => a p + b p) X n = sX a X n + sX b X n := by
  intro n
  induction n with
  | zero => rfl
  | succ n ih =>
    unfold sX
    rw [ih, i32_4]
    congr 1
    split
    · rfl
    · rfl
theorem sX_nn {a b : Nat → Int32} {X : Nat → Bool} : ∀ n, (∀ q, q < n → a q = b q) → sX a X n = sX b X n := by
  intro n
  induction n with
  | zero => intro _; rfl
  | succ n ih =>
    intro h
    unfold sX
    rw [ih (fun q hq => h q (by omega)), h n (by omega)]
theorem sX_one {i : Nat} {x : Int32} : ∀ n, sX (fun p => if i = p then x else 0) (fun _ => true) n = if i < n then x else 0 := by
  intro n
  induction n with
  | zero => rfl
  | succ n ih =>
    unfold sX
    rw [ih, if_pos rfl]
    by_cases h : i = n
    · rw [if_neg (by omega), if_pos h, if_pos (by omega)]; exact Int32.zero_add _
    · rw [if_neg h, Int32.add_zero]
      by_cases h2 : i < n
      · rw [if_pos h2, if_pos (by omega)]
      · rw [if_neg h2, if_neg (by omega)]
theorem sX_nz {nn : Nat → Int32} : ∀ n, sX nn (nzX nn) n = sX nn (fun _ => true) n := by
  intro n
  induction n with
  | zero => rfl
  | succ n ih =>
    unfold sX
    rw [ih, if_pos rfl]
    unfold nzX
    by_cases h : nn n = 0
    · rw [h]; rfl
    · rw [decide_eq_false h]; rfl
theorem nt_tot {d n : Nat} {fr to dy : Nat → Nat} {an : Nat → Option Nat} {sc : Nat → Nat} : ∀ k, (∀ j, j < k → fr j < n ∧ to j < n ∧ fr j ≠ to j) → sX (fun p => ntS p d fr to dy an sc k) (fun _ => true) n = 0 := by
  intro k
  induction k with
  | zero =>
    intro _
    induction n with
    | zero => rfl
    | succ n ih => unfold sX; rw [ih (fun j hj => absurd hj (Nat.not_lt_zero j))]; rfl
  | succ k ih =>
    intro h
    obtain ⟨h1, h2, h3⟩ := h k (by omega)
    have h4 := ih (fun j hj => h j (by omega))
    rw [sX_nn (a := fun p => ntS p d fr to dy an sc (k + 1)) (b := fun p => ntS p d fr to dy an sc k + ((if fr k = p then nI (owT d dy an sc k) else 0) + (if to k = p then -nI (owT d dy an sc k) else 0))) n ?_, sX_add, sX_add, h4, sX_one, sX_one, if_pos h1, if_pos h2, Int32.zero_add]
    · exact Int32.add_right_neg _
    · intro q hq
      show (if _ then _ else _) = _
      by_cases e1 : fr k = q
      · rw [if_pos e1, if_pos e1, if_neg (by omega), Int32.add_zero]
      · rw [if_neg e1, if_neg e1]
        by_cases e2 : to k = q
        · rw [if_pos e2, if_pos e2, Int32.zero_add, Int32.sub_eq_add_neg]
        · rw [if_neg e2, if_neg e2, Int32.add_zero, Int32.add_zero]
theorem b_shl : ∀ p, p < 7 → nI 1 <<< (nI p &&& 31) = nI (2 ^ p) := by decide +kernel
theorem b_bit : ∀ p, p < 6 → ∀ z, z < 64 → (nI z >>> (nI p &&& 31)) &&& nI 1 = nI (if z.testBit p = true then 1 else 0) := by decide +kernel
theorem b_or : ∀ p, p < 6 → ∀ z, z < 2 ^ p → nI z ||| nI (2 ^ p) = nI (z + 2 ^ p) := by decide +kernel
theorem b_or0 : ∀ z, z < 64 → nI z ||| nI 0 = nI z := by decide +kernel
theorem b_land : ∀ a, a < 64 → ∀ z, z < 64 → nI a &&& nI z = nI (a &&& z) := by decide +kernel
theorem b_and2 : ∀ p, p < 6 → ∀ z, z < 64 → nI z &&& nI (2 ^ p) = nI (if z.testBit p = true then 2 ^ p else 0) := by decide +kernel
theorem b_xor : ∀ p, p < 6 → ∀ z, z < 64 → z.testBit p = true → nI z ^^^ nI (2 ^ p) = nI (z - 2 ^ p) ∧ 2 ^ p ≤ z := by decide +kernel
theorem b_sub : ∀ z, z < 64 → ∀ t, t < 64 → t &&& z = t → t ≤ z ∧ ∀ q, q < 6 → (z - t).testBit q = (z.testBit q && !t.testBit q) := by decide +kernel
theorem b_rm : ∀ z, z < 64 → ∀ p, p < 6 → z.testBit p = true → ∀ q, q < 6 → (z - 2 ^ p).testBit q = (z.testBit q && !decide (q = p)) := by decide +kernel
theorem b_next : ∀ z, z < 64 → ∀ a, a < 64 → a &&& z = a → ∀ t, t < a → t &&& z = t → t ≤ (a - 1) &&& z := by decide +kernel
theorem b_nx2 : ∀ z, z < 64 → ∀ a, a < 64 → 0 < a → (a - 1) &&& z < a ∧ ((a - 1) &&& z) &&& z = (a - 1) &&& z := by decide +kernel
theorem b_mk : ∀ b0 b1 b2 b3 b4 b5 : Bool, (b0.toNat + 2 * b1.toNat + 4 * b2.toNat + 8 * b3.toNat + 16 * b4.toNat + 32 * b5.toNat < 64) ∧ ∀ q, q < 6 → (b0.toNat + 2 * b1.toNat + 4 * b2.toNat + 8 * b3.toNat + 16 * b4.toNat + 32 * b5.toNat).testBit q = (match q with | 0 => b0 | 1 => b1 | 2 => b2 | 3 => b3 | 4 => b4 | _ => b5) := by decide +kernel
theorem b_sbt : ∀ z, z < 64 → ∀ t, t < 64 → (∀ q, q < 6 → t.testBit q = true → z.testBit q = true) → t &&& z = t := by decide +kernel
theorem b_ext : ∀ z, z < 64 → ∀ t, t < 64 → (∀ q, q < 6 → z.testBit q = t.testBit q) → z = t := by decide +kernel
theorem b_hi : ∀ n, n < 7 → ∀ z, z < 2 ^ n → ∀ q, q < 6 → z.testBit q = true → q < n := by decide +kernel
theorem b_nz : ∀ z, z < 64 → 0 < z → ∃ q, q < 6 ∧ z.testBit q = true := by
  intro z h1 h2
  by_cases h : ∃ q, q < 6 ∧ z.testBit q = true
  · exact h
  · have := b_ext z h1 0 (by decide) (fun q hq => by
      rw [Nat.zero_testBit]
      cases hz : z.testBit q
      · rfl
      · exact absurd ⟨q, hq, hz⟩ h)
    omega
