/-! printed by wip/gen/meths17.py: parts, what there is a way for -/
theorem mnf_at {st : Nat} {f : Nat → Nat} {w : Nat} (h1 : 1 ≤ w) : ∀ n, w ≤ n → mnf st f n ≤ f w := by
  intro n
  induction n with
  | zero => intro h; omega
  | succ n ih =>
    intro h
    unfold mnf
    rcases (show w = n + 1 ∨ w ≤ n by omega) with e | e
    · rw [e]; split <;> omega
    · have := ih e
      split <;> omega
theorem mnf_st {st : Nat} {f : Nat → Nat} : ∀ n, (∀ w, 1 ≤ w → w ≤ n → st ≤ f w) → mnf st f n = st := by
  intro n
  induction n with
  | zero => intro _; rfl
  | succ n ih =>
    intro h
    have h1 := h (n + 1) (by omega) (by omega)
    have h2 := ih (fun w a b => h w a (by omega))
    rw [mnf_f (by omega), h2]
theorem mnf_or {st : Nat} {f : Nat → Nat} : ∀ n, mnf st f n = st ∨ ∃ w, 1 ≤ w ∧ w ≤ n ∧ mnf st f n = f w := by
  intro n
  induction n with
  | zero => exact Or.inl rfl
  | succ n ih =>
    unfold mnf
    split
    · exact Or.inr ⟨n + 1, by omega, by omega, rfl⟩
    · rcases ih with h | ⟨w, h1, h2, h3⟩
      · exact Or.inl h
      · exact Or.inr ⟨w, h1, by omega, h3⟩
theorem lO_no {pp : Nat → Nat → Nat} {n : Nat} : ∀ r left, left < r → lO pp n r left = 1000000000 := by
  intro r
  induction r with
  | zero => intro left h; omega
  | succ r ih =>
    intro left h
    refine mnf_st left (fun w h1 h2 => ?_)
    show 1000000000 ≤ lO pp n r (left - w) + _
    rw [ih (left - w) (by omega)]
    omega
theorem lO_yes {pp : Nat → Nat → Nat} {n : Nat} (hp : ∀ k w, w ≤ 99 → pp k w ≤ 400) : ∀ r left, r + 1 ≤ left → left ≤ 99 → lO pp n (r + 1) left ≤ 400 * (r + 1) := by
  intro r
  induction r with
  | zero =>
    intro left h h2
    refine Nat.le_trans (mnf_at (w := left) (by omega) left (Nat.le_refl _)) ?_
    show lO pp n 0 (left - left) + _ ≤ _
    rw [Nat.sub_self]
    exact Nat.le_trans (Nat.le_of_eq (Nat.zero_add _)) (Nat.le_trans (hp _ left h2) (by decide))
  | succ r ih =>
    intro left h h2
    refine Nat.le_trans (mnf_at (w := 1) (by omega) left (by omega)) ?_
    show lO pp n (r + 1) (left - 1) + _ ≤ _
    have h3 := ih (left - 1) (by omega) (by omega)
    have h4 := hp (n - (r + 1 + 1)) 1 (by omega)
    omega
