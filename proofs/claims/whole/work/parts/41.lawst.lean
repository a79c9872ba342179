/-! the law: what each call leaves of the state is a state -/
theorem m31 (x : Int32) : ∃ k, k < 32 ∧ x &&& nI 31 = nI k := by
  have e : x = nI x.toBitVec.toNat := by
    apply Int32.toBitVec_inj.1
    show x.toBitVec = BitVec.ofNat 32 x.toBitVec.toNat
    simp
  refine ⟨x.toBitVec.toNat &&& 31, Nat.lt_succ_of_le Nat.and_le_right, ?_⟩
  rw [e]
  apply Int32.toBitVec_inj.1
  show BitVec.ofNat 32 _ &&& BitVec.ofNat 32 31 = BitVec.ofNat 32 _
  apply BitVec.eq_of_getLsbD_eq
  intro i hi
  simp [hi]
  rw [← e]
section GIS
variable {g : wG} {P : PSt} {lw : Nat} {L : LSt} {S : SSt}
theorem GI_law (h : GI g P lw L S) (v : Int32) : GI g P (s_law P lw v).2 L S := by
  obtain ⟨h1, h2, h3, h4⟩ := h
  refine ⟨h1, ?_, h3, h4⟩
  unfold s_law
  split
  · rename_i hr
    split
    · exact h2
    · obtain ⟨j, rfl, a, b⟩ := rng_nat hr (by decide)
      show tn (nI j) ≤ 2
      rw [tn_nI (by omega)]; omega
  · exact h2
theorem GI_S (h : GI g P lw L S) {S2 : SSt} (hs : SI S2.1 S2.2.1) : GI g P lw L S2 := ⟨h.1, h.2.1, h.2.2.1, hs⟩
theorem GI_L (h : GI g P lw L S) {L2 : LSt} (hl : LI P.1 L2.1 L2.2.1 L2.2.2.1 L2.2.2.2.1 L2.2.2.2.2.1 L2.2.2.2.2.2.1 L2.2.2.2.2.2.2) : GI g P lw L2 S := ⟨h.1, h.2.1, hl, h.2.2.2⟩
theorem GI_sheet (h : GI g P lw L S) (k lane n : Int32) : GI g P lw L (s_sheet S k lane n).2.1 := by
  refine GI_S h ?_
  have hs := h.2.2.2
  unfold s_sheet
  split
  · split
    · split
      · exact hs
      · rename_i h1 h2 h3
        obtain ⟨j, rfl, a, b⟩ := rng_nat h2.1 (by decide)
        obtain ⟨q, rfl, a2, b2⟩ := rng_nat (x := n) (a := 0) (b := 40) ⟨by omega, h2.2⟩ (by decide)
        intro z hz
        show va_up S.2.1 _ _ z ≤ 40 ∧ ∀ x, va_up S.1 _ _ z = some x → x ≤ 2
        by_cases e : z = tn k
        · rw [e, va_up_self, va_up_self, tn_nI (by omega), tn_nI (by omega)]
          exact ⟨by omega, fun x hx => by cases hx; omega⟩
        · rw [va_up_ne _ _ e, va_up_ne _ _ e]; exact hs z hz
    · exact hs
  · exact hs
theorem GI_lose (h : GI g P lw L S) (k : Int32) : GI g P lw L (s_lose S k).2 := by
  refine GI_S h ?_
  have hs := h.2.2.2
  unfold s_lose
  split
  · intro z hz
    show S.2.1 z ≤ 40 ∧ ∀ x, va_up S.1 _ _ z = some x → x ≤ 2
    refine ⟨(hs z hz).1, fun x hx => ?_⟩
    by_cases e : z = tn k
    · rw [e, va_up_self] at hx; cases hx
    · rw [va_up_ne _ _ e] at hx; exact (hs z hz).2 x hx
  · exact hs
theorem GI_put (h : GI g P lw L S) (k i v : Int32) : GI g P lw L (s_put S k i v).2.1 := by
  refine GI_S h ?_
  have hs := h.2.2.2
  unfold s_put
  split
  · split
    · exact hs
    · split
      · exact hs
      · exact hs
  · exact hs
theorem GI_copy (h : GI g P lw L S) (k i o j n : Int32) : GI g P lw L (s_copy S k i o j n).2.1 := by
  refine GI_S h ?_
  have hs := h.2.2.2
  unfold s_copy
  split
  · split
    · exact hs
    · split
      · exact hs
      · split
        · split
          · exact hs
          · exact hs
        · exact hs
  · exact hs
theorem LI_new {pc cn : Nat} {fr to hv dy : Nat → Nat} {an af : Nat → Option Nat} (h : LI pc cn fr to hv dy an af) (hc : cn < 24) {f t w d : Nat} (hf : f < pc) (ht : t < pc) (hft : f ≠ t) (hw1 : 1 ≤ w) (hw2 : w ≤ 99) (hd : d ≤ 99) : LI pc (cn + 1) (va_up fr cn f) (va_up to cn t) (va_up hv cn w) (va_up dy cn d) (va_up an cn none) (va_up af cn none) := by
  refine ⟨hc, fun k hk => ?_⟩
  by_cases e : k = cn
  · subst e
    rw [va_up_self, va_up_self, va_up_self, va_up_self, va_up_self, va_up_self]
    exact ⟨⟨hf, ht, hft, hw1, hw2, hd⟩, fun a ha => (by cases ha), fun x hx => (by cases hx)⟩
  · obtain ⟨h1, h2, h3⟩ := h.2 k (by omega)
    rw [va_up_ne _ _ e, va_up_ne _ _ e, va_up_ne _ _ e, va_up_ne _ _ e, va_up_ne _ _ e, va_up_ne _ _ e]
    refine ⟨h1, fun a ha => ?_, fun x hx => ?_⟩
    · obtain ⟨a1, a2, a3, a4, a5⟩ := h2 a ha
      have ea : a ≠ cn := by omega
      rw [va_up_ne _ _ ea, va_up_ne _ _ ea, va_up_ne _ _ ea]
      exact ⟨by omega, a2, a3, a4, a5⟩
    · obtain ⟨x1, x2⟩ := h3 x hx
      rw [va_up_ne _ _ (show x ≠ cn by omega)]
      exact ⟨x1, x2⟩
theorem LI_pair {pc cn : Nat} {fr to hv dy : Nat → Nat} {an af : Nat → Option Nat} (h : LI pc cn fr to hv dy an af) (hc : cn < 24) {j w d : Nat} (hj : j < cn) (hno : an j = none) (hw1 : 1 ≤ w) (hw2 : w ≤ 99) (hd : d ≤ 99) : LI pc (cn + 1) (va_up fr cn (to j)) (va_up to cn (fr j)) (va_up hv cn w) (va_up dy cn d) (va_up (va_up an cn none) j (some cn)) (va_up af cn (some j)) := by
  obtain ⟨⟨j1, j2, j3, j4, j5, j6⟩, j7, j8⟩ := h.2 j hj
  refine ⟨hc, fun k hk => ?_⟩
  by_cases e : k = cn
  · subst e
    rw [va_up_self, va_up_self, va_up_self, va_up_self, va_up_ne _ _ (show k ≠ j by omega), va_up_self, va_up_self]
    refine ⟨⟨j2, j1, Ne.symm j3, hw1, hw2, hd⟩, fun a ha => (by cases ha), fun x hx => ?_⟩
    cases hx
    rw [va_up_self]
    exact ⟨hj, rfl⟩
  · obtain ⟨h1, h2, h3⟩ := h.2 k (by omega)
    rw [va_up_ne _ _ e, va_up_ne _ _ e, va_up_ne _ _ e, va_up_ne _ _ e, va_up_ne _ _ e]
    refine ⟨h1, fun a ha => ?_, fun x hx => ?_⟩
    · by_cases ej : k = j
      · subst ej
        rw [va_up_self] at ha
        cases ha
        rw [va_up_self, va_up_self, va_up_self]
        exact ⟨by omega, rfl, rfl, rfl, by omega⟩
      · rw [va_up_ne _ _ ej, va_up_ne _ _ e] at ha
        obtain ⟨a1, a2, a3, a4, a5⟩ := h2 a ha
        have ea : a ≠ cn := by omega
        rw [va_up_ne _ _ ea, va_up_ne _ _ ea, va_up_ne _ _ ea]
        exact ⟨by omega, a2, a3, a4, a5⟩
    · obtain ⟨x1, x2⟩ := h3 x hx
      have ex : x ≠ j := fun q => by rw [q, hno] at x2; cases x2
      rw [va_up_ne _ _ ex, va_up_ne _ _ (show x ≠ cn by omega)]
      exact ⟨x1, x2⟩
theorem LI_burn {pc cn : Nat} {fr to hv dy : Nat → Nat} {an af : Nat → Option Nat} (h : LI pc cn fr to hv dy an af) {n : Nat} (hn : n ≤ cn) : LI pc n fr to hv dy (anC an n) af := by
  refine ⟨Nat.le_trans hn h.1, fun k hk => ?_⟩
  obtain ⟨h1, h2, h3⟩ := h.2 k (by omega)
  refine ⟨h1, fun a ha => ?_, fun x hx => ?_⟩
  · unfold anC at ha
    cases hz : an k with
    | none => rw [hz] at ha; cases ha
    | some b =>
      rw [hz] at ha
      by_cases hb : b < n
      · have ha2 : (if b < n then some b else none) = some a := ha
        rw [if_pos hb] at ha2
        cases ha2
        obtain ⟨a1, a2, a3, a4, a5⟩ := h2 _ hz
        exact ⟨hb, a2, a3, a4, a5⟩
      · have ha2 : (if b < n then some b else none) = some a := ha
        rw [if_neg hb] at ha2
        cases ha2
  · obtain ⟨x1, x2⟩ := h3 x hx
    refine ⟨x1, ?_⟩
    unfold anC
    rw [x2]
    exact if_pos hk
theorem GI_send (h : GI g P lw L S) (x y w d : Int32) : GI g P lw (s_send P L x y w d).2 S := by
  refine GI_L h ?_
  have hl := h.2.2.1
  unfold s_send
  split
  · rename_i h1
    split
    · rename_i h2
      split
      · exact hl
      · rename_i h3
        obtain ⟨f, rfl, hf⟩ := inN_nat h1.1
        obtain ⟨t, rfl, ht⟩ := inN_nat h1.2.1
        obtain ⟨wq, rfl, w1, w2⟩ := rng_nat h2.1 (by decide)
        obtain ⟨dq, rfl, d1, d2⟩ := rng_nat h2.2 (by decide)
        have hp6 := h.1.1
        have h9 := h1.2.2
        rw [nI_tI (by omega), nI_tI (by omega)] at h9
        rw [tn_nI (by omega), tn_nI (by omega), tn_nI (by omega), tn_nI (by omega)]
        exact LI_new hl (by have := hl.1; omega) hf ht (by omega) (by omega) (by omega) (by omega)
    · exact hl
  · exact hl
theorem GI_answer (h : GI g P lw L S) (x w d : Int32) : GI g P lw (s_answer L x w d).2 S := by
  refine GI_L h ?_
  have hl := h.2.2.1
  unfold s_answer
  split
  · rename_i h1
    split
    · rename_i h2
      split
      · exact hl
      · rename_i h4
        split
        · exact hl
        · rename_i h3
          have hc := hl.1
          obtain ⟨j, rfl, hj⟩ := inN_nat h1
          obtain ⟨wq, rfl, w1, w2⟩ := rng_nat h2.1 (by decide)
          obtain ⟨dq, rfl, d1, d2⟩ := rng_nat h2.2.1 (by decide)
          rw [tn_nI (by omega)] at h4 ⊢
          rw [tn_nI (by omega), tn_nI (by omega)]
          exact LI_pair hl (by omega) hj (by cases hz : L.2.2.2.2.2.1 j with | none => rfl | some z => exact absurd (by rw [hz]; rfl) h4) (by omega) (by omega) (by omega)
    · exact hl
  · exact hl
theorem GI_burn (h : GI g P lw L S) (k : Int32) : GI g P lw (s_burn L k).2 S := by
  refine GI_L h ?_
  have hl := h.2.2.1
  unfold s_burn
  split
  · exact LI_burn hl (Nat.sub_le _ _)
  · exact hl
end GIS
