/-! printed by wip/gen/meths18.py: parts, the model: partOf, split -/
theorem lO_yes2 {pp : Nat → Nat → Nat} {n : Nat} (hn : 1 ≤ n) (hp : ∀ k w, k < n → w ≤ 99 → pp k w ≤ 400) : ∀ r left, r + 1 ≤ left → left ≤ 99 → lO pp n (r + 1) left ≤ 400 * (r + 1) := by
  intro r
  induction r with
  | zero =>
    intro left h h2
    refine Nat.le_trans (mnf_at (w := left) (by omega) left (Nat.le_refl _)) ?_
    show lO pp n 0 (left - left) + _ ≤ _
    rw [Nat.sub_self]
    exact Nat.le_trans (Nat.le_of_eq (Nat.zero_add _)) (Nat.le_trans (hp _ left (by omega) h2) (by decide))
  | succ r ih =>
    intro left h h2
    refine Nat.le_trans (mnf_at (w := 1) (by omega) left (by omega)) ?_
    show lO pp n (r + 1) (left - 1) + _ ≤ _
    have h3 := ih (left - 1) (by omega) (by omega)
    have h4 := hp (n - (r + 1 + 1)) 1 (by omega) (by omega)
    omega
def amf (st : Nat) (f : Nat → Nat) : Nat → Nat
  | 0 => 0
  | n + 1 => if f (n + 1) < mnf st f n then n + 1 else amf st f n
theorem amf_ok {st : Nat} {f : Nat → Nat} : ∀ n, (mnf st f n = st ∧ amf st f n = 0) ∨ (mnf st f n < st ∧ 1 ≤ amf st f n ∧ amf st f n ≤ n ∧ f (amf st f n) = mnf st f n ∧ ∀ w, 1 ≤ w → w < amf st f n → mnf st f n < f w) := by
  intro n
  induction n with
  | zero => exact Or.inl ⟨rfl, rfl⟩
  | succ n ih =>
    by_cases h : f (n + 1) < mnf st f n
    · have e2 : amf st f (n + 1) = n + 1 := by show (if _ then _ else _) = _; rw [if_pos h]
      have hle := mnf_le (st := st) (f := f) n
      rw [mnf_t h, e2]
      exact Or.inr ⟨by omega, by omega, Nat.le_refl _, rfl, fun w h1 h2 => Nat.lt_of_lt_of_le h (mnf_at h1 n (by omega))⟩
    · have e2 : amf st f (n + 1) = amf st f n := by show (if _ then _ else _) = _; rw [if_neg h]
      rw [mnf_f h, e2]
      rcases ih with h2 | ⟨h1, h2, h3, h4, h5⟩
      · exact Or.inl h2
      · exact Or.inr ⟨h1, h2, by omega, h4, h5⟩
def spf (pp : Nat → Nat → Nat) (n k left w : Nat) : Nat := lO pp n (n - (k + 1)) (left - w) + pp k w
def spL (pp : Nat → Nat → Nat) (n We : Nat) : Nat → Nat
  | 0 => We
  | k + 1 => spL pp n We k - amf 1000000000 (spf pp n k (spL pp n We k)) (spL pp n We k)
def spX (pp : Nat → Nat → Nat) (n We k : Nat) : Nat := amf 1000000000 (spf pp n k (spL pp n We k)) (spL pp n We k)
theorem lO_f {pp : Nat → Nat → Nat} {n k left : Nat} (h : k < n) : lO pp n (n - k) left = mnf 1000000000 (spf pp n k left) left := lO_s h
theorem lO_fe {pp : Nat → Nat → Nat} {n r left : Nat} (h : lO pp n r left < 1000000000) : r ≤ left := by
  rcases (show left < r ∨ r ≤ left by omega) with q | q
  · rw [lO_no r left q] at h; omega
  · exact q
theorem sp_x1 {pp : Nat → Nat → Nat} {n k left : Nat} (hk : k < n) (h : lO pp n (n - k) left < 1000000000) : 1 ≤ amf 1000000000 (spf pp n k left) left ∧ amf 1000000000 (spf pp n k left) left ≤ left ∧ spf pp n k left (amf 1000000000 (spf pp n k left) left) = lO pp n (n - k) left ∧ ∀ w, 1 ≤ w → w < amf 1000000000 (spf pp n k left) left → ¬ spf pp n k left w = lO pp n (n - k) left := by
  rw [lO_f hk] at h ⊢
  rcases amf_ok (st := 1000000000) (f := spf pp n k left) left with ⟨h1, _⟩ | ⟨h1, h2, h3, h4, h5⟩
  · omega
  · exact ⟨h2, h3, h4, fun w a b => by have := h5 w a b; omega⟩
theorem sp_ok {pp : Nat → Nat → Nat} {n We : Nat} (hp : ∀ k w, k < n → w ≤ 99 → pp k w ≤ 400) (hn1 : 1 ≤ n) (hn6 : n ≤ 6) (hnW : n ≤ We) (h99 : We ≤ 99) : ∀ k, k ≤ n → n - k ≤ spL pp n We k ∧ spL pp n We k ≤ We ∧ lO pp n (n - k) (spL pp n We k) < 1000000000 := by
  intro k
  induction k with
  | zero =>
    intro _
    refine ⟨hnW, Nat.le_refl _, ?_⟩
    obtain ⟨r, rfl⟩ : ∃ r, n = r + 1 := ⟨n - 1, by omega⟩
    have h := lO_yes2 (n := r + 1) hn1 hp r We hnW h99
    show lO pp (r + 1) (r + 1) We < _
    omega
  | succ k ih =>
    intro hk
    obtain ⟨h1, h2, h3⟩ := ih (by omega)
    obtain ⟨q1, q2, q3, q4⟩ := sp_x1 (by omega) h3
    have h4 : lO pp n (n - (k + 1)) (spL pp n We (k + 1)) < 1000000000 := by
      have : spf pp n k (spL pp n We k) (amf 1000000000 (spf pp n k (spL pp n We k)) (spL pp n We k)) = lO pp n (n - (k + 1)) (spL pp n We (k + 1)) + pp k (amf 1000000000 (spf pp n k (spL pp n We k)) (spL pp n We k)) := rfl
      omega
    refine ⟨lO_fe h4, ?_, h4⟩
    have : spL pp n We (k + 1) = spL pp n We k - amf 1000000000 (spf pp n k (spL pp n We k)) (spL pp n We k) := rfl
    omega
theorem sp_x {pp : Nat → Nat → Nat} {n We : Nat} (hp : ∀ k w, k < n → w ≤ 99 → pp k w ≤ 400) (hn1 : 1 ≤ n) (hn6 : n ≤ 6) (hnW : n ≤ We) (h99 : We ≤ 99) {k : Nat} (hk : k < n) : 1 ≤ spX pp n We k ∧ spX pp n We k ≤ spL pp n We k ∧ lO pp n (n - (k + 1)) (spL pp n We k - spX pp n We k) + pp k (spX pp n We k) = lO pp n (n - k) (spL pp n We k) ∧ ∀ w, 1 ≤ w → w < spX pp n We k → ¬ lO pp n (n - (k + 1)) (spL pp n We k - w) + pp k w = lO pp n (n - k) (spL pp n We k) :=
  sp_x1 hk (sp_ok hp hn1 hn6 hnW h99 k (by omega)).2.2
theorem rng_tn {x : Int32} (h : rng x 1 200) : nI (tn x) = x ∧ tn x ≤ 200 := by
  obtain ⟨j, rfl, h1, h2⟩ := rng_nat h (by decide)
  rw [tn_nI (by omega)]
  exact ⟨rfl, by omega⟩
def spp (K : Nat → Nat) (lw j : Nat) (an : Nat → Nat) : Nat → Nat → Nat := fun k w => pys lw (shw (K j) w) (an k)
def spa (S : SSt) (sh i : Int32) : Nat → Nat := fun k => tn (S.2.2 (tn sh) (tn i + k))
theorem spp_le {K : Nat → Nat} {lw j : Nat} {an : Nat → Nat} {n : Nat} (ha : ∀ k, k < n → an k ≤ 200) : ∀ k w, k < n → w ≤ 99 → spp K lw j an k w ≤ 400 := fun k w hk hw => by
  have h1 := pys_le lw (shw (K j) w) (an k)
  have h2 := shw_le (k := K j) (w := w) hw
  have h3 := ha k hk
  show pys lw (shw (K j) w) (an k) ≤ 400
  omega
def s_split (K : Nat → Nat) (P : PSt) (lw : Nat) (S : SSt) (x w sh ln i n q : Int32) : Int32 × Int32 := if inN x P.1 ∧ rng sh 0 3 then (if rng ln 0 2 ∧ rng w 1 99 then (if flt (S.1 (tn sh)) (S.2.1 (tn sh)) ln i n = 0 then (if (rng n 1 6 ∧ n.toInt ≤ w.toInt) ∧ ∀ k, k < tn n → rng (S.2.2 (tn sh) (tn i + k)) 1 200 then (if rng q (-1) ((tn n - 1 : Nat) : Int) then (if q.toInt = -1 then nI (lO (spp K lw (tn x) (spa S sh i)) (tn n) (tn n) (tn w)) else nI (spX (spp K lw (tn x) (spa S sh i)) (tn n) (tn w) (tn q)), nI 0) else (-1, nI 0)) else (-2, nI 0)) else (fI (flt (S.1 (tn sh)) (S.2.1 (tn sh)) ln i n), nI (flt (S.1 (tn sh)) (S.2.1 (tn sh)) ln i n))) else (-2, nI 0)) else (-1, nI 0)
section SPL
variable {K : Nat → Nat} {P : PSt} {lw : Nat} {S : SSt} {x w sh ln i n q : Int32}
theorem s_split_1 (h : ¬ (inN x P.1 ∧ rng sh 0 3)) : s_split K P lw S x w sh ln i n q = (-1, nI 0) := by unfold s_split; rw [if_neg h]
theorem s_split_2 (h : inN x P.1 ∧ rng sh 0 3) (h2 : ¬ (rng ln 0 2 ∧ rng w 1 99)) : s_split K P lw S x w sh ln i n q = (-2, nI 0) := by unfold s_split; rw [if_pos h, if_neg h2]
theorem s_split_3 (h : inN x P.1 ∧ rng sh 0 3) (h2 : rng ln 0 2 ∧ rng w 1 99) {f : Nat} (hf : flt (S.1 (tn sh)) (S.2.1 (tn sh)) ln i n = f) (h3 : ¬ f = 0) : s_split K P lw S x w sh ln i n q = (fI f, nI f) := by unfold s_split; rw [if_pos h, if_pos h2, hf, if_neg h3]
theorem s_split_4 (h : inN x P.1 ∧ rng sh 0 3) (h2 : rng ln 0 2 ∧ rng w 1 99) (h3 : flt (S.1 (tn sh)) (S.2.1 (tn sh)) ln i n = 0) (h4 : ¬ ((rng n 1 6 ∧ n.toInt ≤ w.toInt) ∧ ∀ k, k < tn n → rng (S.2.2 (tn sh) (tn i + k)) 1 200)) : s_split K P lw S x w sh ln i n q = (-2, nI 0) := by unfold s_split; rw [if_pos h, if_pos h2, if_pos h3, if_neg h4]
theorem s_split_5 (h : inN x P.1 ∧ rng sh 0 3) (h2 : rng ln 0 2 ∧ rng w 1 99) (h3 : flt (S.1 (tn sh)) (S.2.1 (tn sh)) ln i n = 0) (h4 : (rng n 1 6 ∧ n.toInt ≤ w.toInt) ∧ ∀ k, k < tn n → rng (S.2.2 (tn sh) (tn i + k)) 1 200) (h5 : ¬ rng q (-1) ((tn n - 1 : Nat) : Int)) : s_split K P lw S x w sh ln i n q = (-1, nI 0) := by unfold s_split; rw [if_pos h, if_pos h2, if_pos h3, if_pos h4, if_neg h5]
theorem s_split_6 (h : inN x P.1 ∧ rng sh 0 3) (h2 : rng ln 0 2 ∧ rng w 1 99) (h3 : flt (S.1 (tn sh)) (S.2.1 (tn sh)) ln i n = 0) (h4 : (rng n 1 6 ∧ n.toInt ≤ w.toInt) ∧ ∀ k, k < tn n → rng (S.2.2 (tn sh) (tn i + k)) 1 200) (h5 : rng q (-1) ((tn n - 1 : Nat) : Int)) (h6 : q.toInt = -1) : s_split K P lw S x w sh ln i n q = (nI (lO (spp K lw (tn x) (spa S sh i)) (tn n) (tn n) (tn w)), nI 0) := by unfold s_split; rw [if_pos h, if_pos h2, if_pos h3, if_pos h4, if_pos h5, if_pos h6]
theorem s_split_7 (h : inN x P.1 ∧ rng sh 0 3) (h2 : rng ln 0 2 ∧ rng w 1 99) (h3 : flt (S.1 (tn sh)) (S.2.1 (tn sh)) ln i n = 0) (h4 : (rng n 1 6 ∧ n.toInt ≤ w.toInt) ∧ ∀ k, k < tn n → rng (S.2.2 (tn sh) (tn i + k)) 1 200) (h5 : rng q (-1) ((tn n - 1 : Nat) : Int)) (h6 : ¬ q.toInt = -1) : s_split K P lw S x w sh ln i n q = (nI (spX (spp K lw (tn x) (spa S sh i)) (tn n) (tn w) (tn q)), nI 0) := by unfold s_split; rw [if_pos h, if_pos h2, if_pos h3, if_pos h4, if_pos h5, if_neg h6]
end SPL
set_option maxHeartbeats 4000000 in
theorem c_MO_partOf (l : Launch) (D : va_G) (g : wG) (F : wF) (pc : Nat) (lf : Nat → Nat) (lw : Nat) (hPI : PI g pc lf) (hPM : PM g F pc lf) (hlw : lw ≤ 2) (h6 : F 58 6 = nI lw) (j We n q : Nat) (an : Nat → Nat) (hj : j < pc) (hW : We ≤ 99) (hn1 : 1 ≤ n) (hn6 : n ≤ 6) (hnW : n ≤ We) (hq : q < n) (han : ∀ k, k < n → an k ≤ 200 ∧ F 78 k = nI (an k)) (hT : ∀ t, t ≤ n → ∀ w, w ≤ We → F 77 (100 * t + w) = nI (lO (spp (wK g) lw j an) n (n - t) w)) : CR l y_MO_partOf b_MO_partOf 7 (Option.some Jvm.ClassFile.FieldType.int) 2 D g F [.ref (wad g 58), .int (nI j), .int (nI We), .int (nI q)] (.int (nI (spX (spp (wK g) lw j an) n We q))) := by
  refine CR.start rfl (Nat.le_of_ble_eq_true rfl) ?_
  intro p e s m args below meth c A ls hc hr hlocks hw hl
  have hl : lv_has ls 7 [(0, .ref (wad g 58)), (1, .int (nI j)), (2, .int (nI We)), (3, .int (nI q))] := hl
  have hx := hc.1
  have hb := hc.2.1
  obtain ⟨hpc6, hpcm, hm6, hpc0, hper⟩ := id hPI
  have hso := sp_ok (pp := (spp (wK g) lw j an)) (n := n) (We := We) (spp_le (fun k hk => (han k hk).1)) hn1 hn6 hnW hW
  have hsx := fun k (hk : k < n) => sp_x (pp := (spp (wK g) lw j an)) (n := n) (We := We) (spp_le (fun k hk => (han k hk).1)) hn1 hn6 hnW hW hk
  refine lv_iload_n hx hb d_MO_partOf_0 rfl (lv_at hl 2 rfl) ?_
  refine lv_istore (lv' := [(4, .int (nI We)), (0, .ref (wad g 58)), (1, .int (nI j)), (2, .int (nI We)), (3, .int (nI q))]) hx hb d_MO_partOf_1 hl (by decide) rfl (fun ls hl => ?_)
  refine lv_iconst (v := nI 0) hx hb d_MO_partOf_3 (by decide) ?_
  refine lv_istore (lv' := [(5, .int (nI 0)), (4, .int (nI We)), (0, .ref (wad g 58)), (1, .int (nI j)), (2, .int (nI We)), (3, .int (nI q))]) hx hb d_MO_partOf_4 hl (by decide) rfl (fun ls hl => ?_)
  refine lv_iconst (v := nI 0) hx hb d_MO_partOf_6 (by decide) ?_
  refine lv_istore (lv' := [(6, .int (nI 0)), (5, .int (nI 0)), (4, .int (nI We)), (0, .ref (wad g 58)), (1, .int (nI j)), (2, .int (nI We)), (3, .int (nI q))]) hx hb d_MO_partOf_7 hl (by decide) rfl (fun ls hl => ?_)
  have loop_9 : ∀ (n_9 : Nat) (t : Nat)  (ls : Array Slot), (q + 1 - t) < n_9 → (t ≤ q + 1) → Wd D g F A s.heap s.heap [] s → lv_has ls 7 [(0, .ref (wad g 58)), (1, .int (nI j)), (2, .int (nI We)), (3, .int (nI q)), (4, .int (nI (spL (spp (wK g) lw j an) n We t))), (5, .int (nI (lsw (spX (spp (wK g) lw j an) n We) t))), (6, .int (nI t))] → W p l e (rmc 2 0 0) s m args below meth c s.heap [] 0 0 (MQ below (k2_QcV (.int (nI (spX (spp (wK g) lw j an) n We q)))) args s 0 0 (fun _ => False)) (F0 m 9 ls []) := by
    intro n_9
    induction n_9 with
    | zero => intro t  ls hm; exact absurd hm (Nat.not_lt_zero _)
    | succ n_9 ih_9 =>
      intro t  ls hm_9 htq hw hl
      refine lv_iload hx hb d_MO_partOf_9 (lv_at hl 6 rfl) ?_
      refine lv_iload_n hx hb d_MO_partOf_11 rfl (lv_at hl 3 rfl) ?_
      refine q_icmp_gt (tgt := 82) hc (by omega) (by omega) d_MO_partOf_12 (by decide) (fun c_1 => ?_) (fun c_1 => ?_)
      · refine lv_iload hx hb d_MO_partOf_82 (lv_at hl 5 rfl) ?_
        exact R_i hc hr hlocks (by rw [show t = q + 1 by omega]; rfl) d_MO_partOf_84
      · obtain ⟨ho1, ho2, ho3⟩ := hso t (by omega)
        obtain ⟨hx1, hx2, hx3, hx4⟩ := hsx t (by omega)
        refine lv_iconst (v := nI 1) hx hb d_MO_partOf_15 (by decide) ?_
        refine lv_istore (lv' := [(5, .int (nI 1)), (0, .ref (wad g 58)), (1, .int (nI j)), (2, .int (nI We)), (3, .int (nI q)), (4, .int (nI (spL (spp (wK g) lw j an) n We t))), (6, .int (nI t))]) hx hb d_MO_partOf_16 hl (by decide) rfl (fun ls hl => ?_)
        have loop_18 : ∀ (n_18 : Nat) (v : Nat)  (ls : Array Slot), (99 - v) < n_18 → (v + 1 ≤ spX (spp (wK g) lw j an) n We t) → Wd D g F A s.heap s.heap [] s → lv_has ls 7 [(0, .ref (wad g 58)), (1, .int (nI j)), (2, .int (nI We)), (3, .int (nI q)), (4, .int (nI (spL (spp (wK g) lw j an) n We t))), (5, .int (nI (v + 1))), (6, .int (nI t))] → W p l e (rmc 2 0 0) s m args below meth c s.heap [] 0 0 (MQ below (k2_QcV (.int (nI (spX (spp (wK g) lw j an) n We q)))) args s 0 0 (fun _ => False)) (F0 m 18 ls []) := by
          intro n_18
          induction n_18 with
          | zero => intro v  ls hm; exact absurd hm (Nat.not_lt_zero _)
          | succ n_18 ih_18 =>
            intro v  ls hm_18 hv hw hl
            have hw9 := shw_le (k := wK g j) (w := v + 1) (by omega)
            have hpy : (spp (wK g) lw j an) t (v + 1) ≤ 400 := spp_le (fun k hk => (han k hk).1) t (v + 1) (by omega) (by omega)
            have hpy2 : pys lw (shw (wK g j) (v + 1)) (an t) ≤ 400 := hpy
            have hl1 := lO_le (pp := (spp (wK g) lw j an)) (n := n) (n - (t + 1)) (spL (spp (wK g) lw j an) n We t - (v + 1))
            have hl2 := lO_le (pp := (spp (wK g) lw j an)) (n := n) (n - t) (spL (spp (wK g) lw j an) n We t)
            refine lv_aload_n hx hb d_MO_partOf_18 rfl (lv_at hl 0 rfl) ?_
            refine gf_MO_64 hc hw d_MO_partOf_19 ?_
            refine lv_bipush (v := nI 100) hx hb d_MO_partOf_22 (by decide) ?_
            refine lv_iload hx hb d_MO_partOf_24 (lv_at hl 6 rfl) ?_
            refine q_imul hc d_MO_partOf_26 ?_
            refine lv_bipush (v := nI 100) hx hb d_MO_partOf_27 (by decide) ?_
            refine q_iadd hc d_MO_partOf_29 ?_
            refine lv_iload hx hb d_MO_partOf_30 (lv_at hl 4 rfl) ?_
            refine q_iadd hc d_MO_partOf_32 ?_
            refine lv_iload hx hb d_MO_partOf_33 (lv_at hl 5 rfl) ?_
            refine q_isub hc (by omega) d_MO_partOf_35 ?_
            refine r_iald hc hw (h := 77) (n := 700) (i := (((100 * t) + 100) + (spL (spp (wK g) lw j an) n We t)) - (v + 1)) (fun _ => rfl) (by omega) (by omega) (by decide) d_MO_partOf_36 (v := .int (nI (lO (spp (wK g) lw j an) n (n - (t + 1)) (spL (spp (wK g) lw j an) n We t - (v + 1))))) (congrArg Value.int (by rw [show (((100 * t) + 100) + (spL (spp (wK g) lw j an) n We t)) - (v + 1) = 100 * (t + 1) + (spL (spp (wK g) lw j an) n We t - (v + 1)) by omega]; exact hT (t + 1) (by omega) _ (by omega))) ?_
            refine lv_aload_n hx hb d_MO_partOf_37 rfl (lv_at hl 0 rfl) ?_
            refine lv_iload_n hx hb d_MO_partOf_38 rfl (lv_at hl 1 rfl) ?_
            refine lv_iload hx hb d_MO_partOf_39 (lv_at hl 6 rfl) ?_
            refine lv_iload hx hb d_MO_partOf_41 (lv_at hl 5 rfl) ?_
            refine kRV hc hw lk_MO_176 (As := [.int (nI j), .int (nI t), .int (nI (v + 1))]) (rest := [.int (nI (lO (spp (wK g) lw j an) n (n - (t + 1)) (spL (spp (wK g) lw j an) n We t - (v + 1))))]) (c_MO_partPays l D g _ pc lf lw hPI hPM hlw h6 j (t) (v + 1) (an (t)) hj (by omega) (by omega) (han (t) (by omega)).1 (han (t) (by omega)).2) (rc_MO hw) ⟨Nat.le_of_ble_eq_true rfl, Nat.le_of_ble_eq_true rfl⟩ ⟨Nat.le_refl _, Nat.le_refl _⟩ rfl hl rfl (Nat.le_of_ble_eq_true rfl) d_MO_partOf_43 ?_
            refine q_iadd hc d_MO_partOf_46 ?_
            refine lv_aload_n hx hb d_MO_partOf_47 rfl (lv_at hl 0 rfl) ?_
            refine gf_MO_64 hc hw d_MO_partOf_48 ?_
            refine lv_bipush (v := nI 100) hx hb d_MO_partOf_51 (by decide) ?_
            refine lv_iload hx hb d_MO_partOf_53 (lv_at hl 6 rfl) ?_
            refine q_imul hc d_MO_partOf_55 ?_
            refine lv_iload hx hb d_MO_partOf_56 (lv_at hl 4 rfl) ?_
            refine q_iadd hc d_MO_partOf_58 ?_
            refine r_iald hc hw (h := 77) (n := 700) (i := (100 * t) + (spL (spp (wK g) lw j an) n We t)) (fun _ => rfl) (by omega) (by omega) (by decide) d_MO_partOf_59 (v := .int (nI (lO (spp (wK g) lw j an) n (n - t) (spL (spp (wK g) lw j an) n We t)))) (congrArg Value.int (hT t (by omega) _ (by omega))) ?_
            refine q_icmp_eq (tgt := 69) hc (by omega) (by omega) d_MO_partOf_60 (by decide) (fun c_2 => ?_) (fun c_2 => ?_)
            · have hvx : v + 1 = spX (spp (wK g) lw j an) n We t := by rcases (show v + 1 < spX (spp (wK g) lw j an) n We t ∨ v + 1 = spX (spp (wK g) lw j an) n We t by omega) with e9 | e9; exact absurd c_2 (hx4 (v + 1) (by omega) e9); exact e9
              refine lv_iload hx hb d_MO_partOf_69 (lv_at hl 4 rfl) ?_
              refine lv_iload hx hb d_MO_partOf_71 (lv_at hl 5 rfl) ?_
              refine q_isub hc (by omega) d_MO_partOf_73 ?_
              refine lv_istore (lv' := [(4, .int (nI ((spL (spp (wK g) lw j an) n We t) - (v + 1)))), (0, .ref (wad g 58)), (1, .int (nI j)), (2, .int (nI We)), (3, .int (nI q)), (5, .int (nI (v + 1))), (6, .int (nI t))]) hx hb d_MO_partOf_74 hl (by decide) rfl (fun ls hl => ?_)
              refine lv_iinc (v := nI (t + 1)) (lv' := [(6, .int (nI (t + 1))), (4, .int (nI ((spL (spp (wK g) lw j an) n We t) - (v + 1)))), (0, .ref (wad g 58)), (1, .int (nI j)), (2, .int (nI We)), (3, .int (nI q)), (5, .int (nI (v + 1)))]) hx hb d_MO_partOf_76 hl (k := 6) rfl (nI_inc1 _) (by decide) rfl (fun ls hl => ?_)
              refine lv_goto (tgt := 9) hx hb d_MO_partOf_79 (by decide) ?_
              have hl : lv_has ls 7 [(6, .int (nI (t + 1))), (4, .int (nI (spL (spp (wK g) lw j an) n We (t + 1)))), (0, .ref (wad g 58)), (1, .int (nI j)), (2, .int (nI We)), (3, .int (nI q)), (5, .int (nI (v + 1)))] := by rw [show spL (spp (wK g) lw j an) n We (t + 1) = (spL (spp (wK g) lw j an) n We t) - (v + 1) from by (show spL (spp (wK g) lw j an) n We t - spX (spp (wK g) lw j an) n We t = _; rw [← hvx])]; exact hl
              have hl : lv_has ls 7 [(6, .int (nI (t + 1))), (4, .int (nI (spL (spp (wK g) lw j an) n We (t + 1)))), (0, .ref (wad g 58)), (1, .int (nI j)), (2, .int (nI We)), (3, .int (nI q)), (5, .int (nI (lsw (spX (spp (wK g) lw j an) n We) (t + 1))))] := by rw [show lsw (spX (spp (wK g) lw j an) n We) (t + 1) = v + 1 from by exact hvx.symm]; exact hl
              exact ih_9 (t + 1) _ (by omega) (by omega) hw (lv_sub hl [2, 3, 4, 5, 1, 6, 0] rfl)
            · have hvn : v + 2 ≤ spX (spp (wK g) lw j an) n We t := by rcases (show v + 2 ≤ spX (spp (wK g) lw j an) n We t ∨ v + 1 = spX (spp (wK g) lw j an) n We t by omega) with e9 | e9; exact e9; exact absurd (by rw [e9]; exact hx3) c_2
              refine lv_iinc (v := nI ((v + 1) + 1)) (lv' := [(5, .int (nI ((v + 1) + 1))), (0, .ref (wad g 58)), (1, .int (nI j)), (2, .int (nI We)), (3, .int (nI q)), (4, .int (nI (spL (spp (wK g) lw j an) n We t))), (6, .int (nI t))]) hx hb d_MO_partOf_63 hl (k := 5) rfl (nI_inc1 _) (by decide) rfl (fun ls hl => ?_)
              refine lv_goto (tgt := 18) hx hb d_MO_partOf_66 (by decide) ?_
              exact ih_18 (v + 1) _ (by omega) (by omega) hw (lv_sub hl [1, 2, 3, 4, 5, 0, 6] rfl)
        have hl : lv_has ls 7 [(5, .int (nI (0 + 1))), (0, .ref (wad g 58)), (1, .int (nI j)), (2, .int (nI We)), (3, .int (nI q)), (4, .int (nI (spL (spp (wK g) lw j an) n We t))), (6, .int (nI t))] := by rw [show 0 + 1 = 1 from by rfl]; exact hl
        exact loop_18 _ 0 _ (Nat.lt_succ_self _) (by omega) hw (lv_sub hl [1, 2, 3, 4, 5, 0, 6] rfl)
  have hl : lv_has ls 7 [(6, .int (nI 0)), (5, .int (nI 0)), (4, .int (nI (spL (spp (wK g) lw j an) n We 0))), (0, .ref (wad g 58)), (1, .int (nI j)), (2, .int (nI We)), (3, .int (nI q))] := by rw [show spL (spp (wK g) lw j an) n We 0 = We from by rfl]; exact hl
  have hl : lv_has ls 7 [(6, .int (nI 0)), (5, .int (nI (lsw (spX (spp (wK g) lw j an) n We) 0))), (4, .int (nI (spL (spp (wK g) lw j an) n We 0))), (0, .ref (wad g 58)), (1, .int (nI j)), (2, .int (nI We)), (3, .int (nI q))] := by rw [show lsw (spX (spp (wK g) lw j an) n We) 0 = 0 from by rfl]; exact hl
  exact loop_9 _ 0 _ (Nat.lt_succ_self _) (by omega) hw (lv_sub hl [3, 4, 5, 6, 2, 1, 0] rfl)
set_option maxHeartbeats 4000000 in
theorem c_MO_split (l : Launch) (D : va_G) (g : wG) (F : wF) (pc : Nat) (lf : Nat → Nat) (lw : Nat) (cn : Nat) (fr to hv dy : Nat → Nat) (an af : Nat → Option Nat) (ln : Nat → Option Nat) (sz : Nat → Nat) (ce : Nat → Nat → Int32) (tr ft : Int32) (hG : GI g (pc, lf) lw (cn, fr, to, hv, dy, an, af) (ln, sz, ce)) (hMI : MI g F (pc, lf) lw (cn, fr, to, hv, dy, an, af) (ln, sz, ce) tr ft) (zp0 zp1 zp2 zp3 zp4 zp5 zp6 : Int32) : CW l y_MO_split b_MO_split 10 (Option.some Jvm.ClassFile.FieldType.int) 5 0 0 D g F [.ref (wad g 58), .int zp0, .int zp1, .int zp2, .int zp3, .int zp4, .int zp5, .int zp6] (fun v g2 u => v = some (.int (s_split (wK g) (pc, lf) lw (ln, sz, ce) zp0 zp1 zp2 zp3 zp4 zp5 zp6).1) ∧ g = g2 ∧ MI g u (pc, lf) lw (cn, fr, to, hv, dy, an, af) (ln, sz, ce) tr (s_split (wK g) (pc, lf) lw (ln, sz, ce) zp0 zp1 zp2 zp3 zp4 zp5 zp6).2 ∧ FrO 58 78 F u) := by
  refine CW.start rfl (Nat.le_of_ble_eq_true rfl) ?_
  intro p e s m args below meth c A ls hc hr hlocks hw hl
  have hl : lv_has ls 10 [(0, .ref (wad g 58)), (1, .int zp0), (2, .int zp1), (3, .int zp2), (4, .int zp3), (5, .int zp4), (6, .int zp5), (7, .int zp6)] := hl
  have hx := hc.1
  have hb := hc.2.1
  obtain ⟨hpc6, hpcm, hm6, hpc0, hper⟩ : PI g pc lf := hG.1
  have hlw : lw ≤ 2 := hG.2.1
  have hI : LI pc cn fr to hv dy an af := hG.2.2.1
  have hcn := hI.1
  have hSI : SI ln sz := hG.2.2.2
  have hPM : PM g F pc lf := hMI.1
  have hM : LM F cn fr to hv dy an af := hMI.2.2.1
  have hSM : SM F ln sz ce := hMI.2.2.2.1
  have hK : ∀ q, q < pc → F 62 q = nI (wK g q) ∧ wK g q ≤ 2 := fun q hq => ⟨(hPM.2 q hq).1, (hper q hq).1⟩
  refine lv_aload_n hx hb d_MO_split_0 rfl (lv_at hl 0 rfl) ?_
  refine lv_iconst (v := nI 0) hx hb d_MO_split_1 (by decide) ?_
  refine pf_MO_70 hc hw d_MO_split_2 (fun H locs hw => ?_)
  have hM0 := MI_ft hMI (nI 0)
  have hSM0 : SM _ ln sz ce := hM0.2.2.2.1
  refine lv_aload_n hx hb d_MO_split_5 rfl (lv_at hl 0 rfl) ?_
  refine lv_iload_n hx hb d_MO_split_6 rfl (lv_at hl 1 rfl) ?_
  refine kRV hc hw lk_MO_116 (As := [.int zp0]) (rest := []) (c_MO_isPerson l D g _ pc ((u2_i (by decide)).trans (hPM.1)) hpc6 (zp0)) (rc_MO hw) ⟨Nat.le_of_ble_eq_true rfl, Nat.le_of_ble_eq_true rfl⟩ ⟨Nat.le_refl _, Nat.le_refl _⟩ rfl hl rfl (Nat.le_of_ble_eq_true rfl) d_MO_split_7 ?_
  refine b_if_eq (tgt := 20) hc d_MO_split_10 (by decide) (fun c_1 => ?_) (fun c_1 => ?_)
  · try unfold inN at c_1
    refine lv_iconst (v := (-1)) hx hb d_MO_split_20 (by decide) ?_
    exact W_i hc hw hr hlocks (by rw [s_split_1 (by simp only [inN, rng]; omega)]; exact ⟨rfl, rfl, MI_ft hMI _, (by repeat (first | exact FrO.rf _ _ _ | refine FrO.up ?_ (by omega) (by omega)))⟩) d_MO_split_21
  · obtain ⟨zj0, rfl, zj0_1⟩ := inN_nat c_1
    have zj0_e := nI_tI (j := zj0) (by omega)
    have zj0_t := tn_nI (j := zj0) (by omega)
    try unfold inN at c_1
    refine lv_iload_n hx hb d_MO_split_13 rfl (lv_at hl 3 rfl) ?_
    refine kRS hc hw lk_MO_83 (As := [.int zp2]) (rest := []) (c_MO_isSheet l D g _ (zp2)) ⟨Nat.le_of_ble_eq_true rfl, Nat.le_of_ble_eq_true rfl⟩ ⟨Nat.le_refl _, Nat.le_refl _⟩ rfl hl rfl (Nat.le_of_ble_eq_true rfl) d_MO_split_14 ?_
    refine b_if_ne (tgt := 22) hc d_MO_split_17 (by decide) (fun c_2 => ?_) (fun c_2 => ?_)
    · obtain ⟨zj2, rfl, zj2_1, zj2_2⟩ := rng_nat c_2 (by decide)
      have zj2_e := nI_tI (j := zj2) (by omega)
      have zj2_t := tn_nI (j := zj2) (by omega)
      try unfold rng at c_2
      refine lv_iload hx hb d_MO_split_22 (lv_at hl 4 rfl) ?_
      refine kRS hc hw lk_MO_87 (As := [.int zp3]) (rest := []) (c_MO_isSort l D g _ (zp3)) ⟨Nat.le_of_ble_eq_true rfl, Nat.le_of_ble_eq_true rfl⟩ ⟨Nat.le_refl _, Nat.le_refl _⟩ rfl hl rfl (Nat.le_of_ble_eq_true rfl) d_MO_split_24 ?_
      refine b_if_eq (tgt := 40) hc d_MO_split_27 (by decide) (fun c_3 => ?_) (fun c_3 => ?_)
      · try unfold rng at c_3
        refine lv_bipush (v := (-2)) hx hb d_MO_split_40 (by decide) ?_
        exact W_i hc hw hr hlocks (by rw [s_split_2 (by simp only [inN, rng]; omega) (by simp only [inN, rng]; omega)]; exact ⟨rfl, rfl, MI_ft hMI _, (by repeat (first | exact FrO.rf _ _ _ | refine FrO.up ?_ (by omega) (by omega)))⟩) d_MO_split_42
      · obtain ⟨zj3, rfl, zj3_1, zj3_2⟩ := rng_nat c_3 (by decide)
        have zj3_e := nI_tI (j := zj3) (by omega)
        have zj3_t := tn_nI (j := zj3) (by omega)
        try unfold rng at c_3
        refine lv_iload_n hx hb d_MO_split_30 rfl (lv_at hl 2 rfl) ?_
        refine lv_iconst (v := nI 1) hx hb d_MO_split_31 (by decide) ?_
        refine lv_bipush (v := nI 99) hx hb d_MO_split_32 (by decide) ?_
        refine kRS hc hw lk_MO_76 (As := [.int zp1, .int (nI 1), .int (nI 99)]) (rest := []) (c_MO_within l D g _ (zp1) (nI 1) (nI 99) 1 99 (by decide) (by decide)) ⟨Nat.le_of_ble_eq_true rfl, Nat.le_of_ble_eq_true rfl⟩ ⟨Nat.le_refl _, Nat.le_refl _⟩ rfl hl rfl (Nat.le_of_ble_eq_true rfl) d_MO_split_34 ?_
        refine b_if_ne (tgt := 43) hc d_MO_split_37 (by decide) (fun c_4 => ?_) (fun c_4 => ?_)
        · obtain ⟨zj1, rfl, zj1_1, zj1_2⟩ := rng_nat c_4 (by decide)
          have zj1_e := nI_tI (j := zj1) (by omega)
          have zj1_t := tn_nI (j := zj1) (by omega)
          try unfold rng at c_4
          refine lv_aload_n hx hb d_MO_split_43 rfl (lv_at hl 0 rfl) ?_
          refine lv_iload_n hx hb d_MO_split_44 rfl (lv_at hl 3 rfl) ?_
          refine lv_iload hx hb d_MO_split_45 (lv_at hl 4 rfl) ?_
          refine lv_iload hx hb d_MO_split_47 (lv_at hl 5 rfl) ?_
          refine lv_iload hx hb d_MO_split_49 (lv_at hl 6 rfl) ?_
          refine kRV hc hw lk_MO_90 (As := [.int (nI zj2), .int (nI zj3), .int zp4, .int zp5]) (rest := []) (c_MO_against l D g _ zj2 (by omega) (ln zj2) (hSI zj2 (by omega)).2 (sz zj2) (hSI zj2 (by omega)).1 ((u2_h (by decide)).trans (hSM zj2 (by omega)).1) ((u2_h (by decide)).trans (hSM zj2 (by omega)).2.1) (nI zj3) (zp4) (zp5)) (rc_MO hw) ⟨Nat.le_of_ble_eq_true rfl, Nat.le_of_ble_eq_true rfl⟩ ⟨Nat.le_refl _, Nat.le_refl _⟩ rfl hl rfl (Nat.le_of_ble_eq_true rfl) d_MO_split_51 ?_
          refine lv_istore (lv' := [(8, .int (nI (flt (ln zj2) (sz zj2) (nI zj3) zp4 zp5))), (0, .ref (wad g 58)), (1, .int (nI zj0)), (2, .int (nI zj1)), (3, .int (nI zj2)), (4, .int (nI zj3)), (5, .int zp4), (6, .int zp5), (7, .int zp6)]) hx hb d_MO_split_54 hl (by decide) rfl (fun ls hl => ?_)
          refine lv_iload hx hb d_MO_split_56 (lv_at hl 0 rfl) ?_
          refine q_if_eq (tgt := 68) hc (Nat.lt_of_le_of_lt (flt_le _ _ _ _ _) (by decide)) d_MO_split_58 (by decide) (fun c_5 => ?_) (fun c_5 => ?_)
          · have hfl := c_5
            obtain ⟨hz1, hz2⟩ := flt_ok hfl
            have hsz := (hSI zj2 (by omega)).1
            obtain ⟨zj4, rfl, zj4_1, zj4_2⟩ := rng_nat (x := zp4) (a := 0) (b := (sz zj2 : Int)) hz1 (by decide)
            have zj4_e := nI_tI (j := zj4) (by omega)
            have zj4_t := tn_nI (j := zj4) (by omega)
            rw [zj4_e] at hz2
            obtain ⟨zj5, rfl, zj5_1, zj5_2⟩ := rng_nat (x := zp5) (a := 0) (b := ((sz zj2 : Int) - (zj4 : Int))) hz2 (by decide)
            have zj5_e := nI_tI (j := zj5) (by omega)
            have zj5_t := tn_nI (j := zj5) (by omega)
            refine lv_iload hx hb d_MO_split_68 (lv_at hl 7 rfl) ?_
            refine lv_iconst (v := nI 1) hx hb d_MO_split_70 (by decide) ?_
            refine lv_bipush (v := nI 6) hx hb d_MO_split_71 (by decide) ?_
            refine kRS hc hw lk_MO_76 (As := [.int (nI zj5), .int (nI 1), .int (nI 6)]) (rest := []) (c_MO_within l D g _ (nI zj5) (nI 1) (nI 6) 1 6 (by decide) (by decide)) ⟨Nat.le_of_ble_eq_true rfl, Nat.le_of_ble_eq_true rfl⟩ ⟨Nat.le_refl _, Nat.le_refl _⟩ rfl hl rfl (Nat.le_of_ble_eq_true rfl) d_MO_split_73 ?_
            refine b_if_eq (tgt := 85) hc d_MO_split_76 (by decide) (fun c_6 => ?_) (fun c_6 => ?_)
            · try unfold rng at c_6
              refine lv_bipush (v := (-2)) hx hb d_MO_split_85 (by decide) ?_
              exact W_i hc hw hr hlocks (by rw [s_split_4 (by simp only [inN, rng]; omega) (by simp only [inN, rng]; omega) (by rw [zj2_t]; exact hfl) (fun h9 => by have h8 := h9.1; simp only [inN, rng] at h8; omega)]; exact ⟨rfl, rfl, MI_ft hMI _, (by repeat (first | exact FrO.rf _ _ _ | refine FrO.up ?_ (by omega) (by omega)))⟩) d_MO_split_87
            · try unfold rng at c_6
              refine lv_iload hx hb d_MO_split_79 (lv_at hl 7 rfl) ?_
              refine lv_iload_n hx hb d_MO_split_81 rfl (lv_at hl 3 rfl) ?_
              refine q_icmp_le (tgt := 88) hc (by omega) (by omega) d_MO_split_82 (by decide) (fun c_7 => ?_) (fun c_7 => ?_)
              · refine lv_iconst (v := nI 0) hx hb d_MO_split_88 (by decide) ?_
                refine lv_istore (lv' := [(9, .int (nI 0)), (8, .int (nI (flt (ln zj2) (sz zj2) (nI zj3) (nI zj4) (nI zj5)))), (0, .ref (wad g 58)), (1, .int (nI zj0)), (2, .int (nI zj1)), (3, .int (nI zj2)), (4, .int (nI zj3)), (5, .int (nI zj4)), (6, .int (nI zj5)), (7, .int zp6)]) hx hb d_MO_split_89 hl (by decide) rfl (fun ls hl => ?_)
                have loop_91 : ∀ (n_91 : Nat) (k : Nat) (F1 : wF) (H : Heap) (locs : List Loc) (ls : Array Slot), (zj5 - k) < n_91 → (k ≤ zj5) → (∀ z, z < k → rng (ce zj2 (zj4 + z)) 1 200 ∧ F1 78 z = ce zj2 (zj4 + z)) → (∀ a z, a ≠ 78 → F1 a z = (u2 F 58 0 (nI 0)) a z) → Wd D g F1 A s.heap H locs s → lv_has ls 10 [(0, .ref (wad g 58)), (1, .int (nI zj0)), (2, .int (nI zj1)), (3, .int (nI zj2)), (4, .int (nI zj3)), (5, .int (nI zj4)), (6, .int (nI zj5)), (7, .int zp6), (8, .int (nI (flt (ln zj2) (sz zj2) (nI zj3) (nI zj4) (nI zj5)))), (9, .int (nI k))] → W p l e (rmc 5 0 0) s m args below meth c H locs 0 0 (MQ below (Qw (fun v g2 u => v = some (.int (s_split (wK g) (pc, lf) lw (ln, sz, ce) (nI zj0) (nI zj1) (nI zj2) (nI zj3) (nI zj4) (nI zj5) zp6).1) ∧ g = g2 ∧ MI g u (pc, lf) lw (cn, fr, to, hv, dy, an, af) (ln, sz, ce) tr (s_split (wK g) (pc, lf) lw (ln, sz, ce) (nI zj0) (nI zj1) (nI zj2) (nI zj3) (nI zj4) (nI zj5) zp6).2 ∧ FrO 58 78 F u) (Bw D A) A) args s 0 0 A) (F0 m 91 ls []) := by
                  intro n_91
                  induction n_91 with
                  | zero => intro k F1 H locs ls hm; exact absurd hm (Nat.not_lt_zero _)
                  | succ n_91 ih_91 =>
                    intro k F1 H locs ls hm_91 hk hk2 zhF1 hw hl
                    refine lv_iload hx hb d_MO_split_91 (lv_at hl 9 rfl) ?_
                    refine lv_iload hx hb d_MO_split_93 (lv_at hl 6 rfl) ?_
                    refine q_icmp_ge (tgt := 146) hc (by omega) (by omega) d_MO_split_95 (by decide) (fun c_8 => ?_) (fun c_8 => ?_)
                    · have hkn : k = zj5 := by omega
                      have han : ∀ z, z < zj5 → (fun k => tn (ce zj2 (zj4 + k))) z ≤ 200 ∧ F1 78 z = nI ((fun k => tn (ce zj2 (zj4 + k))) z) := fun z hz => ⟨(rng_tn (hk2 z (by omega)).1).2, (hk2 z (by omega)).2.trans (rng_tn (hk2 z (by omega)).1).1.symm⟩
                      refine lv_iload hx hb d_MO_split_146 (lv_at hl 7 rfl) ?_
                      refine lv_iconst (v := (-1)) hx hb d_MO_split_148 (by decide) ?_
                      refine lv_iload hx hb d_MO_split_149 (lv_at hl 6 rfl) ?_
                      refine lv_iconst (v := nI 1) hx hb d_MO_split_151 (by decide) ?_
                      refine q_isub hc (by omega) d_MO_split_152 ?_
                      refine kRS hc hw lk_MO_76 (As := [.int zp6, .int ((-1)), .int (nI (zj5 - 1))]) (rest := []) (c_MO_within l D g _ (zp6) ((-1)) (nI (zj5 - 1)) (-1) ((zj5 - 1 : Nat) : Int) (by decide) (nI_tI (by omega))) ⟨Nat.le_of_ble_eq_true rfl, Nat.le_of_ble_eq_true rfl⟩ ⟨Nat.le_refl _, Nat.le_refl _⟩ rfl hl rfl (Nat.le_of_ble_eq_true rfl) d_MO_split_153 ?_
                      refine b_if_ne (tgt := 161) hc d_MO_split_156 (by decide) (fun c_9 => ?_) (fun c_9 => ?_)
                      · try unfold rng at c_9
                        refine lv_aload_n hx hb d_MO_split_161 rfl (lv_at hl 0 rfl) ?_
                        refine lv_iload_n hx hb d_MO_split_162 rfl (lv_at hl 1 rfl) ?_
                        refine lv_iload_n hx hb d_MO_split_163 rfl (lv_at hl 2 rfl) ?_
                        refine lv_iload hx hb d_MO_split_164 (lv_at hl 6 rfl) ?_
                        refine kWV hc hw lk_MO_179 (h := 58) (As := [.int (nI zj0), .int (nI zj1), .int (nI zj5)]) (rest := []) (c_MO_layParts l D g _ pc lf lw hG.1 (PM_c hM0.1 (zhF1 58 5 (by decide)) (funext fun z => zhF1 62 z (by decide)) (funext fun z => zhF1 63 z (by decide))) hlw ((zhF1 58 6 (by decide)).trans hM0.2.1) zj0 zj1 zj5 (fun k => tn (ce zj2 (zj4 + k))) (by omega) (by omega) (by omega) (by omega) han) (rc_MO hw) ⟨Nat.le_of_ble_eq_true rfl, Nat.le_of_ble_eq_true rfl⟩ ⟨Nat.le_refl _, Nat.le_refl _⟩ rfl hl rfl (Nat.le_of_ble_eq_true rfl) d_MO_split_166 (fun v_10 g_11 F_12 H locs zhp_13 hw => ?_)
                        obtain ⟨rfl, rfl, hlT, zhF2⟩ := zhp_13
                        have hl0 := hlT 0 (by omega) zj1 (by omega)
                        refine lv_iload hx hb d_MO_split_169 (lv_at hl 7 rfl) ?_
                        refine lv_iconst (v := (-1)) hx hb d_MO_split_171 (by decide) ?_
                        refine u_icmp_ne (tgt := 184) (X := (zp6).toInt) (Y := (-1)) hc (rfl) (by decide) d_MO_split_172 (by decide) (fun c_14 => ?_) (fun c_14 => ?_)
                        · obtain ⟨zj6, rfl, zj6_1, zj6_2⟩ := rng_nat (x := zp6) (a := 0) (b := ((zj5 - 1 : Nat) : Int)) ⟨by omega, by omega⟩ (by decide)
                          have zj6_e := nI_tI (j := zj6) (by omega)
                          have zj6_t := tn_nI (j := zj6) (by omega)
                          refine lv_aload_n hx hb d_MO_split_184 rfl (lv_at hl 0 rfl) ?_
                          refine lv_iload_n hx hb d_MO_split_185 rfl (lv_at hl 1 rfl) ?_
                          refine lv_iload_n hx hb d_MO_split_186 rfl (lv_at hl 2 rfl) ?_
                          refine lv_iload hx hb d_MO_split_187 (lv_at hl 7 rfl) ?_
                          refine kRV hc hw lk_MO_183 (h := 58) (As := [.int (nI zj0), .int (nI zj1), .int (nI zj6)]) (rest := []) (c_MO_partOf l D g _ pc lf lw hG.1 (PM_c (PM_c hM0.1 (zhF1 58 5 (by decide)) (funext fun z => zhF1 62 z (by decide)) (funext fun z => zhF1 63 z (by decide))) (zhF2 58 5 (by decide)) (funext fun z => zhF2 62 z (by decide)) (funext fun z => zhF2 63 z (by decide))) hlw ((zhF2 58 6 (by decide)).trans ((zhF1 58 6 (by decide)).trans hM0.2.1)) zj0 zj1 zj5 zj6 (fun k => tn (ce zj2 (zj4 + k))) (by omega) (by omega) (by omega) (by omega) (by omega) (by omega) (fun k hk => ⟨(han k hk).1, (zhF2 78 k (by decide)).trans (han k hk).2⟩) hlT) (rc_MO hw) ⟨Nat.le_of_ble_eq_true rfl, Nat.le_of_ble_eq_true rfl⟩ ⟨Nat.le_refl _, Nat.le_refl _⟩ rfl hl rfl (Nat.le_of_ble_eq_true rfl) d_MO_split_189 ?_
                          exact W_i hc hw hr hlocks (by rw [s_split_7 (by simp only [inN, rng]; omega) (by simp only [inN, rng]; omega) (by rw [zj2_t]; exact hfl) (by simp only [inN, rng, zj2_t, zj4_t, zj5_t]; exact ⟨by omega, fun z hz => (hk2 z (by omega)).1⟩) (by rw [zj5_t]; simp only [rng]; omega) (by omega)]; refine ⟨congrArg (fun z => some (Value.int (nI z))) ?_, rfl, MI_x hM0 (fun a z h => (zhF2 a z (by omega)).trans (zhF1 a z (by omega))), (fun a ha => funext fun z => (zhF2 a z (by omega)).trans ((zhF1 a z (by omega)).trans (u2_ij2 (by omega))))⟩; rw [zj0_t, zj1_t, zj5_t, zj6_t]; exact congrArg (fun q => spX (spp (wK g) lw zj0 q) zj5 zj1 zj6) (funext fun z => by show _ = tn (ce (tn (nI zj2)) (tn (nI zj4) + z)); rw [zj2_t, zj4_t])) d_MO_split_192
                        · refine lv_aload_n hx hb d_MO_split_175 rfl (lv_at hl 0 rfl) ?_
                          refine gf_MO_64 hc hw d_MO_split_176 ?_
                          refine lv_iload_n hx hb d_MO_split_179 rfl (lv_at hl 2 rfl) ?_
                          refine r_iald hc hw (h := 77) (n := 700) (i := zj1) (fun _ => rfl) (by omega) (by omega) (by decide) d_MO_split_180 (v := .int (nI (lO (spp (wK g) lw zj0 (fun k => tn (ce zj2 (zj4 + k)))) zj5 zj5 zj1))) (congrArg Value.int ((show _ = _ from (by rw [show 100 * 0 + zj1 = zj1 by omega] at hl0; exact hl0)))) ?_
                          refine lv_goto (tgt := 192) hx hb d_MO_split_181 (by decide) ?_
                          exact W_i hc hw hr hlocks (by rw [s_split_6 (by simp only [inN, rng]; omega) (by simp only [inN, rng]; omega) (by rw [zj2_t]; exact hfl) (by simp only [inN, rng, zj2_t, zj4_t, zj5_t]; exact ⟨by omega, fun z hz => (hk2 z (by omega)).1⟩) (by rw [zj5_t]; simp only [rng]; omega) (by omega)]; refine ⟨congrArg (fun z => some (Value.int (nI z))) ?_, rfl, MI_x hM0 (fun a z h => (zhF2 a z (by omega)).trans (zhF1 a z (by omega))), (fun a ha => funext fun z => (zhF2 a z (by omega)).trans ((zhF1 a z (by omega)).trans (u2_ij2 (by omega))))⟩; rw [zj0_t, zj1_t, zj5_t]; exact congrArg (fun q => lO (spp (wK g) lw zj0 q) zj5 zj5 zj1) (funext fun z => by show _ = tn (ce (tn (nI zj2)) (tn (nI zj4) + z)); rw [zj2_t, zj4_t])) d_MO_split_192
                      · try unfold rng at c_9
                        refine lv_iconst (v := (-1)) hx hb d_MO_split_159 (by decide) ?_
                        exact W_i hc hw hr hlocks (by rw [s_split_5 (by simp only [inN, rng]; omega) (by simp only [inN, rng]; omega) (by rw [zj2_t]; exact hfl) (by simp only [inN, rng, zj2_t, zj4_t, zj5_t]; exact ⟨by omega, fun z hz => (hk2 z (by omega)).1⟩) (by rw [zj5_t]; simp only [rng]; omega)]; exact ⟨rfl, rfl, MI_x hM0 (fun a z h => zhF1 a z (by omega)), (fun a ha => funext fun z => (zhF1 a z (by omega)).trans (u2_ij2 (by omega)))⟩) d_MO_split_160
                    · refine lv_aload_n hx hb d_MO_split_98 rfl (lv_at hl 0 rfl) ?_
                      refine gf_MO_67 hc hw d_MO_split_99 ?_
                      refine lv_iload hx hb d_MO_split_102 (lv_at hl 9 rfl) ?_
                      refine lv_aload_n hx hb d_MO_split_104 rfl (lv_at hl 0 rfl) ?_
                      refine gf_MO_16 hc hw d_MO_split_105 ?_
                      refine lv_bipush (v := nI 40) hx hb d_MO_split_108 (by decide) ?_
                      refine lv_iload_n hx hb d_MO_split_110 rfl (lv_at hl 3 rfl) ?_
                      refine q_imul hc d_MO_split_111 ?_
                      refine lv_iload hx hb d_MO_split_112 (lv_at hl 5 rfl) ?_
                      refine q_iadd hc d_MO_split_114 ?_
                      refine lv_iload hx hb d_MO_split_115 (lv_at hl 9 rfl) ?_
                      refine q_iadd hc d_MO_split_117 ?_
                      refine r_iald hc hw (h := 61) (n := 160) (i := ((40 * zj2) + zj4) + k) (fun _ => rfl) (by omega) (by omega) (by decide) d_MO_split_118 (v := .int (ce zj2 (zj4 + k))) (congrArg Value.int (by rw [show ((40 * zj2) + zj4) + k = 40 * zj2 + (zj4 + k) by omega]; exact (zhF1 61 _ (by decide)).trans ((u2_h (by decide)).trans ((hSM zj2 (by omega)).2.2 (zj4 + k) (by omega))))) ?_
                      refine r_iast hc hw (h := 78) (n := 6) (i := k) (fun _ => rfl) (by omega) (by omega) (by decide) d_MO_split_119 (fun H locs hw => ?_)
                      refine lv_aload_n hx hb d_MO_split_120 rfl (lv_at hl 0 rfl) ?_
                      refine gf_MO_67 hc hw d_MO_split_121 ?_
                      refine lv_iload hx hb d_MO_split_124 (lv_at hl 9 rfl) ?_
                      refine r_iald hc hw (h := 78) (n := 6) (i := k) (fun _ => rfl) (by omega) (by omega) (by decide) d_MO_split_126 (v := .int (ce zj2 (zj4 + k))) (congrArg Value.int (u2_same _ _ _ _)) ?_
                      refine lv_iconst (v := nI 1) hx hb d_MO_split_127 (by decide) ?_
                      refine lv_sipush (v := nI 200) hx hb d_MO_split_128 (by decide) ?_
                      refine kRS hc hw lk_MO_76 (As := [.int (ce zj2 (zj4 + k)), .int (nI 1), .int (nI 200)]) (rest := []) (c_MO_within l D g _ (ce zj2 (zj4 + k)) (nI 1) (nI 200) 1 200 (by decide) (by decide)) ⟨Nat.le_of_ble_eq_true rfl, Nat.le_of_ble_eq_true rfl⟩ ⟨Nat.le_refl _, Nat.le_refl _⟩ rfl hl rfl (Nat.le_of_ble_eq_true rfl) d_MO_split_131 ?_
                      refine b_if_ne (tgt := 140) hc d_MO_split_134 (by decide) (fun c_15 => ?_) (fun c_15 => ?_)
                      · try unfold rng at c_15
                        have hok : rng (ce zj2 (zj4 + k)) 1 200 := c_15
                        refine lv_iinc (v := nI (k + 1)) (lv' := [(9, .int (nI (k + 1))), (0, .ref (wad g 58)), (1, .int (nI zj0)), (2, .int (nI zj1)), (3, .int (nI zj2)), (4, .int (nI zj3)), (5, .int (nI zj4)), (6, .int (nI zj5)), (7, .int zp6), (8, .int (nI (flt (ln zj2) (sz zj2) (nI zj3) (nI zj4) (nI zj5))))]) hx hb d_MO_split_140 hl (k := 9) rfl (nI_inc1 _) (by decide) rfl (fun ls hl => ?_)
                        refine lv_goto (tgt := 91) hx hb d_MO_split_143 (by decide) ?_
                        exact ih_91 (k + 1) _ _ _ _ (by omega) (by omega) (fun z hz => by rcases (show z < k ∨ z = k by omega) with e9 | e9; exact ⟨(hk2 z e9).1, (u2_i (by omega)).trans (hk2 z e9).2⟩; (rw [e9]; exact ⟨hok, u2_same _ _ _ _⟩)) (fun a z h1 => (u2_h h1).trans (zhF1 a z h1)) hw (lv_sub hl [1, 2, 3, 4, 5, 6, 7, 8, 9, 0] rfl)
                      · try unfold rng at c_15
                        have zhnok : ¬ rng (ce zj2 (zj4 + k)) 1 200 := c_15
                        refine lv_bipush (v := (-2)) hx hb d_MO_split_137 (by decide) ?_
                        exact W_i hc hw hr hlocks (by rw [s_split_4 (by simp only [inN, rng]; omega) (by simp only [inN, rng]; omega) (by rw [zj2_t]; exact hfl) (fun h9 => by have h8 := h9.2 k (by rw [zj5_t]; omega); rw [zj2_t, zj4_t] at h8; exact zhnok h8)]; exact ⟨rfl, rfl, MI_x hM0 (fun a z h => (u2_h (by omega)).trans (zhF1 a z (by omega))), (fun a ha => funext fun z => (u2_h (by omega)).trans ((zhF1 a z (by omega)).trans (u2_ij2 (by omega))))⟩) d_MO_split_139
                exact loop_91 _ 0 _ _ _ _ (Nat.lt_succ_self _) (by omega) (fun z hz => absurd hz (Nat.not_lt_zero z)) (fun _ _ _ => rfl) hw (lv_sub hl [2, 3, 4, 5, 6, 7, 8, 9, 1, 0] rfl)
              · refine lv_bipush (v := (-2)) hx hb d_MO_split_85 (by decide) ?_
                exact W_i hc hw hr hlocks (by rw [s_split_4 (by simp only [inN, rng]; omega) (by simp only [inN, rng]; omega) (by rw [zj2_t]; exact hfl) (fun h9 => by have h8 := h9.1; simp only [inN, rng] at h8; omega)]; exact ⟨rfl, rfl, MI_ft hMI _, (by repeat (first | exact FrO.rf _ _ _ | refine FrO.up ?_ (by omega) (by omega)))⟩) d_MO_split_87
          · have hfl := c_5
            refine lv_aload_n hx hb d_MO_split_61 rfl (lv_at hl 1 rfl) ?_
            refine lv_iload hx hb d_MO_split_62 (lv_at hl 0 rfl) ?_
            refine kWV hc hw lk_MO_94 (h := 58) (As := [.int (nI (flt (ln zj2) (sz zj2) (nI zj3) zp4 zp5))]) (rest := []) (c_MO_fails l D g _ (flt (ln zj2) (sz zj2) (nI zj3) zp4 zp5)) (rc_MO hw) ⟨Nat.le_of_ble_eq_true rfl, Nat.le_of_ble_eq_true rfl⟩ ⟨Nat.le_refl _, Nat.le_refl _⟩ rfl hl rfl (Nat.le_of_ble_eq_true rfl) d_MO_split_64 (fun v_16 g_17 F_18 H locs zhp_19 hw => ?_)
            obtain ⟨rfl, rfl, rfl⟩ := zhp_19
            exact W_i hc hw hr hlocks (by rw [s_split_3 (f := (flt (ln zj2) (sz zj2) (nI zj3) zp4 zp5)) (by simp only [inN, rng]; omega) (by simp only [inN, rng]; omega) (by rw [zj2_t]) hfl]; exact ⟨rfl, rfl, MI_ft (MI_ft hMI _) _, (by repeat (first | exact FrO.rf _ _ _ | refine FrO.up ?_ (by omega) (by omega)))⟩) d_MO_split_67
        · try unfold rng at c_4
          refine lv_bipush (v := (-2)) hx hb d_MO_split_40 (by decide) ?_
          exact W_i hc hw hr hlocks (by rw [s_split_2 (by simp only [inN, rng]; omega) (by simp only [inN, rng]; omega)]; exact ⟨rfl, rfl, MI_ft hMI _, (by repeat (first | exact FrO.rf _ _ _ | refine FrO.up ?_ (by omega) (by omega)))⟩) d_MO_split_42
    · try unfold rng at c_2
      refine lv_iconst (v := (-1)) hx hb d_MO_split_20 (by decide) ?_
      exact W_i hc hw hr hlocks (by rw [s_split_1 (by simp only [inN, rng]; omega)]; exact ⟨rfl, rfl, MI_ft hMI _, (by repeat (first | exact FrO.rf _ _ _ | refine FrO.up ?_ (by omega) (by omega)))⟩) d_MO_split_21
