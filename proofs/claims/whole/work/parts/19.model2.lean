/-! printed by wip/gen/meths8.py: the model, the best, laws, weights, sheets -/
theorem bsN_t {q : Nat → Nat} {n : Nat} (h : q (n + 2) < (bsN q n).2) : bsN q (n + 1) = (n + 2, q (n + 2)) := by show (if _ then _ else _) = _; rw [if_pos h]
theorem bsN_f {q : Nat → Nat} {n : Nat} (h : (bsN q n).2 ≤ q (n + 2)) : bsN q (n + 1) = bsN q n := by show (if _ then _ else _) = _; rw [if_neg (by omega)]
theorem oI_no {a : Option Nat} (h : ∀ x, a = some x → x ≤ 2) : (oI a).toInt = -9 ↔ a = none := (oI_toI (n := 3) (by decide) (fun x e => Nat.lt_succ_of_le (h x e))).1
theorem oI_sm {a : Option Nat} (h : ∀ x, a = some x → x ≤ 2) (k : Nat) : (oI a).toInt = (k : Int) ↔ a = some k := (oI_toI (n := 3) (by decide) (fun x e => Nat.lt_succ_of_le (h x e))).2 k
theorem oI_mI {a : Option Nat} (h : ¬ a = none) : (mI a).toInt = (oI a).toInt := by
  cases a with
  | none => exact absurd rfl h
  | some x => rfl
theorem oI_inj {a b : Option Nat} (ha : ∀ x, a = some x → x ≤ 2) (hb : ∀ x, b = some x → x ≤ 2) (h : (oI a).toInt = (oI b).toInt) : a = b := by
  cases b with
  | none => exact (oI_no ha).mp (h.trans (by decide))
  | some x => exact (oI_sm ha x).mp (h.trans ((oI_sm hb x).mpr rfl))
theorem SM_1 {F : wF} {ln : Nat → Option Nat} {sz : Nat → Nat} {ce : Nat → Nat → Int32} (h : SM F ln sz ce) {k : Nat} (hk : k < 4) {u : wF} {x : Option Nat} {n : Nat} {f : Nat → Int32} (h1 : u 59 k = oI x) (h2 : u 60 k = nI n) (h3 : ∀ i, i < 40 → u 61 (40 * k + i) = f i)
    (ho : ∀ a i, ¬ (i = k ∧ (a = 59 ∨ a = 60)) → ¬ (a = 61 ∧ 40 * k ≤ i ∧ i < 40 * k + 40) → u a i = F a i) : SM u (va_up ln k x) (va_up sz k n) (va_up ce k f) := by
  intro j hj
  by_cases hjk : j = k
  · subst hjk
    rw [va_up_self, va_up_self, va_up_self]
    exact ⟨h1, h2, h3⟩
  · obtain ⟨a1, a2, a3⟩ := h j hj
    rw [va_up_ne _ _ hjk, va_up_ne _ _ hjk, va_up_ne _ _ hjk, ho 59 j (by omega) (by omega), ho 60 j (by omega) (by omega)]
    exact ⟨a1, a2, fun i hi => by rw [ho 61 (40 * j + i) (by omega) (by omega)]; exact a3 i hi⟩
theorem SM_2 {F : wF} {ln : Nat → Option Nat} {sz : Nat → Nat} {ce : Nat → Nat → Int32} (h : SM F ln sz ce) {k : Nat} (hk : k < 4) {u : wF} {f : Nat → Int32} (h3 : ∀ i, i < 40 → u 61 (40 * k + i) = f i) (ho : ∀ a i, ¬ (a = 61 ∧ 40 * k ≤ i ∧ i < 40 * k + 40) → u a i = F a i) : SM u ln sz (va_up ce k f) := by
  have := SM_1 (u := u) h hk (x := ln k) (n := sz k) (f := f) (by rw [ho _ _ (by omega)]; exact (h k hk).1) (by rw [ho _ _ (by omega)]; exact (h k hk).2.1) h3 (fun a i _ ha => ho a i ha)
  rw [up_id, up_id] at this
  exact this
theorem SM_3 {F : wF} {ln : Nat → Option Nat} {sz : Nat → Nat} {ce : Nat → Nat → Int32} (h : SM F ln sz ce) {k : Nat} (hk : k < 4) {x : Int32} {y : Option Nat} (hx : x = oI y) : SM (u2 F 59 k x) (va_up ln k y) sz ce := by
  have := SM_1 (u := u2 F 59 k x) h hk (x := y) (n := sz k) (f := ce k) (by rw [u2_same, hx]) (by rw [u2_h (by decide)]; exact (h k hk).2.1) (fun i hi => by rw [u2_h (by decide)]; exact (h k hk).2.2 i hi) (fun a i h1 _ => by simp only [u2]; rw [if_neg (by omega)])
  rw [up_id, up_id] at this
  exact this
theorem SM_put {F : wF} {ln : Nat → Option Nat} {sz : Nat → Nat} {ce : Nat → Nat → Int32} (h : SM F ln sz ce) {k i : Nat} (hk : k < 4) (hi : i < 40) {x : Int32} : SM (u2 F 61 (40 * k + i) x) ln sz (va_up ce k (va_up (ce k) i x)) := by
  refine SM_2 h hk (fun z hz => ?_) (fun a z ha => by simp only [u2]; rw [if_neg (by omega)])
  by_cases q : z = i
  · subst q; rw [u2_same, va_up_self]
  · rw [u2_i (by omega), va_up_ne _ _ q]; exact (h k hk).2.2 z hz
/-- cells lo .. hi of a copy are there -/
def cpF (F : wF) (k b i j lo hi : Nat) : wF := fun a z => if a = 61 ∧ 40 * b + j + lo ≤ z ∧ z < 40 * b + j + hi then F 61 (40 * k + i + (z - (40 * b + j))) else F a z
theorem cpF_0 (F : wF) (k b i j lo : Nat) : cpF F k b i j lo lo = F := by
  funext a z; unfold cpF; rw [if_neg (by omega)]
theorem cpF_up {F : wF} {k b i j hi : Nat} : u2 (cpF F k b i j 0 hi) 61 (40 * b + j + hi) (F 61 (40 * k + i + hi)) = cpF F k b i j 0 (hi + 1) := by
  funext a z
  unfold cpF u2
  by_cases h : a = 61 ∧ z = 40 * b + j + hi
  · rw [if_pos h, if_pos (by omega), h.2, show 40 * b + j + hi - (40 * b + j) = hi by omega]
  · rw [if_neg h]
    dsimp only
    by_cases h2 : a = 61 ∧ 40 * b + j + 0 ≤ z ∧ z < 40 * b + j + hi
    · rw [if_pos h2, if_pos (by omega)]
    · rw [if_neg h2, if_neg (by omega)]
theorem cpF_dn {F : wF} {k b i j lo hi : Nat} (hl : lo < hi) : u2 (cpF F k b i j (lo + 1) hi) 61 (40 * b + j + lo) (F 61 (40 * k + i + lo)) = cpF F k b i j lo hi := by
  funext a z
  unfold cpF u2
  by_cases h : a = 61 ∧ z = 40 * b + j + lo
  · rw [if_pos h, if_pos (by omega), h.2, show 40 * b + j + lo - (40 * b + j) = lo by omega]
  · rw [if_neg h]
    dsimp only
    by_cases h2 : a = 61 ∧ 40 * b + j + (lo + 1) ≤ z ∧ z < 40 * b + j + hi
    · rw [if_pos h2, if_pos (by omega)]
    · rw [if_neg h2, if_neg (by omega)]
theorem cpF_at {F : wF} {k b i j lo hi z : Nat} (h : ¬ (40 * b + j + lo ≤ z ∧ z < 40 * b + j + hi)) : cpF F k b i j lo hi 61 z = F 61 z := by
  unfold cpF; rw [if_neg (by omega)]
theorem cpF_h {F : wF} {k b i j lo hi a z : Nat} (h : a ≠ 61) : cpF F k b i j lo hi a z = F a z := by
  unfold cpF; rw [if_neg (by omega)]
theorem SM_cp {F : wF} {ln : Nat → Option Nat} {sz : Nat → Nat} {ce : Nat → Nat → Int32} (h : SM F ln sz ce) {k b : Nat} (hk : k < 4) (hb : b < 4) {i j n : Nat} (h1 : i + n ≤ 40) (h2 : j + n ≤ 40) : SM (cpF F k b i j 0 n) ln sz (va_up ce b (va_cpy (ce k) (ce b) i j n)) := by
  refine SM_2 h hb (fun z hz => ?_) (fun a z ha => by unfold cpF; rw [if_neg (by omega)])
  unfold cpF va_cpy
  by_cases q : j ≤ z ∧ z < j + n
  · rw [if_pos (by omega), if_pos q, show 40 * k + i + (40 * b + z - (40 * b + j)) = 40 * k + (i + (z - j)) by omega]
    exact (h k hk).2.2 _ (by omega)
  · rw [if_neg (by omega), if_neg q]
    exact (h b hb).2.2 z hz
set_option maxHeartbeats 4000000 in
theorem c_MO_findBest (l : Launch) (D : va_G) (g : wG) (F : wF) (pc : Nat) (lf : Nat → Nat) (lw : Nat) (hPI : PI g pc lf) (hPM : PM g F pc lf) (hlw : lw ≤ 2) (h6 : F 58 6 = nI lw) (j sc : Nat) (hj : j < pc) (hsc : sc ≤ 200) : CW l y_MO_findBest b_MO_findBest 5 (Option.none) 1 0 0 D g F [.ref (wad g 58), .int (nI j), .int (nI sc)] (fun v g2 u => v = none ∧ g = g2 ∧ u 58 22 = nI (bsN (fun v => pys lw (shw (wK g j) v) sc) (lf j - 1)).1 ∧ u 58 23 = nI (bsN (fun v => pys lw (shw (wK g j) v) sc) (lf j - 1)).2 ∧ ∀ k i, ¬ (k = 58 ∧ (i = 22 ∨ i = 23)) → u k i = F k i) := by
  refine CW.start rfl (Nat.le_of_ble_eq_true rfl) ?_
  intro p e s m args below meth c A ls hc hr hlocks hw hl
  have hl : lv_has ls 5 [(0, .ref (wad g 58)), (1, .int (nI j)), (2, .int (nI sc))] := hl
  have hx := hc.1
  have hb := hc.2.1
  obtain ⟨hpc6, hpcm, hm6, hpc0, hper⟩ := hPI
  obtain ⟨hj1, hj2, hj3⟩ := hper j hj
  have zhs0 := shw_le (k := wK g j) (w := 1) (by decide)
  refine lv_aload_n hx hb d_MO_findBest_0 rfl (lv_at hl 0 rfl) ?_
  refine lv_bipush (v := (-9)) hx hb d_MO_findBest_1 (by decide) ?_
  refine pf_MO_150 hc hw d_MO_findBest_3 (fun H locs hw => ?_)
  refine lv_iconst (v := nI 1) hx hb d_MO_findBest_6 (by decide) ?_
  refine lv_istore_n (lv' := [(3, .int (nI 1)), (0, .ref (wad g 58)), (1, .int (nI j)), (2, .int (nI sc))]) hx hb d_MO_findBest_7 rfl hl (by decide) rfl (fun ls hl => ?_)
  refine lv_iload_n hx hb d_MO_findBest_8 rfl (lv_at hl 0 rfl) ?_
  refine lv_aload_n hx hb d_MO_findBest_9 rfl (lv_at hl 1 rfl) ?_
  refine gf_MO_22 hc hw d_MO_findBest_10 ?_
  refine lv_iload_n hx hb d_MO_findBest_13 rfl (lv_at hl 2 rfl) ?_
  refine r_iald hc hw (h := 63) (n := 6) (i := j) (fun _ => rfl) (by omega) (by omega) (by decide) d_MO_findBest_14 (v := .int (nI (lf j))) (congrArg Value.int ((u2_h (by decide)).trans ((hPM.2 (j) (by omega)).2))) ?_
  refine q_icmp_gt (tgt := 66) hc (by omega) (by omega) d_MO_findBest_15 (by decide) (fun c_1 => ?_) (fun c_1 => ?_)
  · exact W_v hc hw hr hlocks ((by exfalso; omega)) d_MO_findBest_66
  · refine lv_aload_n hx hb d_MO_findBest_18 rfl (lv_at hl 1 rfl) ?_
    refine lv_aload_n hx hb d_MO_findBest_19 rfl (lv_at hl 1 rfl) ?_
    refine lv_iload_n hx hb d_MO_findBest_20 rfl (lv_at hl 2 rfl) ?_
    refine lv_iload_n hx hb d_MO_findBest_21 rfl (lv_at hl 0 rfl) ?_
    refine kRV hc hw lk_MO_119 (As := [.int (nI j), .int (nI 1)]) (rest := [.ref (wad g 58)]) (c_MO_shows l D g _ (j) (1) (wK g (j)) (by omega) (by omega) ((u2_h (by decide)).trans ((hPM.2 (j) (by omega)).1)) (hper (j) (by omega)).1) (rc_MO hw) ⟨Nat.le_of_ble_eq_true rfl, Nat.le_of_ble_eq_true rfl⟩ ⟨Nat.le_refl _, Nat.le_refl _⟩ rfl hl rfl (Nat.le_of_ble_eq_true rfl) d_MO_findBest_22 ?_
    refine lv_iload_n hx hb d_MO_findBest_25 rfl (lv_at hl 3 rfl) ?_
    refine kRV hc hw lk_MO_136 (As := [.int (nI (shw (wK g j) 1)), .int (nI sc)]) (rest := []) (c_MO_pays l D g _ lw (shw (wK g j) 1) (sc) (by omega) (by omega) hlw ((u2_i (by decide)).trans (h6))) (rc_MO hw) ⟨Nat.le_of_ble_eq_true rfl, Nat.le_of_ble_eq_true rfl⟩ ⟨Nat.le_refl _, Nat.le_refl _⟩ rfl hl rfl (Nat.le_of_ble_eq_true rfl) d_MO_findBest_26 ?_
    refine lv_istore (lv' := [(4, .int (nI (pys lw (shw (wK g j) 1) sc))), (3, .int (nI 1)), (0, .ref (wad g 58)), (1, .int (nI j)), (2, .int (nI sc))]) hx hb d_MO_findBest_29 hl (by decide) rfl (fun ls hl => ?_)
    refine lv_aload_n hx hb d_MO_findBest_31 rfl (lv_at hl 2 rfl) ?_
    refine gf_MO_150 hc hw d_MO_findBest_32 (v := .int ((-9))) (congrArg Value.int (u2_same _ _ _ _)) ?_
    refine lv_bipush (v := (-9)) hx hb d_MO_findBest_35 (by decide) ?_
    refine u_icmp_eq (tgt := 49) (X := (-9)) (Y := (-9)) hc (by decide) (by decide) d_MO_findBest_37 (by decide) (fun c_2 => ?_) (fun c_2 => ?_)
    · refine lv_aload_n hx hb d_MO_findBest_49 rfl (lv_at hl 2 rfl) ?_
      refine lv_iload_n hx hb d_MO_findBest_50 rfl (lv_at hl 1 rfl) ?_
      refine pf_MO_150 hc hw d_MO_findBest_51 (fun H locs hw => ?_)
      refine lv_aload_n hx hb d_MO_findBest_54 rfl (lv_at hl 2 rfl) ?_
      refine lv_iload hx hb d_MO_findBest_55 (lv_at hl 0 rfl) ?_
      refine pf_MO_153 hc hw d_MO_findBest_57 (fun H locs hw => ?_)
      refine lv_iinc (v := nI 2) (lv' := [(3, .int (nI 2)), (4, .int (nI (pys lw (shw (wK g j) 1) sc))), (0, .ref (wad g 58)), (1, .int (nI j)), (2, .int (nI sc))]) hx hb d_MO_findBest_60 hl (k := 1) rfl (show nI 1 + Int32.ofInt 1 = nI 2 from by decide) (by decide) rfl (fun ls hl => ?_)
      refine lv_goto (tgt := 8) hx hb d_MO_findBest_63 (by decide) ?_
      have loop_8 : ∀ (n_8 : Nat) (i : Nat) (F1 : wF) (H : Heap) (locs : List Loc) (ls : Array Slot), (lf j - i) < n_8 → (i + 1 ≤ lf j) → (F1 58 22 = nI (bsN (fun v => pys lw (shw (wK g j) v) sc) i).1) → (F1 58 23 = nI (bsN (fun v => pys lw (shw (wK g j) v) sc) i).2) → (∀ k i, ¬ (k = 58 ∧ (i = 22 ∨ i = 23)) → F1 k i = F k i) → Wd D g F1 A s.heap H locs s → lv_has ls 5 [(0, .ref (wad g 58)), (1, .int (nI j)), (2, .int (nI sc)), (3, .int (nI (i + 2)))] → W p l e (rmc 1 0 0) s m args below meth c H locs 0 0 (MQ below (Qw (fun v g2 u => v = none ∧ g = g2 ∧ u 58 22 = nI (bsN (fun v => pys lw (shw (wK g j) v) sc) (lf j - 1)).1 ∧ u 58 23 = nI (bsN (fun v => pys lw (shw (wK g j) v) sc) (lf j - 1)).2 ∧ ∀ k i, ¬ (k = 58 ∧ (i = 22 ∨ i = 23)) → u k i = F k i) (Bw D A) A) args s 0 0 A) (F0 m 8 ls []) := by
        intro n_8
        induction n_8 with
        | zero => intro i F1 H locs ls hm; exact absurd hm (Nat.not_lt_zero _)
        | succ n_8 ih_8 =>
          intro i F1 H locs ls hm_8 hi hb1 hb2 zhF1 hw hl
          obtain ⟨zhq1, zhq2, zhq3, zhq4⟩ := bsN_le (q := (fun v => pys lw (shw (wK g j) v) sc)) (B := 400) i (fun v hv => by have h1 := pys_le lw (shw (wK g j) v) sc; have h2 := shw_le (k := wK g j) (w := v) (by omega); show pys lw (shw (wK g j) v) sc ≤ 400; omega)
          have zhq9 := pys_le lw (shw (wK g j) (i + 2)) sc
          have zhq8 := shw_le (k := wK g j) (w := i + 2) (by omega)
          refine lv_iload_n hx hb d_MO_findBest_8 rfl (lv_at hl 3 rfl) ?_
          refine lv_aload_n hx hb d_MO_findBest_9 rfl (lv_at hl 0 rfl) ?_
          refine gf_MO_22 hc hw d_MO_findBest_10 ?_
          refine lv_iload_n hx hb d_MO_findBest_13 rfl (lv_at hl 1 rfl) ?_
          refine r_iald hc hw (h := 63) (n := 6) (i := j) (fun _ => rfl) (by omega) (by omega) (by decide) d_MO_findBest_14 (v := .int (nI (lf j))) (congrArg Value.int ((zhF1 63 (j) (by omega)).trans (hPM.2 (j) (by omega)).2)) ?_
          refine q_icmp_gt (tgt := 66) hc (by omega) (by omega) d_MO_findBest_15 (by decide) (fun c_3 => ?_) (fun c_3 => ?_)
          · exact W_v hc hw hr hlocks (⟨rfl, rfl, by rw [show lf j - 1 = i by omega]; exact hb1, by rw [show lf j - 1 = i by omega]; exact hb2, zhF1⟩) d_MO_findBest_66
          · refine lv_aload_n hx hb d_MO_findBest_18 rfl (lv_at hl 0 rfl) ?_
            refine lv_aload_n hx hb d_MO_findBest_19 rfl (lv_at hl 0 rfl) ?_
            refine lv_iload_n hx hb d_MO_findBest_20 rfl (lv_at hl 1 rfl) ?_
            refine lv_iload_n hx hb d_MO_findBest_21 rfl (lv_at hl 3 rfl) ?_
            refine kRV hc hw lk_MO_119 (As := [.int (nI j), .int (nI (i + 2))]) (rest := [.ref (wad g 58)]) (c_MO_shows l D g _ (j) (i + 2) (wK g (j)) (by omega) (by omega) ((zhF1 62 (j) (by omega)).trans (hPM.2 (j) (by omega)).1) (hper (j) (by omega)).1) (rc_MO hw) ⟨Nat.le_of_ble_eq_true rfl, Nat.le_of_ble_eq_true rfl⟩ ⟨Nat.le_refl _, Nat.le_refl _⟩ rfl hl rfl (Nat.le_of_ble_eq_true rfl) d_MO_findBest_22 ?_
            refine lv_iload_n hx hb d_MO_findBest_25 rfl (lv_at hl 2 rfl) ?_
            refine kRV hc hw lk_MO_136 (As := [.int (nI (shw (wK g j) (i + 2))), .int (nI sc)]) (rest := []) (c_MO_pays l D g _ lw (shw (wK g j) (i + 2)) (sc) (by omega) (by omega) hlw ((zhF1 58 6 (by decide)).trans h6)) (rc_MO hw) ⟨Nat.le_of_ble_eq_true rfl, Nat.le_of_ble_eq_true rfl⟩ ⟨Nat.le_refl _, Nat.le_refl _⟩ rfl hl rfl (Nat.le_of_ble_eq_true rfl) d_MO_findBest_26 ?_
            refine lv_istore (lv' := [(4, .int (nI (pys lw (shw (wK g j) (i + 2)) sc))), (0, .ref (wad g 58)), (1, .int (nI j)), (2, .int (nI sc)), (3, .int (nI (i + 2)))]) hx hb d_MO_findBest_29 hl (by decide) rfl (fun ls hl => ?_)
            refine lv_aload_n hx hb d_MO_findBest_31 rfl (lv_at hl 1 rfl) ?_
            refine gf_MO_150 hc hw d_MO_findBest_32 (v := .int (nI ((bsN (fun v => pys lw (shw (wK g j) v) sc) i).1))) (congrArg Value.int (hb1)) ?_
            refine lv_bipush (v := (-9)) hx hb d_MO_findBest_35 (by decide) ?_
            refine u_icmp_eq (tgt := 49) (X := (((bsN (fun v => pys lw (shw (wK g j) v) sc) i).1 : Nat) : Int)) (Y := (-9)) hc (nI_tI (by omega)) (by decide) d_MO_findBest_37 (by decide) (fun c_4 => ?_) (fun c_4 => ?_)
            · first | exact absurd rfl c_4 | exact absurd c_4 (by omega)
            · refine lv_iload hx hb d_MO_findBest_40 (lv_at hl 0 rfl) ?_
              refine lv_aload_n hx hb d_MO_findBest_42 rfl (lv_at hl 1 rfl) ?_
              refine gf_MO_153 hc hw d_MO_findBest_43 (v := .int (nI ((bsN (fun v => pys lw (shw (wK g j) v) sc) i).2))) (congrArg Value.int (hb2)) ?_
              refine q_icmp_ge (tgt := 60) hc (by omega) (by omega) d_MO_findBest_46 (by decide) (fun c_5 => ?_) (fun c_5 => ?_)
              · have hbs := bsN_f (q := (fun v => pys lw (shw (wK g j) v) sc)) (n := i) c_5
                refine lv_iinc (v := nI ((i + 2) + 1)) (lv' := [(3, .int (nI ((i + 2) + 1))), (4, .int (nI (pys lw (shw (wK g j) (i + 2)) sc))), (0, .ref (wad g 58)), (1, .int (nI j)), (2, .int (nI sc))]) hx hb d_MO_findBest_60 hl (k := 4) rfl (nI_inc1 _) (by decide) rfl (fun ls hl => ?_)
                refine lv_goto (tgt := 8) hx hb d_MO_findBest_63 (by decide) ?_
                have hl : lv_has ls 5 [(3, .int (nI (i + 1 + 2))), (4, .int (nI (pys lw (shw (wK g j) (i + 2)) sc))), (0, .ref (wad g 58)), (1, .int (nI j)), (2, .int (nI sc))] := by rw [show i + 1 + 2 = (i + 2) + 1 from by omega]; exact hl
                exact ih_8 (i + 1) _ _ _ _ (by omega) (by omega) (by rw [hbs]; exact hb1) (by rw [hbs]; exact hb2) (zhF1) hw (lv_sub hl [2, 3, 4, 0] rfl)
              · have hbs := bsN_t (q := (fun v => pys lw (shw (wK g j) v) sc)) (n := i) c_5
                refine lv_aload_n hx hb d_MO_findBest_49 rfl (lv_at hl 1 rfl) ?_
                refine lv_iload_n hx hb d_MO_findBest_50 rfl (lv_at hl 4 rfl) ?_
                refine pf_MO_150 hc hw d_MO_findBest_51 (fun H locs hw => ?_)
                refine lv_aload_n hx hb d_MO_findBest_54 rfl (lv_at hl 1 rfl) ?_
                refine lv_iload hx hb d_MO_findBest_55 (lv_at hl 0 rfl) ?_
                refine pf_MO_153 hc hw d_MO_findBest_57 (fun H locs hw => ?_)
                refine lv_iinc (v := nI ((i + 2) + 1)) (lv' := [(3, .int (nI ((i + 2) + 1))), (4, .int (nI (pys lw (shw (wK g j) (i + 2)) sc))), (0, .ref (wad g 58)), (1, .int (nI j)), (2, .int (nI sc))]) hx hb d_MO_findBest_60 hl (k := 4) rfl (nI_inc1 _) (by decide) rfl (fun ls hl => ?_)
                refine lv_goto (tgt := 8) hx hb d_MO_findBest_63 (by decide) ?_
                have hl : lv_has ls 5 [(3, .int (nI (i + 1 + 2))), (4, .int (nI (pys lw (shw (wK g j) (i + 2)) sc))), (0, .ref (wad g 58)), (1, .int (nI j)), (2, .int (nI sc))] := by rw [show i + 1 + 2 = (i + 2) + 1 from by omega]; exact hl
                exact ih_8 (i + 1) _ _ _ _ (by omega) (by omega) (by rw [hbs]; exact (u2_i (by decide)).trans (u2_same _ _ _ _)) (by rw [hbs]; exact u2_same _ _ _ _) (fun k i h => by simp only [u2]; rw [if_neg (by omega), if_neg (by omega)]; exact zhF1 k i h) hw (lv_sub hl [2, 3, 4, 0] rfl)
      have hl : lv_has ls 5 [(3, .int (nI (0 + 2))), (4, .int (nI (pys lw (shw (wK g j) 1) sc))), (0, .ref (wad g 58)), (1, .int (nI j)), (2, .int (nI sc))] := by rw [show 0 + 2 = 2 from by rfl]; exact hl
      exact loop_8 _ 0 _ _ _ _ (Nat.lt_succ_self _) (by omega) ((u2_i (by decide)).trans (u2_same _ _ _ _)) (u2_same _ _ _ _) (fun k i h => by simp only [u2]; repeat (rw [if_neg (by omega)])) hw (lv_sub hl [2, 3, 4, 0] rfl)
    · exact absurd c_2 (by decide)
set_option maxHeartbeats 4000000 in
theorem c_MO_best (l : Launch) (D : va_G) (g : wG) (F : wF) (pc : Nat) (lf : Nat → Nat) (lw : Nat) (cn : Nat) (fr to hv dy : Nat → Nat) (an af : Nat → Option Nat) (ln : Nat → Option Nat) (sz : Nat → Nat) (ce : Nat → Nat → Int32) (tr ft : Int32) (hG : GI g (pc, lf) lw (cn, fr, to, hv, dy, an, af) (ln, sz, ce)) (hMI : MI g F (pc, lf) lw (cn, fr, to, hv, dy, an, af) (ln, sz, ce) tr ft) (zp0 zp1 zp2 : Int32) : CW l y_MO_best b_MO_best 4 (Option.some Jvm.ClassFile.FieldType.int) 5 0 0 D g F [.ref (wad g 58), .int zp0, .int zp1, .int zp2] (fun v g2 u => v = some (.int (s_best (wK g) (pc, lf) lw zp0 zp1 zp2)) ∧ g = g2 ∧ MI g u (pc, lf) lw (cn, fr, to, hv, dy, an, af) (ln, sz, ce) tr ft ∧ FrO 58 78 F u) := by
  refine CW.start rfl (Nat.le_of_ble_eq_true rfl) ?_
  intro p e s m args below meth c A ls hc hr hlocks hw hl
  have hl : lv_has ls 4 [(0, .ref (wad g 58)), (1, .int zp0), (2, .int zp1), (3, .int zp2)] := hl
  have hx := hc.1
  have hb := hc.2.1
  obtain ⟨hpc6, hpcm, hm6, hpc0, hper⟩ : PI g pc lf := hG.1
  have hlw : lw ≤ 2 := hG.2.1
  have hI : LI pc cn fr to hv dy an af := hG.2.2.1
  have hcn := hI.1
  have hSI : SI ln sz := hG.2.2.2
  have hPM : PM g F pc lf := hMI.1
  have hM : LM F cn fr to hv dy an af := hMI.2.2.1
  have hSM : SM F ln sz ce := hMI.2.2.2.1
  have hK : ∀ q, q < pc → F 62 q = nI (wK g q) ∧ wK g q ≤ 2 := fun q hq => ⟨(hPM.2 q hq).1, (hper q hq).1⟩
  refine lv_aload_n hx hb d_MO_best_0 rfl (lv_at hl 0 rfl) ?_
  refine lv_iload_n hx hb d_MO_best_1 rfl (lv_at hl 1 rfl) ?_
  refine kRV hc hw lk_MO_116 (As := [.int zp0]) (rest := []) (c_MO_isPerson l D g _ pc (hPM.1) hpc6 (zp0)) (rc_MO hw) ⟨Nat.le_of_ble_eq_true rfl, Nat.le_of_ble_eq_true rfl⟩ ⟨Nat.le_refl _, Nat.le_refl _⟩ rfl hl rfl (Nat.le_of_ble_eq_true rfl) d_MO_best_2 ?_
  refine b_if_ne (tgt := 10) hc d_MO_best_5 (by decide) (fun c_1 => ?_) (fun c_1 => ?_)
  · obtain ⟨zj0, rfl, zj0_1⟩ := inN_nat c_1
    have zj0_e := nI_tI (j := zj0) (by omega)
    have zj0_t := tn_nI (j := zj0) (by omega)
    try unfold inN at c_1
    refine lv_iload_n hx hb d_MO_best_10 rfl (lv_at hl 2 rfl) ?_
    refine lv_iconst (v := nI 1) hx hb d_MO_best_11 (by decide) ?_
    refine lv_sipush (v := nI 200) hx hb d_MO_best_12 (by decide) ?_
    refine kRS hc hw lk_MO_76 (As := [.int zp1, .int (nI 1), .int (nI 200)]) (rest := []) (c_MO_within l D g _ (zp1) (nI 1) (nI 200) 1 200 (by decide) (by decide)) ⟨Nat.le_of_ble_eq_true rfl, Nat.le_of_ble_eq_true rfl⟩ ⟨Nat.le_refl _, Nat.le_refl _⟩ rfl hl rfl (Nat.le_of_ble_eq_true rfl) d_MO_best_15 ?_
    refine b_if_eq (tgt := 30) hc d_MO_best_18 (by decide) (fun c_2 => ?_) (fun c_2 => ?_)
    · try unfold rng at c_2
      refine lv_bipush (v := (-2)) hx hb d_MO_best_30 (by decide) ?_
      exact W_i hc hw hr hlocks (by refine ⟨congrArg (fun z => some (Value.int z)) ?_, rfl, hMI, (by repeat (first | exact FrO.rf _ _ _ | refine FrO.up ?_ (by omega) (by omega)))⟩; unfold s_best; (try simp only [inN, rng, zj0_t, zj0_e]); (repeat' split) <;> first | (exfalso; omega) | contradiction | rfl) d_MO_best_32
    · obtain ⟨zj1, rfl, zj1_1, zj1_2⟩ := rng_nat c_2 (by decide)
      have zj1_e := nI_tI (j := zj1) (by omega)
      have zj1_t := tn_nI (j := zj1) (by omega)
      try unfold rng at c_2
      refine lv_iload_n hx hb d_MO_best_21 rfl (lv_at hl 3 rfl) ?_
      refine lv_iconst (v := nI 0) hx hb d_MO_best_22 (by decide) ?_
      refine lv_iconst (v := nI 1) hx hb d_MO_best_23 (by decide) ?_
      refine kRS hc hw lk_MO_76 (As := [.int zp2, .int (nI 0), .int (nI 1)]) (rest := []) (c_MO_within l D g _ (zp2) (nI 0) (nI 1) 0 1 (by decide) (by decide)) ⟨Nat.le_of_ble_eq_true rfl, Nat.le_of_ble_eq_true rfl⟩ ⟨Nat.le_refl _, Nat.le_refl _⟩ rfl hl rfl (Nat.le_of_ble_eq_true rfl) d_MO_best_24 ?_
      refine b_if_ne (tgt := 33) hc d_MO_best_27 (by decide) (fun c_3 => ?_) (fun c_3 => ?_)
      · obtain ⟨zj2, rfl, zj2_1, zj2_2⟩ := rng_nat c_3 (by decide)
        have zj2_e := nI_tI (j := zj2) (by omega)
        have zj2_t := tn_nI (j := zj2) (by omega)
        try unfold rng at c_3
        refine lv_aload_n hx hb d_MO_best_33 rfl (lv_at hl 0 rfl) ?_
        refine lv_iload_n hx hb d_MO_best_34 rfl (lv_at hl 1 rfl) ?_
        refine lv_iload_n hx hb d_MO_best_35 rfl (lv_at hl 2 rfl) ?_
        refine kWV hc hw lk_MO_156 (h := 58) (As := [.int (nI zj0), .int (nI zj1)]) (rest := []) (c_MO_findBest l D g _ pc lf lw hG.1 hPM hlw hMI.2.1 (zj0) (zj1) (by omega) (by omega)) (rc_MO hw) ⟨Nat.le_of_ble_eq_true rfl, Nat.le_of_ble_eq_true rfl⟩ ⟨Nat.le_refl _, Nat.le_refl _⟩ rfl hl rfl (Nat.le_of_ble_eq_true rfl) d_MO_best_36 (fun v_4 g_5 F_6 H locs zhp_7 hw => ?_)
        obtain ⟨rfl, rfl, hb1, hb2, zhF1⟩ := zhp_7
        refine lv_iload_n hx hb d_MO_best_39 rfl (lv_at hl 3 rfl) ?_
        refine q_if_ne (tgt := 50) hc (by omega) d_MO_best_40 (by decide) (fun c_8 => ?_) (fun c_8 => ?_)
        · refine lv_aload_n hx hb d_MO_best_50 rfl (lv_at hl 0 rfl) ?_
          refine gf_MO_153 hc hw d_MO_best_51 (v := .int (nI ((bsN (fun v => pys lw (shw (wK g zj0) v) zj1) (lf zj0 - 1)).2))) (congrArg Value.int (hb2)) ?_
          exact W_i hc hw hr hlocks (by refine ⟨congrArg (fun z => some (Value.int z)) ?_, rfl, MI_x hMI (fun k i h => zhF1 k i (by omega)), (fun h hh => funext fun i => zhF1 h i (by omega))⟩; unfold s_best; (try simp only [inN, rng, zj0_t, zj0_e, zj1_t, zj1_e, zj2_t, zj2_e]); (repeat' split) <;> first | (exfalso; omega) | contradiction | rfl) d_MO_best_54
        · refine lv_aload_n hx hb d_MO_best_43 rfl (lv_at hl 0 rfl) ?_
          refine gf_MO_150 hc hw d_MO_best_44 (v := .int (nI ((bsN (fun v => pys lw (shw (wK g zj0) v) zj1) (lf zj0 - 1)).1))) (congrArg Value.int (hb1)) ?_
          refine lv_goto (tgt := 54) hx hb d_MO_best_47 (by decide) ?_
          exact W_i hc hw hr hlocks (by refine ⟨congrArg (fun z => some (Value.int z)) ?_, rfl, MI_x hMI (fun k i h => zhF1 k i (by omega)), (fun h hh => funext fun i => zhF1 h i (by omega))⟩; unfold s_best; (try simp only [inN, rng, zj0_t, zj0_e, zj1_t, zj1_e, zj2_t, zj2_e]); (repeat' split) <;> first | (exfalso; omega) | contradiction | rfl) d_MO_best_54
      · try unfold rng at c_3
        refine lv_bipush (v := (-2)) hx hb d_MO_best_30 (by decide) ?_
        exact W_i hc hw hr hlocks (by refine ⟨congrArg (fun z => some (Value.int z)) ?_, rfl, hMI, (by repeat (first | exact FrO.rf _ _ _ | refine FrO.up ?_ (by omega) (by omega)))⟩; unfold s_best; (try simp only [inN, rng, zj0_t, zj0_e, zj1_t, zj1_e]); (repeat' split) <;> first | (exfalso; omega) | contradiction | rfl) d_MO_best_32
  · try unfold inN at c_1
    refine lv_iconst (v := (-1)) hx hb d_MO_best_8 (by decide) ?_
    exact W_i hc hw hr hlocks (by refine ⟨congrArg (fun z => some (Value.int z)) ?_, rfl, hMI, (by repeat (first | exact FrO.rf _ _ _ | refine FrO.up ?_ (by omega) (by omega)))⟩; unfold s_best; (try simp only [inN, rng]); (repeat' split) <;> first | (exfalso; omega) | contradiction | rfl) d_MO_best_9
set_option maxHeartbeats 4000000 in
theorem c_MO_least (l : Launch) (D : va_G) (g : wG) (F : wF) (pc : Nat) (lf : Nat → Nat) (lw : Nat) (cn : Nat) (fr to hv dy : Nat → Nat) (an af : Nat → Option Nat) (ln : Nat → Option Nat) (sz : Nat → Nat) (ce : Nat → Nat → Int32) (tr ft : Int32) (hG : GI g (pc, lf) lw (cn, fr, to, hv, dy, an, af) (ln, sz, ce)) (hMI : MI g F (pc, lf) lw (cn, fr, to, hv, dy, an, af) (ln, sz, ce) tr ft) (zp0 zp1 zp2 : Int32) : CW l y_MO_least b_MO_least 8 (Option.some Jvm.ClassFile.FieldType.int) 5 0 0 D g F [.ref (wad g 58), .int zp0, .int zp1, .int zp2] (fun v g2 u => v = some (.int (s_least (wK g) (pc, lf) (cn, fr, to, hv, dy, an, af) zp0 zp1 zp2)) ∧ g = g2 ∧ MI g u (pc, lf) lw (cn, fr, to, hv, dy, an, af) (ln, sz, ce) tr ft ∧ FrO 58 78 F u) := by
  refine CW.start rfl (Nat.le_of_ble_eq_true rfl) ?_
  intro p e s m args below meth c A ls hc hr hlocks hw hl
  have hl : lv_has ls 8 [(0, .ref (wad g 58)), (1, .int zp0), (2, .int zp1), (3, .int zp2)] := hl
  have hx := hc.1
  have hb := hc.2.1
  obtain ⟨hpc6, hpcm, hm6, hpc0, hper⟩ : PI g pc lf := hG.1
  have hlw : lw ≤ 2 := hG.2.1
  have hI : LI pc cn fr to hv dy an af := hG.2.2.1
  have hcn := hI.1
  have hSI : SI ln sz := hG.2.2.2
  have hPM : PM g F pc lf := hMI.1
  have hM : LM F cn fr to hv dy an af := hMI.2.2.1
  have hSM : SM F ln sz ce := hMI.2.2.2.1
  have hK : ∀ q, q < pc → F 62 q = nI (wK g q) ∧ wK g q ≤ 2 := fun q hq => ⟨(hPM.2 q hq).1, (hper q hq).1⟩
  refine lv_aload_n hx hb d_MO_least_0 rfl (lv_at hl 0 rfl) ?_
  refine lv_iload_n hx hb d_MO_least_1 rfl (lv_at hl 1 rfl) ?_
  refine kRV hc hw lk_MO_116 (As := [.int zp0]) (rest := []) (c_MO_isPerson l D g _ pc (hPM.1) hpc6 (zp0)) (rc_MO hw) ⟨Nat.le_of_ble_eq_true rfl, Nat.le_of_ble_eq_true rfl⟩ ⟨Nat.le_refl _, Nat.le_refl _⟩ rfl hl rfl (Nat.le_of_ble_eq_true rfl) d_MO_least_2 ?_
  refine b_if_ne (tgt := 10) hc d_MO_least_5 (by decide) (fun c_1 => ?_) (fun c_1 => ?_)
  · obtain ⟨zj0, rfl, zj0_1⟩ := inN_nat c_1
    have zj0_e := nI_tI (j := zj0) (by omega)
    have zj0_t := tn_nI (j := zj0) (by omega)
    try unfold inN at c_1
    refine lv_iload_n hx hb d_MO_least_10 rfl (lv_at hl 2 rfl) ?_
    refine kRS hc hw lk_MO_123 (As := [.int zp1]) (rest := []) (c_MO_isDay l D g _ (zp1)) ⟨Nat.le_of_ble_eq_true rfl, Nat.le_of_ble_eq_true rfl⟩ ⟨Nat.le_refl _, Nat.le_refl _⟩ rfl hl rfl (Nat.le_of_ble_eq_true rfl) d_MO_least_11 ?_
    refine b_if_eq (tgt := 26) hc d_MO_least_14 (by decide) (fun c_2 => ?_) (fun c_2 => ?_)
    · try unfold rng at c_2
      refine lv_bipush (v := (-2)) hx hb d_MO_least_26 (by decide) ?_
      exact W_i hc hw hr hlocks (by refine ⟨congrArg (fun z => some (Value.int z)) ?_, rfl, hMI, (by repeat (first | exact FrO.rf _ _ _ | refine FrO.up ?_ (by omega) (by omega)))⟩; unfold s_least; (try simp only [inN, rng, zj0_t, zj0_e, Lpd]); (try simp only [show Lsc (wK g) (cn, fr, to, hv, dy, an, af) = lsc g fr hv from rfl]); (repeat' split) <;> first | (exfalso; omega) | contradiction | rfl) d_MO_least_28
    · obtain ⟨zj1, rfl, zj1_1, zj1_2⟩ := rng_nat c_2 (by decide)
      have zj1_e := nI_tI (j := zj1) (by omega)
      have zj1_t := tn_nI (j := zj1) (by omega)
      try unfold rng at c_2
      refine lv_iload_n hx hb d_MO_least_17 rfl (lv_at hl 3 rfl) ?_
      refine lv_iconst (v := nI 0) hx hb d_MO_least_18 (by decide) ?_
      refine lv_iconst (v := nI 1) hx hb d_MO_least_19 (by decide) ?_
      refine kRS hc hw lk_MO_76 (As := [.int zp2, .int (nI 0), .int (nI 1)]) (rest := []) (c_MO_within l D g _ (zp2) (nI 0) (nI 1) 0 1 (by decide) (by decide)) ⟨Nat.le_of_ble_eq_true rfl, Nat.le_of_ble_eq_true rfl⟩ ⟨Nat.le_refl _, Nat.le_refl _⟩ rfl hl rfl (Nat.le_of_ble_eq_true rfl) d_MO_least_20 ?_
      refine b_if_ne (tgt := 29) hc d_MO_least_23 (by decide) (fun c_3 => ?_) (fun c_3 => ?_)
      · obtain ⟨zj2, rfl, zj2_1, zj2_2⟩ := rng_nat c_3 (by decide)
        have zj2_e := nI_tI (j := zj2) (by omega)
        have zj2_t := tn_nI (j := zj2) (by omega)
        try unfold rng at c_3
        have hb0 := pd_le (g := g) hI 0 zj0 zj1
        have hb1 := pd_le (g := g) hI 1 zj0 zj1
        have hb2 := pd_le (g := g) hI 2 zj0 zj1
        refine lv_aload_n hx hb d_MO_least_29 rfl (lv_at hl 0 rfl) ?_
        refine gf_MO_107 hc hw d_MO_least_30 (v := .int (nI lw)) (congrArg Value.int (hMI.2.1)) ?_
        refine lv_istore (lv' := [(4, .int (nI lw)), (0, .ref (wad g 58)), (1, .int (nI zj0)), (2, .int (nI zj1)), (3, .int (nI zj2))]) hx hb d_MO_least_33 hl (by decide) rfl (fun ls hl => ?_)
        refine lv_bipush (v := (-9)) hx hb d_MO_least_35 (by decide) ?_
        refine lv_istore (lv' := [(5, .int ((-9))), (4, .int (nI lw)), (0, .ref (wad g 58)), (1, .int (nI zj0)), (2, .int (nI zj1)), (3, .int (nI zj2))]) hx hb d_MO_least_37 hl (by decide) rfl (fun ls hl => ?_)
        refine lv_iconst (v := nI 0) hx hb d_MO_least_39 (by decide) ?_
        refine lv_istore (lv' := [(6, .int (nI 0)), (5, .int ((-9))), (4, .int (nI lw)), (0, .ref (wad g 58)), (1, .int (nI zj0)), (2, .int (nI zj1)), (3, .int (nI zj2))]) hx hb d_MO_least_40 hl (by decide) rfl (fun ls hl => ?_)
        refine lv_aload_n hx hb d_MO_least_42 rfl (lv_at hl 3 rfl) ?_
        refine lv_iconst (v := nI 0) hx hb d_MO_least_43 (by decide) ?_
        refine pf_MO_107 hc hw d_MO_least_44 (fun H locs hw => ?_)
        refine lv_aload_n hx hb d_MO_least_47 rfl (lv_at hl 3 rfl) ?_
        refine gf_MO_107 hc hw d_MO_least_48 (v := .int (nI 0)) (congrArg Value.int (u2_same _ _ _ _)) ?_
        refine lv_iconst (v := nI 3) hx hb d_MO_least_51 (by decide) ?_
        refine q_icmp_ge (tgt := 100) hc (by omega) (by omega) d_MO_least_52 (by decide) (fun c_4 => ?_) (fun c_4 => ?_)
        · exact absurd c_4 (by first | omega | decide)
        · refine lv_aload_n hx hb d_MO_least_55 rfl (lv_at hl 3 rfl) ?_
          refine lv_iload_n hx hb d_MO_least_56 rfl (lv_at hl 4 rfl) ?_
          refine lv_iload_n hx hb d_MO_least_57 rfl (lv_at hl 5 rfl) ?_
          refine kRV hc hw lk_MO_139 (As := [.int (nI zj0), .int (nI zj1)]) (rest := []) (c_MO_paidBy l D g _ pc cn fr to hv dy an af hI (by repeat (first | exact hM | refine LM_c ?_ (u2_i (by decide)) (fun k hk _ => u2_ne k (by omega)))) hpc6 (fun q hq => ⟨by repeat (first | exact (hK q hq).1 | rw [u2_ne 62 (by decide)]), (hK q hq).2⟩) 0 (zj0) (zj1) (by decide) (u2_same _ _ _ _) (by omega) (by omega)) (rc_MO hw) ⟨Nat.le_of_ble_eq_true rfl, Nat.le_of_ble_eq_true rfl⟩ ⟨Nat.le_refl _, Nat.le_refl _⟩ rfl hl rfl (Nat.le_of_ble_eq_true rfl) d_MO_least_58 ?_
          refine lv_istore (lv' := [(7, .int (nI (pdS 0 zj0 zj1 fr to dy an (lsc g fr hv) cn))), (6, .int (nI 0)), (5, .int ((-9))), (4, .int (nI lw)), (0, .ref (wad g 58)), (1, .int (nI zj0)), (2, .int (nI zj1)), (3, .int (nI zj2))]) hx hb d_MO_least_61 hl (by decide) rfl (fun ls hl => ?_)
          refine lv_iload hx hb d_MO_least_63 (lv_at hl 2 rfl) ?_
          refine lv_bipush (v := (-9)) hx hb d_MO_least_65 (by decide) ?_
          refine u_icmp_eq (tgt := 77) (X := (-9)) (Y := (-9)) hc (by decide) (by decide) d_MO_least_67 (by decide) (fun c_5 => ?_) (fun c_5 => ?_)
          · refine lv_aload_n hx hb d_MO_least_77 rfl (lv_at hl 4 rfl) ?_
            refine gf_MO_107 hc hw d_MO_least_78 (v := .int (nI 0)) (congrArg Value.int (u2_same _ _ _ _)) ?_
            refine lv_istore (lv' := [(5, .int (nI 0)), (7, .int (nI (pdS 0 zj0 zj1 fr to dy an (lsc g fr hv) cn))), (6, .int (nI 0)), (4, .int (nI lw)), (0, .ref (wad g 58)), (1, .int (nI zj0)), (2, .int (nI zj1)), (3, .int (nI zj2))]) hx hb d_MO_least_81 hl (by decide) rfl (fun ls hl => ?_)
            refine lv_iload hx hb d_MO_least_83 (lv_at hl 1 rfl) ?_
            refine lv_istore (lv' := [(6, .int (nI (pdS 0 zj0 zj1 fr to dy an (lsc g fr hv) cn))), (5, .int (nI 0)), (7, .int (nI (pdS 0 zj0 zj1 fr to dy an (lsc g fr hv) cn))), (4, .int (nI lw)), (0, .ref (wad g 58)), (1, .int (nI zj0)), (2, .int (nI zj1)), (3, .int (nI zj2))]) hx hb d_MO_least_85 hl (by decide) rfl (fun ls hl => ?_)
            refine lv_aload_n hx hb d_MO_least_87 rfl (lv_at hl 4 rfl) ?_
            refine lv_dup hx hb d_MO_least_88 rfl ?_
            refine gf_MO_107 hc hw d_MO_least_89 (v := .int (nI 0)) (congrArg Value.int (u2_same _ _ _ _)) ?_
            refine lv_iconst (v := nI 1) hx hb d_MO_least_92 (by decide) ?_
            refine q_iadd hc d_MO_least_93 ?_
            refine pf_MO_107 hc hw d_MO_least_94 (fun H locs hw => ?_)
            refine lv_goto (tgt := 47) hx hb d_MO_least_97 (by decide) ?_
            refine lv_aload_n hx hb d_MO_least_47 rfl (lv_at hl 4 rfl) ?_
            refine gf_MO_107 hc hw d_MO_least_48 (v := .int (nI 1)) (congrArg Value.int (u2_same _ _ _ _)) ?_
            refine lv_iconst (v := nI 3) hx hb d_MO_least_51 (by decide) ?_
            refine q_icmp_ge (tgt := 100) hc (by omega) (by omega) d_MO_least_52 (by decide) (fun c_6 => ?_) (fun c_6 => ?_)
            · exact absurd c_6 (by first | omega | decide)
            · refine lv_aload_n hx hb d_MO_least_55 rfl (lv_at hl 4 rfl) ?_
              refine lv_iload_n hx hb d_MO_least_56 rfl (lv_at hl 5 rfl) ?_
              refine lv_iload_n hx hb d_MO_least_57 rfl (lv_at hl 6 rfl) ?_
              refine kRV hc hw lk_MO_139 (As := [.int (nI zj0), .int (nI zj1)]) (rest := []) (c_MO_paidBy l D g _ pc cn fr to hv dy an af hI (by repeat (first | exact hM | refine LM_c ?_ (u2_i (by decide)) (fun k hk _ => u2_ne k (by omega)))) hpc6 (fun q hq => ⟨by repeat (first | exact (hK q hq).1 | rw [u2_ne 62 (by decide)]), (hK q hq).2⟩) 1 (zj0) (zj1) (by decide) (u2_same _ _ _ _) (by omega) (by omega)) (rc_MO hw) ⟨Nat.le_of_ble_eq_true rfl, Nat.le_of_ble_eq_true rfl⟩ ⟨Nat.le_refl _, Nat.le_refl _⟩ rfl hl rfl (Nat.le_of_ble_eq_true rfl) d_MO_least_58 ?_
              refine lv_istore (lv' := [(7, .int (nI (pdS 1 zj0 zj1 fr to dy an (lsc g fr hv) cn))), (6, .int (nI (pdS 0 zj0 zj1 fr to dy an (lsc g fr hv) cn))), (5, .int (nI 0)), (4, .int (nI lw)), (0, .ref (wad g 58)), (1, .int (nI zj0)), (2, .int (nI zj1)), (3, .int (nI zj2))]) hx hb d_MO_least_61 hl (by decide) rfl (fun ls hl => ?_)
              refine lv_iload hx hb d_MO_least_63 (lv_at hl 2 rfl) ?_
              refine lv_bipush (v := (-9)) hx hb d_MO_least_65 (by decide) ?_
              refine u_icmp_eq (tgt := 77) (X := 0) (Y := (-9)) hc (by decide) (by decide) d_MO_least_67 (by decide) (fun c_7 => ?_) (fun c_7 => ?_)
              · exact absurd c_7 (by decide)
              · refine lv_iload hx hb d_MO_least_70 (lv_at hl 0 rfl) ?_
                refine lv_iload hx hb d_MO_least_72 (lv_at hl 1 rfl) ?_
                refine q_icmp_ge (tgt := 87) hc (by omega) (by omega) d_MO_least_74 (by decide) (fun c_8 => ?_) (fun c_8 => ?_)
                · refine lv_aload_n hx hb d_MO_least_87 rfl (lv_at hl 4 rfl) ?_
                  refine lv_dup hx hb d_MO_least_88 rfl ?_
                  refine gf_MO_107 hc hw d_MO_least_89 (v := .int (nI 1)) (congrArg Value.int (u2_same _ _ _ _)) ?_
                  refine lv_iconst (v := nI 1) hx hb d_MO_least_92 (by decide) ?_
                  refine q_iadd hc d_MO_least_93 ?_
                  refine pf_MO_107 hc hw d_MO_least_94 (fun H locs hw => ?_)
                  refine lv_goto (tgt := 47) hx hb d_MO_least_97 (by decide) ?_
                  refine lv_aload_n hx hb d_MO_least_47 rfl (lv_at hl 4 rfl) ?_
                  refine gf_MO_107 hc hw d_MO_least_48 (v := .int (nI 2)) (congrArg Value.int (u2_same _ _ _ _)) ?_
                  refine lv_iconst (v := nI 3) hx hb d_MO_least_51 (by decide) ?_
                  refine q_icmp_ge (tgt := 100) hc (by omega) (by omega) d_MO_least_52 (by decide) (fun c_9 => ?_) (fun c_9 => ?_)
                  · exact absurd c_9 (by first | omega | decide)
                  · refine lv_aload_n hx hb d_MO_least_55 rfl (lv_at hl 4 rfl) ?_
                    refine lv_iload_n hx hb d_MO_least_56 rfl (lv_at hl 5 rfl) ?_
                    refine lv_iload_n hx hb d_MO_least_57 rfl (lv_at hl 6 rfl) ?_
                    refine kRV hc hw lk_MO_139 (As := [.int (nI zj0), .int (nI zj1)]) (rest := []) (c_MO_paidBy l D g _ pc cn fr to hv dy an af hI (by repeat (first | exact hM | refine LM_c ?_ (u2_i (by decide)) (fun k hk _ => u2_ne k (by omega)))) hpc6 (fun q hq => ⟨by repeat (first | exact (hK q hq).1 | rw [u2_ne 62 (by decide)]), (hK q hq).2⟩) 2 (zj0) (zj1) (by decide) (u2_same _ _ _ _) (by omega) (by omega)) (rc_MO hw) ⟨Nat.le_of_ble_eq_true rfl, Nat.le_of_ble_eq_true rfl⟩ ⟨Nat.le_refl _, Nat.le_refl _⟩ rfl hl rfl (Nat.le_of_ble_eq_true rfl) d_MO_least_58 ?_
                    refine lv_istore (lv' := [(7, .int (nI (pdS 2 zj0 zj1 fr to dy an (lsc g fr hv) cn))), (6, .int (nI (pdS 0 zj0 zj1 fr to dy an (lsc g fr hv) cn))), (5, .int (nI 0)), (4, .int (nI lw)), (0, .ref (wad g 58)), (1, .int (nI zj0)), (2, .int (nI zj1)), (3, .int (nI zj2))]) hx hb d_MO_least_61 hl (by decide) rfl (fun ls hl => ?_)
                    refine lv_iload hx hb d_MO_least_63 (lv_at hl 2 rfl) ?_
                    refine lv_bipush (v := (-9)) hx hb d_MO_least_65 (by decide) ?_
                    refine u_icmp_eq (tgt := 77) (X := 0) (Y := (-9)) hc (by decide) (by decide) d_MO_least_67 (by decide) (fun c_10 => ?_) (fun c_10 => ?_)
                    · exact absurd c_10 (by decide)
                    · refine lv_iload hx hb d_MO_least_70 (lv_at hl 0 rfl) ?_
                      refine lv_iload hx hb d_MO_least_72 (lv_at hl 1 rfl) ?_
                      refine q_icmp_ge (tgt := 87) hc (by omega) (by omega) d_MO_least_74 (by decide) (fun c_11 => ?_) (fun c_11 => ?_)
                      · refine lv_aload_n hx hb d_MO_least_87 rfl (lv_at hl 4 rfl) ?_
                        refine lv_dup hx hb d_MO_least_88 rfl ?_
                        refine gf_MO_107 hc hw d_MO_least_89 (v := .int (nI 2)) (congrArg Value.int (u2_same _ _ _ _)) ?_
                        refine lv_iconst (v := nI 1) hx hb d_MO_least_92 (by decide) ?_
                        refine q_iadd hc d_MO_least_93 ?_
                        refine pf_MO_107 hc hw d_MO_least_94 (fun H locs hw => ?_)
                        refine lv_goto (tgt := 47) hx hb d_MO_least_97 (by decide) ?_
                        refine lv_aload_n hx hb d_MO_least_47 rfl (lv_at hl 4 rfl) ?_
                        refine gf_MO_107 hc hw d_MO_least_48 (v := .int (nI 3)) (congrArg Value.int (u2_same _ _ _ _)) ?_
                        refine lv_iconst (v := nI 3) hx hb d_MO_least_51 (by decide) ?_
                        refine q_icmp_ge (tgt := 100) hc (by omega) (by omega) d_MO_least_52 (by decide) (fun c_12 => ?_) (fun c_12 => ?_)
                        · refine lv_aload_n hx hb d_MO_least_100 rfl (lv_at hl 4 rfl) ?_
                          refine lv_iload hx hb d_MO_least_101 (lv_at hl 3 rfl) ?_
                          refine pf_MO_107 hc hw d_MO_least_103 (fun H locs hw => ?_)
                          refine lv_iload_n hx hb d_MO_least_106 rfl (lv_at hl 7 rfl) ?_
                          refine q_if_ne (tgt := 115) hc (by omega) d_MO_least_107 (by decide) (fun c_13 => ?_) (fun c_13 => ?_)
                          · refine lv_iload hx hb d_MO_least_115 (lv_at hl 1 rfl) ?_
                            exact W_i hc hw hr hlocks (by refine ⟨congrArg (fun z => some (Value.int z)) ?_, rfl, (by simp only [u2_u2]; rw [u2_id hMI.2.1]; exact hMI), (by repeat (first | exact FrO.rf _ _ _ | refine FrO.up ?_ (by omega) (by omega)))⟩; unfold s_least; (try simp only [inN, rng, zj0_t, zj0_e, zj1_t, zj1_e, zj2_t, zj2_e, Lpd]); (try simp only [show Lsc (wK g) (cn, fr, to, hv, dy, an, af) = lsc g fr hv from rfl]); (repeat' split) <;> first | (exfalso; omega) | contradiction | rfl) d_MO_least_117
                          · refine lv_iload hx hb d_MO_least_110 (lv_at hl 2 rfl) ?_
                            refine lv_goto (tgt := 117) hx hb d_MO_least_112 (by decide) ?_
                            exact W_i hc hw hr hlocks (by refine ⟨congrArg (fun z => some (Value.int z)) ?_, rfl, (by simp only [u2_u2]; rw [u2_id hMI.2.1]; exact hMI), (by repeat (first | exact FrO.rf _ _ _ | refine FrO.up ?_ (by omega) (by omega)))⟩; unfold s_least; (try simp only [inN, rng, zj0_t, zj0_e, zj1_t, zj1_e, zj2_t, zj2_e, Lpd]); (try simp only [show Lsc (wK g) (cn, fr, to, hv, dy, an, af) = lsc g fr hv from rfl]); (repeat' split) <;> first | (exfalso; omega) | contradiction | rfl) d_MO_least_117
                        · exact absurd c_12 (by first | omega | decide)
                      · refine lv_aload_n hx hb d_MO_least_77 rfl (lv_at hl 4 rfl) ?_
                        refine gf_MO_107 hc hw d_MO_least_78 (v := .int (nI 2)) (congrArg Value.int (u2_same _ _ _ _)) ?_
                        refine lv_istore (lv' := [(5, .int (nI 2)), (7, .int (nI (pdS 2 zj0 zj1 fr to dy an (lsc g fr hv) cn))), (6, .int (nI (pdS 0 zj0 zj1 fr to dy an (lsc g fr hv) cn))), (4, .int (nI lw)), (0, .ref (wad g 58)), (1, .int (nI zj0)), (2, .int (nI zj1)), (3, .int (nI zj2))]) hx hb d_MO_least_81 hl (by decide) rfl (fun ls hl => ?_)
                        refine lv_iload hx hb d_MO_least_83 (lv_at hl 1 rfl) ?_
                        refine lv_istore (lv' := [(6, .int (nI (pdS 2 zj0 zj1 fr to dy an (lsc g fr hv) cn))), (5, .int (nI 2)), (7, .int (nI (pdS 2 zj0 zj1 fr to dy an (lsc g fr hv) cn))), (4, .int (nI lw)), (0, .ref (wad g 58)), (1, .int (nI zj0)), (2, .int (nI zj1)), (3, .int (nI zj2))]) hx hb d_MO_least_85 hl (by decide) rfl (fun ls hl => ?_)
                        refine lv_aload_n hx hb d_MO_least_87 rfl (lv_at hl 4 rfl) ?_
                        refine lv_dup hx hb d_MO_least_88 rfl ?_
                        refine gf_MO_107 hc hw d_MO_least_89 (v := .int (nI 2)) (congrArg Value.int (u2_same _ _ _ _)) ?_
                        refine lv_iconst (v := nI 1) hx hb d_MO_least_92 (by decide) ?_
                        refine q_iadd hc d_MO_least_93 ?_
                        refine pf_MO_107 hc hw d_MO_least_94 (fun H locs hw => ?_)
                        refine lv_goto (tgt := 47) hx hb d_MO_least_97 (by decide) ?_
                        refine lv_aload_n hx hb d_MO_least_47 rfl (lv_at hl 4 rfl) ?_
                        refine gf_MO_107 hc hw d_MO_least_48 (v := .int (nI 3)) (congrArg Value.int (u2_same _ _ _ _)) ?_
                        refine lv_iconst (v := nI 3) hx hb d_MO_least_51 (by decide) ?_
                        refine q_icmp_ge (tgt := 100) hc (by omega) (by omega) d_MO_least_52 (by decide) (fun c_14 => ?_) (fun c_14 => ?_)
                        · refine lv_aload_n hx hb d_MO_least_100 rfl (lv_at hl 4 rfl) ?_
                          refine lv_iload hx hb d_MO_least_101 (lv_at hl 3 rfl) ?_
                          refine pf_MO_107 hc hw d_MO_least_103 (fun H locs hw => ?_)
                          refine lv_iload_n hx hb d_MO_least_106 rfl (lv_at hl 7 rfl) ?_
                          refine q_if_ne (tgt := 115) hc (by omega) d_MO_least_107 (by decide) (fun c_15 => ?_) (fun c_15 => ?_)
                          · refine lv_iload hx hb d_MO_least_115 (lv_at hl 0 rfl) ?_
                            exact W_i hc hw hr hlocks (by refine ⟨congrArg (fun z => some (Value.int z)) ?_, rfl, (by simp only [u2_u2]; rw [u2_id hMI.2.1]; exact hMI), (by repeat (first | exact FrO.rf _ _ _ | refine FrO.up ?_ (by omega) (by omega)))⟩; unfold s_least; (try simp only [inN, rng, zj0_t, zj0_e, zj1_t, zj1_e, zj2_t, zj2_e, Lpd]); (try simp only [show Lsc (wK g) (cn, fr, to, hv, dy, an, af) = lsc g fr hv from rfl]); (repeat' split) <;> first | (exfalso; omega) | contradiction | rfl) d_MO_least_117
                          · refine lv_iload hx hb d_MO_least_110 (lv_at hl 1 rfl) ?_
                            refine lv_goto (tgt := 117) hx hb d_MO_least_112 (by decide) ?_
                            exact W_i hc hw hr hlocks (by refine ⟨congrArg (fun z => some (Value.int z)) ?_, rfl, (by simp only [u2_u2]; rw [u2_id hMI.2.1]; exact hMI), (by repeat (first | exact FrO.rf _ _ _ | refine FrO.up ?_ (by omega) (by omega)))⟩; unfold s_least; (try simp only [inN, rng, zj0_t, zj0_e, zj1_t, zj1_e, zj2_t, zj2_e, Lpd]); (try simp only [show Lsc (wK g) (cn, fr, to, hv, dy, an, af) = lsc g fr hv from rfl]); (repeat' split) <;> first | (exfalso; omega) | contradiction | rfl) d_MO_least_117
                        · exact absurd c_14 (by first | omega | decide)
                · refine lv_aload_n hx hb d_MO_least_77 rfl (lv_at hl 4 rfl) ?_
                  refine gf_MO_107 hc hw d_MO_least_78 (v := .int (nI 1)) (congrArg Value.int (u2_same _ _ _ _)) ?_
                  refine lv_istore (lv' := [(5, .int (nI 1)), (7, .int (nI (pdS 1 zj0 zj1 fr to dy an (lsc g fr hv) cn))), (6, .int (nI (pdS 0 zj0 zj1 fr to dy an (lsc g fr hv) cn))), (4, .int (nI lw)), (0, .ref (wad g 58)), (1, .int (nI zj0)), (2, .int (nI zj1)), (3, .int (nI zj2))]) hx hb d_MO_least_81 hl (by decide) rfl (fun ls hl => ?_)
                  refine lv_iload hx hb d_MO_least_83 (lv_at hl 1 rfl) ?_
                  refine lv_istore (lv' := [(6, .int (nI (pdS 1 zj0 zj1 fr to dy an (lsc g fr hv) cn))), (5, .int (nI 1)), (7, .int (nI (pdS 1 zj0 zj1 fr to dy an (lsc g fr hv) cn))), (4, .int (nI lw)), (0, .ref (wad g 58)), (1, .int (nI zj0)), (2, .int (nI zj1)), (3, .int (nI zj2))]) hx hb d_MO_least_85 hl (by decide) rfl (fun ls hl => ?_)
                  refine lv_aload_n hx hb d_MO_least_87 rfl (lv_at hl 4 rfl) ?_
                  refine lv_dup hx hb d_MO_least_88 rfl ?_
                  refine gf_MO_107 hc hw d_MO_least_89 (v := .int (nI 1)) (congrArg Value.int (u2_same _ _ _ _)) ?_
                  refine lv_iconst (v := nI 1) hx hb d_MO_least_92 (by decide) ?_
                  refine q_iadd hc d_MO_least_93 ?_
                  refine pf_MO_107 hc hw d_MO_least_94 (fun H locs hw => ?_)
                  refine lv_goto (tgt := 47) hx hb d_MO_least_97 (by decide) ?_
                  refine lv_aload_n hx hb d_MO_least_47 rfl (lv_at hl 4 rfl) ?_
                  refine gf_MO_107 hc hw d_MO_least_48 (v := .int (nI 2)) (congrArg Value.int (u2_same _ _ _ _)) ?_
                  refine lv_iconst (v := nI 3) hx hb d_MO_least_51 (by decide) ?_
                  refine q_icmp_ge (tgt := 100) hc (by omega) (by omega) d_MO_least_52 (by decide) (fun c_16 => ?_) (fun c_16 => ?_)
                  · exact absurd c_16 (by first | omega | decide)
                  · refine lv_aload_n hx hb d_MO_least_55 rfl (lv_at hl 4 rfl) ?_
                    refine lv_iload_n hx hb d_MO_least_56 rfl (lv_at hl 5 rfl) ?_
                    refine lv_iload_n hx hb d_MO_least_57 rfl (lv_at hl 6 rfl) ?_
                    refine kRV hc hw lk_MO_139 (As := [.int (nI zj0), .int (nI zj1)]) (rest := []) (c_MO_paidBy l D g _ pc cn fr to hv dy an af hI (by repeat (first | exact hM | refine LM_c ?_ (u2_i (by decide)) (fun k hk _ => u2_ne k (by omega)))) hpc6 (fun q hq => ⟨by repeat (first | exact (hK q hq).1 | rw [u2_ne 62 (by decide)]), (hK q hq).2⟩) 2 (zj0) (zj1) (by decide) (u2_same _ _ _ _) (by omega) (by omega)) (rc_MO hw) ⟨Nat.le_of_ble_eq_true rfl, Nat.le_of_ble_eq_true rfl⟩ ⟨Nat.le_refl _, Nat.le_refl _⟩ rfl hl rfl (Nat.le_of_ble_eq_true rfl) d_MO_least_58 ?_
                    refine lv_istore (lv' := [(7, .int (nI (pdS 2 zj0 zj1 fr to dy an (lsc g fr hv) cn))), (6, .int (nI (pdS 1 zj0 zj1 fr to dy an (lsc g fr hv) cn))), (5, .int (nI 1)), (4, .int (nI lw)), (0, .ref (wad g 58)), (1, .int (nI zj0)), (2, .int (nI zj1)), (3, .int (nI zj2))]) hx hb d_MO_least_61 hl (by decide) rfl (fun ls hl => ?_)
                    refine lv_iload hx hb d_MO_least_63 (lv_at hl 2 rfl) ?_
                    refine lv_bipush (v := (-9)) hx hb d_MO_least_65 (by decide) ?_
                    refine u_icmp_eq (tgt := 77) (X := 1) (Y := (-9)) hc (by decide) (by decide) d_MO_least_67 (by decide) (fun c_17 => ?_) (fun c_17 => ?_)
                    · exact absurd c_17 (by decide)
                    · refine lv_iload hx hb d_MO_least_70 (lv_at hl 0 rfl) ?_
                      refine lv_iload hx hb d_MO_least_72 (lv_at hl 1 rfl) ?_
                      refine q_icmp_ge (tgt := 87) hc (by omega) (by omega) d_MO_least_74 (by decide) (fun c_18 => ?_) (fun c_18 => ?_)
                      · refine lv_aload_n hx hb d_MO_least_87 rfl (lv_at hl 4 rfl) ?_
                        refine lv_dup hx hb d_MO_least_88 rfl ?_
                        refine gf_MO_107 hc hw d_MO_least_89 (v := .int (nI 2)) (congrArg Value.int (u2_same _ _ _ _)) ?_
                        refine lv_iconst (v := nI 1) hx hb d_MO_least_92 (by decide) ?_
                        refine q_iadd hc d_MO_least_93 ?_
                        refine pf_MO_107 hc hw d_MO_least_94 (fun H locs hw => ?_)
                        refine lv_goto (tgt := 47) hx hb d_MO_least_97 (by decide) ?_
                        refine lv_aload_n hx hb d_MO_least_47 rfl (lv_at hl 4 rfl) ?_
                        refine gf_MO_107 hc hw d_MO_least_48 (v := .int (nI 3)) (congrArg Value.int (u2_same _ _ _ _)) ?_
                        refine lv_iconst (v := nI 3) hx hb d_MO_least_51 (by decide) ?_
                        refine q_icmp_ge (tgt := 100) hc (by omega) (by omega) d_MO_least_52 (by decide) (fun c_19 => ?_) (fun c_19 => ?_)
                        · refine lv_aload_n hx hb d_MO_least_100 rfl (lv_at hl 4 rfl) ?_
                          refine lv_iload hx hb d_MO_least_101 (lv_at hl 3 rfl) ?_
                          refine pf_MO_107 hc hw d_MO_least_103 (fun H locs hw => ?_)
                          refine lv_iload_n hx hb d_MO_least_106 rfl (lv_at hl 7 rfl) ?_
                          refine q_if_ne (tgt := 115) hc (by omega) d_MO_least_107 (by decide) (fun c_20 => ?_) (fun c_20 => ?_)
                          · refine lv_iload hx hb d_MO_least_115 (lv_at hl 1 rfl) ?_
                            exact W_i hc hw hr hlocks (by refine ⟨congrArg (fun z => some (Value.int z)) ?_, rfl, (by simp only [u2_u2]; rw [u2_id hMI.2.1]; exact hMI), (by repeat (first | exact FrO.rf _ _ _ | refine FrO.up ?_ (by omega) (by omega)))⟩; unfold s_least; (try simp only [inN, rng, zj0_t, zj0_e, zj1_t, zj1_e, zj2_t, zj2_e, Lpd]); (try simp only [show Lsc (wK g) (cn, fr, to, hv, dy, an, af) = lsc g fr hv from rfl]); (repeat' split) <;> first | (exfalso; omega) | contradiction | rfl) d_MO_least_117
                          · refine lv_iload hx hb d_MO_least_110 (lv_at hl 2 rfl) ?_
                            refine lv_goto (tgt := 117) hx hb d_MO_least_112 (by decide) ?_
                            exact W_i hc hw hr hlocks (by refine ⟨congrArg (fun z => some (Value.int z)) ?_, rfl, (by simp only [u2_u2]; rw [u2_id hMI.2.1]; exact hMI), (by repeat (first | exact FrO.rf _ _ _ | refine FrO.up ?_ (by omega) (by omega)))⟩; unfold s_least; (try simp only [inN, rng, zj0_t, zj0_e, zj1_t, zj1_e, zj2_t, zj2_e, Lpd]); (try simp only [show Lsc (wK g) (cn, fr, to, hv, dy, an, af) = lsc g fr hv from rfl]); (repeat' split) <;> first | (exfalso; omega) | contradiction | rfl) d_MO_least_117
                        · exact absurd c_19 (by first | omega | decide)
                      · refine lv_aload_n hx hb d_MO_least_77 rfl (lv_at hl 4 rfl) ?_
                        refine gf_MO_107 hc hw d_MO_least_78 (v := .int (nI 2)) (congrArg Value.int (u2_same _ _ _ _)) ?_
                        refine lv_istore (lv' := [(5, .int (nI 2)), (7, .int (nI (pdS 2 zj0 zj1 fr to dy an (lsc g fr hv) cn))), (6, .int (nI (pdS 1 zj0 zj1 fr to dy an (lsc g fr hv) cn))), (4, .int (nI lw)), (0, .ref (wad g 58)), (1, .int (nI zj0)), (2, .int (nI zj1)), (3, .int (nI zj2))]) hx hb d_MO_least_81 hl (by decide) rfl (fun ls hl => ?_)
                        refine lv_iload hx hb d_MO_least_83 (lv_at hl 1 rfl) ?_
                        refine lv_istore (lv' := [(6, .int (nI (pdS 2 zj0 zj1 fr to dy an (lsc g fr hv) cn))), (5, .int (nI 2)), (7, .int (nI (pdS 2 zj0 zj1 fr to dy an (lsc g fr hv) cn))), (4, .int (nI lw)), (0, .ref (wad g 58)), (1, .int (nI zj0)), (2, .int (nI zj1)), (3, .int (nI zj2))]) hx hb d_MO_least_85 hl (by decide) rfl (fun ls hl => ?_)
                        refine lv_aload_n hx hb d_MO_least_87 rfl (lv_at hl 4 rfl) ?_
                        refine lv_dup hx hb d_MO_least_88 rfl ?_
                        refine gf_MO_107 hc hw d_MO_least_89 (v := .int (nI 2)) (congrArg Value.int (u2_same _ _ _ _)) ?_
                        refine lv_iconst (v := nI 1) hx hb d_MO_least_92 (by decide) ?_
                        refine q_iadd hc d_MO_least_93 ?_
                        refine pf_MO_107 hc hw d_MO_least_94 (fun H locs hw => ?_)
                        refine lv_goto (tgt := 47) hx hb d_MO_least_97 (by decide) ?_
                        refine lv_aload_n hx hb d_MO_least_47 rfl (lv_at hl 4 rfl) ?_
                        refine gf_MO_107 hc hw d_MO_least_48 (v := .int (nI 3)) (congrArg Value.int (u2_same _ _ _ _)) ?_
                        refine lv_iconst (v := nI 3) hx hb d_MO_least_51 (by decide) ?_
                        refine q_icmp_ge (tgt := 100) hc (by omega) (by omega) d_MO_least_52 (by decide) (fun c_21 => ?_) (fun c_21 => ?_)
                        · refine lv_aload_n hx hb d_MO_least_100 rfl (lv_at hl 4 rfl) ?_
                          refine lv_iload hx hb d_MO_least_101 (lv_at hl 3 rfl) ?_
                          refine pf_MO_107 hc hw d_MO_least_103 (fun H locs hw => ?_)
                          refine lv_iload_n hx hb d_MO_least_106 rfl (lv_at hl 7 rfl) ?_
                          refine q_if_ne (tgt := 115) hc (by omega) d_MO_least_107 (by decide) (fun c_22 => ?_) (fun c_22 => ?_)
                          · refine lv_iload hx hb d_MO_least_115 (lv_at hl 0 rfl) ?_
                            exact W_i hc hw hr hlocks (by refine ⟨congrArg (fun z => some (Value.int z)) ?_, rfl, (by simp only [u2_u2]; rw [u2_id hMI.2.1]; exact hMI), (by repeat (first | exact FrO.rf _ _ _ | refine FrO.up ?_ (by omega) (by omega)))⟩; unfold s_least; (try simp only [inN, rng, zj0_t, zj0_e, zj1_t, zj1_e, zj2_t, zj2_e, Lpd]); (try simp only [show Lsc (wK g) (cn, fr, to, hv, dy, an, af) = lsc g fr hv from rfl]); (repeat' split) <;> first | (exfalso; omega) | contradiction | rfl) d_MO_least_117
                          · refine lv_iload hx hb d_MO_least_110 (lv_at hl 1 rfl) ?_
                            refine lv_goto (tgt := 117) hx hb d_MO_least_112 (by decide) ?_
                            exact W_i hc hw hr hlocks (by refine ⟨congrArg (fun z => some (Value.int z)) ?_, rfl, (by simp only [u2_u2]; rw [u2_id hMI.2.1]; exact hMI), (by repeat (first | exact FrO.rf _ _ _ | refine FrO.up ?_ (by omega) (by omega)))⟩; unfold s_least; (try simp only [inN, rng, zj0_t, zj0_e, zj1_t, zj1_e, zj2_t, zj2_e, Lpd]); (try simp only [show Lsc (wK g) (cn, fr, to, hv, dy, an, af) = lsc g fr hv from rfl]); (repeat' split) <;> first | (exfalso; omega) | contradiction | rfl) d_MO_least_117
                        · exact absurd c_21 (by first | omega | decide)
          · exact absurd c_5 (by decide)
      · try unfold rng at c_3
        refine lv_bipush (v := (-2)) hx hb d_MO_least_26 (by decide) ?_
        exact W_i hc hw hr hlocks (by refine ⟨congrArg (fun z => some (Value.int z)) ?_, rfl, hMI, (by repeat (first | exact FrO.rf _ _ _ | refine FrO.up ?_ (by omega) (by omega)))⟩; unfold s_least; (try simp only [inN, rng, zj0_t, zj0_e, zj1_t, zj1_e, Lpd]); (try simp only [show Lsc (wK g) (cn, fr, to, hv, dy, an, af) = lsc g fr hv from rfl]); (repeat' split) <;> first | (exfalso; omega) | contradiction | rfl) d_MO_least_28
  · try unfold inN at c_1
    refine lv_iconst (v := (-1)) hx hb d_MO_least_8 (by decide) ?_
    exact W_i hc hw hr hlocks (by refine ⟨congrArg (fun z => some (Value.int z)) ?_, rfl, hMI, (by repeat (first | exact FrO.rf _ _ _ | refine FrO.up ?_ (by omega) (by omega)))⟩; unfold s_least; (try simp only [inN, rng, Lpd]); (try simp only [show Lsc (wK g) (cn, fr, to, hv, dy, an, af) = lsc g fr hv from rfl]); (repeat' split) <;> first | (exfalso; omega) | contradiction | rfl) d_MO_least_9
