/-! printed by wip/gen/meths16.py: the model, parts -/
def mnf (st : Nat) (f : Nat → Nat) : Nat → Nat
  | 0 => st
  | n + 1 => if f (n + 1) < mnf st f n then f (n + 1) else mnf st f n
theorem mnf_le {st : Nat} {f : Nat → Nat} : ∀ n, mnf st f n ≤ st := by
  intro n
  induction n with
  | zero => exact Nat.le_refl _
  | succ n ih => unfold mnf; split <;> omega
theorem mnf_t {st : Nat} {f : Nat → Nat} {n : Nat} (h : f (n + 1) < mnf st f n) : mnf st f (n + 1) = f (n + 1) := by show (if _ then _ else _) = _; rw [if_pos h]
theorem mnf_f {st : Nat} {f : Nat → Nat} {n : Nat} (h : ¬ f (n + 1) < mnf st f n) : mnf st f (n + 1) = mnf st f n := by show (if _ then _ else _) = _; rw [if_neg h]
/-- what the parts that remain cost at least (1000000000: there is no way) -/
def lO (pp : Nat → Nat → Nat) (n : Nat) : Nat → Nat → Nat
  | 0, left => if left = 0 then 0 else 1000000000
  | r + 1, left => mnf 1000000000 (fun w => lO pp n r (left - w) + pp (n - (r + 1)) w) left
theorem lO_s {pp : Nat → Nat → Nat} {n q left : Nat} (h : q < n) : lO pp n (n - q) left = mnf 1000000000 (fun w => lO pp n (n - (q + 1)) (left - w) + pp q w) left := by
  have e : n - q = (n - (q + 1)) + 1 := by omega
  have e2 : n - (n - (q + 1) + 1) = q := by omega
  rw [e]
  show mnf _ _ _ = _
  rw [e2]
theorem lO_le {pp : Nat → Nat → Nat} {n : Nat} : ∀ r left, lO pp n r left ≤ 1000000000 := by
  intro r left
  cases r with
  | zero => unfold lO; split <;> omega
  | succ r => exact mnf_le _
set_option maxHeartbeats 4000000 in
theorem c_MO_partPays (l : Launch) (D : va_G) (g : wG) (F : wF) (pc : Nat) (lf : Nat → Nat) (lw : Nat) (hPI : PI g pc lf) (hPM : PM g F pc lf) (hlw : lw ≤ 2) (h6 : F 58 6 = nI lw) (j k w a : Nat) (hj : j < pc) (hk : k < 6) (hw99 : w ≤ 99) (ha : a ≤ 200) (h78 : F 78 k = nI a) : CR l y_MO_partPays b_MO_partPays 4 (Option.some Jvm.ClassFile.FieldType.int) 1 D g F [.ref (wad g 58), .int (nI j), .int (nI k), .int (nI w)] (.int (nI (pys lw (shw (wK g j) w) a))) := by
  refine CR.start rfl (Nat.le_of_ble_eq_true rfl) ?_
  intro p e s m args below meth c A ls hc hr hlocks hw hl
  have hl : lv_has ls 4 [(0, .ref (wad g 58)), (1, .int (nI j)), (2, .int (nI k)), (3, .int (nI w))] := hl
  have hx := hc.1
  have hb := hc.2.1
  obtain ⟨hpc6, hpcm, hm6, hpc0, hper⟩ := id hPI
  have hs := shw_le (k := wK g j) (w := w) (by omega)
  refine lv_aload_n hx hb d_MO_partPays_0 rfl (lv_at hl 0 rfl) ?_
  refine lv_aload_n hx hb d_MO_partPays_1 rfl (lv_at hl 0 rfl) ?_
  refine lv_iload_n hx hb d_MO_partPays_2 rfl (lv_at hl 1 rfl) ?_
  refine lv_iload_n hx hb d_MO_partPays_3 rfl (lv_at hl 3 rfl) ?_
  refine kRV hc hw lk_MO_119 (As := [.int (nI j), .int (nI w)]) (rest := [.ref (wad g 58)]) (c_MO_shows l D g _ (j) (w) (wK g (j)) (by omega) (by omega) ((hPM.2 (j) (by omega)).1) (hper (j) (by omega)).1) (rc_MO hw) ⟨Nat.le_of_ble_eq_true rfl, Nat.le_of_ble_eq_true rfl⟩ ⟨Nat.le_refl _, Nat.le_refl _⟩ rfl hl rfl (Nat.le_of_ble_eq_true rfl) d_MO_partPays_4 ?_
  refine lv_aload_n hx hb d_MO_partPays_7 rfl (lv_at hl 0 rfl) ?_
  refine gf_MO_67 hc hw d_MO_partPays_8 ?_
  refine lv_iload_n hx hb d_MO_partPays_11 rfl (lv_at hl 2 rfl) ?_
  refine r_iald hc hw (h := 78) (n := 6) (i := k) (fun _ => rfl) (by omega) (by omega) (by decide) d_MO_partPays_12 (v := .int (nI a)) (congrArg Value.int (h78)) ?_
  refine kRV hc hw lk_MO_136 (As := [.int (nI (shw (wK g j) w)), .int (nI a)]) (rest := []) (c_MO_pays l D g _ lw (shw (wK g j) w) (a) (by omega) (by omega) hlw (h6)) (rc_MO hw) ⟨Nat.le_of_ble_eq_true rfl, Nat.le_of_ble_eq_true rfl⟩ ⟨Nat.le_refl _, Nat.le_refl _⟩ rfl hl rfl (Nat.le_of_ble_eq_true rfl) d_MO_partPays_13 ?_
  exact R_i hc hr hlocks (rfl) d_MO_partPays_16
set_option maxHeartbeats 4000000 in
theorem c_MO_layParts (l : Launch) (D : va_G) (g : wG) (F : wF) (pc : Nat) (lf : Nat → Nat) (lw : Nat) (hPI : PI g pc lf) (hPM : PM g F pc lf) (hlw : lw ≤ 2) (h6 : F 58 6 = nI lw) (j We n : Nat) (an : Nat → Nat) (hj : j < pc) (hW : We ≤ 99) (hn1 : 1 ≤ n) (hn6 : n ≤ 6) (han : ∀ k, k < n → an k ≤ 200 ∧ F 78 k = nI (an k)) : CW l y_MO_layParts b_MO_layParts 9 (Option.none) 2 0 0 D g F [.ref (wad g 58), .int (nI j), .int (nI We), .int (nI n)] (fun v g2 u => v = none ∧ g = g2 ∧ (∀ t,  t ≤ n → ∀ w, w ≤ We → u 77 (100 * t + w) = nI (lO (fun k w => pys lw (shw (wK g j) w) (an k)) n (n - t) w)) ∧ ∀ k z, k ≠ 77 → u k z = F k z) := by
  refine CW.start rfl (Nat.le_of_ble_eq_true rfl) ?_
  intro p e s m args below meth c A ls hc hr hlocks hw hl
  have hl : lv_has ls 9 [(0, .ref (wad g 58)), (1, .int (nI j)), (2, .int (nI We)), (3, .int (nI n))] := hl
  have hx := hc.1
  have hb := hc.2.1
  obtain ⟨hpc6, hpcm, hm6, hpc0, hper⟩ := id hPI
  refine lv_iconst (v := nI 0) hx hb d_MO_layParts_0 (by decide) ?_
  refine lv_istore (lv' := [(4, .int (nI 0)), (0, .ref (wad g 58)), (1, .int (nI j)), (2, .int (nI We)), (3, .int (nI n))]) hx hb d_MO_layParts_1 hl (by decide) rfl (fun ls hl => ?_)
  have loop_3 : ∀ (n_3 : Nat) (i : Nat) (F9 : wF) (H : Heap) (locs : List Loc) (ls : Array Slot), (We + 1 - i) < n_3 → (i ≤ We + 1) → (∀ w, w < i → F9 77 (100 * n + w) = nI (lO (fun k w => pys lw (shw (wK g j) w) (an k)) n 0 w)) → (∀ k z, k ≠ 77 → F9 k z = F k z) → Wd D g F9 A s.heap H locs s → lv_has ls 9 [(0, .ref (wad g 58)), (1, .int (nI j)), (2, .int (nI We)), (3, .int (nI n)), (4, .int (nI i))] → W p l e (rmc 2 0 0) s m args below meth c H locs 0 0 (MQ below (Qw (fun v g2 u => v = none ∧ g = g2 ∧ (∀ t,  t ≤ n → ∀ w, w ≤ We → u 77 (100 * t + w) = nI (lO (fun k w => pys lw (shw (wK g j) w) (an k)) n (n - t) w)) ∧ ∀ k z, k ≠ 77 → u k z = F k z) (Bw D A) A) args s 0 0 A) (F0 m 3 ls []) := by
    intro n_3
    induction n_3 with
    | zero => intro i F9 H locs ls hm; exact absurd hm (Nat.not_lt_zero _)
    | succ n_3 ih_3 =>
      intro i F9 H locs ls hm_3 hi hz hF0 hw hl
      refine lv_iload hx hb d_MO_layParts_3 (lv_at hl 4 rfl) ?_
      refine lv_iload_n hx hb d_MO_layParts_5 rfl (lv_at hl 2 rfl) ?_
      refine q_icmp_gt (tgt := 38) hc (by omega) (by omega) d_MO_layParts_6 (by decide) (fun c_1 => ?_) (fun c_1 => ?_)
      · refine lv_iload_n hx hb d_MO_layParts_38 rfl (lv_at hl 3 rfl) ?_
        refine lv_iconst (v := nI 1) hx hb d_MO_layParts_39 (by decide) ?_
        refine q_isub hc (by omega) d_MO_layParts_40 ?_
        refine lv_istore (lv' := [(4, .int (nI (n - 1))), (0, .ref (wad g 58)), (1, .int (nI j)), (2, .int (nI We)), (3, .int (nI n))]) hx hb d_MO_layParts_41 hl (by decide) rfl (fun ls hl => ?_)
        have loop_43 : ∀ (n_43 : Nat) (r : Nat) (F1 : wF) (H : Heap) (locs : List Loc) (ls : Array Slot), (r) < n_43 → (r ≤ n) → (∀ t, r ≤ t → t ≤ n → ∀ w, w ≤ We → F1 77 (100 * t + w) = nI (lO (fun k w => pys lw (shw (wK g j) w) (an k)) n (n - t) w)) → (∀ k z, k ≠ 77 → F1 k z = F k z) → Wd D g F1 A s.heap H locs s → lv_has ls 9 [(0, .ref (wad g 58)), (1, .int (nI j)), (2, .int (nI We)), (3, .int (nI n)), (4, .int (dcI r))] → W p l e (rmc 2 0 0) s m args below meth c H locs 0 0 (MQ below (Qw (fun v g2 u => v = none ∧ g = g2 ∧ (∀ t,  t ≤ n → ∀ w, w ≤ We → u 77 (100 * t + w) = nI (lO (fun k w => pys lw (shw (wK g j) w) (an k)) n (n - t) w)) ∧ ∀ k z, k ≠ 77 → u k z = F k z) (Bw D A) A) args s 0 0 A) (F0 m 43 ls []) := by
          intro n_43
          induction n_43 with
          | zero => intro r F1 H locs ls hm; exact absurd hm (Nat.not_lt_zero _)
          | succ n_43 ih_43 =>
            intro r F1 H locs ls hm_43 hrn hT zhF1 hw hl
            refine lv_iload hx hb d_MO_layParts_43 (lv_at hl 4 rfl) ?_
            rcases r with _ | q
            · refine u_if_lt (tgt := 151) (X := (-1)) hc (by decide) d_MO_layParts_45 (by decide) (fun c_2 => ?_) (fun c_2 => ?_)
              · exact W_v hc hw hr hlocks (⟨rfl, rfl, fun t h1 => hT t (Nat.zero_le t) h1, zhF1⟩) d_MO_layParts_151
              · exact absurd c_2 (by decide)
            · have hl : lv_has ls 9 [(0, .ref (wad g 58)), (1, .int (nI j)), (2, .int (nI We)), (3, .int (nI n)), (4, .int (nI q))] := hl
              refine q_if_lt (tgt := 151) hc (by omega) d_MO_layParts_45 (by decide) ?_
              refine lv_iconst (v := nI 0) hx hb d_MO_layParts_48 (by decide) ?_
              refine lv_istore (lv' := [(5, .int (nI 0)), (0, .ref (wad g 58)), (1, .int (nI j)), (2, .int (nI We)), (3, .int (nI n)), (4, .int (nI q))]) hx hb d_MO_layParts_49 hl (by decide) rfl (fun ls hl => ?_)
              have loop_51 : ∀ (n_51 : Nat) (i : Nat) (F2 : wF) (H : Heap) (locs : List Loc) (ls : Array Slot), (We + 1 - i) < n_51 → (i ≤ We + 1) → (∀ w, w < i → F2 77 (100 * q + w) = nI (lO (fun k w => pys lw (shw (wK g j) w) (an k)) n (n - q) w)) → (∀ k z, ¬ (k = 77 ∧ 100 * q ≤ z ∧ z < 100 * q + 100) → F2 k z = F1 k z) → Wd D g F2 A s.heap H locs s → lv_has ls 9 [(0, .ref (wad g 58)), (1, .int (nI j)), (2, .int (nI We)), (3, .int (nI n)), (4, .int (nI q)), (5, .int (nI i))] → W p l e (rmc 2 0 0) s m args below meth c H locs 0 0 (MQ below (Qw (fun v g2 u => v = none ∧ g = g2 ∧ (∀ t,  t ≤ n → ∀ w, w ≤ We → u 77 (100 * t + w) = nI (lO (fun k w => pys lw (shw (wK g j) w) (an k)) n (n - t) w)) ∧ ∀ k z, k ≠ 77 → u k z = F k z) (Bw D A) A) args s 0 0 A) (F0 m 51 ls []) := by
                intro n_51
                induction n_51 with
                | zero => intro i F2 H locs ls hm; exact absurd hm (Nat.not_lt_zero _)
                | succ n_51 ih_51 =>
                  intro i F2 H locs ls hm_51 hi hin zhF2 hw hl
                  have hG2 : ∀ k z, k ≠ 77 → F2 k z = F k z := fun k z h1 => (zhF2 k z (by omega)).trans (zhF1 k z h1)
                  refine lv_iload hx hb d_MO_layParts_51 (lv_at hl 5 rfl) ?_
                  refine lv_iload_n hx hb d_MO_layParts_53 rfl (lv_at hl 2 rfl) ?_
                  refine q_icmp_gt (tgt := 145) hc (by omega) (by omega) d_MO_layParts_54 (by decide) (fun c_4 => ?_) (fun c_4 => ?_)
                  · refine lv_iinc (v := nI q + (-1)) (lv' := [(4, .int (nI q + (-1))), (0, .ref (wad g 58)), (1, .int (nI j)), (2, .int (nI We)), (3, .int (nI n)), (5, .int (nI i))]) hx hb d_MO_layParts_145 hl (k := 4) rfl rfl (by decide) rfl (fun ls hl => ?_)
                    refine lv_goto (tgt := 43) hx hb d_MO_layParts_148 (by decide) ?_
                    have hl : lv_has ls 9 [(4, .int (dcI q)), (0, .ref (wad g 58)), (1, .int (nI j)), (2, .int (nI We)), (3, .int (nI n)), (5, .int (nI i))] := by rw [show dcI q = nI q + (-1) from by exact dcI_e _]; exact hl
                    exact ih_43 q _ _ _ _ (by omega) (by omega) (fun z h0 h1 w h3 => by rcases (show z = q ∨ q + 1 ≤ z by omega) with e | e; (rw [e]; exact hin w (by omega)); exact (zhF2 77 _ (by omega)).trans (hT z e h1 w h3)) (hG2) hw (lv_sub hl [1, 2, 3, 4, 0] rfl)
                  · refine lv_ldc hx hb hc.2.2.2.1 (hc.2.2.2.2 _ g_842) d_MO_layParts_57 ?_
                    rw [show (1000000000 : Int32) = nI 1000000000 from by decide +kernel]
                    refine lv_istore (lv' := [(6, .int (nI 1000000000)), (0, .ref (wad g 58)), (1, .int (nI j)), (2, .int (nI We)), (3, .int (nI n)), (4, .int (nI q)), (5, .int (nI i))]) hx hb d_MO_layParts_59 hl (by decide) rfl (fun ls hl => ?_)
                    refine lv_iconst (v := nI 1) hx hb d_MO_layParts_61 (by decide) ?_
                    refine lv_istore (lv' := [(7, .int (nI 1)), (6, .int (nI 1000000000)), (0, .ref (wad g 58)), (1, .int (nI j)), (2, .int (nI We)), (3, .int (nI n)), (4, .int (nI q)), (5, .int (nI i))]) hx hb d_MO_layParts_62 hl (by decide) rfl (fun ls hl => ?_)
                    have loop_64 : ∀ (n_64 : Nat) (v : Nat)  (H : Heap) (locs : List Loc) (ls : Array Slot), (i - v) < n_64 → (v ≤ i) → Wd D g F2 A s.heap H locs s → lv_has ls 9 [(0, .ref (wad g 58)), (1, .int (nI j)), (2, .int (nI We)), (3, .int (nI n)), (4, .int (nI q)), (5, .int (nI i)), (6, .int (nI (mnf 1000000000 (fun w => lO (fun k w => pys lw (shw (wK g j) w) (an k)) n (n - (q + 1)) (i - w) + pys lw (shw (wK g j) w) (an q)) v))), (7, .int (nI (v + 1)))] → W p l e (rmc 2 0 0) s m args below meth c H locs 0 0 (MQ below (Qw (fun v g2 u => v = none ∧ g = g2 ∧ (∀ t,  t ≤ n → ∀ w, w ≤ We → u 77 (100 * t + w) = nI (lO (fun k w => pys lw (shw (wK g j) w) (an k)) n (n - t) w)) ∧ ∀ k z, k ≠ 77 → u k z = F k z) (Bw D A) A) args s 0 0 A) (F0 m 64 ls []) := by
                      intro n_64
                      induction n_64 with
                      | zero => intro v  H locs ls hm; exact absurd hm (Nat.not_lt_zero _)
                      | succ n_64 ih_64 =>
                        intro v  H locs ls hm_64 hv hw hl
                        have hml := mnf_le (st := 1000000000) (f := fun w => lO (fun k w => pys lw (shw (wK g j) w) (an k)) n (n - (q + 1)) (i - w) + pys lw (shw (wK g j) w) (an q)) v
                        have hll := lO_le (pp := (fun k w => pys lw (shw (wK g j) w) (an k))) (n := n) (n - (q + 1)) (i - (v + 1))
                        refine lv_iload hx hb d_MO_layParts_64 (lv_at hl 7 rfl) ?_
                        refine lv_iload hx hb d_MO_layParts_66 (lv_at hl 5 rfl) ?_
                        refine q_icmp_gt (tgt := 124) hc (by omega) (by omega) d_MO_layParts_68 (by decide) (fun c_5 => ?_) (fun c_5 => ?_)
                        · refine lv_aload_n hx hb d_MO_layParts_124 rfl (lv_at hl 0 rfl) ?_
                          refine gf_MO_64 hc hw d_MO_layParts_125 ?_
                          refine lv_bipush (v := nI 100) hx hb d_MO_layParts_128 (by decide) ?_
                          refine lv_iload hx hb d_MO_layParts_130 (lv_at hl 4 rfl) ?_
                          refine q_imul hc d_MO_layParts_132 ?_
                          refine lv_iload hx hb d_MO_layParts_133 (lv_at hl 5 rfl) ?_
                          refine q_iadd hc d_MO_layParts_135 ?_
                          refine lv_iload hx hb d_MO_layParts_136 (lv_at hl 6 rfl) ?_
                          refine r_iast hc hw (h := 77) (n := 700) (i := (100 * q) + i) (fun _ => rfl) (by omega) (by omega) (by decide) d_MO_layParts_138 (fun H locs hw => ?_)
                          refine lv_iinc (v := nI (i + 1)) (lv' := [(5, .int (nI (i + 1))), (0, .ref (wad g 58)), (1, .int (nI j)), (2, .int (nI We)), (3, .int (nI n)), (4, .int (nI q)), (6, .int (nI (mnf 1000000000 (fun w => lO (fun k w => pys lw (shw (wK g j) w) (an k)) n (n - (q + 1)) (i - w) + pys lw (shw (wK g j) w) (an q)) v))), (7, .int (nI (v + 1)))]) hx hb d_MO_layParts_139 hl (k := 5) rfl (nI_inc1 _) (by decide) rfl (fun ls hl => ?_)
                          refine lv_goto (tgt := 51) hx hb d_MO_layParts_142 (by decide) ?_
                          exact ih_51 (i + 1) _ _ _ _ (by omega) (by omega) (fun w hw => by rcases (show w < i ∨ w = i by omega) with e | e; exact (u2_i (by omega)).trans (hin w e); (rw [e]; exact (u2_same _ _ _ _).trans (congrArg nI (by rw [lO_s (show q < n by omega), show v = i by omega])))) (fun k z h1 => (u2_ij2 (by omega)).trans (zhF2 k z h1)) hw (lv_sub hl [1, 2, 3, 4, 5, 0] rfl)
                        · have hsw := shw_le (k := wK g j) (w := v + 1) (by omega)
                          have hpy := pys_le lw (shw (wK g j) (v + 1)) (an q)
                          have ha9 := (han q (by omega)).1
                          refine lv_aload_n hx hb d_MO_layParts_71 rfl (lv_at hl 0 rfl) ?_
                          refine gf_MO_64 hc hw d_MO_layParts_72 ?_
                          refine lv_bipush (v := nI 100) hx hb d_MO_layParts_75 (by decide) ?_
                          refine lv_iload hx hb d_MO_layParts_77 (lv_at hl 4 rfl) ?_
                          refine q_imul hc d_MO_layParts_79 ?_
                          refine lv_bipush (v := nI 100) hx hb d_MO_layParts_80 (by decide) ?_
                          refine q_iadd hc d_MO_layParts_82 ?_
                          refine lv_iload hx hb d_MO_layParts_83 (lv_at hl 5 rfl) ?_
                          refine q_iadd hc d_MO_layParts_85 ?_
                          refine lv_iload hx hb d_MO_layParts_86 (lv_at hl 7 rfl) ?_
                          refine q_isub hc (by omega) d_MO_layParts_88 ?_
                          refine r_iald hc hw (h := 77) (n := 700) (i := (((100 * q) + 100) + i) - (v + 1)) (fun _ => rfl) (by omega) (by omega) (by decide) d_MO_layParts_89 (v := .int (nI (lO (fun k w => pys lw (shw (wK g j) w) (an k)) n (n - (q + 1)) (i - (v + 1))))) (congrArg Value.int (by rw [show (((100 * q) + 100) + i) - (v + 1) = 100 * (q + 1) + (i - (v + 1)) by omega, zhF2 77 _ (by omega)]; exact hT (q + 1) (by omega) (by omega) (i - (v + 1)) (by omega))) ?_
                          refine lv_aload_n hx hb d_MO_layParts_90 rfl (lv_at hl 0 rfl) ?_
                          refine lv_iload_n hx hb d_MO_layParts_91 rfl (lv_at hl 1 rfl) ?_
                          refine lv_iload hx hb d_MO_layParts_92 (lv_at hl 4 rfl) ?_
                          refine lv_iload hx hb d_MO_layParts_94 (lv_at hl 7 rfl) ?_
                          refine kRV hc hw lk_MO_176 (As := [.int (nI j), .int (nI q), .int (nI (v + 1))]) (rest := [.int (nI (lO (fun k w => pys lw (shw (wK g j) w) (an k)) n (n - (q + 1)) (i - (v + 1))))]) (c_MO_partPays l D g _ pc lf lw hPI (PM_c hPM (hG2 58 5 (by decide)) (funext fun z => hG2 62 z (by decide)) (funext fun z => hG2 63 z (by decide))) hlw ((hG2 58 6 (by decide)).trans h6) j (q) (v + 1) (an (q)) hj (by omega) (by omega) (han (q) (by omega)).1 ((hG2 78 (q) (by decide)).trans (han (q) (by omega)).2)) (rc_MO hw) ⟨Nat.le_of_ble_eq_true rfl, Nat.le_of_ble_eq_true rfl⟩ ⟨Nat.le_refl _, Nat.le_refl _⟩ rfl hl rfl (Nat.le_of_ble_eq_true rfl) d_MO_layParts_96 ?_
                          refine q_iadd hc d_MO_layParts_99 ?_
                          refine lv_istore (lv' := [(8, .int (nI ((lO (fun k w => pys lw (shw (wK g j) w) (an k)) n (n - (q + 1)) (i - (v + 1))) + (pys lw (shw (wK g j) (v + 1)) (an q))))), (0, .ref (wad g 58)), (1, .int (nI j)), (2, .int (nI We)), (3, .int (nI n)), (4, .int (nI q)), (5, .int (nI i)), (6, .int (nI (mnf 1000000000 (fun w => lO (fun k w => pys lw (shw (wK g j) w) (an k)) n (n - (q + 1)) (i - w) + pys lw (shw (wK g j) w) (an q)) v))), (7, .int (nI (v + 1)))]) hx hb d_MO_layParts_100 hl (by decide) rfl (fun ls hl => ?_)
                          refine lv_iload hx hb d_MO_layParts_102 (lv_at hl 0 rfl) ?_
                          refine lv_iload hx hb d_MO_layParts_104 (lv_at hl 7 rfl) ?_
                          refine q_icmp_ge (tgt := 114) hc (by omega) (by omega) d_MO_layParts_106 (by decide) (fun c_6 => ?_) (fun c_6 => ?_)
                          · have hbs := mnf_f (st := 1000000000) (f := fun w => lO (fun k w => pys lw (shw (wK g j) w) (an k)) n (n - (q + 1)) (i - w) + pys lw (shw (wK g j) w) (an q)) (n := v) (by show ¬ _ < _; omega)
                            refine lv_iload hx hb d_MO_layParts_114 (lv_at hl 7 rfl) ?_
                            refine lv_istore (lv' := [(6, .int (nI (mnf 1000000000 (fun w => lO (fun k w => pys lw (shw (wK g j) w) (an k)) n (n - (q + 1)) (i - w) + pys lw (shw (wK g j) w) (an q)) v))), (8, .int (nI ((lO (fun k w => pys lw (shw (wK g j) w) (an k)) n (n - (q + 1)) (i - (v + 1))) + (pys lw (shw (wK g j) (v + 1)) (an q))))), (0, .ref (wad g 58)), (1, .int (nI j)), (2, .int (nI We)), (3, .int (nI n)), (4, .int (nI q)), (5, .int (nI i)), (7, .int (nI (v + 1)))]) hx hb d_MO_layParts_116 hl (by decide) rfl (fun ls hl => ?_)
                            refine lv_iinc (v := nI ((v + 1) + 1)) (lv' := [(7, .int (nI ((v + 1) + 1))), (6, .int (nI (mnf 1000000000 (fun w => lO (fun k w => pys lw (shw (wK g j) w) (an k)) n (n - (q + 1)) (i - w) + pys lw (shw (wK g j) w) (an q)) v))), (8, .int (nI ((lO (fun k w => pys lw (shw (wK g j) w) (an k)) n (n - (q + 1)) (i - (v + 1))) + (pys lw (shw (wK g j) (v + 1)) (an q))))), (0, .ref (wad g 58)), (1, .int (nI j)), (2, .int (nI We)), (3, .int (nI n)), (4, .int (nI q)), (5, .int (nI i))]) hx hb d_MO_layParts_118 hl (k := 8) rfl (nI_inc1 _) (by decide) rfl (fun ls hl => ?_)
                            refine lv_goto (tgt := 64) hx hb d_MO_layParts_121 (by decide) ?_
                            have hl : lv_has ls 9 [(7, .int (nI ((v + 1) + 1))), (6, .int (nI (mnf 1000000000 (fun w => lO (fun k w => pys lw (shw (wK g j) w) (an k)) n (n - (q + 1)) (i - w) + pys lw (shw (wK g j) w) (an q)) (v + 1)))), (8, .int (nI ((lO (fun k w => pys lw (shw (wK g j) w) (an k)) n (n - (q + 1)) (i - (v + 1))) + (pys lw (shw (wK g j) (v + 1)) (an q))))), (0, .ref (wad g 58)), (1, .int (nI j)), (2, .int (nI We)), (3, .int (nI n)), (4, .int (nI q)), (5, .int (nI i))] := by rw [show mnf 1000000000 (fun w => lO (fun k w => pys lw (shw (wK g j) w) (an k)) n (n - (q + 1)) (i - w) + pys lw (shw (wK g j) w) (an q)) (v + 1) = mnf 1000000000 (fun w => lO (fun k w => pys lw (shw (wK g j) w) (an k)) n (n - (q + 1)) (i - w) + pys lw (shw (wK g j) w) (an q)) v from by exact hbs]; exact hl
                            exact ih_64 (v + 1) _ _ _ (by omega) (by omega) hw (lv_sub hl [3, 4, 5, 6, 7, 8, 1, 0] rfl)
                          · have hbs := mnf_t (st := 1000000000) (f := fun w => lO (fun k w => pys lw (shw (wK g j) w) (an k)) n (n - (q + 1)) (i - w) + pys lw (shw (wK g j) w) (an q)) (n := v) c_6
                            refine lv_iload hx hb d_MO_layParts_109 (lv_at hl 0 rfl) ?_
                            refine lv_goto (tgt := 116) hx hb d_MO_layParts_111 (by decide) ?_
                            refine lv_istore (lv' := [(6, .int (nI ((lO (fun k w => pys lw (shw (wK g j) w) (an k)) n (n - (q + 1)) (i - (v + 1))) + (pys lw (shw (wK g j) (v + 1)) (an q))))), (8, .int (nI ((lO (fun k w => pys lw (shw (wK g j) w) (an k)) n (n - (q + 1)) (i - (v + 1))) + (pys lw (shw (wK g j) (v + 1)) (an q))))), (0, .ref (wad g 58)), (1, .int (nI j)), (2, .int (nI We)), (3, .int (nI n)), (4, .int (nI q)), (5, .int (nI i)), (7, .int (nI (v + 1)))]) hx hb d_MO_layParts_116 hl (by decide) rfl (fun ls hl => ?_)
                            refine lv_iinc (v := nI ((v + 1) + 1)) (lv' := [(7, .int (nI ((v + 1) + 1))), (6, .int (nI ((lO (fun k w => pys lw (shw (wK g j) w) (an k)) n (n - (q + 1)) (i - (v + 1))) + (pys lw (shw (wK g j) (v + 1)) (an q))))), (8, .int (nI ((lO (fun k w => pys lw (shw (wK g j) w) (an k)) n (n - (q + 1)) (i - (v + 1))) + (pys lw (shw (wK g j) (v + 1)) (an q))))), (0, .ref (wad g 58)), (1, .int (nI j)), (2, .int (nI We)), (3, .int (nI n)), (4, .int (nI q)), (5, .int (nI i))]) hx hb d_MO_layParts_118 hl (k := 8) rfl (nI_inc1 _) (by decide) rfl (fun ls hl => ?_)
                            refine lv_goto (tgt := 64) hx hb d_MO_layParts_121 (by decide) ?_
                            have hl : lv_has ls 9 [(7, .int (nI ((v + 1) + 1))), (6, .int (nI (mnf 1000000000 (fun w => lO (fun k w => pys lw (shw (wK g j) w) (an k)) n (n - (q + 1)) (i - w) + pys lw (shw (wK g j) w) (an q)) (v + 1)))), (8, .int (nI ((lO (fun k w => pys lw (shw (wK g j) w) (an k)) n (n - (q + 1)) (i - (v + 1))) + (pys lw (shw (wK g j) (v + 1)) (an q))))), (0, .ref (wad g 58)), (1, .int (nI j)), (2, .int (nI We)), (3, .int (nI n)), (4, .int (nI q)), (5, .int (nI i))] := by rw [show mnf 1000000000 (fun w => lO (fun k w => pys lw (shw (wK g j) w) (an k)) n (n - (q + 1)) (i - w) + pys lw (shw (wK g j) w) (an q)) (v + 1) = (lO (fun k w => pys lw (shw (wK g j) w) (an k)) n (n - (q + 1)) (i - (v + 1))) + (pys lw (shw (wK g j) (v + 1)) (an q)) from by exact hbs]; exact hl
                            exact ih_64 (v + 1) _ _ _ (by omega) (by omega) hw (lv_sub hl [3, 4, 5, 6, 7, 8, 1, 0] rfl)
                    have hl : lv_has ls 9 [(7, .int (nI 1)), (6, .int (nI (mnf 1000000000 (fun w => lO (fun k w => pys lw (shw (wK g j) w) (an k)) n (n - (q + 1)) (i - w) + pys lw (shw (wK g j) w) (an q)) 0))), (0, .ref (wad g 58)), (1, .int (nI j)), (2, .int (nI We)), (3, .int (nI n)), (4, .int (nI q)), (5, .int (nI i))] := by rw [show mnf 1000000000 (fun w => lO (fun k w => pys lw (shw (wK g j) w) (an k)) n (n - (q + 1)) (i - w) + pys lw (shw (wK g j) w) (an q)) 0 = 1000000000 from by rfl]; exact hl
                    have hl : lv_has ls 9 [(7, .int (nI (0 + 1))), (6, .int (nI (mnf 1000000000 (fun w => lO (fun k w => pys lw (shw (wK g j) w) (an k)) n (n - (q + 1)) (i - w) + pys lw (shw (wK g j) w) (an q)) 0))), (0, .ref (wad g 58)), (1, .int (nI j)), (2, .int (nI We)), (3, .int (nI n)), (4, .int (nI q)), (5, .int (nI i))] := by rw [show 0 + 1 = 1 from by rfl]; exact hl
                    exact loop_64 _ 0 _ _ _ (Nat.lt_succ_self _) (by omega) hw (lv_sub hl [2, 3, 4, 5, 6, 7, 1, 0] rfl)
              exact loop_51 _ 0 _ _ _ _ (Nat.lt_succ_self _) (by omega) (fun w hw => absurd hw (Nat.not_lt_zero w)) (fun _ _ _ => rfl) hw (lv_sub hl [1, 2, 3, 4, 5, 0] rfl)
        have hl : lv_has ls 9 [(4, .int (dcI n)), (0, .ref (wad g 58)), (1, .int (nI j)), (2, .int (nI We)), (3, .int (nI n))] := by rw [show dcI n = nI (n - 1) from by obtain ⟨q, rfl⟩ : ∃ q, n = q + 1 := ⟨n - 1, by omega⟩; rfl]; exact hl
        exact loop_43 _ n _ _ _ _ (Nat.lt_succ_self _) (by omega) (fun t h0 h1 w h3 => by have e : t = n := (by omega); subst e; rw [Nat.sub_self]; exact hz w (by omega)) (hF0) hw (lv_sub hl [1, 2, 3, 4, 0] rfl)
      · refine lv_aload_n hx hb d_MO_layParts_9 rfl (lv_at hl 0 rfl) ?_
        refine gf_MO_64 hc hw d_MO_layParts_10 ?_
        refine lv_bipush (v := nI 100) hx hb d_MO_layParts_13 (by decide) ?_
        refine lv_iload_n hx hb d_MO_layParts_15 rfl (lv_at hl 3 rfl) ?_
        refine q_imul hc d_MO_layParts_16 ?_
        refine lv_iload hx hb d_MO_layParts_17 (lv_at hl 4 rfl) ?_
        refine q_iadd hc d_MO_layParts_19 ?_
        refine lv_iload hx hb d_MO_layParts_20 (lv_at hl 4 rfl) ?_
        refine q_if_ne (tgt := 29) hc (by omega) d_MO_layParts_22 (by decide) (fun c_7 => ?_) (fun c_7 => ?_)
        · refine lv_ldc hx hb hc.2.2.2.1 (hc.2.2.2.2 _ g_842) d_MO_layParts_29 ?_
          rw [show (1000000000 : Int32) = nI 1000000000 from by decide +kernel]
          refine r_iast hc hw (h := 77) (n := 700) (i := (100 * n) + i) (fun _ => rfl) (by omega) (by omega) (by decide) d_MO_layParts_31 (fun H locs hw => ?_)
          refine lv_iinc (v := nI (i + 1)) (lv' := [(4, .int (nI (i + 1))), (0, .ref (wad g 58)), (1, .int (nI j)), (2, .int (nI We)), (3, .int (nI n))]) hx hb d_MO_layParts_32 hl (k := 4) rfl (nI_inc1 _) (by decide) rfl (fun ls hl => ?_)
          refine lv_goto (tgt := 3) hx hb d_MO_layParts_35 (by decide) ?_
          exact ih_3 (i + 1) _ _ _ _ (by omega) (by omega) (fun w hw => by rcases (show w < i ∨ w = i by omega) with e | e; exact (u2_i (by omega)).trans (hz w e); (rw [e]; exact (u2_same _ _ _ _).trans (congrArg nI (by unfold lO; split <;> omega)))) (fun k z h1 => (u2_ij2 (by omega)).trans (hF0 k z h1)) hw (lv_sub hl [1, 2, 3, 4, 0] rfl)
        · refine lv_iconst (v := nI 0) hx hb d_MO_layParts_25 (by decide) ?_
          refine lv_goto (tgt := 31) hx hb d_MO_layParts_26 (by decide) ?_
          refine r_iast hc hw (h := 77) (n := 700) (i := (100 * n) + i) (fun _ => rfl) (by omega) (by omega) (by decide) d_MO_layParts_31 (fun H locs hw => ?_)
          refine lv_iinc (v := nI (i + 1)) (lv' := [(4, .int (nI (i + 1))), (0, .ref (wad g 58)), (1, .int (nI j)), (2, .int (nI We)), (3, .int (nI n))]) hx hb d_MO_layParts_32 hl (k := 4) rfl (nI_inc1 _) (by decide) rfl (fun ls hl => ?_)
          refine lv_goto (tgt := 3) hx hb d_MO_layParts_35 (by decide) ?_
          exact ih_3 (i + 1) _ _ _ _ (by omega) (by omega) (fun w hw => by rcases (show w < i ∨ w = i by omega) with e | e; exact (u2_i (by omega)).trans (hz w e); (rw [e]; exact (u2_same _ _ _ _).trans (congrArg nI (by unfold lO; split <;> omega)))) (fun k z h1 => (u2_ij2 (by omega)).trans (hF0 k z h1)) hw (lv_sub hl [1, 2, 3, 4, 0] rfl)
  exact loop_3 _ 0 _ _ _ _ (Nat.lt_succ_self _) (by omega) (fun w hw => absurd hw (Nat.not_lt_zero w)) (fun _ _ _ => rfl) hw (lv_sub hl [1, 2, 3, 4, 0] rfl)
