/-! printed by wip/gen/meths13.py: courses, the model: layCourse -/
/-- who writes turn t -/
def wh (a b t : Nat) : Nat := if t % 2 = 0 then a else b
/-- the turns that remain: what who is in turn pays, what the other one, the weight -/
def tT (K lf : Nat → Nat) (lw fine a b n : Nat) : Nat → Nat → Nat × Nat × Nat
  | 0, _ => (0, 0, 0)
  | r + 1, last => tbs (fine, 0, 0) (fun w => ((tT K lf lw fine a b n r w).2.1 + pys lw (shw (K (wh a b (n - (r + 1)))) w) (shw (K (wh a b (n - (r + 1) + 1))) last), (tT K lf lw fine a b n r w).1 + pys lw (shw (K (wh a b (n - (r + 1) + 1))) last) (shw (K (wh a b (n - (r + 1)))) w))) (lf (wh a b (n - (r + 1))))
def tT0 (K lf : Nat → Nat) (lw fine a b n : Nat) : Nat × Nat × Nat := tbs (1000000000, 0, 0) (fun w => ((tT K lf lw fine a b n (n - 1) w).2.1, (tT K lf lw fine a b n (n - 1) w).1)) (lf a)
theorem tT_s {K lf : Nat → Nat} {lw fine a b n t last : Nat} (h : t < n) : tT K lf lw fine a b n (n - t) last = tbs (fine, 0, 0) (fun w => ((tT K lf lw fine a b n (n - (t + 1)) w).2.1 + pys lw (shw (K (wh a b t)) w) (shw (K (wh a b (t + 1))) last), (tT K lf lw fine a b n (n - (t + 1)) w).1 + pys lw (shw (K (wh a b (t + 1))) last) (shw (K (wh a b t)) w))) (lf (wh a b t)) := by
  have e : n - t = (n - (t + 1)) + 1 := by omega
  have e2 : n - (n - (t + 1) + 1) = t := by omega
  rw [e]
  show tbs _ _ _ = _
  rw [e2]
theorem wh_or (a b t : Nat) : wh a b t = a ∨ wh a b t = b := by unfold wh; split; exact Or.inl rfl; exact Or.inr rfl
theorem tT_le {K lf : Nat → Nat} {lw fine a b n : Nat} (hf : fine ≤ 999) (ha : lf a ≤ 40) (hb : lf b ≤ 40) : ∀ r last, last ≤ 99 → (tT K lf lw fine a b n r last).1 ≤ 999 ∧ (tT K lf lw fine a b n r last).2.1 ≤ 1301 := by
  intro r
  induction r with
  | zero => intro last _; exact ⟨Nat.zero_le _, Nat.zero_le _⟩
  | succ r ih =>
    intro last hl
    show (tbs _ _ _).1 ≤ 999 ∧ (tbs _ _ _).2.1 ≤ 1301
    refine ⟨Nat.le_trans (tbs_le _) hf, ?_⟩
    have hlf : lf (wh a b (n - (r + 1))) ≤ 40 := by rcases wh_or a b (n - (r + 1)) with h | h <;> rw [h] <;> assumption
    rcases tbs_or (st := (fine, 0, 0)) (f := fun w => ((tT K lf lw fine a b n r w).2.1 + pys lw (shw (K (wh a b (n - (r + 1)))) w) (shw (K (wh a b (n - (r + 1) + 1))) last), (tT K lf lw fine a b n r w).1 + pys lw (shw (K (wh a b (n - (r + 1) + 1))) last) (shw (K (wh a b (n - (r + 1)))) w))) (lf (wh a b (n - (r + 1)))) with h | ⟨w, h1, h2, h3⟩
    · rw [h]; exact Nat.zero_le _
    · rw [h3]
      have q1 := (ih w (by omega)).1
      have q2 := pys_le lw (shw (K (wh a b (n - (r + 1) + 1))) last) (shw (K (wh a b (n - (r + 1)))) w)
      have q3 := shw_le (k := K (wh a b (n - (r + 1) + 1))) (w := last) hl
      have q4 := shw_le (k := K (wh a b (n - (r + 1)))) (w := w) (by omega)
      show _ + _ ≤ 1301
      omega
def dcI : Nat → Int32
  | 0 => -1
  | q + 1 => nI q
theorem dcI_e (q : Nat) : dcI q = nI q + (-1) := by
  cases q with
  | zero => decide
  | succ q => exact (nI_dec (a := q + 1) (by omega)).symm
set_option maxHeartbeats 4000000 in
theorem c_MO_layCourse (l : Launch) (D : va_G) (g : wG) (F : wF) (pc : Nat) (lf : Nat → Nat) (lw : Nat) (hPI : PI g pc lf) (hPM : PM g F pc lf) (hlw : lw ≤ 2) (h6 : F 58 6 = nI lw) (a b n fine : Nat) (ha : a < pc) (hb1 : b < pc) (hn1 : 1 ≤ n) (hn8 : n ≤ 8) (hfine : fine ≤ 999) : CW l y_MO_layCourse b_MO_layCourse 9 (Option.none) 2 0 0 D g F [.ref (wad g 58), .int (nI a), .int (nI b), .int (nI n), .int (nI fine)] (fun v g2 u => v = none ∧ g = g2 ∧ (∀ t,  1 ≤ t → t ≤ n → ∀ w, 1 ≤ w → w ≤ lf (wh a b (t + 1)) → u 74 (41 * t + w) = nI (tT (wK g) lf lw fine a b n (n - t) w).1 ∧ u 75 (41 * t + w) = nI (tT (wK g) lf lw fine a b n (n - t) w).2.1 ∧ u 76 (41 * t + w) = nI (tT (wK g) lf lw fine a b n (n - t) w).2.2) ∧ (u 74 0 = nI (tT0 (wK g) lf lw fine a b n).1 ∧ u 75 0 = nI (tT0 (wK g) lf lw fine a b n).2.1 ∧ u 76 0 = nI (tT0 (wK g) lf lw fine a b n).2.2) ∧ ∀ k z, k ≠ 74 → k ≠ 75 → k ≠ 76 → u k z = F k z) := by
  refine CW.start rfl (Nat.le_of_ble_eq_true rfl) ?_
  intro p e s m args below meth c A ls hc hr hlocks hw hl
  have hl : lv_has ls 9 [(0, .ref (wad g 58)), (1, .int (nI a)), (2, .int (nI b)), (3, .int (nI n)), (4, .int (nI fine))] := hl
  have hx := hc.1
  have hb := hc.2.1
  obtain ⟨hpc6, hpcm, hm6, hpc0, hper⟩ := id hPI
  obtain ⟨ha1, ha2, ha3⟩ := hper a ha
  obtain ⟨hb2, hb3, hb4⟩ := hper b hb1
  have htl := tT_le (K := wK g) (lf := lf) (lw := lw) (fine := fine) (a := a) (b := b) (n := n) hfine ha3 hb4
  refine lv_iconst (v := nI 0) hx hb d_MO_layCourse_0 (by decide) ?_
  refine lv_istore (lv' := [(5, .int (nI 0)), (0, .ref (wad g 58)), (1, .int (nI a)), (2, .int (nI b)), (3, .int (nI n)), (4, .int (nI fine))]) hx hb d_MO_layCourse_1 hl (by decide) rfl (fun ls hl => ?_)
  have loop_3 : ∀ (n_3 : Nat) (i : Nat) (F9 : wF) (H : Heap) (locs : List Loc) (ls : Array Slot), (41 - i) < n_3 → (i ≤ 41) → (∀ w, w < i → F9 74 (41 * n + w) = nI 0 ∧ F9 75 (41 * n + w) = nI 0 ∧ F9 76 (41 * n + w) = nI 0) → (∀ k z, k ≠ 74 → k ≠ 75 → k ≠ 76 → F9 k z = F k z) → Wd D g F9 A s.heap H locs s → lv_has ls 9 [(0, .ref (wad g 58)), (1, .int (nI a)), (2, .int (nI b)), (3, .int (nI n)), (4, .int (nI fine)), (5, .int (nI i))] → W p l e (rmc 2 0 0) s m args below meth c H locs 0 0 (MQ below (Qw (fun v g2 u => v = none ∧ g = g2 ∧ (∀ t,  1 ≤ t → t ≤ n → ∀ w, 1 ≤ w → w ≤ lf (wh a b (t + 1)) → u 74 (41 * t + w) = nI (tT (wK g) lf lw fine a b n (n - t) w).1 ∧ u 75 (41 * t + w) = nI (tT (wK g) lf lw fine a b n (n - t) w).2.1 ∧ u 76 (41 * t + w) = nI (tT (wK g) lf lw fine a b n (n - t) w).2.2) ∧ (u 74 0 = nI (tT0 (wK g) lf lw fine a b n).1 ∧ u 75 0 = nI (tT0 (wK g) lf lw fine a b n).2.1 ∧ u 76 0 = nI (tT0 (wK g) lf lw fine a b n).2.2) ∧ ∀ k z, k ≠ 74 → k ≠ 75 → k ≠ 76 → u k z = F k z) (Bw D A) A) args s 0 0 A) (F0 m 3 ls []) := by
    intro n_3
    induction n_3 with
    | zero => intro i F9 H locs ls hm; exact absurd hm (Nat.not_lt_zero _)
    | succ n_3 ih_3 =>
      intro i F9 H locs ls hm_3 hi hz hF0 hw hl
      refine lv_iload hx hb d_MO_layCourse_3 (lv_at hl 5 rfl) ?_
      refine lv_bipush (v := nI 40) hx hb d_MO_layCourse_5 (by decide) ?_
      refine q_icmp_gt (tgt := 52) hc (by omega) (by omega) d_MO_layCourse_7 (by decide) (fun c_1 => ?_) (fun c_1 => ?_)
      · refine lv_iload_n hx hb d_MO_layCourse_52 rfl (lv_at hl 3 rfl) ?_
        refine lv_iconst (v := nI 1) hx hb d_MO_layCourse_53 (by decide) ?_
        refine q_isub hc (by omega) d_MO_layCourse_54 ?_
        refine lv_istore (lv' := [(5, .int (nI (n - 1))), (0, .ref (wad g 58)), (1, .int (nI a)), (2, .int (nI b)), (3, .int (nI n)), (4, .int (nI fine))]) hx hb d_MO_layCourse_55 hl (by decide) rfl (fun ls hl => ?_)
        have loop_57 : ∀ (n_57 : Nat) (r : Nat) (F1 : wF) (H : Heap) (locs : List Loc) (ls : Array Slot), (r) < n_57 → (r ≤ n) → (∀ t, r ≤ t → 1 ≤ t → t ≤ n → ∀ w, 1 ≤ w → w ≤ lf (wh a b (t + 1)) → F1 74 (41 * t + w) = nI (tT (wK g) lf lw fine a b n (n - t) w).1 ∧ F1 75 (41 * t + w) = nI (tT (wK g) lf lw fine a b n (n - t) w).2.1 ∧ F1 76 (41 * t + w) = nI (tT (wK g) lf lw fine a b n (n - t) w).2.2) → (r = 0 → F1 74 0 = nI (tT0 (wK g) lf lw fine a b n).1 ∧ F1 75 0 = nI (tT0 (wK g) lf lw fine a b n).2.1 ∧ F1 76 0 = nI (tT0 (wK g) lf lw fine a b n).2.2) → (∀ k z, k ≠ 74 → k ≠ 75 → k ≠ 76 → F1 k z = F k z) → Wd D g F1 A s.heap H locs s → lv_has ls 9 [(0, .ref (wad g 58)), (1, .int (nI a)), (2, .int (nI b)), (3, .int (nI n)), (4, .int (nI fine)), (5, .int (dcI r))] → W p l e (rmc 2 0 0) s m args below meth c H locs 0 0 (MQ below (Qw (fun v g2 u => v = none ∧ g = g2 ∧ (∀ t,  1 ≤ t → t ≤ n → ∀ w, 1 ≤ w → w ≤ lf (wh a b (t + 1)) → u 74 (41 * t + w) = nI (tT (wK g) lf lw fine a b n (n - t) w).1 ∧ u 75 (41 * t + w) = nI (tT (wK g) lf lw fine a b n (n - t) w).2.1 ∧ u 76 (41 * t + w) = nI (tT (wK g) lf lw fine a b n (n - t) w).2.2) ∧ (u 74 0 = nI (tT0 (wK g) lf lw fine a b n).1 ∧ u 75 0 = nI (tT0 (wK g) lf lw fine a b n).2.1 ∧ u 76 0 = nI (tT0 (wK g) lf lw fine a b n).2.2) ∧ ∀ k z, k ≠ 74 → k ≠ 75 → k ≠ 76 → u k z = F k z) (Bw D A) A) args s 0 0 A) (F0 m 57 ls []) := by
          intro n_57
          induction n_57 with
          | zero => intro r F1 H locs ls hm; exact absurd hm (Nat.not_lt_zero _)
          | succ n_57 ih_57 =>
            intro r F1 H locs ls hm_57 hrn hT hT0 zhF1 hw hl
            refine lv_iload hx hb d_MO_layCourse_57 (lv_at hl 5 rfl) ?_
            rcases r with _ | q
            · refine u_if_lt (tgt := 149) (X := (-1)) hc (by decide) d_MO_layCourse_59 (by decide) (fun c_2 => ?_) (fun c_2 => ?_)
              · exact W_v hc hw hr hlocks (⟨rfl, rfl, fun t h1 h2 => hT t (Nat.zero_le t) h1 h2, hT0 rfl, zhF1⟩) d_MO_layCourse_149
              · exact absurd c_2 (by decide)
            · have hl : lv_has ls 9 [(0, .ref (wad g 58)), (1, .int (nI a)), (2, .int (nI b)), (3, .int (nI n)), (4, .int (nI fine)), (5, .int (nI q))] := hl
              refine q_if_lt (tgt := 149) hc (by omega) d_MO_layCourse_59 (by decide) ?_
              refine lv_iload hx hb d_MO_layCourse_62 (lv_at hl 5 rfl) ?_
              refine lv_iconst (v := nI 2) hx hb d_MO_layCourse_64 (by decide) ?_
              refine q_irem hc (by omega) (by decide) (by decide) d_MO_layCourse_65 ?_
              refine q_if_ne (tgt := 73) hc (by omega) d_MO_layCourse_66 (by decide) (fun c_4 => ?_) (fun c_4 => ?_)
              · have hwb0 : wh a b q = b := by unfold wh; rw [if_neg (by omega)]
                have hwa0 : wh a b (q + 1) = a := by unfold wh; rw [if_pos (by omega)]
                refine lv_iload_n hx hb d_MO_layCourse_73 rfl (lv_at hl 2 rfl) ?_
                refine lv_istore (lv' := [(6, .int (nI b)), (0, .ref (wad g 58)), (1, .int (nI a)), (2, .int (nI b)), (3, .int (nI n)), (4, .int (nI fine)), (5, .int (nI q))]) hx hb d_MO_layCourse_74 hl (by decide) rfl (fun ls hl => ?_)
                refine lv_iload hx hb d_MO_layCourse_76 (lv_at hl 6 rfl) ?_
                refine lv_iconst (v := nI 2) hx hb d_MO_layCourse_78 (by decide) ?_
                refine q_irem hc (by omega) (by decide) (by decide) d_MO_layCourse_79 ?_
                refine q_if_ne (tgt := 87) hc (by omega) d_MO_layCourse_80 (by decide) (fun c_5 => ?_) (fun c_5 => ?_)
                · refine lv_iload_n hx hb d_MO_layCourse_87 rfl (lv_at hl 2 rfl) ?_
                  refine lv_istore (lv' := [(7, .int (nI a)), (6, .int (nI b)), (0, .ref (wad g 58)), (1, .int (nI a)), (2, .int (nI b)), (3, .int (nI n)), (4, .int (nI fine)), (5, .int (nI q))]) hx hb d_MO_layCourse_88 hl (by decide) rfl (fun ls hl => ?_)
                  refine lv_iload hx hb d_MO_layCourse_90 (lv_at hl 7 rfl) ?_
                  refine q_if_ne (tgt := 99) hc (by omega) d_MO_layCourse_92 (by decide) (fun c_6 => ?_) (fun c_6 => ?_)
                  · obtain ⟨t, rfl⟩ : ∃ t, q = t + 1 := ⟨q - 1, by omega⟩
                    have hwb := hwb0
                    have hwa := hwa0
                    have hwc : wh a b (t + 1 + 1 + 1) = wh a b (t + 1) := by unfold wh; rw [show (t + 1 + 1 + 1) % 2 = (t + 1) % 2 by omega]
                    rw [hwb] at hwc
                    refine lv_iconst (v := nI 1) hx hb d_MO_layCourse_99 (by decide) ?_
                    refine lv_istore (lv' := [(8, .int (nI 1)), (7, .int (nI a)), (6, .int (nI b)), (0, .ref (wad g 58)), (1, .int (nI a)), (2, .int (nI b)), (3, .int (nI n)), (4, .int (nI fine)), (5, .int (nI ((t + 1))))]) hx hb d_MO_layCourse_100 hl (by decide) rfl (fun ls hl => ?_)
                    have loop_102 : ∀ (n_102 : Nat) (i : Nat) (F2 : wF) (H : Heap) (locs : List Loc) (ls : Array Slot), (lf a - i) < n_102 → (i ≤ lf a) → (∀ w, 1 ≤ w → w ≤ i → F2 74 (41 * (t + 1) + w) = nI (tT (wK g) lf lw fine a b n (n - (t + 1)) w).1 ∧ F2 75 (41 * (t + 1) + w) = nI (tT (wK g) lf lw fine a b n (n - (t + 1)) w).2.1 ∧ F2 76 (41 * (t + 1) + w) = nI (tT (wK g) lf lw fine a b n (n - (t + 1)) w).2.2) → (∀ k z, ¬ ((k = 74 ∨ k = 75 ∨ k = 76) ∧ 41 * (t + 1) ≤ z ∧ z < 41 * (t + 1) + 41) → F2 k z = F1 k z) → Wd D g F2 A s.heap H locs s → lv_has ls 9 [(0, .ref (wad g 58)), (1, .int (nI a)), (2, .int (nI b)), (3, .int (nI n)), (4, .int (nI fine)), (5, .int (nI ((t + 1)))), (6, .int (nI b)), (7, .int (nI a)), (8, .int (nI (i + 1)))] → W p l e (rmc 2 0 0) s m args below meth c H locs 0 0 (MQ below (Qw (fun v g2 u => v = none ∧ g = g2 ∧ (∀ t,  1 ≤ t → t ≤ n → ∀ w, 1 ≤ w → w ≤ lf (wh a b (t + 1)) → u 74 (41 * t + w) = nI (tT (wK g) lf lw fine a b n (n - t) w).1 ∧ u 75 (41 * t + w) = nI (tT (wK g) lf lw fine a b n (n - t) w).2.1 ∧ u 76 (41 * t + w) = nI (tT (wK g) lf lw fine a b n (n - t) w).2.2) ∧ (u 74 0 = nI (tT0 (wK g) lf lw fine a b n).1 ∧ u 75 0 = nI (tT0 (wK g) lf lw fine a b n).2.1 ∧ u 76 0 = nI (tT0 (wK g) lf lw fine a b n).2.2) ∧ ∀ k z, k ≠ 74 → k ≠ 75 → k ≠ 76 → u k z = F k z) (Bw D A) A) args s 0 0 A) (F0 m 102 ls []) := by
                      intro n_102
                      induction n_102 with
                      | zero => intro i F2 H locs ls hm; exact absurd hm (Nat.not_lt_zero _)
                      | succ n_102 ih_102 =>
                        intro i F2 H locs ls hm_102 hi hin zhF2 hw hl
                        have hG2 : ∀ k z, k ≠ 74 → k ≠ 75 → k ≠ 76 → F2 k z = F k z := fun k z h1 h2 h3 => (zhF2 k z (by omega)).trans (zhF1 k z h1 h2 h3)
                        refine lv_iload hx hb d_MO_layCourse_102 (lv_at hl 8 rfl) ?_
                        refine lv_iload hx hb d_MO_layCourse_104 (lv_at hl 5 rfl) ?_
                        refine q_if_ne (tgt := 113) hc (by omega) d_MO_layCourse_106 (by decide) (fun c_7 => ?_) (fun c_7 => ?_)
                        · refine lv_aload_n hx hb d_MO_layCourse_113 rfl (lv_at hl 0 rfl) ?_
                          refine gf_MO_22 hc hw d_MO_layCourse_114 ?_
                          refine lv_iload hx hb d_MO_layCourse_117 (lv_at hl 7 rfl) ?_
                          refine r_iald hc hw (h := 63) (n := 6) (i := a) (fun _ => rfl) (by omega) (by omega) (by decide) d_MO_layCourse_119 (v := .int (nI (lf a))) (congrArg Value.int ((hG2 63 (a) (by decide) (by decide) (by decide)).trans (hPM.2 (a) (by omega)).2)) ?_
                          refine q_icmp_gt (tgt := 143) hc (by omega) (by omega) d_MO_layCourse_120 (by decide) (fun c_8 => ?_) (fun c_8 => ?_)
                          · refine lv_iinc (v := nI ((t + 1)) + (-1)) (lv' := [(5, .int (nI ((t + 1)) + (-1))), (0, .ref (wad g 58)), (1, .int (nI a)), (2, .int (nI b)), (3, .int (nI n)), (4, .int (nI fine)), (6, .int (nI b)), (7, .int (nI a)), (8, .int (nI (i + 1)))]) hx hb d_MO_layCourse_143 hl (k := 5) rfl rfl (by decide) rfl (fun ls hl => ?_)
                            refine lv_goto (tgt := 57) hx hb d_MO_layCourse_146 (by decide) ?_
                            have hl : lv_has ls 9 [(5, .int (dcI (((t + 1))))), (0, .ref (wad g 58)), (1, .int (nI a)), (2, .int (nI b)), (3, .int (nI n)), (4, .int (nI fine)), (6, .int (nI b)), (7, .int (nI a)), (8, .int (nI (i + 1)))] := by rw [show dcI (((t + 1))) = nI ((t + 1)) + (-1) from by exact dcI_e _]; exact hl
                            exact ih_57 (t + 1) _ _ _ _ (by omega) (by omega) (fun z h0 h1 h2 w h3 h4 => by rcases (show z = t + 1 ∨ t + 2 ≤ z by omega) with e | e; (subst e; rw [hwa] at h4; exact hin w h3 (by omega)); (rw [zhF2 74 _ (by omega), zhF2 75 _ (by omega), zhF2 76 _ (by omega)]; exact hT z (by omega) h1 h2 w h3 h4)) (fun h => absurd h (by omega)) (hG2) hw (lv_sub hl [1, 2, 3, 4, 5, 0] rfl)
                          · refine lv_aload_n hx hb d_MO_layCourse_123 rfl (lv_at hl 0 rfl) ?_
                            refine lv_iload hx hb d_MO_layCourse_124 (lv_at hl 5 rfl) ?_
                            refine lv_iload hx hb d_MO_layCourse_126 (lv_at hl 8 rfl) ?_
                            refine lv_iload hx hb d_MO_layCourse_128 (lv_at hl 6 rfl) ?_
                            refine lv_iload hx hb d_MO_layCourse_130 (lv_at hl 7 rfl) ?_
                            refine lv_iload hx hb d_MO_layCourse_132 (lv_at hl 4 rfl) ?_
                            refine kWV hc hw lk_MO_164 (h := 58) (As := [.int (nI ((t + 1))), .int (nI (i + 1)), .int (nI b), .int (nI a), .int (nI fine)]) (rest := []) (c_MO_layTurn_s l D g _ pc lf lw hPI (PM_c hPM (hG2 58 5 (by decide) (by decide) (by decide)) (funext fun z => hG2 62 z (by decide) (by decide) (by decide)) (funext fun z => hG2 63 z (by decide) (by decide) (by decide))) hlw ((hG2 58 6 (by decide) (by decide) (by decide)).trans h6) t (by omega) (i + 1) b a fine (fun w => ((tT (wK g) lf lw fine a b n (n - (t + 1 + 1)) w).1, (tT (wK g) lf lw fine a b n (n - (t + 1 + 1)) w).2.1)) hb1 ha (by omega) (by omega) hfine (fun w h1 h2 => by obtain ⟨e1, e2, e3⟩ := hT (t + 1 + 1) (by omega) (by omega) (by omega) w h1 (by rw [hwc]; exact h2); rw [zhF2 74 _ (by omega), zhF2 75 _ (by omega)]; exact ⟨e1, e2, Nat.le_trans (htl _ w (by omega)).1 (by decide), Nat.le_trans (htl _ w (by omega)).2 (by decide)⟩)) (rc_MO hw) ⟨Nat.le_of_ble_eq_true rfl, Nat.le_of_ble_eq_true rfl⟩ ⟨by exact Nat.le_refl _, by exact Nat.le_refl _⟩ rfl hl rfl (Nat.le_of_ble_eq_true rfl) d_MO_layCourse_134 (fun v_9 g_10 F_11 H locs zhp_12 hw => ?_)
                            obtain ⟨rfl, rfl, hr3, hr4, hr5, hr6⟩ := zhp_12
                            have htt := tT_s (K := wK g) (lf := lf) (lw := lw) (fine := fine) (a := a) (b := b) (n := n) (t := t + 1) (last := i + 1) (by omega)
                            rw [hwb, hwa] at htt
                            rw [← htt] at hr3 hr4 hr5
                            refine lv_iinc (v := nI ((i + 1) + 1)) (lv' := [(8, .int (nI ((i + 1) + 1))), (0, .ref (wad g 58)), (1, .int (nI a)), (2, .int (nI b)), (3, .int (nI n)), (4, .int (nI fine)), (5, .int (nI ((t + 1)))), (6, .int (nI b)), (7, .int (nI a))]) hx hb d_MO_layCourse_137 hl (k := 8) rfl (nI_inc1 _) (by decide) rfl (fun ls hl => ?_)
                            refine lv_goto (tgt := 102) hx hb d_MO_layCourse_140 (by decide) ?_
                            exact ih_102 (i + 1) _ _ _ _ (by omega) (by omega) (fun w h1 h2 => by rcases (show w ≤ i ∨ w = i + 1 by omega) with e | e; (rw [hr6 74 _ (by omega), hr6 75 _ (by omega), hr6 76 _ (by omega)]; exact hin w h1 e); (rw [e]; exact ⟨hr3, hr4, hr5⟩)) (fun k z h => (hr6 k z (by omega)).trans (zhF2 k z h)) hw (lv_sub hl [1, 2, 3, 4, 5, 6, 7, 8, 0] rfl)
                        · exact absurd c_7 (by omega)
                    have hl : lv_has ls 9 [(8, .int (nI (0 + 1))), (7, .int (nI a)), (6, .int (nI b)), (0, .ref (wad g 58)), (1, .int (nI a)), (2, .int (nI b)), (3, .int (nI n)), (4, .int (nI fine)), (5, .int (nI ((t + 1))))] := by rw [show 0 + 1 = 1 from by rfl]; exact hl
                    exact loop_102 _ 0 _ _ _ _ (Nat.lt_succ_self _) (by omega) (fun w h1 h2 => absurd h1 (by omega)) (fun _ _ _ => rfl) hw (lv_sub hl [3, 4, 5, 6, 7, 8, 2, 1, 0] rfl)
                  · exact absurd c_6 (by omega)
                · exact absurd c_5 (by omega)
              · have hwb0 : wh a b q = a := by unfold wh; rw [if_pos (by omega)]
                have hwa0 : wh a b (q + 1) = b := by unfold wh; rw [if_neg (by omega)]
                refine lv_iload_n hx hb d_MO_layCourse_69 rfl (lv_at hl 1 rfl) ?_
                refine lv_goto (tgt := 74) hx hb d_MO_layCourse_70 (by decide) ?_
                refine lv_istore (lv' := [(6, .int (nI a)), (0, .ref (wad g 58)), (1, .int (nI a)), (2, .int (nI b)), (3, .int (nI n)), (4, .int (nI fine)), (5, .int (nI q))]) hx hb d_MO_layCourse_74 hl (by decide) rfl (fun ls hl => ?_)
                refine lv_iload hx hb d_MO_layCourse_76 (lv_at hl 6 rfl) ?_
                refine lv_iconst (v := nI 2) hx hb d_MO_layCourse_78 (by decide) ?_
                refine q_irem hc (by omega) (by decide) (by decide) d_MO_layCourse_79 ?_
                refine q_if_ne (tgt := 87) hc (by omega) d_MO_layCourse_80 (by decide) (fun c_13 => ?_) (fun c_13 => ?_)
                · exact absurd c_13 (by omega)
                · refine lv_iload_n hx hb d_MO_layCourse_83 rfl (lv_at hl 3 rfl) ?_
                  refine lv_goto (tgt := 88) hx hb d_MO_layCourse_84 (by decide) ?_
                  refine lv_istore (lv' := [(7, .int (nI b)), (6, .int (nI a)), (0, .ref (wad g 58)), (1, .int (nI a)), (2, .int (nI b)), (3, .int (nI n)), (4, .int (nI fine)), (5, .int (nI q))]) hx hb d_MO_layCourse_88 hl (by decide) rfl (fun ls hl => ?_)
                  refine lv_iload hx hb d_MO_layCourse_90 (lv_at hl 7 rfl) ?_
                  refine q_if_ne (tgt := 99) hc (by omega) d_MO_layCourse_92 (by decide) (fun c_14 => ?_) (fun c_14 => ?_)
                  · obtain ⟨t, rfl⟩ : ∃ t, q = t + 1 := ⟨q - 1, by omega⟩
                    have hwb := hwb0
                    have hwa := hwa0
                    have hwc : wh a b (t + 1 + 1 + 1) = wh a b (t + 1) := by unfold wh; rw [show (t + 1 + 1 + 1) % 2 = (t + 1) % 2 by omega]
                    rw [hwb] at hwc
                    refine lv_iconst (v := nI 1) hx hb d_MO_layCourse_99 (by decide) ?_
                    refine lv_istore (lv' := [(8, .int (nI 1)), (7, .int (nI b)), (6, .int (nI a)), (0, .ref (wad g 58)), (1, .int (nI a)), (2, .int (nI b)), (3, .int (nI n)), (4, .int (nI fine)), (5, .int (nI ((t + 1))))]) hx hb d_MO_layCourse_100 hl (by decide) rfl (fun ls hl => ?_)
                    have loop_102 : ∀ (n_102 : Nat) (i : Nat) (F2 : wF) (H : Heap) (locs : List Loc) (ls : Array Slot), (lf b - i) < n_102 → (i ≤ lf b) → (∀ w, 1 ≤ w → w ≤ i → F2 74 (41 * (t + 1) + w) = nI (tT (wK g) lf lw fine a b n (n - (t + 1)) w).1 ∧ F2 75 (41 * (t + 1) + w) = nI (tT (wK g) lf lw fine a b n (n - (t + 1)) w).2.1 ∧ F2 76 (41 * (t + 1) + w) = nI (tT (wK g) lf lw fine a b n (n - (t + 1)) w).2.2) → (∀ k z, ¬ ((k = 74 ∨ k = 75 ∨ k = 76) ∧ 41 * (t + 1) ≤ z ∧ z < 41 * (t + 1) + 41) → F2 k z = F1 k z) → Wd D g F2 A s.heap H locs s → lv_has ls 9 [(0, .ref (wad g 58)), (1, .int (nI a)), (2, .int (nI b)), (3, .int (nI n)), (4, .int (nI fine)), (5, .int (nI ((t + 1)))), (6, .int (nI a)), (7, .int (nI b)), (8, .int (nI (i + 1)))] → W p l e (rmc 2 0 0) s m args below meth c H locs 0 0 (MQ below (Qw (fun v g2 u => v = none ∧ g = g2 ∧ (∀ t,  1 ≤ t → t ≤ n → ∀ w, 1 ≤ w → w ≤ lf (wh a b (t + 1)) → u 74 (41 * t + w) = nI (tT (wK g) lf lw fine a b n (n - t) w).1 ∧ u 75 (41 * t + w) = nI (tT (wK g) lf lw fine a b n (n - t) w).2.1 ∧ u 76 (41 * t + w) = nI (tT (wK g) lf lw fine a b n (n - t) w).2.2) ∧ (u 74 0 = nI (tT0 (wK g) lf lw fine a b n).1 ∧ u 75 0 = nI (tT0 (wK g) lf lw fine a b n).2.1 ∧ u 76 0 = nI (tT0 (wK g) lf lw fine a b n).2.2) ∧ ∀ k z, k ≠ 74 → k ≠ 75 → k ≠ 76 → u k z = F k z) (Bw D A) A) args s 0 0 A) (F0 m 102 ls []) := by
                      intro n_102
                      induction n_102 with
                      | zero => intro i F2 H locs ls hm; exact absurd hm (Nat.not_lt_zero _)
                      | succ n_102 ih_102 =>
                        intro i F2 H locs ls hm_102 hi hin zhF2 hw hl
                        have hG2 : ∀ k z, k ≠ 74 → k ≠ 75 → k ≠ 76 → F2 k z = F k z := fun k z h1 h2 h3 => (zhF2 k z (by omega)).trans (zhF1 k z h1 h2 h3)
                        refine lv_iload hx hb d_MO_layCourse_102 (lv_at hl 8 rfl) ?_
                        refine lv_iload hx hb d_MO_layCourse_104 (lv_at hl 5 rfl) ?_
                        refine q_if_ne (tgt := 113) hc (by omega) d_MO_layCourse_106 (by decide) (fun c_15 => ?_) (fun c_15 => ?_)
                        · refine lv_aload_n hx hb d_MO_layCourse_113 rfl (lv_at hl 0 rfl) ?_
                          refine gf_MO_22 hc hw d_MO_layCourse_114 ?_
                          refine lv_iload hx hb d_MO_layCourse_117 (lv_at hl 7 rfl) ?_
                          refine r_iald hc hw (h := 63) (n := 6) (i := b) (fun _ => rfl) (by omega) (by omega) (by decide) d_MO_layCourse_119 (v := .int (nI (lf b))) (congrArg Value.int ((hG2 63 (b) (by decide) (by decide) (by decide)).trans (hPM.2 (b) (by omega)).2)) ?_
                          refine q_icmp_gt (tgt := 143) hc (by omega) (by omega) d_MO_layCourse_120 (by decide) (fun c_16 => ?_) (fun c_16 => ?_)
                          · refine lv_iinc (v := nI ((t + 1)) + (-1)) (lv' := [(5, .int (nI ((t + 1)) + (-1))), (0, .ref (wad g 58)), (1, .int (nI a)), (2, .int (nI b)), (3, .int (nI n)), (4, .int (nI fine)), (6, .int (nI a)), (7, .int (nI b)), (8, .int (nI (i + 1)))]) hx hb d_MO_layCourse_143 hl (k := 5) rfl rfl (by decide) rfl (fun ls hl => ?_)
                            refine lv_goto (tgt := 57) hx hb d_MO_layCourse_146 (by decide) ?_
                            have hl : lv_has ls 9 [(5, .int (dcI (((t + 1))))), (0, .ref (wad g 58)), (1, .int (nI a)), (2, .int (nI b)), (3, .int (nI n)), (4, .int (nI fine)), (6, .int (nI a)), (7, .int (nI b)), (8, .int (nI (i + 1)))] := by rw [show dcI (((t + 1))) = nI ((t + 1)) + (-1) from by exact dcI_e _]; exact hl
                            exact ih_57 (t + 1) _ _ _ _ (by omega) (by omega) (fun z h0 h1 h2 w h3 h4 => by rcases (show z = t + 1 ∨ t + 2 ≤ z by omega) with e | e; (subst e; rw [hwa] at h4; exact hin w h3 (by omega)); (rw [zhF2 74 _ (by omega), zhF2 75 _ (by omega), zhF2 76 _ (by omega)]; exact hT z (by omega) h1 h2 w h3 h4)) (fun h => absurd h (by omega)) (hG2) hw (lv_sub hl [1, 2, 3, 4, 5, 0] rfl)
                          · refine lv_aload_n hx hb d_MO_layCourse_123 rfl (lv_at hl 0 rfl) ?_
                            refine lv_iload hx hb d_MO_layCourse_124 (lv_at hl 5 rfl) ?_
                            refine lv_iload hx hb d_MO_layCourse_126 (lv_at hl 8 rfl) ?_
                            refine lv_iload hx hb d_MO_layCourse_128 (lv_at hl 6 rfl) ?_
                            refine lv_iload hx hb d_MO_layCourse_130 (lv_at hl 7 rfl) ?_
                            refine lv_iload hx hb d_MO_layCourse_132 (lv_at hl 4 rfl) ?_
                            refine kWV hc hw lk_MO_164 (h := 58) (As := [.int (nI ((t + 1))), .int (nI (i + 1)), .int (nI a), .int (nI b), .int (nI fine)]) (rest := []) (c_MO_layTurn_s l D g _ pc lf lw hPI (PM_c hPM (hG2 58 5 (by decide) (by decide) (by decide)) (funext fun z => hG2 62 z (by decide) (by decide) (by decide)) (funext fun z => hG2 63 z (by decide) (by decide) (by decide))) hlw ((hG2 58 6 (by decide) (by decide) (by decide)).trans h6) t (by omega) (i + 1) a b fine (fun w => ((tT (wK g) lf lw fine a b n (n - (t + 1 + 1)) w).1, (tT (wK g) lf lw fine a b n (n - (t + 1 + 1)) w).2.1)) ha hb1 (by omega) (by omega) hfine (fun w h1 h2 => by obtain ⟨e1, e2, e3⟩ := hT (t + 1 + 1) (by omega) (by omega) (by omega) w h1 (by rw [hwc]; exact h2); rw [zhF2 74 _ (by omega), zhF2 75 _ (by omega)]; exact ⟨e1, e2, Nat.le_trans (htl _ w (by omega)).1 (by decide), Nat.le_trans (htl _ w (by omega)).2 (by decide)⟩)) (rc_MO hw) ⟨Nat.le_of_ble_eq_true rfl, Nat.le_of_ble_eq_true rfl⟩ ⟨by exact Nat.le_refl _, by exact Nat.le_refl _⟩ rfl hl rfl (Nat.le_of_ble_eq_true rfl) d_MO_layCourse_134 (fun v_17 g_18 F_19 H locs zhp_20 hw => ?_)
                            obtain ⟨rfl, rfl, hr3, hr4, hr5, hr6⟩ := zhp_20
                            have htt := tT_s (K := wK g) (lf := lf) (lw := lw) (fine := fine) (a := a) (b := b) (n := n) (t := t + 1) (last := i + 1) (by omega)
                            rw [hwb, hwa] at htt
                            rw [← htt] at hr3 hr4 hr5
                            refine lv_iinc (v := nI ((i + 1) + 1)) (lv' := [(8, .int (nI ((i + 1) + 1))), (0, .ref (wad g 58)), (1, .int (nI a)), (2, .int (nI b)), (3, .int (nI n)), (4, .int (nI fine)), (5, .int (nI ((t + 1)))), (6, .int (nI a)), (7, .int (nI b))]) hx hb d_MO_layCourse_137 hl (k := 8) rfl (nI_inc1 _) (by decide) rfl (fun ls hl => ?_)
                            refine lv_goto (tgt := 102) hx hb d_MO_layCourse_140 (by decide) ?_
                            exact ih_102 (i + 1) _ _ _ _ (by omega) (by omega) (fun w h1 h2 => by rcases (show w ≤ i ∨ w = i + 1 by omega) with e | e; (rw [hr6 74 _ (by omega), hr6 75 _ (by omega), hr6 76 _ (by omega)]; exact hin w h1 e); (rw [e]; exact ⟨hr3, hr4, hr5⟩)) (fun k z h => (hr6 k z (by omega)).trans (zhF2 k z h)) hw (lv_sub hl [1, 2, 3, 4, 5, 6, 7, 8, 0] rfl)
                        · exact absurd c_15 (by omega)
                    have hl : lv_has ls 9 [(8, .int (nI (0 + 1))), (7, .int (nI b)), (6, .int (nI a)), (0, .ref (wad g 58)), (1, .int (nI a)), (2, .int (nI b)), (3, .int (nI n)), (4, .int (nI fine)), (5, .int (nI ((t + 1))))] := by rw [show 0 + 1 = 1 from by rfl]; exact hl
                    exact loop_102 _ 0 _ _ _ _ (Nat.lt_succ_self _) (by omega) (fun w h1 h2 => absurd h1 (by omega)) (fun _ _ _ => rfl) hw (lv_sub hl [3, 4, 5, 6, 7, 8, 2, 1, 0] rfl)
                  · have eq0 : q = 0 := c_14
                    subst eq0
                    refine lv_iconst (v := nI 0) hx hb d_MO_layCourse_95 (by decide) ?_
                    refine lv_goto (tgt := 100) hx hb d_MO_layCourse_96 (by decide) ?_
                    refine lv_istore (lv' := [(8, .int (nI 0)), (7, .int (nI b)), (6, .int (nI a)), (0, .ref (wad g 58)), (1, .int (nI a)), (2, .int (nI b)), (3, .int (nI n)), (4, .int (nI fine)), (5, .int (nI 0))]) hx hb d_MO_layCourse_100 hl (by decide) rfl (fun ls hl => ?_)
                    refine lv_iload hx hb d_MO_layCourse_102 (lv_at hl 0 rfl) ?_
                    refine lv_iload hx hb d_MO_layCourse_104 (lv_at hl 8 rfl) ?_
                    refine q_if_ne (tgt := 113) hc (by omega) d_MO_layCourse_106 (by decide) (fun c_21 => ?_) (fun c_21 => ?_)
                    · exact absurd rfl c_21
                    · refine lv_iconst (v := nI 0) hx hb d_MO_layCourse_109 (by decide) ?_
                      refine lv_goto (tgt := 120) hx hb d_MO_layCourse_110 (by decide) ?_
                      refine q_icmp_gt (tgt := 143) hc (by omega) (by omega) d_MO_layCourse_120 (by decide) (fun c_22 => ?_) (fun c_22 => ?_)
                      · exact absurd c_22 (by first | omega | decide)
                      · refine lv_aload_n hx hb d_MO_layCourse_123 rfl (lv_at hl 3 rfl) ?_
                        refine lv_iload hx hb d_MO_layCourse_124 (lv_at hl 8 rfl) ?_
                        refine lv_iload hx hb d_MO_layCourse_126 (lv_at hl 0 rfl) ?_
                        refine lv_iload hx hb d_MO_layCourse_128 (lv_at hl 2 rfl) ?_
                        refine lv_iload hx hb d_MO_layCourse_130 (lv_at hl 1 rfl) ?_
                        refine lv_iload hx hb d_MO_layCourse_132 (lv_at hl 7 rfl) ?_
                        refine kWV hc hw lk_MO_164 (h := 58) (As := [.int (nI 0), .int (nI 0), .int (nI a), .int (nI b), .int (nI fine)]) (rest := []) (c_MO_layTurn_0 l D g _ pc lf lw hPI (PM_c hPM (zhF1 58 5 (by decide) (by decide) (by decide)) (funext fun z => zhF1 62 z (by decide) (by decide) (by decide)) (funext fun z => zhF1 63 z (by decide) (by decide) (by decide))) hlw ((zhF1 58 6 (by decide) (by decide) (by decide)).trans h6) 0 a b fine (fun w => ((tT (wK g) lf lw fine a b n (n - 1) w).1, (tT (wK g) lf lw fine a b n (n - 1) w).2.1)) ha hb1 rfl hfine (fun w h1 h2 => by obtain ⟨e1, e2, e3⟩ := hT 1 (by omega) (by omega) (by omega) w h1 (by rw [show wh a b (1 + 1) = a from rfl]; exact h2); exact ⟨e1, e2, Nat.le_trans (htl (n - 1) w (by omega)).1 (by decide), Nat.le_trans (htl (n - 1) w (by omega)).2 (by decide)⟩)) (rc_MO hw) ⟨Nat.le_of_ble_eq_true rfl, Nat.le_of_ble_eq_true rfl⟩ ⟨by exact Nat.le_refl _, by exact Nat.le_refl _⟩ rfl hl rfl (Nat.le_of_ble_eq_true rfl) d_MO_layCourse_134 (fun v_23 g_24 F_25 H locs zhp_26 hw => ?_)
                        obtain ⟨rfl, rfl, hr3, hr4, hr5, hr6⟩ := zhp_26
                        refine lv_iinc (v := nI 1) (lv' := [(8, .int (nI 1)), (7, .int (nI b)), (6, .int (nI a)), (0, .ref (wad g 58)), (1, .int (nI a)), (2, .int (nI b)), (3, .int (nI n)), (4, .int (nI fine)), (5, .int (nI 0))]) hx hb d_MO_layCourse_137 hl (k := 0) rfl (show nI 0 + Int32.ofInt 1 = nI 1 from by decide) (by decide) rfl (fun ls hl => ?_)
                        refine lv_goto (tgt := 102) hx hb d_MO_layCourse_140 (by decide) ?_
                        refine lv_iload hx hb d_MO_layCourse_102 (lv_at hl 0 rfl) ?_
                        refine lv_iload hx hb d_MO_layCourse_104 (lv_at hl 8 rfl) ?_
                        refine q_if_ne (tgt := 113) hc (by omega) d_MO_layCourse_106 (by decide) (fun c_27 => ?_) (fun c_27 => ?_)
                        · exact absurd rfl c_27
                        · refine lv_iconst (v := nI 0) hx hb d_MO_layCourse_109 (by decide) ?_
                          refine lv_goto (tgt := 120) hx hb d_MO_layCourse_110 (by decide) ?_
                          refine q_icmp_gt (tgt := 143) hc (by omega) (by omega) d_MO_layCourse_120 (by decide) (fun c_28 => ?_) (fun c_28 => ?_)
                          · refine lv_iinc (v := nI 0 + (-1)) (lv' := [(5, .int (nI 0 + (-1))), (8, .int (nI 1)), (7, .int (nI b)), (6, .int (nI a)), (0, .ref (wad g 58)), (1, .int (nI a)), (2, .int (nI b)), (3, .int (nI n)), (4, .int (nI fine))]) hx hb d_MO_layCourse_143 hl (k := 8) rfl rfl (by decide) rfl (fun ls hl => ?_)
                            refine lv_goto (tgt := 57) hx hb d_MO_layCourse_146 (by decide) ?_
                            have hl : lv_has ls 9 [(5, .int (dcI 0)), (8, .int (nI 1)), (7, .int (nI b)), (6, .int (nI a)), (0, .ref (wad g 58)), (1, .int (nI a)), (2, .int (nI b)), (3, .int (nI n)), (4, .int (nI fine))] := by rw [show dcI 0 = nI 0 + (-1) from by exact dcI_e _]; exact hl
                            exact ih_57 0 _ _ _ _ (by omega) (by omega) (fun z h0 h1 h2 w h3 h4 => by rw [hr6 74 _ (by omega), hr6 75 _ (by omega), hr6 76 _ (by omega)]; exact hT z (by omega) h1 h2 w h3 h4) (fun _ => ⟨hr3.trans (congrArg nI (by unfold tT0; rfl)), hr4.trans (congrArg nI (by unfold tT0; rfl)), hr5.trans (congrArg nI (by unfold tT0; rfl))⟩) (fun k z h1 h2 h3 => (hr6 k z (by omega)).trans (zhF1 k z h1 h2 h3)) hw (lv_sub hl [4, 5, 6, 7, 8, 0] rfl)
                          · exact absurd c_28 (by first | omega | decide)
        have hl : lv_has ls 9 [(5, .int (dcI n)), (0, .ref (wad g 58)), (1, .int (nI a)), (2, .int (nI b)), (3, .int (nI n)), (4, .int (nI fine))] := by rw [show dcI n = nI (n - 1) from by obtain ⟨q, rfl⟩ : ∃ q, n = q + 1 := ⟨n - 1, by omega⟩; rfl]; exact hl
        exact loop_57 _ n _ _ _ _ (Nat.lt_succ_self _) (by omega) (fun t h0 h1 h2 w h3 h4 => by have e : t = n := (by omega); subst e; have hw4 : w < 41 := (by rcases wh_or a b (t + 1) with e | e <;> rw [e] at h4 <;> omega); rw [Nat.sub_self]; exact hz w (by omega)) (fun h => absurd h (by omega)) (hF0) hw (lv_sub hl [1, 2, 3, 4, 5, 0] rfl)
      · refine lv_aload_n hx hb d_MO_layCourse_10 rfl (lv_at hl 0 rfl) ?_
        refine gf_MO_55 hc hw d_MO_layCourse_11 ?_
        refine lv_iload_n hx hb d_MO_layCourse_14 rfl (lv_at hl 3 rfl) ?_
        refine lv_iload hx hb d_MO_layCourse_15 (lv_at hl 5 rfl) ?_
        refine kRS hc hw lk_MO_160 (As := [.int (nI n), .int (nI i)]) (rest := [.ref (wad g 74)]) (c_MO_spot l D g _ (n) (i)) ⟨Nat.le_of_ble_eq_true rfl, Nat.le_of_ble_eq_true rfl⟩ ⟨Nat.le_refl _, Nat.le_refl _⟩ rfl hl rfl (Nat.le_of_ble_eq_true rfl) d_MO_layCourse_17 ?_
        refine lv_iconst (v := nI 0) hx hb d_MO_layCourse_20 (by decide) ?_
        refine r_iast hc hw (h := 74) (n := 369) (i := 41 * n + i) (fun _ => rfl) (by omega) (by omega) (by decide) d_MO_layCourse_21 (fun H locs hw => ?_)
        refine lv_aload_n hx hb d_MO_layCourse_22 rfl (lv_at hl 0 rfl) ?_
        refine gf_MO_58 hc hw d_MO_layCourse_23 ?_
        refine lv_iload_n hx hb d_MO_layCourse_26 rfl (lv_at hl 3 rfl) ?_
        refine lv_iload hx hb d_MO_layCourse_27 (lv_at hl 5 rfl) ?_
        refine kRS hc hw lk_MO_160 (As := [.int (nI n), .int (nI i)]) (rest := [.ref (wad g 75)]) (c_MO_spot l D g _ (n) (i)) ⟨Nat.le_of_ble_eq_true rfl, Nat.le_of_ble_eq_true rfl⟩ ⟨Nat.le_refl _, Nat.le_refl _⟩ rfl hl rfl (Nat.le_of_ble_eq_true rfl) d_MO_layCourse_29 ?_
        refine lv_iconst (v := nI 0) hx hb d_MO_layCourse_32 (by decide) ?_
        refine r_iast hc hw (h := 75) (n := 369) (i := 41 * n + i) (fun _ => rfl) (by omega) (by omega) (by decide) d_MO_layCourse_33 (fun H locs hw => ?_)
        refine lv_aload_n hx hb d_MO_layCourse_34 rfl (lv_at hl 0 rfl) ?_
        refine gf_MO_61 hc hw d_MO_layCourse_35 ?_
        refine lv_iload_n hx hb d_MO_layCourse_38 rfl (lv_at hl 3 rfl) ?_
        refine lv_iload hx hb d_MO_layCourse_39 (lv_at hl 5 rfl) ?_
        refine kRS hc hw lk_MO_160 (As := [.int (nI n), .int (nI i)]) (rest := [.ref (wad g 76)]) (c_MO_spot l D g _ (n) (i)) ⟨Nat.le_of_ble_eq_true rfl, Nat.le_of_ble_eq_true rfl⟩ ⟨Nat.le_refl _, Nat.le_refl _⟩ rfl hl rfl (Nat.le_of_ble_eq_true rfl) d_MO_layCourse_41 ?_
        refine lv_iconst (v := nI 0) hx hb d_MO_layCourse_44 (by decide) ?_
        refine r_iast hc hw (h := 76) (n := 369) (i := 41 * n + i) (fun _ => rfl) (by omega) (by omega) (by decide) d_MO_layCourse_45 (fun H locs hw => ?_)
        refine lv_iinc (v := nI (i + 1)) (lv' := [(5, .int (nI (i + 1))), (0, .ref (wad g 58)), (1, .int (nI a)), (2, .int (nI b)), (3, .int (nI n)), (4, .int (nI fine))]) hx hb d_MO_layCourse_46 hl (k := 5) rfl (nI_inc1 _) (by decide) rfl (fun ls hl => ?_)
        refine lv_goto (tgt := 3) hx hb d_MO_layCourse_49 (by decide) ?_
        exact ih_3 (i + 1) _ _ _ _ (by omega) (by omega) (fun w hw => by rcases (show w < i ∨ w = i by omega) with e | e; (rw [u2_ij2 (by omega), u2_ij2 (by omega), u2_ij2 (by omega), u2_ij2 (by omega), u2_ij2 (by omega), u2_ij2 (by omega), u2_ij2 (by omega), u2_ij2 (by omega), u2_ij2 (by omega)]; exact hz w e); (rw [e]; exact ⟨(u2_h (by decide)).trans ((u2_h (by decide)).trans (u2_same _ _ _ _)), (u2_h (by decide)).trans (u2_same _ _ _ _), u2_same _ _ _ _⟩)) (fun k z h1 h2 h3 => by rw [u2_ij2 (by omega), u2_ij2 (by omega), u2_ij2 (by omega)]; exact hF0 k z h1 h2 h3) hw (lv_sub hl [1, 2, 3, 4, 5, 0] rfl)
  exact loop_3 _ 0 _ _ _ _ (Nat.lt_succ_self _) (by omega) (fun w hw => absurd hw (Nat.not_lt_zero w)) (fun _ _ _ _ _ => rfl) hw (lv_sub hl [1, 2, 3, 4, 5, 0] rfl)
